theorem d130_0 : decode (mB 130) 0 = .ok (.iconst 0, 1) := by decide +kernel
theorem s130_0 {l0 l1 : Option Value} {st : List Value} {m : kMem} {Q : Option Value → kMem → Prop} : kJ 130 0 [l0, l1] st m Q = kJ 130 1 [l0, l1] (.int (nI 0) :: st) m Q := kJ_next d130_0 rfl
theorem d130_1 : decode (mB 130) 1 = .ok (.istore_n 1, 1) := by decide +kernel
theorem s130_1 {l0 l1 : Option Value} {st : List Value} {x : Int32} {m : kMem} {Q : Option Value → kMem → Prop} (hp : kNL l0 = true) : kJ 130 1 [l0, l1] (.int x :: st) m Q = kJ 130 2 [l0, some (.int x)] st m Q := kJ_next d130_1 (kg_sti (Nat.le_of_ble_eq_true rfl) hp)
theorem d130_2 : decode (mB 130) 2 = .ok (.iload_n 1, 1) := by decide +kernel
theorem s130_2 {l0 : Option Value} {st : List Value} {x : Int32} {m : kMem} {Q : Option Value → kMem → Prop} : kJ 130 2 [l0, some (.int x)] st m Q = kJ 130 3 [l0, some (.int x)] (.int x :: st) m Q := kJ_next d130_2 rfl
theorem d130_3 : decode (mB 130) 3 = .ok (.bipush 74, 2) := by decide +kernel
theorem s130_3 {l0 l1 : Option Value} {st : List Value} {m : kMem} {Q : Option Value → kMem → Prop} : kJ 130 3 [l0, l1] st m Q = kJ 130 5 [l0, l1] (.int (nI 74) :: st) m Q := kJ_next d130_3 rfl
theorem d130_5 : decode (mB 130) 5 = .ok (.if_icmp .ge 21, 3) := by decide +kernel
theorem s130_5 {l0 l1 : Option Value} {st : List Value} {a b : Int32} {m : kMem} {Q : Option Value → kMem → Prop} : kJ 130 5 [l0, l1] (.int b :: .int a :: st) m Q = (if b ≤ a then kJ 130 26 [l0, l1] st m Q else kJ 130 8 [l0, l1] st m Q) := kJ_if d130_5 rfl (fun h => kJ_next d130_5 h) (fun h => kJ_next d130_5 h)
theorem d130_8 : decode (mB 130) 8 = .ok (.aload_n 0, 1) := by decide +kernel
theorem s130_8 {l1 : Option Value} {st : List Value} {x : Nat} {m : kMem} {Q : Option Value → kMem → Prop} : kJ 130 8 [some (.ref x), l1] st m Q = kJ 130 9 [some (.ref x), l1] (.ref x :: st) m Q := kJ_next d130_8 rfl
theorem d130_9 : decode (mB 130) 9 = .ok (.getfield 13, 3) := by decide +kernel
theorem s130_9 {l0 l1 : Option Value} {st : List Value} {q : Nat} {mi : Nat → Nat → Int32} {ml : Nat → Nat → Int64} {mr : Nat → Nat → Option Nat} {nx : Nat} {Q : Option Value → kMem → Prop} (h : kIs nx q 5 = true) : kJ 130 9 [l0, l1] (.ref q :: st) (mi, ml, mr, nx) Q = kJ 130 12 [l0, l1] (va_rf (mr q 1) :: st) (mi, ml, mr, nx) Q := kJ_next d130_9 (kg_getr 5 1 rfl h (by decide))
theorem d130_12 : decode (mB 130) 12 = .ok (.iload_n 1, 1) := by decide +kernel
theorem s130_12 {l0 : Option Value} {st : List Value} {x : Int32} {m : kMem} {Q : Option Value → kMem → Prop} : kJ 130 12 [l0, some (.int x)] st m Q = kJ 130 13 [l0, some (.int x)] (.int x :: st) m Q := kJ_next d130_12 rfl
theorem d130_13 : decode (mB 130) 13 = .ok (.aload_n 0, 1) := by decide +kernel
theorem s130_13 {l1 : Option Value} {st : List Value} {x : Nat} {m : kMem} {Q : Option Value → kMem → Prop} : kJ 130 13 [some (.ref x), l1] st m Q = kJ 130 14 [some (.ref x), l1] (.ref x :: st) m Q := kJ_next d130_13 rfl
theorem d130_14 : decode (mB 130) 14 = .ok (.getfield 7, 3) := by decide +kernel
theorem s130_14 {l0 l1 : Option Value} {st : List Value} {q : Nat} {mi : Nat → Nat → Int32} {ml : Nat → Nat → Int64} {mr : Nat → Nat → Option Nat} {nx : Nat} {Q : Option Value → kMem → Prop} (h : kIs nx q 5 = true) : kJ 130 14 [l0, l1] (.ref q :: st) (mi, ml, mr, nx) Q = kJ 130 17 [l0, l1] (va_rf (mr q 0) :: st) (mi, ml, mr, nx) Q := kJ_next d130_14 (kg_getr 5 0 rfl h (by decide))
theorem d130_17 : decode (mB 130) 17 = .ok (.iload_n 1, 1) := by decide +kernel
theorem s130_17 {l0 : Option Value} {st : List Value} {x : Int32} {m : kMem} {Q : Option Value → kMem → Prop} : kJ 130 17 [l0, some (.int x)] st m Q = kJ 130 18 [l0, some (.int x)] (.int x :: st) m Q := kJ_next d130_17 rfl
theorem d130_18 : decode (mB 130) 18 = .ok (.iaload, 1) := by decide +kernel
theorem s130_18 {l0 l1 : Option Value} {st : List Value} {q : Nat} {i : Int32} {mi : Nat → Nat → Int32} {ml : Nat → Nat → Int64} {mr : Nat → Nat → Option Nat} {nx : Nat} {Q : Option Value → kMem → Prop} (h : kIs nx q 10 = true) : kJ 130 18 [l0, l1] (.int i :: .ref q :: st) (mi, ml, mr, nx) Q = (vp_in i (kAl q) ∧ kJ 130 19 [l0, l1] (.int (mi q i.toNatClampNeg) :: st) (mi, ml, mr, nx) Q) := kg_aldJ d130_18 rfl (kAr_of h)
theorem d130_19 : decode (mB 130) 19 = .ok (.iastore, 1) := by decide +kernel
theorem s130_19 {l0 l1 : Option Value} {st : List Value} {q : Nat} {i x : Int32} {mi : Nat → Nat → Int32} {ml : Nat → Nat → Int64} {mr : Nat → Nat → Option Nat} {nx : Nat} {Q : Option Value → kMem → Prop} (h : kIs nx q 10 = true) : kJ 130 19 [l0, l1] (.int x :: .int i :: .ref q :: st) (mi, ml, mr, nx) Q = (vp_in i (kAl q) ∧ kJ 130 20 [l0, l1] st (kup mi q i.toNatClampNeg x, ml, mr, nx) Q) := kg_astJ d130_19 rfl (kAr_of h)
theorem d130_20 : decode (mB 130) 20 = .ok (.iinc 1 1, 3) := by decide +kernel
theorem s130_20 {l0 : Option Value} {st : List Value} {x : Int32} {m : kMem} {Q : Option Value → kMem → Prop} (hp : kNL l0 = true) : kJ 130 20 [l0, some (.int x)] st m Q = kJ 130 23 [l0, some (.int (x + (nI 1)))] st m Q := kJ_next d130_20 (kg_inc rfl (Nat.le_of_ble_eq_true rfl) hp)
theorem d130_23 : decode (mB 130) 23 = .ok (.goto (-21), 3) := by decide +kernel
theorem s130_23 {l0 l1 : Option Value} {st : List Value} {m : kMem} {Q : Option Value → kMem → Prop} : kJ 130 23 [l0, l1] st m Q = kJ 130 2 [l0, l1] st m Q := kJ_next d130_23 rfl
theorem d130_26 : decode (mB 130) 26 = .ok (.aload_n 0, 1) := by decide +kernel
theorem s130_26 {l1 : Option Value} {st : List Value} {x : Nat} {m : kMem} {Q : Option Value → kMem → Prop} : kJ 130 26 [some (.ref x), l1] st m Q = kJ 130 27 [some (.ref x), l1] (.ref x :: st) m Q := kJ_next d130_26 rfl
theorem d130_27 : decode (mB 130) 27 = .ok (.iconst 0, 1) := by decide +kernel
theorem s130_27 {l0 l1 : Option Value} {st : List Value} {m : kMem} {Q : Option Value → kMem → Prop} : kJ 130 27 [l0, l1] st m Q = kJ 130 28 [l0, l1] (.int (nI 0) :: st) m Q := kJ_next d130_27 rfl
theorem d130_28 : decode (mB 130) 28 = .ok (.putfield 132, 3) := by decide +kernel
theorem s130_28 {l0 l1 : Option Value} {st : List Value} {q : Nat} {x : Int32} {mi : Nat → Nat → Int32} {ml : Nat → Nat → Int64} {mr : Nat → Nat → Option Nat} {nx : Nat} {Q : Option Value → kMem → Prop} (h : kIs nx q 5 = true) : kJ 130 28 [l0, l1] (.int x :: .ref q :: st) (mi, ml, mr, nx) Q = kJ 130 31 [l0, l1] st (kup mi q 14 x, ml, mr, nx) Q := kJ_next d130_28 (kg_puti 5 14 rfl h (by decide) (Or.inl (by decide)))
theorem d130_31 : decode (mB 130) 31 = .ok (.aload_n 0, 1) := by decide +kernel
theorem s130_31 {l1 : Option Value} {st : List Value} {x : Nat} {m : kMem} {Q : Option Value → kMem → Prop} : kJ 130 31 [some (.ref x), l1] st m Q = kJ 130 32 [some (.ref x), l1] (.ref x :: st) m Q := kJ_next d130_31 rfl
theorem d130_32 : decode (mB 130) 32 = .ok (.iconst 0, 1) := by decide +kernel
theorem s130_32 {l0 l1 : Option Value} {st : List Value} {m : kMem} {Q : Option Value → kMem → Prop} : kJ 130 32 [l0, l1] st m Q = kJ 130 33 [l0, l1] (.int (nI 0) :: st) m Q := kJ_next d130_32 rfl
theorem d130_33 : decode (mB 130) 33 = .ok (.putfield 135, 3) := by decide +kernel
theorem s130_33 {l0 l1 : Option Value} {st : List Value} {q : Nat} {x : Int32} {mi : Nat → Nat → Int32} {ml : Nat → Nat → Int64} {mr : Nat → Nat → Option Nat} {nx : Nat} {Q : Option Value → kMem → Prop} (h : kIs nx q 5 = true) : kJ 130 33 [l0, l1] (.int x :: .ref q :: st) (mi, ml, mr, nx) Q = kJ 130 36 [l0, l1] st (kup mi q 15 x, ml, mr, nx) Q := kJ_next d130_33 (kg_puti 5 15 rfl h (by decide) (Or.inl (by decide)))
theorem d130_36 : decode (mB 130) 36 = .ok (.return_, 1) := by decide +kernel
theorem s130_36 {l0 l1 : Option Value} {m : kMem} {Q : Option Value → kMem → Prop} : kJ 130 36 [l0, l1] [] m Q = Q none m := kJ_ret d130_36 rfl
theorem d131_0 : decode (mB 131) 0 = .ok (.iconst 0, 1) := by decide +kernel
theorem s131_0 {l0 l1 : Option Value} {st : List Value} {m : kMem} {Q : Option Value → kMem → Prop} : kJ 131 0 [l0, l1] st m Q = kJ 131 1 [l0, l1] (.int (nI 0) :: st) m Q := kJ_next d131_0 rfl
theorem d131_1 : decode (mB 131) 1 = .ok (.istore_n 1, 1) := by decide +kernel
theorem s131_1 {l0 l1 : Option Value} {st : List Value} {x : Int32} {m : kMem} {Q : Option Value → kMem → Prop} (hp : kNL l0 = true) : kJ 131 1 [l0, l1] (.int x :: st) m Q = kJ 131 2 [l0, some (.int x)] st m Q := kJ_next d131_1 (kg_sti (Nat.le_of_ble_eq_true rfl) hp)
theorem d131_2 : decode (mB 131) 2 = .ok (.iload_n 1, 1) := by decide +kernel
theorem s131_2 {l0 : Option Value} {st : List Value} {x : Int32} {m : kMem} {Q : Option Value → kMem → Prop} : kJ 131 2 [l0, some (.int x)] st m Q = kJ 131 3 [l0, some (.int x)] (.int x :: st) m Q := kJ_next d131_2 rfl
theorem d131_3 : decode (mB 131) 3 = .ok (.bipush 74, 2) := by decide +kernel
theorem s131_3 {l0 l1 : Option Value} {st : List Value} {m : kMem} {Q : Option Value → kMem → Prop} : kJ 131 3 [l0, l1] st m Q = kJ 131 5 [l0, l1] (.int (nI 74) :: st) m Q := kJ_next d131_3 rfl
theorem d131_5 : decode (mB 131) 5 = .ok (.if_icmp .ge 21, 3) := by decide +kernel
theorem s131_5 {l0 l1 : Option Value} {st : List Value} {a b : Int32} {m : kMem} {Q : Option Value → kMem → Prop} : kJ 131 5 [l0, l1] (.int b :: .int a :: st) m Q = (if b ≤ a then kJ 131 26 [l0, l1] st m Q else kJ 131 8 [l0, l1] st m Q) := kJ_if d131_5 rfl (fun h => kJ_next d131_5 h) (fun h => kJ_next d131_5 h)
theorem d131_8 : decode (mB 131) 8 = .ok (.aload_n 0, 1) := by decide +kernel
theorem s131_8 {l1 : Option Value} {st : List Value} {x : Nat} {m : kMem} {Q : Option Value → kMem → Prop} : kJ 131 8 [some (.ref x), l1] st m Q = kJ 131 9 [some (.ref x), l1] (.ref x :: st) m Q := kJ_next d131_8 rfl
theorem d131_9 : decode (mB 131) 9 = .ok (.getfield 7, 3) := by decide +kernel
theorem s131_9 {l0 l1 : Option Value} {st : List Value} {q : Nat} {mi : Nat → Nat → Int32} {ml : Nat → Nat → Int64} {mr : Nat → Nat → Option Nat} {nx : Nat} {Q : Option Value → kMem → Prop} (h : kIs nx q 5 = true) : kJ 131 9 [l0, l1] (.ref q :: st) (mi, ml, mr, nx) Q = kJ 131 12 [l0, l1] (va_rf (mr q 0) :: st) (mi, ml, mr, nx) Q := kJ_next d131_9 (kg_getr 5 0 rfl h (by decide))
theorem d131_12 : decode (mB 131) 12 = .ok (.iload_n 1, 1) := by decide +kernel
theorem s131_12 {l0 : Option Value} {st : List Value} {x : Int32} {m : kMem} {Q : Option Value → kMem → Prop} : kJ 131 12 [l0, some (.int x)] st m Q = kJ 131 13 [l0, some (.int x)] (.int x :: st) m Q := kJ_next d131_12 rfl
theorem d131_13 : decode (mB 131) 13 = .ok (.aload_n 0, 1) := by decide +kernel
theorem s131_13 {l1 : Option Value} {st : List Value} {x : Nat} {m : kMem} {Q : Option Value → kMem → Prop} : kJ 131 13 [some (.ref x), l1] st m Q = kJ 131 14 [some (.ref x), l1] (.ref x :: st) m Q := kJ_next d131_13 rfl
theorem d131_14 : decode (mB 131) 14 = .ok (.getfield 13, 3) := by decide +kernel
theorem s131_14 {l0 l1 : Option Value} {st : List Value} {q : Nat} {mi : Nat → Nat → Int32} {ml : Nat → Nat → Int64} {mr : Nat → Nat → Option Nat} {nx : Nat} {Q : Option Value → kMem → Prop} (h : kIs nx q 5 = true) : kJ 131 14 [l0, l1] (.ref q :: st) (mi, ml, mr, nx) Q = kJ 131 17 [l0, l1] (va_rf (mr q 1) :: st) (mi, ml, mr, nx) Q := kJ_next d131_14 (kg_getr 5 1 rfl h (by decide))
theorem d131_17 : decode (mB 131) 17 = .ok (.iload_n 1, 1) := by decide +kernel
theorem s131_17 {l0 : Option Value} {st : List Value} {x : Int32} {m : kMem} {Q : Option Value → kMem → Prop} : kJ 131 17 [l0, some (.int x)] st m Q = kJ 131 18 [l0, some (.int x)] (.int x :: st) m Q := kJ_next d131_17 rfl
theorem d131_18 : decode (mB 131) 18 = .ok (.iaload, 1) := by decide +kernel
theorem s131_18 {l0 l1 : Option Value} {st : List Value} {q : Nat} {i : Int32} {mi : Nat → Nat → Int32} {ml : Nat → Nat → Int64} {mr : Nat → Nat → Option Nat} {nx : Nat} {Q : Option Value → kMem → Prop} (h : kIs nx q 10 = true) : kJ 131 18 [l0, l1] (.int i :: .ref q :: st) (mi, ml, mr, nx) Q = (vp_in i (kAl q) ∧ kJ 131 19 [l0, l1] (.int (mi q i.toNatClampNeg) :: st) (mi, ml, mr, nx) Q) := kg_aldJ d131_18 rfl (kAr_of h)
theorem d131_19 : decode (mB 131) 19 = .ok (.iastore, 1) := by decide +kernel
theorem s131_19 {l0 l1 : Option Value} {st : List Value} {q : Nat} {i x : Int32} {mi : Nat → Nat → Int32} {ml : Nat → Nat → Int64} {mr : Nat → Nat → Option Nat} {nx : Nat} {Q : Option Value → kMem → Prop} (h : kIs nx q 10 = true) : kJ 131 19 [l0, l1] (.int x :: .int i :: .ref q :: st) (mi, ml, mr, nx) Q = (vp_in i (kAl q) ∧ kJ 131 20 [l0, l1] st (kup mi q i.toNatClampNeg x, ml, mr, nx) Q) := kg_astJ d131_19 rfl (kAr_of h)
theorem d131_20 : decode (mB 131) 20 = .ok (.iinc 1 1, 3) := by decide +kernel
theorem s131_20 {l0 : Option Value} {st : List Value} {x : Int32} {m : kMem} {Q : Option Value → kMem → Prop} (hp : kNL l0 = true) : kJ 131 20 [l0, some (.int x)] st m Q = kJ 131 23 [l0, some (.int (x + (nI 1)))] st m Q := kJ_next d131_20 (kg_inc rfl (Nat.le_of_ble_eq_true rfl) hp)
theorem d131_23 : decode (mB 131) 23 = .ok (.goto (-21), 3) := by decide +kernel
theorem s131_23 {l0 l1 : Option Value} {st : List Value} {m : kMem} {Q : Option Value → kMem → Prop} : kJ 131 23 [l0, l1] st m Q = kJ 131 2 [l0, l1] st m Q := kJ_next d131_23 rfl
theorem d131_26 : decode (mB 131) 26 = .ok (.return_, 1) := by decide +kernel
theorem s131_26 {l0 l1 : Option Value} {m : kMem} {Q : Option Value → kMem → Prop} : kJ 131 26 [l0, l1] [] m Q = Q none m := kJ_ret d131_26 rfl
theorem d132_0 : decode (mB 132) 0 = .ok (.aload_n 0, 1) := by decide +kernel
theorem s132_0 {l1 l2 : Option Value} {st : List Value} {x : Nat} {m : kMem} {Q : Option Value → kMem → Prop} : kJ 132 0 [some (.ref x), l1, l2] st m Q = kJ 132 1 [some (.ref x), l1, l2] (.ref x :: st) m Q := kJ_next d132_0 rfl
theorem d132_1 : decode (mB 132) 1 = .ok (.getfield 13, 3) := by decide +kernel
theorem s132_1 {l0 l1 l2 : Option Value} {st : List Value} {q : Nat} {mi : Nat → Nat → Int32} {ml : Nat → Nat → Int64} {mr : Nat → Nat → Option Nat} {nx : Nat} {Q : Option Value → kMem → Prop} (h : kIs nx q 5 = true) : kJ 132 1 [l0, l1, l2] (.ref q :: st) (mi, ml, mr, nx) Q = kJ 132 4 [l0, l1, l2] (va_rf (mr q 1) :: st) (mi, ml, mr, nx) Q := kJ_next d132_1 (kg_getr 5 1 rfl h (by decide))
theorem d132_4 : decode (mB 132) 4 = .ok (.iconst 3, 1) := by decide +kernel
theorem s132_4 {l0 l1 l2 : Option Value} {st : List Value} {m : kMem} {Q : Option Value → kMem → Prop} : kJ 132 4 [l0, l1, l2] st m Q = kJ 132 5 [l0, l1, l2] (.int (nI 3) :: st) m Q := kJ_next d132_4 rfl
theorem d132_5 : decode (mB 132) 5 = .ok (.iload_n 1, 1) := by decide +kernel
theorem s132_5 {l0 l2 : Option Value} {st : List Value} {x : Int32} {m : kMem} {Q : Option Value → kMem → Prop} : kJ 132 5 [l0, some (.int x), l2] st m Q = kJ 132 6 [l0, some (.int x), l2] (.int x :: st) m Q := kJ_next d132_5 rfl
theorem d132_6 : decode (mB 132) 6 = .ok (.imul, 1) := by decide +kernel
theorem s132_6 {l0 l1 l2 : Option Value} {st : List Value} {a b : Int32} {m : kMem} {Q : Option Value → kMem → Prop} : kJ 132 6 [l0, l1, l2] (.int b :: .int a :: st) m Q = kJ 132 7 [l0, l1, l2] (.int (a * b) :: st) m Q := kJ_next d132_6 rfl
theorem d132_7 : decode (mB 132) 7 = .ok (.iload_n 2, 1) := by decide +kernel
theorem s132_7 {l0 l1 : Option Value} {st : List Value} {x : Int32} {m : kMem} {Q : Option Value → kMem → Prop} : kJ 132 7 [l0, l1, some (.int x)] st m Q = kJ 132 8 [l0, l1, some (.int x)] (.int x :: st) m Q := kJ_next d132_7 rfl
theorem d132_8 : decode (mB 132) 8 = .ok (.iadd, 1) := by decide +kernel
theorem s132_8 {l0 l1 l2 : Option Value} {st : List Value} {a b : Int32} {m : kMem} {Q : Option Value → kMem → Prop} : kJ 132 8 [l0, l1, l2] (.int b :: .int a :: st) m Q = kJ 132 9 [l0, l1, l2] (.int (a + b) :: st) m Q := kJ_next d132_8 rfl
theorem d132_9 : decode (mB 132) 9 = .ok (.iaload, 1) := by decide +kernel
theorem s132_9 {l0 l1 l2 : Option Value} {st : List Value} {q : Nat} {i : Int32} {mi : Nat → Nat → Int32} {ml : Nat → Nat → Int64} {mr : Nat → Nat → Option Nat} {nx : Nat} {Q : Option Value → kMem → Prop} (h : kIs nx q 10 = true) : kJ 132 9 [l0, l1, l2] (.int i :: .ref q :: st) (mi, ml, mr, nx) Q = (vp_in i (kAl q) ∧ kJ 132 10 [l0, l1, l2] (.int (mi q i.toNatClampNeg) :: st) (mi, ml, mr, nx) Q) := kg_aldJ d132_9 rfl (kAr_of h)
theorem d132_10 : decode (mB 132) 10 = .ok (.ireturn, 1) := by decide +kernel
theorem s132_10 {l0 l1 l2 : Option Value} {x : Int32} {m : kMem} {Q : Option Value → kMem → Prop} : kJ 132 10 [l0, l1, l2] [.int x] m Q = Q (some (.int x)) m := kJ_ret d132_10 rfl
theorem d133_0 : decode (mB 133) 0 = .ok (.aload_n 0, 1) := by decide +kernel
theorem s133_0 {l1 l2 l3 : Option Value} {st : List Value} {x : Nat} {m : kMem} {Q : Option Value → kMem → Prop} : kJ 133 0 [some (.ref x), l1, l2, l3] st m Q = kJ 133 1 [some (.ref x), l1, l2, l3] (.ref x :: st) m Q := kJ_next d133_0 rfl
theorem d133_1 : decode (mB 133) 1 = .ok (.getfield 13, 3) := by decide +kernel
theorem s133_1 {l0 l1 l2 l3 : Option Value} {st : List Value} {q : Nat} {mi : Nat → Nat → Int32} {ml : Nat → Nat → Int64} {mr : Nat → Nat → Option Nat} {nx : Nat} {Q : Option Value → kMem → Prop} (h : kIs nx q 5 = true) : kJ 133 1 [l0, l1, l2, l3] (.ref q :: st) (mi, ml, mr, nx) Q = kJ 133 4 [l0, l1, l2, l3] (va_rf (mr q 1) :: st) (mi, ml, mr, nx) Q := kJ_next d133_1 (kg_getr 5 1 rfl h (by decide))
theorem d133_4 : decode (mB 133) 4 = .ok (.iconst 3, 1) := by decide +kernel
theorem s133_4 {l0 l1 l2 l3 : Option Value} {st : List Value} {m : kMem} {Q : Option Value → kMem → Prop} : kJ 133 4 [l0, l1, l2, l3] st m Q = kJ 133 5 [l0, l1, l2, l3] (.int (nI 3) :: st) m Q := kJ_next d133_4 rfl
theorem d133_5 : decode (mB 133) 5 = .ok (.iload_n 1, 1) := by decide +kernel
theorem s133_5 {l0 l2 l3 : Option Value} {st : List Value} {x : Int32} {m : kMem} {Q : Option Value → kMem → Prop} : kJ 133 5 [l0, some (.int x), l2, l3] st m Q = kJ 133 6 [l0, some (.int x), l2, l3] (.int x :: st) m Q := kJ_next d133_5 rfl
theorem d133_6 : decode (mB 133) 6 = .ok (.imul, 1) := by decide +kernel
theorem s133_6 {l0 l1 l2 l3 : Option Value} {st : List Value} {a b : Int32} {m : kMem} {Q : Option Value → kMem → Prop} : kJ 133 6 [l0, l1, l2, l3] (.int b :: .int a :: st) m Q = kJ 133 7 [l0, l1, l2, l3] (.int (a * b) :: st) m Q := kJ_next d133_6 rfl
theorem d133_7 : decode (mB 133) 7 = .ok (.iload_n 2, 1) := by decide +kernel
theorem s133_7 {l0 l1 l3 : Option Value} {st : List Value} {x : Int32} {m : kMem} {Q : Option Value → kMem → Prop} : kJ 133 7 [l0, l1, some (.int x), l3] st m Q = kJ 133 8 [l0, l1, some (.int x), l3] (.int x :: st) m Q := kJ_next d133_7 rfl
theorem d133_8 : decode (mB 133) 8 = .ok (.iadd, 1) := by decide +kernel
theorem s133_8 {l0 l1 l2 l3 : Option Value} {st : List Value} {a b : Int32} {m : kMem} {Q : Option Value → kMem → Prop} : kJ 133 8 [l0, l1, l2, l3] (.int b :: .int a :: st) m Q = kJ 133 9 [l0, l1, l2, l3] (.int (a + b) :: st) m Q := kJ_next d133_8 rfl
theorem d133_9 : decode (mB 133) 9 = .ok (.iload_n 3, 1) := by decide +kernel
theorem s133_9 {l0 l1 l2 : Option Value} {st : List Value} {x : Int32} {m : kMem} {Q : Option Value → kMem → Prop} : kJ 133 9 [l0, l1, l2, some (.int x)] st m Q = kJ 133 10 [l0, l1, l2, some (.int x)] (.int x :: st) m Q := kJ_next d133_9 rfl
theorem d133_10 : decode (mB 133) 10 = .ok (.iastore, 1) := by decide +kernel
theorem s133_10 {l0 l1 l2 l3 : Option Value} {st : List Value} {q : Nat} {i x : Int32} {mi : Nat → Nat → Int32} {ml : Nat → Nat → Int64} {mr : Nat → Nat → Option Nat} {nx : Nat} {Q : Option Value → kMem → Prop} (h : kIs nx q 10 = true) : kJ 133 10 [l0, l1, l2, l3] (.int x :: .int i :: .ref q :: st) (mi, ml, mr, nx) Q = (vp_in i (kAl q) ∧ kJ 133 11 [l0, l1, l2, l3] st (kup mi q i.toNatClampNeg x, ml, mr, nx) Q) := kg_astJ d133_10 rfl (kAr_of h)
theorem d133_11 : decode (mB 133) 11 = .ok (.return_, 1) := by decide +kernel
theorem s133_11 {l0 l1 l2 l3 : Option Value} {m : kMem} {Q : Option Value → kMem → Prop} : kJ 133 11 [l0, l1, l2, l3] [] m Q = Q none m := kJ_ret d133_11 rfl
theorem d134_0 : decode (mB 134) 0 = .ok (.aload_n 0, 1) := by decide +kernel
theorem s134_0 {l1 l2 : Option Value} {st : List Value} {x : Nat} {m : kMem} {Q : Option Value → kMem → Prop} : kJ 134 0 [some (.ref x), l1, l2] st m Q = kJ 134 1 [some (.ref x), l1, l2] (.ref x :: st) m Q := kJ_next d134_0 rfl
theorem d134_1 : decode (mB 134) 1 = .ok (.getfield 13, 3) := by decide +kernel
theorem s134_1 {l0 l1 l2 : Option Value} {st : List Value} {q : Nat} {mi : Nat → Nat → Int32} {ml : Nat → Nat → Int64} {mr : Nat → Nat → Option Nat} {nx : Nat} {Q : Option Value → kMem → Prop} (h : kIs nx q 5 = true) : kJ 134 1 [l0, l1, l2] (.ref q :: st) (mi, ml, mr, nx) Q = kJ 134 4 [l0, l1, l2] (va_rf (mr q 1) :: st) (mi, ml, mr, nx) Q := kJ_next d134_1 (kg_getr 5 1 rfl h (by decide))
theorem d134_4 : decode (mB 134) 4 = .ok (.bipush 16, 2) := by decide +kernel
theorem s134_4 {l0 l1 l2 : Option Value} {st : List Value} {m : kMem} {Q : Option Value → kMem → Prop} : kJ 134 4 [l0, l1, l2] st m Q = kJ 134 6 [l0, l1, l2] (.int (nI 16) :: st) m Q := kJ_next d134_4 rfl
theorem d134_6 : decode (mB 134) 6 = .ok (.bipush 6, 2) := by decide +kernel
theorem s134_6 {l0 l1 l2 : Option Value} {st : List Value} {m : kMem} {Q : Option Value → kMem → Prop} : kJ 134 6 [l0, l1, l2] st m Q = kJ 134 8 [l0, l1, l2] (.int (nI 6) :: st) m Q := kJ_next d134_6 rfl
theorem d134_8 : decode (mB 134) 8 = .ok (.iload_n 1, 1) := by decide +kernel
theorem s134_8 {l0 l2 : Option Value} {st : List Value} {x : Int32} {m : kMem} {Q : Option Value → kMem → Prop} : kJ 134 8 [l0, some (.int x), l2] st m Q = kJ 134 9 [l0, some (.int x), l2] (.int x :: st) m Q := kJ_next d134_8 rfl
theorem d134_9 : decode (mB 134) 9 = .ok (.imul, 1) := by decide +kernel
theorem s134_9 {l0 l1 l2 : Option Value} {st : List Value} {a b : Int32} {m : kMem} {Q : Option Value → kMem → Prop} : kJ 134 9 [l0, l1, l2] (.int b :: .int a :: st) m Q = kJ 134 10 [l0, l1, l2] (.int (a * b) :: st) m Q := kJ_next d134_9 rfl
theorem d134_10 : decode (mB 134) 10 = .ok (.iadd, 1) := by decide +kernel
theorem s134_10 {l0 l1 l2 : Option Value} {st : List Value} {a b : Int32} {m : kMem} {Q : Option Value → kMem → Prop} : kJ 134 10 [l0, l1, l2] (.int b :: .int a :: st) m Q = kJ 134 11 [l0, l1, l2] (.int (a + b) :: st) m Q := kJ_next d134_10 rfl
theorem d134_11 : decode (mB 134) 11 = .ok (.iload_n 2, 1) := by decide +kernel
theorem s134_11 {l0 l1 : Option Value} {st : List Value} {x : Int32} {m : kMem} {Q : Option Value → kMem → Prop} : kJ 134 11 [l0, l1, some (.int x)] st m Q = kJ 134 12 [l0, l1, some (.int x)] (.int x :: st) m Q := kJ_next d134_11 rfl
theorem d134_12 : decode (mB 134) 12 = .ok (.iadd, 1) := by decide +kernel
theorem s134_12 {l0 l1 l2 : Option Value} {st : List Value} {a b : Int32} {m : kMem} {Q : Option Value → kMem → Prop} : kJ 134 12 [l0, l1, l2] (.int b :: .int a :: st) m Q = kJ 134 13 [l0, l1, l2] (.int (a + b) :: st) m Q := kJ_next d134_12 rfl
theorem d134_13 : decode (mB 134) 13 = .ok (.iaload, 1) := by decide +kernel
theorem s134_13 {l0 l1 l2 : Option Value} {st : List Value} {q : Nat} {i : Int32} {mi : Nat → Nat → Int32} {ml : Nat → Nat → Int64} {mr : Nat → Nat → Option Nat} {nx : Nat} {Q : Option Value → kMem → Prop} (h : kIs nx q 10 = true) : kJ 134 13 [l0, l1, l2] (.int i :: .ref q :: st) (mi, ml, mr, nx) Q = (vp_in i (kAl q) ∧ kJ 134 14 [l0, l1, l2] (.int (mi q i.toNatClampNeg) :: st) (mi, ml, mr, nx) Q) := kg_aldJ d134_13 rfl (kAr_of h)
theorem d134_14 : decode (mB 134) 14 = .ok (.ireturn, 1) := by decide +kernel
theorem s134_14 {l0 l1 l2 : Option Value} {x : Int32} {m : kMem} {Q : Option Value → kMem → Prop} : kJ 134 14 [l0, l1, l2] [.int x] m Q = Q (some (.int x)) m := kJ_ret d134_14 rfl
theorem d135_0 : decode (mB 135) 0 = .ok (.aload_n 0, 1) := by decide +kernel
theorem s135_0 {l1 l2 l3 : Option Value} {st : List Value} {x : Nat} {m : kMem} {Q : Option Value → kMem → Prop} : kJ 135 0 [some (.ref x), l1, l2, l3] st m Q = kJ 135 1 [some (.ref x), l1, l2, l3] (.ref x :: st) m Q := kJ_next d135_0 rfl
theorem d135_1 : decode (mB 135) 1 = .ok (.getfield 13, 3) := by decide +kernel
theorem s135_1 {l0 l1 l2 l3 : Option Value} {st : List Value} {q : Nat} {mi : Nat → Nat → Int32} {ml : Nat → Nat → Int64} {mr : Nat → Nat → Option Nat} {nx : Nat} {Q : Option Value → kMem → Prop} (h : kIs nx q 5 = true) : kJ 135 1 [l0, l1, l2, l3] (.ref q :: st) (mi, ml, mr, nx) Q = kJ 135 4 [l0, l1, l2, l3] (va_rf (mr q 1) :: st) (mi, ml, mr, nx) Q := kJ_next d135_1 (kg_getr 5 1 rfl h (by decide))
theorem d135_4 : decode (mB 135) 4 = .ok (.bipush 16, 2) := by decide +kernel
theorem s135_4 {l0 l1 l2 l3 : Option Value} {st : List Value} {m : kMem} {Q : Option Value → kMem → Prop} : kJ 135 4 [l0, l1, l2, l3] st m Q = kJ 135 6 [l0, l1, l2, l3] (.int (nI 16) :: st) m Q := kJ_next d135_4 rfl
theorem d135_6 : decode (mB 135) 6 = .ok (.bipush 6, 2) := by decide +kernel
theorem s135_6 {l0 l1 l2 l3 : Option Value} {st : List Value} {m : kMem} {Q : Option Value → kMem → Prop} : kJ 135 6 [l0, l1, l2, l3] st m Q = kJ 135 8 [l0, l1, l2, l3] (.int (nI 6) :: st) m Q := kJ_next d135_6 rfl
theorem d135_8 : decode (mB 135) 8 = .ok (.iload_n 1, 1) := by decide +kernel
theorem s135_8 {l0 l2 l3 : Option Value} {st : List Value} {x : Int32} {m : kMem} {Q : Option Value → kMem → Prop} : kJ 135 8 [l0, some (.int x), l2, l3] st m Q = kJ 135 9 [l0, some (.int x), l2, l3] (.int x :: st) m Q := kJ_next d135_8 rfl
theorem d135_9 : decode (mB 135) 9 = .ok (.imul, 1) := by decide +kernel
theorem s135_9 {l0 l1 l2 l3 : Option Value} {st : List Value} {a b : Int32} {m : kMem} {Q : Option Value → kMem → Prop} : kJ 135 9 [l0, l1, l2, l3] (.int b :: .int a :: st) m Q = kJ 135 10 [l0, l1, l2, l3] (.int (a * b) :: st) m Q := kJ_next d135_9 rfl
theorem d135_10 : decode (mB 135) 10 = .ok (.iadd, 1) := by decide +kernel
theorem s135_10 {l0 l1 l2 l3 : Option Value} {st : List Value} {a b : Int32} {m : kMem} {Q : Option Value → kMem → Prop} : kJ 135 10 [l0, l1, l2, l3] (.int b :: .int a :: st) m Q = kJ 135 11 [l0, l1, l2, l3] (.int (a + b) :: st) m Q := kJ_next d135_10 rfl
theorem d135_11 : decode (mB 135) 11 = .ok (.iload_n 2, 1) := by decide +kernel
theorem s135_11 {l0 l1 l3 : Option Value} {st : List Value} {x : Int32} {m : kMem} {Q : Option Value → kMem → Prop} : kJ 135 11 [l0, l1, some (.int x), l3] st m Q = kJ 135 12 [l0, l1, some (.int x), l3] (.int x :: st) m Q := kJ_next d135_11 rfl
theorem d135_12 : decode (mB 135) 12 = .ok (.iadd, 1) := by decide +kernel
theorem s135_12 {l0 l1 l2 l3 : Option Value} {st : List Value} {a b : Int32} {m : kMem} {Q : Option Value → kMem → Prop} : kJ 135 12 [l0, l1, l2, l3] (.int b :: .int a :: st) m Q = kJ 135 13 [l0, l1, l2, l3] (.int (a + b) :: st) m Q := kJ_next d135_12 rfl
theorem d135_13 : decode (mB 135) 13 = .ok (.iload_n 3, 1) := by decide +kernel
theorem s135_13 {l0 l1 l2 : Option Value} {st : List Value} {x : Int32} {m : kMem} {Q : Option Value → kMem → Prop} : kJ 135 13 [l0, l1, l2, some (.int x)] st m Q = kJ 135 14 [l0, l1, l2, some (.int x)] (.int x :: st) m Q := kJ_next d135_13 rfl
theorem d135_14 : decode (mB 135) 14 = .ok (.iastore, 1) := by decide +kernel
theorem s135_14 {l0 l1 l2 l3 : Option Value} {st : List Value} {q : Nat} {i x : Int32} {mi : Nat → Nat → Int32} {ml : Nat → Nat → Int64} {mr : Nat → Nat → Option Nat} {nx : Nat} {Q : Option Value → kMem → Prop} (h : kIs nx q 10 = true) : kJ 135 14 [l0, l1, l2, l3] (.int x :: .int i :: .ref q :: st) (mi, ml, mr, nx) Q = (vp_in i (kAl q) ∧ kJ 135 15 [l0, l1, l2, l3] st (kup mi q i.toNatClampNeg x, ml, mr, nx) Q) := kg_astJ d135_14 rfl (kAr_of h)
theorem d135_15 : decode (mB 135) 15 = .ok (.return_, 1) := by decide +kernel
theorem s135_15 {l0 l1 l2 l3 : Option Value} {m : kMem} {Q : Option Value → kMem → Prop} : kJ 135 15 [l0, l1, l2, l3] [] m Q = Q none m := kJ_ret d135_15 rfl
theorem d136_0 : decode (mB 136) 0 = .ok (.iload_n 1, 1) := by decide +kernel
theorem s136_0 {l0 l2 l3 : Option Value} {st : List Value} {x : Int32} {m : kMem} {Q : Option Value → kMem → Prop} : kJ 136 0 [l0, some (.int x), l2, l3] st m Q = kJ 136 1 [l0, some (.int x), l2, l3] (.int x :: st) m Q := kJ_next d136_0 rfl
theorem d136_1 : decode (mB 136) 1 = .ok (.bipush 9, 2) := by decide +kernel
theorem s136_1 {l0 l1 l2 l3 : Option Value} {st : List Value} {m : kMem} {Q : Option Value → kMem → Prop} : kJ 136 1 [l0, l1, l2, l3] st m Q = kJ 136 3 [l0, l1, l2, l3] (.int (nI 9) :: st) m Q := kJ_next d136_1 rfl
theorem d136_3 : decode (mB 136) 3 = .ok (.isub, 1) := by decide +kernel
theorem s136_3 {l0 l1 l2 l3 : Option Value} {st : List Value} {a b : Int32} {m : kMem} {Q : Option Value → kMem → Prop} : kJ 136 3 [l0, l1, l2, l3] (.int b :: .int a :: st) m Q = kJ 136 4 [l0, l1, l2, l3] (.int (a - b) :: st) m Q := kJ_next d136_3 rfl
theorem d136_4 : decode (mB 136) 4 = .ok (.istore_n 2, 1) := by decide +kernel
theorem s136_4 {l0 l1 l2 l3 : Option Value} {st : List Value} {x : Int32} {m : kMem} {Q : Option Value → kMem → Prop} (hp : kNL l1 = true) : kJ 136 4 [l0, l1, l2, l3] (.int x :: st) m Q = kJ 136 5 [l0, l1, some (.int x), l3] st m Q := kJ_next d136_4 (kg_sti (Nat.le_of_ble_eq_true rfl) hp)
theorem d136_5 : decode (mB 136) 5 = .ok (.iload_n 2, 1) := by decide +kernel
theorem s136_5 {l0 l1 l3 : Option Value} {st : List Value} {x : Int32} {m : kMem} {Q : Option Value → kMem → Prop} : kJ 136 5 [l0, l1, some (.int x), l3] st m Q = kJ 136 6 [l0, l1, some (.int x), l3] (.int x :: st) m Q := kJ_next d136_5 rfl
theorem d136_6 : decode (mB 136) 6 = .ok (.ifCond .ge 9, 3) := by decide +kernel
theorem s136_6 {l0 l1 l2 l3 : Option Value} {st : List Value} {a : Int32} {m : kMem} {Q : Option Value → kMem → Prop} : kJ 136 6 [l0, l1, l2, l3] (.int a :: st) m Q = (if 0 ≤ a then kJ 136 15 [l0, l1, l2, l3] st m Q else kJ 136 9 [l0, l1, l2, l3] st m Q) := kJ_if d136_6 rfl (fun h => kJ_next d136_6 h) (fun h => kJ_next d136_6 h)
theorem d136_9 : decode (mB 136) 9 = .ok (.iload_n 2, 1) := by decide +kernel
theorem s136_9 {l0 l1 l3 : Option Value} {st : List Value} {x : Int32} {m : kMem} {Q : Option Value → kMem → Prop} : kJ 136 9 [l0, l1, some (.int x), l3] st m Q = kJ 136 10 [l0, l1, some (.int x), l3] (.int x :: st) m Q := kJ_next d136_9 rfl
theorem d136_10 : decode (mB 136) 10 = .ok (.iconst 2, 1) := by decide +kernel
theorem s136_10 {l0 l1 l2 l3 : Option Value} {st : List Value} {m : kMem} {Q : Option Value → kMem → Prop} : kJ 136 10 [l0, l1, l2, l3] st m Q = kJ 136 11 [l0, l1, l2, l3] (.int (nI 2) :: st) m Q := kJ_next d136_10 rfl
theorem d136_11 : decode (mB 136) 11 = .ok (.idiv, 1) := by decide +kernel
theorem s136_11 {l0 l1 l2 l3 : Option Value} {st : List Value} {a b : Int32} {m : kMem} {Q : Option Value → kMem → Prop} (hb : ¬ b = 0) : kJ 136 11 [l0, l1, l2, l3] (.int b :: .int a :: st) m Q = kJ 136 12 [l0, l1, l2, l3] (.int (a / b) :: st) m Q := kJ_next d136_11 (kg_idiv hb)
theorem d136_12 : decode (mB 136) 12 = .ok (.goto 4, 3) := by decide +kernel
theorem s136_12 {l0 l1 l2 l3 : Option Value} {st : List Value} {m : kMem} {Q : Option Value → kMem → Prop} : kJ 136 12 [l0, l1, l2, l3] st m Q = kJ 136 16 [l0, l1, l2, l3] st m Q := kJ_next d136_12 rfl
theorem d136_15 : decode (mB 136) 15 = .ok (.iload_n 2, 1) := by decide +kernel
theorem s136_15 {l0 l1 l3 : Option Value} {st : List Value} {x : Int32} {m : kMem} {Q : Option Value → kMem → Prop} : kJ 136 15 [l0, l1, some (.int x), l3] st m Q = kJ 136 16 [l0, l1, some (.int x), l3] (.int x :: st) m Q := kJ_next d136_15 rfl
theorem d136_16 : decode (mB 136) 16 = .ok (.istore_n 3, 1) := by decide +kernel
theorem s136_16 {l0 l1 l2 l3 : Option Value} {st : List Value} {x : Int32} {m : kMem} {Q : Option Value → kMem → Prop} (hp : kNL l2 = true) : kJ 136 16 [l0, l1, l2, l3] (.int x :: st) m Q = kJ 136 17 [l0, l1, l2, some (.int x)] st m Q := kJ_next d136_16 (kg_sti (Nat.le_of_ble_eq_true rfl) hp)
theorem d136_17 : decode (mB 136) 17 = .ok (.iload_n 0, 1) := by decide +kernel
theorem s136_17 {l1 l2 l3 : Option Value} {st : List Value} {x : Int32} {m : kMem} {Q : Option Value → kMem → Prop} : kJ 136 17 [some (.int x), l1, l2, l3] st m Q = kJ 136 18 [some (.int x), l1, l2, l3] (.int x :: st) m Q := kJ_next d136_17 rfl
theorem d136_18 : decode (mB 136) 18 = .ok (.iconst 1, 1) := by decide +kernel
theorem s136_18 {l0 l1 l2 l3 : Option Value} {st : List Value} {m : kMem} {Q : Option Value → kMem → Prop} : kJ 136 18 [l0, l1, l2, l3] st m Q = kJ 136 19 [l0, l1, l2, l3] (.int (nI 1) :: st) m Q := kJ_next d136_18 rfl
theorem d136_19 : decode (mB 136) 19 = .ok (.if_icmp .ne 9, 3) := by decide +kernel
theorem s136_19 {l0 l1 l2 l3 : Option Value} {st : List Value} {a b : Int32} {m : kMem} {Q : Option Value → kMem → Prop} : kJ 136 19 [l0, l1, l2, l3] (.int b :: .int a :: st) m Q = (if a = b then kJ 136 22 [l0, l1, l2, l3] st m Q else kJ 136 28 [l0, l1, l2, l3] st m Q) := kJ_if d136_19 rfl (fun h => kJ_next d136_19 h) (fun h => kJ_next d136_19 h)
theorem d136_22 : decode (mB 136) 22 = .ok (.iconst 2, 1) := by decide +kernel
theorem s136_22 {l0 l1 l2 l3 : Option Value} {st : List Value} {m : kMem} {Q : Option Value → kMem → Prop} : kJ 136 22 [l0, l1, l2, l3] st m Q = kJ 136 23 [l0, l1, l2, l3] (.int (nI 2) :: st) m Q := kJ_next d136_22 rfl
theorem d136_23 : decode (mB 136) 23 = .ok (.iload_n 2, 1) := by decide +kernel
theorem s136_23 {l0 l1 l3 : Option Value} {st : List Value} {x : Int32} {m : kMem} {Q : Option Value → kMem → Prop} : kJ 136 23 [l0, l1, some (.int x), l3] st m Q = kJ 136 24 [l0, l1, some (.int x), l3] (.int x :: st) m Q := kJ_next d136_23 rfl
theorem d136_24 : decode (mB 136) 24 = .ok (.imul, 1) := by decide +kernel
theorem s136_24 {l0 l1 l2 l3 : Option Value} {st : List Value} {a b : Int32} {m : kMem} {Q : Option Value → kMem → Prop} : kJ 136 24 [l0, l1, l2, l3] (.int b :: .int a :: st) m Q = kJ 136 25 [l0, l1, l2, l3] (.int (a * b) :: st) m Q := kJ_next d136_24 rfl
theorem d136_25 : decode (mB 136) 25 = .ok (.goto 24, 3) := by decide +kernel
theorem s136_25 {l0 l1 l2 l3 : Option Value} {st : List Value} {m : kMem} {Q : Option Value → kMem → Prop} : kJ 136 25 [l0, l1, l2, l3] st m Q = kJ 136 49 [l0, l1, l2, l3] st m Q := kJ_next d136_25 rfl
theorem d136_28 : decode (mB 136) 28 = .ok (.iload_n 0, 1) := by decide +kernel
theorem s136_28 {l1 l2 l3 : Option Value} {st : List Value} {x : Int32} {m : kMem} {Q : Option Value → kMem → Prop} : kJ 136 28 [some (.int x), l1, l2, l3] st m Q = kJ 136 29 [some (.int x), l1, l2, l3] (.int x :: st) m Q := kJ_next d136_28 rfl
theorem d136_29 : decode (mB 136) 29 = .ok (.iconst 2, 1) := by decide +kernel
theorem s136_29 {l0 l1 l2 l3 : Option Value} {st : List Value} {m : kMem} {Q : Option Value → kMem → Prop} : kJ 136 29 [l0, l1, l2, l3] st m Q = kJ 136 30 [l0, l1, l2, l3] (.int (nI 2) :: st) m Q := kJ_next d136_29 rfl
theorem d136_30 : decode (mB 136) 30 = .ok (.if_icmp .ne 7, 3) := by decide +kernel
theorem s136_30 {l0 l1 l2 l3 : Option Value} {st : List Value} {a b : Int32} {m : kMem} {Q : Option Value → kMem → Prop} : kJ 136 30 [l0, l1, l2, l3] (.int b :: .int a :: st) m Q = (if a = b then kJ 136 33 [l0, l1, l2, l3] st m Q else kJ 136 37 [l0, l1, l2, l3] st m Q) := kJ_if d136_30 rfl (fun h => kJ_next d136_30 h) (fun h => kJ_next d136_30 h)
theorem d136_33 : decode (mB 136) 33 = .ok (.iload_n 3, 1) := by decide +kernel
theorem s136_33 {l0 l1 l2 : Option Value} {st : List Value} {x : Int32} {m : kMem} {Q : Option Value → kMem → Prop} : kJ 136 33 [l0, l1, l2, some (.int x)] st m Q = kJ 136 34 [l0, l1, l2, some (.int x)] (.int x :: st) m Q := kJ_next d136_33 rfl
theorem d136_34 : decode (mB 136) 34 = .ok (.goto 15, 3) := by decide +kernel
theorem s136_34 {l0 l1 l2 l3 : Option Value} {st : List Value} {m : kMem} {Q : Option Value → kMem → Prop} : kJ 136 34 [l0, l1, l2, l3] st m Q = kJ 136 49 [l0, l1, l2, l3] st m Q := kJ_next d136_34 rfl
theorem d136_37 : decode (mB 136) 37 = .ok (.iload_n 0, 1) := by decide +kernel
theorem s136_37 {l1 l2 l3 : Option Value} {st : List Value} {x : Int32} {m : kMem} {Q : Option Value → kMem → Prop} : kJ 136 37 [some (.int x), l1, l2, l3] st m Q = kJ 136 38 [some (.int x), l1, l2, l3] (.int x :: st) m Q := kJ_next d136_37 rfl
theorem d136_38 : decode (mB 136) 38 = .ok (.iconst 3, 1) := by decide +kernel
theorem s136_38 {l0 l1 l2 l3 : Option Value} {st : List Value} {m : kMem} {Q : Option Value → kMem → Prop} : kJ 136 38 [l0, l1, l2, l3] st m Q = kJ 136 39 [l0, l1, l2, l3] (.int (nI 3) :: st) m Q := kJ_next d136_38 rfl
theorem d136_39 : decode (mB 136) 39 = .ok (.if_icmp .ne 9, 3) := by decide +kernel
theorem s136_39 {l0 l1 l2 l3 : Option Value} {st : List Value} {a b : Int32} {m : kMem} {Q : Option Value → kMem → Prop} : kJ 136 39 [l0, l1, l2, l3] (.int b :: .int a :: st) m Q = (if a = b then kJ 136 42 [l0, l1, l2, l3] st m Q else kJ 136 48 [l0, l1, l2, l3] st m Q) := kJ_if d136_39 rfl (fun h => kJ_next d136_39 h) (fun h => kJ_next d136_39 h)
theorem d136_42 : decode (mB 136) 42 = .ok (.iload_n 3, 1) := by decide +kernel
theorem s136_42 {l0 l1 l2 : Option Value} {st : List Value} {x : Int32} {m : kMem} {Q : Option Value → kMem → Prop} : kJ 136 42 [l0, l1, l2, some (.int x)] st m Q = kJ 136 43 [l0, l1, l2, some (.int x)] (.int x :: st) m Q := kJ_next d136_42 rfl
theorem d136_43 : decode (mB 136) 43 = .ok (.iconst 1, 1) := by decide +kernel
theorem s136_43 {l0 l1 l2 l3 : Option Value} {st : List Value} {m : kMem} {Q : Option Value → kMem → Prop} : kJ 136 43 [l0, l1, l2, l3] st m Q = kJ 136 44 [l0, l1, l2, l3] (.int (nI 1) :: st) m Q := kJ_next d136_43 rfl
theorem d136_44 : decode (mB 136) 44 = .ok (.iadd, 1) := by decide +kernel
theorem s136_44 {l0 l1 l2 l3 : Option Value} {st : List Value} {a b : Int32} {m : kMem} {Q : Option Value → kMem → Prop} : kJ 136 44 [l0, l1, l2, l3] (.int b :: .int a :: st) m Q = kJ 136 45 [l0, l1, l2, l3] (.int (a + b) :: st) m Q := kJ_next d136_44 rfl
theorem d136_45 : decode (mB 136) 45 = .ok (.goto 4, 3) := by decide +kernel
theorem s136_45 {l0 l1 l2 l3 : Option Value} {st : List Value} {m : kMem} {Q : Option Value → kMem → Prop} : kJ 136 45 [l0, l1, l2, l3] st m Q = kJ 136 49 [l0, l1, l2, l3] st m Q := kJ_next d136_45 rfl
theorem d136_48 : decode (mB 136) 48 = .ok (.iload_n 2, 1) := by decide +kernel
theorem s136_48 {l0 l1 l3 : Option Value} {st : List Value} {x : Int32} {m : kMem} {Q : Option Value → kMem → Prop} : kJ 136 48 [l0, l1, some (.int x), l3] st m Q = kJ 136 49 [l0, l1, some (.int x), l3] (.int x :: st) m Q := kJ_next d136_48 rfl
theorem d136_49 : decode (mB 136) 49 = .ok (.ireturn, 1) := by decide +kernel
theorem s136_49 {l0 l1 l2 l3 : Option Value} {x : Int32} {m : kMem} {Q : Option Value → kMem → Prop} : kJ 136 49 [l0, l1, l2, l3] [.int x] m Q = Q (some (.int x)) m := kJ_ret d136_49 rfl
theorem d137_0 : decode (mB 137) 0 = .ok (.iload_n 1, 1) := by decide +kernel
theorem s137_0 {l0 l2 : Option Value} {st : List Value} {x : Int32} {m : kMem} {Q : Option Value → kMem → Prop} : kJ 137 0 [l0, some (.int x), l2] st m Q = kJ 137 1 [l0, some (.int x), l2] (.int x :: st) m Q := kJ_next d137_0 rfl
theorem d137_1 : decode (mB 137) 1 = .ok (.bipush 9, 2) := by decide +kernel
theorem s137_1 {l0 l1 l2 : Option Value} {st : List Value} {m : kMem} {Q : Option Value → kMem → Prop} : kJ 137 1 [l0, l1, l2] st m Q = kJ 137 3 [l0, l1, l2] (.int (nI 9) :: st) m Q := kJ_next d137_1 rfl
theorem d137_3 : decode (mB 137) 3 = .ok (.isub, 1) := by decide +kernel
theorem s137_3 {l0 l1 l2 : Option Value} {st : List Value} {a b : Int32} {m : kMem} {Q : Option Value → kMem → Prop} : kJ 137 3 [l0, l1, l2] (.int b :: .int a :: st) m Q = kJ 137 4 [l0, l1, l2] (.int (a - b) :: st) m Q := kJ_next d137_3 rfl
theorem d137_4 : decode (mB 137) 4 = .ok (.istore_n 2, 1) := by decide +kernel
theorem s137_4 {l0 l1 l2 : Option Value} {st : List Value} {x : Int32} {m : kMem} {Q : Option Value → kMem → Prop} (hp : kNL l1 = true) : kJ 137 4 [l0, l1, l2] (.int x :: st) m Q = kJ 137 5 [l0, l1, some (.int x)] st m Q := kJ_next d137_4 (kg_sti (Nat.le_of_ble_eq_true rfl) hp)
theorem d137_5 : decode (mB 137) 5 = .ok (.iload_n 0, 1) := by decide +kernel
theorem s137_5 {l1 l2 : Option Value} {st : List Value} {x : Int32} {m : kMem} {Q : Option Value → kMem → Prop} : kJ 137 5 [some (.int x), l1, l2] st m Q = kJ 137 6 [some (.int x), l1, l2] (.int x :: st) m Q := kJ_next d137_5 rfl
theorem d137_6 : decode (mB 137) 6 = .ok (.iconst 2, 1) := by decide +kernel
theorem s137_6 {l0 l1 l2 : Option Value} {st : List Value} {m : kMem} {Q : Option Value → kMem → Prop} : kJ 137 6 [l0, l1, l2] st m Q = kJ 137 7 [l0, l1, l2] (.int (nI 2) :: st) m Q := kJ_next d137_6 rfl
theorem d137_7 : decode (mB 137) 7 = .ok (.if_icmp .eq 23, 3) := by decide +kernel
theorem s137_7 {l0 l1 l2 : Option Value} {st : List Value} {a b : Int32} {m : kMem} {Q : Option Value → kMem → Prop} : kJ 137 7 [l0, l1, l2] (.int b :: .int a :: st) m Q = (if a = b then kJ 137 30 [l0, l1, l2] st m Q else kJ 137 10 [l0, l1, l2] st m Q) := kJ_if d137_7 rfl (fun h => kJ_next d137_7 h) (fun h => kJ_next d137_7 h)
theorem d137_10 : decode (mB 137) 10 = .ok (.iload_n 0, 1) := by decide +kernel
theorem s137_10 {l1 l2 : Option Value} {st : List Value} {x : Int32} {m : kMem} {Q : Option Value → kMem → Prop} : kJ 137 10 [some (.int x), l1, l2] st m Q = kJ 137 11 [some (.int x), l1, l2] (.int x :: st) m Q := kJ_next d137_10 rfl
theorem d137_11 : decode (mB 137) 11 = .ok (.iconst 3, 1) := by decide +kernel
theorem s137_11 {l0 l1 l2 : Option Value} {st : List Value} {m : kMem} {Q : Option Value → kMem → Prop} : kJ 137 11 [l0, l1, l2] st m Q = kJ 137 12 [l0, l1, l2] (.int (nI 3) :: st) m Q := kJ_next d137_11 rfl
theorem d137_12 : decode (mB 137) 12 = .ok (.if_icmp .eq 18, 3) := by decide +kernel
theorem s137_12 {l0 l1 l2 : Option Value} {st : List Value} {a b : Int32} {m : kMem} {Q : Option Value → kMem → Prop} : kJ 137 12 [l0, l1, l2] (.int b :: .int a :: st) m Q = (if a = b then kJ 137 30 [l0, l1, l2] st m Q else kJ 137 15 [l0, l1, l2] st m Q) := kJ_if d137_12 rfl (fun h => kJ_next d137_12 h) (fun h => kJ_next d137_12 h)
theorem d137_15 : decode (mB 137) 15 = .ok (.iload_n 2, 1) := by decide +kernel
theorem s137_15 {l0 l1 : Option Value} {st : List Value} {x : Int32} {m : kMem} {Q : Option Value → kMem → Prop} : kJ 137 15 [l0, l1, some (.int x)] st m Q = kJ 137 16 [l0, l1, some (.int x)] (.int x :: st) m Q := kJ_next d137_15 rfl
theorem d137_16 : decode (mB 137) 16 = .ok (.iload_n 0, 1) := by decide +kernel
theorem s137_16 {l1 l2 : Option Value} {st : List Value} {x : Int32} {m : kMem} {Q : Option Value → kMem → Prop} : kJ 137 16 [some (.int x), l1, l2] st m Q = kJ 137 17 [some (.int x), l1, l2] (.int x :: st) m Q := kJ_next d137_16 rfl
theorem d137_17 : decode (mB 137) 17 = .ok (.iconst 1, 1) := by decide +kernel
theorem s137_17 {l0 l1 l2 : Option Value} {st : List Value} {m : kMem} {Q : Option Value → kMem → Prop} : kJ 137 17 [l0, l1, l2] st m Q = kJ 137 18 [l0, l1, l2] (.int (nI 1) :: st) m Q := kJ_next d137_17 rfl
theorem d137_18 : decode (mB 137) 18 = .ok (.if_icmp .ne 7, 3) := by decide +kernel
theorem s137_18 {l0 l1 l2 : Option Value} {st : List Value} {a b : Int32} {m : kMem} {Q : Option Value → kMem → Prop} : kJ 137 18 [l0, l1, l2] (.int b :: .int a :: st) m Q = (if a = b then kJ 137 21 [l0, l1, l2] st m Q else kJ 137 25 [l0, l1, l2] st m Q) := kJ_if d137_18 rfl (fun h => kJ_next d137_18 h) (fun h => kJ_next d137_18 h)
theorem d137_21 : decode (mB 137) 21 = .ok (.iconst 0, 1) := by decide +kernel
theorem s137_21 {l0 l1 l2 : Option Value} {st : List Value} {m : kMem} {Q : Option Value → kMem → Prop} : kJ 137 21 [l0, l1, l2] st m Q = kJ 137 22 [l0, l1, l2] (.int (nI 0) :: st) m Q := kJ_next d137_21 rfl
theorem d137_22 : decode (mB 137) 22 = .ok (.goto 5, 3) := by decide +kernel
theorem s137_22 {l0 l1 l2 : Option Value} {st : List Value} {m : kMem} {Q : Option Value → kMem → Prop} : kJ 137 22 [l0, l1, l2] st m Q = kJ 137 27 [l0, l1, l2] st m Q := kJ_next d137_22 rfl
theorem d137_25 : decode (mB 137) 25 = .ok (.bipush (-3), 2) := by decide +kernel
theorem s137_25 {l0 l1 l2 : Option Value} {st : List Value} {m : kMem} {Q : Option Value → kMem → Prop} : kJ 137 25 [l0, l1, l2] st m Q = kJ 137 27 [l0, l1, l2] (.int (-3) :: st) m Q := kJ_next d137_25 rfl
theorem d137_27 : decode (mB 137) 27 = .ok (.if_icmp .lt 7, 3) := by decide +kernel
theorem s137_27 {l0 l1 l2 : Option Value} {st : List Value} {a b : Int32} {m : kMem} {Q : Option Value → kMem → Prop} : kJ 137 27 [l0, l1, l2] (.int b :: .int a :: st) m Q = (if a < b then kJ 137 34 [l0, l1, l2] st m Q else kJ 137 30 [l0, l1, l2] st m Q) := kJ_if d137_27 rfl (fun h => kJ_next d137_27 h) (fun h => kJ_next d137_27 h)
theorem d137_30 : decode (mB 137) 30 = .ok (.iconst 1, 1) := by decide +kernel
theorem s137_30 {l0 l1 l2 : Option Value} {st : List Value} {m : kMem} {Q : Option Value → kMem → Prop} : kJ 137 30 [l0, l1, l2] st m Q = kJ 137 31 [l0, l1, l2] (.int (nI 1) :: st) m Q := kJ_next d137_30 rfl
theorem d137_31 : decode (mB 137) 31 = .ok (.goto 4, 3) := by decide +kernel
theorem s137_31 {l0 l1 l2 : Option Value} {st : List Value} {m : kMem} {Q : Option Value → kMem → Prop} : kJ 137 31 [l0, l1, l2] st m Q = kJ 137 35 [l0, l1, l2] st m Q := kJ_next d137_31 rfl
theorem d137_34 : decode (mB 137) 34 = .ok (.iconst 0, 1) := by decide +kernel
theorem s137_34 {l0 l1 l2 : Option Value} {st : List Value} {m : kMem} {Q : Option Value → kMem → Prop} : kJ 137 34 [l0, l1, l2] st m Q = kJ 137 35 [l0, l1, l2] (.int (nI 0) :: st) m Q := kJ_next d137_34 rfl
theorem d137_35 : decode (mB 137) 35 = .ok (.ireturn, 1) := by decide +kernel
theorem s137_35 {l0 l1 l2 : Option Value} {x : Int32} {m : kMem} {Q : Option Value → kMem → Prop} (hx : x = 0 ∨ x = 1) : kJ 137 35 [l0, l1, l2] [.int x] m Q = Q (some (.int x)) m := kJ_ret d137_35 (kg_retz (by decide) hx)
theorem d138_0 : decode (mB 138) 0 = .ok (.iload_n 1, 1) := by decide +kernel
theorem s138_0 {l0 : Option Value} {st : List Value} {x : Int32} {m : kMem} {Q : Option Value → kMem → Prop} : kJ 138 0 [l0, some (.int x)] st m Q = kJ 138 1 [l0, some (.int x)] (.int x :: st) m Q := kJ_next d138_0 rfl
theorem d138_1 : decode (mB 138) 1 = .ok (.iload_n 0, 1) := by decide +kernel
theorem s138_1 {l1 : Option Value} {st : List Value} {x : Int32} {m : kMem} {Q : Option Value → kMem → Prop} : kJ 138 1 [some (.int x), l1] st m Q = kJ 138 2 [some (.int x), l1] (.int x :: st) m Q := kJ_next d138_1 rfl
theorem d138_2 : decode (mB 138) 2 = .ok (.iconst 2, 1) := by decide +kernel
theorem s138_2 {l0 l1 : Option Value} {st : List Value} {m : kMem} {Q : Option Value → kMem → Prop} : kJ 138 2 [l0, l1] st m Q = kJ 138 3 [l0, l1] (.int (nI 2) :: st) m Q := kJ_next d138_2 rfl
theorem d138_3 : decode (mB 138) 3 = .ok (.if_icmp .ne 7, 3) := by decide +kernel
theorem s138_3 {l0 l1 : Option Value} {st : List Value} {a b : Int32} {m : kMem} {Q : Option Value → kMem → Prop} : kJ 138 3 [l0, l1] (.int b :: .int a :: st) m Q = (if a = b then kJ 138 6 [l0, l1] st m Q else kJ 138 10 [l0, l1] st m Q) := kJ_if d138_3 rfl (fun h => kJ_next d138_3 h) (fun h => kJ_next d138_3 h)
theorem d138_6 : decode (mB 138) 6 = .ok (.iconst 1, 1) := by decide +kernel
theorem s138_6 {l0 l1 : Option Value} {st : List Value} {m : kMem} {Q : Option Value → kMem → Prop} : kJ 138 6 [l0, l1] st m Q = kJ 138 7 [l0, l1] (.int (nI 1) :: st) m Q := kJ_next d138_6 rfl
theorem d138_7 : decode (mB 138) 7 = .ok (.goto 13, 3) := by decide +kernel
theorem s138_7 {l0 l1 : Option Value} {st : List Value} {m : kMem} {Q : Option Value → kMem → Prop} : kJ 138 7 [l0, l1] st m Q = kJ 138 20 [l0, l1] st m Q := kJ_next d138_7 rfl
theorem d138_10 : decode (mB 138) 10 = .ok (.iload_n 0, 1) := by decide +kernel
theorem s138_10 {l1 : Option Value} {st : List Value} {x : Int32} {m : kMem} {Q : Option Value → kMem → Prop} : kJ 138 10 [some (.int x), l1] st m Q = kJ 138 11 [some (.int x), l1] (.int x :: st) m Q := kJ_next d138_10 rfl
theorem d138_11 : decode (mB 138) 11 = .ok (.iconst 3, 1) := by decide +kernel
theorem s138_11 {l0 l1 : Option Value} {st : List Value} {m : kMem} {Q : Option Value → kMem → Prop} : kJ 138 11 [l0, l1] st m Q = kJ 138 12 [l0, l1] (.int (nI 3) :: st) m Q := kJ_next d138_11 rfl
theorem d138_12 : decode (mB 138) 12 = .ok (.if_icmp .ne 7, 3) := by decide +kernel
theorem s138_12 {l0 l1 : Option Value} {st : List Value} {a b : Int32} {m : kMem} {Q : Option Value → kMem → Prop} : kJ 138 12 [l0, l1] (.int b :: .int a :: st) m Q = (if a = b then kJ 138 15 [l0, l1] st m Q else kJ 138 19 [l0, l1] st m Q) := kJ_if d138_12 rfl (fun h => kJ_next d138_12 h) (fun h => kJ_next d138_12 h)
theorem d138_15 : decode (mB 138) 15 = .ok (.iconst 2, 1) := by decide +kernel
theorem s138_15 {l0 l1 : Option Value} {st : List Value} {m : kMem} {Q : Option Value → kMem → Prop} : kJ 138 15 [l0, l1] st m Q = kJ 138 16 [l0, l1] (.int (nI 2) :: st) m Q := kJ_next d138_15 rfl
theorem d138_16 : decode (mB 138) 16 = .ok (.goto 4, 3) := by decide +kernel
theorem s138_16 {l0 l1 : Option Value} {st : List Value} {m : kMem} {Q : Option Value → kMem → Prop} : kJ 138 16 [l0, l1] st m Q = kJ 138 20 [l0, l1] st m Q := kJ_next d138_16 rfl
theorem d138_19 : decode (mB 138) 19 = .ok (.iconst 0, 1) := by decide +kernel
theorem s138_19 {l0 l1 : Option Value} {st : List Value} {m : kMem} {Q : Option Value → kMem → Prop} : kJ 138 19 [l0, l1] st m Q = kJ 138 20 [l0, l1] (.int (nI 0) :: st) m Q := kJ_next d138_19 rfl
theorem d138_20 : decode (mB 138) 20 = .ok (.iadd, 1) := by decide +kernel
theorem s138_20 {l0 l1 : Option Value} {st : List Value} {a b : Int32} {m : kMem} {Q : Option Value → kMem → Prop} : kJ 138 20 [l0, l1] (.int b :: .int a :: st) m Q = kJ 138 21 [l0, l1] (.int (a + b) :: st) m Q := kJ_next d138_20 rfl
theorem d138_21 : decode (mB 138) 21 = .ok (.bipush 18, 2) := by decide +kernel
theorem s138_21 {l0 l1 : Option Value} {st : List Value} {m : kMem} {Q : Option Value → kMem → Prop} : kJ 138 21 [l0, l1] st m Q = kJ 138 23 [l0, l1] (.int (nI 18) :: st) m Q := kJ_next d138_21 rfl
theorem d138_23 : decode (mB 138) 23 = .ok (.invokestatic 138, 3) := by decide +kernel
theorem s138_23 {l0 l1 : Option Value} {v0 : Int32} {v1 : Int32} {m : kMem} {Q : Option Value → kMem → Prop} : kJ 138 23 [l0, l1] [.int v0, .int v1] m Q = kJ 109 0 [some (.int v1), some (.int v0)] [] m (fun v m2 => kJ 138 26 [l0, l1] (v.toList ++ []) m2 Q) := kJ_call d138_23 (kg_calls 109 2 rfl rfl (Nat.le_of_ble_eq_true rfl) (Nat.le_of_ble_eq_true rfl) (Nat.le_of_ble_eq_true rfl) (Nat.le_of_ble_eq_true rfl))
theorem d138_26 : decode (mB 138) 26 = .ok (.ireturn, 1) := by decide +kernel
theorem s138_26 {l0 l1 : Option Value} {x : Int32} {m : kMem} {Q : Option Value → kMem → Prop} : kJ 138 26 [l0, l1] [.int x] m Q = Q (some (.int x)) m := kJ_ret d138_26 rfl
theorem d139_0 : decode (mB 139) 0 = .ok (.aload_n 0, 1) := by decide +kernel
theorem s139_0 {l1 : Option Value} {st : List Value} {x : Nat} {m : kMem} {Q : Option Value → kMem → Prop} : kJ 139 0 [some (.ref x), l1] st m Q = kJ 139 1 [some (.ref x), l1] (.ref x :: st) m Q := kJ_next d139_0 rfl
theorem d139_1 : decode (mB 139) 1 = .ok (.iload_n 1, 1) := by decide +kernel
theorem s139_1 {l0 : Option Value} {st : List Value} {x : Int32} {m : kMem} {Q : Option Value → kMem → Prop} : kJ 139 1 [l0, some (.int x)] st m Q = kJ 139 2 [l0, some (.int x)] (.int x :: st) m Q := kJ_next d139_1 rfl
theorem d139_2 : decode (mB 139) 2 = .ok (.iconst 5, 1) := by decide +kernel
theorem s139_2 {l0 l1 : Option Value} {st : List Value} {m : kMem} {Q : Option Value → kMem → Prop} : kJ 139 2 [l0, l1] st m Q = kJ 139 3 [l0, l1] (.int (nI 5) :: st) m Q := kJ_next d139_2 rfl
theorem d139_3 : decode (mB 139) 3 = .ok (.invokevirtual 141, 3) := by decide +kernel
theorem s139_3 {l0 l1 : Option Value} {v0 : Int32} {v1 : Int32} {v2 : Nat} {m : kMem} {Q : Option Value → kMem → Prop} (h : kIs m.2.2.2 v2 5 = true) : kJ 139 3 [l0, l1] [.int v0, .int v1, .ref v2] m Q = kJ 134 0 [some (.ref v2), some (.int v1), some (.int v0)] [] m (fun v m2 => kJ 139 6 [l0, l1] (v.toList ++ []) m2 Q) := kJ_call d139_3 (kg_callv 134 2 rfl rfl rfl rfl (Nat.le_of_ble_eq_true rfl) (Nat.le_of_ble_eq_true rfl) (Nat.le_of_ble_eq_true rfl) h rfl)
theorem d139_6 : decode (mB 139) 6 = .ok (.iconst 2, 1) := by decide +kernel
theorem s139_6 {l0 l1 : Option Value} {st : List Value} {m : kMem} {Q : Option Value → kMem → Prop} : kJ 139 6 [l0, l1] st m Q = kJ 139 7 [l0, l1] (.int (nI 2) :: st) m Q := kJ_next d139_6 rfl
theorem d139_7 : decode (mB 139) 7 = .ok (.if_icmp .ge 7, 3) := by decide +kernel
theorem s139_7 {l0 l1 : Option Value} {st : List Value} {a b : Int32} {m : kMem} {Q : Option Value → kMem → Prop} : kJ 139 7 [l0, l1] (.int b :: .int a :: st) m Q = (if b ≤ a then kJ 139 14 [l0, l1] st m Q else kJ 139 10 [l0, l1] st m Q) := kJ_if d139_7 rfl (fun h => kJ_next d139_7 h) (fun h => kJ_next d139_7 h)
theorem d139_10 : decode (mB 139) 10 = .ok (.iconst 1, 1) := by decide +kernel
theorem s139_10 {l0 l1 : Option Value} {st : List Value} {m : kMem} {Q : Option Value → kMem → Prop} : kJ 139 10 [l0, l1] st m Q = kJ 139 11 [l0, l1] (.int (nI 1) :: st) m Q := kJ_next d139_10 rfl
theorem d139_11 : decode (mB 139) 11 = .ok (.goto 4, 3) := by decide +kernel
theorem s139_11 {l0 l1 : Option Value} {st : List Value} {m : kMem} {Q : Option Value → kMem → Prop} : kJ 139 11 [l0, l1] st m Q = kJ 139 15 [l0, l1] st m Q := kJ_next d139_11 rfl
theorem d139_14 : decode (mB 139) 14 = .ok (.iconst 0, 1) := by decide +kernel
theorem s139_14 {l0 l1 : Option Value} {st : List Value} {m : kMem} {Q : Option Value → kMem → Prop} : kJ 139 14 [l0, l1] st m Q = kJ 139 15 [l0, l1] (.int (nI 0) :: st) m Q := kJ_next d139_14 rfl
theorem d139_15 : decode (mB 139) 15 = .ok (.ireturn, 1) := by decide +kernel
theorem s139_15 {l0 l1 : Option Value} {x : Int32} {m : kMem} {Q : Option Value → kMem → Prop} (hx : x = 0 ∨ x = 1) : kJ 139 15 [l0, l1] [.int x] m Q = Q (some (.int x)) m := kJ_ret d139_15 (kg_retz (by decide) hx)
theorem d140_0 : decode (mB 140) 0 = .ok (.aload_n 0, 1) := by decide +kernel
theorem s140_0 {l1 : Option Value} {st : List Value} {x : Nat} {m : kMem} {Q : Option Value → kMem → Prop} : kJ 140 0 [some (.ref x), l1] st m Q = kJ 140 1 [some (.ref x), l1] (.ref x :: st) m Q := kJ_next d140_0 rfl
theorem d140_1 : decode (mB 140) 1 = .ok (.iload_n 1, 1) := by decide +kernel
theorem s140_1 {l0 : Option Value} {st : List Value} {x : Int32} {m : kMem} {Q : Option Value → kMem → Prop} : kJ 140 1 [l0, some (.int x)] st m Q = kJ 140 2 [l0, some (.int x)] (.int x :: st) m Q := kJ_next d140_1 rfl
theorem d140_2 : decode (mB 140) 2 = .ok (.iconst 5, 1) := by decide +kernel
theorem s140_2 {l0 l1 : Option Value} {st : List Value} {m : kMem} {Q : Option Value → kMem → Prop} : kJ 140 2 [l0, l1] st m Q = kJ 140 3 [l0, l1] (.int (nI 5) :: st) m Q := kJ_next d140_2 rfl
theorem d140_3 : decode (mB 140) 3 = .ok (.invokevirtual 141, 3) := by decide +kernel
theorem s140_3 {l0 l1 : Option Value} {v0 : Int32} {v1 : Int32} {v2 : Nat} {m : kMem} {Q : Option Value → kMem → Prop} (h : kIs m.2.2.2 v2 5 = true) : kJ 140 3 [l0, l1] [.int v0, .int v1, .ref v2] m Q = kJ 134 0 [some (.ref v2), some (.int v1), some (.int v0)] [] m (fun v m2 => kJ 140 6 [l0, l1] (v.toList ++ []) m2 Q) := kJ_call d140_3 (kg_callv 134 2 rfl rfl rfl rfl (Nat.le_of_ble_eq_true rfl) (Nat.le_of_ble_eq_true rfl) (Nat.le_of_ble_eq_true rfl) h rfl)
theorem d140_6 : decode (mB 140) 6 = .ok (.ifCond .ne 12, 3) := by decide +kernel
theorem s140_6 {l0 l1 : Option Value} {st : List Value} {a : Int32} {m : kMem} {Q : Option Value → kMem → Prop} : kJ 140 6 [l0, l1] (.int a :: st) m Q = (if a = 0 then kJ 140 9 [l0, l1] st m Q else kJ 140 18 [l0, l1] st m Q) := kJ_if d140_6 rfl (fun h => kJ_next d140_6 h) (fun h => kJ_next d140_6 h)
theorem d140_9 : decode (mB 140) 9 = .ok (.aload_n 0, 1) := by decide +kernel
theorem s140_9 {l1 : Option Value} {st : List Value} {x : Nat} {m : kMem} {Q : Option Value → kMem → Prop} : kJ 140 9 [some (.ref x), l1] st m Q = kJ 140 10 [some (.ref x), l1] (.ref x :: st) m Q := kJ_next d140_9 rfl
theorem d140_10 : decode (mB 140) 10 = .ok (.iload_n 1, 1) := by decide +kernel
theorem s140_10 {l0 : Option Value} {st : List Value} {x : Int32} {m : kMem} {Q : Option Value → kMem → Prop} : kJ 140 10 [l0, some (.int x)] st m Q = kJ 140 11 [l0, some (.int x)] (.int x :: st) m Q := kJ_next d140_10 rfl
theorem d140_11 : decode (mB 140) 11 = .ok (.iconst 2, 1) := by decide +kernel
theorem s140_11 {l0 l1 : Option Value} {st : List Value} {m : kMem} {Q : Option Value → kMem → Prop} : kJ 140 11 [l0, l1] st m Q = kJ 140 12 [l0, l1] (.int (nI 2) :: st) m Q := kJ_next d140_11 rfl
theorem d140_12 : decode (mB 140) 12 = .ok (.invokevirtual 141, 3) := by decide +kernel
theorem s140_12 {l0 l1 : Option Value} {v0 : Int32} {v1 : Int32} {v2 : Nat} {m : kMem} {Q : Option Value → kMem → Prop} (h : kIs m.2.2.2 v2 5 = true) : kJ 140 12 [l0, l1] [.int v0, .int v1, .ref v2] m Q = kJ 134 0 [some (.ref v2), some (.int v1), some (.int v0)] [] m (fun v m2 => kJ 140 15 [l0, l1] (v.toList ++ []) m2 Q) := kJ_call d140_12 (kg_callv 134 2 rfl rfl rfl rfl (Nat.le_of_ble_eq_true rfl) (Nat.le_of_ble_eq_true rfl) (Nat.le_of_ble_eq_true rfl) h rfl)
theorem d140_15 : decode (mB 140) 15 = .ok (.goto 9, 3) := by decide +kernel
theorem s140_15 {l0 l1 : Option Value} {st : List Value} {m : kMem} {Q : Option Value → kMem → Prop} : kJ 140 15 [l0, l1] st m Q = kJ 140 24 [l0, l1] st m Q := kJ_next d140_15 rfl
theorem d140_18 : decode (mB 140) 18 = .ok (.aload_n 0, 1) := by decide +kernel
theorem s140_18 {l1 : Option Value} {st : List Value} {x : Nat} {m : kMem} {Q : Option Value → kMem → Prop} : kJ 140 18 [some (.ref x), l1] st m Q = kJ 140 19 [some (.ref x), l1] (.ref x :: st) m Q := kJ_next d140_18 rfl
theorem d140_19 : decode (mB 140) 19 = .ok (.iload_n 1, 1) := by decide +kernel
theorem s140_19 {l0 : Option Value} {st : List Value} {x : Int32} {m : kMem} {Q : Option Value → kMem → Prop} : kJ 140 19 [l0, some (.int x)] st m Q = kJ 140 20 [l0, some (.int x)] (.int x :: st) m Q := kJ_next d140_19 rfl
theorem d140_20 : decode (mB 140) 20 = .ok (.iconst 1, 1) := by decide +kernel
theorem s140_20 {l0 l1 : Option Value} {st : List Value} {m : kMem} {Q : Option Value → kMem → Prop} : kJ 140 20 [l0, l1] st m Q = kJ 140 21 [l0, l1] (.int (nI 1) :: st) m Q := kJ_next d140_20 rfl
theorem d140_21 : decode (mB 140) 21 = .ok (.invokevirtual 141, 3) := by decide +kernel
theorem s140_21 {l0 l1 : Option Value} {v0 : Int32} {v1 : Int32} {v2 : Nat} {m : kMem} {Q : Option Value → kMem → Prop} (h : kIs m.2.2.2 v2 5 = true) : kJ 140 21 [l0, l1] [.int v0, .int v1, .ref v2] m Q = kJ 134 0 [some (.ref v2), some (.int v1), some (.int v0)] [] m (fun v m2 => kJ 140 24 [l0, l1] (v.toList ++ []) m2 Q) := kJ_call d140_21 (kg_callv 134 2 rfl rfl rfl rfl (Nat.le_of_ble_eq_true rfl) (Nat.le_of_ble_eq_true rfl) (Nat.le_of_ble_eq_true rfl) h rfl)
theorem d140_24 : decode (mB 140) 24 = .ok (.ireturn, 1) := by decide +kernel
theorem s140_24 {l0 l1 : Option Value} {x : Int32} {m : kMem} {Q : Option Value → kMem → Prop} : kJ 140 24 [l0, l1] [.int x] m Q = Q (some (.int x)) m := kJ_ret d140_24 rfl
theorem d141_0 : decode (mB 141) 0 = .ok (.aload_n 0, 1) := by decide +kernel
theorem s141_0 {l1 l2 : Option Value} {st : List Value} {x : Nat} {m : kMem} {Q : Option Value → kMem → Prop} : kJ 141 0 [some (.ref x), l1, l2] st m Q = kJ 141 1 [some (.ref x), l1, l2] (.ref x :: st) m Q := kJ_next d141_0 rfl
theorem d141_1 : decode (mB 141) 1 = .ok (.iload_n 1, 1) := by decide +kernel
theorem s141_1 {l0 l2 : Option Value} {st : List Value} {x : Int32} {m : kMem} {Q : Option Value → kMem → Prop} : kJ 141 1 [l0, some (.int x), l2] st m Q = kJ 141 2 [l0, some (.int x), l2] (.int x :: st) m Q := kJ_next d141_1 rfl
theorem d141_2 : decode (mB 141) 2 = .ok (.iconst 2, 1) := by decide +kernel
theorem s141_2 {l0 l1 l2 : Option Value} {st : List Value} {m : kMem} {Q : Option Value → kMem → Prop} : kJ 141 2 [l0, l1, l2] st m Q = kJ 141 3 [l0, l1, l2] (.int (nI 2) :: st) m Q := kJ_next d141_2 rfl
theorem d141_3 : decode (mB 141) 3 = .ok (.aload_n 0, 1) := by decide +kernel
theorem s141_3 {l1 l2 : Option Value} {st : List Value} {x : Nat} {m : kMem} {Q : Option Value → kMem → Prop} : kJ 141 3 [some (.ref x), l1, l2] st m Q = kJ 141 4 [some (.ref x), l1, l2] (.ref x :: st) m Q := kJ_next d141_3 rfl
theorem d141_4 : decode (mB 141) 4 = .ok (.iload_n 1, 1) := by decide +kernel
theorem s141_4 {l0 l2 : Option Value} {st : List Value} {x : Int32} {m : kMem} {Q : Option Value → kMem → Prop} : kJ 141 4 [l0, some (.int x), l2] st m Q = kJ 141 5 [l0, some (.int x), l2] (.int x :: st) m Q := kJ_next d141_4 rfl
theorem d141_5 : decode (mB 141) 5 = .ok (.iconst 2, 1) := by decide +kernel
theorem s141_5 {l0 l1 l2 : Option Value} {st : List Value} {m : kMem} {Q : Option Value → kMem → Prop} : kJ 141 5 [l0, l1, l2] st m Q = kJ 141 6 [l0, l1, l2] (.int (nI 2) :: st) m Q := kJ_next d141_5 rfl
theorem d141_6 : decode (mB 141) 6 = .ok (.invokevirtual 144, 3) := by decide +kernel
theorem s141_6 {l0 l1 l2 : Option Value} {v0 : Int32} {v1 : Int32} {v2 : Nat} {v3 : Int32} {v4 : Int32} {v5 : Nat} {m : kMem} {Q : Option Value → kMem → Prop} (h : kIs m.2.2.2 v2 5 = true) : kJ 141 6 [l0, l1, l2] [.int v0, .int v1, .ref v2, .int v3, .int v4, .ref v5] m Q = kJ 132 0 [some (.ref v2), some (.int v1), some (.int v0)] [] m (fun v m2 => kJ 141 9 [l0, l1, l2] (v.toList ++ [.int v3, .int v4, .ref v5]) m2 Q) := kJ_call d141_6 (kg_callv 132 2 rfl rfl rfl rfl (Nat.le_of_ble_eq_true rfl) (Nat.le_of_ble_eq_true rfl) (Nat.le_of_ble_eq_true rfl) h rfl)
theorem d141_9 : decode (mB 141) 9 = .ok (.iload_n 2, 1) := by decide +kernel
theorem s141_9 {l0 l1 : Option Value} {st : List Value} {x : Int32} {m : kMem} {Q : Option Value → kMem → Prop} : kJ 141 9 [l0, l1, some (.int x)] st m Q = kJ 141 10 [l0, l1, some (.int x)] (.int x :: st) m Q := kJ_next d141_9 rfl
theorem d141_10 : decode (mB 141) 10 = .ok (.iadd, 1) := by decide +kernel
theorem s141_10 {l0 l1 l2 : Option Value} {st : List Value} {a b : Int32} {m : kMem} {Q : Option Value → kMem → Prop} : kJ 141 10 [l0, l1, l2] (.int b :: .int a :: st) m Q = kJ 141 11 [l0, l1, l2] (.int (a + b) :: st) m Q := kJ_next d141_10 rfl
theorem d141_11 : decode (mB 141) 11 = .ok (.bipush 20, 2) := by decide +kernel
theorem s141_11 {l0 l1 l2 : Option Value} {st : List Value} {m : kMem} {Q : Option Value → kMem → Prop} : kJ 141 11 [l0, l1, l2] st m Q = kJ 141 13 [l0, l1, l2] (.int (nI 20) :: st) m Q := kJ_next d141_11 rfl
theorem d141_13 : decode (mB 141) 13 = .ok (.invokestatic 138, 3) := by decide +kernel
theorem s141_13 {l0 l1 l2 : Option Value} {v0 : Int32} {v1 : Int32} {v2 : Int32} {v3 : Int32} {v4 : Nat} {m : kMem} {Q : Option Value → kMem → Prop} : kJ 141 13 [l0, l1, l2] [.int v0, .int v1, .int v2, .int v3, .ref v4] m Q = kJ 109 0 [some (.int v1), some (.int v0)] [] m (fun v m2 => kJ 141 16 [l0, l1, l2] (v.toList ++ [.int v2, .int v3, .ref v4]) m2 Q) := kJ_call d141_13 (kg_calls 109 2 rfl rfl (Nat.le_of_ble_eq_true rfl) (Nat.le_of_ble_eq_true rfl) (Nat.le_of_ble_eq_true rfl) (Nat.le_of_ble_eq_true rfl))
theorem d141_16 : decode (mB 141) 16 = .ok (.invokevirtual 147, 3) := by decide +kernel
theorem s141_16 {l0 l1 l2 : Option Value} {v0 : Int32} {v1 : Int32} {v2 : Int32} {v3 : Nat} {m : kMem} {Q : Option Value → kMem → Prop} (h : kIs m.2.2.2 v3 5 = true) : kJ 141 16 [l0, l1, l2] [.int v0, .int v1, .int v2, .ref v3] m Q = kJ 133 0 [some (.ref v3), some (.int v2), some (.int v1), some (.int v0)] [] m (fun v m2 => kJ 141 19 [l0, l1, l2] (v.toList ++ []) m2 Q) := kJ_call d141_16 (kg_callv 133 3 rfl rfl rfl rfl (Nat.le_of_ble_eq_true rfl) (Nat.le_of_ble_eq_true rfl) (Nat.le_of_ble_eq_true rfl) h rfl)
theorem d141_19 : decode (mB 141) 19 = .ok (.aload_n 0, 1) := by decide +kernel
theorem s141_19 {l1 l2 : Option Value} {st : List Value} {x : Nat} {m : kMem} {Q : Option Value → kMem → Prop} : kJ 141 19 [some (.ref x), l1, l2] st m Q = kJ 141 20 [some (.ref x), l1, l2] (.ref x :: st) m Q := kJ_next d141_19 rfl
theorem d141_20 : decode (mB 141) 20 = .ok (.dup, 1) := by decide +kernel
theorem s141_20 {l0 l1 l2 : Option Value} {st : List Value} {a : Nat} {m : kMem} {Q : Option Value → kMem → Prop} : kJ 141 20 [l0, l1, l2] (.ref a :: st) m Q = kJ 141 21 [l0, l1, l2] (.ref a :: .ref a :: st) m Q := kJ_next d141_20 rfl
theorem d141_21 : decode (mB 141) 21 = .ok (.getfield 135, 3) := by decide +kernel
theorem s141_21 {l0 l1 l2 : Option Value} {st : List Value} {q : Nat} {mi : Nat → Nat → Int32} {ml : Nat → Nat → Int64} {mr : Nat → Nat → Option Nat} {nx : Nat} {Q : Option Value → kMem → Prop} (h : kIs nx q 5 = true) : kJ 141 21 [l0, l1, l2] (.ref q :: st) (mi, ml, mr, nx) Q = kJ 141 24 [l0, l1, l2] (.int (mi q 15) :: st) (mi, ml, mr, nx) Q := kJ_next d141_21 (kg_geti 5 15 rfl h (by decide))
theorem d141_24 : decode (mB 141) 24 = .ok (.iconst 1, 1) := by decide +kernel
theorem s141_24 {l0 l1 l2 : Option Value} {st : List Value} {m : kMem} {Q : Option Value → kMem → Prop} : kJ 141 24 [l0, l1, l2] st m Q = kJ 141 25 [l0, l1, l2] (.int (nI 1) :: st) m Q := kJ_next d141_24 rfl
theorem d141_25 : decode (mB 141) 25 = .ok (.iadd, 1) := by decide +kernel
theorem s141_25 {l0 l1 l2 : Option Value} {st : List Value} {a b : Int32} {m : kMem} {Q : Option Value → kMem → Prop} : kJ 141 25 [l0, l1, l2] (.int b :: .int a :: st) m Q = kJ 141 26 [l0, l1, l2] (.int (a + b) :: st) m Q := kJ_next d141_25 rfl
theorem d141_26 : decode (mB 141) 26 = .ok (.putfield 135, 3) := by decide +kernel
theorem s141_26 {l0 l1 l2 : Option Value} {st : List Value} {q : Nat} {x : Int32} {mi : Nat → Nat → Int32} {ml : Nat → Nat → Int64} {mr : Nat → Nat → Option Nat} {nx : Nat} {Q : Option Value → kMem → Prop} (h : kIs nx q 5 = true) : kJ 141 26 [l0, l1, l2] (.int x :: .ref q :: st) (mi, ml, mr, nx) Q = kJ 141 29 [l0, l1, l2] st (kup mi q 15 x, ml, mr, nx) Q := kJ_next d141_26 (kg_puti 5 15 rfl h (by decide) (Or.inl (by decide)))
theorem d141_29 : decode (mB 141) 29 = .ok (.return_, 1) := by decide +kernel
theorem s141_29 {l0 l1 l2 : Option Value} {m : kMem} {Q : Option Value → kMem → Prop} : kJ 141 29 [l0, l1, l2] [] m Q = Q none m := kJ_ret d141_29 rfl
theorem d142_0 : decode (mB 142) 0 = .ok (.aload_n 0, 1) := by decide +kernel
theorem s142_0 {l1 l2 l3 l4 l5 : Option Value} {st : List Value} {x : Nat} {m : kMem} {Q : Option Value → kMem → Prop} : kJ 142 0 [some (.ref x), l1, l2, l3, l4, l5] st m Q = kJ 142 1 [some (.ref x), l1, l2, l3, l4, l5] (.ref x :: st) m Q := kJ_next d142_0 rfl
theorem d142_1 : decode (mB 142) 1 = .ok (.iload_n 1, 1) := by decide +kernel
theorem s142_1 {l0 l2 l3 l4 l5 : Option Value} {st : List Value} {x : Int32} {m : kMem} {Q : Option Value → kMem → Prop} : kJ 142 1 [l0, some (.int x), l2, l3, l4, l5] st m Q = kJ 142 2 [l0, some (.int x), l2, l3, l4, l5] (.int x :: st) m Q := kJ_next d142_1 rfl
theorem d142_2 : decode (mB 142) 2 = .ok (.invokevirtual 151, 3) := by decide +kernel
theorem s142_2 {l0 l1 l2 l3 l4 l5 : Option Value} {v0 : Int32} {v1 : Nat} {m : kMem} {Q : Option Value → kMem → Prop} (h : kIs m.2.2.2 v1 5 = true) : kJ 142 2 [l0, l1, l2, l3, l4, l5] [.int v0, .ref v1] m Q = kJ 140 0 [some (.ref v1), some (.int v0)] [] m (fun v m2 => kJ 142 5 [l0, l1, l2, l3, l4, l5] (v.toList ++ []) m2 Q) := kJ_call d142_2 (kg_callv 140 1 rfl rfl rfl rfl (Nat.le_of_ble_eq_true rfl) (Nat.le_of_ble_eq_true rfl) (Nat.le_of_ble_eq_true rfl) h rfl)
theorem d142_5 : decode (mB 142) 5 = .ok (.istore_n 2, 1) := by decide +kernel
theorem s142_5 {l0 l1 l2 l3 l4 l5 : Option Value} {st : List Value} {x : Int32} {m : kMem} {Q : Option Value → kMem → Prop} (hp : kNL l1 = true) : kJ 142 5 [l0, l1, l2, l3, l4, l5] (.int x :: st) m Q = kJ 142 6 [l0, l1, some (.int x), l3, l4, l5] st m Q := kJ_next d142_5 (kg_sti (Nat.le_of_ble_eq_true rfl) hp)
theorem d142_6 : decode (mB 142) 6 = .ok (.aload_n 0, 1) := by decide +kernel
theorem s142_6 {l1 l2 l3 l4 l5 : Option Value} {st : List Value} {x : Nat} {m : kMem} {Q : Option Value → kMem → Prop} : kJ 142 6 [some (.ref x), l1, l2, l3, l4, l5] st m Q = kJ 142 7 [some (.ref x), l1, l2, l3, l4, l5] (.ref x :: st) m Q := kJ_next d142_6 rfl
theorem d142_7 : decode (mB 142) 7 = .ok (.iload_n 1, 1) := by decide +kernel
theorem s142_7 {l0 l2 l3 l4 l5 : Option Value} {st : List Value} {x : Int32} {m : kMem} {Q : Option Value → kMem → Prop} : kJ 142 7 [l0, some (.int x), l2, l3, l4, l5] st m Q = kJ 142 8 [l0, some (.int x), l2, l3, l4, l5] (.int x :: st) m Q := kJ_next d142_7 rfl
theorem d142_8 : decode (mB 142) 8 = .ok (.iconst 3, 1) := by decide +kernel
theorem s142_8 {l0 l1 l2 l3 l4 l5 : Option Value} {st : List Value} {m : kMem} {Q : Option Value → kMem → Prop} : kJ 142 8 [l0, l1, l2, l3, l4, l5] st m Q = kJ 142 9 [l0, l1, l2, l3, l4, l5] (.int (nI 3) :: st) m Q := kJ_next d142_8 rfl
theorem d142_9 : decode (mB 142) 9 = .ok (.invokevirtual 141, 3) := by decide +kernel
theorem s142_9 {l0 l1 l2 l3 l4 l5 : Option Value} {v0 : Int32} {v1 : Int32} {v2 : Nat} {m : kMem} {Q : Option Value → kMem → Prop} (h : kIs m.2.2.2 v2 5 = true) : kJ 142 9 [l0, l1, l2, l3, l4, l5] [.int v0, .int v1, .ref v2] m Q = kJ 134 0 [some (.ref v2), some (.int v1), some (.int v0)] [] m (fun v m2 => kJ 142 12 [l0, l1, l2, l3, l4, l5] (v.toList ++ []) m2 Q) := kJ_call d142_9 (kg_callv 134 2 rfl rfl rfl rfl (Nat.le_of_ble_eq_true rfl) (Nat.le_of_ble_eq_true rfl) (Nat.le_of_ble_eq_true rfl) h rfl)
theorem d142_12 : decode (mB 142) 12 = .ok (.istore_n 3, 1) := by decide +kernel
theorem s142_12 {l0 l1 l2 l3 l4 l5 : Option Value} {st : List Value} {x : Int32} {m : kMem} {Q : Option Value → kMem → Prop} (hp : kNL l2 = true) : kJ 142 12 [l0, l1, l2, l3, l4, l5] (.int x :: st) m Q = kJ 142 13 [l0, l1, l2, some (.int x), l4, l5] st m Q := kJ_next d142_12 (kg_sti (Nat.le_of_ble_eq_true rfl) hp)
theorem d142_13 : decode (mB 142) 13 = .ok (.aload_n 0, 1) := by decide +kernel
theorem s142_13 {l1 l2 l3 l4 l5 : Option Value} {st : List Value} {x : Nat} {m : kMem} {Q : Option Value → kMem → Prop} : kJ 142 13 [some (.ref x), l1, l2, l3, l4, l5] st m Q = kJ 142 14 [some (.ref x), l1, l2, l3, l4, l5] (.ref x :: st) m Q := kJ_next d142_13 rfl
theorem d142_14 : decode (mB 142) 14 = .ok (.iload_n 2, 1) := by decide +kernel
theorem s142_14 {l0 l1 l3 l4 l5 : Option Value} {st : List Value} {x : Int32} {m : kMem} {Q : Option Value → kMem → Prop} : kJ 142 14 [l0, l1, some (.int x), l3, l4, l5] st m Q = kJ 142 15 [l0, l1, some (.int x), l3, l4, l5] (.int x :: st) m Q := kJ_next d142_14 rfl
theorem d142_15 : decode (mB 142) 15 = .ok (.iconst 0, 1) := by decide +kernel
theorem s142_15 {l0 l1 l2 l3 l4 l5 : Option Value} {st : List Value} {m : kMem} {Q : Option Value → kMem → Prop} : kJ 142 15 [l0, l1, l2, l3, l4, l5] st m Q = kJ 142 16 [l0, l1, l2, l3, l4, l5] (.int (nI 0) :: st) m Q := kJ_next d142_15 rfl
theorem d142_16 : decode (mB 142) 16 = .ok (.invokevirtual 144, 3) := by decide +kernel
theorem s142_16 {l0 l1 l2 l3 l4 l5 : Option Value} {v0 : Int32} {v1 : Int32} {v2 : Nat} {m : kMem} {Q : Option Value → kMem → Prop} (h : kIs m.2.2.2 v2 5 = true) : kJ 142 16 [l0, l1, l2, l3, l4, l5] [.int v0, .int v1, .ref v2] m Q = kJ 132 0 [some (.ref v2), some (.int v1), some (.int v0)] [] m (fun v m2 => kJ 142 19 [l0, l1, l2, l3, l4, l5] (v.toList ++ []) m2 Q) := kJ_call d142_16 (kg_callv 132 2 rfl rfl rfl rfl (Nat.le_of_ble_eq_true rfl) (Nat.le_of_ble_eq_true rfl) (Nat.le_of_ble_eq_true rfl) h rfl)
theorem d142_19 : decode (mB 142) 19 = .ok (.istore 4, 2) := by decide +kernel
theorem s142_19 {l0 l1 l2 l3 l4 l5 : Option Value} {st : List Value} {x : Int32} {m : kMem} {Q : Option Value → kMem → Prop} (hp : kNL l3 = true) : kJ 142 19 [l0, l1, l2, l3, l4, l5] (.int x :: st) m Q = kJ 142 21 [l0, l1, l2, l3, some (.int x), l5] st m Q := kJ_next d142_19 (kg_sti (Nat.le_of_ble_eq_true rfl) hp)
theorem d142_21 : decode (mB 142) 21 = .ok (.iload 4, 2) := by decide +kernel
theorem s142_21 {l0 l1 l2 l3 l5 : Option Value} {st : List Value} {x : Int32} {m : kMem} {Q : Option Value → kMem → Prop} : kJ 142 21 [l0, l1, l2, l3, some (.int x), l5] st m Q = kJ 142 23 [l0, l1, l2, l3, some (.int x), l5] (.int x :: st) m Q := kJ_next d142_21 rfl
theorem d142_23 : decode (mB 142) 23 = .ok (.iload_n 3, 1) := by decide +kernel
theorem s142_23 {l0 l1 l2 l4 l5 : Option Value} {st : List Value} {x : Int32} {m : kMem} {Q : Option Value → kMem → Prop} : kJ 142 23 [l0, l1, l2, some (.int x), l4, l5] st m Q = kJ 142 24 [l0, l1, l2, some (.int x), l4, l5] (.int x :: st) m Q := kJ_next d142_23 rfl
theorem d142_24 : decode (mB 142) 24 = .ok (.invokestatic 154, 3) := by decide +kernel
theorem s142_24 {l0 l1 l2 l3 l4 l5 : Option Value} {v0 : Int32} {v1 : Int32} {m : kMem} {Q : Option Value → kMem → Prop} : kJ 142 24 [l0, l1, l2, l3, l4, l5] [.int v0, .int v1] m Q = kJ 136 0 [some (.int v1), some (.int v0), none, none] [] m (fun v m2 => kJ 142 27 [l0, l1, l2, l3, l4, l5] (v.toList ++ []) m2 Q) := kJ_call d142_24 (kg_calls 136 2 rfl rfl (Nat.le_of_ble_eq_true rfl) (Nat.le_of_ble_eq_true rfl) (Nat.le_of_ble_eq_true rfl) (Nat.le_of_ble_eq_true rfl))
theorem d142_27 : decode (mB 142) 27 = .ok (.istore 5, 2) := by decide +kernel
theorem s142_27 {l0 l1 l2 l3 l4 l5 : Option Value} {st : List Value} {x : Int32} {m : kMem} {Q : Option Value → kMem → Prop} (hp : kNL l4 = true) : kJ 142 27 [l0, l1, l2, l3, l4, l5] (.int x :: st) m Q = kJ 142 29 [l0, l1, l2, l3, l4, some (.int x)] st m Q := kJ_next d142_27 (kg_sti (Nat.le_of_ble_eq_true rfl) hp)
theorem d142_29 : decode (mB 142) 29 = .ok (.aload_n 0, 1) := by decide +kernel
theorem s142_29 {l1 l2 l3 l4 l5 : Option Value} {st : List Value} {x : Nat} {m : kMem} {Q : Option Value → kMem → Prop} : kJ 142 29 [some (.ref x), l1, l2, l3, l4, l5] st m Q = kJ 142 30 [some (.ref x), l1, l2, l3, l4, l5] (.ref x :: st) m Q := kJ_next d142_29 rfl
theorem d142_30 : decode (mB 142) 30 = .ok (.iload_n 1, 1) := by decide +kernel
theorem s142_30 {l0 l2 l3 l4 l5 : Option Value} {st : List Value} {x : Int32} {m : kMem} {Q : Option Value → kMem → Prop} : kJ 142 30 [l0, some (.int x), l2, l3, l4, l5] st m Q = kJ 142 31 [l0, some (.int x), l2, l3, l4, l5] (.int x :: st) m Q := kJ_next d142_30 rfl
theorem d142_31 : decode (mB 142) 31 = .ok (.iconst 5, 1) := by decide +kernel
theorem s142_31 {l0 l1 l2 l3 l4 l5 : Option Value} {st : List Value} {m : kMem} {Q : Option Value → kMem → Prop} : kJ 142 31 [l0, l1, l2, l3, l4, l5] st m Q = kJ 142 32 [l0, l1, l2, l3, l4, l5] (.int (nI 5) :: st) m Q := kJ_next d142_31 rfl
theorem d142_32 : decode (mB 142) 32 = .ok (.invokevirtual 141, 3) := by decide +kernel
theorem s142_32 {l0 l1 l2 l3 l4 l5 : Option Value} {v0 : Int32} {v1 : Int32} {v2 : Nat} {m : kMem} {Q : Option Value → kMem → Prop} (h : kIs m.2.2.2 v2 5 = true) : kJ 142 32 [l0, l1, l2, l3, l4, l5] [.int v0, .int v1, .ref v2] m Q = kJ 134 0 [some (.ref v2), some (.int v1), some (.int v0)] [] m (fun v m2 => kJ 142 35 [l0, l1, l2, l3, l4, l5] (v.toList ++ []) m2 Q) := kJ_call d142_32 (kg_callv 134 2 rfl rfl rfl rfl (Nat.le_of_ble_eq_true rfl) (Nat.le_of_ble_eq_true rfl) (Nat.le_of_ble_eq_true rfl) h rfl)
theorem d142_35 : decode (mB 142) 35 = .ok (.iconst 1, 1) := by decide +kernel
theorem s142_35 {l0 l1 l2 l3 l4 l5 : Option Value} {st : List Value} {m : kMem} {Q : Option Value → kMem → Prop} : kJ 142 35 [l0, l1, l2, l3, l4, l5] st m Q = kJ 142 36 [l0, l1, l2, l3, l4, l5] (.int (nI 1) :: st) m Q := kJ_next d142_35 rfl
theorem d142_36 : decode (mB 142) 36 = .ok (.if_icmp .ne 30, 3) := by decide +kernel
theorem s142_36 {l0 l1 l2 l3 l4 l5 : Option Value} {st : List Value} {a b : Int32} {m : kMem} {Q : Option Value → kMem → Prop} : kJ 142 36 [l0, l1, l2, l3, l4, l5] (.int b :: .int a :: st) m Q = (if a = b then kJ 142 39 [l0, l1, l2, l3, l4, l5] st m Q else kJ 142 66 [l0, l1, l2, l3, l4, l5] st m Q) := kJ_if d142_36 rfl (fun h => kJ_next d142_36 h) (fun h => kJ_next d142_36 h)
theorem d142_39 : decode (mB 142) 39 = .ok (.aload_n 0, 1) := by decide +kernel
theorem s142_39 {l1 l2 l3 l4 l5 : Option Value} {st : List Value} {x : Nat} {m : kMem} {Q : Option Value → kMem → Prop} : kJ 142 39 [some (.ref x), l1, l2, l3, l4, l5] st m Q = kJ 142 40 [some (.ref x), l1, l2, l3, l4, l5] (.ref x :: st) m Q := kJ_next d142_39 rfl
theorem d142_40 : decode (mB 142) 40 = .ok (.iload_n 2, 1) := by decide +kernel
theorem s142_40 {l0 l1 l3 l4 l5 : Option Value} {st : List Value} {x : Int32} {m : kMem} {Q : Option Value → kMem → Prop} : kJ 142 40 [l0, l1, some (.int x), l3, l4, l5] st m Q = kJ 142 41 [l0, l1, some (.int x), l3, l4, l5] (.int x :: st) m Q := kJ_next d142_40 rfl
theorem d142_41 : decode (mB 142) 41 = .ok (.iload 5, 2) := by decide +kernel
theorem s142_41 {l0 l1 l2 l3 l4 : Option Value} {st : List Value} {x : Int32} {m : kMem} {Q : Option Value → kMem → Prop} : kJ 142 41 [l0, l1, l2, l3, l4, some (.int x)] st m Q = kJ 142 43 [l0, l1, l2, l3, l4, some (.int x)] (.int x :: st) m Q := kJ_next d142_41 rfl
theorem d142_43 : decode (mB 142) 43 = .ok (.iconst 2, 1) := by decide +kernel
theorem s142_43 {l0 l1 l2 l3 l4 l5 : Option Value} {st : List Value} {m : kMem} {Q : Option Value → kMem → Prop} : kJ 142 43 [l0, l1, l2, l3, l4, l5] st m Q = kJ 142 44 [l0, l1, l2, l3, l4, l5] (.int (nI 2) :: st) m Q := kJ_next d142_43 rfl
theorem d142_44 : decode (mB 142) 44 = .ok (.idiv, 1) := by decide +kernel
theorem s142_44 {l0 l1 l2 l3 l4 l5 : Option Value} {st : List Value} {a b : Int32} {m : kMem} {Q : Option Value → kMem → Prop} (hb : ¬ b = 0) : kJ 142 44 [l0, l1, l2, l3, l4, l5] (.int b :: .int a :: st) m Q = kJ 142 45 [l0, l1, l2, l3, l4, l5] (.int (a / b) :: st) m Q := kJ_next d142_44 (kg_idiv hb)
theorem d142_45 : decode (mB 142) 45 = .ok (.invokevirtual 157, 3) := by decide +kernel
theorem s142_45 {l0 l1 l2 l3 l4 l5 : Option Value} {v0 : Int32} {v1 : Int32} {v2 : Nat} {m : kMem} {Q : Option Value → kMem → Prop} (h : kIs m.2.2.2 v2 5 = true) : kJ 142 45 [l0, l1, l2, l3, l4, l5] [.int v0, .int v1, .ref v2] m Q = kJ 141 0 [some (.ref v2), some (.int v1), some (.int v0)] [] m (fun v m2 => kJ 142 48 [l0, l1, l2, l3, l4, l5] (v.toList ++ []) m2 Q) := kJ_call d142_45 (kg_callv 141 2 rfl rfl rfl rfl (Nat.le_of_ble_eq_true rfl) (Nat.le_of_ble_eq_true rfl) (Nat.le_of_ble_eq_true rfl) h rfl)
theorem d142_48 : decode (mB 142) 48 = .ok (.aload_n 0, 1) := by decide +kernel
theorem s142_48 {l1 l2 l3 l4 l5 : Option Value} {st : List Value} {x : Nat} {m : kMem} {Q : Option Value → kMem → Prop} : kJ 142 48 [some (.ref x), l1, l2, l3, l4, l5] st m Q = kJ 142 49 [some (.ref x), l1, l2, l3, l4, l5] (.ref x :: st) m Q := kJ_next d142_48 rfl
theorem d142_49 : decode (mB 142) 49 = .ok (.iload_n 1, 1) := by decide +kernel
theorem s142_49 {l0 l2 l3 l4 l5 : Option Value} {st : List Value} {x : Int32} {m : kMem} {Q : Option Value → kMem → Prop} : kJ 142 49 [l0, some (.int x), l2, l3, l4, l5] st m Q = kJ 142 50 [l0, some (.int x), l2, l3, l4, l5] (.int x :: st) m Q := kJ_next d142_49 rfl
theorem d142_50 : decode (mB 142) 50 = .ok (.iconst 5, 1) := by decide +kernel
theorem s142_50 {l0 l1 l2 l3 l4 l5 : Option Value} {st : List Value} {m : kMem} {Q : Option Value → kMem → Prop} : kJ 142 50 [l0, l1, l2, l3, l4, l5] st m Q = kJ 142 51 [l0, l1, l2, l3, l4, l5] (.int (nI 5) :: st) m Q := kJ_next d142_50 rfl
theorem d142_51 : decode (mB 142) 51 = .ok (.iconst 2, 1) := by decide +kernel
theorem s142_51 {l0 l1 l2 l3 l4 l5 : Option Value} {st : List Value} {m : kMem} {Q : Option Value → kMem → Prop} : kJ 142 51 [l0, l1, l2, l3, l4, l5] st m Q = kJ 142 52 [l0, l1, l2, l3, l4, l5] (.int (nI 2) :: st) m Q := kJ_next d142_51 rfl
theorem d142_52 : decode (mB 142) 52 = .ok (.invokevirtual 161, 3) := by decide +kernel
theorem s142_52 {l0 l1 l2 l3 l4 l5 : Option Value} {v0 : Int32} {v1 : Int32} {v2 : Int32} {v3 : Nat} {m : kMem} {Q : Option Value → kMem → Prop} (h : kIs m.2.2.2 v3 5 = true) : kJ 142 52 [l0, l1, l2, l3, l4, l5] [.int v0, .int v1, .int v2, .ref v3] m Q = kJ 135 0 [some (.ref v3), some (.int v2), some (.int v1), some (.int v0)] [] m (fun v m2 => kJ 142 55 [l0, l1, l2, l3, l4, l5] (v.toList ++ []) m2 Q) := kJ_call d142_52 (kg_callv 135 3 rfl rfl rfl rfl (Nat.le_of_ble_eq_true rfl) (Nat.le_of_ble_eq_true rfl) (Nat.le_of_ble_eq_true rfl) h rfl)
theorem d142_55 : decode (mB 142) 55 = .ok (.aload_n 0, 1) := by decide +kernel
theorem s142_55 {l1 l2 l3 l4 l5 : Option Value} {st : List Value} {x : Nat} {m : kMem} {Q : Option Value → kMem → Prop} : kJ 142 55 [some (.ref x), l1, l2, l3, l4, l5] st m Q = kJ 142 56 [some (.ref x), l1, l2, l3, l4, l5] (.ref x :: st) m Q := kJ_next d142_55 rfl
theorem d142_56 : decode (mB 142) 56 = .ok (.dup, 1) := by decide +kernel
theorem s142_56 {l0 l1 l2 l3 l4 l5 : Option Value} {st : List Value} {a : Nat} {m : kMem} {Q : Option Value → kMem → Prop} : kJ 142 56 [l0, l1, l2, l3, l4, l5] (.ref a :: st) m Q = kJ 142 57 [l0, l1, l2, l3, l4, l5] (.ref a :: .ref a :: st) m Q := kJ_next d142_56 rfl
theorem d142_57 : decode (mB 142) 57 = .ok (.getfield 132, 3) := by decide +kernel
theorem s142_57 {l0 l1 l2 l3 l4 l5 : Option Value} {st : List Value} {q : Nat} {mi : Nat → Nat → Int32} {ml : Nat → Nat → Int64} {mr : Nat → Nat → Option Nat} {nx : Nat} {Q : Option Value → kMem → Prop} (h : kIs nx q 5 = true) : kJ 142 57 [l0, l1, l2, l3, l4, l5] (.ref q :: st) (mi, ml, mr, nx) Q = kJ 142 60 [l0, l1, l2, l3, l4, l5] (.int (mi q 14) :: st) (mi, ml, mr, nx) Q := kJ_next d142_57 (kg_geti 5 14 rfl h (by decide))
theorem d142_60 : decode (mB 142) 60 = .ok (.iconst 1, 1) := by decide +kernel
theorem s142_60 {l0 l1 l2 l3 l4 l5 : Option Value} {st : List Value} {m : kMem} {Q : Option Value → kMem → Prop} : kJ 142 60 [l0, l1, l2, l3, l4, l5] st m Q = kJ 142 61 [l0, l1, l2, l3, l4, l5] (.int (nI 1) :: st) m Q := kJ_next d142_60 rfl
theorem d142_61 : decode (mB 142) 61 = .ok (.iadd, 1) := by decide +kernel
theorem s142_61 {l0 l1 l2 l3 l4 l5 : Option Value} {st : List Value} {a b : Int32} {m : kMem} {Q : Option Value → kMem → Prop} : kJ 142 61 [l0, l1, l2, l3, l4, l5] (.int b :: .int a :: st) m Q = kJ 142 62 [l0, l1, l2, l3, l4, l5] (.int (a + b) :: st) m Q := kJ_next d142_61 rfl
theorem d142_62 : decode (mB 142) 62 = .ok (.putfield 132, 3) := by decide +kernel
theorem s142_62 {l0 l1 l2 l3 l4 l5 : Option Value} {st : List Value} {q : Nat} {x : Int32} {mi : Nat → Nat → Int32} {ml : Nat → Nat → Int64} {mr : Nat → Nat → Option Nat} {nx : Nat} {Q : Option Value → kMem → Prop} (h : kIs nx q 5 = true) : kJ 142 62 [l0, l1, l2, l3, l4, l5] (.int x :: .ref q :: st) (mi, ml, mr, nx) Q = kJ 142 65 [l0, l1, l2, l3, l4, l5] st (kup mi q 14 x, ml, mr, nx) Q := kJ_next d142_62 (kg_puti 5 14 rfl h (by decide) (Or.inl (by decide)))
theorem d142_65 : decode (mB 142) 65 = .ok (.return_, 1) := by decide +kernel
theorem s142_65 {l0 l1 l2 l3 l4 l5 : Option Value} {m : kMem} {Q : Option Value → kMem → Prop} : kJ 142 65 [l0, l1, l2, l3, l4, l5] [] m Q = Q none m := kJ_ret d142_65 rfl
theorem d142_66 : decode (mB 142) 66 = .ok (.aload_n 0, 1) := by decide +kernel
theorem s142_66 {l1 l2 l3 l4 l5 : Option Value} {st : List Value} {x : Nat} {m : kMem} {Q : Option Value → kMem → Prop} : kJ 142 66 [some (.ref x), l1, l2, l3, l4, l5] st m Q = kJ 142 67 [some (.ref x), l1, l2, l3, l4, l5] (.ref x :: st) m Q := kJ_next d142_66 rfl
theorem d142_67 : decode (mB 142) 67 = .ok (.iload_n 2, 1) := by decide +kernel
theorem s142_67 {l0 l1 l3 l4 l5 : Option Value} {st : List Value} {x : Int32} {m : kMem} {Q : Option Value → kMem → Prop} : kJ 142 67 [l0, l1, some (.int x), l3, l4, l5] st m Q = kJ 142 68 [l0, l1, some (.int x), l3, l4, l5] (.int x :: st) m Q := kJ_next d142_67 rfl
theorem d142_68 : decode (mB 142) 68 = .ok (.iload 5, 2) := by decide +kernel
theorem s142_68 {l0 l1 l2 l3 l4 : Option Value} {st : List Value} {x : Int32} {m : kMem} {Q : Option Value → kMem → Prop} : kJ 142 68 [l0, l1, l2, l3, l4, some (.int x)] st m Q = kJ 142 70 [l0, l1, l2, l3, l4, some (.int x)] (.int x :: st) m Q := kJ_next d142_68 rfl
theorem d142_70 : decode (mB 142) 70 = .ok (.invokevirtual 157, 3) := by decide +kernel
theorem s142_70 {l0 l1 l2 l3 l4 l5 : Option Value} {v0 : Int32} {v1 : Int32} {v2 : Nat} {m : kMem} {Q : Option Value → kMem → Prop} (h : kIs m.2.2.2 v2 5 = true) : kJ 142 70 [l0, l1, l2, l3, l4, l5] [.int v0, .int v1, .ref v2] m Q = kJ 141 0 [some (.ref v2), some (.int v1), some (.int v0)] [] m (fun v m2 => kJ 142 73 [l0, l1, l2, l3, l4, l5] (v.toList ++ []) m2 Q) := kJ_call d142_70 (kg_callv 141 2 rfl rfl rfl rfl (Nat.le_of_ble_eq_true rfl) (Nat.le_of_ble_eq_true rfl) (Nat.le_of_ble_eq_true rfl) h rfl)
theorem d142_73 : decode (mB 142) 73 = .ok (.aload_n 0, 1) := by decide +kernel
theorem s142_73 {l1 l2 l3 l4 l5 : Option Value} {st : List Value} {x : Nat} {m : kMem} {Q : Option Value → kMem → Prop} : kJ 142 73 [some (.ref x), l1, l2, l3, l4, l5] st m Q = kJ 142 74 [some (.ref x), l1, l2, l3, l4, l5] (.ref x :: st) m Q := kJ_next d142_73 rfl
theorem d142_74 : decode (mB 142) 74 = .ok (.iload_n 1, 1) := by decide +kernel
theorem s142_74 {l0 l2 l3 l4 l5 : Option Value} {st : List Value} {x : Int32} {m : kMem} {Q : Option Value → kMem → Prop} : kJ 142 74 [l0, some (.int x), l2, l3, l4, l5] st m Q = kJ 142 75 [l0, some (.int x), l2, l3, l4, l5] (.int x :: st) m Q := kJ_next d142_74 rfl
theorem d142_75 : decode (mB 142) 75 = .ok (.iconst 5, 1) := by decide +kernel
theorem s142_75 {l0 l1 l2 l3 l4 l5 : Option Value} {st : List Value} {m : kMem} {Q : Option Value → kMem → Prop} : kJ 142 75 [l0, l1, l2, l3, l4, l5] st m Q = kJ 142 76 [l0, l1, l2, l3, l4, l5] (.int (nI 5) :: st) m Q := kJ_next d142_75 rfl
theorem d142_76 : decode (mB 142) 76 = .ok (.iload 4, 2) := by decide +kernel
theorem s142_76 {l0 l1 l2 l3 l5 : Option Value} {st : List Value} {x : Int32} {m : kMem} {Q : Option Value → kMem → Prop} : kJ 142 76 [l0, l1, l2, l3, some (.int x), l5] st m Q = kJ 142 78 [l0, l1, l2, l3, some (.int x), l5] (.int x :: st) m Q := kJ_next d142_76 rfl
theorem d142_78 : decode (mB 142) 78 = .ok (.iload_n 3, 1) := by decide +kernel
theorem s142_78 {l0 l1 l2 l4 l5 : Option Value} {st : List Value} {x : Int32} {m : kMem} {Q : Option Value → kMem → Prop} : kJ 142 78 [l0, l1, l2, some (.int x), l4, l5] st m Q = kJ 142 79 [l0, l1, l2, some (.int x), l4, l5] (.int x :: st) m Q := kJ_next d142_78 rfl
theorem d142_79 : decode (mB 142) 79 = .ok (.invokestatic 164, 3) := by decide +kernel
theorem s142_79 {l0 l1 l2 l3 l4 l5 : Option Value} {v0 : Int32} {v1 : Int32} {v2 : Int32} {v3 : Int32} {v4 : Nat} {m : kMem} {Q : Option Value → kMem → Prop} : kJ 142 79 [l0, l1, l2, l3, l4, l5] [.int v0, .int v1, .int v2, .int v3, .ref v4] m Q = kJ 137 0 [some (.int v1), some (.int v0), none] [] m (fun v m2 => kJ 142 82 [l0, l1, l2, l3, l4, l5] (v.toList ++ [.int v2, .int v3, .ref v4]) m2 Q) := kJ_call d142_79 (kg_calls 137 2 rfl rfl (Nat.le_of_ble_eq_true rfl) (Nat.le_of_ble_eq_true rfl) (Nat.le_of_ble_eq_true rfl) (Nat.le_of_ble_eq_true rfl))
theorem d142_82 : decode (mB 142) 82 = .ok (.ifCond .eq 7, 3) := by decide +kernel
theorem s142_82 {l0 l1 l2 l3 l4 l5 : Option Value} {st : List Value} {a : Int32} {m : kMem} {Q : Option Value → kMem → Prop} : kJ 142 82 [l0, l1, l2, l3, l4, l5] (.int a :: st) m Q = (if a = 0 then kJ 142 89 [l0, l1, l2, l3, l4, l5] st m Q else kJ 142 85 [l0, l1, l2, l3, l4, l5] st m Q) := kJ_if d142_82 rfl (fun h => kJ_next d142_82 h) (fun h => kJ_next d142_82 h)
theorem d142_85 : decode (mB 142) 85 = .ok (.iconst 1, 1) := by decide +kernel
theorem s142_85 {l0 l1 l2 l3 l4 l5 : Option Value} {st : List Value} {m : kMem} {Q : Option Value → kMem → Prop} : kJ 142 85 [l0, l1, l2, l3, l4, l5] st m Q = kJ 142 86 [l0, l1, l2, l3, l4, l5] (.int (nI 1) :: st) m Q := kJ_next d142_85 rfl
theorem d142_86 : decode (mB 142) 86 = .ok (.goto 4, 3) := by decide +kernel
theorem s142_86 {l0 l1 l2 l3 l4 l5 : Option Value} {st : List Value} {m : kMem} {Q : Option Value → kMem → Prop} : kJ 142 86 [l0, l1, l2, l3, l4, l5] st m Q = kJ 142 90 [l0, l1, l2, l3, l4, l5] st m Q := kJ_next d142_86 rfl
theorem d142_89 : decode (mB 142) 89 = .ok (.iconst 3, 1) := by decide +kernel
theorem s142_89 {l0 l1 l2 l3 l4 l5 : Option Value} {st : List Value} {m : kMem} {Q : Option Value → kMem → Prop} : kJ 142 89 [l0, l1, l2, l3, l4, l5] st m Q = kJ 142 90 [l0, l1, l2, l3, l4, l5] (.int (nI 3) :: st) m Q := kJ_next d142_89 rfl
theorem d142_90 : decode (mB 142) 90 = .ok (.invokevirtual 161, 3) := by decide +kernel
theorem s142_90 {l0 l1 l2 l3 l4 l5 : Option Value} {v0 : Int32} {v1 : Int32} {v2 : Int32} {v3 : Nat} {m : kMem} {Q : Option Value → kMem → Prop} (h : kIs m.2.2.2 v3 5 = true) : kJ 142 90 [l0, l1, l2, l3, l4, l5] [.int v0, .int v1, .int v2, .ref v3] m Q = kJ 135 0 [some (.ref v3), some (.int v2), some (.int v1), some (.int v0)] [] m (fun v m2 => kJ 142 93 [l0, l1, l2, l3, l4, l5] (v.toList ++ []) m2 Q) := kJ_call d142_90 (kg_callv 135 3 rfl rfl rfl rfl (Nat.le_of_ble_eq_true rfl) (Nat.le_of_ble_eq_true rfl) (Nat.le_of_ble_eq_true rfl) h rfl)
theorem d142_93 : decode (mB 142) 93 = .ok (.aload_n 0, 1) := by decide +kernel
theorem s142_93 {l1 l2 l3 l4 l5 : Option Value} {st : List Value} {x : Nat} {m : kMem} {Q : Option Value → kMem → Prop} : kJ 142 93 [some (.ref x), l1, l2, l3, l4, l5] st m Q = kJ 142 94 [some (.ref x), l1, l2, l3, l4, l5] (.ref x :: st) m Q := kJ_next d142_93 rfl
theorem d142_94 : decode (mB 142) 94 = .ok (.iload_n 1, 1) := by decide +kernel
theorem s142_94 {l0 l2 l3 l4 l5 : Option Value} {st : List Value} {x : Int32} {m : kMem} {Q : Option Value → kMem → Prop} : kJ 142 94 [l0, some (.int x), l2, l3, l4, l5] st m Q = kJ 142 95 [l0, some (.int x), l2, l3, l4, l5] (.int x :: st) m Q := kJ_next d142_94 rfl
theorem d142_95 : decode (mB 142) 95 = .ok (.iconst 3, 1) := by decide +kernel
theorem s142_95 {l0 l1 l2 l3 l4 l5 : Option Value} {st : List Value} {m : kMem} {Q : Option Value → kMem → Prop} : kJ 142 95 [l0, l1, l2, l3, l4, l5] st m Q = kJ 142 96 [l0, l1, l2, l3, l4, l5] (.int (nI 3) :: st) m Q := kJ_next d142_95 rfl
theorem d142_96 : decode (mB 142) 96 = .ok (.iload 4, 2) := by decide +kernel
theorem s142_96 {l0 l1 l2 l3 l5 : Option Value} {st : List Value} {x : Int32} {m : kMem} {Q : Option Value → kMem → Prop} : kJ 142 96 [l0, l1, l2, l3, some (.int x), l5] st m Q = kJ 142 98 [l0, l1, l2, l3, some (.int x), l5] (.int x :: st) m Q := kJ_next d142_96 rfl
theorem d142_98 : decode (mB 142) 98 = .ok (.iload_n 3, 1) := by decide +kernel
theorem s142_98 {l0 l1 l2 l4 l5 : Option Value} {st : List Value} {x : Int32} {m : kMem} {Q : Option Value → kMem → Prop} : kJ 142 98 [l0, l1, l2, some (.int x), l4, l5] st m Q = kJ 142 99 [l0, l1, l2, some (.int x), l4, l5] (.int x :: st) m Q := kJ_next d142_98 rfl
theorem d142_99 : decode (mB 142) 99 = .ok (.invokestatic 164, 3) := by decide +kernel
theorem s142_99 {l0 l1 l2 l3 l4 l5 : Option Value} {v0 : Int32} {v1 : Int32} {v2 : Int32} {v3 : Int32} {v4 : Nat} {m : kMem} {Q : Option Value → kMem → Prop} : kJ 142 99 [l0, l1, l2, l3, l4, l5] [.int v0, .int v1, .int v2, .int v3, .ref v4] m Q = kJ 137 0 [some (.int v1), some (.int v0), none] [] m (fun v m2 => kJ 142 102 [l0, l1, l2, l3, l4, l5] (v.toList ++ [.int v2, .int v3, .ref v4]) m2 Q) := kJ_call d142_99 (kg_calls 137 2 rfl rfl (Nat.le_of_ble_eq_true rfl) (Nat.le_of_ble_eq_true rfl) (Nat.le_of_ble_eq_true rfl) (Nat.le_of_ble_eq_true rfl))
theorem d142_102 : decode (mB 142) 102 = .ok (.ifCond .eq 12, 3) := by decide +kernel
theorem s142_102 {l0 l1 l2 l3 l4 l5 : Option Value} {st : List Value} {a : Int32} {m : kMem} {Q : Option Value → kMem → Prop} : kJ 142 102 [l0, l1, l2, l3, l4, l5] (.int a :: st) m Q = (if a = 0 then kJ 142 114 [l0, l1, l2, l3, l4, l5] st m Q else kJ 142 105 [l0, l1, l2, l3, l4, l5] st m Q) := kJ_if d142_102 rfl (fun h => kJ_next d142_102 h) (fun h => kJ_next d142_102 h)
theorem d142_105 : decode (mB 142) 105 = .ok (.iload 4, 2) := by decide +kernel
theorem s142_105 {l0 l1 l2 l3 l5 : Option Value} {st : List Value} {x : Int32} {m : kMem} {Q : Option Value → kMem → Prop} : kJ 142 105 [l0, l1, l2, l3, some (.int x), l5] st m Q = kJ 142 107 [l0, l1, l2, l3, some (.int x), l5] (.int x :: st) m Q := kJ_next d142_105 rfl
theorem d142_107 : decode (mB 142) 107 = .ok (.iload_n 3, 1) := by decide +kernel
theorem s142_107 {l0 l1 l2 l4 l5 : Option Value} {st : List Value} {x : Int32} {m : kMem} {Q : Option Value → kMem → Prop} : kJ 142 107 [l0, l1, l2, some (.int x), l4, l5] st m Q = kJ 142 108 [l0, l1, l2, some (.int x), l4, l5] (.int x :: st) m Q := kJ_next d142_107 rfl
theorem d142_108 : decode (mB 142) 108 = .ok (.invokestatic 168, 3) := by decide +kernel
theorem s142_108 {l0 l1 l2 l3 l4 l5 : Option Value} {v0 : Int32} {v1 : Int32} {v2 : Int32} {v3 : Int32} {v4 : Nat} {m : kMem} {Q : Option Value → kMem → Prop} : kJ 142 108 [l0, l1, l2, l3, l4, l5] [.int v0, .int v1, .int v2, .int v3, .ref v4] m Q = kJ 138 0 [some (.int v1), some (.int v0)] [] m (fun v m2 => kJ 142 111 [l0, l1, l2, l3, l4, l5] (v.toList ++ [.int v2, .int v3, .ref v4]) m2 Q) := kJ_call d142_108 (kg_calls 138 2 rfl rfl (Nat.le_of_ble_eq_true rfl) (Nat.le_of_ble_eq_true rfl) (Nat.le_of_ble_eq_true rfl) (Nat.le_of_ble_eq_true rfl))
theorem d142_111 : decode (mB 142) 111 = .ok (.goto 4, 3) := by decide +kernel
theorem s142_111 {l0 l1 l2 l3 l4 l5 : Option Value} {st : List Value} {m : kMem} {Q : Option Value → kMem → Prop} : kJ 142 111 [l0, l1, l2, l3, l4, l5] st m Q = kJ 142 115 [l0, l1, l2, l3, l4, l5] st m Q := kJ_next d142_111 rfl
theorem d142_114 : decode (mB 142) 114 = .ok (.iload_n 3, 1) := by decide +kernel
theorem s142_114 {l0 l1 l2 l4 l5 : Option Value} {st : List Value} {x : Int32} {m : kMem} {Q : Option Value → kMem → Prop} : kJ 142 114 [l0, l1, l2, some (.int x), l4, l5] st m Q = kJ 142 115 [l0, l1, l2, some (.int x), l4, l5] (.int x :: st) m Q := kJ_next d142_114 rfl
theorem d142_115 : decode (mB 142) 115 = .ok (.invokevirtual 161, 3) := by decide +kernel
theorem s142_115 {l0 l1 l2 l3 l4 l5 : Option Value} {v0 : Int32} {v1 : Int32} {v2 : Int32} {v3 : Nat} {m : kMem} {Q : Option Value → kMem → Prop} (h : kIs m.2.2.2 v3 5 = true) : kJ 142 115 [l0, l1, l2, l3, l4, l5] [.int v0, .int v1, .int v2, .ref v3] m Q = kJ 135 0 [some (.ref v3), some (.int v2), some (.int v1), some (.int v0)] [] m (fun v m2 => kJ 142 118 [l0, l1, l2, l3, l4, l5] (v.toList ++ []) m2 Q) := kJ_call d142_115 (kg_callv 135 3 rfl rfl rfl rfl (Nat.le_of_ble_eq_true rfl) (Nat.le_of_ble_eq_true rfl) (Nat.le_of_ble_eq_true rfl) h rfl)
theorem d142_118 : decode (mB 142) 118 = .ok (.return_, 1) := by decide +kernel
theorem s142_118 {l0 l1 l2 l3 l4 l5 : Option Value} {m : kMem} {Q : Option Value → kMem → Prop} : kJ 142 118 [l0, l1, l2, l3, l4, l5] [] m Q = Q none m := kJ_ret d142_118 rfl
theorem d143_0 : decode (mB 143) 0 = .ok (.aload_n 0, 1) := by decide +kernel
theorem s143_0 {l1 l2 l3 l4 l5 l6 : Option Value} {st : List Value} {x : Nat} {m : kMem} {Q : Option Value → kMem → Prop} : kJ 143 0 [some (.ref x), l1, l2, l3, l4, l5, l6] st m Q = kJ 143 1 [some (.ref x), l1, l2, l3, l4, l5, l6] (.ref x :: st) m Q := kJ_next d143_0 rfl
theorem d143_1 : decode (mB 143) 1 = .ok (.aload_n 0, 1) := by decide +kernel
theorem s143_1 {l1 l2 l3 l4 l5 l6 : Option Value} {st : List Value} {x : Nat} {m : kMem} {Q : Option Value → kMem → Prop} : kJ 143 1 [some (.ref x), l1, l2, l3, l4, l5, l6] st m Q = kJ 143 2 [some (.ref x), l1, l2, l3, l4, l5, l6] (.ref x :: st) m Q := kJ_next d143_1 rfl
theorem d143_2 : decode (mB 143) 2 = .ok (.iload_n 1, 1) := by decide +kernel
theorem s143_2 {l0 l2 l3 l4 l5 l6 : Option Value} {st : List Value} {x : Int32} {m : kMem} {Q : Option Value → kMem → Prop} : kJ 143 2 [l0, some (.int x), l2, l3, l4, l5, l6] st m Q = kJ 143 3 [l0, some (.int x), l2, l3, l4, l5, l6] (.int x :: st) m Q := kJ_next d143_2 rfl
theorem d143_3 : decode (mB 143) 3 = .ok (.invokevirtual 151, 3) := by decide +kernel
theorem s143_3 {l0 l1 l2 l3 l4 l5 l6 : Option Value} {v0 : Int32} {v1 : Nat} {v2 : Nat} {m : kMem} {Q : Option Value → kMem → Prop} (h : kIs m.2.2.2 v1 5 = true) : kJ 143 3 [l0, l1, l2, l3, l4, l5, l6] [.int v0, .ref v1, .ref v2] m Q = kJ 140 0 [some (.ref v1), some (.int v0)] [] m (fun v m2 => kJ 143 6 [l0, l1, l2, l3, l4, l5, l6] (v.toList ++ [.ref v2]) m2 Q) := kJ_call d143_3 (kg_callv 140 1 rfl rfl rfl rfl (Nat.le_of_ble_eq_true rfl) (Nat.le_of_ble_eq_true rfl) (Nat.le_of_ble_eq_true rfl) h rfl)
theorem d143_6 : decode (mB 143) 6 = .ok (.iconst 1, 1) := by decide +kernel
theorem s143_6 {l0 l1 l2 l3 l4 l5 l6 : Option Value} {st : List Value} {m : kMem} {Q : Option Value → kMem → Prop} : kJ 143 6 [l0, l1, l2, l3, l4, l5, l6] st m Q = kJ 143 7 [l0, l1, l2, l3, l4, l5, l6] (.int (nI 1) :: st) m Q := kJ_next d143_6 rfl
theorem d143_7 : decode (mB 143) 7 = .ok (.invokevirtual 144, 3) := by decide +kernel
theorem s143_7 {l0 l1 l2 l3 l4 l5 l6 : Option Value} {v0 : Int32} {v1 : Int32} {v2 : Nat} {m : kMem} {Q : Option Value → kMem → Prop} (h : kIs m.2.2.2 v2 5 = true) : kJ 143 7 [l0, l1, l2, l3, l4, l5, l6] [.int v0, .int v1, .ref v2] m Q = kJ 132 0 [some (.ref v2), some (.int v1), some (.int v0)] [] m (fun v m2 => kJ 143 10 [l0, l1, l2, l3, l4, l5, l6] (v.toList ++ []) m2 Q) := kJ_call d143_7 (kg_callv 132 2 rfl rfl rfl rfl (Nat.le_of_ble_eq_true rfl) (Nat.le_of_ble_eq_true rfl) (Nat.le_of_ble_eq_true rfl) h rfl)
theorem d143_10 : decode (mB 143) 10 = .ok (.istore_n 2, 1) := by decide +kernel
theorem s143_10 {l0 l1 l2 l3 l4 l5 l6 : Option Value} {st : List Value} {x : Int32} {m : kMem} {Q : Option Value → kMem → Prop} (hp : kNL l1 = true) : kJ 143 10 [l0, l1, l2, l3, l4, l5, l6] (.int x :: st) m Q = kJ 143 11 [l0, l1, some (.int x), l3, l4, l5, l6] st m Q := kJ_next d143_10 (kg_sti (Nat.le_of_ble_eq_true rfl) hp)
theorem d143_11 : decode (mB 143) 11 = .ok (.aload_n 0, 1) := by decide +kernel
theorem s143_11 {l1 l2 l3 l4 l5 l6 : Option Value} {st : List Value} {x : Nat} {m : kMem} {Q : Option Value → kMem → Prop} : kJ 143 11 [some (.ref x), l1, l2, l3, l4, l5, l6] st m Q = kJ 143 12 [some (.ref x), l1, l2, l3, l4, l5, l6] (.ref x :: st) m Q := kJ_next d143_11 rfl
theorem d143_12 : decode (mB 143) 12 = .ok (.iload_n 1, 1) := by decide +kernel
theorem s143_12 {l0 l2 l3 l4 l5 l6 : Option Value} {st : List Value} {x : Int32} {m : kMem} {Q : Option Value → kMem → Prop} : kJ 143 12 [l0, some (.int x), l2, l3, l4, l5, l6] st m Q = kJ 143 13 [l0, some (.int x), l2, l3, l4, l5, l6] (.int x :: st) m Q := kJ_next d143_12 rfl
theorem d143_13 : decode (mB 143) 13 = .ok (.iconst 4, 1) := by decide +kernel
theorem s143_13 {l0 l1 l2 l3 l4 l5 l6 : Option Value} {st : List Value} {m : kMem} {Q : Option Value → kMem → Prop} : kJ 143 13 [l0, l1, l2, l3, l4, l5, l6] st m Q = kJ 143 14 [l0, l1, l2, l3, l4, l5, l6] (.int (nI 4) :: st) m Q := kJ_next d143_13 rfl
theorem d143_14 : decode (mB 143) 14 = .ok (.invokevirtual 141, 3) := by decide +kernel
theorem s143_14 {l0 l1 l2 l3 l4 l5 l6 : Option Value} {v0 : Int32} {v1 : Int32} {v2 : Nat} {m : kMem} {Q : Option Value → kMem → Prop} (h : kIs m.2.2.2 v2 5 = true) : kJ 143 14 [l0, l1, l2, l3, l4, l5, l6] [.int v0, .int v1, .ref v2] m Q = kJ 134 0 [some (.ref v2), some (.int v1), some (.int v0)] [] m (fun v m2 => kJ 143 17 [l0, l1, l2, l3, l4, l5, l6] (v.toList ++ []) m2 Q) := kJ_call d143_14 (kg_callv 134 2 rfl rfl rfl rfl (Nat.le_of_ble_eq_true rfl) (Nat.le_of_ble_eq_true rfl) (Nat.le_of_ble_eq_true rfl) h rfl)
theorem d143_17 : decode (mB 143) 17 = .ok (.istore_n 3, 1) := by decide +kernel
theorem s143_17 {l0 l1 l2 l3 l4 l5 l6 : Option Value} {st : List Value} {x : Int32} {m : kMem} {Q : Option Value → kMem → Prop} (hp : kNL l2 = true) : kJ 143 17 [l0, l1, l2, l3, l4, l5, l6] (.int x :: st) m Q = kJ 143 18 [l0, l1, l2, some (.int x), l4, l5, l6] st m Q := kJ_next d143_17 (kg_sti (Nat.le_of_ble_eq_true rfl) hp)
theorem d143_18 : decode (mB 143) 18 = .ok (.iload_n 2, 1) := by decide +kernel
theorem s143_18 {l0 l1 l3 l4 l5 l6 : Option Value} {st : List Value} {x : Int32} {m : kMem} {Q : Option Value → kMem → Prop} : kJ 143 18 [l0, l1, some (.int x), l3, l4, l5, l6] st m Q = kJ 143 19 [l0, l1, some (.int x), l3, l4, l5, l6] (.int x :: st) m Q := kJ_next d143_18 rfl
theorem d143_19 : decode (mB 143) 19 = .ok (.iload_n 3, 1) := by decide +kernel
theorem s143_19 {l0 l1 l2 l4 l5 l6 : Option Value} {st : List Value} {x : Int32} {m : kMem} {Q : Option Value → kMem → Prop} : kJ 143 19 [l0, l1, l2, some (.int x), l4, l5, l6] st m Q = kJ 143 20 [l0, l1, l2, some (.int x), l4, l5, l6] (.int x :: st) m Q := kJ_next d143_19 rfl
theorem d143_20 : decode (mB 143) 20 = .ok (.isub, 1) := by decide +kernel
theorem s143_20 {l0 l1 l2 l3 l4 l5 l6 : Option Value} {st : List Value} {a b : Int32} {m : kMem} {Q : Option Value → kMem → Prop} : kJ 143 20 [l0, l1, l2, l3, l4, l5, l6] (.int b :: .int a :: st) m Q = kJ 143 21 [l0, l1, l2, l3, l4, l5, l6] (.int (a - b) :: st) m Q := kJ_next d143_20 rfl
theorem d143_21 : decode (mB 143) 21 = .ok (.istore 4, 2) := by decide +kernel
theorem s143_21 {l0 l1 l2 l3 l4 l5 l6 : Option Value} {st : List Value} {x : Int32} {m : kMem} {Q : Option Value → kMem → Prop} (hp : kNL l3 = true) : kJ 143 21 [l0, l1, l2, l3, l4, l5, l6] (.int x :: st) m Q = kJ 143 23 [l0, l1, l2, l3, some (.int x), l5, l6] st m Q := kJ_next d143_21 (kg_sti (Nat.le_of_ble_eq_true rfl) hp)
theorem d143_23 : decode (mB 143) 23 = .ok (.iload 4, 2) := by decide +kernel
theorem s143_23 {l0 l1 l2 l3 l5 l6 : Option Value} {st : List Value} {x : Int32} {m : kMem} {Q : Option Value → kMem → Prop} : kJ 143 23 [l0, l1, l2, l3, some (.int x), l5, l6] st m Q = kJ 143 25 [l0, l1, l2, l3, some (.int x), l5, l6] (.int x :: st) m Q := kJ_next d143_23 rfl
theorem d143_25 : decode (mB 143) 25 = .ok (.ifCond .ge 9, 3) := by decide +kernel
theorem s143_25 {l0 l1 l2 l3 l4 l5 l6 : Option Value} {st : List Value} {a : Int32} {m : kMem} {Q : Option Value → kMem → Prop} : kJ 143 25 [l0, l1, l2, l3, l4, l5, l6] (.int a :: st) m Q = (if 0 ≤ a then kJ 143 34 [l0, l1, l2, l3, l4, l5, l6] st m Q else kJ 143 28 [l0, l1, l2, l3, l4, l5, l6] st m Q) := kJ_if d143_25 rfl (fun h => kJ_next d143_25 h) (fun h => kJ_next d143_25 h)
theorem d143_28 : decode (mB 143) 28 = .ok (.iload 4, 2) := by decide +kernel
theorem s143_28 {l0 l1 l2 l3 l5 l6 : Option Value} {st : List Value} {x : Int32} {m : kMem} {Q : Option Value → kMem → Prop} : kJ 143 28 [l0, l1, l2, l3, some (.int x), l5, l6] st m Q = kJ 143 30 [l0, l1, l2, l3, some (.int x), l5, l6] (.int x :: st) m Q := kJ_next d143_28 rfl
theorem d143_30 : decode (mB 143) 30 = .ok (.ineg, 1) := by decide +kernel
theorem s143_30 {l0 l1 l2 l3 l4 l5 l6 : Option Value} {st : List Value} {a : Int32} {m : kMem} {Q : Option Value → kMem → Prop} : kJ 143 30 [l0, l1, l2, l3, l4, l5, l6] (.int a :: st) m Q = kJ 143 31 [l0, l1, l2, l3, l4, l5, l6] (.int (-a) :: st) m Q := kJ_next d143_30 rfl
theorem d143_31 : decode (mB 143) 31 = .ok (.goto 5, 3) := by decide +kernel
theorem s143_31 {l0 l1 l2 l3 l4 l5 l6 : Option Value} {st : List Value} {m : kMem} {Q : Option Value → kMem → Prop} : kJ 143 31 [l0, l1, l2, l3, l4, l5, l6] st m Q = kJ 143 36 [l0, l1, l2, l3, l4, l5, l6] st m Q := kJ_next d143_31 rfl
theorem d143_34 : decode (mB 143) 34 = .ok (.iload 4, 2) := by decide +kernel
theorem s143_34 {l0 l1 l2 l3 l5 l6 : Option Value} {st : List Value} {x : Int32} {m : kMem} {Q : Option Value → kMem → Prop} : kJ 143 34 [l0, l1, l2, l3, some (.int x), l5, l6] st m Q = kJ 143 36 [l0, l1, l2, l3, some (.int x), l5, l6] (.int x :: st) m Q := kJ_next d143_34 rfl
theorem d143_36 : decode (mB 143) 36 = .ok (.istore 5, 2) := by decide +kernel
theorem s143_36 {l0 l1 l2 l3 l4 l5 l6 : Option Value} {st : List Value} {x : Int32} {m : kMem} {Q : Option Value → kMem → Prop} (hp : kNL l4 = true) : kJ 143 36 [l0, l1, l2, l3, l4, l5, l6] (.int x :: st) m Q = kJ 143 38 [l0, l1, l2, l3, l4, some (.int x), l6] st m Q := kJ_next d143_36 (kg_sti (Nat.le_of_ble_eq_true rfl) hp)
theorem d143_38 : decode (mB 143) 38 = .ok (.iload 5, 2) := by decide +kernel
theorem s143_38 {l0 l1 l2 l3 l4 l6 : Option Value} {st : List Value} {x : Int32} {m : kMem} {Q : Option Value → kMem → Prop} : kJ 143 38 [l0, l1, l2, l3, l4, some (.int x), l6] st m Q = kJ 143 40 [l0, l1, l2, l3, l4, some (.int x), l6] (.int x :: st) m Q := kJ_next d143_38 rfl
theorem d143_40 : decode (mB 143) 40 = .ok (.aload_n 0, 1) := by decide +kernel
theorem s143_40 {l1 l2 l3 l4 l5 l6 : Option Value} {st : List Value} {x : Nat} {m : kMem} {Q : Option Value → kMem → Prop} : kJ 143 40 [some (.ref x), l1, l2, l3, l4, l5, l6] st m Q = kJ 143 41 [some (.ref x), l1, l2, l3, l4, l5, l6] (.ref x :: st) m Q := kJ_next d143_40 rfl
theorem d143_41 : decode (mB 143) 41 = .ok (.getfield 13, 3) := by decide +kernel
theorem s143_41 {l0 l1 l2 l3 l4 l5 l6 : Option Value} {st : List Value} {q : Nat} {mi : Nat → Nat → Int32} {ml : Nat → Nat → Int64} {mr : Nat → Nat → Option Nat} {nx : Nat} {Q : Option Value → kMem → Prop} (h : kIs nx q 5 = true) : kJ 143 41 [l0, l1, l2, l3, l4, l5, l6] (.ref q :: st) (mi, ml, mr, nx) Q = kJ 143 44 [l0, l1, l2, l3, l4, l5, l6] (va_rf (mr q 1) :: st) (mi, ml, mr, nx) Q := kJ_next d143_41 (kg_getr 5 1 rfl h (by decide))
theorem d143_44 : decode (mB 143) 44 = .ok (.bipush 53, 2) := by decide +kernel
theorem s143_44 {l0 l1 l2 l3 l4 l5 l6 : Option Value} {st : List Value} {m : kMem} {Q : Option Value → kMem → Prop} : kJ 143 44 [l0, l1, l2, l3, l4, l5, l6] st m Q = kJ 143 46 [l0, l1, l2, l3, l4, l5, l6] (.int (nI 53) :: st) m Q := kJ_next d143_44 rfl
theorem d143_46 : decode (mB 143) 46 = .ok (.iaload, 1) := by decide +kernel
theorem s143_46 {l0 l1 l2 l3 l4 l5 l6 : Option Value} {st : List Value} {q : Nat} {i : Int32} {mi : Nat → Nat → Int32} {ml : Nat → Nat → Int64} {mr : Nat → Nat → Option Nat} {nx : Nat} {Q : Option Value → kMem → Prop} (h : kIs nx q 10 = true) : kJ 143 46 [l0, l1, l2, l3, l4, l5, l6] (.int i :: .ref q :: st) (mi, ml, mr, nx) Q = (vp_in i (kAl q) ∧ kJ 143 47 [l0, l1, l2, l3, l4, l5, l6] (.int (mi q i.toNatClampNeg) :: st) (mi, ml, mr, nx) Q) := kg_aldJ d143_46 rfl (kAr_of h)
theorem d143_47 : decode (mB 143) 47 = .ok (.if_icmp .ge 8, 3) := by decide +kernel
theorem s143_47 {l0 l1 l2 l3 l4 l5 l6 : Option Value} {st : List Value} {a b : Int32} {m : kMem} {Q : Option Value → kMem → Prop} : kJ 143 47 [l0, l1, l2, l3, l4, l5, l6] (.int b :: .int a :: st) m Q = (if b ≤ a then kJ 143 55 [l0, l1, l2, l3, l4, l5, l6] st m Q else kJ 143 50 [l0, l1, l2, l3, l4, l5, l6] st m Q) := kJ_if d143_47 rfl (fun h => kJ_next d143_47 h) (fun h => kJ_next d143_47 h)
theorem d143_50 : decode (mB 143) 50 = .ok (.iload 5, 2) := by decide +kernel
theorem s143_50 {l0 l1 l2 l3 l4 l6 : Option Value} {st : List Value} {x : Int32} {m : kMem} {Q : Option Value → kMem → Prop} : kJ 143 50 [l0, l1, l2, l3, l4, some (.int x), l6] st m Q = kJ 143 52 [l0, l1, l2, l3, l4, some (.int x), l6] (.int x :: st) m Q := kJ_next d143_50 rfl
theorem d143_52 : decode (mB 143) 52 = .ok (.goto 10, 3) := by decide +kernel
theorem s143_52 {l0 l1 l2 l3 l4 l5 l6 : Option Value} {st : List Value} {m : kMem} {Q : Option Value → kMem → Prop} : kJ 143 52 [l0, l1, l2, l3, l4, l5, l6] st m Q = kJ 143 62 [l0, l1, l2, l3, l4, l5, l6] st m Q := kJ_next d143_52 rfl
theorem d143_55 : decode (mB 143) 55 = .ok (.aload_n 0, 1) := by decide +kernel
theorem s143_55 {l1 l2 l3 l4 l5 l6 : Option Value} {st : List Value} {x : Nat} {m : kMem} {Q : Option Value → kMem → Prop} : kJ 143 55 [some (.ref x), l1, l2, l3, l4, l5, l6] st m Q = kJ 143 56 [some (.ref x), l1, l2, l3, l4, l5, l6] (.ref x :: st) m Q := kJ_next d143_55 rfl
theorem d143_56 : decode (mB 143) 56 = .ok (.getfield 13, 3) := by decide +kernel
theorem s143_56 {l0 l1 l2 l3 l4 l5 l6 : Option Value} {st : List Value} {q : Nat} {mi : Nat → Nat → Int32} {ml : Nat → Nat → Int64} {mr : Nat → Nat → Option Nat} {nx : Nat} {Q : Option Value → kMem → Prop} (h : kIs nx q 5 = true) : kJ 143 56 [l0, l1, l2, l3, l4, l5, l6] (.ref q :: st) (mi, ml, mr, nx) Q = kJ 143 59 [l0, l1, l2, l3, l4, l5, l6] (va_rf (mr q 1) :: st) (mi, ml, mr, nx) Q := kJ_next d143_56 (kg_getr 5 1 rfl h (by decide))
theorem d143_59 : decode (mB 143) 59 = .ok (.bipush 53, 2) := by decide +kernel
theorem s143_59 {l0 l1 l2 l3 l4 l5 l6 : Option Value} {st : List Value} {m : kMem} {Q : Option Value → kMem → Prop} : kJ 143 59 [l0, l1, l2, l3, l4, l5, l6] st m Q = kJ 143 61 [l0, l1, l2, l3, l4, l5, l6] (.int (nI 53) :: st) m Q := kJ_next d143_59 rfl
theorem d143_61 : decode (mB 143) 61 = .ok (.iaload, 1) := by decide +kernel
theorem s143_61 {l0 l1 l2 l3 l4 l5 l6 : Option Value} {st : List Value} {q : Nat} {i : Int32} {mi : Nat → Nat → Int32} {ml : Nat → Nat → Int64} {mr : Nat → Nat → Option Nat} {nx : Nat} {Q : Option Value → kMem → Prop} (h : kIs nx q 10 = true) : kJ 143 61 [l0, l1, l2, l3, l4, l5, l6] (.int i :: .ref q :: st) (mi, ml, mr, nx) Q = (vp_in i (kAl q) ∧ kJ 143 62 [l0, l1, l2, l3, l4, l5, l6] (.int (mi q i.toNatClampNeg) :: st) (mi, ml, mr, nx) Q) := kg_aldJ d143_61 rfl (kAr_of h)
theorem d143_62 : decode (mB 143) 62 = .ok (.istore 6, 2) := by decide +kernel
theorem s143_62 {l0 l1 l2 l3 l4 l5 l6 : Option Value} {st : List Value} {x : Int32} {m : kMem} {Q : Option Value → kMem → Prop} (hp : kNL l5 = true) : kJ 143 62 [l0, l1, l2, l3, l4, l5, l6] (.int x :: st) m Q = kJ 143 64 [l0, l1, l2, l3, l4, l5, some (.int x)] st m Q := kJ_next d143_62 (kg_sti (Nat.le_of_ble_eq_true rfl) hp)
theorem d143_64 : decode (mB 143) 64 = .ok (.aload_n 0, 1) := by decide +kernel
theorem s143_64 {l1 l2 l3 l4 l5 l6 : Option Value} {st : List Value} {x : Nat} {m : kMem} {Q : Option Value → kMem → Prop} : kJ 143 64 [some (.ref x), l1, l2, l3, l4, l5, l6] st m Q = kJ 143 65 [some (.ref x), l1, l2, l3, l4, l5, l6] (.ref x :: st) m Q := kJ_next d143_64 rfl
theorem d143_65 : decode (mB 143) 65 = .ok (.iload_n 1, 1) := by decide +kernel
theorem s143_65 {l0 l2 l3 l4 l5 l6 : Option Value} {st : List Value} {x : Int32} {m : kMem} {Q : Option Value → kMem → Prop} : kJ 143 65 [l0, some (.int x), l2, l3, l4, l5, l6] st m Q = kJ 143 66 [l0, some (.int x), l2, l3, l4, l5, l6] (.int x :: st) m Q := kJ_next d143_65 rfl
theorem d143_66 : decode (mB 143) 66 = .ok (.iconst 4, 1) := by decide +kernel
theorem s143_66 {l0 l1 l2 l3 l4 l5 l6 : Option Value} {st : List Value} {m : kMem} {Q : Option Value → kMem → Prop} : kJ 143 66 [l0, l1, l2, l3, l4, l5, l6] st m Q = kJ 143 67 [l0, l1, l2, l3, l4, l5, l6] (.int (nI 4) :: st) m Q := kJ_next d143_66 rfl
theorem d143_67 : decode (mB 143) 67 = .ok (.iload 4, 2) := by decide +kernel
theorem s143_67 {l0 l1 l2 l3 l5 l6 : Option Value} {st : List Value} {x : Int32} {m : kMem} {Q : Option Value → kMem → Prop} : kJ 143 67 [l0, l1, l2, l3, some (.int x), l5, l6] st m Q = kJ 143 69 [l0, l1, l2, l3, some (.int x), l5, l6] (.int x :: st) m Q := kJ_next d143_67 rfl
theorem d143_69 : decode (mB 143) 69 = .ok (.ifCond .ge 10, 3) := by decide +kernel
theorem s143_69 {l0 l1 l2 l3 l4 l5 l6 : Option Value} {st : List Value} {a : Int32} {m : kMem} {Q : Option Value → kMem → Prop} : kJ 143 69 [l0, l1, l2, l3, l4, l5, l6] (.int a :: st) m Q = (if 0 ≤ a then kJ 143 79 [l0, l1, l2, l3, l4, l5, l6] st m Q else kJ 143 72 [l0, l1, l2, l3, l4, l5, l6] st m Q) := kJ_if d143_69 rfl (fun h => kJ_next d143_69 h) (fun h => kJ_next d143_69 h)
theorem d143_72 : decode (mB 143) 72 = .ok (.iload_n 3, 1) := by decide +kernel
theorem s143_72 {l0 l1 l2 l4 l5 l6 : Option Value} {st : List Value} {x : Int32} {m : kMem} {Q : Option Value → kMem → Prop} : kJ 143 72 [l0, l1, l2, some (.int x), l4, l5, l6] st m Q = kJ 143 73 [l0, l1, l2, some (.int x), l4, l5, l6] (.int x :: st) m Q := kJ_next d143_72 rfl
theorem d143_73 : decode (mB 143) 73 = .ok (.iload 6, 2) := by decide +kernel
theorem s143_73 {l0 l1 l2 l3 l4 l5 : Option Value} {st : List Value} {x : Int32} {m : kMem} {Q : Option Value → kMem → Prop} : kJ 143 73 [l0, l1, l2, l3, l4, l5, some (.int x)] st m Q = kJ 143 75 [l0, l1, l2, l3, l4, l5, some (.int x)] (.int x :: st) m Q := kJ_next d143_73 rfl
theorem d143_75 : decode (mB 143) 75 = .ok (.isub, 1) := by decide +kernel
theorem s143_75 {l0 l1 l2 l3 l4 l5 l6 : Option Value} {st : List Value} {a b : Int32} {m : kMem} {Q : Option Value → kMem → Prop} : kJ 143 75 [l0, l1, l2, l3, l4, l5, l6] (.int b :: .int a :: st) m Q = kJ 143 76 [l0, l1, l2, l3, l4, l5, l6] (.int (a - b) :: st) m Q := kJ_next d143_75 rfl
theorem d143_76 : decode (mB 143) 76 = .ok (.goto 7, 3) := by decide +kernel
theorem s143_76 {l0 l1 l2 l3 l4 l5 l6 : Option Value} {st : List Value} {m : kMem} {Q : Option Value → kMem → Prop} : kJ 143 76 [l0, l1, l2, l3, l4, l5, l6] st m Q = kJ 143 83 [l0, l1, l2, l3, l4, l5, l6] st m Q := kJ_next d143_76 rfl
theorem d143_79 : decode (mB 143) 79 = .ok (.iload_n 3, 1) := by decide +kernel
theorem s143_79 {l0 l1 l2 l4 l5 l6 : Option Value} {st : List Value} {x : Int32} {m : kMem} {Q : Option Value → kMem → Prop} : kJ 143 79 [l0, l1, l2, some (.int x), l4, l5, l6] st m Q = kJ 143 80 [l0, l1, l2, some (.int x), l4, l5, l6] (.int x :: st) m Q := kJ_next d143_79 rfl
theorem d143_80 : decode (mB 143) 80 = .ok (.iload 6, 2) := by decide +kernel
theorem s143_80 {l0 l1 l2 l3 l4 l5 : Option Value} {st : List Value} {x : Int32} {m : kMem} {Q : Option Value → kMem → Prop} : kJ 143 80 [l0, l1, l2, l3, l4, l5, some (.int x)] st m Q = kJ 143 82 [l0, l1, l2, l3, l4, l5, some (.int x)] (.int x :: st) m Q := kJ_next d143_80 rfl
theorem d143_82 : decode (mB 143) 82 = .ok (.iadd, 1) := by decide +kernel
theorem s143_82 {l0 l1 l2 l3 l4 l5 l6 : Option Value} {st : List Value} {a b : Int32} {m : kMem} {Q : Option Value → kMem → Prop} : kJ 143 82 [l0, l1, l2, l3, l4, l5, l6] (.int b :: .int a :: st) m Q = kJ 143 83 [l0, l1, l2, l3, l4, l5, l6] (.int (a + b) :: st) m Q := kJ_next d143_82 rfl
theorem d143_83 : decode (mB 143) 83 = .ok (.invokevirtual 161, 3) := by decide +kernel
theorem s143_83 {l0 l1 l2 l3 l4 l5 l6 : Option Value} {v0 : Int32} {v1 : Int32} {v2 : Int32} {v3 : Nat} {m : kMem} {Q : Option Value → kMem → Prop} (h : kIs m.2.2.2 v3 5 = true) : kJ 143 83 [l0, l1, l2, l3, l4, l5, l6] [.int v0, .int v1, .int v2, .ref v3] m Q = kJ 135 0 [some (.ref v3), some (.int v2), some (.int v1), some (.int v0)] [] m (fun v m2 => kJ 143 86 [l0, l1, l2, l3, l4, l5, l6] (v.toList ++ []) m2 Q) := kJ_call d143_83 (kg_callv 135 3 rfl rfl rfl rfl (Nat.le_of_ble_eq_true rfl) (Nat.le_of_ble_eq_true rfl) (Nat.le_of_ble_eq_true rfl) h rfl)
theorem d143_86 : decode (mB 143) 86 = .ok (.iload 6, 2) := by decide +kernel
theorem s143_86 {l0 l1 l2 l3 l4 l5 : Option Value} {st : List Value} {x : Int32} {m : kMem} {Q : Option Value → kMem → Prop} : kJ 143 86 [l0, l1, l2, l3, l4, l5, some (.int x)] st m Q = kJ 143 88 [l0, l1, l2, l3, l4, l5, some (.int x)] (.int x :: st) m Q := kJ_next d143_86 rfl
theorem d143_88 : decode (mB 143) 88 = .ok (.iload 5, 2) := by decide +kernel
theorem s143_88 {l0 l1 l2 l3 l4 l6 : Option Value} {st : List Value} {x : Int32} {m : kMem} {Q : Option Value → kMem → Prop} : kJ 143 88 [l0, l1, l2, l3, l4, some (.int x), l6] st m Q = kJ 143 90 [l0, l1, l2, l3, l4, some (.int x), l6] (.int x :: st) m Q := kJ_next d143_88 rfl
theorem d143_90 : decode (mB 143) 90 = .ok (.if_icmp .ne 8, 3) := by decide +kernel
theorem s143_90 {l0 l1 l2 l3 l4 l5 l6 : Option Value} {st : List Value} {a b : Int32} {m : kMem} {Q : Option Value → kMem → Prop} : kJ 143 90 [l0, l1, l2, l3, l4, l5, l6] (.int b :: .int a :: st) m Q = (if a = b then kJ 143 93 [l0, l1, l2, l3, l4, l5, l6] st m Q else kJ 143 98 [l0, l1, l2, l3, l4, l5, l6] st m Q) := kJ_if d143_90 rfl (fun h => kJ_next d143_90 h) (fun h => kJ_next d143_90 h)
theorem d143_93 : decode (mB 143) 93 = .ok (.aload_n 0, 1) := by decide +kernel
theorem s143_93 {l1 l2 l3 l4 l5 l6 : Option Value} {st : List Value} {x : Nat} {m : kMem} {Q : Option Value → kMem → Prop} : kJ 143 93 [some (.ref x), l1, l2, l3, l4, l5, l6] st m Q = kJ 143 94 [some (.ref x), l1, l2, l3, l4, l5, l6] (.ref x :: st) m Q := kJ_next d143_93 rfl
theorem d143_94 : decode (mB 143) 94 = .ok (.iload_n 1, 1) := by decide +kernel
theorem s143_94 {l0 l2 l3 l4 l5 l6 : Option Value} {st : List Value} {x : Int32} {m : kMem} {Q : Option Value → kMem → Prop} : kJ 143 94 [l0, some (.int x), l2, l3, l4, l5, l6] st m Q = kJ 143 95 [l0, some (.int x), l2, l3, l4, l5, l6] (.int x :: st) m Q := kJ_next d143_94 rfl
theorem d143_95 : decode (mB 143) 95 = .ok (.invokevirtual 171, 3) := by decide +kernel
theorem s143_95 {l0 l1 l2 l3 l4 l5 l6 : Option Value} {v0 : Int32} {v1 : Nat} {m : kMem} {Q : Option Value → kMem → Prop} (h : kIs m.2.2.2 v1 5 = true) : kJ 143 95 [l0, l1, l2, l3, l4, l5, l6] [.int v0, .ref v1] m Q = kJ 142 0 [some (.ref v1), some (.int v0), none, none, none, none] [] m (fun v m2 => kJ 143 98 [l0, l1, l2, l3, l4, l5, l6] (v.toList ++ []) m2 Q) := kJ_call d143_95 (kg_callv 142 1 rfl rfl rfl rfl (Nat.le_of_ble_eq_true rfl) (Nat.le_of_ble_eq_true rfl) (Nat.le_of_ble_eq_true rfl) h rfl)
theorem d143_98 : decode (mB 143) 98 = .ok (.return_, 1) := by decide +kernel
theorem s143_98 {l0 l1 l2 l3 l4 l5 l6 : Option Value} {m : kMem} {Q : Option Value → kMem → Prop} : kJ 143 98 [l0, l1, l2, l3, l4, l5, l6] [] m Q = Q none m := kJ_ret d143_98 rfl
theorem d144_0 : decode (mB 144) 0 = .ok (.iconst 0, 1) := by decide +kernel
theorem s144_0 {l0 l1 l2 : Option Value} {st : List Value} {m : kMem} {Q : Option Value → kMem → Prop} : kJ 144 0 [l0, l1, l2] st m Q = kJ 144 1 [l0, l1, l2] (.int (nI 0) :: st) m Q := kJ_next d144_0 rfl
theorem d144_1 : decode (mB 144) 1 = .ok (.istore_n 2, 1) := by decide +kernel
theorem s144_1 {l0 l1 l2 : Option Value} {st : List Value} {x : Int32} {m : kMem} {Q : Option Value → kMem → Prop} (hp : kNL l1 = true) : kJ 144 1 [l0, l1, l2] (.int x :: st) m Q = kJ 144 2 [l0, l1, some (.int x)] st m Q := kJ_next d144_1 (kg_sti (Nat.le_of_ble_eq_true rfl) hp)
theorem d144_2 : decode (mB 144) 2 = .ok (.iload_n 2, 1) := by decide +kernel
theorem s144_2 {l0 l1 : Option Value} {st : List Value} {x : Int32} {m : kMem} {Q : Option Value → kMem → Prop} : kJ 144 2 [l0, l1, some (.int x)] st m Q = kJ 144 3 [l0, l1, some (.int x)] (.int x :: st) m Q := kJ_next d144_2 rfl
theorem d144_3 : decode (mB 144) 3 = .ok (.aload_n 0, 1) := by decide +kernel
theorem s144_3 {l1 l2 : Option Value} {st : List Value} {x : Nat} {m : kMem} {Q : Option Value → kMem → Prop} : kJ 144 3 [some (.ref x), l1, l2] st m Q = kJ 144 4 [some (.ref x), l1, l2] (.ref x :: st) m Q := kJ_next d144_3 rfl
theorem d144_4 : decode (mB 144) 4 = .ok (.getfield 13, 3) := by decide +kernel
theorem s144_4 {l0 l1 l2 : Option Value} {st : List Value} {q : Nat} {mi : Nat → Nat → Int32} {ml : Nat → Nat → Int64} {mr : Nat → Nat → Option Nat} {nx : Nat} {Q : Option Value → kMem → Prop} (h : kIs nx q 5 = true) : kJ 144 4 [l0, l1, l2] (.ref q :: st) (mi, ml, mr, nx) Q = kJ 144 7 [l0, l1, l2] (va_rf (mr q 1) :: st) (mi, ml, mr, nx) Q := kJ_next d144_4 (kg_getr 5 1 rfl h (by decide))
theorem d144_7 : decode (mB 144) 7 = .ok (.bipush 52, 2) := by decide +kernel
theorem s144_7 {l0 l1 l2 : Option Value} {st : List Value} {m : kMem} {Q : Option Value → kMem → Prop} : kJ 144 7 [l0, l1, l2] st m Q = kJ 144 9 [l0, l1, l2] (.int (nI 52) :: st) m Q := kJ_next d144_7 rfl
theorem d144_9 : decode (mB 144) 9 = .ok (.iaload, 1) := by decide +kernel
theorem s144_9 {l0 l1 l2 : Option Value} {st : List Value} {q : Nat} {i : Int32} {mi : Nat → Nat → Int32} {ml : Nat → Nat → Int64} {mr : Nat → Nat → Option Nat} {nx : Nat} {Q : Option Value → kMem → Prop} (h : kIs nx q 10 = true) : kJ 144 9 [l0, l1, l2] (.int i :: .ref q :: st) (mi, ml, mr, nx) Q = (vp_in i (kAl q) ∧ kJ 144 10 [l0, l1, l2] (.int (mi q i.toNatClampNeg) :: st) (mi, ml, mr, nx) Q) := kg_aldJ d144_9 rfl (kAr_of h)
theorem d144_10 : decode (mB 144) 10 = .ok (.if_icmp .ge 26, 3) := by decide +kernel
theorem s144_10 {l0 l1 l2 : Option Value} {st : List Value} {a b : Int32} {m : kMem} {Q : Option Value → kMem → Prop} : kJ 144 10 [l0, l1, l2] (.int b :: .int a :: st) m Q = (if b ≤ a then kJ 144 36 [l0, l1, l2] st m Q else kJ 144 13 [l0, l1, l2] st m Q) := kJ_if d144_10 rfl (fun h => kJ_next d144_10 h) (fun h => kJ_next d144_10 h)
theorem d144_13 : decode (mB 144) 13 = .ok (.iload_n 1, 1) := by decide +kernel
theorem s144_13 {l0 l2 : Option Value} {st : List Value} {x : Int32} {m : kMem} {Q : Option Value → kMem → Prop} : kJ 144 13 [l0, some (.int x), l2] st m Q = kJ 144 14 [l0, some (.int x), l2] (.int x :: st) m Q := kJ_next d144_13 rfl
theorem d144_14 : decode (mB 144) 14 = .ok (.ifCond .eq 22, 3) := by decide +kernel
theorem s144_14 {l0 l1 l2 : Option Value} {st : List Value} {a : Int32} {m : kMem} {Q : Option Value → kMem → Prop} : kJ 144 14 [l0, l1, l2] (.int a :: st) m Q = (if a = 0 then kJ 144 36 [l0, l1, l2] st m Q else kJ 144 17 [l0, l1, l2] st m Q) := kJ_if d144_14 rfl (fun h => kJ_next d144_14 h) (fun h => kJ_next d144_14 h)
theorem d144_17 : decode (mB 144) 17 = .ok (.aload_n 0, 1) := by decide +kernel
theorem s144_17 {l1 l2 : Option Value} {st : List Value} {x : Nat} {m : kMem} {Q : Option Value → kMem → Prop} : kJ 144 17 [some (.ref x), l1, l2] st m Q = kJ 144 18 [some (.ref x), l1, l2] (.ref x :: st) m Q := kJ_next d144_17 rfl
theorem d144_18 : decode (mB 144) 18 = .ok (.iload_n 2, 1) := by decide +kernel
theorem s144_18 {l0 l1 : Option Value} {st : List Value} {x : Int32} {m : kMem} {Q : Option Value → kMem → Prop} : kJ 144 18 [l0, l1, some (.int x)] st m Q = kJ 144 19 [l0, l1, some (.int x)] (.int x :: st) m Q := kJ_next d144_18 rfl
theorem d144_19 : decode (mB 144) 19 = .ok (.invokevirtual 174, 3) := by decide +kernel
theorem s144_19 {l0 l1 l2 : Option Value} {v0 : Int32} {v1 : Nat} {m : kMem} {Q : Option Value → kMem → Prop} (h : kIs m.2.2.2 v1 5 = true) : kJ 144 19 [l0, l1, l2] [.int v0, .ref v1] m Q = kJ 139 0 [some (.ref v1), some (.int v0)] [] m (fun v m2 => kJ 144 22 [l0, l1, l2] (v.toList ++ []) m2 Q) := kJ_call d144_19 (kg_callv 139 1 rfl rfl rfl rfl (Nat.le_of_ble_eq_true rfl) (Nat.le_of_ble_eq_true rfl) (Nat.le_of_ble_eq_true rfl) h rfl)
theorem d144_22 : decode (mB 144) 22 = .ok (.ifCond .eq 8, 3) := by decide +kernel
theorem s144_22 {l0 l1 l2 : Option Value} {st : List Value} {a : Int32} {m : kMem} {Q : Option Value → kMem → Prop} : kJ 144 22 [l0, l1, l2] (.int a :: st) m Q = (if a = 0 then kJ 144 30 [l0, l1, l2] st m Q else kJ 144 25 [l0, l1, l2] st m Q) := kJ_if d144_22 rfl (fun h => kJ_next d144_22 h) (fun h => kJ_next d144_22 h)
theorem d144_25 : decode (mB 144) 25 = .ok (.aload_n 0, 1) := by decide +kernel
theorem s144_25 {l1 l2 : Option Value} {st : List Value} {x : Nat} {m : kMem} {Q : Option Value → kMem → Prop} : kJ 144 25 [some (.ref x), l1, l2] st m Q = kJ 144 26 [some (.ref x), l1, l2] (.ref x :: st) m Q := kJ_next d144_25 rfl
theorem d144_26 : decode (mB 144) 26 = .ok (.iload_n 2, 1) := by decide +kernel
theorem s144_26 {l0 l1 : Option Value} {st : List Value} {x : Int32} {m : kMem} {Q : Option Value → kMem → Prop} : kJ 144 26 [l0, l1, some (.int x)] st m Q = kJ 144 27 [l0, l1, some (.int x)] (.int x :: st) m Q := kJ_next d144_26 rfl
theorem d144_27 : decode (mB 144) 27 = .ok (.invokevirtual 178, 3) := by decide +kernel
theorem s144_27 {l0 l1 l2 : Option Value} {v0 : Int32} {v1 : Nat} {m : kMem} {Q : Option Value → kMem → Prop} (h : kIs m.2.2.2 v1 5 = true) : kJ 144 27 [l0, l1, l2] [.int v0, .ref v1] m Q = kJ 143 0 [some (.ref v1), some (.int v0), none, none, none, none, none] [] m (fun v m2 => kJ 144 30 [l0, l1, l2] (v.toList ++ []) m2 Q) := kJ_call d144_27 (kg_callv 143 1 rfl rfl rfl rfl (Nat.le_of_ble_eq_true rfl) (Nat.le_of_ble_eq_true rfl) (Nat.le_of_ble_eq_true rfl) h rfl)
theorem d144_30 : decode (mB 144) 30 = .ok (.iinc 2 1, 3) := by decide +kernel
theorem s144_30 {l0 l1 : Option Value} {st : List Value} {x : Int32} {m : kMem} {Q : Option Value → kMem → Prop} (hp : kNL l1 = true) : kJ 144 30 [l0, l1, some (.int x)] st m Q = kJ 144 33 [l0, l1, some (.int (x + (nI 1)))] st m Q := kJ_next d144_30 (kg_inc rfl (Nat.le_of_ble_eq_true rfl) hp)
theorem d144_33 : decode (mB 144) 33 = .ok (.goto (-31), 3) := by decide +kernel
theorem s144_33 {l0 l1 l2 : Option Value} {st : List Value} {m : kMem} {Q : Option Value → kMem → Prop} : kJ 144 33 [l0, l1, l2] st m Q = kJ 144 2 [l0, l1, l2] st m Q := kJ_next d144_33 rfl
theorem d144_36 : decode (mB 144) 36 = .ok (.aload_n 0, 1) := by decide +kernel
theorem s144_36 {l1 l2 : Option Value} {st : List Value} {x : Nat} {m : kMem} {Q : Option Value → kMem → Prop} : kJ 144 36 [some (.ref x), l1, l2] st m Q = kJ 144 37 [some (.ref x), l1, l2] (.ref x :: st) m Q := kJ_next d144_36 rfl
theorem d144_37 : decode (mB 144) 37 = .ok (.getfield 13, 3) := by decide +kernel
theorem s144_37 {l0 l1 l2 : Option Value} {st : List Value} {q : Nat} {mi : Nat → Nat → Int32} {ml : Nat → Nat → Int64} {mr : Nat → Nat → Option Nat} {nx : Nat} {Q : Option Value → kMem → Prop} (h : kIs nx q 5 = true) : kJ 144 37 [l0, l1, l2] (.ref q :: st) (mi, ml, mr, nx) Q = kJ 144 40 [l0, l1, l2] (va_rf (mr q 1) :: st) (mi, ml, mr, nx) Q := kJ_next d144_37 (kg_getr 5 1 rfl h (by decide))
theorem d144_40 : decode (mB 144) 40 = .ok (.bipush 54, 2) := by decide +kernel
theorem s144_40 {l0 l1 l2 : Option Value} {st : List Value} {m : kMem} {Q : Option Value → kMem → Prop} : kJ 144 40 [l0, l1, l2] st m Q = kJ 144 42 [l0, l1, l2] (.int (nI 54) :: st) m Q := kJ_next d144_40 rfl
theorem d144_42 : decode (mB 144) 42 = .ok (.dup2, 1) := by decide +kernel
theorem s144_42 {l0 l1 l2 : Option Value} {st : List Value} {a : Int32} {b : Nat} {m : kMem} {Q : Option Value → kMem → Prop} : kJ 144 42 [l0, l1, l2] (.int a :: .ref b :: st) m Q = kJ 144 43 [l0, l1, l2] (.int a :: .ref b :: .int a :: .ref b :: st) m Q := kJ_next d144_42 rfl
theorem d144_43 : decode (mB 144) 43 = .ok (.iaload, 1) := by decide +kernel
theorem s144_43 {l0 l1 l2 : Option Value} {st : List Value} {q : Nat} {i : Int32} {mi : Nat → Nat → Int32} {ml : Nat → Nat → Int64} {mr : Nat → Nat → Option Nat} {nx : Nat} {Q : Option Value → kMem → Prop} (h : kIs nx q 10 = true) : kJ 144 43 [l0, l1, l2] (.int i :: .ref q :: st) (mi, ml, mr, nx) Q = (vp_in i (kAl q) ∧ kJ 144 44 [l0, l1, l2] (.int (mi q i.toNatClampNeg) :: st) (mi, ml, mr, nx) Q) := kg_aldJ d144_43 rfl (kAr_of h)
theorem d144_44 : decode (mB 144) 44 = .ok (.iconst 1, 1) := by decide +kernel
theorem s144_44 {l0 l1 l2 : Option Value} {st : List Value} {m : kMem} {Q : Option Value → kMem → Prop} : kJ 144 44 [l0, l1, l2] st m Q = kJ 144 45 [l0, l1, l2] (.int (nI 1) :: st) m Q := kJ_next d144_44 rfl
theorem d144_45 : decode (mB 144) 45 = .ok (.iadd, 1) := by decide +kernel
theorem s144_45 {l0 l1 l2 : Option Value} {st : List Value} {a b : Int32} {m : kMem} {Q : Option Value → kMem → Prop} : kJ 144 45 [l0, l1, l2] (.int b :: .int a :: st) m Q = kJ 144 46 [l0, l1, l2] (.int (a + b) :: st) m Q := kJ_next d144_45 rfl
theorem d144_46 : decode (mB 144) 46 = .ok (.iastore, 1) := by decide +kernel
theorem s144_46 {l0 l1 l2 : Option Value} {st : List Value} {q : Nat} {i x : Int32} {mi : Nat → Nat → Int32} {ml : Nat → Nat → Int64} {mr : Nat → Nat → Option Nat} {nx : Nat} {Q : Option Value → kMem → Prop} (h : kIs nx q 10 = true) : kJ 144 46 [l0, l1, l2] (.int x :: .int i :: .ref q :: st) (mi, ml, mr, nx) Q = (vp_in i (kAl q) ∧ kJ 144 47 [l0, l1, l2] st (kup mi q i.toNatClampNeg x, ml, mr, nx) Q) := kg_astJ d144_46 rfl (kAr_of h)
theorem d144_47 : decode (mB 144) 47 = .ok (.return_, 1) := by decide +kernel
theorem s144_47 {l0 l1 l2 : Option Value} {m : kMem} {Q : Option Value → kMem → Prop} : kJ 144 47 [l0, l1, l2] [] m Q = Q none m := kJ_ret d144_47 rfl
theorem d145_0 : decode (mB 145) 0 = .ok (.iconst 0, 1) := by decide +kernel
theorem s145_0 {l0 l1 l2 : Option Value} {st : List Value} {m : kMem} {Q : Option Value → kMem → Prop} : kJ 145 0 [l0, l1, l2] st m Q = kJ 145 1 [l0, l1, l2] (.int (nI 0) :: st) m Q := kJ_next d145_0 rfl
theorem d145_1 : decode (mB 145) 1 = .ok (.istore_n 2, 1) := by decide +kernel
theorem s145_1 {l0 l1 l2 : Option Value} {st : List Value} {x : Int32} {m : kMem} {Q : Option Value → kMem → Prop} (hp : kNL l1 = true) : kJ 145 1 [l0, l1, l2] (.int x :: st) m Q = kJ 145 2 [l0, l1, some (.int x)] st m Q := kJ_next d145_1 (kg_sti (Nat.le_of_ble_eq_true rfl) hp)
theorem d145_2 : decode (mB 145) 2 = .ok (.iload_n 2, 1) := by decide +kernel
theorem s145_2 {l0 l1 : Option Value} {st : List Value} {x : Int32} {m : kMem} {Q : Option Value → kMem → Prop} : kJ 145 2 [l0, l1, some (.int x)] st m Q = kJ 145 3 [l0, l1, some (.int x)] (.int x :: st) m Q := kJ_next d145_2 rfl
theorem d145_3 : decode (mB 145) 3 = .ok (.iload_n 1, 1) := by decide +kernel
theorem s145_3 {l0 l2 : Option Value} {st : List Value} {x : Int32} {m : kMem} {Q : Option Value → kMem → Prop} : kJ 145 3 [l0, some (.int x), l2] st m Q = kJ 145 4 [l0, some (.int x), l2] (.int x :: st) m Q := kJ_next d145_3 rfl
theorem d145_4 : decode (mB 145) 4 = .ok (.if_icmp .ge 14, 3) := by decide +kernel
theorem s145_4 {l0 l1 l2 : Option Value} {st : List Value} {a b : Int32} {m : kMem} {Q : Option Value → kMem → Prop} : kJ 145 4 [l0, l1, l2] (.int b :: .int a :: st) m Q = (if b ≤ a then kJ 145 18 [l0, l1, l2] st m Q else kJ 145 7 [l0, l1, l2] st m Q) := kJ_if d145_4 rfl (fun h => kJ_next d145_4 h) (fun h => kJ_next d145_4 h)
theorem d145_7 : decode (mB 145) 7 = .ok (.aload_n 0, 1) := by decide +kernel
theorem s145_7 {l1 l2 : Option Value} {st : List Value} {x : Nat} {m : kMem} {Q : Option Value → kMem → Prop} : kJ 145 7 [some (.ref x), l1, l2] st m Q = kJ 145 8 [some (.ref x), l1, l2] (.ref x :: st) m Q := kJ_next d145_7 rfl
theorem d145_8 : decode (mB 145) 8 = .ok (.iconst 1, 1) := by decide +kernel
theorem s145_8 {l0 l1 l2 : Option Value} {st : List Value} {m : kMem} {Q : Option Value → kMem → Prop} : kJ 145 8 [l0, l1, l2] st m Q = kJ 145 9 [l0, l1, l2] (.int (nI 1) :: st) m Q := kJ_next d145_8 rfl
theorem d145_9 : decode (mB 145) 9 = .ok (.invokevirtual 181, 3) := by decide +kernel
theorem s145_9 {l0 l1 l2 : Option Value} {v0 : Int32} {v1 : Nat} {m : kMem} {Q : Option Value → kMem → Prop} (h : kIs m.2.2.2 v1 5 = true) : kJ 145 9 [l0, l1, l2] [.int v0, .ref v1] m Q = kJ 144 0 [some (.ref v1), some (.int v0), none] [] m (fun v m2 => kJ 145 12 [l0, l1, l2] (v.toList ++ []) m2 Q) := kJ_call d145_9 (kg_callv 144 1 rfl rfl rfl rfl (Nat.le_of_ble_eq_true rfl) (Nat.le_of_ble_eq_true rfl) (Nat.le_of_ble_eq_true rfl) h rfl)
theorem d145_12 : decode (mB 145) 12 = .ok (.iinc 2 1, 3) := by decide +kernel
theorem s145_12 {l0 l1 : Option Value} {st : List Value} {x : Int32} {m : kMem} {Q : Option Value → kMem → Prop} (hp : kNL l1 = true) : kJ 145 12 [l0, l1, some (.int x)] st m Q = kJ 145 15 [l0, l1, some (.int (x + (nI 1)))] st m Q := kJ_next d145_12 (kg_inc rfl (Nat.le_of_ble_eq_true rfl) hp)
theorem d145_15 : decode (mB 145) 15 = .ok (.goto (-13), 3) := by decide +kernel
theorem s145_15 {l0 l1 l2 : Option Value} {st : List Value} {m : kMem} {Q : Option Value → kMem → Prop} : kJ 145 15 [l0, l1, l2] st m Q = kJ 145 2 [l0, l1, l2] st m Q := kJ_next d145_15 rfl
theorem d145_18 : decode (mB 145) 18 = .ok (.return_, 1) := by decide +kernel
theorem s145_18 {l0 l1 l2 : Option Value} {m : kMem} {Q : Option Value → kMem → Prop} : kJ 145 18 [l0, l1, l2] [] m Q = Q none m := kJ_ret d145_18 rfl
theorem d146_0 : decode (mB 146) 0 = .ok (.iconst 0, 1) := by decide +kernel
theorem s146_0 {l0 l1 l2 : Option Value} {st : List Value} {m : kMem} {Q : Option Value → kMem → Prop} : kJ 146 0 [l0, l1, l2] st m Q = kJ 146 1 [l0, l1, l2] (.int (nI 0) :: st) m Q := kJ_next d146_0 rfl
theorem d146_1 : decode (mB 146) 1 = .ok (.istore_n 1, 1) := by decide +kernel
theorem s146_1 {l0 l1 l2 : Option Value} {st : List Value} {x : Int32} {m : kMem} {Q : Option Value → kMem → Prop} (hp : kNL l0 = true) : kJ 146 1 [l0, l1, l2] (.int x :: st) m Q = kJ 146 2 [l0, some (.int x), l2] st m Q := kJ_next d146_1 (kg_sti (Nat.le_of_ble_eq_true rfl) hp)
theorem d146_2 : decode (mB 146) 2 = .ok (.iconst 0, 1) := by decide +kernel
theorem s146_2 {l0 l1 l2 : Option Value} {st : List Value} {m : kMem} {Q : Option Value → kMem → Prop} : kJ 146 2 [l0, l1, l2] st m Q = kJ 146 3 [l0, l1, l2] (.int (nI 0) :: st) m Q := kJ_next d146_2 rfl
theorem d146_3 : decode (mB 146) 3 = .ok (.istore_n 2, 1) := by decide +kernel
theorem s146_3 {l0 l1 l2 : Option Value} {st : List Value} {x : Int32} {m : kMem} {Q : Option Value → kMem → Prop} (hp : kNL l1 = true) : kJ 146 3 [l0, l1, l2] (.int x :: st) m Q = kJ 146 4 [l0, l1, some (.int x)] st m Q := kJ_next d146_3 (kg_sti (Nat.le_of_ble_eq_true rfl) hp)
theorem d146_4 : decode (mB 146) 4 = .ok (.iload_n 2, 1) := by decide +kernel
theorem s146_4 {l0 l1 : Option Value} {st : List Value} {x : Int32} {m : kMem} {Q : Option Value → kMem → Prop} : kJ 146 4 [l0, l1, some (.int x)] st m Q = kJ 146 5 [l0, l1, some (.int x)] (.int x :: st) m Q := kJ_next d146_4 rfl
theorem d146_5 : decode (mB 146) 5 = .ok (.aload_n 0, 1) := by decide +kernel
theorem s146_5 {l1 l2 : Option Value} {st : List Value} {x : Nat} {m : kMem} {Q : Option Value → kMem → Prop} : kJ 146 5 [some (.ref x), l1, l2] st m Q = kJ 146 6 [some (.ref x), l1, l2] (.ref x :: st) m Q := kJ_next d146_5 rfl
theorem d146_6 : decode (mB 146) 6 = .ok (.getfield 13, 3) := by decide +kernel
theorem s146_6 {l0 l1 l2 : Option Value} {st : List Value} {q : Nat} {mi : Nat → Nat → Int32} {ml : Nat → Nat → Int64} {mr : Nat → Nat → Option Nat} {nx : Nat} {Q : Option Value → kMem → Prop} (h : kIs nx q 5 = true) : kJ 146 6 [l0, l1, l2] (.ref q :: st) (mi, ml, mr, nx) Q = kJ 146 9 [l0, l1, l2] (va_rf (mr q 1) :: st) (mi, ml, mr, nx) Q := kJ_next d146_6 (kg_getr 5 1 rfl h (by decide))
theorem d146_9 : decode (mB 146) 9 = .ok (.bipush 15, 2) := by decide +kernel
theorem s146_9 {l0 l1 l2 : Option Value} {st : List Value} {m : kMem} {Q : Option Value → kMem → Prop} : kJ 146 9 [l0, l1, l2] st m Q = kJ 146 11 [l0, l1, l2] (.int (nI 15) :: st) m Q := kJ_next d146_9 rfl
theorem d146_11 : decode (mB 146) 11 = .ok (.iaload, 1) := by decide +kernel
theorem s146_11 {l0 l1 l2 : Option Value} {st : List Value} {q : Nat} {i : Int32} {mi : Nat → Nat → Int32} {ml : Nat → Nat → Int64} {mr : Nat → Nat → Option Nat} {nx : Nat} {Q : Option Value → kMem → Prop} (h : kIs nx q 10 = true) : kJ 146 11 [l0, l1, l2] (.int i :: .ref q :: st) (mi, ml, mr, nx) Q = (vp_in i (kAl q) ∧ kJ 146 12 [l0, l1, l2] (.int (mi q i.toNatClampNeg) :: st) (mi, ml, mr, nx) Q) := kg_aldJ d146_11 rfl (kAr_of h)
theorem d146_12 : decode (mB 146) 12 = .ok (.if_icmp .ge 18, 3) := by decide +kernel
theorem s146_12 {l0 l1 l2 : Option Value} {st : List Value} {a b : Int32} {m : kMem} {Q : Option Value → kMem → Prop} : kJ 146 12 [l0, l1, l2] (.int b :: .int a :: st) m Q = (if b ≤ a then kJ 146 30 [l0, l1, l2] st m Q else kJ 146 15 [l0, l1, l2] st m Q) := kJ_if d146_12 rfl (fun h => kJ_next d146_12 h) (fun h => kJ_next d146_12 h)
theorem d146_15 : decode (mB 146) 15 = .ok (.iload_n 1, 1) := by decide +kernel
theorem s146_15 {l0 l2 : Option Value} {st : List Value} {x : Int32} {m : kMem} {Q : Option Value → kMem → Prop} : kJ 146 15 [l0, some (.int x), l2] st m Q = kJ 146 16 [l0, some (.int x), l2] (.int x :: st) m Q := kJ_next d146_15 rfl
theorem d146_16 : decode (mB 146) 16 = .ok (.aload_n 0, 1) := by decide +kernel
theorem s146_16 {l1 l2 : Option Value} {st : List Value} {x : Nat} {m : kMem} {Q : Option Value → kMem → Prop} : kJ 146 16 [some (.ref x), l1, l2] st m Q = kJ 146 17 [some (.ref x), l1, l2] (.ref x :: st) m Q := kJ_next d146_16 rfl
theorem d146_17 : decode (mB 146) 17 = .ok (.iload_n 2, 1) := by decide +kernel
theorem s146_17 {l0 l1 : Option Value} {st : List Value} {x : Int32} {m : kMem} {Q : Option Value → kMem → Prop} : kJ 146 17 [l0, l1, some (.int x)] st m Q = kJ 146 18 [l0, l1, some (.int x)] (.int x :: st) m Q := kJ_next d146_17 rfl
theorem d146_18 : decode (mB 146) 18 = .ok (.iconst 2, 1) := by decide +kernel
theorem s146_18 {l0 l1 l2 : Option Value} {st : List Value} {m : kMem} {Q : Option Value → kMem → Prop} : kJ 146 18 [l0, l1, l2] st m Q = kJ 146 19 [l0, l1, l2] (.int (nI 2) :: st) m Q := kJ_next d146_18 rfl
theorem d146_19 : decode (mB 146) 19 = .ok (.invokevirtual 144, 3) := by decide +kernel
theorem s146_19 {l0 l1 l2 : Option Value} {v0 : Int32} {v1 : Int32} {v2 : Nat} {v3 : Int32} {m : kMem} {Q : Option Value → kMem → Prop} (h : kIs m.2.2.2 v2 5 = true) : kJ 146 19 [l0, l1, l2] [.int v0, .int v1, .ref v2, .int v3] m Q = kJ 132 0 [some (.ref v2), some (.int v1), some (.int v0)] [] m (fun v m2 => kJ 146 22 [l0, l1, l2] (v.toList ++ [.int v3]) m2 Q) := kJ_call d146_19 (kg_callv 132 2 rfl rfl rfl rfl (Nat.le_of_ble_eq_true rfl) (Nat.le_of_ble_eq_true rfl) (Nat.le_of_ble_eq_true rfl) h rfl)
theorem d146_22 : decode (mB 146) 22 = .ok (.iadd, 1) := by decide +kernel
theorem s146_22 {l0 l1 l2 : Option Value} {st : List Value} {a b : Int32} {m : kMem} {Q : Option Value → kMem → Prop} : kJ 146 22 [l0, l1, l2] (.int b :: .int a :: st) m Q = kJ 146 23 [l0, l1, l2] (.int (a + b) :: st) m Q := kJ_next d146_22 rfl
theorem d146_23 : decode (mB 146) 23 = .ok (.istore_n 1, 1) := by decide +kernel
theorem s146_23 {l0 l1 l2 : Option Value} {st : List Value} {x : Int32} {m : kMem} {Q : Option Value → kMem → Prop} (hp : kNL l0 = true) : kJ 146 23 [l0, l1, l2] (.int x :: st) m Q = kJ 146 24 [l0, some (.int x), l2] st m Q := kJ_next d146_23 (kg_sti (Nat.le_of_ble_eq_true rfl) hp)
theorem d146_24 : decode (mB 146) 24 = .ok (.iinc 2 1, 3) := by decide +kernel
theorem s146_24 {l0 l1 : Option Value} {st : List Value} {x : Int32} {m : kMem} {Q : Option Value → kMem → Prop} (hp : kNL l1 = true) : kJ 146 24 [l0, l1, some (.int x)] st m Q = kJ 146 27 [l0, l1, some (.int (x + (nI 1)))] st m Q := kJ_next d146_24 (kg_inc rfl (Nat.le_of_ble_eq_true rfl) hp)
theorem d146_27 : decode (mB 146) 27 = .ok (.goto (-23), 3) := by decide +kernel
theorem s146_27 {l0 l1 l2 : Option Value} {st : List Value} {m : kMem} {Q : Option Value → kMem → Prop} : kJ 146 27 [l0, l1, l2] st m Q = kJ 146 4 [l0, l1, l2] st m Q := kJ_next d146_27 rfl
theorem d146_30 : decode (mB 146) 30 = .ok (.iload_n 1, 1) := by decide +kernel
theorem s146_30 {l0 l2 : Option Value} {st : List Value} {x : Int32} {m : kMem} {Q : Option Value → kMem → Prop} : kJ 146 30 [l0, some (.int x), l2] st m Q = kJ 146 31 [l0, some (.int x), l2] (.int x :: st) m Q := kJ_next d146_30 rfl
theorem d146_31 : decode (mB 146) 31 = .ok (.ireturn, 1) := by decide +kernel
theorem s146_31 {l0 l1 l2 : Option Value} {x : Int32} {m : kMem} {Q : Option Value → kMem → Prop} : kJ 146 31 [l0, l1, l2] [.int x] m Q = Q (some (.int x)) m := kJ_ret d146_31 rfl
theorem d147_0 : decode (mB 147) 0 = .ok (.aload_n 0, 1) := by decide +kernel
theorem s147_0 {l1 : Option Value} {st : List Value} {x : Nat} {m : kMem} {Q : Option Value → kMem → Prop} : kJ 147 0 [some (.ref x), l1] st m Q = kJ 147 1 [some (.ref x), l1] (.ref x :: st) m Q := kJ_next d147_0 rfl
theorem d147_1 : decode (mB 147) 1 = .ok (.iload_n 1, 1) := by decide +kernel
theorem s147_1 {l0 : Option Value} {st : List Value} {x : Int32} {m : kMem} {Q : Option Value → kMem → Prop} : kJ 147 1 [l0, some (.int x)] st m Q = kJ 147 2 [l0, some (.int x)] (.int x :: st) m Q := kJ_next d147_1 rfl
theorem d147_2 : decode (mB 147) 2 = .ok (.invokevirtual 185, 3) := by decide +kernel
theorem s147_2 {l0 l1 : Option Value} {v0 : Int32} {v1 : Nat} {m : kMem} {Q : Option Value → kMem → Prop} (h : kIs m.2.2.2 v1 5 = true) : kJ 147 2 [l0, l1] [.int v0, .ref v1] m Q = kJ 145 0 [some (.ref v1), some (.int v0), none] [] m (fun v m2 => kJ 147 5 [l0, l1] (v.toList ++ []) m2 Q) := kJ_call d147_2 (kg_callv 145 1 rfl rfl rfl rfl (Nat.le_of_ble_eq_true rfl) (Nat.le_of_ble_eq_true rfl) (Nat.le_of_ble_eq_true rfl) h rfl)
theorem d147_5 : decode (mB 147) 5 = .ok (.aload_n 0, 1) := by decide +kernel
theorem s147_5 {l1 : Option Value} {st : List Value} {x : Nat} {m : kMem} {Q : Option Value → kMem → Prop} : kJ 147 5 [some (.ref x), l1] st m Q = kJ 147 6 [some (.ref x), l1] (.ref x :: st) m Q := kJ_next d147_5 rfl
theorem d147_6 : decode (mB 147) 6 = .ok (.invokevirtual 188, 3) := by decide +kernel
theorem s147_6 {l0 l1 : Option Value} {v0 : Nat} {m : kMem} {Q : Option Value → kMem → Prop} (h : kIs m.2.2.2 v0 5 = true) : kJ 147 6 [l0, l1] [.ref v0] m Q = kJ 146 0 [some (.ref v0), none, none] [] m (fun v m2 => kJ 147 9 [l0, l1] (v.toList ++ []) m2 Q) := kJ_call d147_6 (kg_callv 146 0 rfl rfl rfl rfl (Nat.le_of_ble_eq_true rfl) (Nat.le_of_ble_eq_true rfl) (Nat.le_of_ble_eq_true rfl) h rfl)
theorem d147_9 : decode (mB 147) 9 = .ok (.ireturn, 1) := by decide +kernel
theorem s147_9 {l0 l1 : Option Value} {x : Int32} {m : kMem} {Q : Option Value → kMem → Prop} : kJ 147 9 [l0, l1] [.int x] m Q = Q (some (.int x)) m := kJ_ret d147_9 rfl
theorem d148_0 : decode (mB 148) 0 = .ok (.iconst 0, 1) := by decide +kernel
theorem s148_0 {l0 l1 l2 l3 : Option Value} {st : List Value} {m : kMem} {Q : Option Value → kMem → Prop} : kJ 148 0 [l0, l1, l2, l3] st m Q = kJ 148 1 [l0, l1, l2, l3] (.int (nI 0) :: st) m Q := kJ_next d148_0 rfl
theorem d148_1 : decode (mB 148) 1 = .ok (.istore_n 2, 1) := by decide +kernel
theorem s148_1 {l0 l1 l2 l3 : Option Value} {st : List Value} {x : Int32} {m : kMem} {Q : Option Value → kMem → Prop} (hp : kNL l1 = true) : kJ 148 1 [l0, l1, l2, l3] (.int x :: st) m Q = kJ 148 2 [l0, l1, some (.int x), l3] st m Q := kJ_next d148_1 (kg_sti (Nat.le_of_ble_eq_true rfl) hp)
theorem d148_2 : decode (mB 148) 2 = .ok (.iconst 0, 1) := by decide +kernel
theorem s148_2 {l0 l1 l2 l3 : Option Value} {st : List Value} {m : kMem} {Q : Option Value → kMem → Prop} : kJ 148 2 [l0, l1, l2, l3] st m Q = kJ 148 3 [l0, l1, l2, l3] (.int (nI 0) :: st) m Q := kJ_next d148_2 rfl
theorem d148_3 : decode (mB 148) 3 = .ok (.istore_n 3, 1) := by decide +kernel
theorem s148_3 {l0 l1 l2 l3 : Option Value} {st : List Value} {x : Int32} {m : kMem} {Q : Option Value → kMem → Prop} (hp : kNL l2 = true) : kJ 148 3 [l0, l1, l2, l3] (.int x :: st) m Q = kJ 148 4 [l0, l1, l2, some (.int x)] st m Q := kJ_next d148_3 (kg_sti (Nat.le_of_ble_eq_true rfl) hp)
theorem d148_4 : decode (mB 148) 4 = .ok (.iload_n 3, 1) := by decide +kernel
theorem s148_4 {l0 l1 l2 : Option Value} {st : List Value} {x : Int32} {m : kMem} {Q : Option Value → kMem → Prop} : kJ 148 4 [l0, l1, l2, some (.int x)] st m Q = kJ 148 5 [l0, l1, l2, some (.int x)] (.int x :: st) m Q := kJ_next d148_4 rfl
theorem d148_5 : decode (mB 148) 5 = .ok (.aload_n 0, 1) := by decide +kernel
theorem s148_5 {l1 l2 l3 : Option Value} {st : List Value} {x : Nat} {m : kMem} {Q : Option Value → kMem → Prop} : kJ 148 5 [some (.ref x), l1, l2, l3] st m Q = kJ 148 6 [some (.ref x), l1, l2, l3] (.ref x :: st) m Q := kJ_next d148_5 rfl
theorem d148_6 : decode (mB 148) 6 = .ok (.getfield 13, 3) := by decide +kernel
theorem s148_6 {l0 l1 l2 l3 : Option Value} {st : List Value} {q : Nat} {mi : Nat → Nat → Int32} {ml : Nat → Nat → Int64} {mr : Nat → Nat → Option Nat} {nx : Nat} {Q : Option Value → kMem → Prop} (h : kIs nx q 5 = true) : kJ 148 6 [l0, l1, l2, l3] (.ref q :: st) (mi, ml, mr, nx) Q = kJ 148 9 [l0, l1, l2, l3] (va_rf (mr q 1) :: st) (mi, ml, mr, nx) Q := kJ_next d148_6 (kg_getr 5 1 rfl h (by decide))
theorem d148_9 : decode (mB 148) 9 = .ok (.bipush 52, 2) := by decide +kernel
theorem s148_9 {l0 l1 l2 l3 : Option Value} {st : List Value} {m : kMem} {Q : Option Value → kMem → Prop} : kJ 148 9 [l0, l1, l2, l3] st m Q = kJ 148 11 [l0, l1, l2, l3] (.int (nI 52) :: st) m Q := kJ_next d148_9 rfl
theorem d148_11 : decode (mB 148) 11 = .ok (.iaload, 1) := by decide +kernel
theorem s148_11 {l0 l1 l2 l3 : Option Value} {st : List Value} {q : Nat} {i : Int32} {mi : Nat → Nat → Int32} {ml : Nat → Nat → Int64} {mr : Nat → Nat → Option Nat} {nx : Nat} {Q : Option Value → kMem → Prop} (h : kIs nx q 10 = true) : kJ 148 11 [l0, l1, l2, l3] (.int i :: .ref q :: st) (mi, ml, mr, nx) Q = (vp_in i (kAl q) ∧ kJ 148 12 [l0, l1, l2, l3] (.int (mi q i.toNatClampNeg) :: st) (mi, ml, mr, nx) Q) := kg_aldJ d148_11 rfl (kAr_of h)
theorem d148_12 : decode (mB 148) 12 = .ok (.if_icmp .ge 32, 3) := by decide +kernel
theorem s148_12 {l0 l1 l2 l3 : Option Value} {st : List Value} {a b : Int32} {m : kMem} {Q : Option Value → kMem → Prop} : kJ 148 12 [l0, l1, l2, l3] (.int b :: .int a :: st) m Q = (if b ≤ a then kJ 148 44 [l0, l1, l2, l3] st m Q else kJ 148 15 [l0, l1, l2, l3] st m Q) := kJ_if d148_12 rfl (fun h => kJ_next d148_12 h) (fun h => kJ_next d148_12 h)
theorem d148_15 : decode (mB 148) 15 = .ok (.iload_n 2, 1) := by decide +kernel
theorem s148_15 {l0 l1 l3 : Option Value} {st : List Value} {x : Int32} {m : kMem} {Q : Option Value → kMem → Prop} : kJ 148 15 [l0, l1, some (.int x), l3] st m Q = kJ 148 16 [l0, l1, some (.int x), l3] (.int x :: st) m Q := kJ_next d148_15 rfl
theorem d148_16 : decode (mB 148) 16 = .ok (.aload_n 0, 1) := by decide +kernel
theorem s148_16 {l1 l2 l3 : Option Value} {st : List Value} {x : Nat} {m : kMem} {Q : Option Value → kMem → Prop} : kJ 148 16 [some (.ref x), l1, l2, l3] st m Q = kJ 148 17 [some (.ref x), l1, l2, l3] (.ref x :: st) m Q := kJ_next d148_16 rfl
theorem d148_17 : decode (mB 148) 17 = .ok (.iload_n 3, 1) := by decide +kernel
theorem s148_17 {l0 l1 l2 : Option Value} {st : List Value} {x : Int32} {m : kMem} {Q : Option Value → kMem → Prop} : kJ 148 17 [l0, l1, l2, some (.int x)] st m Q = kJ 148 18 [l0, l1, l2, some (.int x)] (.int x :: st) m Q := kJ_next d148_17 rfl
theorem d148_18 : decode (mB 148) 18 = .ok (.iconst 5, 1) := by decide +kernel
theorem s148_18 {l0 l1 l2 l3 : Option Value} {st : List Value} {m : kMem} {Q : Option Value → kMem → Prop} : kJ 148 18 [l0, l1, l2, l3] st m Q = kJ 148 19 [l0, l1, l2, l3] (.int (nI 5) :: st) m Q := kJ_next d148_18 rfl
theorem d148_19 : decode (mB 148) 19 = .ok (.invokevirtual 141, 3) := by decide +kernel
theorem s148_19 {l0 l1 l2 l3 : Option Value} {v0 : Int32} {v1 : Int32} {v2 : Nat} {v3 : Int32} {m : kMem} {Q : Option Value → kMem → Prop} (h : kIs m.2.2.2 v2 5 = true) : kJ 148 19 [l0, l1, l2, l3] [.int v0, .int v1, .ref v2, .int v3] m Q = kJ 134 0 [some (.ref v2), some (.int v1), some (.int v0)] [] m (fun v m2 => kJ 148 22 [l0, l1, l2, l3] (v.toList ++ [.int v3]) m2 Q) := kJ_call d148_19 (kg_callv 134 2 rfl rfl rfl rfl (Nat.le_of_ble_eq_true rfl) (Nat.le_of_ble_eq_true rfl) (Nat.le_of_ble_eq_true rfl) h rfl)
theorem d148_22 : decode (mB 148) 22 = .ok (.iload_n 1, 1) := by decide +kernel
theorem s148_22 {l0 l2 l3 : Option Value} {st : List Value} {x : Int32} {m : kMem} {Q : Option Value → kMem → Prop} : kJ 148 22 [l0, some (.int x), l2, l3] st m Q = kJ 148 23 [l0, some (.int x), l2, l3] (.int x :: st) m Q := kJ_next d148_22 rfl
theorem d148_23 : decode (mB 148) 23 = .ok (.if_icmp .ne 7, 3) := by decide +kernel
theorem s148_23 {l0 l1 l2 l3 : Option Value} {st : List Value} {a b : Int32} {m : kMem} {Q : Option Value → kMem → Prop} : kJ 148 23 [l0, l1, l2, l3] (.int b :: .int a :: st) m Q = (if a = b then kJ 148 26 [l0, l1, l2, l3] st m Q else kJ 148 30 [l0, l1, l2, l3] st m Q) := kJ_if d148_23 rfl (fun h => kJ_next d148_23 h) (fun h => kJ_next d148_23 h)
theorem d148_26 : decode (mB 148) 26 = .ok (.iconst 1, 1) := by decide +kernel
theorem s148_26 {l0 l1 l2 l3 : Option Value} {st : List Value} {m : kMem} {Q : Option Value → kMem → Prop} : kJ 148 26 [l0, l1, l2, l3] st m Q = kJ 148 27 [l0, l1, l2, l3] (.int (nI 1) :: st) m Q := kJ_next d148_26 rfl
theorem d148_27 : decode (mB 148) 27 = .ok (.goto 4, 3) := by decide +kernel
theorem s148_27 {l0 l1 l2 l3 : Option Value} {st : List Value} {m : kMem} {Q : Option Value → kMem → Prop} : kJ 148 27 [l0, l1, l2, l3] st m Q = kJ 148 31 [l0, l1, l2, l3] st m Q := kJ_next d148_27 rfl
theorem d148_30 : decode (mB 148) 30 = .ok (.iconst 0, 1) := by decide +kernel
theorem s148_30 {l0 l1 l2 l3 : Option Value} {st : List Value} {m : kMem} {Q : Option Value → kMem → Prop} : kJ 148 30 [l0, l1, l2, l3] st m Q = kJ 148 31 [l0, l1, l2, l3] (.int (nI 0) :: st) m Q := kJ_next d148_30 rfl
theorem d148_31 : decode (mB 148) 31 = .ok (.invokestatic 191, 3) := by decide +kernel
theorem s148_31 {l0 l1 l2 l3 : Option Value} {v0 : Int32} {v1 : Int32} {m : kMem} {Q : Option Value → kMem → Prop} : kJ 148 31 [l0, l1, l2, l3] [.int v0, .int v1] m Q = kJ 108 0 [some (.int v0)] [] m (fun v m2 => kJ 148 34 [l0, l1, l2, l3] (v.toList ++ [.int v1]) m2 Q) := kJ_call d148_31 (kg_calls 108 1 rfl rfl (Nat.le_of_ble_eq_true rfl) (Nat.le_of_ble_eq_true rfl) (Nat.le_of_ble_eq_true rfl) (Nat.le_of_ble_eq_true rfl))
theorem d148_34 : decode (mB 148) 34 = .ok (.iload_n 3, 1) := by decide +kernel
theorem s148_34 {l0 l1 l2 : Option Value} {st : List Value} {x : Int32} {m : kMem} {Q : Option Value → kMem → Prop} : kJ 148 34 [l0, l1, l2, some (.int x)] st m Q = kJ 148 35 [l0, l1, l2, some (.int x)] (.int x :: st) m Q := kJ_next d148_34 rfl
theorem d148_35 : decode (mB 148) 35 = .ok (.ishl, 1) := by decide +kernel
theorem s148_35 {l0 l1 l2 l3 : Option Value} {st : List Value} {a b : Int32} {m : kMem} {Q : Option Value → kMem → Prop} : kJ 148 35 [l0, l1, l2, l3] (.int b :: .int a :: st) m Q = kJ 148 36 [l0, l1, l2, l3] (.int (a <<< (b &&& 31)) :: st) m Q := kJ_next d148_35 rfl
theorem d148_36 : decode (mB 148) 36 = .ok (.ior, 1) := by decide +kernel
theorem s148_36 {l0 l1 l2 l3 : Option Value} {st : List Value} {a b : Int32} {m : kMem} {Q : Option Value → kMem → Prop} : kJ 148 36 [l0, l1, l2, l3] (.int b :: .int a :: st) m Q = kJ 148 37 [l0, l1, l2, l3] (.int (a ||| b) :: st) m Q := kJ_next d148_36 rfl
theorem d148_37 : decode (mB 148) 37 = .ok (.istore_n 2, 1) := by decide +kernel
theorem s148_37 {l0 l1 l2 l3 : Option Value} {st : List Value} {x : Int32} {m : kMem} {Q : Option Value → kMem → Prop} (hp : kNL l1 = true) : kJ 148 37 [l0, l1, l2, l3] (.int x :: st) m Q = kJ 148 38 [l0, l1, some (.int x), l3] st m Q := kJ_next d148_37 (kg_sti (Nat.le_of_ble_eq_true rfl) hp)
theorem d148_38 : decode (mB 148) 38 = .ok (.iinc 3 1, 3) := by decide +kernel
theorem s148_38 {l0 l1 l2 : Option Value} {st : List Value} {x : Int32} {m : kMem} {Q : Option Value → kMem → Prop} (hp : kNL l2 = true) : kJ 148 38 [l0, l1, l2, some (.int x)] st m Q = kJ 148 41 [l0, l1, l2, some (.int (x + (nI 1)))] st m Q := kJ_next d148_38 (kg_inc rfl (Nat.le_of_ble_eq_true rfl) hp)
theorem d148_41 : decode (mB 148) 41 = .ok (.goto (-37), 3) := by decide +kernel
theorem s148_41 {l0 l1 l2 l3 : Option Value} {st : List Value} {m : kMem} {Q : Option Value → kMem → Prop} : kJ 148 41 [l0, l1, l2, l3] st m Q = kJ 148 4 [l0, l1, l2, l3] st m Q := kJ_next d148_41 rfl
theorem d148_44 : decode (mB 148) 44 = .ok (.iload_n 2, 1) := by decide +kernel
theorem s148_44 {l0 l1 l3 : Option Value} {st : List Value} {x : Int32} {m : kMem} {Q : Option Value → kMem → Prop} : kJ 148 44 [l0, l1, some (.int x), l3] st m Q = kJ 148 45 [l0, l1, some (.int x), l3] (.int x :: st) m Q := kJ_next d148_44 rfl
theorem d148_45 : decode (mB 148) 45 = .ok (.ireturn, 1) := by decide +kernel
theorem s148_45 {l0 l1 l2 l3 : Option Value} {x : Int32} {m : kMem} {Q : Option Value → kMem → Prop} : kJ 148 45 [l0, l1, l2, l3] [.int x] m Q = Q (some (.int x)) m := kJ_ret d148_45 rfl
theorem d149_0 : decode (mB 149) 0 = .ok (.aload_n 0, 1) := by decide +kernel
theorem s149_0 {l1 : Option Value} {st : List Value} {x : Nat} {m : kMem} {Q : Option Value → kMem → Prop} : kJ 149 0 [some (.ref x), l1] st m Q = kJ 149 1 [some (.ref x), l1] (.ref x :: st) m Q := kJ_next d149_0 rfl
theorem d149_1 : decode (mB 149) 1 = .ok (.invokevirtual 195, 3) := by decide +kernel
theorem s149_1 {l0 l1 : Option Value} {v0 : Nat} {m : kMem} {Q : Option Value → kMem → Prop} (h : kIs m.2.2.2 v0 5 = true) : kJ 149 1 [l0, l1] [.ref v0] m Q = kJ 130 0 [some (.ref v0), none] [] m (fun v m2 => kJ 149 4 [l0, l1] (v.toList ++ []) m2 Q) := kJ_call d149_1 (kg_callv 130 0 rfl rfl rfl rfl (Nat.le_of_ble_eq_true rfl) (Nat.le_of_ble_eq_true rfl) (Nat.le_of_ble_eq_true rfl) h rfl)
theorem d149_4 : decode (mB 149) 4 = .ok (.iload_n 1, 1) := by decide +kernel
theorem s149_4 {l0 : Option Value} {st : List Value} {x : Int32} {m : kMem} {Q : Option Value → kMem → Prop} : kJ 149 4 [l0, some (.int x)] st m Q = kJ 149 5 [l0, some (.int x)] (.int x :: st) m Q := kJ_next d149_4 rfl
theorem d149_5 : decode (mB 149) 5 = .ok (.tableswitch 92 0 6 #[43, 51, 59, 67, 75, 80, 86], 43) := by decide +kernel
theorem s149_5 {l0 l1 : Option Value} {st : List Value} {a : Int32} {m : kMem} {Q : Option Value → kMem → Prop} : kJ 149 5 [l0, l1] (.int a :: st) m Q = (if a = (nI 0) then kJ 149 48 [l0, l1] st m Q else if a = (nI 1) then kJ 149 56 [l0, l1] st m Q else if a = (nI 2) then kJ 149 64 [l0, l1] st m Q else if a = (nI 3) then kJ 149 72 [l0, l1] st m Q else if a = (nI 4) then kJ 149 80 [l0, l1] st m Q else if a = (nI 5) then kJ 149 85 [l0, l1] st m Q else if a = (nI 6) then kJ 149 91 [l0, l1] st m Q else kJ 149 97 [l0, l1] st m Q) := by
  by_cases h0 : a = nI 0
  · subst h0; exact kJ_next d149_5 rfl
  rw [if_neg h0]
  by_cases h1 : a = nI 1
  · subst h1; exact kJ_next d149_5 rfl
  rw [if_neg h1]
  by_cases h2 : a = nI 2
  · subst h2; exact kJ_next d149_5 rfl
  rw [if_neg h2]
  by_cases h3 : a = nI 3
  · subst h3; exact kJ_next d149_5 rfl
  rw [if_neg h3]
  by_cases h4 : a = nI 4
  · subst h4; exact kJ_next d149_5 rfl
  rw [if_neg h4]
  by_cases h5 : a = nI 5
  · subst h5; exact kJ_next d149_5 rfl
  rw [if_neg h5]
  by_cases h6 : a = nI 6
  · subst h6; exact kJ_next d149_5 rfl
  rw [if_neg h6]
  have hz : ∀ j, j < 0 → a ≠ nI j := fun j hj => absurd hj (Nat.not_lt_zero j)
  refine kJ_next d149_5 (if_pos (c := a.toInt < 0 ∨ (6 : Int) < a.toInt) ?_)
  have hr := kg_rng (a := a) (n := 6) (by decide) (fun j hj => by
    rcases Nat.lt_or_ge j 0 with hl | hl
    · exact hz j hl
    · have hj2 : j = 0 ∨ j = 1 ∨ j = 2 ∨ j = 3 ∨ j = 4 ∨ j = 5 ∨ j = 6 := by omega
      rcases hj2 with rfl | rfl | rfl | rfl | rfl | rfl | rfl
      · exact h0
      · exact h1
      · exact h2
      · exact h3
      · exact h4
      · exact h5
      · exact h6
    )
  omega
theorem d149_48 : decode (mB 149) 48 = .ok (.aload_n 0, 1) := by decide +kernel
theorem s149_48 {l1 : Option Value} {st : List Value} {x : Nat} {m : kMem} {Q : Option Value → kMem → Prop} : kJ 149 48 [some (.ref x), l1] st m Q = kJ 149 49 [some (.ref x), l1] (.ref x :: st) m Q := kJ_next d149_48 rfl
theorem d149_49 : decode (mB 149) 49 = .ok (.getfield 7, 3) := by decide +kernel
theorem s149_49 {l0 l1 : Option Value} {st : List Value} {q : Nat} {mi : Nat → Nat → Int32} {ml : Nat → Nat → Int64} {mr : Nat → Nat → Option Nat} {nx : Nat} {Q : Option Value → kMem → Prop} (h : kIs nx q 5 = true) : kJ 149 49 [l0, l1] (.ref q :: st) (mi, ml, mr, nx) Q = kJ 149 52 [l0, l1] (va_rf (mr q 0) :: st) (mi, ml, mr, nx) Q := kJ_next d149_49 (kg_getr 5 0 rfl h (by decide))
theorem d149_52 : decode (mB 149) 52 = .ok (.bipush 15, 2) := by decide +kernel
theorem s149_52 {l0 l1 : Option Value} {st : List Value} {m : kMem} {Q : Option Value → kMem → Prop} : kJ 149 52 [l0, l1] st m Q = kJ 149 54 [l0, l1] (.int (nI 15) :: st) m Q := kJ_next d149_52 rfl
theorem d149_54 : decode (mB 149) 54 = .ok (.iaload, 1) := by decide +kernel
theorem s149_54 {l0 l1 : Option Value} {st : List Value} {q : Nat} {i : Int32} {mi : Nat → Nat → Int32} {ml : Nat → Nat → Int64} {mr : Nat → Nat → Option Nat} {nx : Nat} {Q : Option Value → kMem → Prop} (h : kIs nx q 10 = true) : kJ 149 54 [l0, l1] (.int i :: .ref q :: st) (mi, ml, mr, nx) Q = (vp_in i (kAl q) ∧ kJ 149 55 [l0, l1] (.int (mi q i.toNatClampNeg) :: st) (mi, ml, mr, nx) Q) := kg_aldJ d149_54 rfl (kAr_of h)
theorem d149_55 : decode (mB 149) 55 = .ok (.ireturn, 1) := by decide +kernel
theorem s149_55 {l0 l1 : Option Value} {x : Int32} {m : kMem} {Q : Option Value → kMem → Prop} : kJ 149 55 [l0, l1] [.int x] m Q = Q (some (.int x)) m := kJ_ret d149_55 rfl
theorem d149_56 : decode (mB 149) 56 = .ok (.aload_n 0, 1) := by decide +kernel
theorem s149_56 {l1 : Option Value} {st : List Value} {x : Nat} {m : kMem} {Q : Option Value → kMem → Prop} : kJ 149 56 [some (.ref x), l1] st m Q = kJ 149 57 [some (.ref x), l1] (.ref x :: st) m Q := kJ_next d149_56 rfl
theorem d149_57 : decode (mB 149) 57 = .ok (.getfield 7, 3) := by decide +kernel
theorem s149_57 {l0 l1 : Option Value} {st : List Value} {q : Nat} {mi : Nat → Nat → Int32} {ml : Nat → Nat → Int64} {mr : Nat → Nat → Option Nat} {nx : Nat} {Q : Option Value → kMem → Prop} (h : kIs nx q 5 = true) : kJ 149 57 [l0, l1] (.ref q :: st) (mi, ml, mr, nx) Q = kJ 149 60 [l0, l1] (va_rf (mr q 0) :: st) (mi, ml, mr, nx) Q := kJ_next d149_57 (kg_getr 5 0 rfl h (by decide))
theorem d149_60 : decode (mB 149) 60 = .ok (.bipush 52, 2) := by decide +kernel
theorem s149_60 {l0 l1 : Option Value} {st : List Value} {m : kMem} {Q : Option Value → kMem → Prop} : kJ 149 60 [l0, l1] st m Q = kJ 149 62 [l0, l1] (.int (nI 52) :: st) m Q := kJ_next d149_60 rfl
theorem d149_62 : decode (mB 149) 62 = .ok (.iaload, 1) := by decide +kernel
theorem s149_62 {l0 l1 : Option Value} {st : List Value} {q : Nat} {i : Int32} {mi : Nat → Nat → Int32} {ml : Nat → Nat → Int64} {mr : Nat → Nat → Option Nat} {nx : Nat} {Q : Option Value → kMem → Prop} (h : kIs nx q 10 = true) : kJ 149 62 [l0, l1] (.int i :: .ref q :: st) (mi, ml, mr, nx) Q = (vp_in i (kAl q) ∧ kJ 149 63 [l0, l1] (.int (mi q i.toNatClampNeg) :: st) (mi, ml, mr, nx) Q) := kg_aldJ d149_62 rfl (kAr_of h)
theorem d149_63 : decode (mB 149) 63 = .ok (.ireturn, 1) := by decide +kernel
theorem s149_63 {l0 l1 : Option Value} {x : Int32} {m : kMem} {Q : Option Value → kMem → Prop} : kJ 149 63 [l0, l1] [.int x] m Q = Q (some (.int x)) m := kJ_ret d149_63 rfl
theorem d149_64 : decode (mB 149) 64 = .ok (.aload_n 0, 1) := by decide +kernel
theorem s149_64 {l1 : Option Value} {st : List Value} {x : Nat} {m : kMem} {Q : Option Value → kMem → Prop} : kJ 149 64 [some (.ref x), l1] st m Q = kJ 149 65 [some (.ref x), l1] (.ref x :: st) m Q := kJ_next d149_64 rfl
theorem d149_65 : decode (mB 149) 65 = .ok (.getfield 7, 3) := by decide +kernel
theorem s149_65 {l0 l1 : Option Value} {st : List Value} {q : Nat} {mi : Nat → Nat → Int32} {ml : Nat → Nat → Int64} {mr : Nat → Nat → Option Nat} {nx : Nat} {Q : Option Value → kMem → Prop} (h : kIs nx q 5 = true) : kJ 149 65 [l0, l1] (.ref q :: st) (mi, ml, mr, nx) Q = kJ 149 68 [l0, l1] (va_rf (mr q 0) :: st) (mi, ml, mr, nx) Q := kJ_next d149_65 (kg_getr 5 0 rfl h (by decide))
theorem d149_68 : decode (mB 149) 68 = .ok (.bipush 54, 2) := by decide +kernel
theorem s149_68 {l0 l1 : Option Value} {st : List Value} {m : kMem} {Q : Option Value → kMem → Prop} : kJ 149 68 [l0, l1] st m Q = kJ 149 70 [l0, l1] (.int (nI 54) :: st) m Q := kJ_next d149_68 rfl
theorem d149_70 : decode (mB 149) 70 = .ok (.iaload, 1) := by decide +kernel
theorem s149_70 {l0 l1 : Option Value} {st : List Value} {q : Nat} {i : Int32} {mi : Nat → Nat → Int32} {ml : Nat → Nat → Int64} {mr : Nat → Nat → Option Nat} {nx : Nat} {Q : Option Value → kMem → Prop} (h : kIs nx q 10 = true) : kJ 149 70 [l0, l1] (.int i :: .ref q :: st) (mi, ml, mr, nx) Q = (vp_in i (kAl q) ∧ kJ 149 71 [l0, l1] (.int (mi q i.toNatClampNeg) :: st) (mi, ml, mr, nx) Q) := kg_aldJ d149_70 rfl (kAr_of h)
theorem d149_71 : decode (mB 149) 71 = .ok (.ireturn, 1) := by decide +kernel
theorem s149_71 {l0 l1 : Option Value} {x : Int32} {m : kMem} {Q : Option Value → kMem → Prop} : kJ 149 71 [l0, l1] [.int x] m Q = Q (some (.int x)) m := kJ_ret d149_71 rfl
theorem d149_72 : decode (mB 149) 72 = .ok (.aload_n 0, 1) := by decide +kernel
theorem s149_72 {l1 : Option Value} {st : List Value} {x : Nat} {m : kMem} {Q : Option Value → kMem → Prop} : kJ 149 72 [some (.ref x), l1] st m Q = kJ 149 73 [some (.ref x), l1] (.ref x :: st) m Q := kJ_next d149_72 rfl
theorem d149_73 : decode (mB 149) 73 = .ok (.getfield 7, 3) := by decide +kernel
theorem s149_73 {l0 l1 : Option Value} {st : List Value} {q : Nat} {mi : Nat → Nat → Int32} {ml : Nat → Nat → Int64} {mr : Nat → Nat → Option Nat} {nx : Nat} {Q : Option Value → kMem → Prop} (h : kIs nx q 5 = true) : kJ 149 73 [l0, l1] (.ref q :: st) (mi, ml, mr, nx) Q = kJ 149 76 [l0, l1] (va_rf (mr q 0) :: st) (mi, ml, mr, nx) Q := kJ_next d149_73 (kg_getr 5 0 rfl h (by decide))
theorem d149_76 : decode (mB 149) 76 = .ok (.bipush 53, 2) := by decide +kernel
theorem s149_76 {l0 l1 : Option Value} {st : List Value} {m : kMem} {Q : Option Value → kMem → Prop} : kJ 149 76 [l0, l1] st m Q = kJ 149 78 [l0, l1] (.int (nI 53) :: st) m Q := kJ_next d149_76 rfl
theorem d149_78 : decode (mB 149) 78 = .ok (.iaload, 1) := by decide +kernel
theorem s149_78 {l0 l1 : Option Value} {st : List Value} {q : Nat} {i : Int32} {mi : Nat → Nat → Int32} {ml : Nat → Nat → Int64} {mr : Nat → Nat → Option Nat} {nx : Nat} {Q : Option Value → kMem → Prop} (h : kIs nx q 10 = true) : kJ 149 78 [l0, l1] (.int i :: .ref q :: st) (mi, ml, mr, nx) Q = (vp_in i (kAl q) ∧ kJ 149 79 [l0, l1] (.int (mi q i.toNatClampNeg) :: st) (mi, ml, mr, nx) Q) := kg_aldJ d149_78 rfl (kAr_of h)
theorem d149_79 : decode (mB 149) 79 = .ok (.ireturn, 1) := by decide +kernel
theorem s149_79 {l0 l1 : Option Value} {x : Int32} {m : kMem} {Q : Option Value → kMem → Prop} : kJ 149 79 [l0, l1] [.int x] m Q = Q (some (.int x)) m := kJ_ret d149_79 rfl
theorem d149_80 : decode (mB 149) 80 = .ok (.aload_n 0, 1) := by decide +kernel
theorem s149_80 {l1 : Option Value} {st : List Value} {x : Nat} {m : kMem} {Q : Option Value → kMem → Prop} : kJ 149 80 [some (.ref x), l1] st m Q = kJ 149 81 [some (.ref x), l1] (.ref x :: st) m Q := kJ_next d149_80 rfl
theorem d149_81 : decode (mB 149) 81 = .ok (.invokevirtual 188, 3) := by decide +kernel
theorem s149_81 {l0 l1 : Option Value} {v0 : Nat} {m : kMem} {Q : Option Value → kMem → Prop} (h : kIs m.2.2.2 v0 5 = true) : kJ 149 81 [l0, l1] [.ref v0] m Q = kJ 146 0 [some (.ref v0), none, none] [] m (fun v m2 => kJ 149 84 [l0, l1] (v.toList ++ []) m2 Q) := kJ_call d149_81 (kg_callv 146 0 rfl rfl rfl rfl (Nat.le_of_ble_eq_true rfl) (Nat.le_of_ble_eq_true rfl) (Nat.le_of_ble_eq_true rfl) h rfl)
theorem d149_84 : decode (mB 149) 84 = .ok (.ireturn, 1) := by decide +kernel
theorem s149_84 {l0 l1 : Option Value} {x : Int32} {m : kMem} {Q : Option Value → kMem → Prop} : kJ 149 84 [l0, l1] [.int x] m Q = Q (some (.int x)) m := kJ_ret d149_84 rfl
theorem d149_85 : decode (mB 149) 85 = .ok (.aload_n 0, 1) := by decide +kernel
theorem s149_85 {l1 : Option Value} {st : List Value} {x : Nat} {m : kMem} {Q : Option Value → kMem → Prop} : kJ 149 85 [some (.ref x), l1] st m Q = kJ 149 86 [some (.ref x), l1] (.ref x :: st) m Q := kJ_next d149_85 rfl
theorem d149_86 : decode (mB 149) 86 = .ok (.iconst 2, 1) := by decide +kernel
theorem s149_86 {l0 l1 : Option Value} {st : List Value} {m : kMem} {Q : Option Value → kMem → Prop} : kJ 149 86 [l0, l1] st m Q = kJ 149 87 [l0, l1] (.int (nI 2) :: st) m Q := kJ_next d149_86 rfl
theorem d149_87 : decode (mB 149) 87 = .ok (.invokevirtual 198, 3) := by decide +kernel
theorem s149_87 {l0 l1 : Option Value} {v0 : Int32} {v1 : Nat} {m : kMem} {Q : Option Value → kMem → Prop} (h : kIs m.2.2.2 v1 5 = true) : kJ 149 87 [l0, l1] [.int v0, .ref v1] m Q = kJ 148 0 [some (.ref v1), some (.int v0), none, none] [] m (fun v m2 => kJ 149 90 [l0, l1] (v.toList ++ []) m2 Q) := kJ_call d149_87 (kg_callv 148 1 rfl rfl rfl rfl (Nat.le_of_ble_eq_true rfl) (Nat.le_of_ble_eq_true rfl) (Nat.le_of_ble_eq_true rfl) h rfl)
theorem d149_90 : decode (mB 149) 90 = .ok (.ireturn, 1) := by decide +kernel
theorem s149_90 {l0 l1 : Option Value} {x : Int32} {m : kMem} {Q : Option Value → kMem → Prop} : kJ 149 90 [l0, l1] [.int x] m Q = Q (some (.int x)) m := kJ_ret d149_90 rfl
theorem d149_91 : decode (mB 149) 91 = .ok (.aload_n 0, 1) := by decide +kernel
theorem s149_91 {l1 : Option Value} {st : List Value} {x : Nat} {m : kMem} {Q : Option Value → kMem → Prop} : kJ 149 91 [some (.ref x), l1] st m Q = kJ 149 92 [some (.ref x), l1] (.ref x :: st) m Q := kJ_next d149_91 rfl
theorem d149_92 : decode (mB 149) 92 = .ok (.iconst 3, 1) := by decide +kernel
theorem s149_92 {l0 l1 : Option Value} {st : List Value} {m : kMem} {Q : Option Value → kMem → Prop} : kJ 149 92 [l0, l1] st m Q = kJ 149 93 [l0, l1] (.int (nI 3) :: st) m Q := kJ_next d149_92 rfl
theorem d149_93 : decode (mB 149) 93 = .ok (.invokevirtual 198, 3) := by decide +kernel
theorem s149_93 {l0 l1 : Option Value} {v0 : Int32} {v1 : Nat} {m : kMem} {Q : Option Value → kMem → Prop} (h : kIs m.2.2.2 v1 5 = true) : kJ 149 93 [l0, l1] [.int v0, .ref v1] m Q = kJ 148 0 [some (.ref v1), some (.int v0), none, none] [] m (fun v m2 => kJ 149 96 [l0, l1] (v.toList ++ []) m2 Q) := kJ_call d149_93 (kg_callv 148 1 rfl rfl rfl rfl (Nat.le_of_ble_eq_true rfl) (Nat.le_of_ble_eq_true rfl) (Nat.le_of_ble_eq_true rfl) h rfl)
theorem d149_96 : decode (mB 149) 96 = .ok (.ireturn, 1) := by decide +kernel
theorem s149_96 {l0 l1 : Option Value} {x : Int32} {m : kMem} {Q : Option Value → kMem → Prop} : kJ 149 96 [l0, l1] [.int x] m Q = Q (some (.int x)) m := kJ_ret d149_96 rfl
theorem d149_97 : decode (mB 149) 97 = .ok (.iconst (-1), 1) := by decide +kernel
theorem s149_97 {l0 l1 : Option Value} {st : List Value} {m : kMem} {Q : Option Value → kMem → Prop} : kJ 149 97 [l0, l1] st m Q = kJ 149 98 [l0, l1] (.int (-1) :: st) m Q := kJ_next d149_97 rfl
theorem d149_98 : decode (mB 149) 98 = .ok (.ireturn, 1) := by decide +kernel
theorem s149_98 {l0 l1 : Option Value} {x : Int32} {m : kMem} {Q : Option Value → kMem → Prop} : kJ 149 98 [l0, l1] [.int x] m Q = Q (some (.int x)) m := kJ_ret d149_98 rfl
theorem d150_0 : decode (mB 150) 0 = .ok (.aload_n 0, 1) := by decide +kernel
theorem s150_0 {l1 l2 l3 l4 : Option Value} {st : List Value} {x : Nat} {m : kMem} {Q : Option Value → kMem → Prop} : kJ 150 0 [some (.ref x), l1, l2, l3, l4] st m Q = kJ 150 1 [some (.ref x), l1, l2, l3, l4] (.ref x :: st) m Q := kJ_next d150_0 rfl
theorem d150_1 : decode (mB 150) 1 = .ok (.iload_n 1, 1) := by decide +kernel
theorem s150_1 {l0 l2 l3 l4 : Option Value} {st : List Value} {x : Int32} {m : kMem} {Q : Option Value → kMem → Prop} : kJ 150 1 [l0, some (.int x), l2, l3, l4] st m Q = kJ 150 2 [l0, some (.int x), l2, l3, l4] (.int x :: st) m Q := kJ_next d150_1 rfl
theorem d150_2 : decode (mB 150) 2 = .ok (.invokevirtual 201, 3) := by decide +kernel
theorem s150_2 {l0 l1 l2 l3 l4 : Option Value} {v0 : Int32} {v1 : Nat} {m : kMem} {Q : Option Value → kMem → Prop} (h : kIs m.2.2.2 v1 5 = true) : kJ 150 2 [l0, l1, l2, l3, l4] [.int v0, .ref v1] m Q = kJ 126 0 [some (.ref v1), some (.int v0)] [] m (fun v m2 => kJ 150 5 [l0, l1, l2, l3, l4] (v.toList ++ []) m2 Q) := kJ_call d150_2 (kg_callv 126 1 rfl rfl rfl rfl (Nat.le_of_ble_eq_true rfl) (Nat.le_of_ble_eq_true rfl) (Nat.le_of_ble_eq_true rfl) h rfl)
theorem d150_5 : decode (mB 150) 5 = .ok (.ifCond .eq 15, 3) := by decide +kernel
theorem s150_5 {l0 l1 l2 l3 l4 : Option Value} {st : List Value} {a : Int32} {m : kMem} {Q : Option Value → kMem → Prop} : kJ 150 5 [l0, l1, l2, l3, l4] (.int a :: st) m Q = (if a = 0 then kJ 150 20 [l0, l1, l2, l3, l4] st m Q else kJ 150 8 [l0, l1, l2, l3, l4] st m Q) := kJ_if d150_5 rfl (fun h => kJ_next d150_5 h) (fun h => kJ_next d150_5 h)
theorem d150_8 : decode (mB 150) 8 = .ok (.iload_n 2, 1) := by decide +kernel
theorem s150_8 {l0 l1 l3 l4 : Option Value} {st : List Value} {x : Int32} {m : kMem} {Q : Option Value → kMem → Prop} : kJ 150 8 [l0, l1, some (.int x), l3, l4] st m Q = kJ 150 9 [l0, l1, some (.int x), l3, l4] (.int x :: st) m Q := kJ_next d150_8 rfl
theorem d150_9 : decode (mB 150) 9 = .ok (.i2l, 1) := by decide +kernel
theorem s150_9 {l0 l1 l2 l3 l4 : Option Value} {st : List Value} {a : Int32} {m : kMem} {Q : Option Value → kMem → Prop} : kJ 150 9 [l0, l1, l2, l3, l4] (.int a :: st) m Q = kJ 150 10 [l0, l1, l2, l3, l4] (.long a.toInt64 :: st) m Q := kJ_next d150_9 rfl
theorem d150_10 : decode (mB 150) 10 = .ok (.lconst 0, 1) := by decide +kernel
theorem s150_10 {l0 l1 l2 l3 l4 : Option Value} {st : List Value} {m : kMem} {Q : Option Value → kMem → Prop} : kJ 150 10 [l0, l1, l2, l3, l4] st m Q = kJ 150 11 [l0, l1, l2, l3, l4] (.long 0 :: st) m Q := kJ_next d150_10 rfl
theorem d150_11 : decode (mB 150) 11 = .ok (.ldc2_w 204, 3) := by decide +kernel
theorem s150_11 {l0 l1 l2 l3 l4 : Option Value} {st : List Value} {m : kMem} {Q : Option Value → kMem → Prop} : kJ 150 11 [l0, l1, l2, l3, l4] st m Q = kJ 150 14 [l0, l1, l2, l3, l4] (.long (3) :: st) m Q := kJ_next d150_11 rfl
theorem d150_14 : decode (mB 150) 14 = .ok (.invokestatic 60, 3) := by decide +kernel
theorem s150_14 {l0 l1 l2 l3 l4 : Option Value} {v0 : Int64} {v1 : Int64} {v2 : Int64} {m : kMem} {Q : Option Value → kMem → Prop} : kJ 150 14 [l0, l1, l2, l3, l4] [.long v0, .long v1, .long v2] m Q = kJ 107 0 [some (.long v2), none, some (.long v1), none, some (.long v0), none] [] m (fun v m2 => kJ 150 17 [l0, l1, l2, l3, l4] (v.toList ++ []) m2 Q) := kJ_call d150_14 (kg_calls 107 3 rfl rfl (Nat.le_of_ble_eq_true rfl) (Nat.le_of_ble_eq_true rfl) (Nat.le_of_ble_eq_true rfl) (Nat.le_of_ble_eq_true rfl))
theorem d150_17 : decode (mB 150) 17 = .ok (.ifCond .ne 5, 3) := by decide +kernel
theorem s150_17 {l0 l1 l2 l3 l4 : Option Value} {st : List Value} {a : Int32} {m : kMem} {Q : Option Value → kMem → Prop} : kJ 150 17 [l0, l1, l2, l3, l4] (.int a :: st) m Q = (if a = 0 then kJ 150 20 [l0, l1, l2, l3, l4] st m Q else kJ 150 22 [l0, l1, l2, l3, l4] st m Q) := kJ_if d150_17 rfl (fun h => kJ_next d150_17 h) (fun h => kJ_next d150_17 h)
theorem d150_20 : decode (mB 150) 20 = .ok (.iconst (-1), 1) := by decide +kernel
theorem s150_20 {l0 l1 l2 l3 l4 : Option Value} {st : List Value} {m : kMem} {Q : Option Value → kMem → Prop} : kJ 150 20 [l0, l1, l2, l3, l4] st m Q = kJ 150 21 [l0, l1, l2, l3, l4] (.int (-1) :: st) m Q := kJ_next d150_20 rfl
theorem d150_21 : decode (mB 150) 21 = .ok (.ireturn, 1) := by decide +kernel
theorem s150_21 {l0 l1 l2 l3 l4 : Option Value} {x : Int32} {m : kMem} {Q : Option Value → kMem → Prop} : kJ 150 21 [l0, l1, l2, l3, l4] [.int x] m Q = Q (some (.int x)) m := kJ_ret d150_21 rfl
theorem d150_22 : decode (mB 150) 22 = .ok (.aload_n 0, 1) := by decide +kernel
theorem s150_22 {l1 l2 l3 l4 : Option Value} {st : List Value} {x : Nat} {m : kMem} {Q : Option Value → kMem → Prop} : kJ 150 22 [some (.ref x), l1, l2, l3, l4] st m Q = kJ 150 23 [some (.ref x), l1, l2, l3, l4] (.ref x :: st) m Q := kJ_next d150_22 rfl
theorem d150_23 : decode (mB 150) 23 = .ok (.invokevirtual 195, 3) := by decide +kernel
theorem s150_23 {l0 l1 l2 l3 l4 : Option Value} {v0 : Nat} {m : kMem} {Q : Option Value → kMem → Prop} (h : kIs m.2.2.2 v0 5 = true) : kJ 150 23 [l0, l1, l2, l3, l4] [.ref v0] m Q = kJ 130 0 [some (.ref v0), none] [] m (fun v m2 => kJ 150 26 [l0, l1, l2, l3, l4] (v.toList ++ []) m2 Q) := kJ_call d150_23 (kg_callv 130 0 rfl rfl rfl rfl (Nat.le_of_ble_eq_true rfl) (Nat.le_of_ble_eq_true rfl) (Nat.le_of_ble_eq_true rfl) h rfl)
theorem d150_26 : decode (mB 150) 26 = .ok (.iconst 0, 1) := by decide +kernel
theorem s150_26 {l0 l1 l2 l3 l4 : Option Value} {st : List Value} {m : kMem} {Q : Option Value → kMem → Prop} : kJ 150 26 [l0, l1, l2, l3, l4] st m Q = kJ 150 27 [l0, l1, l2, l3, l4] (.int (nI 0) :: st) m Q := kJ_next d150_26 rfl
theorem d150_27 : decode (mB 150) 27 = .ok (.istore_n 3, 1) := by decide +kernel
theorem s150_27 {l0 l1 l2 l3 l4 : Option Value} {st : List Value} {x : Int32} {m : kMem} {Q : Option Value → kMem → Prop} (hp : kNL l2 = true) : kJ 150 27 [l0, l1, l2, l3, l4] (.int x :: st) m Q = kJ 150 28 [l0, l1, l2, some (.int x), l4] st m Q := kJ_next d150_27 (kg_sti (Nat.le_of_ble_eq_true rfl) hp)
theorem d150_28 : decode (mB 150) 28 = .ok (.iconst 0, 1) := by decide +kernel
theorem s150_28 {l0 l1 l2 l3 l4 : Option Value} {st : List Value} {m : kMem} {Q : Option Value → kMem → Prop} : kJ 150 28 [l0, l1, l2, l3, l4] st m Q = kJ 150 29 [l0, l1, l2, l3, l4] (.int (nI 0) :: st) m Q := kJ_next d150_28 rfl
theorem d150_29 : decode (mB 150) 29 = .ok (.istore 4, 2) := by decide +kernel
theorem s150_29 {l0 l1 l2 l3 l4 : Option Value} {st : List Value} {x : Int32} {m : kMem} {Q : Option Value → kMem → Prop} (hp : kNL l3 = true) : kJ 150 29 [l0, l1, l2, l3, l4] (.int x :: st) m Q = kJ 150 31 [l0, l1, l2, l3, some (.int x)] st m Q := kJ_next d150_29 (kg_sti (Nat.le_of_ble_eq_true rfl) hp)
theorem d150_31 : decode (mB 150) 31 = .ok (.iload 4, 2) := by decide +kernel
theorem s150_31 {l0 l1 l2 l3 : Option Value} {st : List Value} {x : Int32} {m : kMem} {Q : Option Value → kMem → Prop} : kJ 150 31 [l0, l1, l2, l3, some (.int x)] st m Q = kJ 150 33 [l0, l1, l2, l3, some (.int x)] (.int x :: st) m Q := kJ_next d150_31 rfl
theorem d150_33 : decode (mB 150) 33 = .ok (.aload_n 0, 1) := by decide +kernel
theorem s150_33 {l1 l2 l3 l4 : Option Value} {st : List Value} {x : Nat} {m : kMem} {Q : Option Value → kMem → Prop} : kJ 150 33 [some (.ref x), l1, l2, l3, l4] st m Q = kJ 150 34 [some (.ref x), l1, l2, l3, l4] (.ref x :: st) m Q := kJ_next d150_33 rfl
theorem d150_34 : decode (mB 150) 34 = .ok (.getfield 7, 3) := by decide +kernel
theorem s150_34 {l0 l1 l2 l3 l4 : Option Value} {st : List Value} {q : Nat} {mi : Nat → Nat → Int32} {ml : Nat → Nat → Int64} {mr : Nat → Nat → Option Nat} {nx : Nat} {Q : Option Value → kMem → Prop} (h : kIs nx q 5 = true) : kJ 150 34 [l0, l1, l2, l3, l4] (.ref q :: st) (mi, ml, mr, nx) Q = kJ 150 37 [l0, l1, l2, l3, l4] (va_rf (mr q 0) :: st) (mi, ml, mr, nx) Q := kJ_next d150_34 (kg_getr 5 0 rfl h (by decide))
theorem d150_37 : decode (mB 150) 37 = .ok (.bipush 52, 2) := by decide +kernel
theorem s150_37 {l0 l1 l2 l3 l4 : Option Value} {st : List Value} {m : kMem} {Q : Option Value → kMem → Prop} : kJ 150 37 [l0, l1, l2, l3, l4] st m Q = kJ 150 39 [l0, l1, l2, l3, l4] (.int (nI 52) :: st) m Q := kJ_next d150_37 rfl
theorem d150_39 : decode (mB 150) 39 = .ok (.iaload, 1) := by decide +kernel
theorem s150_39 {l0 l1 l2 l3 l4 : Option Value} {st : List Value} {q : Nat} {i : Int32} {mi : Nat → Nat → Int32} {ml : Nat → Nat → Int64} {mr : Nat → Nat → Option Nat} {nx : Nat} {Q : Option Value → kMem → Prop} (h : kIs nx q 10 = true) : kJ 150 39 [l0, l1, l2, l3, l4] (.int i :: .ref q :: st) (mi, ml, mr, nx) Q = (vp_in i (kAl q) ∧ kJ 150 40 [l0, l1, l2, l3, l4] (.int (mi q i.toNatClampNeg) :: st) (mi, ml, mr, nx) Q) := kg_aldJ d150_39 rfl (kAr_of h)
theorem d150_40 : decode (mB 150) 40 = .ok (.if_icmp .ge 42, 3) := by decide +kernel
theorem s150_40 {l0 l1 l2 l3 l4 : Option Value} {st : List Value} {a b : Int32} {m : kMem} {Q : Option Value → kMem → Prop} : kJ 150 40 [l0, l1, l2, l3, l4] (.int b :: .int a :: st) m Q = (if b ≤ a then kJ 150 82 [l0, l1, l2, l3, l4] st m Q else kJ 150 43 [l0, l1, l2, l3, l4] st m Q) := kJ_if d150_40 rfl (fun h => kJ_next d150_40 h) (fun h => kJ_next d150_40 h)
theorem d150_43 : decode (mB 150) 43 = .ok (.iload_n 3, 1) := by decide +kernel
theorem s150_43 {l0 l1 l2 l4 : Option Value} {st : List Value} {x : Int32} {m : kMem} {Q : Option Value → kMem → Prop} : kJ 150 43 [l0, l1, l2, some (.int x), l4] st m Q = kJ 150 44 [l0, l1, l2, some (.int x), l4] (.int x :: st) m Q := kJ_next d150_43 rfl
theorem d150_44 : decode (mB 150) 44 = .ok (.aload_n 0, 1) := by decide +kernel
theorem s150_44 {l1 l2 l3 l4 : Option Value} {st : List Value} {x : Nat} {m : kMem} {Q : Option Value → kMem → Prop} : kJ 150 44 [some (.ref x), l1, l2, l3, l4] st m Q = kJ 150 45 [some (.ref x), l1, l2, l3, l4] (.ref x :: st) m Q := kJ_next d150_44 rfl
theorem d150_45 : decode (mB 150) 45 = .ok (.iload 4, 2) := by decide +kernel
theorem s150_45 {l0 l1 l2 l3 : Option Value} {st : List Value} {x : Int32} {m : kMem} {Q : Option Value → kMem → Prop} : kJ 150 45 [l0, l1, l2, l3, some (.int x)] st m Q = kJ 150 47 [l0, l1, l2, l3, some (.int x)] (.int x :: st) m Q := kJ_next d150_45 rfl
theorem d150_47 : decode (mB 150) 47 = .ok (.invokevirtual 174, 3) := by decide +kernel
theorem s150_47 {l0 l1 l2 l3 l4 : Option Value} {v0 : Int32} {v1 : Nat} {v2 : Int32} {m : kMem} {Q : Option Value → kMem → Prop} (h : kIs m.2.2.2 v1 5 = true) : kJ 150 47 [l0, l1, l2, l3, l4] [.int v0, .ref v1, .int v2] m Q = kJ 139 0 [some (.ref v1), some (.int v0)] [] m (fun v m2 => kJ 150 50 [l0, l1, l2, l3, l4] (v.toList ++ [.int v2]) m2 Q) := kJ_call d150_47 (kg_callv 139 1 rfl rfl rfl rfl (Nat.le_of_ble_eq_true rfl) (Nat.le_of_ble_eq_true rfl) (Nat.le_of_ble_eq_true rfl) h rfl)
theorem d150_50 : decode (mB 150) 50 = .ok (.ifCond .eq 17, 3) := by decide +kernel
theorem s150_50 {l0 l1 l2 l3 l4 : Option Value} {st : List Value} {a : Int32} {m : kMem} {Q : Option Value → kMem → Prop} : kJ 150 50 [l0, l1, l2, l3, l4] (.int a :: st) m Q = (if a = 0 then kJ 150 67 [l0, l1, l2, l3, l4] st m Q else kJ 150 53 [l0, l1, l2, l3, l4] st m Q) := kJ_if d150_50 rfl (fun h => kJ_next d150_50 h) (fun h => kJ_next d150_50 h)
theorem d150_53 : decode (mB 150) 53 = .ok (.aload_n 0, 1) := by decide +kernel
theorem s150_53 {l1 l2 l3 l4 : Option Value} {st : List Value} {x : Nat} {m : kMem} {Q : Option Value → kMem → Prop} : kJ 150 53 [some (.ref x), l1, l2, l3, l4] st m Q = kJ 150 54 [some (.ref x), l1, l2, l3, l4] (.ref x :: st) m Q := kJ_next d150_53 rfl
theorem d150_54 : decode (mB 150) 54 = .ok (.iload 4, 2) := by decide +kernel
theorem s150_54 {l0 l1 l2 l3 : Option Value} {st : List Value} {x : Int32} {m : kMem} {Q : Option Value → kMem → Prop} : kJ 150 54 [l0, l1, l2, l3, some (.int x)] st m Q = kJ 150 56 [l0, l1, l2, l3, some (.int x)] (.int x :: st) m Q := kJ_next d150_54 rfl
theorem d150_56 : decode (mB 150) 56 = .ok (.invokevirtual 151, 3) := by decide +kernel
theorem s150_56 {l0 l1 l2 l3 l4 : Option Value} {v0 : Int32} {v1 : Nat} {v2 : Int32} {m : kMem} {Q : Option Value → kMem → Prop} (h : kIs m.2.2.2 v1 5 = true) : kJ 150 56 [l0, l1, l2, l3, l4] [.int v0, .ref v1, .int v2] m Q = kJ 140 0 [some (.ref v1), some (.int v0)] [] m (fun v m2 => kJ 150 59 [l0, l1, l2, l3, l4] (v.toList ++ [.int v2]) m2 Q) := kJ_call d150_56 (kg_callv 140 1 rfl rfl rfl rfl (Nat.le_of_ble_eq_true rfl) (Nat.le_of_ble_eq_true rfl) (Nat.le_of_ble_eq_true rfl) h rfl)
theorem d150_59 : decode (mB 150) 59 = .ok (.iload_n 1, 1) := by decide +kernel
theorem s150_59 {l0 l2 l3 l4 : Option Value} {st : List Value} {x : Int32} {m : kMem} {Q : Option Value → kMem → Prop} : kJ 150 59 [l0, some (.int x), l2, l3, l4] st m Q = kJ 150 60 [l0, some (.int x), l2, l3, l4] (.int x :: st) m Q := kJ_next d150_59 rfl
theorem d150_60 : decode (mB 150) 60 = .ok (.if_icmp .ne 7, 3) := by decide +kernel
theorem s150_60 {l0 l1 l2 l3 l4 : Option Value} {st : List Value} {a b : Int32} {m : kMem} {Q : Option Value → kMem → Prop} : kJ 150 60 [l0, l1, l2, l3, l4] (.int b :: .int a :: st) m Q = (if a = b then kJ 150 63 [l0, l1, l2, l3, l4] st m Q else kJ 150 67 [l0, l1, l2, l3, l4] st m Q) := kJ_if d150_60 rfl (fun h => kJ_next d150_60 h) (fun h => kJ_next d150_60 h)
theorem d150_63 : decode (mB 150) 63 = .ok (.iconst 1, 1) := by decide +kernel
theorem s150_63 {l0 l1 l2 l3 l4 : Option Value} {st : List Value} {m : kMem} {Q : Option Value → kMem → Prop} : kJ 150 63 [l0, l1, l2, l3, l4] st m Q = kJ 150 64 [l0, l1, l2, l3, l4] (.int (nI 1) :: st) m Q := kJ_next d150_63 rfl
theorem d150_64 : decode (mB 150) 64 = .ok (.goto 4, 3) := by decide +kernel
theorem s150_64 {l0 l1 l2 l3 l4 : Option Value} {st : List Value} {m : kMem} {Q : Option Value → kMem → Prop} : kJ 150 64 [l0, l1, l2, l3, l4] st m Q = kJ 150 68 [l0, l1, l2, l3, l4] st m Q := kJ_next d150_64 rfl
theorem d150_67 : decode (mB 150) 67 = .ok (.iconst 0, 1) := by decide +kernel
theorem s150_67 {l0 l1 l2 l3 l4 : Option Value} {st : List Value} {m : kMem} {Q : Option Value → kMem → Prop} : kJ 150 67 [l0, l1, l2, l3, l4] st m Q = kJ 150 68 [l0, l1, l2, l3, l4] (.int (nI 0) :: st) m Q := kJ_next d150_67 rfl
theorem d150_68 : decode (mB 150) 68 = .ok (.invokestatic 191, 3) := by decide +kernel
theorem s150_68 {l0 l1 l2 l3 l4 : Option Value} {v0 : Int32} {v1 : Int32} {m : kMem} {Q : Option Value → kMem → Prop} : kJ 150 68 [l0, l1, l2, l3, l4] [.int v0, .int v1] m Q = kJ 108 0 [some (.int v0)] [] m (fun v m2 => kJ 150 71 [l0, l1, l2, l3, l4] (v.toList ++ [.int v1]) m2 Q) := kJ_call d150_68 (kg_calls 108 1 rfl rfl (Nat.le_of_ble_eq_true rfl) (Nat.le_of_ble_eq_true rfl) (Nat.le_of_ble_eq_true rfl) (Nat.le_of_ble_eq_true rfl))
theorem d150_71 : decode (mB 150) 71 = .ok (.iload 4, 2) := by decide +kernel
theorem s150_71 {l0 l1 l2 l3 : Option Value} {st : List Value} {x : Int32} {m : kMem} {Q : Option Value → kMem → Prop} : kJ 150 71 [l0, l1, l2, l3, some (.int x)] st m Q = kJ 150 73 [l0, l1, l2, l3, some (.int x)] (.int x :: st) m Q := kJ_next d150_71 rfl
theorem d150_73 : decode (mB 150) 73 = .ok (.ishl, 1) := by decide +kernel
theorem s150_73 {l0 l1 l2 l3 l4 : Option Value} {st : List Value} {a b : Int32} {m : kMem} {Q : Option Value → kMem → Prop} : kJ 150 73 [l0, l1, l2, l3, l4] (.int b :: .int a :: st) m Q = kJ 150 74 [l0, l1, l2, l3, l4] (.int (a <<< (b &&& 31)) :: st) m Q := kJ_next d150_73 rfl
theorem d150_74 : decode (mB 150) 74 = .ok (.ior, 1) := by decide +kernel
theorem s150_74 {l0 l1 l2 l3 l4 : Option Value} {st : List Value} {a b : Int32} {m : kMem} {Q : Option Value → kMem → Prop} : kJ 150 74 [l0, l1, l2, l3, l4] (.int b :: .int a :: st) m Q = kJ 150 75 [l0, l1, l2, l3, l4] (.int (a ||| b) :: st) m Q := kJ_next d150_74 rfl
theorem d150_75 : decode (mB 150) 75 = .ok (.istore_n 3, 1) := by decide +kernel
theorem s150_75 {l0 l1 l2 l3 l4 : Option Value} {st : List Value} {x : Int32} {m : kMem} {Q : Option Value → kMem → Prop} (hp : kNL l2 = true) : kJ 150 75 [l0, l1, l2, l3, l4] (.int x :: st) m Q = kJ 150 76 [l0, l1, l2, some (.int x), l4] st m Q := kJ_next d150_75 (kg_sti (Nat.le_of_ble_eq_true rfl) hp)
theorem d150_76 : decode (mB 150) 76 = .ok (.iinc 4 1, 3) := by decide +kernel
theorem s150_76 {l0 l1 l2 l3 : Option Value} {st : List Value} {x : Int32} {m : kMem} {Q : Option Value → kMem → Prop} (hp : kNL l3 = true) : kJ 150 76 [l0, l1, l2, l3, some (.int x)] st m Q = kJ 150 79 [l0, l1, l2, l3, some (.int (x + (nI 1)))] st m Q := kJ_next d150_76 (kg_inc rfl (Nat.le_of_ble_eq_true rfl) hp)
theorem d150_79 : decode (mB 150) 79 = .ok (.goto (-48), 3) := by decide +kernel
theorem s150_79 {l0 l1 l2 l3 l4 : Option Value} {st : List Value} {m : kMem} {Q : Option Value → kMem → Prop} : kJ 150 79 [l0, l1, l2, l3, l4] st m Q = kJ 150 31 [l0, l1, l2, l3, l4] st m Q := kJ_next d150_79 rfl
theorem d150_82 : decode (mB 150) 82 = .ok (.iload_n 2, 1) := by decide +kernel
theorem s150_82 {l0 l1 l3 l4 : Option Value} {st : List Value} {x : Int32} {m : kMem} {Q : Option Value → kMem → Prop} : kJ 150 82 [l0, l1, some (.int x), l3, l4] st m Q = kJ 150 83 [l0, l1, some (.int x), l3, l4] (.int x :: st) m Q := kJ_next d150_82 rfl
theorem d150_83 : decode (mB 150) 83 = .ok (.iconst 3, 1) := by decide +kernel
theorem s150_83 {l0 l1 l2 l3 l4 : Option Value} {st : List Value} {m : kMem} {Q : Option Value → kMem → Prop} : kJ 150 83 [l0, l1, l2, l3, l4] st m Q = kJ 150 84 [l0, l1, l2, l3, l4] (.int (nI 3) :: st) m Q := kJ_next d150_83 rfl
theorem d150_84 : decode (mB 150) 84 = .ok (.if_icmp .ge 12, 3) := by decide +kernel
theorem s150_84 {l0 l1 l2 l3 l4 : Option Value} {st : List Value} {a b : Int32} {m : kMem} {Q : Option Value → kMem → Prop} : kJ 150 84 [l0, l1, l2, l3, l4] (.int b :: .int a :: st) m Q = (if b ≤ a then kJ 150 96 [l0, l1, l2, l3, l4] st m Q else kJ 150 87 [l0, l1, l2, l3, l4] st m Q) := kJ_if d150_84 rfl (fun h => kJ_next d150_84 h) (fun h => kJ_next d150_84 h)
theorem d150_87 : decode (mB 150) 87 = .ok (.aload_n 0, 1) := by decide +kernel
theorem s150_87 {l1 l2 l3 l4 : Option Value} {st : List Value} {x : Nat} {m : kMem} {Q : Option Value → kMem → Prop} : kJ 150 87 [some (.ref x), l1, l2, l3, l4] st m Q = kJ 150 88 [some (.ref x), l1, l2, l3, l4] (.ref x :: st) m Q := kJ_next d150_87 rfl
theorem d150_88 : decode (mB 150) 88 = .ok (.iload_n 1, 1) := by decide +kernel
theorem s150_88 {l0 l2 l3 l4 : Option Value} {st : List Value} {x : Int32} {m : kMem} {Q : Option Value → kMem → Prop} : kJ 150 88 [l0, some (.int x), l2, l3, l4] st m Q = kJ 150 89 [l0, some (.int x), l2, l3, l4] (.int x :: st) m Q := kJ_next d150_88 rfl
theorem d150_89 : decode (mB 150) 89 = .ok (.iload_n 2, 1) := by decide +kernel
theorem s150_89 {l0 l1 l3 l4 : Option Value} {st : List Value} {x : Int32} {m : kMem} {Q : Option Value → kMem → Prop} : kJ 150 89 [l0, l1, some (.int x), l3, l4] st m Q = kJ 150 90 [l0, l1, some (.int x), l3, l4] (.int x :: st) m Q := kJ_next d150_89 rfl
theorem d150_90 : decode (mB 150) 90 = .ok (.invokevirtual 144, 3) := by decide +kernel
theorem s150_90 {l0 l1 l2 l3 l4 : Option Value} {v0 : Int32} {v1 : Int32} {v2 : Nat} {m : kMem} {Q : Option Value → kMem → Prop} (h : kIs m.2.2.2 v2 5 = true) : kJ 150 90 [l0, l1, l2, l3, l4] [.int v0, .int v1, .ref v2] m Q = kJ 132 0 [some (.ref v2), some (.int v1), some (.int v0)] [] m (fun v m2 => kJ 150 93 [l0, l1, l2, l3, l4] (v.toList ++ []) m2 Q) := kJ_call d150_90 (kg_callv 132 2 rfl rfl rfl rfl (Nat.le_of_ble_eq_true rfl) (Nat.le_of_ble_eq_true rfl) (Nat.le_of_ble_eq_true rfl) h rfl)
theorem d150_93 : decode (mB 150) 93 = .ok (.goto 4, 3) := by decide +kernel
theorem s150_93 {l0 l1 l2 l3 l4 : Option Value} {st : List Value} {m : kMem} {Q : Option Value → kMem → Prop} : kJ 150 93 [l0, l1, l2, l3, l4] st m Q = kJ 150 97 [l0, l1, l2, l3, l4] st m Q := kJ_next d150_93 rfl
theorem d150_96 : decode (mB 150) 96 = .ok (.iload_n 3, 1) := by decide +kernel
theorem s150_96 {l0 l1 l2 l4 : Option Value} {st : List Value} {x : Int32} {m : kMem} {Q : Option Value → kMem → Prop} : kJ 150 96 [l0, l1, l2, some (.int x), l4] st m Q = kJ 150 97 [l0, l1, l2, some (.int x), l4] (.int x :: st) m Q := kJ_next d150_96 rfl
theorem d150_97 : decode (mB 150) 97 = .ok (.ireturn, 1) := by decide +kernel
theorem s150_97 {l0 l1 l2 l3 l4 : Option Value} {x : Int32} {m : kMem} {Q : Option Value → kMem → Prop} : kJ 150 97 [l0, l1, l2, l3, l4] [.int x] m Q = Q (some (.int x)) m := kJ_ret d150_97 rfl
theorem d151_0 : decode (mB 151) 0 = .ok (.aload_n 0, 1) := by decide +kernel
theorem s151_0 {l1 l2 : Option Value} {st : List Value} {x : Nat} {m : kMem} {Q : Option Value → kMem → Prop} : kJ 151 0 [some (.ref x), l1, l2] st m Q = kJ 151 1 [some (.ref x), l1, l2] (.ref x :: st) m Q := kJ_next d151_0 rfl
theorem d151_1 : decode (mB 151) 1 = .ok (.iload_n 1, 1) := by decide +kernel
theorem s151_1 {l0 l2 : Option Value} {st : List Value} {x : Int32} {m : kMem} {Q : Option Value → kMem → Prop} : kJ 151 1 [l0, some (.int x), l2] st m Q = kJ 151 2 [l0, some (.int x), l2] (.int x :: st) m Q := kJ_next d151_1 rfl
theorem d151_2 : decode (mB 151) 2 = .ok (.invokevirtual 206, 3) := by decide +kernel
theorem s151_2 {l0 l1 l2 : Option Value} {v0 : Int32} {v1 : Nat} {m : kMem} {Q : Option Value → kMem → Prop} (h : kIs m.2.2.2 v1 5 = true) : kJ 151 2 [l0, l1, l2] [.int v0, .ref v1] m Q = kJ 127 0 [some (.ref v1), some (.int v0)] [] m (fun v m2 => kJ 151 5 [l0, l1, l2] (v.toList ++ []) m2 Q) := kJ_call d151_2 (kg_callv 127 1 rfl rfl rfl rfl (Nat.le_of_ble_eq_true rfl) (Nat.le_of_ble_eq_true rfl) (Nat.le_of_ble_eq_true rfl) h rfl)
theorem d151_5 : decode (mB 151) 5 = .ok (.ifCond .eq 15, 3) := by decide +kernel
theorem s151_5 {l0 l1 l2 : Option Value} {st : List Value} {a : Int32} {m : kMem} {Q : Option Value → kMem → Prop} : kJ 151 5 [l0, l1, l2] (.int a :: st) m Q = (if a = 0 then kJ 151 20 [l0, l1, l2] st m Q else kJ 151 8 [l0, l1, l2] st m Q) := kJ_if d151_5 rfl (fun h => kJ_next d151_5 h) (fun h => kJ_next d151_5 h)
theorem d151_8 : decode (mB 151) 8 = .ok (.iload_n 2, 1) := by decide +kernel
theorem s151_8 {l0 l1 : Option Value} {st : List Value} {x : Int32} {m : kMem} {Q : Option Value → kMem → Prop} : kJ 151 8 [l0, l1, some (.int x)] st m Q = kJ 151 9 [l0, l1, some (.int x)] (.int x :: st) m Q := kJ_next d151_8 rfl
theorem d151_9 : decode (mB 151) 9 = .ok (.i2l, 1) := by decide +kernel
theorem s151_9 {l0 l1 l2 : Option Value} {st : List Value} {a : Int32} {m : kMem} {Q : Option Value → kMem → Prop} : kJ 151 9 [l0, l1, l2] (.int a :: st) m Q = kJ 151 10 [l0, l1, l2] (.long a.toInt64 :: st) m Q := kJ_next d151_9 rfl
theorem d151_10 : decode (mB 151) 10 = .ok (.lconst 0, 1) := by decide +kernel
theorem s151_10 {l0 l1 l2 : Option Value} {st : List Value} {m : kMem} {Q : Option Value → kMem → Prop} : kJ 151 10 [l0, l1, l2] st m Q = kJ 151 11 [l0, l1, l2] (.long 0 :: st) m Q := kJ_next d151_10 rfl
theorem d151_11 : decode (mB 151) 11 = .ok (.ldc2_w 209, 3) := by decide +kernel
theorem s151_11 {l0 l1 l2 : Option Value} {st : List Value} {m : kMem} {Q : Option Value → kMem → Prop} : kJ 151 11 [l0, l1, l2] st m Q = kJ 151 14 [l0, l1, l2] (.long (5) :: st) m Q := kJ_next d151_11 rfl
theorem d151_14 : decode (mB 151) 14 = .ok (.invokestatic 60, 3) := by decide +kernel
theorem s151_14 {l0 l1 l2 : Option Value} {v0 : Int64} {v1 : Int64} {v2 : Int64} {m : kMem} {Q : Option Value → kMem → Prop} : kJ 151 14 [l0, l1, l2] [.long v0, .long v1, .long v2] m Q = kJ 107 0 [some (.long v2), none, some (.long v1), none, some (.long v0), none] [] m (fun v m2 => kJ 151 17 [l0, l1, l2] (v.toList ++ []) m2 Q) := kJ_call d151_14 (kg_calls 107 3 rfl rfl (Nat.le_of_ble_eq_true rfl) (Nat.le_of_ble_eq_true rfl) (Nat.le_of_ble_eq_true rfl) (Nat.le_of_ble_eq_true rfl))
theorem d151_17 : decode (mB 151) 17 = .ok (.ifCond .ne 5, 3) := by decide +kernel
theorem s151_17 {l0 l1 l2 : Option Value} {st : List Value} {a : Int32} {m : kMem} {Q : Option Value → kMem → Prop} : kJ 151 17 [l0, l1, l2] (.int a :: st) m Q = (if a = 0 then kJ 151 20 [l0, l1, l2] st m Q else kJ 151 22 [l0, l1, l2] st m Q) := kJ_if d151_17 rfl (fun h => kJ_next d151_17 h) (fun h => kJ_next d151_17 h)
theorem d151_20 : decode (mB 151) 20 = .ok (.iconst (-1), 1) := by decide +kernel
theorem s151_20 {l0 l1 l2 : Option Value} {st : List Value} {m : kMem} {Q : Option Value → kMem → Prop} : kJ 151 20 [l0, l1, l2] st m Q = kJ 151 21 [l0, l1, l2] (.int (-1) :: st) m Q := kJ_next d151_20 rfl
theorem d151_21 : decode (mB 151) 21 = .ok (.ireturn, 1) := by decide +kernel
theorem s151_21 {l0 l1 l2 : Option Value} {x : Int32} {m : kMem} {Q : Option Value → kMem → Prop} : kJ 151 21 [l0, l1, l2] [.int x] m Q = Q (some (.int x)) m := kJ_ret d151_21 rfl
theorem d151_22 : decode (mB 151) 22 = .ok (.aload_n 0, 1) := by decide +kernel
theorem s151_22 {l1 l2 : Option Value} {st : List Value} {x : Nat} {m : kMem} {Q : Option Value → kMem → Prop} : kJ 151 22 [some (.ref x), l1, l2] st m Q = kJ 151 23 [some (.ref x), l1, l2] (.ref x :: st) m Q := kJ_next d151_22 rfl
theorem d151_23 : decode (mB 151) 23 = .ok (.invokevirtual 195, 3) := by decide +kernel
theorem s151_23 {l0 l1 l2 : Option Value} {v0 : Nat} {m : kMem} {Q : Option Value → kMem → Prop} (h : kIs m.2.2.2 v0 5 = true) : kJ 151 23 [l0, l1, l2] [.ref v0] m Q = kJ 130 0 [some (.ref v0), none] [] m (fun v m2 => kJ 151 26 [l0, l1, l2] (v.toList ++ []) m2 Q) := kJ_call d151_23 (kg_callv 130 0 rfl rfl rfl rfl (Nat.le_of_ble_eq_true rfl) (Nat.le_of_ble_eq_true rfl) (Nat.le_of_ble_eq_true rfl) h rfl)
theorem d151_26 : decode (mB 151) 26 = .ok (.aload_n 0, 1) := by decide +kernel
theorem s151_26 {l1 l2 : Option Value} {st : List Value} {x : Nat} {m : kMem} {Q : Option Value → kMem → Prop} : kJ 151 26 [some (.ref x), l1, l2] st m Q = kJ 151 27 [some (.ref x), l1, l2] (.ref x :: st) m Q := kJ_next d151_26 rfl
theorem d151_27 : decode (mB 151) 27 = .ok (.iload_n 1, 1) := by decide +kernel
theorem s151_27 {l0 l2 : Option Value} {st : List Value} {x : Int32} {m : kMem} {Q : Option Value → kMem → Prop} : kJ 151 27 [l0, some (.int x), l2] st m Q = kJ 151 28 [l0, some (.int x), l2] (.int x :: st) m Q := kJ_next d151_27 rfl
theorem d151_28 : decode (mB 151) 28 = .ok (.iload_n 2, 1) := by decide +kernel
theorem s151_28 {l0 l1 : Option Value} {st : List Value} {x : Int32} {m : kMem} {Q : Option Value → kMem → Prop} : kJ 151 28 [l0, l1, some (.int x)] st m Q = kJ 151 29 [l0, l1, some (.int x)] (.int x :: st) m Q := kJ_next d151_28 rfl
theorem d151_29 : decode (mB 151) 29 = .ok (.invokevirtual 141, 3) := by decide +kernel
theorem s151_29 {l0 l1 l2 : Option Value} {v0 : Int32} {v1 : Int32} {v2 : Nat} {m : kMem} {Q : Option Value → kMem → Prop} (h : kIs m.2.2.2 v2 5 = true) : kJ 151 29 [l0, l1, l2] [.int v0, .int v1, .ref v2] m Q = kJ 134 0 [some (.ref v2), some (.int v1), some (.int v0)] [] m (fun v m2 => kJ 151 32 [l0, l1, l2] (v.toList ++ []) m2 Q) := kJ_call d151_29 (kg_callv 134 2 rfl rfl rfl rfl (Nat.le_of_ble_eq_true rfl) (Nat.le_of_ble_eq_true rfl) (Nat.le_of_ble_eq_true rfl) h rfl)
theorem d151_32 : decode (mB 151) 32 = .ok (.ireturn, 1) := by decide +kernel
theorem s151_32 {l0 l1 l2 : Option Value} {x : Int32} {m : kMem} {Q : Option Value → kMem → Prop} : kJ 151 32 [l0, l1, l2] [.int x] m Q = Q (some (.int x)) m := kJ_ret d151_32 rfl
theorem d152_0 : decode (mB 152) 0 = .ok (.aload_n 0, 1) := by decide +kernel
theorem s152_0 {l1 l2 : Option Value} {st : List Value} {x : Nat} {m : kMem} {Q : Option Value → kMem → Prop} : kJ 152 0 [some (.ref x), l1, l2] st m Q = kJ 152 1 [some (.ref x), l1, l2] (.ref x :: st) m Q := kJ_next d152_0 rfl
theorem d152_1 : decode (mB 152) 1 = .ok (.iload_n 1, 1) := by decide +kernel
theorem s152_1 {l0 l2 : Option Value} {st : List Value} {x : Int32} {m : kMem} {Q : Option Value → kMem → Prop} : kJ 152 1 [l0, some (.int x), l2] st m Q = kJ 152 2 [l0, some (.int x), l2] (.int x :: st) m Q := kJ_next d152_1 rfl
theorem d152_2 : decode (mB 152) 2 = .ok (.invokevirtual 201, 3) := by decide +kernel
theorem s152_2 {l0 l1 l2 : Option Value} {v0 : Int32} {v1 : Nat} {m : kMem} {Q : Option Value → kMem → Prop} (h : kIs m.2.2.2 v1 5 = true) : kJ 152 2 [l0, l1, l2] [.int v0, .ref v1] m Q = kJ 126 0 [some (.ref v1), some (.int v0)] [] m (fun v m2 => kJ 152 5 [l0, l1, l2] (v.toList ++ []) m2 Q) := kJ_call d152_2 (kg_callv 126 1 rfl rfl rfl rfl (Nat.le_of_ble_eq_true rfl) (Nat.le_of_ble_eq_true rfl) (Nat.le_of_ble_eq_true rfl) h rfl)
theorem d152_5 : decode (mB 152) 5 = .ok (.ifCond .eq 10, 3) := by decide +kernel
theorem s152_5 {l0 l1 l2 : Option Value} {st : List Value} {a : Int32} {m : kMem} {Q : Option Value → kMem → Prop} : kJ 152 5 [l0, l1, l2] (.int a :: st) m Q = (if a = 0 then kJ 152 15 [l0, l1, l2] st m Q else kJ 152 8 [l0, l1, l2] st m Q) := kJ_if d152_5 rfl (fun h => kJ_next d152_5 h) (fun h => kJ_next d152_5 h)
theorem d152_8 : decode (mB 152) 8 = .ok (.iload_n 2, 1) := by decide +kernel
theorem s152_8 {l0 l1 : Option Value} {st : List Value} {x : Int32} {m : kMem} {Q : Option Value → kMem → Prop} : kJ 152 8 [l0, l1, some (.int x)] st m Q = kJ 152 9 [l0, l1, some (.int x)] (.int x :: st) m Q := kJ_next d152_8 rfl
theorem d152_9 : decode (mB 152) 9 = .ok (.invokestatic 211, 3) := by decide +kernel
theorem s152_9 {l0 l1 l2 : Option Value} {v0 : Int32} {m : kMem} {Q : Option Value → kMem → Prop} : kJ 152 9 [l0, l1, l2] [.int v0] m Q = kJ 128 0 [some (.int v0)] [] m (fun v m2 => kJ 152 12 [l0, l1, l2] (v.toList ++ []) m2 Q) := kJ_call d152_9 (kg_calls 128 1 rfl rfl (Nat.le_of_ble_eq_true rfl) (Nat.le_of_ble_eq_true rfl) (Nat.le_of_ble_eq_true rfl) (Nat.le_of_ble_eq_true rfl))
theorem d152_12 : decode (mB 152) 12 = .ok (.ifCond .ne 5, 3) := by decide +kernel
theorem s152_12 {l0 l1 l2 : Option Value} {st : List Value} {a : Int32} {m : kMem} {Q : Option Value → kMem → Prop} : kJ 152 12 [l0, l1, l2] (.int a :: st) m Q = (if a = 0 then kJ 152 15 [l0, l1, l2] st m Q else kJ 152 17 [l0, l1, l2] st m Q) := kJ_if d152_12 rfl (fun h => kJ_next d152_12 h) (fun h => kJ_next d152_12 h)
theorem d152_15 : decode (mB 152) 15 = .ok (.iconst (-1), 1) := by decide +kernel
theorem s152_15 {l0 l1 l2 : Option Value} {st : List Value} {m : kMem} {Q : Option Value → kMem → Prop} : kJ 152 15 [l0, l1, l2] st m Q = kJ 152 16 [l0, l1, l2] (.int (-1) :: st) m Q := kJ_next d152_15 rfl
theorem d152_16 : decode (mB 152) 16 = .ok (.ireturn, 1) := by decide +kernel
theorem s152_16 {l0 l1 l2 : Option Value} {x : Int32} {m : kMem} {Q : Option Value → kMem → Prop} : kJ 152 16 [l0, l1, l2] [.int x] m Q = Q (some (.int x)) m := kJ_ret d152_16 rfl
theorem d152_17 : decode (mB 152) 17 = .ok (.aload_n 0, 1) := by decide +kernel
theorem s152_17 {l1 l2 : Option Value} {st : List Value} {x : Nat} {m : kMem} {Q : Option Value → kMem → Prop} : kJ 152 17 [some (.ref x), l1, l2] st m Q = kJ 152 18 [some (.ref x), l1, l2] (.ref x :: st) m Q := kJ_next d152_17 rfl
theorem d152_18 : decode (mB 152) 18 = .ok (.invokevirtual 195, 3) := by decide +kernel
theorem s152_18 {l0 l1 l2 : Option Value} {v0 : Nat} {m : kMem} {Q : Option Value → kMem → Prop} (h : kIs m.2.2.2 v0 5 = true) : kJ 152 18 [l0, l1, l2] [.ref v0] m Q = kJ 130 0 [some (.ref v0), none] [] m (fun v m2 => kJ 152 21 [l0, l1, l2] (v.toList ++ []) m2 Q) := kJ_call d152_18 (kg_callv 130 0 rfl rfl rfl rfl (Nat.le_of_ble_eq_true rfl) (Nat.le_of_ble_eq_true rfl) (Nat.le_of_ble_eq_true rfl) h rfl)
theorem d152_21 : decode (mB 152) 21 = .ok (.bipush 40, 2) := by decide +kernel
theorem s152_21 {l0 l1 l2 : Option Value} {st : List Value} {m : kMem} {Q : Option Value → kMem → Prop} : kJ 152 21 [l0, l1, l2] st m Q = kJ 152 23 [l0, l1, l2] (.int (nI 40) :: st) m Q := kJ_next d152_21 rfl
theorem d152_23 : decode (mB 152) 23 = .ok (.aload_n 0, 1) := by decide +kernel
theorem s152_23 {l1 l2 : Option Value} {st : List Value} {x : Nat} {m : kMem} {Q : Option Value → kMem → Prop} : kJ 152 23 [some (.ref x), l1, l2] st m Q = kJ 152 24 [some (.ref x), l1, l2] (.ref x :: st) m Q := kJ_next d152_23 rfl
theorem d152_24 : decode (mB 152) 24 = .ok (.iload_n 1, 1) := by decide +kernel
theorem s152_24 {l0 l2 : Option Value} {st : List Value} {x : Int32} {m : kMem} {Q : Option Value → kMem → Prop} : kJ 152 24 [l0, some (.int x), l2] st m Q = kJ 152 25 [l0, some (.int x), l2] (.int x :: st) m Q := kJ_next d152_24 rfl
theorem d152_25 : decode (mB 152) 25 = .ok (.iconst 0, 1) := by decide +kernel
theorem s152_25 {l0 l1 l2 : Option Value} {st : List Value} {m : kMem} {Q : Option Value → kMem → Prop} : kJ 152 25 [l0, l1, l2] st m Q = kJ 152 26 [l0, l1, l2] (.int (nI 0) :: st) m Q := kJ_next d152_25 rfl
theorem d152_26 : decode (mB 152) 26 = .ok (.invokevirtual 144, 3) := by decide +kernel
theorem s152_26 {l0 l1 l2 : Option Value} {v0 : Int32} {v1 : Int32} {v2 : Nat} {v3 : Int32} {m : kMem} {Q : Option Value → kMem → Prop} (h : kIs m.2.2.2 v2 5 = true) : kJ 152 26 [l0, l1, l2] [.int v0, .int v1, .ref v2, .int v3] m Q = kJ 132 0 [some (.ref v2), some (.int v1), some (.int v0)] [] m (fun v m2 => kJ 152 29 [l0, l1, l2] (v.toList ++ [.int v3]) m2 Q) := kJ_call d152_26 (kg_callv 132 2 rfl rfl rfl rfl (Nat.le_of_ble_eq_true rfl) (Nat.le_of_ble_eq_true rfl) (Nat.le_of_ble_eq_true rfl) h rfl)
theorem d152_29 : decode (mB 152) 29 = .ok (.iload_n 2, 1) := by decide +kernel
theorem s152_29 {l0 l1 : Option Value} {st : List Value} {x : Int32} {m : kMem} {Q : Option Value → kMem → Prop} : kJ 152 29 [l0, l1, some (.int x)] st m Q = kJ 152 30 [l0, l1, some (.int x)] (.int x :: st) m Q := kJ_next d152_29 rfl
theorem d152_30 : decode (mB 152) 30 = .ok (.invokestatic 154, 3) := by decide +kernel
theorem s152_30 {l0 l1 l2 : Option Value} {v0 : Int32} {v1 : Int32} {v2 : Int32} {m : kMem} {Q : Option Value → kMem → Prop} : kJ 152 30 [l0, l1, l2] [.int v0, .int v1, .int v2] m Q = kJ 136 0 [some (.int v1), some (.int v0), none, none] [] m (fun v m2 => kJ 152 33 [l0, l1, l2] (v.toList ++ [.int v2]) m2 Q) := kJ_call d152_30 (kg_calls 136 2 rfl rfl (Nat.le_of_ble_eq_true rfl) (Nat.le_of_ble_eq_true rfl) (Nat.le_of_ble_eq_true rfl) (Nat.le_of_ble_eq_true rfl))
theorem d152_33 : decode (mB 152) 33 = .ok (.iadd, 1) := by decide +kernel
theorem s152_33 {l0 l1 l2 : Option Value} {st : List Value} {a b : Int32} {m : kMem} {Q : Option Value → kMem → Prop} : kJ 152 33 [l0, l1, l2] (.int b :: .int a :: st) m Q = kJ 152 34 [l0, l1, l2] (.int (a + b) :: st) m Q := kJ_next d152_33 rfl
theorem d152_34 : decode (mB 152) 34 = .ok (.ireturn, 1) := by decide +kernel
theorem s152_34 {l0 l1 l2 : Option Value} {x : Int32} {m : kMem} {Q : Option Value → kMem → Prop} : kJ 152 34 [l0, l1, l2] [.int x] m Q = Q (some (.int x)) m := kJ_ret d152_34 rfl
theorem d153_0 : decode (mB 153) 0 = .ok (.aload_n 0, 1) := by decide +kernel
theorem s153_0 {l1 l2 l3 : Option Value} {st : List Value} {x : Nat} {m : kMem} {Q : Option Value → kMem → Prop} : kJ 153 0 [some (.ref x), l1, l2, l3] st m Q = kJ 153 1 [some (.ref x), l1, l2, l3] (.ref x :: st) m Q := kJ_next d153_0 rfl
theorem d153_1 : decode (mB 153) 1 = .ok (.getfield 7, 3) := by decide +kernel
theorem s153_1 {l0 l1 l2 l3 : Option Value} {st : List Value} {q : Nat} {mi : Nat → Nat → Int32} {ml : Nat → Nat → Int64} {mr : Nat → Nat → Option Nat} {nx : Nat} {Q : Option Value → kMem → Prop} (h : kIs nx q 5 = true) : kJ 153 1 [l0, l1, l2, l3] (.ref q :: st) (mi, ml, mr, nx) Q = kJ 153 4 [l0, l1, l2, l3] (va_rf (mr q 0) :: st) (mi, ml, mr, nx) Q := kJ_next d153_1 (kg_getr 5 0 rfl h (by decide))
theorem d153_4 : decode (mB 153) 4 = .ok (.iload_n 1, 1) := by decide +kernel
theorem s153_4 {l0 l2 l3 : Option Value} {st : List Value} {x : Int32} {m : kMem} {Q : Option Value → kMem → Prop} : kJ 153 4 [l0, some (.int x), l2, l3] st m Q = kJ 153 5 [l0, some (.int x), l2, l3] (.int x :: st) m Q := kJ_next d153_4 rfl
theorem d153_5 : decode (mB 153) 5 = .ok (.iaload, 1) := by decide +kernel
theorem s153_5 {l0 l1 l2 l3 : Option Value} {st : List Value} {q : Nat} {i : Int32} {mi : Nat → Nat → Int32} {ml : Nat → Nat → Int64} {mr : Nat → Nat → Option Nat} {nx : Nat} {Q : Option Value → kMem → Prop} (h : kIs nx q 10 = true) : kJ 153 5 [l0, l1, l2, l3] (.int i :: .ref q :: st) (mi, ml, mr, nx) Q = (vp_in i (kAl q) ∧ kJ 153 6 [l0, l1, l2, l3] (.int (mi q i.toNatClampNeg) :: st) (mi, ml, mr, nx) Q) := kg_aldJ d153_5 rfl (kAr_of h)
theorem d153_6 : decode (mB 153) 6 = .ok (.istore_n 3, 1) := by decide +kernel
theorem s153_6 {l0 l1 l2 l3 : Option Value} {st : List Value} {x : Int32} {m : kMem} {Q : Option Value → kMem → Prop} (hp : kNL l2 = true) : kJ 153 6 [l0, l1, l2, l3] (.int x :: st) m Q = kJ 153 7 [l0, l1, l2, some (.int x)] st m Q := kJ_next d153_6 (kg_sti (Nat.le_of_ble_eq_true rfl) hp)
theorem d153_7 : decode (mB 153) 7 = .ok (.aload_n 0, 1) := by decide +kernel
theorem s153_7 {l1 l2 l3 : Option Value} {st : List Value} {x : Nat} {m : kMem} {Q : Option Value → kMem → Prop} : kJ 153 7 [some (.ref x), l1, l2, l3] st m Q = kJ 153 8 [some (.ref x), l1, l2, l3] (.ref x :: st) m Q := kJ_next d153_7 rfl
theorem d153_8 : decode (mB 153) 8 = .ok (.getfield 7, 3) := by decide +kernel
theorem s153_8 {l0 l1 l2 l3 : Option Value} {st : List Value} {q : Nat} {mi : Nat → Nat → Int32} {ml : Nat → Nat → Int64} {mr : Nat → Nat → Option Nat} {nx : Nat} {Q : Option Value → kMem → Prop} (h : kIs nx q 5 = true) : kJ 153 8 [l0, l1, l2, l3] (.ref q :: st) (mi, ml, mr, nx) Q = kJ 153 11 [l0, l1, l2, l3] (va_rf (mr q 0) :: st) (mi, ml, mr, nx) Q := kJ_next d153_8 (kg_getr 5 0 rfl h (by decide))
theorem d153_11 : decode (mB 153) 11 = .ok (.iload_n 1, 1) := by decide +kernel
theorem s153_11 {l0 l2 l3 : Option Value} {st : List Value} {x : Int32} {m : kMem} {Q : Option Value → kMem → Prop} : kJ 153 11 [l0, some (.int x), l2, l3] st m Q = kJ 153 12 [l0, some (.int x), l2, l3] (.int x :: st) m Q := kJ_next d153_11 rfl
theorem d153_12 : decode (mB 153) 12 = .ok (.iload_n 2, 1) := by decide +kernel
theorem s153_12 {l0 l1 l3 : Option Value} {st : List Value} {x : Int32} {m : kMem} {Q : Option Value → kMem → Prop} : kJ 153 12 [l0, l1, some (.int x), l3] st m Q = kJ 153 13 [l0, l1, some (.int x), l3] (.int x :: st) m Q := kJ_next d153_12 rfl
theorem d153_13 : decode (mB 153) 13 = .ok (.iastore, 1) := by decide +kernel
theorem s153_13 {l0 l1 l2 l3 : Option Value} {st : List Value} {q : Nat} {i x : Int32} {mi : Nat → Nat → Int32} {ml : Nat → Nat → Int64} {mr : Nat → Nat → Option Nat} {nx : Nat} {Q : Option Value → kMem → Prop} (h : kIs nx q 10 = true) : kJ 153 13 [l0, l1, l2, l3] (.int x :: .int i :: .ref q :: st) (mi, ml, mr, nx) Q = (vp_in i (kAl q) ∧ kJ 153 14 [l0, l1, l2, l3] st (kup mi q i.toNatClampNeg x, ml, mr, nx) Q) := kg_astJ d153_13 rfl (kAr_of h)
theorem d153_14 : decode (mB 153) 14 = .ok (.iload_n 3, 1) := by decide +kernel
theorem s153_14 {l0 l1 l2 : Option Value} {st : List Value} {x : Int32} {m : kMem} {Q : Option Value → kMem → Prop} : kJ 153 14 [l0, l1, l2, some (.int x)] st m Q = kJ 153 15 [l0, l1, l2, some (.int x)] (.int x :: st) m Q := kJ_next d153_14 rfl
theorem d153_15 : decode (mB 153) 15 = .ok (.ireturn, 1) := by decide +kernel
theorem s153_15 {l0 l1 l2 l3 : Option Value} {x : Int32} {m : kMem} {Q : Option Value → kMem → Prop} : kJ 153 15 [l0, l1, l2, l3] [.int x] m Q = Q (some (.int x)) m := kJ_ret d153_15 rfl
theorem d154_0 : decode (mB 154) 0 = .ok (.iload_n 2, 1) := by decide +kernel
theorem s154_0 {l0 l1 l3 l4 : Option Value} {st : List Value} {x : Int32} {m : kMem} {Q : Option Value → kMem → Prop} : kJ 154 0 [l0, l1, some (.int x), l3, l4] st m Q = kJ 154 1 [l0, l1, some (.int x), l3, l4] (.int x :: st) m Q := kJ_next d154_0 rfl
theorem d154_1 : decode (mB 154) 1 = .ok (.ifCond .ne 15, 3) := by decide +kernel
theorem s154_1 {l0 l1 l2 l3 l4 : Option Value} {st : List Value} {a : Int32} {m : kMem} {Q : Option Value → kMem → Prop} : kJ 154 1 [l0, l1, l2, l3, l4] (.int a :: st) m Q = (if a = 0 then kJ 154 4 [l0, l1, l2, l3, l4] st m Q else kJ 154 16 [l0, l1, l2, l3, l4] st m Q) := kJ_if d154_1 rfl (fun h => kJ_next d154_1 h) (fun h => kJ_next d154_1 h)
theorem d154_4 : decode (mB 154) 4 = .ok (.iload_n 3, 1) := by decide +kernel
theorem s154_4 {l0 l1 l2 l4 : Option Value} {st : List Value} {x : Int32} {m : kMem} {Q : Option Value → kMem → Prop} : kJ 154 4 [l0, l1, l2, some (.int x), l4] st m Q = kJ 154 5 [l0, l1, l2, some (.int x), l4] (.int x :: st) m Q := kJ_next d154_4 rfl
theorem d154_5 : decode (mB 154) 5 = .ok (.i2l, 1) := by decide +kernel
theorem s154_5 {l0 l1 l2 l3 l4 : Option Value} {st : List Value} {a : Int32} {m : kMem} {Q : Option Value → kMem → Prop} : kJ 154 5 [l0, l1, l2, l3, l4] (.int a :: st) m Q = kJ 154 6 [l0, l1, l2, l3, l4] (.long a.toInt64 :: st) m Q := kJ_next d154_5 rfl
theorem d154_6 : decode (mB 154) 6 = .ok (.lconst 0, 1) := by decide +kernel
theorem s154_6 {l0 l1 l2 l3 l4 : Option Value} {st : List Value} {m : kMem} {Q : Option Value → kMem → Prop} : kJ 154 6 [l0, l1, l2, l3, l4] st m Q = kJ 154 7 [l0, l1, l2, l3, l4] (.long 0 :: st) m Q := kJ_next d154_6 rfl
theorem d154_7 : decode (mB 154) 7 = .ok (.ldc2_w 204, 3) := by decide +kernel
theorem s154_7 {l0 l1 l2 l3 l4 : Option Value} {st : List Value} {m : kMem} {Q : Option Value → kMem → Prop} : kJ 154 7 [l0, l1, l2, l3, l4] st m Q = kJ 154 10 [l0, l1, l2, l3, l4] (.long (3) :: st) m Q := kJ_next d154_7 rfl
theorem d154_10 : decode (mB 154) 10 = .ok (.invokestatic 60, 3) := by decide +kernel
theorem s154_10 {l0 l1 l2 l3 l4 : Option Value} {v0 : Int64} {v1 : Int64} {v2 : Int64} {m : kMem} {Q : Option Value → kMem → Prop} : kJ 154 10 [l0, l1, l2, l3, l4] [.long v0, .long v1, .long v2] m Q = kJ 107 0 [some (.long v2), none, some (.long v1), none, some (.long v0), none] [] m (fun v m2 => kJ 154 13 [l0, l1, l2, l3, l4] (v.toList ++ []) m2 Q) := kJ_call d154_10 (kg_calls 107 3 rfl rfl (Nat.le_of_ble_eq_true rfl) (Nat.le_of_ble_eq_true rfl) (Nat.le_of_ble_eq_true rfl) (Nat.le_of_ble_eq_true rfl))
theorem d154_13 : decode (mB 154) 13 = .ok (.goto 42, 3) := by decide +kernel
theorem s154_13 {l0 l1 l2 l3 l4 : Option Value} {st : List Value} {m : kMem} {Q : Option Value → kMem → Prop} : kJ 154 13 [l0, l1, l2, l3, l4] st m Q = kJ 154 55 [l0, l1, l2, l3, l4] st m Q := kJ_next d154_13 rfl
theorem d154_16 : decode (mB 154) 16 = .ok (.iload_n 2, 1) := by decide +kernel
theorem s154_16 {l0 l1 l3 l4 : Option Value} {st : List Value} {x : Int32} {m : kMem} {Q : Option Value → kMem → Prop} : kJ 154 16 [l0, l1, some (.int x), l3, l4] st m Q = kJ 154 17 [l0, l1, some (.int x), l3, l4] (.int x :: st) m Q := kJ_next d154_16 rfl
theorem d154_17 : decode (mB 154) 17 = .ok (.iconst 1, 1) := by decide +kernel
theorem s154_17 {l0 l1 l2 l3 l4 : Option Value} {st : List Value} {m : kMem} {Q : Option Value → kMem → Prop} : kJ 154 17 [l0, l1, l2, l3, l4] st m Q = kJ 154 18 [l0, l1, l2, l3, l4] (.int (nI 1) :: st) m Q := kJ_next d154_17 rfl
theorem d154_18 : decode (mB 154) 18 = .ok (.if_icmp .ne 15, 3) := by decide +kernel
theorem s154_18 {l0 l1 l2 l3 l4 : Option Value} {st : List Value} {a b : Int32} {m : kMem} {Q : Option Value → kMem → Prop} : kJ 154 18 [l0, l1, l2, l3, l4] (.int b :: .int a :: st) m Q = (if a = b then kJ 154 21 [l0, l1, l2, l3, l4] st m Q else kJ 154 33 [l0, l1, l2, l3, l4] st m Q) := kJ_if d154_18 rfl (fun h => kJ_next d154_18 h) (fun h => kJ_next d154_18 h)
theorem d154_21 : decode (mB 154) 21 = .ok (.iload_n 3, 1) := by decide +kernel
theorem s154_21 {l0 l1 l2 l4 : Option Value} {st : List Value} {x : Int32} {m : kMem} {Q : Option Value → kMem → Prop} : kJ 154 21 [l0, l1, l2, some (.int x), l4] st m Q = kJ 154 22 [l0, l1, l2, some (.int x), l4] (.int x :: st) m Q := kJ_next d154_21 rfl
theorem d154_22 : decode (mB 154) 22 = .ok (.i2l, 1) := by decide +kernel
theorem s154_22 {l0 l1 l2 l3 l4 : Option Value} {st : List Value} {a : Int32} {m : kMem} {Q : Option Value → kMem → Prop} : kJ 154 22 [l0, l1, l2, l3, l4] (.int a :: st) m Q = kJ 154 23 [l0, l1, l2, l3, l4] (.long a.toInt64 :: st) m Q := kJ_next d154_22 rfl
theorem d154_23 : decode (mB 154) 23 = .ok (.lconst 0, 1) := by decide +kernel
theorem s154_23 {l0 l1 l2 l3 l4 : Option Value} {st : List Value} {m : kMem} {Q : Option Value → kMem → Prop} : kJ 154 23 [l0, l1, l2, l3, l4] st m Q = kJ 154 24 [l0, l1, l2, l3, l4] (.long 0 :: st) m Q := kJ_next d154_23 rfl
theorem d154_24 : decode (mB 154) 24 = .ok (.ldc2_w 214, 3) := by decide +kernel
theorem s154_24 {l0 l1 l2 l3 l4 : Option Value} {st : List Value} {m : kMem} {Q : Option Value → kMem → Prop} : kJ 154 24 [l0, l1, l2, l3, l4] st m Q = kJ 154 27 [l0, l1, l2, l3, l4] (.long (9) :: st) m Q := kJ_next d154_24 rfl
theorem d154_27 : decode (mB 154) 27 = .ok (.invokestatic 60, 3) := by decide +kernel
theorem s154_27 {l0 l1 l2 l3 l4 : Option Value} {v0 : Int64} {v1 : Int64} {v2 : Int64} {m : kMem} {Q : Option Value → kMem → Prop} : kJ 154 27 [l0, l1, l2, l3, l4] [.long v0, .long v1, .long v2] m Q = kJ 107 0 [some (.long v2), none, some (.long v1), none, some (.long v0), none] [] m (fun v m2 => kJ 154 30 [l0, l1, l2, l3, l4] (v.toList ++ []) m2 Q) := kJ_call d154_27 (kg_calls 107 3 rfl rfl (Nat.le_of_ble_eq_true rfl) (Nat.le_of_ble_eq_true rfl) (Nat.le_of_ble_eq_true rfl) (Nat.le_of_ble_eq_true rfl))
theorem d154_30 : decode (mB 154) 30 = .ok (.goto 25, 3) := by decide +kernel
theorem s154_30 {l0 l1 l2 l3 l4 : Option Value} {st : List Value} {m : kMem} {Q : Option Value → kMem → Prop} : kJ 154 30 [l0, l1, l2, l3, l4] st m Q = kJ 154 55 [l0, l1, l2, l3, l4] st m Q := kJ_next d154_30 rfl
theorem d154_33 : decode (mB 154) 33 = .ok (.iload_n 2, 1) := by decide +kernel
theorem s154_33 {l0 l1 l3 l4 : Option Value} {st : List Value} {x : Int32} {m : kMem} {Q : Option Value → kMem → Prop} : kJ 154 33 [l0, l1, some (.int x), l3, l4] st m Q = kJ 154 34 [l0, l1, some (.int x), l3, l4] (.int x :: st) m Q := kJ_next d154_33 rfl
theorem d154_34 : decode (mB 154) 34 = .ok (.iconst 2, 1) := by decide +kernel
theorem s154_34 {l0 l1 l2 l3 l4 : Option Value} {st : List Value} {m : kMem} {Q : Option Value → kMem → Prop} : kJ 154 34 [l0, l1, l2, l3, l4] st m Q = kJ 154 35 [l0, l1, l2, l3, l4] (.int (nI 2) :: st) m Q := kJ_next d154_34 rfl
theorem d154_35 : decode (mB 154) 35 = .ok (.if_icmp .ne 19, 3) := by decide +kernel
theorem s154_35 {l0 l1 l2 l3 l4 : Option Value} {st : List Value} {a b : Int32} {m : kMem} {Q : Option Value → kMem → Prop} : kJ 154 35 [l0, l1, l2, l3, l4] (.int b :: .int a :: st) m Q = (if a = b then kJ 154 38 [l0, l1, l2, l3, l4] st m Q else kJ 154 54 [l0, l1, l2, l3, l4] st m Q) := kJ_if d154_35 rfl (fun h => kJ_next d154_35 h) (fun h => kJ_next d154_35 h)
theorem d154_38 : decode (mB 154) 38 = .ok (.iload_n 3, 1) := by decide +kernel
theorem s154_38 {l0 l1 l2 l4 : Option Value} {st : List Value} {x : Int32} {m : kMem} {Q : Option Value → kMem → Prop} : kJ 154 38 [l0, l1, l2, some (.int x), l4] st m Q = kJ 154 39 [l0, l1, l2, some (.int x), l4] (.int x :: st) m Q := kJ_next d154_38 rfl
theorem d154_39 : decode (mB 154) 39 = .ok (.i2l, 1) := by decide +kernel
theorem s154_39 {l0 l1 l2 l3 l4 : Option Value} {st : List Value} {a : Int32} {m : kMem} {Q : Option Value → kMem → Prop} : kJ 154 39 [l0, l1, l2, l3, l4] (.int a :: st) m Q = kJ 154 40 [l0, l1, l2, l3, l4] (.long a.toInt64 :: st) m Q := kJ_next d154_39 rfl
theorem d154_40 : decode (mB 154) 40 = .ok (.lconst 0, 1) := by decide +kernel
theorem s154_40 {l0 l1 l2 l3 l4 : Option Value} {st : List Value} {m : kMem} {Q : Option Value → kMem → Prop} : kJ 154 40 [l0, l1, l2, l3, l4] st m Q = kJ 154 41 [l0, l1, l2, l3, l4] (.long 0 :: st) m Q := kJ_next d154_40 rfl
theorem d154_41 : decode (mB 154) 41 = .ok (.ldc2_w 216, 3) := by decide +kernel
theorem s154_41 {l0 l1 l2 l3 l4 : Option Value} {st : List Value} {m : kMem} {Q : Option Value → kMem → Prop} : kJ 154 41 [l0, l1, l2, l3, l4] st m Q = kJ 154 44 [l0, l1, l2, l3, l4] (.long (20) :: st) m Q := kJ_next d154_41 rfl
theorem d154_44 : decode (mB 154) 44 = .ok (.invokestatic 60, 3) := by decide +kernel
theorem s154_44 {l0 l1 l2 l3 l4 : Option Value} {v0 : Int64} {v1 : Int64} {v2 : Int64} {m : kMem} {Q : Option Value → kMem → Prop} : kJ 154 44 [l0, l1, l2, l3, l4] [.long v0, .long v1, .long v2] m Q = kJ 107 0 [some (.long v2), none, some (.long v1), none, some (.long v0), none] [] m (fun v m2 => kJ 154 47 [l0, l1, l2, l3, l4] (v.toList ++ []) m2 Q) := kJ_call d154_44 (kg_calls 107 3 rfl rfl (Nat.le_of_ble_eq_true rfl) (Nat.le_of_ble_eq_true rfl) (Nat.le_of_ble_eq_true rfl) (Nat.le_of_ble_eq_true rfl))
theorem d154_47 : decode (mB 154) 47 = .ok (.ifCond .eq 7, 3) := by decide +kernel
theorem s154_47 {l0 l1 l2 l3 l4 : Option Value} {st : List Value} {a : Int32} {m : kMem} {Q : Option Value → kMem → Prop} : kJ 154 47 [l0, l1, l2, l3, l4] (.int a :: st) m Q = (if a = 0 then kJ 154 54 [l0, l1, l2, l3, l4] st m Q else kJ 154 50 [l0, l1, l2, l3, l4] st m Q) := kJ_if d154_47 rfl (fun h => kJ_next d154_47 h) (fun h => kJ_next d154_47 h)
theorem d154_50 : decode (mB 154) 50 = .ok (.iconst 1, 1) := by decide +kernel
theorem s154_50 {l0 l1 l2 l3 l4 : Option Value} {st : List Value} {m : kMem} {Q : Option Value → kMem → Prop} : kJ 154 50 [l0, l1, l2, l3, l4] st m Q = kJ 154 51 [l0, l1, l2, l3, l4] (.int (nI 1) :: st) m Q := kJ_next d154_50 rfl
theorem d154_51 : decode (mB 154) 51 = .ok (.goto 4, 3) := by decide +kernel
theorem s154_51 {l0 l1 l2 l3 l4 : Option Value} {st : List Value} {m : kMem} {Q : Option Value → kMem → Prop} : kJ 154 51 [l0, l1, l2, l3, l4] st m Q = kJ 154 55 [l0, l1, l2, l3, l4] st m Q := kJ_next d154_51 rfl
theorem d154_54 : decode (mB 154) 54 = .ok (.iconst 0, 1) := by decide +kernel
theorem s154_54 {l0 l1 l2 l3 l4 : Option Value} {st : List Value} {m : kMem} {Q : Option Value → kMem → Prop} : kJ 154 54 [l0, l1, l2, l3, l4] st m Q = kJ 154 55 [l0, l1, l2, l3, l4] (.int (nI 0) :: st) m Q := kJ_next d154_54 rfl
theorem d154_55 : decode (mB 154) 55 = .ok (.istore 4, 2) := by decide +kernel
theorem s154_55 {l0 l1 l2 l3 l4 : Option Value} {st : List Value} {x : Int32} {m : kMem} {Q : Option Value → kMem → Prop} (hp : kNL l3 = true) : kJ 154 55 [l0, l1, l2, l3, l4] (.int x :: st) m Q = kJ 154 57 [l0, l1, l2, l3, some (.int x)] st m Q := kJ_next d154_55 (kg_sti (Nat.le_of_ble_eq_true rfl) hp)
theorem d154_57 : decode (mB 154) 57 = .ok (.aload_n 0, 1) := by decide +kernel
theorem s154_57 {l1 l2 l3 l4 : Option Value} {st : List Value} {x : Nat} {m : kMem} {Q : Option Value → kMem → Prop} : kJ 154 57 [some (.ref x), l1, l2, l3, l4] st m Q = kJ 154 58 [some (.ref x), l1, l2, l3, l4] (.ref x :: st) m Q := kJ_next d154_57 rfl
theorem d154_58 : decode (mB 154) 58 = .ok (.iload_n 1, 1) := by decide +kernel
theorem s154_58 {l0 l2 l3 l4 : Option Value} {st : List Value} {x : Int32} {m : kMem} {Q : Option Value → kMem → Prop} : kJ 154 58 [l0, some (.int x), l2, l3, l4] st m Q = kJ 154 59 [l0, some (.int x), l2, l3, l4] (.int x :: st) m Q := kJ_next d154_58 rfl
theorem d154_59 : decode (mB 154) 59 = .ok (.invokevirtual 201, 3) := by decide +kernel
theorem s154_59 {l0 l1 l2 l3 l4 : Option Value} {v0 : Int32} {v1 : Nat} {m : kMem} {Q : Option Value → kMem → Prop} (h : kIs m.2.2.2 v1 5 = true) : kJ 154 59 [l0, l1, l2, l3, l4] [.int v0, .ref v1] m Q = kJ 126 0 [some (.ref v1), some (.int v0)] [] m (fun v m2 => kJ 154 62 [l0, l1, l2, l3, l4] (v.toList ++ []) m2 Q) := kJ_call d154_59 (kg_callv 126 1 rfl rfl rfl rfl (Nat.le_of_ble_eq_true rfl) (Nat.le_of_ble_eq_true rfl) (Nat.le_of_ble_eq_true rfl) h rfl)
theorem d154_62 : decode (mB 154) 62 = .ok (.ifCond .eq 21, 3) := by decide +kernel
theorem s154_62 {l0 l1 l2 l3 l4 : Option Value} {st : List Value} {a : Int32} {m : kMem} {Q : Option Value → kMem → Prop} : kJ 154 62 [l0, l1, l2, l3, l4] (.int a :: st) m Q = (if a = 0 then kJ 154 83 [l0, l1, l2, l3, l4] st m Q else kJ 154 65 [l0, l1, l2, l3, l4] st m Q) := kJ_if d154_62 rfl (fun h => kJ_next d154_62 h) (fun h => kJ_next d154_62 h)
theorem d154_65 : decode (mB 154) 65 = .ok (.iload 4, 2) := by decide +kernel
theorem s154_65 {l0 l1 l2 l3 : Option Value} {st : List Value} {x : Int32} {m : kMem} {Q : Option Value → kMem → Prop} : kJ 154 65 [l0, l1, l2, l3, some (.int x)] st m Q = kJ 154 67 [l0, l1, l2, l3, some (.int x)] (.int x :: st) m Q := kJ_next d154_65 rfl
theorem d154_67 : decode (mB 154) 67 = .ok (.ifCond .eq 16, 3) := by decide +kernel
theorem s154_67 {l0 l1 l2 l3 l4 : Option Value} {st : List Value} {a : Int32} {m : kMem} {Q : Option Value → kMem → Prop} : kJ 154 67 [l0, l1, l2, l3, l4] (.int a :: st) m Q = (if a = 0 then kJ 154 83 [l0, l1, l2, l3, l4] st m Q else kJ 154 70 [l0, l1, l2, l3, l4] st m Q) := kJ_if d154_67 rfl (fun h => kJ_next d154_67 h) (fun h => kJ_next d154_67 h)
theorem d154_70 : decode (mB 154) 70 = .ok (.aload_n 0, 1) := by decide +kernel
theorem s154_70 {l1 l2 l3 l4 : Option Value} {st : List Value} {x : Nat} {m : kMem} {Q : Option Value → kMem → Prop} : kJ 154 70 [some (.ref x), l1, l2, l3, l4] st m Q = kJ 154 71 [some (.ref x), l1, l2, l3, l4] (.ref x :: st) m Q := kJ_next d154_70 rfl
theorem d154_71 : decode (mB 154) 71 = .ok (.iconst 3, 1) := by decide +kernel
theorem s154_71 {l0 l1 l2 l3 l4 : Option Value} {st : List Value} {m : kMem} {Q : Option Value → kMem → Prop} : kJ 154 71 [l0, l1, l2, l3, l4] st m Q = kJ 154 72 [l0, l1, l2, l3, l4] (.int (nI 3) :: st) m Q := kJ_next d154_71 rfl
theorem d154_72 : decode (mB 154) 72 = .ok (.iload_n 1, 1) := by decide +kernel
theorem s154_72 {l0 l2 l3 l4 : Option Value} {st : List Value} {x : Int32} {m : kMem} {Q : Option Value → kMem → Prop} : kJ 154 72 [l0, some (.int x), l2, l3, l4] st m Q = kJ 154 73 [l0, some (.int x), l2, l3, l4] (.int x :: st) m Q := kJ_next d154_72 rfl
theorem d154_73 : decode (mB 154) 73 = .ok (.imul, 1) := by decide +kernel
theorem s154_73 {l0 l1 l2 l3 l4 : Option Value} {st : List Value} {a b : Int32} {m : kMem} {Q : Option Value → kMem → Prop} : kJ 154 73 [l0, l1, l2, l3, l4] (.int b :: .int a :: st) m Q = kJ 154 74 [l0, l1, l2, l3, l4] (.int (a * b) :: st) m Q := kJ_next d154_73 rfl
theorem d154_74 : decode (mB 154) 74 = .ok (.iload_n 2, 1) := by decide +kernel
theorem s154_74 {l0 l1 l3 l4 : Option Value} {st : List Value} {x : Int32} {m : kMem} {Q : Option Value → kMem → Prop} : kJ 154 74 [l0, l1, some (.int x), l3, l4] st m Q = kJ 154 75 [l0, l1, some (.int x), l3, l4] (.int x :: st) m Q := kJ_next d154_74 rfl
theorem d154_75 : decode (mB 154) 75 = .ok (.iadd, 1) := by decide +kernel
theorem s154_75 {l0 l1 l2 l3 l4 : Option Value} {st : List Value} {a b : Int32} {m : kMem} {Q : Option Value → kMem → Prop} : kJ 154 75 [l0, l1, l2, l3, l4] (.int b :: .int a :: st) m Q = kJ 154 76 [l0, l1, l2, l3, l4] (.int (a + b) :: st) m Q := kJ_next d154_75 rfl
theorem d154_76 : decode (mB 154) 76 = .ok (.iload_n 3, 1) := by decide +kernel
theorem s154_76 {l0 l1 l2 l4 : Option Value} {st : List Value} {x : Int32} {m : kMem} {Q : Option Value → kMem → Prop} : kJ 154 76 [l0, l1, l2, some (.int x), l4] st m Q = kJ 154 77 [l0, l1, l2, some (.int x), l4] (.int x :: st) m Q := kJ_next d154_76 rfl
theorem d154_77 : decode (mB 154) 77 = .ok (.invokevirtual 218, 3) := by decide +kernel
theorem s154_77 {l0 l1 l2 l3 l4 : Option Value} {v0 : Int32} {v1 : Int32} {v2 : Nat} {m : kMem} {Q : Option Value → kMem → Prop} (h : kIs m.2.2.2 v2 5 = true) : kJ 154 77 [l0, l1, l2, l3, l4] [.int v0, .int v1, .ref v2] m Q = kJ 153 0 [some (.ref v2), some (.int v1), some (.int v0), none] [] m (fun v m2 => kJ 154 80 [l0, l1, l2, l3, l4] (v.toList ++ []) m2 Q) := kJ_call d154_77 (kg_callv 153 2 rfl rfl rfl rfl (Nat.le_of_ble_eq_true rfl) (Nat.le_of_ble_eq_true rfl) (Nat.le_of_ble_eq_true rfl) h rfl)
theorem d154_80 : decode (mB 154) 80 = .ok (.goto 4, 3) := by decide +kernel
theorem s154_80 {l0 l1 l2 l3 l4 : Option Value} {st : List Value} {m : kMem} {Q : Option Value → kMem → Prop} : kJ 154 80 [l0, l1, l2, l3, l4] st m Q = kJ 154 84 [l0, l1, l2, l3, l4] st m Q := kJ_next d154_80 rfl
theorem d154_83 : decode (mB 154) 83 = .ok (.iconst (-1), 1) := by decide +kernel
theorem s154_83 {l0 l1 l2 l3 l4 : Option Value} {st : List Value} {m : kMem} {Q : Option Value → kMem → Prop} : kJ 154 83 [l0, l1, l2, l3, l4] st m Q = kJ 154 84 [l0, l1, l2, l3, l4] (.int (-1) :: st) m Q := kJ_next d154_83 rfl
theorem d154_84 : decode (mB 154) 84 = .ok (.ireturn, 1) := by decide +kernel
theorem s154_84 {l0 l1 l2 l3 l4 : Option Value} {x : Int32} {m : kMem} {Q : Option Value → kMem → Prop} : kJ 154 84 [l0, l1, l2, l3, l4] [.int x] m Q = Q (some (.int x)) m := kJ_ret d154_84 rfl
theorem d155_0 : decode (mB 155) 0 = .ok (.aload_n 0, 1) := by decide +kernel
theorem s155_0 {l1 : Option Value} {st : List Value} {x : Nat} {m : kMem} {Q : Option Value → kMem → Prop} : kJ 155 0 [some (.ref x), l1] st m Q = kJ 155 1 [some (.ref x), l1] (.ref x :: st) m Q := kJ_next d155_0 rfl
theorem d155_1 : decode (mB 155) 1 = .ok (.getfield 7, 3) := by decide +kernel
theorem s155_1 {l0 l1 : Option Value} {st : List Value} {q : Nat} {mi : Nat → Nat → Int32} {ml : Nat → Nat → Int64} {mr : Nat → Nat → Option Nat} {nx : Nat} {Q : Option Value → kMem → Prop} (h : kIs nx q 5 = true) : kJ 155 1 [l0, l1] (.ref q :: st) (mi, ml, mr, nx) Q = kJ 155 4 [l0, l1] (va_rf (mr q 0) :: st) (mi, ml, mr, nx) Q := kJ_next d155_1 (kg_getr 5 0 rfl h (by decide))
theorem d155_4 : decode (mB 155) 4 = .ok (.bipush 16, 2) := by decide +kernel
theorem s155_4 {l0 l1 : Option Value} {st : List Value} {m : kMem} {Q : Option Value → kMem → Prop} : kJ 155 4 [l0, l1] st m Q = kJ 155 6 [l0, l1] (.int (nI 16) :: st) m Q := kJ_next d155_4 rfl
theorem d155_6 : decode (mB 155) 6 = .ok (.bipush 6, 2) := by decide +kernel
theorem s155_6 {l0 l1 : Option Value} {st : List Value} {m : kMem} {Q : Option Value → kMem → Prop} : kJ 155 6 [l0, l1] st m Q = kJ 155 8 [l0, l1] (.int (nI 6) :: st) m Q := kJ_next d155_6 rfl
theorem d155_8 : decode (mB 155) 8 = .ok (.iload_n 1, 1) := by decide +kernel
theorem s155_8 {l0 : Option Value} {st : List Value} {x : Int32} {m : kMem} {Q : Option Value → kMem → Prop} : kJ 155 8 [l0, some (.int x)] st m Q = kJ 155 9 [l0, some (.int x)] (.int x :: st) m Q := kJ_next d155_8 rfl
theorem d155_9 : decode (mB 155) 9 = .ok (.imul, 1) := by decide +kernel
theorem s155_9 {l0 l1 : Option Value} {st : List Value} {a b : Int32} {m : kMem} {Q : Option Value → kMem → Prop} : kJ 155 9 [l0, l1] (.int b :: .int a :: st) m Q = kJ 155 10 [l0, l1] (.int (a * b) :: st) m Q := kJ_next d155_9 rfl
theorem d155_10 : decode (mB 155) 10 = .ok (.iadd, 1) := by decide +kernel
theorem s155_10 {l0 l1 : Option Value} {st : List Value} {a b : Int32} {m : kMem} {Q : Option Value → kMem → Prop} : kJ 155 10 [l0, l1] (.int b :: .int a :: st) m Q = kJ 155 11 [l0, l1] (.int (a + b) :: st) m Q := kJ_next d155_10 rfl
theorem d155_11 : decode (mB 155) 11 = .ok (.iconst 5, 1) := by decide +kernel
theorem s155_11 {l0 l1 : Option Value} {st : List Value} {m : kMem} {Q : Option Value → kMem → Prop} : kJ 155 11 [l0, l1] st m Q = kJ 155 12 [l0, l1] (.int (nI 5) :: st) m Q := kJ_next d155_11 rfl
theorem d155_12 : decode (mB 155) 12 = .ok (.iadd, 1) := by decide +kernel
theorem s155_12 {l0 l1 : Option Value} {st : List Value} {a b : Int32} {m : kMem} {Q : Option Value → kMem → Prop} : kJ 155 12 [l0, l1] (.int b :: .int a :: st) m Q = kJ 155 13 [l0, l1] (.int (a + b) :: st) m Q := kJ_next d155_12 rfl
theorem d155_13 : decode (mB 155) 13 = .ok (.iaload, 1) := by decide +kernel
theorem s155_13 {l0 l1 : Option Value} {st : List Value} {q : Nat} {i : Int32} {mi : Nat → Nat → Int32} {ml : Nat → Nat → Int64} {mr : Nat → Nat → Option Nat} {nx : Nat} {Q : Option Value → kMem → Prop} (h : kIs nx q 10 = true) : kJ 155 13 [l0, l1] (.int i :: .ref q :: st) (mi, ml, mr, nx) Q = (vp_in i (kAl q) ∧ kJ 155 14 [l0, l1] (.int (mi q i.toNatClampNeg) :: st) (mi, ml, mr, nx) Q) := kg_aldJ d155_13 rfl (kAr_of h)
theorem d155_14 : decode (mB 155) 14 = .ok (.ireturn, 1) := by decide +kernel
theorem s155_14 {l0 l1 : Option Value} {x : Int32} {m : kMem} {Q : Option Value → kMem → Prop} : kJ 155 14 [l0, l1] [.int x] m Q = Q (some (.int x)) m := kJ_ret d155_14 rfl
theorem d156_0 : decode (mB 156) 0 = .ok (.aload_n 0, 1) := by decide +kernel
theorem s156_0 {l1 l2 : Option Value} {st : List Value} {x : Nat} {m : kMem} {Q : Option Value → kMem → Prop} : kJ 156 0 [some (.ref x), l1, l2] st m Q = kJ 156 1 [some (.ref x), l1, l2] (.ref x :: st) m Q := kJ_next d156_0 rfl
theorem d156_1 : decode (mB 156) 1 = .ok (.iload_n 1, 1) := by decide +kernel
theorem s156_1 {l0 l2 : Option Value} {st : List Value} {x : Int32} {m : kMem} {Q : Option Value → kMem → Prop} : kJ 156 1 [l0, some (.int x), l2] st m Q = kJ 156 2 [l0, some (.int x), l2] (.int x :: st) m Q := kJ_next d156_1 rfl
theorem d156_2 : decode (mB 156) 2 = .ok (.invokevirtual 206, 3) := by decide +kernel
theorem s156_2 {l0 l1 l2 : Option Value} {v0 : Int32} {v1 : Nat} {m : kMem} {Q : Option Value → kMem → Prop} (h : kIs m.2.2.2 v1 5 = true) : kJ 156 2 [l0, l1, l2] [.int v0, .ref v1] m Q = kJ 127 0 [some (.ref v1), some (.int v0)] [] m (fun v m2 => kJ 156 5 [l0, l1, l2] (v.toList ++ []) m2 Q) := kJ_call d156_2 (kg_callv 127 1 rfl rfl rfl rfl (Nat.le_of_ble_eq_true rfl) (Nat.le_of_ble_eq_true rfl) (Nat.le_of_ble_eq_true rfl) h rfl)
theorem d156_5 : decode (mB 156) 5 = .ok (.ifCond .eq 10, 3) := by decide +kernel
theorem s156_5 {l0 l1 l2 : Option Value} {st : List Value} {a : Int32} {m : kMem} {Q : Option Value → kMem → Prop} : kJ 156 5 [l0, l1, l2] (.int a :: st) m Q = (if a = 0 then kJ 156 15 [l0, l1, l2] st m Q else kJ 156 8 [l0, l1, l2] st m Q) := kJ_if d156_5 rfl (fun h => kJ_next d156_5 h) (fun h => kJ_next d156_5 h)
theorem d156_8 : decode (mB 156) 8 = .ok (.iload_n 2, 1) := by decide +kernel
theorem s156_8 {l0 l1 : Option Value} {st : List Value} {x : Int32} {m : kMem} {Q : Option Value → kMem → Prop} : kJ 156 8 [l0, l1, some (.int x)] st m Q = kJ 156 9 [l0, l1, some (.int x)] (.int x :: st) m Q := kJ_next d156_8 rfl
theorem d156_9 : decode (mB 156) 9 = .ok (.invokestatic 211, 3) := by decide +kernel
theorem s156_9 {l0 l1 l2 : Option Value} {v0 : Int32} {m : kMem} {Q : Option Value → kMem → Prop} : kJ 156 9 [l0, l1, l2] [.int v0] m Q = kJ 128 0 [some (.int v0)] [] m (fun v m2 => kJ 156 12 [l0, l1, l2] (v.toList ++ []) m2 Q) := kJ_call d156_9 (kg_calls 128 1 rfl rfl (Nat.le_of_ble_eq_true rfl) (Nat.le_of_ble_eq_true rfl) (Nat.le_of_ble_eq_true rfl) (Nat.le_of_ble_eq_true rfl))
theorem d156_12 : decode (mB 156) 12 = .ok (.ifCond .ne 5, 3) := by decide +kernel
theorem s156_12 {l0 l1 l2 : Option Value} {st : List Value} {a : Int32} {m : kMem} {Q : Option Value → kMem → Prop} : kJ 156 12 [l0, l1, l2] (.int a :: st) m Q = (if a = 0 then kJ 156 15 [l0, l1, l2] st m Q else kJ 156 17 [l0, l1, l2] st m Q) := kJ_if d156_12 rfl (fun h => kJ_next d156_12 h) (fun h => kJ_next d156_12 h)
theorem d156_15 : decode (mB 156) 15 = .ok (.iconst (-1), 1) := by decide +kernel
theorem s156_15 {l0 l1 l2 : Option Value} {st : List Value} {m : kMem} {Q : Option Value → kMem → Prop} : kJ 156 15 [l0, l1, l2] st m Q = kJ 156 16 [l0, l1, l2] (.int (-1) :: st) m Q := kJ_next d156_15 rfl
theorem d156_16 : decode (mB 156) 16 = .ok (.ireturn, 1) := by decide +kernel
theorem s156_16 {l0 l1 l2 : Option Value} {x : Int32} {m : kMem} {Q : Option Value → kMem → Prop} : kJ 156 16 [l0, l1, l2] [.int x] m Q = Q (some (.int x)) m := kJ_ret d156_16 rfl
theorem d156_17 : decode (mB 156) 17 = .ok (.aload_n 0, 1) := by decide +kernel
theorem s156_17 {l1 l2 : Option Value} {st : List Value} {x : Nat} {m : kMem} {Q : Option Value → kMem → Prop} : kJ 156 17 [some (.ref x), l1, l2] st m Q = kJ 156 18 [some (.ref x), l1, l2] (.ref x :: st) m Q := kJ_next d156_17 rfl
theorem d156_18 : decode (mB 156) 18 = .ok (.iload_n 1, 1) := by decide +kernel
theorem s156_18 {l0 l2 : Option Value} {st : List Value} {x : Int32} {m : kMem} {Q : Option Value → kMem → Prop} : kJ 156 18 [l0, some (.int x), l2] st m Q = kJ 156 19 [l0, some (.int x), l2] (.int x :: st) m Q := kJ_next d156_18 rfl
theorem d156_19 : decode (mB 156) 19 = .ok (.invokevirtual 221, 3) := by decide +kernel
theorem s156_19 {l0 l1 l2 : Option Value} {v0 : Int32} {v1 : Nat} {m : kMem} {Q : Option Value → kMem → Prop} (h : kIs m.2.2.2 v1 5 = true) : kJ 156 19 [l0, l1, l2] [.int v0, .ref v1] m Q = kJ 155 0 [some (.ref v1), some (.int v0)] [] m (fun v m2 => kJ 156 22 [l0, l1, l2] (v.toList ++ []) m2 Q) := kJ_call d156_19 (kg_callv 155 1 rfl rfl rfl rfl (Nat.le_of_ble_eq_true rfl) (Nat.le_of_ble_eq_true rfl) (Nat.le_of_ble_eq_true rfl) h rfl)
theorem d156_22 : decode (mB 156) 22 = .ok (.iconst 2, 1) := by decide +kernel
theorem s156_22 {l0 l1 l2 : Option Value} {st : List Value} {m : kMem} {Q : Option Value → kMem → Prop} : kJ 156 22 [l0, l1, l2] st m Q = kJ 156 23 [l0, l1, l2] (.int (nI 2) :: st) m Q := kJ_next d156_22 rfl
theorem d156_23 : decode (mB 156) 23 = .ok (.if_icmp .lt 8, 3) := by decide +kernel
theorem s156_23 {l0 l1 l2 : Option Value} {st : List Value} {a b : Int32} {m : kMem} {Q : Option Value → kMem → Prop} : kJ 156 23 [l0, l1, l2] (.int b :: .int a :: st) m Q = (if a < b then kJ 156 31 [l0, l1, l2] st m Q else kJ 156 26 [l0, l1, l2] st m Q) := kJ_if d156_23 rfl (fun h => kJ_next d156_23 h) (fun h => kJ_next d156_23 h)
theorem d156_26 : decode (mB 156) 26 = .ok (.bipush (-2), 2) := by decide +kernel
theorem s156_26 {l0 l1 l2 : Option Value} {st : List Value} {m : kMem} {Q : Option Value → kMem → Prop} : kJ 156 26 [l0, l1, l2] st m Q = kJ 156 28 [l0, l1, l2] (.int (-2) :: st) m Q := kJ_next d156_26 rfl
theorem d156_28 : decode (mB 156) 28 = .ok (.goto 17, 3) := by decide +kernel
theorem s156_28 {l0 l1 l2 : Option Value} {st : List Value} {m : kMem} {Q : Option Value → kMem → Prop} : kJ 156 28 [l0, l1, l2] st m Q = kJ 156 45 [l0, l1, l2] st m Q := kJ_next d156_28 rfl
theorem d156_31 : decode (mB 156) 31 = .ok (.aload_n 0, 1) := by decide +kernel
theorem s156_31 {l1 l2 : Option Value} {st : List Value} {x : Nat} {m : kMem} {Q : Option Value → kMem → Prop} : kJ 156 31 [some (.ref x), l1, l2] st m Q = kJ 156 32 [some (.ref x), l1, l2] (.ref x :: st) m Q := kJ_next d156_31 rfl
theorem d156_32 : decode (mB 156) 32 = .ok (.bipush 16, 2) := by decide +kernel
theorem s156_32 {l0 l1 l2 : Option Value} {st : List Value} {m : kMem} {Q : Option Value → kMem → Prop} : kJ 156 32 [l0, l1, l2] st m Q = kJ 156 34 [l0, l1, l2] (.int (nI 16) :: st) m Q := kJ_next d156_32 rfl
theorem d156_34 : decode (mB 156) 34 = .ok (.bipush 6, 2) := by decide +kernel
theorem s156_34 {l0 l1 l2 : Option Value} {st : List Value} {m : kMem} {Q : Option Value → kMem → Prop} : kJ 156 34 [l0, l1, l2] st m Q = kJ 156 36 [l0, l1, l2] (.int (nI 6) :: st) m Q := kJ_next d156_34 rfl
theorem d156_36 : decode (mB 156) 36 = .ok (.iload_n 1, 1) := by decide +kernel
theorem s156_36 {l0 l2 : Option Value} {st : List Value} {x : Int32} {m : kMem} {Q : Option Value → kMem → Prop} : kJ 156 36 [l0, some (.int x), l2] st m Q = kJ 156 37 [l0, some (.int x), l2] (.int x :: st) m Q := kJ_next d156_36 rfl
theorem d156_37 : decode (mB 156) 37 = .ok (.imul, 1) := by decide +kernel
theorem s156_37 {l0 l1 l2 : Option Value} {st : List Value} {a b : Int32} {m : kMem} {Q : Option Value → kMem → Prop} : kJ 156 37 [l0, l1, l2] (.int b :: .int a :: st) m Q = kJ 156 38 [l0, l1, l2] (.int (a * b) :: st) m Q := kJ_next d156_37 rfl
theorem d156_38 : decode (mB 156) 38 = .ok (.iadd, 1) := by decide +kernel
theorem s156_38 {l0 l1 l2 : Option Value} {st : List Value} {a b : Int32} {m : kMem} {Q : Option Value → kMem → Prop} : kJ 156 38 [l0, l1, l2] (.int b :: .int a :: st) m Q = kJ 156 39 [l0, l1, l2] (.int (a + b) :: st) m Q := kJ_next d156_38 rfl
theorem d156_39 : decode (mB 156) 39 = .ok (.iconst 3, 1) := by decide +kernel
theorem s156_39 {l0 l1 l2 : Option Value} {st : List Value} {m : kMem} {Q : Option Value → kMem → Prop} : kJ 156 39 [l0, l1, l2] st m Q = kJ 156 40 [l0, l1, l2] (.int (nI 3) :: st) m Q := kJ_next d156_39 rfl
theorem d156_40 : decode (mB 156) 40 = .ok (.iadd, 1) := by decide +kernel
theorem s156_40 {l0 l1 l2 : Option Value} {st : List Value} {a b : Int32} {m : kMem} {Q : Option Value → kMem → Prop} : kJ 156 40 [l0, l1, l2] (.int b :: .int a :: st) m Q = kJ 156 41 [l0, l1, l2] (.int (a + b) :: st) m Q := kJ_next d156_40 rfl
theorem d156_41 : decode (mB 156) 41 = .ok (.iload_n 2, 1) := by decide +kernel
theorem s156_41 {l0 l1 : Option Value} {st : List Value} {x : Int32} {m : kMem} {Q : Option Value → kMem → Prop} : kJ 156 41 [l0, l1, some (.int x)] st m Q = kJ 156 42 [l0, l1, some (.int x)] (.int x :: st) m Q := kJ_next d156_41 rfl
theorem d156_42 : decode (mB 156) 42 = .ok (.invokevirtual 218, 3) := by decide +kernel
theorem s156_42 {l0 l1 l2 : Option Value} {v0 : Int32} {v1 : Int32} {v2 : Nat} {m : kMem} {Q : Option Value → kMem → Prop} (h : kIs m.2.2.2 v2 5 = true) : kJ 156 42 [l0, l1, l2] [.int v0, .int v1, .ref v2] m Q = kJ 153 0 [some (.ref v2), some (.int v1), some (.int v0), none] [] m (fun v m2 => kJ 156 45 [l0, l1, l2] (v.toList ++ []) m2 Q) := kJ_call d156_42 (kg_callv 153 2 rfl rfl rfl rfl (Nat.le_of_ble_eq_true rfl) (Nat.le_of_ble_eq_true rfl) (Nat.le_of_ble_eq_true rfl) h rfl)
theorem d156_45 : decode (mB 156) 45 = .ok (.ireturn, 1) := by decide +kernel
theorem s156_45 {l0 l1 l2 : Option Value} {x : Int32} {m : kMem} {Q : Option Value → kMem → Prop} : kJ 156 45 [l0, l1, l2] [.int x] m Q = Q (some (.int x)) m := kJ_ret d156_45 rfl
theorem d157_0 : decode (mB 157) 0 = .ok (.iload_n 1, 1) := by decide +kernel
theorem s157_0 {l0 : Option Value} {st : List Value} {x : Int32} {m : kMem} {Q : Option Value → kMem → Prop} : kJ 157 0 [l0, some (.int x)] st m Q = kJ 157 1 [l0, some (.int x)] (.int x :: st) m Q := kJ_next d157_0 rfl
theorem d157_1 : decode (mB 157) 1 = .ok (.i2l, 1) := by decide +kernel
theorem s157_1 {l0 l1 : Option Value} {st : List Value} {a : Int32} {m : kMem} {Q : Option Value → kMem → Prop} : kJ 157 1 [l0, l1] (.int a :: st) m Q = kJ 157 2 [l0, l1] (.long a.toInt64 :: st) m Q := kJ_next d157_1 rfl
theorem d157_2 : decode (mB 157) 2 = .ok (.lconst 1, 1) := by decide +kernel
theorem s157_2 {l0 l1 : Option Value} {st : List Value} {m : kMem} {Q : Option Value → kMem → Prop} : kJ 157 2 [l0, l1] st m Q = kJ 157 3 [l0, l1] (.long 1 :: st) m Q := kJ_next d157_2 rfl
theorem d157_3 : decode (mB 157) 3 = .ok (.ldc2_w 224, 3) := by decide +kernel
theorem s157_3 {l0 l1 : Option Value} {st : List Value} {m : kMem} {Q : Option Value → kMem → Prop} : kJ 157 3 [l0, l1] st m Q = kJ 157 6 [l0, l1] (.long (4) :: st) m Q := kJ_next d157_3 rfl
theorem d157_6 : decode (mB 157) 6 = .ok (.invokestatic 60, 3) := by decide +kernel
theorem s157_6 {l0 l1 : Option Value} {v0 : Int64} {v1 : Int64} {v2 : Int64} {m : kMem} {Q : Option Value → kMem → Prop} : kJ 157 6 [l0, l1] [.long v0, .long v1, .long v2] m Q = kJ 107 0 [some (.long v2), none, some (.long v1), none, some (.long v0), none] [] m (fun v m2 => kJ 157 9 [l0, l1] (v.toList ++ []) m2 Q) := kJ_call d157_6 (kg_calls 107 3 rfl rfl (Nat.le_of_ble_eq_true rfl) (Nat.le_of_ble_eq_true rfl) (Nat.le_of_ble_eq_true rfl) (Nat.le_of_ble_eq_true rfl))
theorem d157_9 : decode (mB 157) 9 = .ok (.ifCond .eq 13, 3) := by decide +kernel
theorem s157_9 {l0 l1 : Option Value} {st : List Value} {a : Int32} {m : kMem} {Q : Option Value → kMem → Prop} : kJ 157 9 [l0, l1] (.int a :: st) m Q = (if a = 0 then kJ 157 22 [l0, l1] st m Q else kJ 157 12 [l0, l1] st m Q) := kJ_if d157_9 rfl (fun h => kJ_next d157_9 h) (fun h => kJ_next d157_9 h)
theorem d157_12 : decode (mB 157) 12 = .ok (.aload_n 0, 1) := by decide +kernel
theorem s157_12 {l1 : Option Value} {st : List Value} {x : Nat} {m : kMem} {Q : Option Value → kMem → Prop} : kJ 157 12 [some (.ref x), l1] st m Q = kJ 157 13 [some (.ref x), l1] (.ref x :: st) m Q := kJ_next d157_12 rfl
theorem d157_13 : decode (mB 157) 13 = .ok (.bipush 53, 2) := by decide +kernel
theorem s157_13 {l0 l1 : Option Value} {st : List Value} {m : kMem} {Q : Option Value → kMem → Prop} : kJ 157 13 [l0, l1] st m Q = kJ 157 15 [l0, l1] (.int (nI 53) :: st) m Q := kJ_next d157_13 rfl
theorem d157_15 : decode (mB 157) 15 = .ok (.iload_n 1, 1) := by decide +kernel
theorem s157_15 {l0 : Option Value} {st : List Value} {x : Int32} {m : kMem} {Q : Option Value → kMem → Prop} : kJ 157 15 [l0, some (.int x)] st m Q = kJ 157 16 [l0, some (.int x)] (.int x :: st) m Q := kJ_next d157_15 rfl
theorem d157_16 : decode (mB 157) 16 = .ok (.invokevirtual 218, 3) := by decide +kernel
theorem s157_16 {l0 l1 : Option Value} {v0 : Int32} {v1 : Int32} {v2 : Nat} {m : kMem} {Q : Option Value → kMem → Prop} (h : kIs m.2.2.2 v2 5 = true) : kJ 157 16 [l0, l1] [.int v0, .int v1, .ref v2] m Q = kJ 153 0 [some (.ref v2), some (.int v1), some (.int v0), none] [] m (fun v m2 => kJ 157 19 [l0, l1] (v.toList ++ []) m2 Q) := kJ_call d157_16 (kg_callv 153 2 rfl rfl rfl rfl (Nat.le_of_ble_eq_true rfl) (Nat.le_of_ble_eq_true rfl) (Nat.le_of_ble_eq_true rfl) h rfl)
theorem d157_19 : decode (mB 157) 19 = .ok (.goto 4, 3) := by decide +kernel
theorem s157_19 {l0 l1 : Option Value} {st : List Value} {m : kMem} {Q : Option Value → kMem → Prop} : kJ 157 19 [l0, l1] st m Q = kJ 157 23 [l0, l1] st m Q := kJ_next d157_19 rfl
theorem d157_22 : decode (mB 157) 22 = .ok (.iconst (-1), 1) := by decide +kernel
theorem s157_22 {l0 l1 : Option Value} {st : List Value} {m : kMem} {Q : Option Value → kMem → Prop} : kJ 157 22 [l0, l1] st m Q = kJ 157 23 [l0, l1] (.int (-1) :: st) m Q := kJ_next d157_22 rfl
theorem d157_23 : decode (mB 157) 23 = .ok (.ireturn, 1) := by decide +kernel
theorem s157_23 {l0 l1 : Option Value} {x : Int32} {m : kMem} {Q : Option Value → kMem → Prop} : kJ 157 23 [l0, l1] [.int x] m Q = Q (some (.int x)) m := kJ_ret d157_23 rfl
theorem d158_0 : decode (mB 158) 0 = .ok (.aload_n 0, 1) := by decide +kernel
theorem s158_0 {l1 l2 l3 l4 l5 : Option Value} {st : List Value} {x : Nat} {m : kMem} {Q : Option Value → kMem → Prop} : kJ 158 0 [some (.ref x), l1, l2, l3, l4, l5] st m Q = kJ 158 1 [some (.ref x), l1, l2, l3, l4, l5] (.ref x :: st) m Q := kJ_next d158_0 rfl
theorem d158_1 : decode (mB 158) 1 = .ok (.iload_n 1, 1) := by decide +kernel
theorem s158_1 {l0 l2 l3 l4 l5 : Option Value} {st : List Value} {x : Int32} {m : kMem} {Q : Option Value → kMem → Prop} : kJ 158 1 [l0, some (.int x), l2, l3, l4, l5] st m Q = kJ 158 2 [l0, some (.int x), l2, l3, l4, l5] (.int x :: st) m Q := kJ_next d158_1 rfl
theorem d158_2 : decode (mB 158) 2 = .ok (.invokevirtual 201, 3) := by decide +kernel
theorem s158_2 {l0 l1 l2 l3 l4 l5 : Option Value} {v0 : Int32} {v1 : Nat} {m : kMem} {Q : Option Value → kMem → Prop} (h : kIs m.2.2.2 v1 5 = true) : kJ 158 2 [l0, l1, l2, l3, l4, l5] [.int v0, .ref v1] m Q = kJ 126 0 [some (.ref v1), some (.int v0)] [] m (fun v m2 => kJ 158 5 [l0, l1, l2, l3, l4, l5] (v.toList ++ []) m2 Q) := kJ_call d158_2 (kg_callv 126 1 rfl rfl rfl rfl (Nat.le_of_ble_eq_true rfl) (Nat.le_of_ble_eq_true rfl) (Nat.le_of_ble_eq_true rfl) h rfl)
theorem d158_5 : decode (mB 158) 5 = .ok (.ifCond .eq 27, 3) := by decide +kernel
theorem s158_5 {l0 l1 l2 l3 l4 l5 : Option Value} {st : List Value} {a : Int32} {m : kMem} {Q : Option Value → kMem → Prop} : kJ 158 5 [l0, l1, l2, l3, l4, l5] (.int a :: st) m Q = (if a = 0 then kJ 158 32 [l0, l1, l2, l3, l4, l5] st m Q else kJ 158 8 [l0, l1, l2, l3, l4, l5] st m Q) := kJ_if d158_5 rfl (fun h => kJ_next d158_5 h) (fun h => kJ_next d158_5 h)
theorem d158_8 : decode (mB 158) 8 = .ok (.aload_n 0, 1) := by decide +kernel
theorem s158_8 {l1 l2 l3 l4 l5 : Option Value} {st : List Value} {x : Nat} {m : kMem} {Q : Option Value → kMem → Prop} : kJ 158 8 [some (.ref x), l1, l2, l3, l4, l5] st m Q = kJ 158 9 [some (.ref x), l1, l2, l3, l4, l5] (.ref x :: st) m Q := kJ_next d158_8 rfl
theorem d158_9 : decode (mB 158) 9 = .ok (.iload_n 2, 1) := by decide +kernel
theorem s158_9 {l0 l1 l3 l4 l5 : Option Value} {st : List Value} {x : Int32} {m : kMem} {Q : Option Value → kMem → Prop} : kJ 158 9 [l0, l1, some (.int x), l3, l4, l5] st m Q = kJ 158 10 [l0, l1, some (.int x), l3, l4, l5] (.int x :: st) m Q := kJ_next d158_9 rfl
theorem d158_10 : decode (mB 158) 10 = .ok (.invokevirtual 201, 3) := by decide +kernel
theorem s158_10 {l0 l1 l2 l3 l4 l5 : Option Value} {v0 : Int32} {v1 : Nat} {m : kMem} {Q : Option Value → kMem → Prop} (h : kIs m.2.2.2 v1 5 = true) : kJ 158 10 [l0, l1, l2, l3, l4, l5] [.int v0, .ref v1] m Q = kJ 126 0 [some (.ref v1), some (.int v0)] [] m (fun v m2 => kJ 158 13 [l0, l1, l2, l3, l4, l5] (v.toList ++ []) m2 Q) := kJ_call d158_10 (kg_callv 126 1 rfl rfl rfl rfl (Nat.le_of_ble_eq_true rfl) (Nat.le_of_ble_eq_true rfl) (Nat.le_of_ble_eq_true rfl) h rfl)
theorem d158_13 : decode (mB 158) 13 = .ok (.ifCond .eq 19, 3) := by decide +kernel
theorem s158_13 {l0 l1 l2 l3 l4 l5 : Option Value} {st : List Value} {a : Int32} {m : kMem} {Q : Option Value → kMem → Prop} : kJ 158 13 [l0, l1, l2, l3, l4, l5] (.int a :: st) m Q = (if a = 0 then kJ 158 32 [l0, l1, l2, l3, l4, l5] st m Q else kJ 158 16 [l0, l1, l2, l3, l4, l5] st m Q) := kJ_if d158_13 rfl (fun h => kJ_next d158_13 h) (fun h => kJ_next d158_13 h)
theorem d158_16 : decode (mB 158) 16 = .ok (.aload_n 0, 1) := by decide +kernel
theorem s158_16 {l1 l2 l3 l4 l5 : Option Value} {st : List Value} {x : Nat} {m : kMem} {Q : Option Value → kMem → Prop} : kJ 158 16 [some (.ref x), l1, l2, l3, l4, l5] st m Q = kJ 158 17 [some (.ref x), l1, l2, l3, l4, l5] (.ref x :: st) m Q := kJ_next d158_16 rfl
theorem d158_17 : decode (mB 158) 17 = .ok (.iload_n 3, 1) := by decide +kernel
theorem s158_17 {l0 l1 l2 l4 l5 : Option Value} {st : List Value} {x : Int32} {m : kMem} {Q : Option Value → kMem → Prop} : kJ 158 17 [l0, l1, l2, some (.int x), l4, l5] st m Q = kJ 158 18 [l0, l1, l2, some (.int x), l4, l5] (.int x :: st) m Q := kJ_next d158_17 rfl
theorem d158_18 : decode (mB 158) 18 = .ok (.invokevirtual 201, 3) := by decide +kernel
theorem s158_18 {l0 l1 l2 l3 l4 l5 : Option Value} {v0 : Int32} {v1 : Nat} {m : kMem} {Q : Option Value → kMem → Prop} (h : kIs m.2.2.2 v1 5 = true) : kJ 158 18 [l0, l1, l2, l3, l4, l5] [.int v0, .ref v1] m Q = kJ 126 0 [some (.ref v1), some (.int v0)] [] m (fun v m2 => kJ 158 21 [l0, l1, l2, l3, l4, l5] (v.toList ++ []) m2 Q) := kJ_call d158_18 (kg_callv 126 1 rfl rfl rfl rfl (Nat.le_of_ble_eq_true rfl) (Nat.le_of_ble_eq_true rfl) (Nat.le_of_ble_eq_true rfl) h rfl)
theorem d158_21 : decode (mB 158) 21 = .ok (.ifCond .eq 11, 3) := by decide +kernel
theorem s158_21 {l0 l1 l2 l3 l4 l5 : Option Value} {st : List Value} {a : Int32} {m : kMem} {Q : Option Value → kMem → Prop} : kJ 158 21 [l0, l1, l2, l3, l4, l5] (.int a :: st) m Q = (if a = 0 then kJ 158 32 [l0, l1, l2, l3, l4, l5] st m Q else kJ 158 24 [l0, l1, l2, l3, l4, l5] st m Q) := kJ_if d158_21 rfl (fun h => kJ_next d158_21 h) (fun h => kJ_next d158_21 h)
theorem d158_24 : decode (mB 158) 24 = .ok (.iload 4, 2) := by decide +kernel
theorem s158_24 {l0 l1 l2 l3 l5 : Option Value} {st : List Value} {x : Int32} {m : kMem} {Q : Option Value → kMem → Prop} : kJ 158 24 [l0, l1, l2, l3, some (.int x), l5] st m Q = kJ 158 26 [l0, l1, l2, l3, some (.int x), l5] (.int x :: st) m Q := kJ_next d158_24 rfl
theorem d158_26 : decode (mB 158) 26 = .ok (.invokestatic 211, 3) := by decide +kernel
theorem s158_26 {l0 l1 l2 l3 l4 l5 : Option Value} {v0 : Int32} {m : kMem} {Q : Option Value → kMem → Prop} : kJ 158 26 [l0, l1, l2, l3, l4, l5] [.int v0] m Q = kJ 128 0 [some (.int v0)] [] m (fun v m2 => kJ 158 29 [l0, l1, l2, l3, l4, l5] (v.toList ++ []) m2 Q) := kJ_call d158_26 (kg_calls 128 1 rfl rfl (Nat.le_of_ble_eq_true rfl) (Nat.le_of_ble_eq_true rfl) (Nat.le_of_ble_eq_true rfl) (Nat.le_of_ble_eq_true rfl))
theorem d158_29 : decode (mB 158) 29 = .ok (.ifCond .ne 5, 3) := by decide +kernel
theorem s158_29 {l0 l1 l2 l3 l4 l5 : Option Value} {st : List Value} {a : Int32} {m : kMem} {Q : Option Value → kMem → Prop} : kJ 158 29 [l0, l1, l2, l3, l4, l5] (.int a :: st) m Q = (if a = 0 then kJ 158 32 [l0, l1, l2, l3, l4, l5] st m Q else kJ 158 34 [l0, l1, l2, l3, l4, l5] st m Q) := kJ_if d158_29 rfl (fun h => kJ_next d158_29 h) (fun h => kJ_next d158_29 h)
theorem d158_32 : decode (mB 158) 32 = .ok (.iconst (-1), 1) := by decide +kernel
theorem s158_32 {l0 l1 l2 l3 l4 l5 : Option Value} {st : List Value} {m : kMem} {Q : Option Value → kMem → Prop} : kJ 158 32 [l0, l1, l2, l3, l4, l5] st m Q = kJ 158 33 [l0, l1, l2, l3, l4, l5] (.int (-1) :: st) m Q := kJ_next d158_32 rfl
theorem d158_33 : decode (mB 158) 33 = .ok (.ireturn, 1) := by decide +kernel
theorem s158_33 {l0 l1 l2 l3 l4 l5 : Option Value} {x : Int32} {m : kMem} {Q : Option Value → kMem → Prop} : kJ 158 33 [l0, l1, l2, l3, l4, l5] [.int x] m Q = Q (some (.int x)) m := kJ_ret d158_33 rfl
theorem d158_34 : decode (mB 158) 34 = .ok (.aload_n 0, 1) := by decide +kernel
theorem s158_34 {l1 l2 l3 l4 l5 : Option Value} {st : List Value} {x : Nat} {m : kMem} {Q : Option Value → kMem → Prop} : kJ 158 34 [some (.ref x), l1, l2, l3, l4, l5] st m Q = kJ 158 35 [some (.ref x), l1, l2, l3, l4, l5] (.ref x :: st) m Q := kJ_next d158_34 rfl
theorem d158_35 : decode (mB 158) 35 = .ok (.getfield 7, 3) := by decide +kernel
theorem s158_35 {l0 l1 l2 l3 l4 l5 : Option Value} {st : List Value} {q : Nat} {mi : Nat → Nat → Int32} {ml : Nat → Nat → Int64} {mr : Nat → Nat → Option Nat} {nx : Nat} {Q : Option Value → kMem → Prop} (h : kIs nx q 5 = true) : kJ 158 35 [l0, l1, l2, l3, l4, l5] (.ref q :: st) (mi, ml, mr, nx) Q = kJ 158 38 [l0, l1, l2, l3, l4, l5] (va_rf (mr q 0) :: st) (mi, ml, mr, nx) Q := kJ_next d158_35 (kg_getr 5 0 rfl h (by decide))
theorem d158_38 : decode (mB 158) 38 = .ok (.bipush 52, 2) := by decide +kernel
theorem s158_38 {l0 l1 l2 l3 l4 l5 : Option Value} {st : List Value} {m : kMem} {Q : Option Value → kMem → Prop} : kJ 158 38 [l0, l1, l2, l3, l4, l5] st m Q = kJ 158 40 [l0, l1, l2, l3, l4, l5] (.int (nI 52) :: st) m Q := kJ_next d158_38 rfl
theorem d158_40 : decode (mB 158) 40 = .ok (.iaload, 1) := by decide +kernel
theorem s158_40 {l0 l1 l2 l3 l4 l5 : Option Value} {st : List Value} {q : Nat} {i : Int32} {mi : Nat → Nat → Int32} {ml : Nat → Nat → Int64} {mr : Nat → Nat → Option Nat} {nx : Nat} {Q : Option Value → kMem → Prop} (h : kIs nx q 10 = true) : kJ 158 40 [l0, l1, l2, l3, l4, l5] (.int i :: .ref q :: st) (mi, ml, mr, nx) Q = (vp_in i (kAl q) ∧ kJ 158 41 [l0, l1, l2, l3, l4, l5] (.int (mi q i.toNatClampNeg) :: st) (mi, ml, mr, nx) Q) := kg_aldJ d158_40 rfl (kAr_of h)
theorem d158_41 : decode (mB 158) 41 = .ok (.bipush 6, 2) := by decide +kernel
theorem s158_41 {l0 l1 l2 l3 l4 l5 : Option Value} {st : List Value} {m : kMem} {Q : Option Value → kMem → Prop} : kJ 158 41 [l0, l1, l2, l3, l4, l5] st m Q = kJ 158 43 [l0, l1, l2, l3, l4, l5] (.int (nI 6) :: st) m Q := kJ_next d158_41 rfl
theorem d158_43 : decode (mB 158) 43 = .ok (.if_icmp .ne 6, 3) := by decide +kernel
theorem s158_43 {l0 l1 l2 l3 l4 l5 : Option Value} {st : List Value} {a b : Int32} {m : kMem} {Q : Option Value → kMem → Prop} : kJ 158 43 [l0, l1, l2, l3, l4, l5] (.int b :: .int a :: st) m Q = (if a = b then kJ 158 46 [l0, l1, l2, l3, l4, l5] st m Q else kJ 158 49 [l0, l1, l2, l3, l4, l5] st m Q) := kJ_if d158_43 rfl (fun h => kJ_next d158_43 h) (fun h => kJ_next d158_43 h)
theorem d158_46 : decode (mB 158) 46 = .ok (.bipush (-3), 2) := by decide +kernel
theorem s158_46 {l0 l1 l2 l3 l4 l5 : Option Value} {st : List Value} {m : kMem} {Q : Option Value → kMem → Prop} : kJ 158 46 [l0, l1, l2, l3, l4, l5] st m Q = kJ 158 48 [l0, l1, l2, l3, l4, l5] (.int (-3) :: st) m Q := kJ_next d158_46 rfl
theorem d158_48 : decode (mB 158) 48 = .ok (.ireturn, 1) := by decide +kernel
theorem s158_48 {l0 l1 l2 l3 l4 l5 : Option Value} {x : Int32} {m : kMem} {Q : Option Value → kMem → Prop} : kJ 158 48 [l0, l1, l2, l3, l4, l5] [.int x] m Q = Q (some (.int x)) m := kJ_ret d158_48 rfl
theorem d158_49 : decode (mB 158) 49 = .ok (.bipush 16, 2) := by decide +kernel
theorem s158_49 {l0 l1 l2 l3 l4 l5 : Option Value} {st : List Value} {m : kMem} {Q : Option Value → kMem → Prop} : kJ 158 49 [l0, l1, l2, l3, l4, l5] st m Q = kJ 158 51 [l0, l1, l2, l3, l4, l5] (.int (nI 16) :: st) m Q := kJ_next d158_49 rfl
theorem d158_51 : decode (mB 158) 51 = .ok (.bipush 6, 2) := by decide +kernel
theorem s158_51 {l0 l1 l2 l3 l4 l5 : Option Value} {st : List Value} {m : kMem} {Q : Option Value → kMem → Prop} : kJ 158 51 [l0, l1, l2, l3, l4, l5] st m Q = kJ 158 53 [l0, l1, l2, l3, l4, l5] (.int (nI 6) :: st) m Q := kJ_next d158_51 rfl
theorem d158_53 : decode (mB 158) 53 = .ok (.aload_n 0, 1) := by decide +kernel
theorem s158_53 {l1 l2 l3 l4 l5 : Option Value} {st : List Value} {x : Nat} {m : kMem} {Q : Option Value → kMem → Prop} : kJ 158 53 [some (.ref x), l1, l2, l3, l4, l5] st m Q = kJ 158 54 [some (.ref x), l1, l2, l3, l4, l5] (.ref x :: st) m Q := kJ_next d158_53 rfl
theorem d158_54 : decode (mB 158) 54 = .ok (.getfield 7, 3) := by decide +kernel
theorem s158_54 {l0 l1 l2 l3 l4 l5 : Option Value} {st : List Value} {q : Nat} {mi : Nat → Nat → Int32} {ml : Nat → Nat → Int64} {mr : Nat → Nat → Option Nat} {nx : Nat} {Q : Option Value → kMem → Prop} (h : kIs nx q 5 = true) : kJ 158 54 [l0, l1, l2, l3, l4, l5] (.ref q :: st) (mi, ml, mr, nx) Q = kJ 158 57 [l0, l1, l2, l3, l4, l5] (va_rf (mr q 0) :: st) (mi, ml, mr, nx) Q := kJ_next d158_54 (kg_getr 5 0 rfl h (by decide))
theorem d158_57 : decode (mB 158) 57 = .ok (.bipush 52, 2) := by decide +kernel
theorem s158_57 {l0 l1 l2 l3 l4 l5 : Option Value} {st : List Value} {m : kMem} {Q : Option Value → kMem → Prop} : kJ 158 57 [l0, l1, l2, l3, l4, l5] st m Q = kJ 158 59 [l0, l1, l2, l3, l4, l5] (.int (nI 52) :: st) m Q := kJ_next d158_57 rfl
theorem d158_59 : decode (mB 158) 59 = .ok (.iaload, 1) := by decide +kernel
theorem s158_59 {l0 l1 l2 l3 l4 l5 : Option Value} {st : List Value} {q : Nat} {i : Int32} {mi : Nat → Nat → Int32} {ml : Nat → Nat → Int64} {mr : Nat → Nat → Option Nat} {nx : Nat} {Q : Option Value → kMem → Prop} (h : kIs nx q 10 = true) : kJ 158 59 [l0, l1, l2, l3, l4, l5] (.int i :: .ref q :: st) (mi, ml, mr, nx) Q = (vp_in i (kAl q) ∧ kJ 158 60 [l0, l1, l2, l3, l4, l5] (.int (mi q i.toNatClampNeg) :: st) (mi, ml, mr, nx) Q) := kg_aldJ d158_59 rfl (kAr_of h)
theorem d158_60 : decode (mB 158) 60 = .ok (.imul, 1) := by decide +kernel
theorem s158_60 {l0 l1 l2 l3 l4 l5 : Option Value} {st : List Value} {a b : Int32} {m : kMem} {Q : Option Value → kMem → Prop} : kJ 158 60 [l0, l1, l2, l3, l4, l5] (.int b :: .int a :: st) m Q = kJ 158 61 [l0, l1, l2, l3, l4, l5] (.int (a * b) :: st) m Q := kJ_next d158_60 rfl
theorem d158_61 : decode (mB 158) 61 = .ok (.iadd, 1) := by decide +kernel
theorem s158_61 {l0 l1 l2 l3 l4 l5 : Option Value} {st : List Value} {a b : Int32} {m : kMem} {Q : Option Value → kMem → Prop} : kJ 158 61 [l0, l1, l2, l3, l4, l5] (.int b :: .int a :: st) m Q = kJ 158 62 [l0, l1, l2, l3, l4, l5] (.int (a + b) :: st) m Q := kJ_next d158_61 rfl
theorem d158_62 : decode (mB 158) 62 = .ok (.istore 5, 2) := by decide +kernel
theorem s158_62 {l0 l1 l2 l3 l4 l5 : Option Value} {st : List Value} {x : Int32} {m : kMem} {Q : Option Value → kMem → Prop} (hp : kNL l4 = true) : kJ 158 62 [l0, l1, l2, l3, l4, l5] (.int x :: st) m Q = kJ 158 64 [l0, l1, l2, l3, l4, some (.int x)] st m Q := kJ_next d158_62 (kg_sti (Nat.le_of_ble_eq_true rfl) hp)
theorem d158_64 : decode (mB 158) 64 = .ok (.aload_n 0, 1) := by decide +kernel
theorem s158_64 {l1 l2 l3 l4 l5 : Option Value} {st : List Value} {x : Nat} {m : kMem} {Q : Option Value → kMem → Prop} : kJ 158 64 [some (.ref x), l1, l2, l3, l4, l5] st m Q = kJ 158 65 [some (.ref x), l1, l2, l3, l4, l5] (.ref x :: st) m Q := kJ_next d158_64 rfl
theorem d158_65 : decode (mB 158) 65 = .ok (.getfield 7, 3) := by decide +kernel
theorem s158_65 {l0 l1 l2 l3 l4 l5 : Option Value} {st : List Value} {q : Nat} {mi : Nat → Nat → Int32} {ml : Nat → Nat → Int64} {mr : Nat → Nat → Option Nat} {nx : Nat} {Q : Option Value → kMem → Prop} (h : kIs nx q 5 = true) : kJ 158 65 [l0, l1, l2, l3, l4, l5] (.ref q :: st) (mi, ml, mr, nx) Q = kJ 158 68 [l0, l1, l2, l3, l4, l5] (va_rf (mr q 0) :: st) (mi, ml, mr, nx) Q := kJ_next d158_65 (kg_getr 5 0 rfl h (by decide))
theorem d158_68 : decode (mB 158) 68 = .ok (.iload 5, 2) := by decide +kernel
theorem s158_68 {l0 l1 l2 l3 l4 : Option Value} {st : List Value} {x : Int32} {m : kMem} {Q : Option Value → kMem → Prop} : kJ 158 68 [l0, l1, l2, l3, l4, some (.int x)] st m Q = kJ 158 70 [l0, l1, l2, l3, l4, some (.int x)] (.int x :: st) m Q := kJ_next d158_68 rfl
theorem d158_70 : decode (mB 158) 70 = .ok (.iconst 0, 1) := by decide +kernel
theorem s158_70 {l0 l1 l2 l3 l4 l5 : Option Value} {st : List Value} {m : kMem} {Q : Option Value → kMem → Prop} : kJ 158 70 [l0, l1, l2, l3, l4, l5] st m Q = kJ 158 71 [l0, l1, l2, l3, l4, l5] (.int (nI 0) :: st) m Q := kJ_next d158_70 rfl
theorem d158_71 : decode (mB 158) 71 = .ok (.iadd, 1) := by decide +kernel
theorem s158_71 {l0 l1 l2 l3 l4 l5 : Option Value} {st : List Value} {a b : Int32} {m : kMem} {Q : Option Value → kMem → Prop} : kJ 158 71 [l0, l1, l2, l3, l4, l5] (.int b :: .int a :: st) m Q = kJ 158 72 [l0, l1, l2, l3, l4, l5] (.int (a + b) :: st) m Q := kJ_next d158_71 rfl
theorem d158_72 : decode (mB 158) 72 = .ok (.iload_n 1, 1) := by decide +kernel
theorem s158_72 {l0 l2 l3 l4 l5 : Option Value} {st : List Value} {x : Int32} {m : kMem} {Q : Option Value → kMem → Prop} : kJ 158 72 [l0, some (.int x), l2, l3, l4, l5] st m Q = kJ 158 73 [l0, some (.int x), l2, l3, l4, l5] (.int x :: st) m Q := kJ_next d158_72 rfl
theorem d158_73 : decode (mB 158) 73 = .ok (.iastore, 1) := by decide +kernel
theorem s158_73 {l0 l1 l2 l3 l4 l5 : Option Value} {st : List Value} {q : Nat} {i x : Int32} {mi : Nat → Nat → Int32} {ml : Nat → Nat → Int64} {mr : Nat → Nat → Option Nat} {nx : Nat} {Q : Option Value → kMem → Prop} (h : kIs nx q 10 = true) : kJ 158 73 [l0, l1, l2, l3, l4, l5] (.int x :: .int i :: .ref q :: st) (mi, ml, mr, nx) Q = (vp_in i (kAl q) ∧ kJ 158 74 [l0, l1, l2, l3, l4, l5] st (kup mi q i.toNatClampNeg x, ml, mr, nx) Q) := kg_astJ d158_73 rfl (kAr_of h)
theorem d158_74 : decode (mB 158) 74 = .ok (.aload_n 0, 1) := by decide +kernel
theorem s158_74 {l1 l2 l3 l4 l5 : Option Value} {st : List Value} {x : Nat} {m : kMem} {Q : Option Value → kMem → Prop} : kJ 158 74 [some (.ref x), l1, l2, l3, l4, l5] st m Q = kJ 158 75 [some (.ref x), l1, l2, l3, l4, l5] (.ref x :: st) m Q := kJ_next d158_74 rfl
theorem d158_75 : decode (mB 158) 75 = .ok (.getfield 7, 3) := by decide +kernel
theorem s158_75 {l0 l1 l2 l3 l4 l5 : Option Value} {st : List Value} {q : Nat} {mi : Nat → Nat → Int32} {ml : Nat → Nat → Int64} {mr : Nat → Nat → Option Nat} {nx : Nat} {Q : Option Value → kMem → Prop} (h : kIs nx q 5 = true) : kJ 158 75 [l0, l1, l2, l3, l4, l5] (.ref q :: st) (mi, ml, mr, nx) Q = kJ 158 78 [l0, l1, l2, l3, l4, l5] (va_rf (mr q 0) :: st) (mi, ml, mr, nx) Q := kJ_next d158_75 (kg_getr 5 0 rfl h (by decide))
theorem d158_78 : decode (mB 158) 78 = .ok (.iload 5, 2) := by decide +kernel
theorem s158_78 {l0 l1 l2 l3 l4 : Option Value} {st : List Value} {x : Int32} {m : kMem} {Q : Option Value → kMem → Prop} : kJ 158 78 [l0, l1, l2, l3, l4, some (.int x)] st m Q = kJ 158 80 [l0, l1, l2, l3, l4, some (.int x)] (.int x :: st) m Q := kJ_next d158_78 rfl
theorem d158_80 : decode (mB 158) 80 = .ok (.iconst 1, 1) := by decide +kernel
theorem s158_80 {l0 l1 l2 l3 l4 l5 : Option Value} {st : List Value} {m : kMem} {Q : Option Value → kMem → Prop} : kJ 158 80 [l0, l1, l2, l3, l4, l5] st m Q = kJ 158 81 [l0, l1, l2, l3, l4, l5] (.int (nI 1) :: st) m Q := kJ_next d158_80 rfl
theorem d158_81 : decode (mB 158) 81 = .ok (.iadd, 1) := by decide +kernel
theorem s158_81 {l0 l1 l2 l3 l4 l5 : Option Value} {st : List Value} {a b : Int32} {m : kMem} {Q : Option Value → kMem → Prop} : kJ 158 81 [l0, l1, l2, l3, l4, l5] (.int b :: .int a :: st) m Q = kJ 158 82 [l0, l1, l2, l3, l4, l5] (.int (a + b) :: st) m Q := kJ_next d158_81 rfl
theorem d158_82 : decode (mB 158) 82 = .ok (.iload_n 2, 1) := by decide +kernel
theorem s158_82 {l0 l1 l3 l4 l5 : Option Value} {st : List Value} {x : Int32} {m : kMem} {Q : Option Value → kMem → Prop} : kJ 158 82 [l0, l1, some (.int x), l3, l4, l5] st m Q = kJ 158 83 [l0, l1, some (.int x), l3, l4, l5] (.int x :: st) m Q := kJ_next d158_82 rfl
theorem d158_83 : decode (mB 158) 83 = .ok (.iastore, 1) := by decide +kernel
theorem s158_83 {l0 l1 l2 l3 l4 l5 : Option Value} {st : List Value} {q : Nat} {i x : Int32} {mi : Nat → Nat → Int32} {ml : Nat → Nat → Int64} {mr : Nat → Nat → Option Nat} {nx : Nat} {Q : Option Value → kMem → Prop} (h : kIs nx q 10 = true) : kJ 158 83 [l0, l1, l2, l3, l4, l5] (.int x :: .int i :: .ref q :: st) (mi, ml, mr, nx) Q = (vp_in i (kAl q) ∧ kJ 158 84 [l0, l1, l2, l3, l4, l5] st (kup mi q i.toNatClampNeg x, ml, mr, nx) Q) := kg_astJ d158_83 rfl (kAr_of h)
theorem d158_84 : decode (mB 158) 84 = .ok (.aload_n 0, 1) := by decide +kernel
theorem s158_84 {l1 l2 l3 l4 l5 : Option Value} {st : List Value} {x : Nat} {m : kMem} {Q : Option Value → kMem → Prop} : kJ 158 84 [some (.ref x), l1, l2, l3, l4, l5] st m Q = kJ 158 85 [some (.ref x), l1, l2, l3, l4, l5] (.ref x :: st) m Q := kJ_next d158_84 rfl
theorem d158_85 : decode (mB 158) 85 = .ok (.getfield 7, 3) := by decide +kernel
theorem s158_85 {l0 l1 l2 l3 l4 l5 : Option Value} {st : List Value} {q : Nat} {mi : Nat → Nat → Int32} {ml : Nat → Nat → Int64} {mr : Nat → Nat → Option Nat} {nx : Nat} {Q : Option Value → kMem → Prop} (h : kIs nx q 5 = true) : kJ 158 85 [l0, l1, l2, l3, l4, l5] (.ref q :: st) (mi, ml, mr, nx) Q = kJ 158 88 [l0, l1, l2, l3, l4, l5] (va_rf (mr q 0) :: st) (mi, ml, mr, nx) Q := kJ_next d158_85 (kg_getr 5 0 rfl h (by decide))
theorem d158_88 : decode (mB 158) 88 = .ok (.iload 5, 2) := by decide +kernel
theorem s158_88 {l0 l1 l2 l3 l4 : Option Value} {st : List Value} {x : Int32} {m : kMem} {Q : Option Value → kMem → Prop} : kJ 158 88 [l0, l1, l2, l3, l4, some (.int x)] st m Q = kJ 158 90 [l0, l1, l2, l3, l4, some (.int x)] (.int x :: st) m Q := kJ_next d158_88 rfl
theorem d158_90 : decode (mB 158) 90 = .ok (.iconst 2, 1) := by decide +kernel
theorem s158_90 {l0 l1 l2 l3 l4 l5 : Option Value} {st : List Value} {m : kMem} {Q : Option Value → kMem → Prop} : kJ 158 90 [l0, l1, l2, l3, l4, l5] st m Q = kJ 158 91 [l0, l1, l2, l3, l4, l5] (.int (nI 2) :: st) m Q := kJ_next d158_90 rfl
theorem d158_91 : decode (mB 158) 91 = .ok (.iadd, 1) := by decide +kernel
theorem s158_91 {l0 l1 l2 l3 l4 l5 : Option Value} {st : List Value} {a b : Int32} {m : kMem} {Q : Option Value → kMem → Prop} : kJ 158 91 [l0, l1, l2, l3, l4, l5] (.int b :: .int a :: st) m Q = kJ 158 92 [l0, l1, l2, l3, l4, l5] (.int (a + b) :: st) m Q := kJ_next d158_91 rfl
theorem d158_92 : decode (mB 158) 92 = .ok (.iload_n 3, 1) := by decide +kernel
theorem s158_92 {l0 l1 l2 l4 l5 : Option Value} {st : List Value} {x : Int32} {m : kMem} {Q : Option Value → kMem → Prop} : kJ 158 92 [l0, l1, l2, some (.int x), l4, l5] st m Q = kJ 158 93 [l0, l1, l2, some (.int x), l4, l5] (.int x :: st) m Q := kJ_next d158_92 rfl
theorem d158_93 : decode (mB 158) 93 = .ok (.iastore, 1) := by decide +kernel
theorem s158_93 {l0 l1 l2 l3 l4 l5 : Option Value} {st : List Value} {q : Nat} {i x : Int32} {mi : Nat → Nat → Int32} {ml : Nat → Nat → Int64} {mr : Nat → Nat → Option Nat} {nx : Nat} {Q : Option Value → kMem → Prop} (h : kIs nx q 10 = true) : kJ 158 93 [l0, l1, l2, l3, l4, l5] (.int x :: .int i :: .ref q :: st) (mi, ml, mr, nx) Q = (vp_in i (kAl q) ∧ kJ 158 94 [l0, l1, l2, l3, l4, l5] st (kup mi q i.toNatClampNeg x, ml, mr, nx) Q) := kg_astJ d158_93 rfl (kAr_of h)
theorem d158_94 : decode (mB 158) 94 = .ok (.aload_n 0, 1) := by decide +kernel
theorem s158_94 {l1 l2 l3 l4 l5 : Option Value} {st : List Value} {x : Nat} {m : kMem} {Q : Option Value → kMem → Prop} : kJ 158 94 [some (.ref x), l1, l2, l3, l4, l5] st m Q = kJ 158 95 [some (.ref x), l1, l2, l3, l4, l5] (.ref x :: st) m Q := kJ_next d158_94 rfl
theorem d158_95 : decode (mB 158) 95 = .ok (.getfield 7, 3) := by decide +kernel
theorem s158_95 {l0 l1 l2 l3 l4 l5 : Option Value} {st : List Value} {q : Nat} {mi : Nat → Nat → Int32} {ml : Nat → Nat → Int64} {mr : Nat → Nat → Option Nat} {nx : Nat} {Q : Option Value → kMem → Prop} (h : kIs nx q 5 = true) : kJ 158 95 [l0, l1, l2, l3, l4, l5] (.ref q :: st) (mi, ml, mr, nx) Q = kJ 158 98 [l0, l1, l2, l3, l4, l5] (va_rf (mr q 0) :: st) (mi, ml, mr, nx) Q := kJ_next d158_95 (kg_getr 5 0 rfl h (by decide))
theorem d158_98 : decode (mB 158) 98 = .ok (.iload 5, 2) := by decide +kernel
theorem s158_98 {l0 l1 l2 l3 l4 : Option Value} {st : List Value} {x : Int32} {m : kMem} {Q : Option Value → kMem → Prop} : kJ 158 98 [l0, l1, l2, l3, l4, some (.int x)] st m Q = kJ 158 100 [l0, l1, l2, l3, l4, some (.int x)] (.int x :: st) m Q := kJ_next d158_98 rfl
theorem d158_100 : decode (mB 158) 100 = .ok (.iconst 3, 1) := by decide +kernel
theorem s158_100 {l0 l1 l2 l3 l4 l5 : Option Value} {st : List Value} {m : kMem} {Q : Option Value → kMem → Prop} : kJ 158 100 [l0, l1, l2, l3, l4, l5] st m Q = kJ 158 101 [l0, l1, l2, l3, l4, l5] (.int (nI 3) :: st) m Q := kJ_next d158_100 rfl
theorem d158_101 : decode (mB 158) 101 = .ok (.iadd, 1) := by decide +kernel
theorem s158_101 {l0 l1 l2 l3 l4 l5 : Option Value} {st : List Value} {a b : Int32} {m : kMem} {Q : Option Value → kMem → Prop} : kJ 158 101 [l0, l1, l2, l3, l4, l5] (.int b :: .int a :: st) m Q = kJ 158 102 [l0, l1, l2, l3, l4, l5] (.int (a + b) :: st) m Q := kJ_next d158_101 rfl
theorem d158_102 : decode (mB 158) 102 = .ok (.iload 4, 2) := by decide +kernel
theorem s158_102 {l0 l1 l2 l3 l5 : Option Value} {st : List Value} {x : Int32} {m : kMem} {Q : Option Value → kMem → Prop} : kJ 158 102 [l0, l1, l2, l3, some (.int x), l5] st m Q = kJ 158 104 [l0, l1, l2, l3, some (.int x), l5] (.int x :: st) m Q := kJ_next d158_102 rfl
theorem d158_104 : decode (mB 158) 104 = .ok (.iastore, 1) := by decide +kernel
theorem s158_104 {l0 l1 l2 l3 l4 l5 : Option Value} {st : List Value} {q : Nat} {i x : Int32} {mi : Nat → Nat → Int32} {ml : Nat → Nat → Int64} {mr : Nat → Nat → Option Nat} {nx : Nat} {Q : Option Value → kMem → Prop} (h : kIs nx q 10 = true) : kJ 158 104 [l0, l1, l2, l3, l4, l5] (.int x :: .int i :: .ref q :: st) (mi, ml, mr, nx) Q = (vp_in i (kAl q) ∧ kJ 158 105 [l0, l1, l2, l3, l4, l5] st (kup mi q i.toNatClampNeg x, ml, mr, nx) Q) := kg_astJ d158_104 rfl (kAr_of h)
theorem d158_105 : decode (mB 158) 105 = .ok (.aload_n 0, 1) := by decide +kernel
theorem s158_105 {l1 l2 l3 l4 l5 : Option Value} {st : List Value} {x : Nat} {m : kMem} {Q : Option Value → kMem → Prop} : kJ 158 105 [some (.ref x), l1, l2, l3, l4, l5] st m Q = kJ 158 106 [some (.ref x), l1, l2, l3, l4, l5] (.ref x :: st) m Q := kJ_next d158_105 rfl
theorem d158_106 : decode (mB 158) 106 = .ok (.getfield 7, 3) := by decide +kernel
theorem s158_106 {l0 l1 l2 l3 l4 l5 : Option Value} {st : List Value} {q : Nat} {mi : Nat → Nat → Int32} {ml : Nat → Nat → Int64} {mr : Nat → Nat → Option Nat} {nx : Nat} {Q : Option Value → kMem → Prop} (h : kIs nx q 5 = true) : kJ 158 106 [l0, l1, l2, l3, l4, l5] (.ref q :: st) (mi, ml, mr, nx) Q = kJ 158 109 [l0, l1, l2, l3, l4, l5] (va_rf (mr q 0) :: st) (mi, ml, mr, nx) Q := kJ_next d158_106 (kg_getr 5 0 rfl h (by decide))
theorem d158_109 : decode (mB 158) 109 = .ok (.iload 5, 2) := by decide +kernel
theorem s158_109 {l0 l1 l2 l3 l4 : Option Value} {st : List Value} {x : Int32} {m : kMem} {Q : Option Value → kMem → Prop} : kJ 158 109 [l0, l1, l2, l3, l4, some (.int x)] st m Q = kJ 158 111 [l0, l1, l2, l3, l4, some (.int x)] (.int x :: st) m Q := kJ_next d158_109 rfl
theorem d158_111 : decode (mB 158) 111 = .ok (.iconst 4, 1) := by decide +kernel
theorem s158_111 {l0 l1 l2 l3 l4 l5 : Option Value} {st : List Value} {m : kMem} {Q : Option Value → kMem → Prop} : kJ 158 111 [l0, l1, l2, l3, l4, l5] st m Q = kJ 158 112 [l0, l1, l2, l3, l4, l5] (.int (nI 4) :: st) m Q := kJ_next d158_111 rfl
theorem d158_112 : decode (mB 158) 112 = .ok (.iadd, 1) := by decide +kernel
theorem s158_112 {l0 l1 l2 l3 l4 l5 : Option Value} {st : List Value} {a b : Int32} {m : kMem} {Q : Option Value → kMem → Prop} : kJ 158 112 [l0, l1, l2, l3, l4, l5] (.int b :: .int a :: st) m Q = kJ 158 113 [l0, l1, l2, l3, l4, l5] (.int (a + b) :: st) m Q := kJ_next d158_112 rfl
theorem d158_113 : decode (mB 158) 113 = .ok (.aload_n 0, 1) := by decide +kernel
theorem s158_113 {l1 l2 l3 l4 l5 : Option Value} {st : List Value} {x : Nat} {m : kMem} {Q : Option Value → kMem → Prop} : kJ 158 113 [some (.ref x), l1, l2, l3, l4, l5] st m Q = kJ 158 114 [some (.ref x), l1, l2, l3, l4, l5] (.ref x :: st) m Q := kJ_next d158_113 rfl
theorem d158_114 : decode (mB 158) 114 = .ok (.getfield 7, 3) := by decide +kernel
theorem s158_114 {l0 l1 l2 l3 l4 l5 : Option Value} {st : List Value} {q : Nat} {mi : Nat → Nat → Int32} {ml : Nat → Nat → Int64} {mr : Nat → Nat → Option Nat} {nx : Nat} {Q : Option Value → kMem → Prop} (h : kIs nx q 5 = true) : kJ 158 114 [l0, l1, l2, l3, l4, l5] (.ref q :: st) (mi, ml, mr, nx) Q = kJ 158 117 [l0, l1, l2, l3, l4, l5] (va_rf (mr q 0) :: st) (mi, ml, mr, nx) Q := kJ_next d158_114 (kg_getr 5 0 rfl h (by decide))
theorem d158_117 : decode (mB 158) 117 = .ok (.iconst 3, 1) := by decide +kernel
theorem s158_117 {l0 l1 l2 l3 l4 l5 : Option Value} {st : List Value} {m : kMem} {Q : Option Value → kMem → Prop} : kJ 158 117 [l0, l1, l2, l3, l4, l5] st m Q = kJ 158 118 [l0, l1, l2, l3, l4, l5] (.int (nI 3) :: st) m Q := kJ_next d158_117 rfl
theorem d158_118 : decode (mB 158) 118 = .ok (.iload_n 1, 1) := by decide +kernel
theorem s158_118 {l0 l2 l3 l4 l5 : Option Value} {st : List Value} {x : Int32} {m : kMem} {Q : Option Value → kMem → Prop} : kJ 158 118 [l0, some (.int x), l2, l3, l4, l5] st m Q = kJ 158 119 [l0, some (.int x), l2, l3, l4, l5] (.int x :: st) m Q := kJ_next d158_118 rfl
theorem d158_119 : decode (mB 158) 119 = .ok (.imul, 1) := by decide +kernel
theorem s158_119 {l0 l1 l2 l3 l4 l5 : Option Value} {st : List Value} {a b : Int32} {m : kMem} {Q : Option Value → kMem → Prop} : kJ 158 119 [l0, l1, l2, l3, l4, l5] (.int b :: .int a :: st) m Q = kJ 158 120 [l0, l1, l2, l3, l4, l5] (.int (a * b) :: st) m Q := kJ_next d158_119 rfl
theorem d158_120 : decode (mB 158) 120 = .ok (.iconst 1, 1) := by decide +kernel
theorem s158_120 {l0 l1 l2 l3 l4 l5 : Option Value} {st : List Value} {m : kMem} {Q : Option Value → kMem → Prop} : kJ 158 120 [l0, l1, l2, l3, l4, l5] st m Q = kJ 158 121 [l0, l1, l2, l3, l4, l5] (.int (nI 1) :: st) m Q := kJ_next d158_120 rfl
theorem d158_121 : decode (mB 158) 121 = .ok (.iadd, 1) := by decide +kernel
theorem s158_121 {l0 l1 l2 l3 l4 l5 : Option Value} {st : List Value} {a b : Int32} {m : kMem} {Q : Option Value → kMem → Prop} : kJ 158 121 [l0, l1, l2, l3, l4, l5] (.int b :: .int a :: st) m Q = kJ 158 122 [l0, l1, l2, l3, l4, l5] (.int (a + b) :: st) m Q := kJ_next d158_121 rfl
theorem d158_122 : decode (mB 158) 122 = .ok (.iaload, 1) := by decide +kernel
theorem s158_122 {l0 l1 l2 l3 l4 l5 : Option Value} {st : List Value} {q : Nat} {i : Int32} {mi : Nat → Nat → Int32} {ml : Nat → Nat → Int64} {mr : Nat → Nat → Option Nat} {nx : Nat} {Q : Option Value → kMem → Prop} (h : kIs nx q 10 = true) : kJ 158 122 [l0, l1, l2, l3, l4, l5] (.int i :: .ref q :: st) (mi, ml, mr, nx) Q = (vp_in i (kAl q) ∧ kJ 158 123 [l0, l1, l2, l3, l4, l5] (.int (mi q i.toNatClampNeg) :: st) (mi, ml, mr, nx) Q) := kg_aldJ d158_122 rfl (kAr_of h)
theorem d158_123 : decode (mB 158) 123 = .ok (.iastore, 1) := by decide +kernel
theorem s158_123 {l0 l1 l2 l3 l4 l5 : Option Value} {st : List Value} {q : Nat} {i x : Int32} {mi : Nat → Nat → Int32} {ml : Nat → Nat → Int64} {mr : Nat → Nat → Option Nat} {nx : Nat} {Q : Option Value → kMem → Prop} (h : kIs nx q 10 = true) : kJ 158 123 [l0, l1, l2, l3, l4, l5] (.int x :: .int i :: .ref q :: st) (mi, ml, mr, nx) Q = (vp_in i (kAl q) ∧ kJ 158 124 [l0, l1, l2, l3, l4, l5] st (kup mi q i.toNatClampNeg x, ml, mr, nx) Q) := kg_astJ d158_123 rfl (kAr_of h)
theorem d158_124 : decode (mB 158) 124 = .ok (.aload_n 0, 1) := by decide +kernel
theorem s158_124 {l1 l2 l3 l4 l5 : Option Value} {st : List Value} {x : Nat} {m : kMem} {Q : Option Value → kMem → Prop} : kJ 158 124 [some (.ref x), l1, l2, l3, l4, l5] st m Q = kJ 158 125 [some (.ref x), l1, l2, l3, l4, l5] (.ref x :: st) m Q := kJ_next d158_124 rfl
theorem d158_125 : decode (mB 158) 125 = .ok (.getfield 7, 3) := by decide +kernel
theorem s158_125 {l0 l1 l2 l3 l4 l5 : Option Value} {st : List Value} {q : Nat} {mi : Nat → Nat → Int32} {ml : Nat → Nat → Int64} {mr : Nat → Nat → Option Nat} {nx : Nat} {Q : Option Value → kMem → Prop} (h : kIs nx q 5 = true) : kJ 158 125 [l0, l1, l2, l3, l4, l5] (.ref q :: st) (mi, ml, mr, nx) Q = kJ 158 128 [l0, l1, l2, l3, l4, l5] (va_rf (mr q 0) :: st) (mi, ml, mr, nx) Q := kJ_next d158_125 (kg_getr 5 0 rfl h (by decide))
theorem d158_128 : decode (mB 158) 128 = .ok (.iload 5, 2) := by decide +kernel
theorem s158_128 {l0 l1 l2 l3 l4 : Option Value} {st : List Value} {x : Int32} {m : kMem} {Q : Option Value → kMem → Prop} : kJ 158 128 [l0, l1, l2, l3, l4, some (.int x)] st m Q = kJ 158 130 [l0, l1, l2, l3, l4, some (.int x)] (.int x :: st) m Q := kJ_next d158_128 rfl
theorem d158_130 : decode (mB 158) 130 = .ok (.iconst 5, 1) := by decide +kernel
theorem s158_130 {l0 l1 l2 l3 l4 l5 : Option Value} {st : List Value} {m : kMem} {Q : Option Value → kMem → Prop} : kJ 158 130 [l0, l1, l2, l3, l4, l5] st m Q = kJ 158 131 [l0, l1, l2, l3, l4, l5] (.int (nI 5) :: st) m Q := kJ_next d158_130 rfl
theorem d158_131 : decode (mB 158) 131 = .ok (.iadd, 1) := by decide +kernel
theorem s158_131 {l0 l1 l2 l3 l4 l5 : Option Value} {st : List Value} {a b : Int32} {m : kMem} {Q : Option Value → kMem → Prop} : kJ 158 131 [l0, l1, l2, l3, l4, l5] (.int b :: .int a :: st) m Q = kJ 158 132 [l0, l1, l2, l3, l4, l5] (.int (a + b) :: st) m Q := kJ_next d158_131 rfl
theorem d158_132 : decode (mB 158) 132 = .ok (.iconst 0, 1) := by decide +kernel
theorem s158_132 {l0 l1 l2 l3 l4 l5 : Option Value} {st : List Value} {m : kMem} {Q : Option Value → kMem → Prop} : kJ 158 132 [l0, l1, l2, l3, l4, l5] st m Q = kJ 158 133 [l0, l1, l2, l3, l4, l5] (.int (nI 0) :: st) m Q := kJ_next d158_132 rfl
theorem d158_133 : decode (mB 158) 133 = .ok (.iastore, 1) := by decide +kernel
theorem s158_133 {l0 l1 l2 l3 l4 l5 : Option Value} {st : List Value} {q : Nat} {i x : Int32} {mi : Nat → Nat → Int32} {ml : Nat → Nat → Int64} {mr : Nat → Nat → Option Nat} {nx : Nat} {Q : Option Value → kMem → Prop} (h : kIs nx q 10 = true) : kJ 158 133 [l0, l1, l2, l3, l4, l5] (.int x :: .int i :: .ref q :: st) (mi, ml, mr, nx) Q = (vp_in i (kAl q) ∧ kJ 158 134 [l0, l1, l2, l3, l4, l5] st (kup mi q i.toNatClampNeg x, ml, mr, nx) Q) := kg_astJ d158_133 rfl (kAr_of h)
theorem d158_134 : decode (mB 158) 134 = .ok (.aload_n 0, 1) := by decide +kernel
theorem s158_134 {l1 l2 l3 l4 l5 : Option Value} {st : List Value} {x : Nat} {m : kMem} {Q : Option Value → kMem → Prop} : kJ 158 134 [some (.ref x), l1, l2, l3, l4, l5] st m Q = kJ 158 135 [some (.ref x), l1, l2, l3, l4, l5] (.ref x :: st) m Q := kJ_next d158_134 rfl
theorem d158_135 : decode (mB 158) 135 = .ok (.getfield 7, 3) := by decide +kernel
theorem s158_135 {l0 l1 l2 l3 l4 l5 : Option Value} {st : List Value} {q : Nat} {mi : Nat → Nat → Int32} {ml : Nat → Nat → Int64} {mr : Nat → Nat → Option Nat} {nx : Nat} {Q : Option Value → kMem → Prop} (h : kIs nx q 5 = true) : kJ 158 135 [l0, l1, l2, l3, l4, l5] (.ref q :: st) (mi, ml, mr, nx) Q = kJ 158 138 [l0, l1, l2, l3, l4, l5] (va_rf (mr q 0) :: st) (mi, ml, mr, nx) Q := kJ_next d158_135 (kg_getr 5 0 rfl h (by decide))
theorem d158_138 : decode (mB 158) 138 = .ok (.bipush 52, 2) := by decide +kernel
theorem s158_138 {l0 l1 l2 l3 l4 l5 : Option Value} {st : List Value} {m : kMem} {Q : Option Value → kMem → Prop} : kJ 158 138 [l0, l1, l2, l3, l4, l5] st m Q = kJ 158 140 [l0, l1, l2, l3, l4, l5] (.int (nI 52) :: st) m Q := kJ_next d158_138 rfl
theorem d158_140 : decode (mB 158) 140 = .ok (.dup2, 1) := by decide +kernel
theorem s158_140 {l0 l1 l2 l3 l4 l5 : Option Value} {st : List Value} {a : Int32} {b : Nat} {m : kMem} {Q : Option Value → kMem → Prop} : kJ 158 140 [l0, l1, l2, l3, l4, l5] (.int a :: .ref b :: st) m Q = kJ 158 141 [l0, l1, l2, l3, l4, l5] (.int a :: .ref b :: .int a :: .ref b :: st) m Q := kJ_next d158_140 rfl
theorem d158_141 : decode (mB 158) 141 = .ok (.iaload, 1) := by decide +kernel
theorem s158_141 {l0 l1 l2 l3 l4 l5 : Option Value} {st : List Value} {q : Nat} {i : Int32} {mi : Nat → Nat → Int32} {ml : Nat → Nat → Int64} {mr : Nat → Nat → Option Nat} {nx : Nat} {Q : Option Value → kMem → Prop} (h : kIs nx q 10 = true) : kJ 158 141 [l0, l1, l2, l3, l4, l5] (.int i :: .ref q :: st) (mi, ml, mr, nx) Q = (vp_in i (kAl q) ∧ kJ 158 142 [l0, l1, l2, l3, l4, l5] (.int (mi q i.toNatClampNeg) :: st) (mi, ml, mr, nx) Q) := kg_aldJ d158_141 rfl (kAr_of h)
theorem d158_142 : decode (mB 158) 142 = .ok (.iconst 1, 1) := by decide +kernel
theorem s158_142 {l0 l1 l2 l3 l4 l5 : Option Value} {st : List Value} {m : kMem} {Q : Option Value → kMem → Prop} : kJ 158 142 [l0, l1, l2, l3, l4, l5] st m Q = kJ 158 143 [l0, l1, l2, l3, l4, l5] (.int (nI 1) :: st) m Q := kJ_next d158_142 rfl
theorem d158_143 : decode (mB 158) 143 = .ok (.iadd, 1) := by decide +kernel
theorem s158_143 {l0 l1 l2 l3 l4 l5 : Option Value} {st : List Value} {a b : Int32} {m : kMem} {Q : Option Value → kMem → Prop} : kJ 158 143 [l0, l1, l2, l3, l4, l5] (.int b :: .int a :: st) m Q = kJ 158 144 [l0, l1, l2, l3, l4, l5] (.int (a + b) :: st) m Q := kJ_next d158_143 rfl
theorem d158_144 : decode (mB 158) 144 = .ok (.iastore, 1) := by decide +kernel
theorem s158_144 {l0 l1 l2 l3 l4 l5 : Option Value} {st : List Value} {q : Nat} {i x : Int32} {mi : Nat → Nat → Int32} {ml : Nat → Nat → Int64} {mr : Nat → Nat → Option Nat} {nx : Nat} {Q : Option Value → kMem → Prop} (h : kIs nx q 10 = true) : kJ 158 144 [l0, l1, l2, l3, l4, l5] (.int x :: .int i :: .ref q :: st) (mi, ml, mr, nx) Q = (vp_in i (kAl q) ∧ kJ 158 145 [l0, l1, l2, l3, l4, l5] st (kup mi q i.toNatClampNeg x, ml, mr, nx) Q) := kg_astJ d158_144 rfl (kAr_of h)
theorem d158_145 : decode (mB 158) 145 = .ok (.aload_n 0, 1) := by decide +kernel
theorem s158_145 {l1 l2 l3 l4 l5 : Option Value} {st : List Value} {x : Nat} {m : kMem} {Q : Option Value → kMem → Prop} : kJ 158 145 [some (.ref x), l1, l2, l3, l4, l5] st m Q = kJ 158 146 [some (.ref x), l1, l2, l3, l4, l5] (.ref x :: st) m Q := kJ_next d158_145 rfl
theorem d158_146 : decode (mB 158) 146 = .ok (.getfield 7, 3) := by decide +kernel
theorem s158_146 {l0 l1 l2 l3 l4 l5 : Option Value} {st : List Value} {q : Nat} {mi : Nat → Nat → Int32} {ml : Nat → Nat → Int64} {mr : Nat → Nat → Option Nat} {nx : Nat} {Q : Option Value → kMem → Prop} (h : kIs nx q 5 = true) : kJ 158 146 [l0, l1, l2, l3, l4, l5] (.ref q :: st) (mi, ml, mr, nx) Q = kJ 158 149 [l0, l1, l2, l3, l4, l5] (va_rf (mr q 0) :: st) (mi, ml, mr, nx) Q := kJ_next d158_146 (kg_getr 5 0 rfl h (by decide))
theorem d158_149 : decode (mB 158) 149 = .ok (.bipush 52, 2) := by decide +kernel
theorem s158_149 {l0 l1 l2 l3 l4 l5 : Option Value} {st : List Value} {m : kMem} {Q : Option Value → kMem → Prop} : kJ 158 149 [l0, l1, l2, l3, l4, l5] st m Q = kJ 158 151 [l0, l1, l2, l3, l4, l5] (.int (nI 52) :: st) m Q := kJ_next d158_149 rfl
theorem d158_151 : decode (mB 158) 151 = .ok (.iaload, 1) := by decide +kernel
theorem s158_151 {l0 l1 l2 l3 l4 l5 : Option Value} {st : List Value} {q : Nat} {i : Int32} {mi : Nat → Nat → Int32} {ml : Nat → Nat → Int64} {mr : Nat → Nat → Option Nat} {nx : Nat} {Q : Option Value → kMem → Prop} (h : kIs nx q 10 = true) : kJ 158 151 [l0, l1, l2, l3, l4, l5] (.int i :: .ref q :: st) (mi, ml, mr, nx) Q = (vp_in i (kAl q) ∧ kJ 158 152 [l0, l1, l2, l3, l4, l5] (.int (mi q i.toNatClampNeg) :: st) (mi, ml, mr, nx) Q) := kg_aldJ d158_151 rfl (kAr_of h)
theorem d158_152 : decode (mB 158) 152 = .ok (.ireturn, 1) := by decide +kernel
theorem s158_152 {l0 l1 l2 l3 l4 l5 : Option Value} {x : Int32} {m : kMem} {Q : Option Value → kMem → Prop} : kJ 158 152 [l0, l1, l2, l3, l4, l5] [.int x] m Q = Q (some (.int x)) m := kJ_ret d158_152 rfl
theorem d159_0 : decode (mB 159) 0 = .ok (.iload_n 1, 1) := by decide +kernel
theorem s159_0 {l0 : Option Value} {st : List Value} {x : Int32} {m : kMem} {Q : Option Value → kMem → Prop} : kJ 159 0 [l0, some (.int x)] st m Q = kJ 159 1 [l0, some (.int x)] (.int x :: st) m Q := kJ_next d159_0 rfl
theorem d159_1 : decode (mB 159) 1 = .ok (.i2l, 1) := by decide +kernel
theorem s159_1 {l0 l1 : Option Value} {st : List Value} {a : Int32} {m : kMem} {Q : Option Value → kMem → Prop} : kJ 159 1 [l0, l1] (.int a :: st) m Q = kJ 159 2 [l0, l1] (.long a.toInt64 :: st) m Q := kJ_next d159_1 rfl
theorem d159_2 : decode (mB 159) 2 = .ok (.lconst 0, 1) := by decide +kernel
theorem s159_2 {l0 l1 : Option Value} {st : List Value} {m : kMem} {Q : Option Value → kMem → Prop} : kJ 159 2 [l0, l1] st m Q = kJ 159 3 [l0, l1] (.long 0 :: st) m Q := kJ_next d159_2 rfl
theorem d159_3 : decode (mB 159) 3 = .ok (.aload_n 0, 1) := by decide +kernel
theorem s159_3 {l1 : Option Value} {st : List Value} {x : Nat} {m : kMem} {Q : Option Value → kMem → Prop} : kJ 159 3 [some (.ref x), l1] st m Q = kJ 159 4 [some (.ref x), l1] (.ref x :: st) m Q := kJ_next d159_3 rfl
theorem d159_4 : decode (mB 159) 4 = .ok (.getfield 7, 3) := by decide +kernel
theorem s159_4 {l0 l1 : Option Value} {st : List Value} {q : Nat} {mi : Nat → Nat → Int32} {ml : Nat → Nat → Int64} {mr : Nat → Nat → Option Nat} {nx : Nat} {Q : Option Value → kMem → Prop} (h : kIs nx q 5 = true) : kJ 159 4 [l0, l1] (.ref q :: st) (mi, ml, mr, nx) Q = kJ 159 7 [l0, l1] (va_rf (mr q 0) :: st) (mi, ml, mr, nx) Q := kJ_next d159_4 (kg_getr 5 0 rfl h (by decide))
theorem d159_7 : decode (mB 159) 7 = .ok (.bipush 52, 2) := by decide +kernel
theorem s159_7 {l0 l1 : Option Value} {st : List Value} {m : kMem} {Q : Option Value → kMem → Prop} : kJ 159 7 [l0, l1] st m Q = kJ 159 9 [l0, l1] (.int (nI 52) :: st) m Q := kJ_next d159_7 rfl
theorem d159_9 : decode (mB 159) 9 = .ok (.iaload, 1) := by decide +kernel
theorem s159_9 {l0 l1 : Option Value} {st : List Value} {q : Nat} {i : Int32} {mi : Nat → Nat → Int32} {ml : Nat → Nat → Int64} {mr : Nat → Nat → Option Nat} {nx : Nat} {Q : Option Value → kMem → Prop} (h : kIs nx q 10 = true) : kJ 159 9 [l0, l1] (.int i :: .ref q :: st) (mi, ml, mr, nx) Q = (vp_in i (kAl q) ∧ kJ 159 10 [l0, l1] (.int (mi q i.toNatClampNeg) :: st) (mi, ml, mr, nx) Q) := kg_aldJ d159_9 rfl (kAr_of h)
theorem d159_10 : decode (mB 159) 10 = .ok (.i2l, 1) := by decide +kernel
theorem s159_10 {l0 l1 : Option Value} {st : List Value} {a : Int32} {m : kMem} {Q : Option Value → kMem → Prop} : kJ 159 10 [l0, l1] (.int a :: st) m Q = kJ 159 11 [l0, l1] (.long a.toInt64 :: st) m Q := kJ_next d159_10 rfl
theorem d159_11 : decode (mB 159) 11 = .ok (.invokestatic 60, 3) := by decide +kernel
theorem s159_11 {l0 l1 : Option Value} {v0 : Int64} {v1 : Int64} {v2 : Int64} {m : kMem} {Q : Option Value → kMem → Prop} : kJ 159 11 [l0, l1] [.long v0, .long v1, .long v2] m Q = kJ 107 0 [some (.long v2), none, some (.long v1), none, some (.long v0), none] [] m (fun v m2 => kJ 159 14 [l0, l1] (v.toList ++ []) m2 Q) := kJ_call d159_11 (kg_calls 107 3 rfl rfl (Nat.le_of_ble_eq_true rfl) (Nat.le_of_ble_eq_true rfl) (Nat.le_of_ble_eq_true rfl) (Nat.le_of_ble_eq_true rfl))
theorem d159_14 : decode (mB 159) 14 = .ok (.ifCond .eq 13, 3) := by decide +kernel
theorem s159_14 {l0 l1 : Option Value} {st : List Value} {a : Int32} {m : kMem} {Q : Option Value → kMem → Prop} : kJ 159 14 [l0, l1] (.int a :: st) m Q = (if a = 0 then kJ 159 27 [l0, l1] st m Q else kJ 159 17 [l0, l1] st m Q) := kJ_if d159_14 rfl (fun h => kJ_next d159_14 h) (fun h => kJ_next d159_14 h)
theorem d159_17 : decode (mB 159) 17 = .ok (.aload_n 0, 1) := by decide +kernel
theorem s159_17 {l1 : Option Value} {st : List Value} {x : Nat} {m : kMem} {Q : Option Value → kMem → Prop} : kJ 159 17 [some (.ref x), l1] st m Q = kJ 159 18 [some (.ref x), l1] (.ref x :: st) m Q := kJ_next d159_17 rfl
theorem d159_18 : decode (mB 159) 18 = .ok (.bipush 52, 2) := by decide +kernel
theorem s159_18 {l0 l1 : Option Value} {st : List Value} {m : kMem} {Q : Option Value → kMem → Prop} : kJ 159 18 [l0, l1] st m Q = kJ 159 20 [l0, l1] (.int (nI 52) :: st) m Q := kJ_next d159_18 rfl
theorem d159_20 : decode (mB 159) 20 = .ok (.iload_n 1, 1) := by decide +kernel
theorem s159_20 {l0 : Option Value} {st : List Value} {x : Int32} {m : kMem} {Q : Option Value → kMem → Prop} : kJ 159 20 [l0, some (.int x)] st m Q = kJ 159 21 [l0, some (.int x)] (.int x :: st) m Q := kJ_next d159_20 rfl
theorem d159_21 : decode (mB 159) 21 = .ok (.invokevirtual 218, 3) := by decide +kernel
theorem s159_21 {l0 l1 : Option Value} {v0 : Int32} {v1 : Int32} {v2 : Nat} {m : kMem} {Q : Option Value → kMem → Prop} (h : kIs m.2.2.2 v2 5 = true) : kJ 159 21 [l0, l1] [.int v0, .int v1, .ref v2] m Q = kJ 153 0 [some (.ref v2), some (.int v1), some (.int v0), none] [] m (fun v m2 => kJ 159 24 [l0, l1] (v.toList ++ []) m2 Q) := kJ_call d159_21 (kg_callv 153 2 rfl rfl rfl rfl (Nat.le_of_ble_eq_true rfl) (Nat.le_of_ble_eq_true rfl) (Nat.le_of_ble_eq_true rfl) h rfl)
theorem d159_24 : decode (mB 159) 24 = .ok (.goto 4, 3) := by decide +kernel
theorem s159_24 {l0 l1 : Option Value} {st : List Value} {m : kMem} {Q : Option Value → kMem → Prop} : kJ 159 24 [l0, l1] st m Q = kJ 159 28 [l0, l1] st m Q := kJ_next d159_24 rfl
theorem d159_27 : decode (mB 159) 27 = .ok (.iconst (-1), 1) := by decide +kernel
theorem s159_27 {l0 l1 : Option Value} {st : List Value} {m : kMem} {Q : Option Value → kMem → Prop} : kJ 159 27 [l0, l1] st m Q = kJ 159 28 [l0, l1] (.int (-1) :: st) m Q := kJ_next d159_27 rfl
theorem d159_28 : decode (mB 159) 28 = .ok (.ireturn, 1) := by decide +kernel
theorem s159_28 {l0 l1 : Option Value} {x : Int32} {m : kMem} {Q : Option Value → kMem → Prop} : kJ 159 28 [l0, l1] [.int x] m Q = Q (some (.int x)) m := kJ_ret d159_28 rfl
theorem d160_0 : decode (mB 160) 0 = .ok (.iload_n 1, 1) := by decide +kernel
theorem s160_0 {l0 : Option Value} {st : List Value} {x : Int32} {m : kMem} {Q : Option Value → kMem → Prop} : kJ 160 0 [l0, some (.int x)] st m Q = kJ 160 1 [l0, some (.int x)] (.int x :: st) m Q := kJ_next d160_0 rfl
theorem d160_1 : decode (mB 160) 1 = .ok (.i2l, 1) := by decide +kernel
theorem s160_1 {l0 l1 : Option Value} {st : List Value} {a : Int32} {m : kMem} {Q : Option Value → kMem → Prop} : kJ 160 1 [l0, l1] (.int a :: st) m Q = kJ 160 2 [l0, l1] (.long a.toInt64 :: st) m Q := kJ_next d160_1 rfl
theorem d160_2 : decode (mB 160) 2 = .ok (.lconst 0, 1) := by decide +kernel
theorem s160_2 {l0 l1 : Option Value} {st : List Value} {m : kMem} {Q : Option Value → kMem → Prop} : kJ 160 2 [l0, l1] st m Q = kJ 160 3 [l0, l1] (.long 0 :: st) m Q := kJ_next d160_2 rfl
theorem d160_3 : decode (mB 160) 3 = .ok (.ldc2_w 226, 3) := by decide +kernel
theorem s160_3 {l0 l1 : Option Value} {st : List Value} {m : kMem} {Q : Option Value → kMem → Prop} : kJ 160 3 [l0, l1] st m Q = kJ 160 6 [l0, l1] (.long (30) :: st) m Q := kJ_next d160_3 rfl
theorem d160_6 : decode (mB 160) 6 = .ok (.invokestatic 60, 3) := by decide +kernel
theorem s160_6 {l0 l1 : Option Value} {v0 : Int64} {v1 : Int64} {v2 : Int64} {m : kMem} {Q : Option Value → kMem → Prop} : kJ 160 6 [l0, l1] [.long v0, .long v1, .long v2] m Q = kJ 107 0 [some (.long v2), none, some (.long v1), none, some (.long v0), none] [] m (fun v m2 => kJ 160 9 [l0, l1] (v.toList ++ []) m2 Q) := kJ_call d160_6 (kg_calls 107 3 rfl rfl (Nat.le_of_ble_eq_true rfl) (Nat.le_of_ble_eq_true rfl) (Nat.le_of_ble_eq_true rfl) (Nat.le_of_ble_eq_true rfl))
theorem d160_9 : decode (mB 160) 9 = .ok (.ifCond .ne 5, 3) := by decide +kernel
theorem s160_9 {l0 l1 : Option Value} {st : List Value} {a : Int32} {m : kMem} {Q : Option Value → kMem → Prop} : kJ 160 9 [l0, l1] (.int a :: st) m Q = (if a = 0 then kJ 160 12 [l0, l1] st m Q else kJ 160 14 [l0, l1] st m Q) := kJ_if d160_9 rfl (fun h => kJ_next d160_9 h) (fun h => kJ_next d160_9 h)
theorem d160_12 : decode (mB 160) 12 = .ok (.iconst (-1), 1) := by decide +kernel
theorem s160_12 {l0 l1 : Option Value} {st : List Value} {m : kMem} {Q : Option Value → kMem → Prop} : kJ 160 12 [l0, l1] st m Q = kJ 160 13 [l0, l1] (.int (-1) :: st) m Q := kJ_next d160_12 rfl
theorem d160_13 : decode (mB 160) 13 = .ok (.ireturn, 1) := by decide +kernel
theorem s160_13 {l0 l1 : Option Value} {x : Int32} {m : kMem} {Q : Option Value → kMem → Prop} : kJ 160 13 [l0, l1] [.int x] m Q = Q (some (.int x)) m := kJ_ret d160_13 rfl
theorem d160_14 : decode (mB 160) 14 = .ok (.aload_n 0, 1) := by decide +kernel
theorem s160_14 {l1 : Option Value} {st : List Value} {x : Nat} {m : kMem} {Q : Option Value → kMem → Prop} : kJ 160 14 [some (.ref x), l1] st m Q = kJ 160 15 [some (.ref x), l1] (.ref x :: st) m Q := kJ_next d160_14 rfl
theorem d160_15 : decode (mB 160) 15 = .ok (.getfield 7, 3) := by decide +kernel
theorem s160_15 {l0 l1 : Option Value} {st : List Value} {q : Nat} {mi : Nat → Nat → Int32} {ml : Nat → Nat → Int64} {mr : Nat → Nat → Option Nat} {nx : Nat} {Q : Option Value → kMem → Prop} (h : kIs nx q 5 = true) : kJ 160 15 [l0, l1] (.ref q :: st) (mi, ml, mr, nx) Q = kJ 160 18 [l0, l1] (va_rf (mr q 0) :: st) (mi, ml, mr, nx) Q := kJ_next d160_15 (kg_getr 5 0 rfl h (by decide))
theorem d160_18 : decode (mB 160) 18 = .ok (.bipush 54, 2) := by decide +kernel
theorem s160_18 {l0 l1 : Option Value} {st : List Value} {m : kMem} {Q : Option Value → kMem → Prop} : kJ 160 18 [l0, l1] st m Q = kJ 160 20 [l0, l1] (.int (nI 54) :: st) m Q := kJ_next d160_18 rfl
theorem d160_20 : decode (mB 160) 20 = .ok (.iaload, 1) := by decide +kernel
theorem s160_20 {l0 l1 : Option Value} {st : List Value} {q : Nat} {i : Int32} {mi : Nat → Nat → Int32} {ml : Nat → Nat → Int64} {mr : Nat → Nat → Option Nat} {nx : Nat} {Q : Option Value → kMem → Prop} (h : kIs nx q 10 = true) : kJ 160 20 [l0, l1] (.int i :: .ref q :: st) (mi, ml, mr, nx) Q = (vp_in i (kAl q) ∧ kJ 160 21 [l0, l1] (.int (mi q i.toNatClampNeg) :: st) (mi, ml, mr, nx) Q) := kg_aldJ d160_20 rfl (kAr_of h)
theorem d160_21 : decode (mB 160) 21 = .ok (.iload_n 1, 1) := by decide +kernel
theorem s160_21 {l0 : Option Value} {st : List Value} {x : Int32} {m : kMem} {Q : Option Value → kMem → Prop} : kJ 160 21 [l0, some (.int x)] st m Q = kJ 160 22 [l0, some (.int x)] (.int x :: st) m Q := kJ_next d160_21 rfl
theorem d160_22 : decode (mB 160) 22 = .ok (.iadd, 1) := by decide +kernel
theorem s160_22 {l0 l1 : Option Value} {st : List Value} {a b : Int32} {m : kMem} {Q : Option Value → kMem → Prop} : kJ 160 22 [l0, l1] (.int b :: .int a :: st) m Q = kJ 160 23 [l0, l1] (.int (a + b) :: st) m Q := kJ_next d160_22 rfl
theorem d160_23 : decode (mB 160) 23 = .ok (.sipush 999, 3) := by decide +kernel
theorem s160_23 {l0 l1 : Option Value} {st : List Value} {m : kMem} {Q : Option Value → kMem → Prop} : kJ 160 23 [l0, l1] st m Q = kJ 160 26 [l0, l1] (.int (nI 999) :: st) m Q := kJ_next d160_23 rfl
theorem d160_26 : decode (mB 160) 26 = .ok (.if_icmp .le 6, 3) := by decide +kernel
theorem s160_26 {l0 l1 : Option Value} {st : List Value} {a b : Int32} {m : kMem} {Q : Option Value → kMem → Prop} : kJ 160 26 [l0, l1] (.int b :: .int a :: st) m Q = (if a ≤ b then kJ 160 32 [l0, l1] st m Q else kJ 160 29 [l0, l1] st m Q) := kJ_if d160_26 rfl (fun h => kJ_next d160_26 h) (fun h => kJ_next d160_26 h)
theorem d160_29 : decode (mB 160) 29 = .ok (.bipush (-3), 2) := by decide +kernel
theorem s160_29 {l0 l1 : Option Value} {st : List Value} {m : kMem} {Q : Option Value → kMem → Prop} : kJ 160 29 [l0, l1] st m Q = kJ 160 31 [l0, l1] (.int (-3) :: st) m Q := kJ_next d160_29 rfl
theorem d160_31 : decode (mB 160) 31 = .ok (.ireturn, 1) := by decide +kernel
theorem s160_31 {l0 l1 : Option Value} {x : Int32} {m : kMem} {Q : Option Value → kMem → Prop} : kJ 160 31 [l0, l1] [.int x] m Q = Q (some (.int x)) m := kJ_ret d160_31 rfl
theorem d160_32 : decode (mB 160) 32 = .ok (.aload_n 0, 1) := by decide +kernel
theorem s160_32 {l1 : Option Value} {st : List Value} {x : Nat} {m : kMem} {Q : Option Value → kMem → Prop} : kJ 160 32 [some (.ref x), l1] st m Q = kJ 160 33 [some (.ref x), l1] (.ref x :: st) m Q := kJ_next d160_32 rfl
theorem d160_33 : decode (mB 160) 33 = .ok (.invokevirtual 195, 3) := by decide +kernel
theorem s160_33 {l0 l1 : Option Value} {v0 : Nat} {m : kMem} {Q : Option Value → kMem → Prop} (h : kIs m.2.2.2 v0 5 = true) : kJ 160 33 [l0, l1] [.ref v0] m Q = kJ 130 0 [some (.ref v0), none] [] m (fun v m2 => kJ 160 36 [l0, l1] (v.toList ++ []) m2 Q) := kJ_call d160_33 (kg_callv 130 0 rfl rfl rfl rfl (Nat.le_of_ble_eq_true rfl) (Nat.le_of_ble_eq_true rfl) (Nat.le_of_ble_eq_true rfl) h rfl)
theorem d160_36 : decode (mB 160) 36 = .ok (.aload_n 0, 1) := by decide +kernel
theorem s160_36 {l1 : Option Value} {st : List Value} {x : Nat} {m : kMem} {Q : Option Value → kMem → Prop} : kJ 160 36 [some (.ref x), l1] st m Q = kJ 160 37 [some (.ref x), l1] (.ref x :: st) m Q := kJ_next d160_36 rfl
theorem d160_37 : decode (mB 160) 37 = .ok (.iload_n 1, 1) := by decide +kernel
theorem s160_37 {l0 : Option Value} {st : List Value} {x : Int32} {m : kMem} {Q : Option Value → kMem → Prop} : kJ 160 37 [l0, some (.int x)] st m Q = kJ 160 38 [l0, some (.int x)] (.int x :: st) m Q := kJ_next d160_37 rfl
theorem d160_38 : decode (mB 160) 38 = .ok (.invokevirtual 185, 3) := by decide +kernel
theorem s160_38 {l0 l1 : Option Value} {v0 : Int32} {v1 : Nat} {m : kMem} {Q : Option Value → kMem → Prop} (h : kIs m.2.2.2 v1 5 = true) : kJ 160 38 [l0, l1] [.int v0, .ref v1] m Q = kJ 145 0 [some (.ref v1), some (.int v0), none] [] m (fun v m2 => kJ 160 41 [l0, l1] (v.toList ++ []) m2 Q) := kJ_call d160_38 (kg_callv 145 1 rfl rfl rfl rfl (Nat.le_of_ble_eq_true rfl) (Nat.le_of_ble_eq_true rfl) (Nat.le_of_ble_eq_true rfl) h rfl)
theorem d160_41 : decode (mB 160) 41 = .ok (.aload_n 0, 1) := by decide +kernel
theorem s160_41 {l1 : Option Value} {st : List Value} {x : Nat} {m : kMem} {Q : Option Value → kMem → Prop} : kJ 160 41 [some (.ref x), l1] st m Q = kJ 160 42 [some (.ref x), l1] (.ref x :: st) m Q := kJ_next d160_41 rfl
theorem d160_42 : decode (mB 160) 42 = .ok (.invokevirtual 228, 3) := by decide +kernel
theorem s160_42 {l0 l1 : Option Value} {v0 : Nat} {m : kMem} {Q : Option Value → kMem → Prop} (h : kIs m.2.2.2 v0 5 = true) : kJ 160 42 [l0, l1] [.ref v0] m Q = kJ 131 0 [some (.ref v0), none] [] m (fun v m2 => kJ 160 45 [l0, l1] (v.toList ++ []) m2 Q) := kJ_call d160_42 (kg_callv 131 0 rfl rfl rfl rfl (Nat.le_of_ble_eq_true rfl) (Nat.le_of_ble_eq_true rfl) (Nat.le_of_ble_eq_true rfl) h rfl)
theorem d160_45 : decode (mB 160) 45 = .ok (.aload_n 0, 1) := by decide +kernel
theorem s160_45 {l1 : Option Value} {st : List Value} {x : Nat} {m : kMem} {Q : Option Value → kMem → Prop} : kJ 160 45 [some (.ref x), l1] st m Q = kJ 160 46 [some (.ref x), l1] (.ref x :: st) m Q := kJ_next d160_45 rfl
theorem d160_46 : decode (mB 160) 46 = .ok (.getfield 132, 3) := by decide +kernel
theorem s160_46 {l0 l1 : Option Value} {st : List Value} {q : Nat} {mi : Nat → Nat → Int32} {ml : Nat → Nat → Int64} {mr : Nat → Nat → Option Nat} {nx : Nat} {Q : Option Value → kMem → Prop} (h : kIs nx q 5 = true) : kJ 160 46 [l0, l1] (.ref q :: st) (mi, ml, mr, nx) Q = kJ 160 49 [l0, l1] (.int (mi q 14) :: st) (mi, ml, mr, nx) Q := kJ_next d160_46 (kg_geti 5 14 rfl h (by decide))
theorem d160_49 : decode (mB 160) 49 = .ok (.ireturn, 1) := by decide +kernel
theorem s160_49 {l0 l1 : Option Value} {x : Int32} {m : kMem} {Q : Option Value → kMem → Prop} : kJ 160 49 [l0, l1] [.int x] m Q = Q (some (.int x)) m := kJ_ret d160_49 rfl
theorem d161_0 : decode (mB 161) 0 = .ok (.iload_n 0, 1) := by decide +kernel
theorem s161_0 {st : List Value} {x : Int32} {m : kMem} {Q : Option Value → kMem → Prop} : kJ 161 0 [some (.int x)] st m Q = kJ 161 1 [some (.int x)] (.int x :: st) m Q := kJ_next d161_0 rfl
theorem d161_1 : decode (mB 161) 1 = .ok (.i2l, 1) := by decide +kernel
theorem s161_1 {l0 : Option Value} {st : List Value} {a : Int32} {m : kMem} {Q : Option Value → kMem → Prop} : kJ 161 1 [l0] (.int a :: st) m Q = kJ 161 2 [l0] (.long a.toInt64 :: st) m Q := kJ_next d161_1 rfl
theorem d161_2 : decode (mB 161) 2 = .ok (.lconst 0, 1) := by decide +kernel
theorem s161_2 {l0 : Option Value} {st : List Value} {m : kMem} {Q : Option Value → kMem → Prop} : kJ 161 2 [l0] st m Q = kJ 161 3 [l0] (.long 0 :: st) m Q := kJ_next d161_2 rfl
theorem d161_3 : decode (mB 161) 3 = .ok (.ldc2_w 231, 3) := by decide +kernel
theorem s161_3 {l0 : Option Value} {st : List Value} {m : kMem} {Q : Option Value → kMem → Prop} : kJ 161 3 [l0] st m Q = kJ 161 6 [l0] (.long (60) :: st) m Q := kJ_next d161_3 rfl
theorem d161_6 : decode (mB 161) 6 = .ok (.invokestatic 60, 3) := by decide +kernel
theorem s161_6 {l0 : Option Value} {v0 : Int64} {v1 : Int64} {v2 : Int64} {m : kMem} {Q : Option Value → kMem → Prop} : kJ 161 6 [l0] [.long v0, .long v1, .long v2] m Q = kJ 107 0 [some (.long v2), none, some (.long v1), none, some (.long v0), none] [] m (fun v m2 => kJ 161 9 [l0] (v.toList ++ []) m2 Q) := kJ_call d161_6 (kg_calls 107 3 rfl rfl (Nat.le_of_ble_eq_true rfl) (Nat.le_of_ble_eq_true rfl) (Nat.le_of_ble_eq_true rfl) (Nat.le_of_ble_eq_true rfl))
theorem d161_9 : decode (mB 161) 9 = .ok (.ireturn, 1) := by decide +kernel
theorem s161_9 {l0 : Option Value} {x : Int32} {m : kMem} {Q : Option Value → kMem → Prop} (hx : x = 0 ∨ x = 1) : kJ 161 9 [l0] [.int x] m Q = Q (some (.int x)) m := kJ_ret d161_9 (kg_retz (by decide) hx)
theorem d162_0 : decode (mB 162) 0 = .ok (.iload_n 1, 1) := by decide +kernel
theorem s162_0 {l0 l2 l3 l4 l5 : Option Value} {st : List Value} {x : Int32} {m : kMem} {Q : Option Value → kMem → Prop} : kJ 162 0 [l0, some (.int x), l2, l3, l4, l5] st m Q = kJ 162 1 [l0, some (.int x), l2, l3, l4, l5] (.int x :: st) m Q := kJ_next d162_0 rfl
theorem d162_1 : decode (mB 162) 1 = .ok (.invokestatic 233, 3) := by decide +kernel
theorem s162_1 {l0 l1 l2 l3 l4 l5 : Option Value} {v0 : Int32} {m : kMem} {Q : Option Value → kMem → Prop} : kJ 162 1 [l0, l1, l2, l3, l4, l5] [.int v0] m Q = kJ 161 0 [some (.int v0)] [] m (fun v m2 => kJ 162 4 [l0, l1, l2, l3, l4, l5] (v.toList ++ []) m2 Q) := kJ_call d162_1 (kg_calls 161 1 rfl rfl (Nat.le_of_ble_eq_true rfl) (Nat.le_of_ble_eq_true rfl) (Nat.le_of_ble_eq_true rfl) (Nat.le_of_ble_eq_true rfl))
theorem d162_4 : decode (mB 162) 4 = .ok (.ifCond .eq 15, 3) := by decide +kernel
theorem s162_4 {l0 l1 l2 l3 l4 l5 : Option Value} {st : List Value} {a : Int32} {m : kMem} {Q : Option Value → kMem → Prop} : kJ 162 4 [l0, l1, l2, l3, l4, l5] (.int a :: st) m Q = (if a = 0 then kJ 162 19 [l0, l1, l2, l3, l4, l5] st m Q else kJ 162 7 [l0, l1, l2, l3, l4, l5] st m Q) := kJ_if d162_4 rfl (fun h => kJ_next d162_4 h) (fun h => kJ_next d162_4 h)
theorem d162_7 : decode (mB 162) 7 = .ok (.iload_n 2, 1) := by decide +kernel
theorem s162_7 {l0 l1 l3 l4 l5 : Option Value} {st : List Value} {x : Int32} {m : kMem} {Q : Option Value → kMem → Prop} : kJ 162 7 [l0, l1, some (.int x), l3, l4, l5] st m Q = kJ 162 8 [l0, l1, some (.int x), l3, l4, l5] (.int x :: st) m Q := kJ_next d162_7 rfl
theorem d162_8 : decode (mB 162) 8 = .ok (.i2l, 1) := by decide +kernel
theorem s162_8 {l0 l1 l2 l3 l4 l5 : Option Value} {st : List Value} {a : Int32} {m : kMem} {Q : Option Value → kMem → Prop} : kJ 162 8 [l0, l1, l2, l3, l4, l5] (.int a :: st) m Q = kJ 162 9 [l0, l1, l2, l3, l4, l5] (.long a.toInt64 :: st) m Q := kJ_next d162_8 rfl
theorem d162_9 : decode (mB 162) 9 = .ok (.lconst 0, 1) := by decide +kernel
theorem s162_9 {l0 l1 l2 l3 l4 l5 : Option Value} {st : List Value} {m : kMem} {Q : Option Value → kMem → Prop} : kJ 162 9 [l0, l1, l2, l3, l4, l5] st m Q = kJ 162 10 [l0, l1, l2, l3, l4, l5] (.long 0 :: st) m Q := kJ_next d162_9 rfl
theorem d162_10 : decode (mB 162) 10 = .ok (.ldc2_w 204, 3) := by decide +kernel
theorem s162_10 {l0 l1 l2 l3 l4 l5 : Option Value} {st : List Value} {m : kMem} {Q : Option Value → kMem → Prop} : kJ 162 10 [l0, l1, l2, l3, l4, l5] st m Q = kJ 162 13 [l0, l1, l2, l3, l4, l5] (.long (3) :: st) m Q := kJ_next d162_10 rfl
theorem d162_13 : decode (mB 162) 13 = .ok (.invokestatic 60, 3) := by decide +kernel
theorem s162_13 {l0 l1 l2 l3 l4 l5 : Option Value} {v0 : Int64} {v1 : Int64} {v2 : Int64} {m : kMem} {Q : Option Value → kMem → Prop} : kJ 162 13 [l0, l1, l2, l3, l4, l5] [.long v0, .long v1, .long v2] m Q = kJ 107 0 [some (.long v2), none, some (.long v1), none, some (.long v0), none] [] m (fun v m2 => kJ 162 16 [l0, l1, l2, l3, l4, l5] (v.toList ++ []) m2 Q) := kJ_call d162_13 (kg_calls 107 3 rfl rfl (Nat.le_of_ble_eq_true rfl) (Nat.le_of_ble_eq_true rfl) (Nat.le_of_ble_eq_true rfl) (Nat.le_of_ble_eq_true rfl))
theorem d162_16 : decode (mB 162) 16 = .ok (.ifCond .ne 5, 3) := by decide +kernel
theorem s162_16 {l0 l1 l2 l3 l4 l5 : Option Value} {st : List Value} {a : Int32} {m : kMem} {Q : Option Value → kMem → Prop} : kJ 162 16 [l0, l1, l2, l3, l4, l5] (.int a :: st) m Q = (if a = 0 then kJ 162 19 [l0, l1, l2, l3, l4, l5] st m Q else kJ 162 21 [l0, l1, l2, l3, l4, l5] st m Q) := kJ_if d162_16 rfl (fun h => kJ_next d162_16 h) (fun h => kJ_next d162_16 h)
theorem d162_19 : decode (mB 162) 19 = .ok (.iconst (-1), 1) := by decide +kernel
theorem s162_19 {l0 l1 l2 l3 l4 l5 : Option Value} {st : List Value} {m : kMem} {Q : Option Value → kMem → Prop} : kJ 162 19 [l0, l1, l2, l3, l4, l5] st m Q = kJ 162 20 [l0, l1, l2, l3, l4, l5] (.int (-1) :: st) m Q := kJ_next d162_19 rfl
theorem d162_20 : decode (mB 162) 20 = .ok (.ireturn, 1) := by decide +kernel
theorem s162_20 {l0 l1 l2 l3 l4 l5 : Option Value} {x : Int32} {m : kMem} {Q : Option Value → kMem → Prop} : kJ 162 20 [l0, l1, l2, l3, l4, l5] [.int x] m Q = Q (some (.int x)) m := kJ_ret d162_20 rfl
theorem d162_21 : decode (mB 162) 21 = .ok (.iconst 0, 1) := by decide +kernel
theorem s162_21 {l0 l1 l2 l3 l4 l5 : Option Value} {st : List Value} {m : kMem} {Q : Option Value → kMem → Prop} : kJ 162 21 [l0, l1, l2, l3, l4, l5] st m Q = kJ 162 22 [l0, l1, l2, l3, l4, l5] (.int (nI 0) :: st) m Q := kJ_next d162_21 rfl
theorem d162_22 : decode (mB 162) 22 = .ok (.istore_n 3, 1) := by decide +kernel
theorem s162_22 {l0 l1 l2 l3 l4 l5 : Option Value} {st : List Value} {x : Int32} {m : kMem} {Q : Option Value → kMem → Prop} (hp : kNL l2 = true) : kJ 162 22 [l0, l1, l2, l3, l4, l5] (.int x :: st) m Q = kJ 162 23 [l0, l1, l2, some (.int x), l4, l5] st m Q := kJ_next d162_22 (kg_sti (Nat.le_of_ble_eq_true rfl) hp)
theorem d162_23 : decode (mB 162) 23 = .ok (.aload_n 0, 1) := by decide +kernel
theorem s162_23 {l1 l2 l3 l4 l5 : Option Value} {st : List Value} {x : Nat} {m : kMem} {Q : Option Value → kMem → Prop} : kJ 162 23 [some (.ref x), l1, l2, l3, l4, l5] st m Q = kJ 162 24 [some (.ref x), l1, l2, l3, l4, l5] (.ref x :: st) m Q := kJ_next d162_23 rfl
theorem d162_24 : decode (mB 162) 24 = .ok (.invokevirtual 195, 3) := by decide +kernel
theorem s162_24 {l0 l1 l2 l3 l4 l5 : Option Value} {v0 : Nat} {m : kMem} {Q : Option Value → kMem → Prop} (h : kIs m.2.2.2 v0 5 = true) : kJ 162 24 [l0, l1, l2, l3, l4, l5] [.ref v0] m Q = kJ 130 0 [some (.ref v0), none] [] m (fun v m2 => kJ 162 27 [l0, l1, l2, l3, l4, l5] (v.toList ++ []) m2 Q) := kJ_call d162_24 (kg_callv 130 0 rfl rfl rfl rfl (Nat.le_of_ble_eq_true rfl) (Nat.le_of_ble_eq_true rfl) (Nat.le_of_ble_eq_true rfl) h rfl)
theorem d162_27 : decode (mB 162) 27 = .ok (.iconst 0, 1) := by decide +kernel
theorem s162_27 {l0 l1 l2 l3 l4 l5 : Option Value} {st : List Value} {m : kMem} {Q : Option Value → kMem → Prop} : kJ 162 27 [l0, l1, l2, l3, l4, l5] st m Q = kJ 162 28 [l0, l1, l2, l3, l4, l5] (.int (nI 0) :: st) m Q := kJ_next d162_27 rfl
theorem d162_28 : decode (mB 162) 28 = .ok (.istore 4, 2) := by decide +kernel
theorem s162_28 {l0 l1 l2 l3 l4 l5 : Option Value} {st : List Value} {x : Int32} {m : kMem} {Q : Option Value → kMem → Prop} (hp : kNL l3 = true) : kJ 162 28 [l0, l1, l2, l3, l4, l5] (.int x :: st) m Q = kJ 162 30 [l0, l1, l2, l3, some (.int x), l5] st m Q := kJ_next d162_28 (kg_sti (Nat.le_of_ble_eq_true rfl) hp)
theorem d162_30 : decode (mB 162) 30 = .ok (.iload 4, 2) := by decide +kernel
theorem s162_30 {l0 l1 l2 l3 l5 : Option Value} {st : List Value} {x : Int32} {m : kMem} {Q : Option Value → kMem → Prop} : kJ 162 30 [l0, l1, l2, l3, some (.int x), l5] st m Q = kJ 162 32 [l0, l1, l2, l3, some (.int x), l5] (.int x :: st) m Q := kJ_next d162_30 rfl
theorem d162_32 : decode (mB 162) 32 = .ok (.iload_n 1, 1) := by decide +kernel
theorem s162_32 {l0 l2 l3 l4 l5 : Option Value} {st : List Value} {x : Int32} {m : kMem} {Q : Option Value → kMem → Prop} : kJ 162 32 [l0, some (.int x), l2, l3, l4, l5] st m Q = kJ 162 33 [l0, some (.int x), l2, l3, l4, l5] (.int x :: st) m Q := kJ_next d162_32 rfl
theorem d162_33 : decode (mB 162) 33 = .ok (.if_icmp .ge 40, 3) := by decide +kernel
theorem s162_33 {l0 l1 l2 l3 l4 l5 : Option Value} {st : List Value} {a b : Int32} {m : kMem} {Q : Option Value → kMem → Prop} : kJ 162 33 [l0, l1, l2, l3, l4, l5] (.int b :: .int a :: st) m Q = (if b ≤ a then kJ 162 73 [l0, l1, l2, l3, l4, l5] st m Q else kJ 162 36 [l0, l1, l2, l3, l4, l5] st m Q) := kJ_if d162_33 rfl (fun h => kJ_next d162_33 h) (fun h => kJ_next d162_33 h)
theorem d162_36 : decode (mB 162) 36 = .ok (.aload_n 0, 1) := by decide +kernel
theorem s162_36 {l1 l2 l3 l4 l5 : Option Value} {st : List Value} {x : Nat} {m : kMem} {Q : Option Value → kMem → Prop} : kJ 162 36 [some (.ref x), l1, l2, l3, l4, l5] st m Q = kJ 162 37 [some (.ref x), l1, l2, l3, l4, l5] (.ref x :: st) m Q := kJ_next d162_36 rfl
theorem d162_37 : decode (mB 162) 37 = .ok (.getfield 135, 3) := by decide +kernel
theorem s162_37 {l0 l1 l2 l3 l4 l5 : Option Value} {st : List Value} {q : Nat} {mi : Nat → Nat → Int32} {ml : Nat → Nat → Int64} {mr : Nat → Nat → Option Nat} {nx : Nat} {Q : Option Value → kMem → Prop} (h : kIs nx q 5 = true) : kJ 162 37 [l0, l1, l2, l3, l4, l5] (.ref q :: st) (mi, ml, mr, nx) Q = kJ 162 40 [l0, l1, l2, l3, l4, l5] (.int (mi q 15) :: st) (mi, ml, mr, nx) Q := kJ_next d162_37 (kg_geti 5 15 rfl h (by decide))
theorem d162_40 : decode (mB 162) 40 = .ok (.istore 5, 2) := by decide +kernel
theorem s162_40 {l0 l1 l2 l3 l4 l5 : Option Value} {st : List Value} {x : Int32} {m : kMem} {Q : Option Value → kMem → Prop} (hp : kNL l4 = true) : kJ 162 40 [l0, l1, l2, l3, l4, l5] (.int x :: st) m Q = kJ 162 42 [l0, l1, l2, l3, l4, some (.int x)] st m Q := kJ_next d162_40 (kg_sti (Nat.le_of_ble_eq_true rfl) hp)
theorem d162_42 : decode (mB 162) 42 = .ok (.aload_n 0, 1) := by decide +kernel
theorem s162_42 {l1 l2 l3 l4 l5 : Option Value} {st : List Value} {x : Nat} {m : kMem} {Q : Option Value → kMem → Prop} : kJ 162 42 [some (.ref x), l1, l2, l3, l4, l5] st m Q = kJ 162 43 [some (.ref x), l1, l2, l3, l4, l5] (.ref x :: st) m Q := kJ_next d162_42 rfl
theorem d162_43 : decode (mB 162) 43 = .ok (.iconst 1, 1) := by decide +kernel
theorem s162_43 {l0 l1 l2 l3 l4 l5 : Option Value} {st : List Value} {m : kMem} {Q : Option Value → kMem → Prop} : kJ 162 43 [l0, l1, l2, l3, l4, l5] st m Q = kJ 162 44 [l0, l1, l2, l3, l4, l5] (.int (nI 1) :: st) m Q := kJ_next d162_43 rfl
theorem d162_44 : decode (mB 162) 44 = .ok (.invokevirtual 181, 3) := by decide +kernel
theorem s162_44 {l0 l1 l2 l3 l4 l5 : Option Value} {v0 : Int32} {v1 : Nat} {m : kMem} {Q : Option Value → kMem → Prop} (h : kIs m.2.2.2 v1 5 = true) : kJ 162 44 [l0, l1, l2, l3, l4, l5] [.int v0, .ref v1] m Q = kJ 144 0 [some (.ref v1), some (.int v0), none] [] m (fun v m2 => kJ 162 47 [l0, l1, l2, l3, l4, l5] (v.toList ++ []) m2 Q) := kJ_call d162_44 (kg_callv 144 1 rfl rfl rfl rfl (Nat.le_of_ble_eq_true rfl) (Nat.le_of_ble_eq_true rfl) (Nat.le_of_ble_eq_true rfl) h rfl)
theorem d162_47 : decode (mB 162) 47 = .ok (.iload_n 3, 1) := by decide +kernel
theorem s162_47 {l0 l1 l2 l4 l5 : Option Value} {st : List Value} {x : Int32} {m : kMem} {Q : Option Value → kMem → Prop} : kJ 162 47 [l0, l1, l2, some (.int x), l4, l5] st m Q = kJ 162 48 [l0, l1, l2, some (.int x), l4, l5] (.int x :: st) m Q := kJ_next d162_47 rfl
theorem d162_48 : decode (mB 162) 48 = .ok (.aload_n 0, 1) := by decide +kernel
theorem s162_48 {l1 l2 l3 l4 l5 : Option Value} {st : List Value} {x : Nat} {m : kMem} {Q : Option Value → kMem → Prop} : kJ 162 48 [some (.ref x), l1, l2, l3, l4, l5] st m Q = kJ 162 49 [some (.ref x), l1, l2, l3, l4, l5] (.ref x :: st) m Q := kJ_next d162_48 rfl
theorem d162_49 : decode (mB 162) 49 = .ok (.getfield 135, 3) := by decide +kernel
theorem s162_49 {l0 l1 l2 l3 l4 l5 : Option Value} {st : List Value} {q : Nat} {mi : Nat → Nat → Int32} {ml : Nat → Nat → Int64} {mr : Nat → Nat → Option Nat} {nx : Nat} {Q : Option Value → kMem → Prop} (h : kIs nx q 5 = true) : kJ 162 49 [l0, l1, l2, l3, l4, l5] (.ref q :: st) (mi, ml, mr, nx) Q = kJ 162 52 [l0, l1, l2, l3, l4, l5] (.int (mi q 15) :: st) (mi, ml, mr, nx) Q := kJ_next d162_49 (kg_geti 5 15 rfl h (by decide))
theorem d162_52 : decode (mB 162) 52 = .ok (.iload 5, 2) := by decide +kernel
theorem s162_52 {l0 l1 l2 l3 l4 : Option Value} {st : List Value} {x : Int32} {m : kMem} {Q : Option Value → kMem → Prop} : kJ 162 52 [l0, l1, l2, l3, l4, some (.int x)] st m Q = kJ 162 54 [l0, l1, l2, l3, l4, some (.int x)] (.int x :: st) m Q := kJ_next d162_52 rfl
theorem d162_54 : decode (mB 162) 54 = .ok (.if_icmp .ne 7, 3) := by decide +kernel
theorem s162_54 {l0 l1 l2 l3 l4 l5 : Option Value} {st : List Value} {a b : Int32} {m : kMem} {Q : Option Value → kMem → Prop} : kJ 162 54 [l0, l1, l2, l3, l4, l5] (.int b :: .int a :: st) m Q = (if a = b then kJ 162 57 [l0, l1, l2, l3, l4, l5] st m Q else kJ 162 61 [l0, l1, l2, l3, l4, l5] st m Q) := kJ_if d162_54 rfl (fun h => kJ_next d162_54 h) (fun h => kJ_next d162_54 h)
theorem d162_57 : decode (mB 162) 57 = .ok (.iconst 1, 1) := by decide +kernel
theorem s162_57 {l0 l1 l2 l3 l4 l5 : Option Value} {st : List Value} {m : kMem} {Q : Option Value → kMem → Prop} : kJ 162 57 [l0, l1, l2, l3, l4, l5] st m Q = kJ 162 58 [l0, l1, l2, l3, l4, l5] (.int (nI 1) :: st) m Q := kJ_next d162_57 rfl
theorem d162_58 : decode (mB 162) 58 = .ok (.goto 4, 3) := by decide +kernel
theorem s162_58 {l0 l1 l2 l3 l4 l5 : Option Value} {st : List Value} {m : kMem} {Q : Option Value → kMem → Prop} : kJ 162 58 [l0, l1, l2, l3, l4, l5] st m Q = kJ 162 62 [l0, l1, l2, l3, l4, l5] st m Q := kJ_next d162_58 rfl
theorem d162_61 : decode (mB 162) 61 = .ok (.iconst 0, 1) := by decide +kernel
theorem s162_61 {l0 l1 l2 l3 l4 l5 : Option Value} {st : List Value} {m : kMem} {Q : Option Value → kMem → Prop} : kJ 162 61 [l0, l1, l2, l3, l4, l5] st m Q = kJ 162 62 [l0, l1, l2, l3, l4, l5] (.int (nI 0) :: st) m Q := kJ_next d162_61 rfl
theorem d162_62 : decode (mB 162) 62 = .ok (.invokestatic 191, 3) := by decide +kernel
theorem s162_62 {l0 l1 l2 l3 l4 l5 : Option Value} {v0 : Int32} {v1 : Int32} {m : kMem} {Q : Option Value → kMem → Prop} : kJ 162 62 [l0, l1, l2, l3, l4, l5] [.int v0, .int v1] m Q = kJ 108 0 [some (.int v0)] [] m (fun v m2 => kJ 162 65 [l0, l1, l2, l3, l4, l5] (v.toList ++ [.int v1]) m2 Q) := kJ_call d162_62 (kg_calls 108 1 rfl rfl (Nat.le_of_ble_eq_true rfl) (Nat.le_of_ble_eq_true rfl) (Nat.le_of_ble_eq_true rfl) (Nat.le_of_ble_eq_true rfl))
theorem d162_65 : decode (mB 162) 65 = .ok (.iadd, 1) := by decide +kernel
theorem s162_65 {l0 l1 l2 l3 l4 l5 : Option Value} {st : List Value} {a b : Int32} {m : kMem} {Q : Option Value → kMem → Prop} : kJ 162 65 [l0, l1, l2, l3, l4, l5] (.int b :: .int a :: st) m Q = kJ 162 66 [l0, l1, l2, l3, l4, l5] (.int (a + b) :: st) m Q := kJ_next d162_65 rfl
theorem d162_66 : decode (mB 162) 66 = .ok (.istore_n 3, 1) := by decide +kernel
theorem s162_66 {l0 l1 l2 l3 l4 l5 : Option Value} {st : List Value} {x : Int32} {m : kMem} {Q : Option Value → kMem → Prop} (hp : kNL l2 = true) : kJ 162 66 [l0, l1, l2, l3, l4, l5] (.int x :: st) m Q = kJ 162 67 [l0, l1, l2, some (.int x), l4, l5] st m Q := kJ_next d162_66 (kg_sti (Nat.le_of_ble_eq_true rfl) hp)
theorem d162_67 : decode (mB 162) 67 = .ok (.iinc 4 1, 3) := by decide +kernel
theorem s162_67 {l0 l1 l2 l3 l5 : Option Value} {st : List Value} {x : Int32} {m : kMem} {Q : Option Value → kMem → Prop} (hp : kNL l3 = true) : kJ 162 67 [l0, l1, l2, l3, some (.int x), l5] st m Q = kJ 162 70 [l0, l1, l2, l3, some (.int (x + (nI 1))), l5] st m Q := kJ_next d162_67 (kg_inc rfl (Nat.le_of_ble_eq_true rfl) hp)
theorem d162_70 : decode (mB 162) 70 = .ok (.goto (-40), 3) := by decide +kernel
theorem s162_70 {l0 l1 l2 l3 l4 l5 : Option Value} {st : List Value} {m : kMem} {Q : Option Value → kMem → Prop} : kJ 162 70 [l0, l1, l2, l3, l4, l5] st m Q = kJ 162 30 [l0, l1, l2, l3, l4, l5] st m Q := kJ_next d162_70 rfl
theorem d162_73 : decode (mB 162) 73 = .ok (.iload_n 2, 1) := by decide +kernel
theorem s162_73 {l0 l1 l3 l4 l5 : Option Value} {st : List Value} {x : Int32} {m : kMem} {Q : Option Value → kMem → Prop} : kJ 162 73 [l0, l1, some (.int x), l3, l4, l5] st m Q = kJ 162 74 [l0, l1, some (.int x), l3, l4, l5] (.int x :: st) m Q := kJ_next d162_73 rfl
theorem d162_74 : decode (mB 162) 74 = .ok (.tableswitch 43 0 2 #[26, 31, 37], 26) := by decide +kernel
theorem s162_74 {l0 l1 l2 l3 l4 l5 : Option Value} {st : List Value} {a : Int32} {m : kMem} {Q : Option Value → kMem → Prop} : kJ 162 74 [l0, l1, l2, l3, l4, l5] (.int a :: st) m Q = (if a = (nI 0) then kJ 162 100 [l0, l1, l2, l3, l4, l5] st m Q else if a = (nI 1) then kJ 162 105 [l0, l1, l2, l3, l4, l5] st m Q else if a = (nI 2) then kJ 162 111 [l0, l1, l2, l3, l4, l5] st m Q else kJ 162 117 [l0, l1, l2, l3, l4, l5] st m Q) := by
  by_cases h0 : a = nI 0
  · subst h0; exact kJ_next d162_74 rfl
  rw [if_neg h0]
  by_cases h1 : a = nI 1
  · subst h1; exact kJ_next d162_74 rfl
  rw [if_neg h1]
  by_cases h2 : a = nI 2
  · subst h2; exact kJ_next d162_74 rfl
  rw [if_neg h2]
  have hz : ∀ j, j < 0 → a ≠ nI j := fun j hj => absurd hj (Nat.not_lt_zero j)
  refine kJ_next d162_74 (if_pos (c := a.toInt < 0 ∨ (2 : Int) < a.toInt) ?_)
  have hr := kg_rng (a := a) (n := 2) (by decide) (fun j hj => by
    rcases Nat.lt_or_ge j 0 with hl | hl
    · exact hz j hl
    · have hj2 : j = 0 ∨ j = 1 ∨ j = 2 := by omega
      rcases hj2 with rfl | rfl | rfl
      · exact h0
      · exact h1
      · exact h2
    )
  omega
theorem d162_100 : decode (mB 162) 100 = .ok (.aload_n 0, 1) := by decide +kernel
theorem s162_100 {l1 l2 l3 l4 l5 : Option Value} {st : List Value} {x : Nat} {m : kMem} {Q : Option Value → kMem → Prop} : kJ 162 100 [some (.ref x), l1, l2, l3, l4, l5] st m Q = kJ 162 101 [some (.ref x), l1, l2, l3, l4, l5] (.ref x :: st) m Q := kJ_next d162_100 rfl
theorem d162_101 : decode (mB 162) 101 = .ok (.invokevirtual 188, 3) := by decide +kernel
theorem s162_101 {l0 l1 l2 l3 l4 l5 : Option Value} {v0 : Nat} {m : kMem} {Q : Option Value → kMem → Prop} (h : kIs m.2.2.2 v0 5 = true) : kJ 162 101 [l0, l1, l2, l3, l4, l5] [.ref v0] m Q = kJ 146 0 [some (.ref v0), none, none] [] m (fun v m2 => kJ 162 104 [l0, l1, l2, l3, l4, l5] (v.toList ++ []) m2 Q) := kJ_call d162_101 (kg_callv 146 0 rfl rfl rfl rfl (Nat.le_of_ble_eq_true rfl) (Nat.le_of_ble_eq_true rfl) (Nat.le_of_ble_eq_true rfl) h rfl)
theorem d162_104 : decode (mB 162) 104 = .ok (.ireturn, 1) := by decide +kernel
theorem s162_104 {l0 l1 l2 l3 l4 l5 : Option Value} {x : Int32} {m : kMem} {Q : Option Value → kMem → Prop} : kJ 162 104 [l0, l1, l2, l3, l4, l5] [.int x] m Q = Q (some (.int x)) m := kJ_ret d162_104 rfl
theorem d162_105 : decode (mB 162) 105 = .ok (.aload_n 0, 1) := by decide +kernel
theorem s162_105 {l1 l2 l3 l4 l5 : Option Value} {st : List Value} {x : Nat} {m : kMem} {Q : Option Value → kMem → Prop} : kJ 162 105 [some (.ref x), l1, l2, l3, l4, l5] st m Q = kJ 162 106 [some (.ref x), l1, l2, l3, l4, l5] (.ref x :: st) m Q := kJ_next d162_105 rfl
theorem d162_106 : decode (mB 162) 106 = .ok (.iconst 2, 1) := by decide +kernel
theorem s162_106 {l0 l1 l2 l3 l4 l5 : Option Value} {st : List Value} {m : kMem} {Q : Option Value → kMem → Prop} : kJ 162 106 [l0, l1, l2, l3, l4, l5] st m Q = kJ 162 107 [l0, l1, l2, l3, l4, l5] (.int (nI 2) :: st) m Q := kJ_next d162_106 rfl
theorem d162_107 : decode (mB 162) 107 = .ok (.invokevirtual 198, 3) := by decide +kernel
theorem s162_107 {l0 l1 l2 l3 l4 l5 : Option Value} {v0 : Int32} {v1 : Nat} {m : kMem} {Q : Option Value → kMem → Prop} (h : kIs m.2.2.2 v1 5 = true) : kJ 162 107 [l0, l1, l2, l3, l4, l5] [.int v0, .ref v1] m Q = kJ 148 0 [some (.ref v1), some (.int v0), none, none] [] m (fun v m2 => kJ 162 110 [l0, l1, l2, l3, l4, l5] (v.toList ++ []) m2 Q) := kJ_call d162_107 (kg_callv 148 1 rfl rfl rfl rfl (Nat.le_of_ble_eq_true rfl) (Nat.le_of_ble_eq_true rfl) (Nat.le_of_ble_eq_true rfl) h rfl)
theorem d162_110 : decode (mB 162) 110 = .ok (.ireturn, 1) := by decide +kernel
theorem s162_110 {l0 l1 l2 l3 l4 l5 : Option Value} {x : Int32} {m : kMem} {Q : Option Value → kMem → Prop} : kJ 162 110 [l0, l1, l2, l3, l4, l5] [.int x] m Q = Q (some (.int x)) m := kJ_ret d162_110 rfl
theorem d162_111 : decode (mB 162) 111 = .ok (.aload_n 0, 1) := by decide +kernel
theorem s162_111 {l1 l2 l3 l4 l5 : Option Value} {st : List Value} {x : Nat} {m : kMem} {Q : Option Value → kMem → Prop} : kJ 162 111 [some (.ref x), l1, l2, l3, l4, l5] st m Q = kJ 162 112 [some (.ref x), l1, l2, l3, l4, l5] (.ref x :: st) m Q := kJ_next d162_111 rfl
theorem d162_112 : decode (mB 162) 112 = .ok (.iconst 3, 1) := by decide +kernel
theorem s162_112 {l0 l1 l2 l3 l4 l5 : Option Value} {st : List Value} {m : kMem} {Q : Option Value → kMem → Prop} : kJ 162 112 [l0, l1, l2, l3, l4, l5] st m Q = kJ 162 113 [l0, l1, l2, l3, l4, l5] (.int (nI 3) :: st) m Q := kJ_next d162_112 rfl
theorem d162_113 : decode (mB 162) 113 = .ok (.invokevirtual 198, 3) := by decide +kernel
theorem s162_113 {l0 l1 l2 l3 l4 l5 : Option Value} {v0 : Int32} {v1 : Nat} {m : kMem} {Q : Option Value → kMem → Prop} (h : kIs m.2.2.2 v1 5 = true) : kJ 162 113 [l0, l1, l2, l3, l4, l5] [.int v0, .ref v1] m Q = kJ 148 0 [some (.ref v1), some (.int v0), none, none] [] m (fun v m2 => kJ 162 116 [l0, l1, l2, l3, l4, l5] (v.toList ++ []) m2 Q) := kJ_call d162_113 (kg_callv 148 1 rfl rfl rfl rfl (Nat.le_of_ble_eq_true rfl) (Nat.le_of_ble_eq_true rfl) (Nat.le_of_ble_eq_true rfl) h rfl)
theorem d162_116 : decode (mB 162) 116 = .ok (.ireturn, 1) := by decide +kernel
theorem s162_116 {l0 l1 l2 l3 l4 l5 : Option Value} {x : Int32} {m : kMem} {Q : Option Value → kMem → Prop} : kJ 162 116 [l0, l1, l2, l3, l4, l5] [.int x] m Q = Q (some (.int x)) m := kJ_ret d162_116 rfl
theorem d162_117 : decode (mB 162) 117 = .ok (.iload_n 3, 1) := by decide +kernel
theorem s162_117 {l0 l1 l2 l4 l5 : Option Value} {st : List Value} {x : Int32} {m : kMem} {Q : Option Value → kMem → Prop} : kJ 162 117 [l0, l1, l2, some (.int x), l4, l5] st m Q = kJ 162 118 [l0, l1, l2, some (.int x), l4, l5] (.int x :: st) m Q := kJ_next d162_117 rfl
theorem d162_118 : decode (mB 162) 118 = .ok (.ireturn, 1) := by decide +kernel
theorem s162_118 {l0 l1 l2 l3 l4 l5 : Option Value} {x : Int32} {m : kMem} {Q : Option Value → kMem → Prop} : kJ 162 118 [l0, l1, l2, l3, l4, l5] [.int x] m Q = Q (some (.int x)) m := kJ_ret d162_118 rfl
theorem d163_0 : decode (mB 163) 0 = .ok (.aload_n 0, 1) := by decide +kernel
theorem s163_0 {l1 l2 : Option Value} {st : List Value} {x : Nat} {m : kMem} {Q : Option Value → kMem → Prop} : kJ 163 0 [some (.ref x), l1, l2] st m Q = kJ 163 1 [some (.ref x), l1, l2] (.ref x :: st) m Q := kJ_next d163_0 rfl
theorem d163_1 : decode (mB 163) 1 = .ok (.iload_n 1, 1) := by decide +kernel
theorem s163_1 {l0 l2 : Option Value} {st : List Value} {x : Int32} {m : kMem} {Q : Option Value → kMem → Prop} : kJ 163 1 [l0, some (.int x), l2] st m Q = kJ 163 2 [l0, some (.int x), l2] (.int x :: st) m Q := kJ_next d163_1 rfl
theorem d163_2 : decode (mB 163) 2 = .ok (.invokevirtual 201, 3) := by decide +kernel
theorem s163_2 {l0 l1 l2 : Option Value} {v0 : Int32} {v1 : Nat} {m : kMem} {Q : Option Value → kMem → Prop} (h : kIs m.2.2.2 v1 5 = true) : kJ 163 2 [l0, l1, l2] [.int v0, .ref v1] m Q = kJ 126 0 [some (.ref v1), some (.int v0)] [] m (fun v m2 => kJ 163 5 [l0, l1, l2] (v.toList ++ []) m2 Q) := kJ_call d163_2 (kg_callv 126 1 rfl rfl rfl rfl (Nat.le_of_ble_eq_true rfl) (Nat.le_of_ble_eq_true rfl) (Nat.le_of_ble_eq_true rfl) h rfl)
theorem d163_5 : decode (mB 163) 5 = .ok (.ifCond .eq 10, 3) := by decide +kernel
theorem s163_5 {l0 l1 l2 : Option Value} {st : List Value} {a : Int32} {m : kMem} {Q : Option Value → kMem → Prop} : kJ 163 5 [l0, l1, l2] (.int a :: st) m Q = (if a = 0 then kJ 163 15 [l0, l1, l2] st m Q else kJ 163 8 [l0, l1, l2] st m Q) := kJ_if d163_5 rfl (fun h => kJ_next d163_5 h) (fun h => kJ_next d163_5 h)
theorem d163_8 : decode (mB 163) 8 = .ok (.iload_n 2, 1) := by decide +kernel
theorem s163_8 {l0 l1 : Option Value} {st : List Value} {x : Int32} {m : kMem} {Q : Option Value → kMem → Prop} : kJ 163 8 [l0, l1, some (.int x)] st m Q = kJ 163 9 [l0, l1, some (.int x)] (.int x :: st) m Q := kJ_next d163_8 rfl
theorem d163_9 : decode (mB 163) 9 = .ok (.invokestatic 233, 3) := by decide +kernel
theorem s163_9 {l0 l1 l2 : Option Value} {v0 : Int32} {m : kMem} {Q : Option Value → kMem → Prop} : kJ 163 9 [l0, l1, l2] [.int v0] m Q = kJ 161 0 [some (.int v0)] [] m (fun v m2 => kJ 163 12 [l0, l1, l2] (v.toList ++ []) m2 Q) := kJ_call d163_9 (kg_calls 161 1 rfl rfl (Nat.le_of_ble_eq_true rfl) (Nat.le_of_ble_eq_true rfl) (Nat.le_of_ble_eq_true rfl) (Nat.le_of_ble_eq_true rfl))
theorem d163_12 : decode (mB 163) 12 = .ok (.ifCond .ne 5, 3) := by decide +kernel
theorem s163_12 {l0 l1 l2 : Option Value} {st : List Value} {a : Int32} {m : kMem} {Q : Option Value → kMem → Prop} : kJ 163 12 [l0, l1, l2] (.int a :: st) m Q = (if a = 0 then kJ 163 15 [l0, l1, l2] st m Q else kJ 163 17 [l0, l1, l2] st m Q) := kJ_if d163_12 rfl (fun h => kJ_next d163_12 h) (fun h => kJ_next d163_12 h)
theorem d163_15 : decode (mB 163) 15 = .ok (.iconst (-1), 1) := by decide +kernel
theorem s163_15 {l0 l1 l2 : Option Value} {st : List Value} {m : kMem} {Q : Option Value → kMem → Prop} : kJ 163 15 [l0, l1, l2] st m Q = kJ 163 16 [l0, l1, l2] (.int (-1) :: st) m Q := kJ_next d163_15 rfl
theorem d163_16 : decode (mB 163) 16 = .ok (.ireturn, 1) := by decide +kernel
theorem s163_16 {l0 l1 l2 : Option Value} {x : Int32} {m : kMem} {Q : Option Value → kMem → Prop} : kJ 163 16 [l0, l1, l2] [.int x] m Q = Q (some (.int x)) m := kJ_ret d163_16 rfl
theorem d163_17 : decode (mB 163) 17 = .ok (.aload_n 0, 1) := by decide +kernel
theorem s163_17 {l1 l2 : Option Value} {st : List Value} {x : Nat} {m : kMem} {Q : Option Value → kMem → Prop} : kJ 163 17 [some (.ref x), l1, l2] st m Q = kJ 163 18 [some (.ref x), l1, l2] (.ref x :: st) m Q := kJ_next d163_17 rfl
theorem d163_18 : decode (mB 163) 18 = .ok (.invokevirtual 195, 3) := by decide +kernel
theorem s163_18 {l0 l1 l2 : Option Value} {v0 : Nat} {m : kMem} {Q : Option Value → kMem → Prop} (h : kIs m.2.2.2 v0 5 = true) : kJ 163 18 [l0, l1, l2] [.ref v0] m Q = kJ 130 0 [some (.ref v0), none] [] m (fun v m2 => kJ 163 21 [l0, l1, l2] (v.toList ++ []) m2 Q) := kJ_call d163_18 (kg_callv 130 0 rfl rfl rfl rfl (Nat.le_of_ble_eq_true rfl) (Nat.le_of_ble_eq_true rfl) (Nat.le_of_ble_eq_true rfl) h rfl)
theorem d163_21 : decode (mB 163) 21 = .ok (.aload_n 0, 1) := by decide +kernel
theorem s163_21 {l1 l2 : Option Value} {st : List Value} {x : Nat} {m : kMem} {Q : Option Value → kMem → Prop} : kJ 163 21 [some (.ref x), l1, l2] st m Q = kJ 163 22 [some (.ref x), l1, l2] (.ref x :: st) m Q := kJ_next d163_21 rfl
theorem d163_22 : decode (mB 163) 22 = .ok (.iload_n 2, 1) := by decide +kernel
theorem s163_22 {l0 l1 : Option Value} {st : List Value} {x : Int32} {m : kMem} {Q : Option Value → kMem → Prop} : kJ 163 22 [l0, l1, some (.int x)] st m Q = kJ 163 23 [l0, l1, some (.int x)] (.int x :: st) m Q := kJ_next d163_22 rfl
theorem d163_23 : decode (mB 163) 23 = .ok (.invokevirtual 185, 3) := by decide +kernel
theorem s163_23 {l0 l1 l2 : Option Value} {v0 : Int32} {v1 : Nat} {m : kMem} {Q : Option Value → kMem → Prop} (h : kIs m.2.2.2 v1 5 = true) : kJ 163 23 [l0, l1, l2] [.int v0, .ref v1] m Q = kJ 145 0 [some (.ref v1), some (.int v0), none] [] m (fun v m2 => kJ 163 26 [l0, l1, l2] (v.toList ++ []) m2 Q) := kJ_call d163_23 (kg_callv 145 1 rfl rfl rfl rfl (Nat.le_of_ble_eq_true rfl) (Nat.le_of_ble_eq_true rfl) (Nat.le_of_ble_eq_true rfl) h rfl)
theorem d163_26 : decode (mB 163) 26 = .ok (.aload_n 0, 1) := by decide +kernel
theorem s163_26 {l1 l2 : Option Value} {st : List Value} {x : Nat} {m : kMem} {Q : Option Value → kMem → Prop} : kJ 163 26 [some (.ref x), l1, l2] st m Q = kJ 163 27 [some (.ref x), l1, l2] (.ref x :: st) m Q := kJ_next d163_26 rfl
theorem d163_27 : decode (mB 163) 27 = .ok (.iload_n 1, 1) := by decide +kernel
theorem s163_27 {l0 l2 : Option Value} {st : List Value} {x : Int32} {m : kMem} {Q : Option Value → kMem → Prop} : kJ 163 27 [l0, some (.int x), l2] st m Q = kJ 163 28 [l0, some (.int x), l2] (.int x :: st) m Q := kJ_next d163_27 rfl
theorem d163_28 : decode (mB 163) 28 = .ok (.iconst 2, 1) := by decide +kernel
theorem s163_28 {l0 l1 l2 : Option Value} {st : List Value} {m : kMem} {Q : Option Value → kMem → Prop} : kJ 163 28 [l0, l1, l2] st m Q = kJ 163 29 [l0, l1, l2] (.int (nI 2) :: st) m Q := kJ_next d163_28 rfl
theorem d163_29 : decode (mB 163) 29 = .ok (.invokevirtual 144, 3) := by decide +kernel
theorem s163_29 {l0 l1 l2 : Option Value} {v0 : Int32} {v1 : Int32} {v2 : Nat} {m : kMem} {Q : Option Value → kMem → Prop} (h : kIs m.2.2.2 v2 5 = true) : kJ 163 29 [l0, l1, l2] [.int v0, .int v1, .ref v2] m Q = kJ 132 0 [some (.ref v2), some (.int v1), some (.int v0)] [] m (fun v m2 => kJ 163 32 [l0, l1, l2] (v.toList ++ []) m2 Q) := kJ_call d163_29 (kg_callv 132 2 rfl rfl rfl rfl (Nat.le_of_ble_eq_true rfl) (Nat.le_of_ble_eq_true rfl) (Nat.le_of_ble_eq_true rfl) h rfl)
theorem d163_32 : decode (mB 163) 32 = .ok (.ireturn, 1) := by decide +kernel
theorem s163_32 {l0 l1 l2 : Option Value} {x : Int32} {m : kMem} {Q : Option Value → kMem → Prop} : kJ 163 32 [l0, l1, l2] [.int x] m Q = Q (some (.int x)) m := kJ_ret d163_32 rfl
