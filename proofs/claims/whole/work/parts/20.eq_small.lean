theorem d0_0 : decode (mB 0) 0 = .ok (.aload_n 0, 1) := by decide +kernel
theorem s0_0 {st : List Value} {x : Nat} {m : kMem} {Q : Option Value → kMem → Prop} : kJ 0 0 [some (.ref x)] st m Q = kJ 0 1 [some (.ref x)] (.ref x :: st) m Q := kJ_next d0_0 rfl
theorem d0_1 : decode (mB 0) 1 = .ok (.invokespecial 3, 3) := by decide +kernel
theorem s0_1 {l0 : Option Value}  {q : Nat} {m : kMem} {Q : Option Value → kMem → Prop} : kJ 0 1 [l0] [.ref q] m Q = kJ 0 4 [l0] [] m Q := kJ_next d0_1 (kg_obj rfl rfl (Nat.le_of_ble_eq_true rfl))
theorem d0_4 : decode (mB 0) 4 = .ok (.aload_n 0, 1) := by decide +kernel
theorem s0_4 {st : List Value} {x : Nat} {m : kMem} {Q : Option Value → kMem → Prop} : kJ 0 4 [some (.ref x)] st m Q = kJ 0 5 [some (.ref x)] (.ref x :: st) m Q := kJ_next d0_4 rfl
theorem d0_5 : decode (mB 0) 5 = .ok (.bipush (-4), 2) := by decide +kernel
theorem s0_5 {l0 : Option Value} {st : List Value} {m : kMem} {Q : Option Value → kMem → Prop} : kJ 0 5 [l0] st m Q = kJ 0 7 [l0] (.int (-4) :: st) m Q := kJ_next d0_5 rfl
theorem d0_7 : decode (mB 0) 7 = .ok (.putfield 9, 3) := by decide +kernel
theorem s0_7 {l0 : Option Value} {st : List Value} {q : Nat} {x : Int32} {mi : Nat → Nat → Int32} {ml : Nat → Nat → Int64} {mr : Nat → Nat → Option Nat} {nx : Nat} {Q : Option Value → kMem → Prop} (h : kIs nx q 0 = true) : kJ 0 7 [l0] (.int x :: .ref q :: st) (mi, ml, mr, nx) Q = kJ 0 10 [l0] st (kup mi q 0 x, ml, mr, nx) Q := kJ_next d0_7 (kg_puti 0 0 rfl h (by decide) (Or.inl (by decide)))
theorem d0_10 : decode (mB 0) 10 = .ok (.return_, 1) := by decide +kernel
theorem s0_10 {l0 : Option Value} {m : kMem} {Q : Option Value → kMem → Prop} : kJ 0 10 [l0] [] m Q = Q none m := kJ_ret d0_10 rfl
theorem d1_0 : decode (mB 1) 0 = .ok (.aload_n 0, 1) := by decide +kernel
theorem s1_0 {l1 : Option Value} {st : List Value} {x : Nat} {m : kMem} {Q : Option Value → kMem → Prop} : kJ 1 0 [some (.ref x), l1] st m Q = kJ 1 1 [some (.ref x), l1] (.ref x :: st) m Q := kJ_next d1_0 rfl
theorem d1_1 : decode (mB 1) 1 = .ok (.bipush (-4), 2) := by decide +kernel
theorem s1_1 {l0 l1 : Option Value} {st : List Value} {m : kMem} {Q : Option Value → kMem → Prop} : kJ 1 1 [l0, l1] st m Q = kJ 1 3 [l0, l1] (.int (-4) :: st) m Q := kJ_next d1_1 rfl
theorem d1_3 : decode (mB 1) 3 = .ok (.putfield 9, 3) := by decide +kernel
theorem s1_3 {l0 l1 : Option Value} {st : List Value} {q : Nat} {x : Int32} {mi : Nat → Nat → Int32} {ml : Nat → Nat → Int64} {mr : Nat → Nat → Option Nat} {nx : Nat} {Q : Option Value → kMem → Prop} (h : kIs nx q 0 = true) : kJ 1 3 [l0, l1] (.int x :: .ref q :: st) (mi, ml, mr, nx) Q = kJ 1 6 [l0, l1] st (kup mi q 0 x, ml, mr, nx) Q := kJ_next d1_3 (kg_puti 0 0 rfl h (by decide) (Or.inl (by decide)))
theorem d1_6 : decode (mB 1) 6 = .ok (.aload_n 0, 1) := by decide +kernel
theorem s1_6 {l1 : Option Value} {st : List Value} {x : Nat} {m : kMem} {Q : Option Value → kMem → Prop} : kJ 1 6 [some (.ref x), l1] st m Q = kJ 1 7 [some (.ref x), l1] (.ref x :: st) m Q := kJ_next d1_6 rfl
theorem d1_7 : decode (mB 1) 7 = .ok (.iload_n 1, 1) := by decide +kernel
theorem s1_7 {l0 : Option Value} {st : List Value} {x : Int32} {m : kMem} {Q : Option Value → kMem → Prop} : kJ 1 7 [l0, some (.int x)] st m Q = kJ 1 8 [l0, some (.int x)] (.int x :: st) m Q := kJ_next d1_7 rfl
theorem d1_8 : decode (mB 1) 8 = .ok (.putfield 15, 3) := by decide +kernel
theorem s1_8 {l0 l1 : Option Value} {st : List Value} {q : Nat} {x : Int32} {mi : Nat → Nat → Int32} {ml : Nat → Nat → Int64} {mr : Nat → Nat → Option Nat} {nx : Nat} {Q : Option Value → kMem → Prop} (h : kIs nx q 0 = true) : kJ 1 8 [l0, l1] (.int x :: .ref q :: st) (mi, ml, mr, nx) Q = kJ 1 11 [l0, l1] st (kup mi q 1 x, ml, mr, nx) Q := kJ_next d1_8 (kg_puti 0 1 rfl h (by decide) (Or.inl (by decide)))
theorem d1_11 : decode (mB 1) 11 = .ok (.return_, 1) := by decide +kernel
theorem s1_11 {l0 l1 : Option Value} {m : kMem} {Q : Option Value → kMem → Prop} : kJ 1 11 [l0, l1] [] m Q = Q none m := kJ_ret d1_11 rfl
theorem d2_0 : decode (mB 2) 0 = .ok (.iload_n 2, 1) := by decide +kernel
theorem s2_0 {l0 l1 : Option Value} {st : List Value} {x : Int32} {m : kMem} {Q : Option Value → kMem → Prop} : kJ 2 0 [l0, l1, some (.int x)] st m Q = kJ 2 1 [l0, l1, some (.int x)] (.int x :: st) m Q := kJ_next d2_0 rfl
theorem d2_1 : decode (mB 2) 1 = .ok (.aload_n 0, 1) := by decide +kernel
theorem s2_1 {l1 l2 : Option Value} {st : List Value} {x : Nat} {m : kMem} {Q : Option Value → kMem → Prop} : kJ 2 1 [some (.ref x), l1, l2] st m Q = kJ 2 2 [some (.ref x), l1, l2] (.ref x :: st) m Q := kJ_next d2_1 rfl
theorem d2_2 : decode (mB 2) 2 = .ok (.getfield 15, 3) := by decide +kernel
theorem s2_2 {l0 l1 l2 : Option Value} {st : List Value} {q : Nat} {mi : Nat → Nat → Int32} {ml : Nat → Nat → Int64} {mr : Nat → Nat → Option Nat} {nx : Nat} {Q : Option Value → kMem → Prop} (h : kIs nx q 0 = true) : kJ 2 2 [l0, l1, l2] (.ref q :: st) (mi, ml, mr, nx) Q = kJ 2 5 [l0, l1, l2] (.int (mi q 1) :: st) (mi, ml, mr, nx) Q := kJ_next d2_2 (kg_geti 0 1 rfl h (by decide))
theorem d2_5 : decode (mB 2) 5 = .ok (.if_icmp .le 13, 3) := by decide +kernel
theorem s2_5 {l0 l1 l2 : Option Value} {st : List Value} {a b : Int32} {m : kMem} {Q : Option Value → kMem → Prop} : kJ 2 5 [l0, l1, l2] (.int b :: .int a :: st) m Q = (if a ≤ b then kJ 2 18 [l0, l1, l2] st m Q else kJ 2 8 [l0, l1, l2] st m Q) := kJ_if d2_5 rfl (fun h => kJ_next d2_5 h) (fun h => kJ_next d2_5 h)
theorem d2_8 : decode (mB 2) 8 = .ok (.aload_n 0, 1) := by decide +kernel
theorem s2_8 {l1 l2 : Option Value} {st : List Value} {x : Nat} {m : kMem} {Q : Option Value → kMem → Prop} : kJ 2 8 [some (.ref x), l1, l2] st m Q = kJ 2 9 [some (.ref x), l1, l2] (.ref x :: st) m Q := kJ_next d2_8 rfl
theorem d2_9 : decode (mB 2) 9 = .ok (.iload_n 1, 1) := by decide +kernel
theorem s2_9 {l0 l2 : Option Value} {st : List Value} {x : Int32} {m : kMem} {Q : Option Value → kMem → Prop} : kJ 2 9 [l0, some (.int x), l2] st m Q = kJ 2 10 [l0, some (.int x), l2] (.int x :: st) m Q := kJ_next d2_9 rfl
theorem d2_10 : decode (mB 2) 10 = .ok (.putfield 9, 3) := by decide +kernel
theorem s2_10 {l0 l1 l2 : Option Value} {st : List Value} {q : Nat} {x : Int32} {mi : Nat → Nat → Int32} {ml : Nat → Nat → Int64} {mr : Nat → Nat → Option Nat} {nx : Nat} {Q : Option Value → kMem → Prop} (h : kIs nx q 0 = true) : kJ 2 10 [l0, l1, l2] (.int x :: .ref q :: st) (mi, ml, mr, nx) Q = kJ 2 13 [l0, l1, l2] st (kup mi q 0 x, ml, mr, nx) Q := kJ_next d2_10 (kg_puti 0 0 rfl h (by decide) (Or.inl (by decide)))
theorem d2_13 : decode (mB 2) 13 = .ok (.aload_n 0, 1) := by decide +kernel
theorem s2_13 {l1 l2 : Option Value} {st : List Value} {x : Nat} {m : kMem} {Q : Option Value → kMem → Prop} : kJ 2 13 [some (.ref x), l1, l2] st m Q = kJ 2 14 [some (.ref x), l1, l2] (.ref x :: st) m Q := kJ_next d2_13 rfl
theorem d2_14 : decode (mB 2) 14 = .ok (.iload_n 2, 1) := by decide +kernel
theorem s2_14 {l0 l1 : Option Value} {st : List Value} {x : Int32} {m : kMem} {Q : Option Value → kMem → Prop} : kJ 2 14 [l0, l1, some (.int x)] st m Q = kJ 2 15 [l0, l1, some (.int x)] (.int x :: st) m Q := kJ_next d2_14 rfl
theorem d2_15 : decode (mB 2) 15 = .ok (.putfield 15, 3) := by decide +kernel
theorem s2_15 {l0 l1 l2 : Option Value} {st : List Value} {q : Nat} {x : Int32} {mi : Nat → Nat → Int32} {ml : Nat → Nat → Int64} {mr : Nat → Nat → Option Nat} {nx : Nat} {Q : Option Value → kMem → Prop} (h : kIs nx q 0 = true) : kJ 2 15 [l0, l1, l2] (.int x :: .ref q :: st) (mi, ml, mr, nx) Q = kJ 2 18 [l0, l1, l2] st (kup mi q 1 x, ml, mr, nx) Q := kJ_next d2_15 (kg_puti 0 1 rfl h (by decide) (Or.inl (by decide)))
theorem d2_18 : decode (mB 2) 18 = .ok (.return_, 1) := by decide +kernel
theorem s2_18 {l0 l1 l2 : Option Value} {m : kMem} {Q : Option Value → kMem → Prop} : kJ 2 18 [l0, l1, l2] [] m Q = Q none m := kJ_ret d2_18 rfl
theorem d3_0 : decode (mB 3) 0 = .ok (.aload_n 0, 1) := by decide +kernel
theorem s3_0 {l1 : Option Value} {st : List Value} {x : Nat} {m : kMem} {Q : Option Value → kMem → Prop} : kJ 3 0 [some (.ref x), l1] st m Q = kJ 3 1 [some (.ref x), l1] (.ref x :: st) m Q := kJ_next d3_0 rfl
theorem d3_1 : decode (mB 3) 1 = .ok (.getfield 9, 3) := by decide +kernel
theorem s3_1 {l0 l1 : Option Value} {st : List Value} {q : Nat} {mi : Nat → Nat → Int32} {ml : Nat → Nat → Int64} {mr : Nat → Nat → Option Nat} {nx : Nat} {Q : Option Value → kMem → Prop} (h : kIs nx q 0 = true) : kJ 3 1 [l0, l1] (.ref q :: st) (mi, ml, mr, nx) Q = kJ 3 4 [l0, l1] (.int (mi q 0) :: st) (mi, ml, mr, nx) Q := kJ_next d3_1 (kg_geti 0 0 rfl h (by decide))
theorem d3_4 : decode (mB 3) 4 = .ok (.bipush (-4), 2) := by decide +kernel
theorem s3_4 {l0 l1 : Option Value} {st : List Value} {m : kMem} {Q : Option Value → kMem → Prop} : kJ 3 4 [l0, l1] st m Q = kJ 3 6 [l0, l1] (.int (-4) :: st) m Q := kJ_next d3_4 rfl
theorem d3_6 : decode (mB 3) 6 = .ok (.if_icmp .eq 7, 3) := by decide +kernel
theorem s3_6 {l0 l1 : Option Value} {st : List Value} {a b : Int32} {m : kMem} {Q : Option Value → kMem → Prop} : kJ 3 6 [l0, l1] (.int b :: .int a :: st) m Q = (if a = b then kJ 3 13 [l0, l1] st m Q else kJ 3 9 [l0, l1] st m Q) := kJ_if d3_6 rfl (fun h => kJ_next d3_6 h) (fun h => kJ_next d3_6 h)
theorem d3_9 : decode (mB 3) 9 = .ok (.iload_n 1, 1) := by decide +kernel
theorem s3_9 {l0 : Option Value} {st : List Value} {x : Int32} {m : kMem} {Q : Option Value → kMem → Prop} : kJ 3 9 [l0, some (.int x)] st m Q = kJ 3 10 [l0, some (.int x)] (.int x :: st) m Q := kJ_next d3_9 rfl
theorem d3_10 : decode (mB 3) 10 = .ok (.ifCond .ne 10, 3) := by decide +kernel
theorem s3_10 {l0 l1 : Option Value} {st : List Value} {a : Int32} {m : kMem} {Q : Option Value → kMem → Prop} : kJ 3 10 [l0, l1] (.int a :: st) m Q = (if a = 0 then kJ 3 13 [l0, l1] st m Q else kJ 3 20 [l0, l1] st m Q) := kJ_if d3_10 rfl (fun h => kJ_next d3_10 h) (fun h => kJ_next d3_10 h)
theorem d3_13 : decode (mB 3) 13 = .ok (.aload_n 0, 1) := by decide +kernel
theorem s3_13 {l1 : Option Value} {st : List Value} {x : Nat} {m : kMem} {Q : Option Value → kMem → Prop} : kJ 3 13 [some (.ref x), l1] st m Q = kJ 3 14 [some (.ref x), l1] (.ref x :: st) m Q := kJ_next d3_13 rfl
theorem d3_14 : decode (mB 3) 14 = .ok (.getfield 9, 3) := by decide +kernel
theorem s3_14 {l0 l1 : Option Value} {st : List Value} {q : Nat} {mi : Nat → Nat → Int32} {ml : Nat → Nat → Int64} {mr : Nat → Nat → Option Nat} {nx : Nat} {Q : Option Value → kMem → Prop} (h : kIs nx q 0 = true) : kJ 3 14 [l0, l1] (.ref q :: st) (mi, ml, mr, nx) Q = kJ 3 17 [l0, l1] (.int (mi q 0) :: st) (mi, ml, mr, nx) Q := kJ_next d3_14 (kg_geti 0 0 rfl h (by decide))
theorem d3_17 : decode (mB 3) 17 = .ok (.goto 7, 3) := by decide +kernel
theorem s3_17 {l0 l1 : Option Value} {st : List Value} {m : kMem} {Q : Option Value → kMem → Prop} : kJ 3 17 [l0, l1] st m Q = kJ 3 24 [l0, l1] st m Q := kJ_next d3_17 rfl
theorem d3_20 : decode (mB 3) 20 = .ok (.aload_n 0, 1) := by decide +kernel
theorem s3_20 {l1 : Option Value} {st : List Value} {x : Nat} {m : kMem} {Q : Option Value → kMem → Prop} : kJ 3 20 [some (.ref x), l1] st m Q = kJ 3 21 [some (.ref x), l1] (.ref x :: st) m Q := kJ_next d3_20 rfl
theorem d3_21 : decode (mB 3) 21 = .ok (.getfield 15, 3) := by decide +kernel
theorem s3_21 {l0 l1 : Option Value} {st : List Value} {q : Nat} {mi : Nat → Nat → Int32} {ml : Nat → Nat → Int64} {mr : Nat → Nat → Option Nat} {nx : Nat} {Q : Option Value → kMem → Prop} (h : kIs nx q 0 = true) : kJ 3 21 [l0, l1] (.ref q :: st) (mi, ml, mr, nx) Q = kJ 3 24 [l0, l1] (.int (mi q 1) :: st) (mi, ml, mr, nx) Q := kJ_next d3_21 (kg_geti 0 1 rfl h (by decide))
theorem d3_24 : decode (mB 3) 24 = .ok (.ireturn, 1) := by decide +kernel
theorem s3_24 {l0 l1 : Option Value} {x : Int32} {m : kMem} {Q : Option Value → kMem → Prop} : kJ 3 24 [l0, l1] [.int x] m Q = Q (some (.int x)) m := kJ_ret d3_24 rfl
theorem d29_0 : decode (mB 29) 0 = .ok (.aload_n 0, 1) := by decide +kernel
theorem s29_0 {st : List Value} {x : Nat} {m : kMem} {Q : Option Value → kMem → Prop} : kJ 29 0 [some (.ref x)] st m Q = kJ 29 1 [some (.ref x)] (.ref x :: st) m Q := kJ_next d29_0 rfl
theorem d29_1 : decode (mB 29) 1 = .ok (.invokespecial 3, 3) := by decide +kernel
theorem s29_1 {l0 : Option Value}  {q : Nat} {m : kMem} {Q : Option Value → kMem → Prop} : kJ 29 1 [l0] [.ref q] m Q = kJ 29 4 [l0] [] m Q := kJ_next d29_1 (kg_obj rfl rfl (Nat.le_of_ble_eq_true rfl))
theorem d29_4 : decode (mB 29) 4 = .ok (.aload_n 0, 1) := by decide +kernel
theorem s29_4 {st : List Value} {x : Nat} {m : kMem} {Q : Option Value → kMem → Prop} : kJ 29 4 [some (.ref x)] st m Q = kJ 29 5 [some (.ref x)] (.ref x :: st) m Q := kJ_next d29_4 rfl
theorem d29_5 : decode (mB 29) 5 = .ok (.iconst (-1), 1) := by decide +kernel
theorem s29_5 {l0 : Option Value} {st : List Value} {m : kMem} {Q : Option Value → kMem → Prop} : kJ 29 5 [l0] st m Q = kJ 29 6 [l0] (.int (-1) :: st) m Q := kJ_next d29_5 rfl
theorem d29_6 : decode (mB 29) 6 = .ok (.putfield 11, 3) := by decide +kernel
theorem s29_6 {l0 : Option Value} {st : List Value} {q : Nat} {x : Int32} {mi : Nat → Nat → Int32} {ml : Nat → Nat → Int64} {mr : Nat → Nat → Option Nat} {nx : Nat} {Q : Option Value → kMem → Prop} (h : kIs nx q 2 = true) : kJ 29 6 [l0] (.int x :: .ref q :: st) (mi, ml, mr, nx) Q = kJ 29 9 [l0] st (kup mi q 0 x, ml, mr, nx) Q := kJ_next d29_6 (kg_puti 2 0 rfl h (by decide) (Or.inl (by decide)))
theorem d29_9 : decode (mB 29) 9 = .ok (.aload_n 0, 1) := by decide +kernel
theorem s29_9 {st : List Value} {x : Nat} {m : kMem} {Q : Option Value → kMem → Prop} : kJ 29 9 [some (.ref x)] st m Q = kJ 29 10 [some (.ref x)] (.ref x :: st) m Q := kJ_next d29_9 rfl
theorem d29_10 : decode (mB 29) 10 = .ok (.bipush 40, 2) := by decide +kernel
theorem s29_10 {l0 : Option Value} {st : List Value} {m : kMem} {Q : Option Value → kMem → Prop} : kJ 29 10 [l0] st m Q = kJ 29 12 [l0] (.int (nI 40) :: st) m Q := kJ_next d29_10 rfl
theorem d29_12 : decode (mB 29) 12 = .ok (.newarray .int, 2) := by decide +kernel
theorem s29_12 {l0 : Option Value} {st : List Value} {n : Int32} {mi : Nat → Nat → Int32} {ml : Nat → Nat → Int64} {mr : Nat → Nat → Option Nat} {nx : Nat} {Q : Option Value → kMem → Prop} (h : nx < 95) (h2 : kAt nx = (10, n.toNatClampNeg)) (h3 : ¬ n < 0) (h4 : n.toNatClampNeg ≤ 2000) : kJ 29 12 [l0] (.int n :: st) (mi, ml, mr, nx) Q = kJ 29 14 [l0] (.ref nx :: st) (kRow mi nx (fun _ => 0), kRow ml nx (fun _ => 0), kRow mr nx (fun _ => none), nx + 1) Q := kJ_next d29_12 (kg_newa h h2 h3 h4)
theorem d29_14 : decode (mB 29) 14 = .ok (.putfield 15, 3) := by decide +kernel
theorem s29_14 {l0 : Option Value} {st : List Value} {q : Nat} {x : Nat} {mi : Nat → Nat → Int32} {ml : Nat → Nat → Int64} {mr : Nat → Nat → Option Nat} {nx : Nat} {Q : Option Value → kMem → Prop} (h : kIs nx q 2 = true) (hx : x < 1000) : kJ 29 14 [l0] (.ref x :: .ref q :: st) (mi, ml, mr, nx) Q = kJ 29 17 [l0] st (mi, ml, kupR mr q 1 (some x), nx) Q := kJ_next d29_14 (kg_putr 2 1 rfl h (by decide) (by decide) rfl rfl hx)
theorem d29_17 : decode (mB 29) 17 = .ok (.return_, 1) := by decide +kernel
theorem s29_17 {l0 : Option Value} {m : kMem} {Q : Option Value → kMem → Prop} : kJ 29 17 [l0] [] m Q = Q none m := kJ_ret d29_17 rfl
theorem d30_0 : decode (mB 30) 0 = .ok (.aload_n 0, 1) := by decide +kernel
theorem s30_0 {st : List Value} {x : Nat} {m : kMem} {Q : Option Value → kMem → Prop} : kJ 30 0 [some (.ref x)] st m Q = kJ 30 1 [some (.ref x)] (.ref x :: st) m Q := kJ_next d30_0 rfl
theorem d30_1 : decode (mB 30) 1 = .ok (.getfield 11, 3) := by decide +kernel
theorem s30_1 {l0 : Option Value} {st : List Value} {q : Nat} {mi : Nat → Nat → Int32} {ml : Nat → Nat → Int64} {mr : Nat → Nat → Option Nat} {nx : Nat} {Q : Option Value → kMem → Prop} (h : kIs nx q 2 = true) : kJ 30 1 [l0] (.ref q :: st) (mi, ml, mr, nx) Q = kJ 30 4 [l0] (.int (mi q 0) :: st) (mi, ml, mr, nx) Q := kJ_next d30_1 (kg_geti 2 0 rfl h (by decide))
theorem d30_4 : decode (mB 30) 4 = .ok (.iconst (-1), 1) := by decide +kernel
theorem s30_4 {l0 : Option Value} {st : List Value} {m : kMem} {Q : Option Value → kMem → Prop} : kJ 30 4 [l0] st m Q = kJ 30 5 [l0] (.int (-1) :: st) m Q := kJ_next d30_4 rfl
theorem d30_5 : decode (mB 30) 5 = .ok (.if_icmp .ne 7, 3) := by decide +kernel
theorem s30_5 {l0 : Option Value} {st : List Value} {a b : Int32} {m : kMem} {Q : Option Value → kMem → Prop} : kJ 30 5 [l0] (.int b :: .int a :: st) m Q = (if a = b then kJ 30 8 [l0] st m Q else kJ 30 12 [l0] st m Q) := kJ_if d30_5 rfl (fun h => kJ_next d30_5 h) (fun h => kJ_next d30_5 h)
theorem d30_8 : decode (mB 30) 8 = .ok (.iconst 1, 1) := by decide +kernel
theorem s30_8 {l0 : Option Value} {st : List Value} {m : kMem} {Q : Option Value → kMem → Prop} : kJ 30 8 [l0] st m Q = kJ 30 9 [l0] (.int (nI 1) :: st) m Q := kJ_next d30_8 rfl
theorem d30_9 : decode (mB 30) 9 = .ok (.goto 4, 3) := by decide +kernel
theorem s30_9 {l0 : Option Value} {st : List Value} {m : kMem} {Q : Option Value → kMem → Prop} : kJ 30 9 [l0] st m Q = kJ 30 13 [l0] st m Q := kJ_next d30_9 rfl
theorem d30_12 : decode (mB 30) 12 = .ok (.iconst 0, 1) := by decide +kernel
theorem s30_12 {l0 : Option Value} {st : List Value} {m : kMem} {Q : Option Value → kMem → Prop} : kJ 30 12 [l0] st m Q = kJ 30 13 [l0] (.int (nI 0) :: st) m Q := kJ_next d30_12 rfl
theorem d30_13 : decode (mB 30) 13 = .ok (.ireturn, 1) := by decide +kernel
theorem s30_13 {l0 : Option Value} {x : Int32} {m : kMem} {Q : Option Value → kMem → Prop} (hx : x = 0 ∨ x = 1) : kJ 30 13 [l0] [.int x] m Q = Q (some (.int x)) m := kJ_ret d30_13 (kg_retz (by decide) hx)
theorem d31_0 : decode (mB 31) 0 = .ok (.aload_n 0, 1) := by decide +kernel
theorem s31_0 {l1 l2 l3 : Option Value} {st : List Value} {x : Nat} {m : kMem} {Q : Option Value → kMem → Prop} : kJ 31 0 [some (.ref x), l1, l2, l3] st m Q = kJ 31 1 [some (.ref x), l1, l2, l3] (.ref x :: st) m Q := kJ_next d31_0 rfl
theorem d31_1 : decode (mB 31) 1 = .ok (.iload_n 1, 1) := by decide +kernel
theorem s31_1 {l0 l2 l3 : Option Value} {st : List Value} {x : Int32} {m : kMem} {Q : Option Value → kMem → Prop} : kJ 31 1 [l0, some (.int x), l2, l3] st m Q = kJ 31 2 [l0, some (.int x), l2, l3] (.int x :: st) m Q := kJ_next d31_1 rfl
theorem d31_2 : decode (mB 31) 2 = .ok (.putfield 19, 3) := by decide +kernel
theorem s31_2 {l0 l1 l2 l3 : Option Value} {st : List Value} {q : Nat} {x : Int32} {mi : Nat → Nat → Int32} {ml : Nat → Nat → Int64} {mr : Nat → Nat → Option Nat} {nx : Nat} {Q : Option Value → kMem → Prop} (h : kIs nx q 2 = true) : kJ 31 2 [l0, l1, l2, l3] (.int x :: .ref q :: st) (mi, ml, mr, nx) Q = kJ 31 5 [l0, l1, l2, l3] st (kup mi q 2 x, ml, mr, nx) Q := kJ_next d31_2 (kg_puti 2 2 rfl h (by decide) (Or.inl (by decide)))
theorem d31_5 : decode (mB 31) 5 = .ok (.aload_n 0, 1) := by decide +kernel
theorem s31_5 {l1 l2 l3 : Option Value} {st : List Value} {x : Nat} {m : kMem} {Q : Option Value → kMem → Prop} : kJ 31 5 [some (.ref x), l1, l2, l3] st m Q = kJ 31 6 [some (.ref x), l1, l2, l3] (.ref x :: st) m Q := kJ_next d31_5 rfl
theorem d31_6 : decode (mB 31) 6 = .ok (.iload_n 2, 1) := by decide +kernel
theorem s31_6 {l0 l1 l3 : Option Value} {st : List Value} {x : Int32} {m : kMem} {Q : Option Value → kMem → Prop} : kJ 31 6 [l0, l1, some (.int x), l3] st m Q = kJ 31 7 [l0, l1, some (.int x), l3] (.int x :: st) m Q := kJ_next d31_6 rfl
theorem d31_7 : decode (mB 31) 7 = .ok (.putfield 11, 3) := by decide +kernel
theorem s31_7 {l0 l1 l2 l3 : Option Value} {st : List Value} {q : Nat} {x : Int32} {mi : Nat → Nat → Int32} {ml : Nat → Nat → Int64} {mr : Nat → Nat → Option Nat} {nx : Nat} {Q : Option Value → kMem → Prop} (h : kIs nx q 2 = true) : kJ 31 7 [l0, l1, l2, l3] (.int x :: .ref q :: st) (mi, ml, mr, nx) Q = kJ 31 10 [l0, l1, l2, l3] st (kup mi q 0 x, ml, mr, nx) Q := kJ_next d31_7 (kg_puti 2 0 rfl h (by decide) (Or.inl (by decide)))
theorem d31_10 : decode (mB 31) 10 = .ok (.iconst 0, 1) := by decide +kernel
theorem s31_10 {l0 l1 l2 l3 : Option Value} {st : List Value} {m : kMem} {Q : Option Value → kMem → Prop} : kJ 31 10 [l0, l1, l2, l3] st m Q = kJ 31 11 [l0, l1, l2, l3] (.int (nI 0) :: st) m Q := kJ_next d31_10 rfl
theorem d31_11 : decode (mB 31) 11 = .ok (.istore_n 3, 1) := by decide +kernel
theorem s31_11 {l0 l1 l2 l3 : Option Value} {st : List Value} {x : Int32} {m : kMem} {Q : Option Value → kMem → Prop} (hp : kNL l2 = true) : kJ 31 11 [l0, l1, l2, l3] (.int x :: st) m Q = kJ 31 12 [l0, l1, l2, some (.int x)] st m Q := kJ_next d31_11 (kg_sti (Nat.le_of_ble_eq_true rfl) hp)
theorem d31_12 : decode (mB 31) 12 = .ok (.iload_n 3, 1) := by decide +kernel
theorem s31_12 {l0 l1 l2 : Option Value} {st : List Value} {x : Int32} {m : kMem} {Q : Option Value → kMem → Prop} : kJ 31 12 [l0, l1, l2, some (.int x)] st m Q = kJ 31 13 [l0, l1, l2, some (.int x)] (.int x :: st) m Q := kJ_next d31_12 rfl
theorem d31_13 : decode (mB 31) 13 = .ok (.iload_n 2, 1) := by decide +kernel
theorem s31_13 {l0 l1 l3 : Option Value} {st : List Value} {x : Int32} {m : kMem} {Q : Option Value → kMem → Prop} : kJ 31 13 [l0, l1, some (.int x), l3] st m Q = kJ 31 14 [l0, l1, some (.int x), l3] (.int x :: st) m Q := kJ_next d31_13 rfl
theorem d31_14 : decode (mB 31) 14 = .ok (.if_icmp .ge 16, 3) := by decide +kernel
theorem s31_14 {l0 l1 l2 l3 : Option Value} {st : List Value} {a b : Int32} {m : kMem} {Q : Option Value → kMem → Prop} : kJ 31 14 [l0, l1, l2, l3] (.int b :: .int a :: st) m Q = (if b ≤ a then kJ 31 30 [l0, l1, l2, l3] st m Q else kJ 31 17 [l0, l1, l2, l3] st m Q) := kJ_if d31_14 rfl (fun h => kJ_next d31_14 h) (fun h => kJ_next d31_14 h)
theorem d31_17 : decode (mB 31) 17 = .ok (.aload_n 0, 1) := by decide +kernel
theorem s31_17 {l1 l2 l3 : Option Value} {st : List Value} {x : Nat} {m : kMem} {Q : Option Value → kMem → Prop} : kJ 31 17 [some (.ref x), l1, l2, l3] st m Q = kJ 31 18 [some (.ref x), l1, l2, l3] (.ref x :: st) m Q := kJ_next d31_17 rfl
theorem d31_18 : decode (mB 31) 18 = .ok (.getfield 15, 3) := by decide +kernel
theorem s31_18 {l0 l1 l2 l3 : Option Value} {st : List Value} {q : Nat} {mi : Nat → Nat → Int32} {ml : Nat → Nat → Int64} {mr : Nat → Nat → Option Nat} {nx : Nat} {Q : Option Value → kMem → Prop} (h : kIs nx q 2 = true) : kJ 31 18 [l0, l1, l2, l3] (.ref q :: st) (mi, ml, mr, nx) Q = kJ 31 21 [l0, l1, l2, l3] (va_rf (mr q 1) :: st) (mi, ml, mr, nx) Q := kJ_next d31_18 (kg_getr 2 1 rfl h (by decide))
theorem d31_21 : decode (mB 31) 21 = .ok (.iload_n 3, 1) := by decide +kernel
theorem s31_21 {l0 l1 l2 : Option Value} {st : List Value} {x : Int32} {m : kMem} {Q : Option Value → kMem → Prop} : kJ 31 21 [l0, l1, l2, some (.int x)] st m Q = kJ 31 22 [l0, l1, l2, some (.int x)] (.int x :: st) m Q := kJ_next d31_21 rfl
theorem d31_22 : decode (mB 31) 22 = .ok (.iconst 0, 1) := by decide +kernel
theorem s31_22 {l0 l1 l2 l3 : Option Value} {st : List Value} {m : kMem} {Q : Option Value → kMem → Prop} : kJ 31 22 [l0, l1, l2, l3] st m Q = kJ 31 23 [l0, l1, l2, l3] (.int (nI 0) :: st) m Q := kJ_next d31_22 rfl
theorem d31_23 : decode (mB 31) 23 = .ok (.iastore, 1) := by decide +kernel
theorem s31_23 {l0 l1 l2 l3 : Option Value} {st : List Value} {q : Nat} {i x : Int32} {mi : Nat → Nat → Int32} {ml : Nat → Nat → Int64} {mr : Nat → Nat → Option Nat} {nx : Nat} {Q : Option Value → kMem → Prop} (h : kIs nx q 10 = true) : kJ 31 23 [l0, l1, l2, l3] (.int x :: .int i :: .ref q :: st) (mi, ml, mr, nx) Q = (vp_in i (kAl q) ∧ kJ 31 24 [l0, l1, l2, l3] st (kup mi q i.toNatClampNeg x, ml, mr, nx) Q) := kg_astJ d31_23 rfl (kAr_of h)
theorem d31_24 : decode (mB 31) 24 = .ok (.iinc 3 1, 3) := by decide +kernel
theorem s31_24 {l0 l1 l2 : Option Value} {st : List Value} {x : Int32} {m : kMem} {Q : Option Value → kMem → Prop} (hp : kNL l2 = true) : kJ 31 24 [l0, l1, l2, some (.int x)] st m Q = kJ 31 27 [l0, l1, l2, some (.int (x + (nI 1)))] st m Q := kJ_next d31_24 (kg_inc rfl (Nat.le_of_ble_eq_true rfl) hp)
theorem d31_27 : decode (mB 31) 27 = .ok (.goto (-15), 3) := by decide +kernel
theorem s31_27 {l0 l1 l2 l3 : Option Value} {st : List Value} {m : kMem} {Q : Option Value → kMem → Prop} : kJ 31 27 [l0, l1, l2, l3] st m Q = kJ 31 12 [l0, l1, l2, l3] st m Q := kJ_next d31_27 rfl
theorem d31_30 : decode (mB 31) 30 = .ok (.return_, 1) := by decide +kernel
theorem s31_30 {l0 l1 l2 l3 : Option Value} {m : kMem} {Q : Option Value → kMem → Prop} : kJ 31 30 [l0, l1, l2, l3] [] m Q = Q none m := kJ_ret d31_30 rfl
theorem d32_0 : decode (mB 32) 0 = .ok (.aload_n 0, 1) := by decide +kernel
theorem s32_0 {l1 l2 : Option Value} {st : List Value} {x : Nat} {m : kMem} {Q : Option Value → kMem → Prop} : kJ 32 0 [some (.ref x), l1, l2] st m Q = kJ 32 1 [some (.ref x), l1, l2] (.ref x :: st) m Q := kJ_next d32_0 rfl
theorem d32_1 : decode (mB 32) 1 = .ok (.getfield 15, 3) := by decide +kernel
theorem s32_1 {l0 l1 l2 : Option Value} {st : List Value} {q : Nat} {mi : Nat → Nat → Int32} {ml : Nat → Nat → Int64} {mr : Nat → Nat → Option Nat} {nx : Nat} {Q : Option Value → kMem → Prop} (h : kIs nx q 2 = true) : kJ 32 1 [l0, l1, l2] (.ref q :: st) (mi, ml, mr, nx) Q = kJ 32 4 [l0, l1, l2] (va_rf (mr q 1) :: st) (mi, ml, mr, nx) Q := kJ_next d32_1 (kg_getr 2 1 rfl h (by decide))
theorem d32_4 : decode (mB 32) 4 = .ok (.iload_n 1, 1) := by decide +kernel
theorem s32_4 {l0 l2 : Option Value} {st : List Value} {x : Int32} {m : kMem} {Q : Option Value → kMem → Prop} : kJ 32 4 [l0, some (.int x), l2] st m Q = kJ 32 5 [l0, some (.int x), l2] (.int x :: st) m Q := kJ_next d32_4 rfl
theorem d32_5 : decode (mB 32) 5 = .ok (.aload_n 0, 1) := by decide +kernel
theorem s32_5 {l1 l2 : Option Value} {st : List Value} {x : Nat} {m : kMem} {Q : Option Value → kMem → Prop} : kJ 32 5 [some (.ref x), l1, l2] st m Q = kJ 32 6 [some (.ref x), l1, l2] (.ref x :: st) m Q := kJ_next d32_5 rfl
theorem d32_6 : decode (mB 32) 6 = .ok (.getfield 19, 3) := by decide +kernel
theorem s32_6 {l0 l1 l2 : Option Value} {st : List Value} {q : Nat} {mi : Nat → Nat → Int32} {ml : Nat → Nat → Int64} {mr : Nat → Nat → Option Nat} {nx : Nat} {Q : Option Value → kMem → Prop} (h : kIs nx q 2 = true) : kJ 32 6 [l0, l1, l2] (.ref q :: st) (mi, ml, mr, nx) Q = kJ 32 9 [l0, l1, l2] (.int (mi q 2) :: st) (mi, ml, mr, nx) Q := kJ_next d32_6 (kg_geti 2 2 rfl h (by decide))
theorem d32_9 : decode (mB 32) 9 = .ok (.ifCond .ne 8, 3) := by decide +kernel
theorem s32_9 {l0 l1 l2 : Option Value} {st : List Value} {a : Int32} {m : kMem} {Q : Option Value → kMem → Prop} : kJ 32 9 [l0, l1, l2] (.int a :: st) m Q = (if a = 0 then kJ 32 12 [l0, l1, l2] st m Q else kJ 32 17 [l0, l1, l2] st m Q) := kJ_if d32_9 rfl (fun h => kJ_next d32_9 h) (fun h => kJ_next d32_9 h)
theorem d32_12 : decode (mB 32) 12 = .ok (.iload_n 2, 1) := by decide +kernel
theorem s32_12 {l0 l1 : Option Value} {st : List Value} {x : Int32} {m : kMem} {Q : Option Value → kMem → Prop} : kJ 32 12 [l0, l1, some (.int x)] st m Q = kJ 32 13 [l0, l1, some (.int x)] (.int x :: st) m Q := kJ_next d32_12 rfl
theorem d32_13 : decode (mB 32) 13 = .ok (.i2b, 1) := by decide +kernel
theorem s32_13 {l0 l1 l2 : Option Value} {st : List Value} {a : Int32} {m : kMem} {Q : Option Value → kMem → Prop} : kJ 32 13 [l0, l1, l2] (.int a :: st) m Q = kJ 32 14 [l0, l1, l2] (.int a.toInt8.toInt32 :: st) m Q := kJ_next d32_13 rfl
theorem d32_14 : decode (mB 32) 14 = .ok (.goto 17, 3) := by decide +kernel
theorem s32_14 {l0 l1 l2 : Option Value} {st : List Value} {m : kMem} {Q : Option Value → kMem → Prop} : kJ 32 14 [l0, l1, l2] st m Q = kJ 32 31 [l0, l1, l2] st m Q := kJ_next d32_14 rfl
theorem d32_17 : decode (mB 32) 17 = .ok (.aload_n 0, 1) := by decide +kernel
theorem s32_17 {l1 l2 : Option Value} {st : List Value} {x : Nat} {m : kMem} {Q : Option Value → kMem → Prop} : kJ 32 17 [some (.ref x), l1, l2] st m Q = kJ 32 18 [some (.ref x), l1, l2] (.ref x :: st) m Q := kJ_next d32_17 rfl
theorem d32_18 : decode (mB 32) 18 = .ok (.getfield 19, 3) := by decide +kernel
theorem s32_18 {l0 l1 l2 : Option Value} {st : List Value} {q : Nat} {mi : Nat → Nat → Int32} {ml : Nat → Nat → Int64} {mr : Nat → Nat → Option Nat} {nx : Nat} {Q : Option Value → kMem → Prop} (h : kIs nx q 2 = true) : kJ 32 18 [l0, l1, l2] (.ref q :: st) (mi, ml, mr, nx) Q = kJ 32 21 [l0, l1, l2] (.int (mi q 2) :: st) (mi, ml, mr, nx) Q := kJ_next d32_18 (kg_geti 2 2 rfl h (by decide))
theorem d32_21 : decode (mB 32) 21 = .ok (.iconst 1, 1) := by decide +kernel
theorem s32_21 {l0 l1 l2 : Option Value} {st : List Value} {m : kMem} {Q : Option Value → kMem → Prop} : kJ 32 21 [l0, l1, l2] st m Q = kJ 32 22 [l0, l1, l2] (.int (nI 1) :: st) m Q := kJ_next d32_21 rfl
theorem d32_22 : decode (mB 32) 22 = .ok (.if_icmp .ne 8, 3) := by decide +kernel
theorem s32_22 {l0 l1 l2 : Option Value} {st : List Value} {a b : Int32} {m : kMem} {Q : Option Value → kMem → Prop} : kJ 32 22 [l0, l1, l2] (.int b :: .int a :: st) m Q = (if a = b then kJ 32 25 [l0, l1, l2] st m Q else kJ 32 30 [l0, l1, l2] st m Q) := kJ_if d32_22 rfl (fun h => kJ_next d32_22 h) (fun h => kJ_next d32_22 h)
theorem d32_25 : decode (mB 32) 25 = .ok (.iload_n 2, 1) := by decide +kernel
theorem s32_25 {l0 l1 : Option Value} {st : List Value} {x : Int32} {m : kMem} {Q : Option Value → kMem → Prop} : kJ 32 25 [l0, l1, some (.int x)] st m Q = kJ 32 26 [l0, l1, some (.int x)] (.int x :: st) m Q := kJ_next d32_25 rfl
theorem d32_26 : decode (mB 32) 26 = .ok (.i2s, 1) := by decide +kernel
theorem s32_26 {l0 l1 l2 : Option Value} {st : List Value} {a : Int32} {m : kMem} {Q : Option Value → kMem → Prop} : kJ 32 26 [l0, l1, l2] (.int a :: st) m Q = kJ 32 27 [l0, l1, l2] (.int a.toInt16.toInt32 :: st) m Q := kJ_next d32_26 rfl
theorem d32_27 : decode (mB 32) 27 = .ok (.goto 4, 3) := by decide +kernel
theorem s32_27 {l0 l1 l2 : Option Value} {st : List Value} {m : kMem} {Q : Option Value → kMem → Prop} : kJ 32 27 [l0, l1, l2] st m Q = kJ 32 31 [l0, l1, l2] st m Q := kJ_next d32_27 rfl
theorem d32_30 : decode (mB 32) 30 = .ok (.iload_n 2, 1) := by decide +kernel
theorem s32_30 {l0 l1 : Option Value} {st : List Value} {x : Int32} {m : kMem} {Q : Option Value → kMem → Prop} : kJ 32 30 [l0, l1, some (.int x)] st m Q = kJ 32 31 [l0, l1, some (.int x)] (.int x :: st) m Q := kJ_next d32_30 rfl
theorem d32_31 : decode (mB 32) 31 = .ok (.iastore, 1) := by decide +kernel
theorem s32_31 {l0 l1 l2 : Option Value} {st : List Value} {q : Nat} {i x : Int32} {mi : Nat → Nat → Int32} {ml : Nat → Nat → Int64} {mr : Nat → Nat → Option Nat} {nx : Nat} {Q : Option Value → kMem → Prop} (h : kIs nx q 10 = true) : kJ 32 31 [l0, l1, l2] (.int x :: .int i :: .ref q :: st) (mi, ml, mr, nx) Q = (vp_in i (kAl q) ∧ kJ 32 32 [l0, l1, l2] st (kup mi q i.toNatClampNeg x, ml, mr, nx) Q) := kg_astJ d32_31 rfl (kAr_of h)
theorem d32_32 : decode (mB 32) 32 = .ok (.return_, 1) := by decide +kernel
theorem s32_32 {l0 l1 l2 : Option Value} {m : kMem} {Q : Option Value → kMem → Prop} : kJ 32 32 [l0, l1, l2] [] m Q = Q none m := kJ_ret d32_32 rfl
theorem d33_0 : decode (mB 33) 0 = .ok (.aload_n 0, 1) := by decide +kernel
theorem s33_0 {l1 l2 : Option Value} {st : List Value} {x : Nat} {m : kMem} {Q : Option Value → kMem → Prop} : kJ 33 0 [some (.ref x), l1, l2] st m Q = kJ 33 1 [some (.ref x), l1, l2] (.ref x :: st) m Q := kJ_next d33_0 rfl
theorem d33_1 : decode (mB 33) 1 = .ok (.invokevirtual 22, 3) := by decide +kernel
theorem s33_1 {l0 l1 l2 : Option Value} {v0 : Nat} {m : kMem} {Q : Option Value → kMem → Prop} (h : kIs m.2.2.2 v0 2 = true) : kJ 33 1 [l0, l1, l2] [.ref v0] m Q = kJ 30 0 [some (.ref v0)] [] m (fun v m2 => kJ 33 4 [l0, l1, l2] (v.toList ++ []) m2 Q) := kJ_call d33_1 (kg_callv 30 0 rfl rfl rfl rfl (Nat.le_of_ble_eq_true rfl) (Nat.le_of_ble_eq_true rfl) (Nat.le_of_ble_eq_true rfl) h rfl)
theorem d33_4 : decode (mB 33) 4 = .ok (.ifCond .ne 13, 3) := by decide +kernel
theorem s33_4 {l0 l1 l2 : Option Value} {st : List Value} {a : Int32} {m : kMem} {Q : Option Value → kMem → Prop} : kJ 33 4 [l0, l1, l2] (.int a :: st) m Q = (if a = 0 then kJ 33 7 [l0, l1, l2] st m Q else kJ 33 17 [l0, l1, l2] st m Q) := kJ_if d33_4 rfl (fun h => kJ_next d33_4 h) (fun h => kJ_next d33_4 h)
theorem d33_7 : decode (mB 33) 7 = .ok (.aload_n 0, 1) := by decide +kernel
theorem s33_7 {l1 l2 : Option Value} {st : List Value} {x : Nat} {m : kMem} {Q : Option Value → kMem → Prop} : kJ 33 7 [some (.ref x), l1, l2] st m Q = kJ 33 8 [some (.ref x), l1, l2] (.ref x :: st) m Q := kJ_next d33_7 rfl
theorem d33_8 : decode (mB 33) 8 = .ok (.getfield 19, 3) := by decide +kernel
theorem s33_8 {l0 l1 l2 : Option Value} {st : List Value} {q : Nat} {mi : Nat → Nat → Int32} {ml : Nat → Nat → Int64} {mr : Nat → Nat → Option Nat} {nx : Nat} {Q : Option Value → kMem → Prop} (h : kIs nx q 2 = true) : kJ 33 8 [l0, l1, l2] (.ref q :: st) (mi, ml, mr, nx) Q = kJ 33 11 [l0, l1, l2] (.int (mi q 2) :: st) (mi, ml, mr, nx) Q := kJ_next d33_8 (kg_geti 2 2 rfl h (by decide))
theorem d33_11 : decode (mB 33) 11 = .ok (.iload_n 1, 1) := by decide +kernel
theorem s33_11 {l0 l2 : Option Value} {st : List Value} {x : Int32} {m : kMem} {Q : Option Value → kMem → Prop} : kJ 33 11 [l0, some (.int x), l2] st m Q = kJ 33 12 [l0, some (.int x), l2] (.int x :: st) m Q := kJ_next d33_11 rfl
theorem d33_12 : decode (mB 33) 12 = .ok (.if_icmp .eq 5, 3) := by decide +kernel
theorem s33_12 {l0 l1 l2 : Option Value} {st : List Value} {a b : Int32} {m : kMem} {Q : Option Value → kMem → Prop} : kJ 33 12 [l0, l1, l2] (.int b :: .int a :: st) m Q = (if a = b then kJ 33 17 [l0, l1, l2] st m Q else kJ 33 15 [l0, l1, l2] st m Q) := kJ_if d33_12 rfl (fun h => kJ_next d33_12 h) (fun h => kJ_next d33_12 h)
theorem d33_15 : decode (mB 33) 15 = .ok (.iconst 3, 1) := by decide +kernel
theorem s33_15 {l0 l1 l2 : Option Value} {st : List Value} {m : kMem} {Q : Option Value → kMem → Prop} : kJ 33 15 [l0, l1, l2] st m Q = kJ 33 16 [l0, l1, l2] (.int (nI 3) :: st) m Q := kJ_next d33_15 rfl
theorem d33_16 : decode (mB 33) 16 = .ok (.ireturn, 1) := by decide +kernel
theorem s33_16 {l0 l1 l2 : Option Value} {x : Int32} {m : kMem} {Q : Option Value → kMem → Prop} : kJ 33 16 [l0, l1, l2] [.int x] m Q = Q (some (.int x)) m := kJ_ret d33_16 rfl
theorem d33_17 : decode (mB 33) 17 = .ok (.aload_n 0, 1) := by decide +kernel
theorem s33_17 {l1 l2 : Option Value} {st : List Value} {x : Nat} {m : kMem} {Q : Option Value → kMem → Prop} : kJ 33 17 [some (.ref x), l1, l2] st m Q = kJ 33 18 [some (.ref x), l1, l2] (.ref x :: st) m Q := kJ_next d33_17 rfl
theorem d33_18 : decode (mB 33) 18 = .ok (.iload_n 2, 1) := by decide +kernel
theorem s33_18 {l0 l1 : Option Value} {st : List Value} {x : Int32} {m : kMem} {Q : Option Value → kMem → Prop} : kJ 33 18 [l0, l1, some (.int x)] st m Q = kJ 33 19 [l0, l1, some (.int x)] (.int x :: st) m Q := kJ_next d33_18 rfl
theorem d33_19 : decode (mB 33) 19 = .ok (.iconst 4, 1) := by decide +kernel
theorem s33_19 {l0 l1 l2 : Option Value} {st : List Value} {m : kMem} {Q : Option Value → kMem → Prop} : kJ 33 19 [l0, l1, l2] st m Q = kJ 33 20 [l0, l1, l2] (.int (nI 4) :: st) m Q := kJ_next d33_19 rfl
theorem d33_20 : decode (mB 33) 20 = .ok (.invokevirtual 26, 3) := by decide +kernel
theorem s33_20 {l0 l1 l2 : Option Value} {v0 : Int32} {v1 : Int32} {v2 : Nat} {m : kMem} {Q : Option Value → kMem → Prop} (h : kIs m.2.2.2 v2 2 = true) : kJ 33 20 [l0, l1, l2] [.int v0, .int v1, .ref v2] m Q = kJ 34 0 [some (.ref v2), some (.int v1), some (.int v0)] [] m (fun v m2 => kJ 33 23 [l0, l1, l2] (v.toList ++ []) m2 Q) := kJ_call d33_20 (kg_callv 34 2 rfl rfl rfl rfl (Nat.le_of_ble_eq_true rfl) (Nat.le_of_ble_eq_true rfl) (Nat.le_of_ble_eq_true rfl) h rfl)
theorem d33_23 : decode (mB 33) 23 = .ok (.ireturn, 1) := by decide +kernel
theorem s33_23 {l0 l1 l2 : Option Value} {x : Int32} {m : kMem} {Q : Option Value → kMem → Prop} : kJ 33 23 [l0, l1, l2] [.int x] m Q = Q (some (.int x)) m := kJ_ret d33_23 rfl
theorem d34_0 : decode (mB 34) 0 = .ok (.aload_n 0, 1) := by decide +kernel
theorem s34_0 {l1 l2 : Option Value} {st : List Value} {x : Nat} {m : kMem} {Q : Option Value → kMem → Prop} : kJ 34 0 [some (.ref x), l1, l2] st m Q = kJ 34 1 [some (.ref x), l1, l2] (.ref x :: st) m Q := kJ_next d34_0 rfl
theorem d34_1 : decode (mB 34) 1 = .ok (.invokevirtual 22, 3) := by decide +kernel
theorem s34_1 {l0 l1 l2 : Option Value} {v0 : Nat} {m : kMem} {Q : Option Value → kMem → Prop} (h : kIs m.2.2.2 v0 2 = true) : kJ 34 1 [l0, l1, l2] [.ref v0] m Q = kJ 30 0 [some (.ref v0)] [] m (fun v m2 => kJ 34 4 [l0, l1, l2] (v.toList ++ []) m2 Q) := kJ_call d34_1 (kg_callv 30 0 rfl rfl rfl rfl (Nat.le_of_ble_eq_true rfl) (Nat.le_of_ble_eq_true rfl) (Nat.le_of_ble_eq_true rfl) h rfl)
theorem d34_4 : decode (mB 34) 4 = .ok (.ifCond .eq 5, 3) := by decide +kernel
theorem s34_4 {l0 l1 l2 : Option Value} {st : List Value} {a : Int32} {m : kMem} {Q : Option Value → kMem → Prop} : kJ 34 4 [l0, l1, l2] (.int a :: st) m Q = (if a = 0 then kJ 34 9 [l0, l1, l2] st m Q else kJ 34 7 [l0, l1, l2] st m Q) := kJ_if d34_4 rfl (fun h => kJ_next d34_4 h) (fun h => kJ_next d34_4 h)
theorem d34_7 : decode (mB 34) 7 = .ok (.iconst 1, 1) := by decide +kernel
theorem s34_7 {l0 l1 l2 : Option Value} {st : List Value} {m : kMem} {Q : Option Value → kMem → Prop} : kJ 34 7 [l0, l1, l2] st m Q = kJ 34 8 [l0, l1, l2] (.int (nI 1) :: st) m Q := kJ_next d34_7 rfl
theorem d34_8 : decode (mB 34) 8 = .ok (.ireturn, 1) := by decide +kernel
theorem s34_8 {l0 l1 l2 : Option Value} {x : Int32} {m : kMem} {Q : Option Value → kMem → Prop} : kJ 34 8 [l0, l1, l2] [.int x] m Q = Q (some (.int x)) m := kJ_ret d34_8 rfl
theorem d34_9 : decode (mB 34) 9 = .ok (.iload_n 1, 1) := by decide +kernel
theorem s34_9 {l0 l2 : Option Value} {st : List Value} {x : Int32} {m : kMem} {Q : Option Value → kMem → Prop} : kJ 34 9 [l0, some (.int x), l2] st m Q = kJ 34 10 [l0, some (.int x), l2] (.int x :: st) m Q := kJ_next d34_9 rfl
theorem d34_10 : decode (mB 34) 10 = .ok (.ifCond .lt 13, 3) := by decide +kernel
theorem s34_10 {l0 l1 l2 : Option Value} {st : List Value} {a : Int32} {m : kMem} {Q : Option Value → kMem → Prop} : kJ 34 10 [l0, l1, l2] (.int a :: st) m Q = (if a < 0 then kJ 34 23 [l0, l1, l2] st m Q else kJ 34 13 [l0, l1, l2] st m Q) := kJ_if d34_10 rfl (fun h => kJ_next d34_10 h) (fun h => kJ_next d34_10 h)
theorem d34_13 : decode (mB 34) 13 = .ok (.iload_n 1, 1) := by decide +kernel
theorem s34_13 {l0 l2 : Option Value} {st : List Value} {x : Int32} {m : kMem} {Q : Option Value → kMem → Prop} : kJ 34 13 [l0, some (.int x), l2] st m Q = kJ 34 14 [l0, some (.int x), l2] (.int x :: st) m Q := kJ_next d34_13 rfl
theorem d34_14 : decode (mB 34) 14 = .ok (.aload_n 0, 1) := by decide +kernel
theorem s34_14 {l1 l2 : Option Value} {st : List Value} {x : Nat} {m : kMem} {Q : Option Value → kMem → Prop} : kJ 34 14 [some (.ref x), l1, l2] st m Q = kJ 34 15 [some (.ref x), l1, l2] (.ref x :: st) m Q := kJ_next d34_14 rfl
theorem d34_15 : decode (mB 34) 15 = .ok (.getfield 11, 3) := by decide +kernel
theorem s34_15 {l0 l1 l2 : Option Value} {st : List Value} {q : Nat} {mi : Nat → Nat → Int32} {ml : Nat → Nat → Int64} {mr : Nat → Nat → Option Nat} {nx : Nat} {Q : Option Value → kMem → Prop} (h : kIs nx q 2 = true) : kJ 34 15 [l0, l1, l2] (.ref q :: st) (mi, ml, mr, nx) Q = kJ 34 18 [l0, l1, l2] (.int (mi q 0) :: st) (mi, ml, mr, nx) Q := kJ_next d34_15 (kg_geti 2 0 rfl h (by decide))
theorem d34_18 : decode (mB 34) 18 = .ok (.iload_n 2, 1) := by decide +kernel
theorem s34_18 {l0 l1 : Option Value} {st : List Value} {x : Int32} {m : kMem} {Q : Option Value → kMem → Prop} : kJ 34 18 [l0, l1, some (.int x)] st m Q = kJ 34 19 [l0, l1, some (.int x)] (.int x :: st) m Q := kJ_next d34_18 rfl
theorem d34_19 : decode (mB 34) 19 = .ok (.isub, 1) := by decide +kernel
theorem s34_19 {l0 l1 l2 : Option Value} {st : List Value} {a b : Int32} {m : kMem} {Q : Option Value → kMem → Prop} : kJ 34 19 [l0, l1, l2] (.int b :: .int a :: st) m Q = kJ 34 20 [l0, l1, l2] (.int (a - b) :: st) m Q := kJ_next d34_19 rfl
theorem d34_20 : decode (mB 34) 20 = .ok (.if_icmp .le 7, 3) := by decide +kernel
theorem s34_20 {l0 l1 l2 : Option Value} {st : List Value} {a b : Int32} {m : kMem} {Q : Option Value → kMem → Prop} : kJ 34 20 [l0, l1, l2] (.int b :: .int a :: st) m Q = (if a ≤ b then kJ 34 27 [l0, l1, l2] st m Q else kJ 34 23 [l0, l1, l2] st m Q) := kJ_if d34_20 rfl (fun h => kJ_next d34_20 h) (fun h => kJ_next d34_20 h)
theorem d34_23 : decode (mB 34) 23 = .ok (.iconst 2, 1) := by decide +kernel
theorem s34_23 {l0 l1 l2 : Option Value} {st : List Value} {m : kMem} {Q : Option Value → kMem → Prop} : kJ 34 23 [l0, l1, l2] st m Q = kJ 34 24 [l0, l1, l2] (.int (nI 2) :: st) m Q := kJ_next d34_23 rfl
theorem d34_24 : decode (mB 34) 24 = .ok (.goto 4, 3) := by decide +kernel
theorem s34_24 {l0 l1 l2 : Option Value} {st : List Value} {m : kMem} {Q : Option Value → kMem → Prop} : kJ 34 24 [l0, l1, l2] st m Q = kJ 34 28 [l0, l1, l2] st m Q := kJ_next d34_24 rfl
theorem d34_27 : decode (mB 34) 27 = .ok (.iconst 0, 1) := by decide +kernel
theorem s34_27 {l0 l1 l2 : Option Value} {st : List Value} {m : kMem} {Q : Option Value → kMem → Prop} : kJ 34 27 [l0, l1, l2] st m Q = kJ 34 28 [l0, l1, l2] (.int (nI 0) :: st) m Q := kJ_next d34_27 rfl
theorem d34_28 : decode (mB 34) 28 = .ok (.ireturn, 1) := by decide +kernel
theorem s34_28 {l0 l1 l2 : Option Value} {x : Int32} {m : kMem} {Q : Option Value → kMem → Prop} : kJ 34 28 [l0, l1, l2] [.int x] m Q = Q (some (.int x)) m := kJ_ret d34_28 rfl
theorem d198_0 : decode (mB 198) 0 = .ok (.iload_n 0, 1) := by decide +kernel
theorem s198_0 {st : List Value} {x : Int32} {m : kMem} {Q : Option Value → kMem → Prop} : kJ 198 0 [some (.int x)] st m Q = kJ 198 1 [some (.int x)] (.int x :: st) m Q := kJ_next d198_0 rfl
theorem d198_1 : decode (mB 198) 1 = .ok (.iload_n 0, 1) := by decide +kernel
theorem s198_1 {st : List Value} {x : Int32} {m : kMem} {Q : Option Value → kMem → Prop} : kJ 198 1 [some (.int x)] st m Q = kJ 198 2 [some (.int x)] (.int x :: st) m Q := kJ_next d198_1 rfl
theorem d198_2 : decode (mB 198) 2 = .ok (.iconst 1, 1) := by decide +kernel
theorem s198_2 {l0 : Option Value} {st : List Value} {m : kMem} {Q : Option Value → kMem → Prop} : kJ 198 2 [l0] st m Q = kJ 198 3 [l0] (.int (nI 1) :: st) m Q := kJ_next d198_2 rfl
theorem d198_3 : decode (mB 198) 3 = .ok (.iushr, 1) := by decide +kernel
theorem s198_3 {l0 : Option Value} {st : List Value} {a b : Int32} {m : kMem} {Q : Option Value → kMem → Prop} : kJ 198 3 [l0] (.int b :: .int a :: st) m Q = kJ 198 4 [l0] (.int ((a.toUInt32 >>> (b.toUInt32 &&& Int32.toUInt32 31)).toInt32) :: st) m Q := kJ_next d198_3 rfl
theorem d198_4 : decode (mB 198) 4 = .ok (.ldc_w 265, 3) := by decide +kernel
theorem s198_4 {l0 : Option Value} {st : List Value} {m : kMem} {Q : Option Value → kMem → Prop} : kJ 198 4 [l0] st m Q = kJ 198 7 [l0] (.int 1431655765 :: st) m Q := kJ_next d198_4 rfl
theorem d198_7 : decode (mB 198) 7 = .ok (.iand, 1) := by decide +kernel
theorem s198_7 {l0 : Option Value} {st : List Value} {a b : Int32} {m : kMem} {Q : Option Value → kMem → Prop} : kJ 198 7 [l0] (.int b :: .int a :: st) m Q = kJ 198 8 [l0] (.int (a &&& b) :: st) m Q := kJ_next d198_7 rfl
theorem d198_8 : decode (mB 198) 8 = .ok (.isub, 1) := by decide +kernel
theorem s198_8 {l0 : Option Value} {st : List Value} {a b : Int32} {m : kMem} {Q : Option Value → kMem → Prop} : kJ 198 8 [l0] (.int b :: .int a :: st) m Q = kJ 198 9 [l0] (.int (a - b) :: st) m Q := kJ_next d198_8 rfl
theorem d198_9 : decode (mB 198) 9 = .ok (.istore_n 0, 1) := by decide +kernel
theorem s198_9 {l0 : Option Value} {st : List Value} {x : Int32} {m : kMem} {Q : Option Value → kMem → Prop} : kJ 198 9 [l0] (.int x :: st) m Q = kJ 198 10 [some (.int x)] st m Q := kJ_next d198_9 rfl
theorem d198_10 : decode (mB 198) 10 = .ok (.iload_n 0, 1) := by decide +kernel
theorem s198_10 {st : List Value} {x : Int32} {m : kMem} {Q : Option Value → kMem → Prop} : kJ 198 10 [some (.int x)] st m Q = kJ 198 11 [some (.int x)] (.int x :: st) m Q := kJ_next d198_10 rfl
theorem d198_11 : decode (mB 198) 11 = .ok (.ldc_w 266, 3) := by decide +kernel
theorem s198_11 {l0 : Option Value} {st : List Value} {m : kMem} {Q : Option Value → kMem → Prop} : kJ 198 11 [l0] st m Q = kJ 198 14 [l0] (.int 858993459 :: st) m Q := kJ_next d198_11 rfl
theorem d198_14 : decode (mB 198) 14 = .ok (.iand, 1) := by decide +kernel
theorem s198_14 {l0 : Option Value} {st : List Value} {a b : Int32} {m : kMem} {Q : Option Value → kMem → Prop} : kJ 198 14 [l0] (.int b :: .int a :: st) m Q = kJ 198 15 [l0] (.int (a &&& b) :: st) m Q := kJ_next d198_14 rfl
theorem d198_15 : decode (mB 198) 15 = .ok (.iload_n 0, 1) := by decide +kernel
theorem s198_15 {st : List Value} {x : Int32} {m : kMem} {Q : Option Value → kMem → Prop} : kJ 198 15 [some (.int x)] st m Q = kJ 198 16 [some (.int x)] (.int x :: st) m Q := kJ_next d198_15 rfl
theorem d198_16 : decode (mB 198) 16 = .ok (.iconst 2, 1) := by decide +kernel
theorem s198_16 {l0 : Option Value} {st : List Value} {m : kMem} {Q : Option Value → kMem → Prop} : kJ 198 16 [l0] st m Q = kJ 198 17 [l0] (.int (nI 2) :: st) m Q := kJ_next d198_16 rfl
theorem d198_17 : decode (mB 198) 17 = .ok (.iushr, 1) := by decide +kernel
theorem s198_17 {l0 : Option Value} {st : List Value} {a b : Int32} {m : kMem} {Q : Option Value → kMem → Prop} : kJ 198 17 [l0] (.int b :: .int a :: st) m Q = kJ 198 18 [l0] (.int ((a.toUInt32 >>> (b.toUInt32 &&& Int32.toUInt32 31)).toInt32) :: st) m Q := kJ_next d198_17 rfl
theorem d198_18 : decode (mB 198) 18 = .ok (.ldc_w 266, 3) := by decide +kernel
theorem s198_18 {l0 : Option Value} {st : List Value} {m : kMem} {Q : Option Value → kMem → Prop} : kJ 198 18 [l0] st m Q = kJ 198 21 [l0] (.int 858993459 :: st) m Q := kJ_next d198_18 rfl
theorem d198_21 : decode (mB 198) 21 = .ok (.iand, 1) := by decide +kernel
theorem s198_21 {l0 : Option Value} {st : List Value} {a b : Int32} {m : kMem} {Q : Option Value → kMem → Prop} : kJ 198 21 [l0] (.int b :: .int a :: st) m Q = kJ 198 22 [l0] (.int (a &&& b) :: st) m Q := kJ_next d198_21 rfl
theorem d198_22 : decode (mB 198) 22 = .ok (.iadd, 1) := by decide +kernel
theorem s198_22 {l0 : Option Value} {st : List Value} {a b : Int32} {m : kMem} {Q : Option Value → kMem → Prop} : kJ 198 22 [l0] (.int b :: .int a :: st) m Q = kJ 198 23 [l0] (.int (a + b) :: st) m Q := kJ_next d198_22 rfl
theorem d198_23 : decode (mB 198) 23 = .ok (.istore_n 0, 1) := by decide +kernel
theorem s198_23 {l0 : Option Value} {st : List Value} {x : Int32} {m : kMem} {Q : Option Value → kMem → Prop} : kJ 198 23 [l0] (.int x :: st) m Q = kJ 198 24 [some (.int x)] st m Q := kJ_next d198_23 rfl
theorem d198_24 : decode (mB 198) 24 = .ok (.iload_n 0, 1) := by decide +kernel
theorem s198_24 {st : List Value} {x : Int32} {m : kMem} {Q : Option Value → kMem → Prop} : kJ 198 24 [some (.int x)] st m Q = kJ 198 25 [some (.int x)] (.int x :: st) m Q := kJ_next d198_24 rfl
theorem d198_25 : decode (mB 198) 25 = .ok (.iload_n 0, 1) := by decide +kernel
theorem s198_25 {st : List Value} {x : Int32} {m : kMem} {Q : Option Value → kMem → Prop} : kJ 198 25 [some (.int x)] st m Q = kJ 198 26 [some (.int x)] (.int x :: st) m Q := kJ_next d198_25 rfl
theorem d198_26 : decode (mB 198) 26 = .ok (.iconst 4, 1) := by decide +kernel
theorem s198_26 {l0 : Option Value} {st : List Value} {m : kMem} {Q : Option Value → kMem → Prop} : kJ 198 26 [l0] st m Q = kJ 198 27 [l0] (.int (nI 4) :: st) m Q := kJ_next d198_26 rfl
theorem d198_27 : decode (mB 198) 27 = .ok (.iushr, 1) := by decide +kernel
theorem s198_27 {l0 : Option Value} {st : List Value} {a b : Int32} {m : kMem} {Q : Option Value → kMem → Prop} : kJ 198 27 [l0] (.int b :: .int a :: st) m Q = kJ 198 28 [l0] (.int ((a.toUInt32 >>> (b.toUInt32 &&& Int32.toUInt32 31)).toInt32) :: st) m Q := kJ_next d198_27 rfl
theorem d198_28 : decode (mB 198) 28 = .ok (.iadd, 1) := by decide +kernel
theorem s198_28 {l0 : Option Value} {st : List Value} {a b : Int32} {m : kMem} {Q : Option Value → kMem → Prop} : kJ 198 28 [l0] (.int b :: .int a :: st) m Q = kJ 198 29 [l0] (.int (a + b) :: st) m Q := kJ_next d198_28 rfl
theorem d198_29 : decode (mB 198) 29 = .ok (.ldc_w 267, 3) := by decide +kernel
theorem s198_29 {l0 : Option Value} {st : List Value} {m : kMem} {Q : Option Value → kMem → Prop} : kJ 198 29 [l0] st m Q = kJ 198 32 [l0] (.int 252645135 :: st) m Q := kJ_next d198_29 rfl
theorem d198_32 : decode (mB 198) 32 = .ok (.iand, 1) := by decide +kernel
theorem s198_32 {l0 : Option Value} {st : List Value} {a b : Int32} {m : kMem} {Q : Option Value → kMem → Prop} : kJ 198 32 [l0] (.int b :: .int a :: st) m Q = kJ 198 33 [l0] (.int (a &&& b) :: st) m Q := kJ_next d198_32 rfl
theorem d198_33 : decode (mB 198) 33 = .ok (.istore_n 0, 1) := by decide +kernel
theorem s198_33 {l0 : Option Value} {st : List Value} {x : Int32} {m : kMem} {Q : Option Value → kMem → Prop} : kJ 198 33 [l0] (.int x :: st) m Q = kJ 198 34 [some (.int x)] st m Q := kJ_next d198_33 rfl
theorem d198_34 : decode (mB 198) 34 = .ok (.iload_n 0, 1) := by decide +kernel
theorem s198_34 {st : List Value} {x : Int32} {m : kMem} {Q : Option Value → kMem → Prop} : kJ 198 34 [some (.int x)] st m Q = kJ 198 35 [some (.int x)] (.int x :: st) m Q := kJ_next d198_34 rfl
theorem d198_35 : decode (mB 198) 35 = .ok (.iload_n 0, 1) := by decide +kernel
theorem s198_35 {st : List Value} {x : Int32} {m : kMem} {Q : Option Value → kMem → Prop} : kJ 198 35 [some (.int x)] st m Q = kJ 198 36 [some (.int x)] (.int x :: st) m Q := kJ_next d198_35 rfl
theorem d198_36 : decode (mB 198) 36 = .ok (.bipush 8, 2) := by decide +kernel
theorem s198_36 {l0 : Option Value} {st : List Value} {m : kMem} {Q : Option Value → kMem → Prop} : kJ 198 36 [l0] st m Q = kJ 198 38 [l0] (.int (nI 8) :: st) m Q := kJ_next d198_36 rfl
theorem d198_38 : decode (mB 198) 38 = .ok (.iushr, 1) := by decide +kernel
theorem s198_38 {l0 : Option Value} {st : List Value} {a b : Int32} {m : kMem} {Q : Option Value → kMem → Prop} : kJ 198 38 [l0] (.int b :: .int a :: st) m Q = kJ 198 39 [l0] (.int ((a.toUInt32 >>> (b.toUInt32 &&& Int32.toUInt32 31)).toInt32) :: st) m Q := kJ_next d198_38 rfl
theorem d198_39 : decode (mB 198) 39 = .ok (.iadd, 1) := by decide +kernel
theorem s198_39 {l0 : Option Value} {st : List Value} {a b : Int32} {m : kMem} {Q : Option Value → kMem → Prop} : kJ 198 39 [l0] (.int b :: .int a :: st) m Q = kJ 198 40 [l0] (.int (a + b) :: st) m Q := kJ_next d198_39 rfl
theorem d198_40 : decode (mB 198) 40 = .ok (.istore_n 0, 1) := by decide +kernel
theorem s198_40 {l0 : Option Value} {st : List Value} {x : Int32} {m : kMem} {Q : Option Value → kMem → Prop} : kJ 198 40 [l0] (.int x :: st) m Q = kJ 198 41 [some (.int x)] st m Q := kJ_next d198_40 rfl
theorem d198_41 : decode (mB 198) 41 = .ok (.iload_n 0, 1) := by decide +kernel
theorem s198_41 {st : List Value} {x : Int32} {m : kMem} {Q : Option Value → kMem → Prop} : kJ 198 41 [some (.int x)] st m Q = kJ 198 42 [some (.int x)] (.int x :: st) m Q := kJ_next d198_41 rfl
theorem d198_42 : decode (mB 198) 42 = .ok (.iload_n 0, 1) := by decide +kernel
theorem s198_42 {st : List Value} {x : Int32} {m : kMem} {Q : Option Value → kMem → Prop} : kJ 198 42 [some (.int x)] st m Q = kJ 198 43 [some (.int x)] (.int x :: st) m Q := kJ_next d198_42 rfl
theorem d198_43 : decode (mB 198) 43 = .ok (.bipush 16, 2) := by decide +kernel
theorem s198_43 {l0 : Option Value} {st : List Value} {m : kMem} {Q : Option Value → kMem → Prop} : kJ 198 43 [l0] st m Q = kJ 198 45 [l0] (.int (nI 16) :: st) m Q := kJ_next d198_43 rfl
theorem d198_45 : decode (mB 198) 45 = .ok (.iushr, 1) := by decide +kernel
theorem s198_45 {l0 : Option Value} {st : List Value} {a b : Int32} {m : kMem} {Q : Option Value → kMem → Prop} : kJ 198 45 [l0] (.int b :: .int a :: st) m Q = kJ 198 46 [l0] (.int ((a.toUInt32 >>> (b.toUInt32 &&& Int32.toUInt32 31)).toInt32) :: st) m Q := kJ_next d198_45 rfl
theorem d198_46 : decode (mB 198) 46 = .ok (.iadd, 1) := by decide +kernel
theorem s198_46 {l0 : Option Value} {st : List Value} {a b : Int32} {m : kMem} {Q : Option Value → kMem → Prop} : kJ 198 46 [l0] (.int b :: .int a :: st) m Q = kJ 198 47 [l0] (.int (a + b) :: st) m Q := kJ_next d198_46 rfl
theorem d198_47 : decode (mB 198) 47 = .ok (.istore_n 0, 1) := by decide +kernel
theorem s198_47 {l0 : Option Value} {st : List Value} {x : Int32} {m : kMem} {Q : Option Value → kMem → Prop} : kJ 198 47 [l0] (.int x :: st) m Q = kJ 198 48 [some (.int x)] st m Q := kJ_next d198_47 rfl
theorem d198_48 : decode (mB 198) 48 = .ok (.iload_n 0, 1) := by decide +kernel
theorem s198_48 {st : List Value} {x : Int32} {m : kMem} {Q : Option Value → kMem → Prop} : kJ 198 48 [some (.int x)] st m Q = kJ 198 49 [some (.int x)] (.int x :: st) m Q := kJ_next d198_48 rfl
theorem d198_49 : decode (mB 198) 49 = .ok (.bipush 63, 2) := by decide +kernel
theorem s198_49 {l0 : Option Value} {st : List Value} {m : kMem} {Q : Option Value → kMem → Prop} : kJ 198 49 [l0] st m Q = kJ 198 51 [l0] (.int (nI 63) :: st) m Q := kJ_next d198_49 rfl
theorem d198_51 : decode (mB 198) 51 = .ok (.iand, 1) := by decide +kernel
theorem s198_51 {l0 : Option Value} {st : List Value} {a b : Int32} {m : kMem} {Q : Option Value → kMem → Prop} : kJ 198 51 [l0] (.int b :: .int a :: st) m Q = kJ 198 52 [l0] (.int (a &&& b) :: st) m Q := kJ_next d198_51 rfl
theorem d198_52 : decode (mB 198) 52 = .ok (.ireturn, 1) := by decide +kernel
theorem s198_52 {l0 : Option Value} {x : Int32} {m : kMem} {Q : Option Value → kMem → Prop} : kJ 198 52 [l0] [.int x] m Q = Q (some (.int x)) m := kJ_ret d198_52 rfl
