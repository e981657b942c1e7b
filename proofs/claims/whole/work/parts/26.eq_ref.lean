theorem d106_0 : decode (mB 106) 0 = .ok (.aload_n 0, 1) := by decide +kernel
theorem s106_0 {l1 : Option Value} {st : List Value} {x : Nat} {m : kMem} {Q : Option Value → kMem → Prop} : kJ 106 0 [some (.ref x), l1] st m Q = kJ 106 1 [some (.ref x), l1] (.ref x :: st) m Q := kJ_next d106_0 rfl
theorem d106_1 : decode (mB 106) 1 = .ok (.invokespecial 1, 3) := by decide +kernel
theorem s106_1 {l0 l1 : Option Value}  {q : Nat} {m : kMem} {Q : Option Value → kMem → Prop} : kJ 106 1 [l0, l1] [.ref q] m Q = kJ 106 4 [l0, l1] [] m Q := kJ_next d106_1 (kg_obj rfl rfl (Nat.le_of_ble_eq_true rfl))
theorem d106_4 : decode (mB 106) 4 = .ok (.aload_n 0, 1) := by decide +kernel
theorem s106_4 {l1 : Option Value} {st : List Value} {x : Nat} {m : kMem} {Q : Option Value → kMem → Prop} : kJ 106 4 [some (.ref x), l1] st m Q = kJ 106 5 [some (.ref x), l1] (.ref x :: st) m Q := kJ_next d106_4 rfl
theorem d106_5 : decode (mB 106) 5 = .ok (.sipush 222, 3) := by decide +kernel
theorem s106_5 {l0 l1 : Option Value} {st : List Value} {m : kMem} {Q : Option Value → kMem → Prop} : kJ 106 5 [l0, l1] st m Q = kJ 106 8 [l0, l1] (.int (nI 222) :: st) m Q := kJ_next d106_5 rfl
theorem d106_8 : decode (mB 106) 8 = .ok (.newarray .int, 2) := by decide +kernel
theorem s106_8 {l0 l1 : Option Value} {st : List Value} {n : Int32} {mi : Nat → Nat → Int32} {ml : Nat → Nat → Int64} {mr : Nat → Nat → Option Nat} {nx : Nat} {Q : Option Value → kMem → Prop} (h : nx < 95) (h2 : kAt nx = (10, n.toNatClampNeg)) (h3 : ¬ n < 0) (h4 : n.toNatClampNeg ≤ 2000) : kJ 106 8 [l0, l1] (.int n :: st) (mi, ml, mr, nx) Q = kJ 106 10 [l0, l1] (.ref nx :: st) (kRow mi nx (fun _ => 0), kRow ml nx (fun _ => 0), kRow mr nx (fun _ => none), nx + 1) Q := kJ_next d106_8 (kg_newa h h2 h3 h4)
theorem d106_10 : decode (mB 106) 10 = .ok (.putfield 7, 3) := by decide +kernel
theorem s106_10 {l0 l1 : Option Value} {st : List Value} {q : Nat} {x : Nat} {mi : Nat → Nat → Int32} {ml : Nat → Nat → Int64} {mr : Nat → Nat → Option Nat} {nx : Nat} {Q : Option Value → kMem → Prop} (h : kIs nx q 5 = true) (hx : x < 1000) : kJ 106 10 [l0, l1] (.ref x :: .ref q :: st) (mi, ml, mr, nx) Q = kJ 106 13 [l0, l1] st (mi, ml, kupR mr q 0 (some x), nx) Q := kJ_next d106_10 (kg_putr 5 0 rfl h (by decide) (by decide) rfl rfl hx)
theorem d106_13 : decode (mB 106) 13 = .ok (.aload_n 0, 1) := by decide +kernel
theorem s106_13 {l1 : Option Value} {st : List Value} {x : Nat} {m : kMem} {Q : Option Value → kMem → Prop} : kJ 106 13 [some (.ref x), l1] st m Q = kJ 106 14 [some (.ref x), l1] (.ref x :: st) m Q := kJ_next d106_13 rfl
theorem d106_14 : decode (mB 106) 14 = .ok (.bipush 74, 2) := by decide +kernel
theorem s106_14 {l0 l1 : Option Value} {st : List Value} {m : kMem} {Q : Option Value → kMem → Prop} : kJ 106 14 [l0, l1] st m Q = kJ 106 16 [l0, l1] (.int (nI 74) :: st) m Q := kJ_next d106_14 rfl
theorem d106_16 : decode (mB 106) 16 = .ok (.newarray .int, 2) := by decide +kernel
theorem s106_16 {l0 l1 : Option Value} {st : List Value} {n : Int32} {mi : Nat → Nat → Int32} {ml : Nat → Nat → Int64} {mr : Nat → Nat → Option Nat} {nx : Nat} {Q : Option Value → kMem → Prop} (h : nx < 95) (h2 : kAt nx = (10, n.toNatClampNeg)) (h3 : ¬ n < 0) (h4 : n.toNatClampNeg ≤ 2000) : kJ 106 16 [l0, l1] (.int n :: st) (mi, ml, mr, nx) Q = kJ 106 18 [l0, l1] (.ref nx :: st) (kRow mi nx (fun _ => 0), kRow ml nx (fun _ => 0), kRow mr nx (fun _ => none), nx + 1) Q := kJ_next d106_16 (kg_newa h h2 h3 h4)
theorem d106_18 : decode (mB 106) 18 = .ok (.putfield 13, 3) := by decide +kernel
theorem s106_18 {l0 l1 : Option Value} {st : List Value} {q : Nat} {x : Nat} {mi : Nat → Nat → Int32} {ml : Nat → Nat → Int64} {mr : Nat → Nat → Option Nat} {nx : Nat} {Q : Option Value → kMem → Prop} (h : kIs nx q 5 = true) (hx : x < 1000) : kJ 106 18 [l0, l1] (.ref x :: .ref q :: st) (mi, ml, mr, nx) Q = kJ 106 21 [l0, l1] st (mi, ml, kupR mr q 1 (some x), nx) Q := kJ_next d106_18 (kg_putr 5 1 rfl h (by decide) (by decide) rfl rfl hx)
theorem d106_21 : decode (mB 106) 21 = .ok (.aload_n 0, 1) := by decide +kernel
theorem s106_21 {l1 : Option Value} {st : List Value} {x : Nat} {m : kMem} {Q : Option Value → kMem → Prop} : kJ 106 21 [some (.ref x), l1] st m Q = kJ 106 22 [some (.ref x), l1] (.ref x :: st) m Q := kJ_next d106_21 rfl
theorem d106_22 : decode (mB 106) 22 = .ok (.iconst 2, 1) := by decide +kernel
theorem s106_22 {l0 l1 : Option Value} {st : List Value} {m : kMem} {Q : Option Value → kMem → Prop} : kJ 106 22 [l0, l1] st m Q = kJ 106 23 [l0, l1] (.int (nI 2) :: st) m Q := kJ_next d106_22 rfl
theorem d106_23 : decode (mB 106) 23 = .ok (.newarray .boolean, 2) := by decide +kernel
theorem s106_23 {l0 l1 : Option Value} {st : List Value} {n : Int32} {mi : Nat → Nat → Int32} {ml : Nat → Nat → Int64} {mr : Nat → Nat → Option Nat} {nx : Nat} {Q : Option Value → kMem → Prop} (h : nx < 95) (h2 : kAt nx = (11, n.toNatClampNeg)) (h3 : ¬ n < 0) (h4 : n.toNatClampNeg ≤ 2000) : kJ 106 23 [l0, l1] (.int n :: st) (mi, ml, mr, nx) Q = kJ 106 25 [l0, l1] (.ref nx :: st) (kRow mi nx (fun _ => 0), kRow ml nx (fun _ => 0), kRow mr nx (fun _ => none), nx + 1) Q := kJ_next d106_23 (kg_newa h h2 h3 h4)
theorem d106_25 : decode (mB 106) 25 = .ok (.putfield 16, 3) := by decide +kernel
theorem s106_25 {l0 l1 : Option Value} {st : List Value} {q : Nat} {x : Nat} {mi : Nat → Nat → Int32} {ml : Nat → Nat → Int64} {mr : Nat → Nat → Option Nat} {nx : Nat} {Q : Option Value → kMem → Prop} (h : kIs nx q 5 = true) (hx : x < 1000) : kJ 106 25 [l0, l1] (.ref x :: .ref q :: st) (mi, ml, mr, nx) Q = kJ 106 28 [l0, l1] st (mi, ml, kupR mr q 2 (some x), nx) Q := kJ_next d106_25 (kg_putr 5 2 rfl h (by decide) (by decide) rfl rfl hx)
theorem d106_28 : decode (mB 106) 28 = .ok (.aload_n 0, 1) := by decide +kernel
theorem s106_28 {l1 : Option Value} {st : List Value} {x : Nat} {m : kMem} {Q : Option Value → kMem → Prop} : kJ 106 28 [some (.ref x), l1] st m Q = kJ 106 29 [some (.ref x), l1] (.ref x :: st) m Q := kJ_next d106_28 rfl
theorem d106_29 : decode (mB 106) 29 = .ok (.bipush 74, 2) := by decide +kernel
theorem s106_29 {l0 l1 : Option Value} {st : List Value} {m : kMem} {Q : Option Value → kMem → Prop} : kJ 106 29 [l0, l1] st m Q = kJ 106 31 [l0, l1] (.int (nI 74) :: st) m Q := kJ_next d106_29 rfl
theorem d106_31 : decode (mB 106) 31 = .ok (.newarray .int, 2) := by decide +kernel
theorem s106_31 {l0 l1 : Option Value} {st : List Value} {n : Int32} {mi : Nat → Nat → Int32} {ml : Nat → Nat → Int64} {mr : Nat → Nat → Option Nat} {nx : Nat} {Q : Option Value → kMem → Prop} (h : nx < 95) (h2 : kAt nx = (10, n.toNatClampNeg)) (h3 : ¬ n < 0) (h4 : n.toNatClampNeg ≤ 2000) : kJ 106 31 [l0, l1] (.int n :: st) (mi, ml, mr, nx) Q = kJ 106 33 [l0, l1] (.ref nx :: st) (kRow mi nx (fun _ => 0), kRow ml nx (fun _ => 0), kRow mr nx (fun _ => none), nx + 1) Q := kJ_next d106_31 (kg_newa h h2 h3 h4)
theorem d106_33 : decode (mB 106) 33 = .ok (.putfield 20, 3) := by decide +kernel
theorem s106_33 {l0 l1 : Option Value} {st : List Value} {q : Nat} {x : Nat} {mi : Nat → Nat → Int32} {ml : Nat → Nat → Int64} {mr : Nat → Nat → Option Nat} {nx : Nat} {Q : Option Value → kMem → Prop} (h : kIs nx q 5 = true) (hx : x < 1000) : kJ 106 33 [l0, l1] (.ref x :: .ref q :: st) (mi, ml, mr, nx) Q = kJ 106 36 [l0, l1] st (mi, ml, kupR mr q 3 (some x), nx) Q := kJ_next d106_33 (kg_putr 5 3 rfl h (by decide) (by decide) rfl rfl hx)
theorem d106_36 : decode (mB 106) 36 = .ok (.aload_n 0, 1) := by decide +kernel
theorem s106_36 {l1 : Option Value} {st : List Value} {x : Nat} {m : kMem} {Q : Option Value → kMem → Prop} : kJ 106 36 [some (.ref x), l1] st m Q = kJ 106 37 [some (.ref x), l1] (.ref x :: st) m Q := kJ_next d106_36 rfl
theorem d106_37 : decode (mB 106) 37 = .ok (.sipush 160, 3) := by decide +kernel
theorem s106_37 {l0 l1 : Option Value} {st : List Value} {m : kMem} {Q : Option Value → kMem → Prop} : kJ 106 37 [l0, l1] st m Q = kJ 106 40 [l0, l1] (.int (nI 160) :: st) m Q := kJ_next d106_37 rfl
theorem d106_40 : decode (mB 106) 40 = .ok (.newarray .int, 2) := by decide +kernel
theorem s106_40 {l0 l1 : Option Value} {st : List Value} {n : Int32} {mi : Nat → Nat → Int32} {ml : Nat → Nat → Int64} {mr : Nat → Nat → Option Nat} {nx : Nat} {Q : Option Value → kMem → Prop} (h : nx < 95) (h2 : kAt nx = (10, n.toNatClampNeg)) (h3 : ¬ n < 0) (h4 : n.toNatClampNeg ≤ 2000) : kJ 106 40 [l0, l1] (.int n :: st) (mi, ml, mr, nx) Q = kJ 106 42 [l0, l1] (.ref nx :: st) (kRow mi nx (fun _ => 0), kRow ml nx (fun _ => 0), kRow mr nx (fun _ => none), nx + 1) Q := kJ_next d106_40 (kg_newa h h2 h3 h4)
theorem d106_42 : decode (mB 106) 42 = .ok (.putfield 23, 3) := by decide +kernel
theorem s106_42 {l0 l1 : Option Value} {st : List Value} {q : Nat} {x : Nat} {mi : Nat → Nat → Int32} {ml : Nat → Nat → Int64} {mr : Nat → Nat → Option Nat} {nx : Nat} {Q : Option Value → kMem → Prop} (h : kIs nx q 5 = true) (hx : x < 1000) : kJ 106 42 [l0, l1] (.ref x :: .ref q :: st) (mi, ml, mr, nx) Q = kJ 106 45 [l0, l1] st (mi, ml, kupR mr q 6 (some x), nx) Q := kJ_next d106_42 (kg_putr 5 6 rfl h (by decide) (by decide) rfl rfl hx)
theorem d106_45 : decode (mB 106) 45 = .ok (.aload_n 0, 1) := by decide +kernel
theorem s106_45 {l1 : Option Value} {st : List Value} {x : Nat} {m : kMem} {Q : Option Value → kMem → Prop} : kJ 106 45 [some (.ref x), l1] st m Q = kJ 106 46 [some (.ref x), l1] (.ref x :: st) m Q := kJ_next d106_45 rfl
theorem d106_46 : decode (mB 106) 46 = .ok (.bipush 105, 2) := by decide +kernel
theorem s106_46 {l0 l1 : Option Value} {st : List Value} {m : kMem} {Q : Option Value → kMem → Prop} : kJ 106 46 [l0, l1] st m Q = kJ 106 48 [l0, l1] (.int (nI 105) :: st) m Q := kJ_next d106_46 rfl
theorem d106_48 : decode (mB 106) 48 = .ok (.newarray .int, 2) := by decide +kernel
theorem s106_48 {l0 l1 : Option Value} {st : List Value} {n : Int32} {mi : Nat → Nat → Int32} {ml : Nat → Nat → Int64} {mr : Nat → Nat → Option Nat} {nx : Nat} {Q : Option Value → kMem → Prop} (h : nx < 95) (h2 : kAt nx = (10, n.toNatClampNeg)) (h3 : ¬ n < 0) (h4 : n.toNatClampNeg ≤ 2000) : kJ 106 48 [l0, l1] (.int n :: st) (mi, ml, mr, nx) Q = kJ 106 50 [l0, l1] (.ref nx :: st) (kRow mi nx (fun _ => 0), kRow ml nx (fun _ => 0), kRow mr nx (fun _ => none), nx + 1) Q := kJ_next d106_48 (kg_newa h h2 h3 h4)
theorem d106_50 : decode (mB 106) 50 = .ok (.putfield 26, 3) := by decide +kernel
theorem s106_50 {l0 l1 : Option Value} {st : List Value} {q : Nat} {x : Nat} {mi : Nat → Nat → Int32} {ml : Nat → Nat → Int64} {mr : Nat → Nat → Option Nat} {nx : Nat} {Q : Option Value → kMem → Prop} (h : kIs nx q 5 = true) (hx : x < 1000) : kJ 106 50 [l0, l1] (.ref x :: .ref q :: st) (mi, ml, mr, nx) Q = kJ 106 53 [l0, l1] st (mi, ml, kupR mr q 21 (some x), nx) Q := kJ_next d106_50 (kg_putr 5 21 rfl h (by decide) (by decide) rfl rfl hx)
theorem d106_53 : decode (mB 106) 53 = .ok (.aload_n 0, 1) := by decide +kernel
theorem s106_53 {l1 : Option Value} {st : List Value} {x : Nat} {m : kMem} {Q : Option Value → kMem → Prop} : kJ 106 53 [some (.ref x), l1] st m Q = kJ 106 54 [some (.ref x), l1] (.ref x :: st) m Q := kJ_next d106_53 rfl
theorem d106_54 : decode (mB 106) 54 = .ok (.sipush 1995, 3) := by decide +kernel
theorem s106_54 {l0 l1 : Option Value} {st : List Value} {m : kMem} {Q : Option Value → kMem → Prop} : kJ 106 54 [l0, l1] st m Q = kJ 106 57 [l0, l1] (.int (nI 1995) :: st) m Q := kJ_next d106_54 rfl
theorem d106_57 : decode (mB 106) 57 = .ok (.newarray .int, 2) := by decide +kernel
theorem s106_57 {l0 l1 : Option Value} {st : List Value} {n : Int32} {mi : Nat → Nat → Int32} {ml : Nat → Nat → Int64} {mr : Nat → Nat → Option Nat} {nx : Nat} {Q : Option Value → kMem → Prop} (h : nx < 95) (h2 : kAt nx = (10, n.toNatClampNeg)) (h3 : ¬ n < 0) (h4 : n.toNatClampNeg ≤ 2000) : kJ 106 57 [l0, l1] (.int n :: st) (mi, ml, mr, nx) Q = kJ 106 59 [l0, l1] (.ref nx :: st) (kRow mi nx (fun _ => 0), kRow ml nx (fun _ => 0), kRow mr nx (fun _ => none), nx + 1) Q := kJ_next d106_57 (kg_newa h h2 h3 h4)
theorem d106_59 : decode (mB 106) 59 = .ok (.putfield 29, 3) := by decide +kernel
theorem s106_59 {l0 l1 : Option Value} {st : List Value} {q : Nat} {x : Nat} {mi : Nat → Nat → Int32} {ml : Nat → Nat → Int64} {mr : Nat → Nat → Option Nat} {nx : Nat} {Q : Option Value → kMem → Prop} (h : kIs nx q 5 = true) (hx : x < 1000) : kJ 106 59 [l0, l1] (.ref x :: .ref q :: st) (mi, ml, mr, nx) Q = kJ 106 62 [l0, l1] st (mi, ml, kupR mr q 22 (some x), nx) Q := kJ_next d106_59 (kg_putr 5 22 rfl h (by decide) (by decide) rfl rfl hx)
theorem d106_62 : decode (mB 106) 62 = .ok (.aload_n 0, 1) := by decide +kernel
theorem s106_62 {l1 : Option Value} {st : List Value} {x : Nat} {m : kMem} {Q : Option Value → kMem → Prop} : kJ 106 62 [some (.ref x), l1] st m Q = kJ 106 63 [some (.ref x), l1] (.ref x :: st) m Q := kJ_next d106_62 rfl
theorem d106_63 : decode (mB 106) 63 = .ok (.iconst 4, 1) := by decide +kernel
theorem s106_63 {l0 l1 : Option Value} {st : List Value} {m : kMem} {Q : Option Value → kMem → Prop} : kJ 106 63 [l0, l1] st m Q = kJ 106 64 [l0, l1] (.int (nI 4) :: st) m Q := kJ_next d106_63 rfl
theorem d106_64 : decode (mB 106) 64 = .ok (.newarray .int, 2) := by decide +kernel
theorem s106_64 {l0 l1 : Option Value} {st : List Value} {n : Int32} {mi : Nat → Nat → Int32} {ml : Nat → Nat → Int64} {mr : Nat → Nat → Option Nat} {nx : Nat} {Q : Option Value → kMem → Prop} (h : nx < 95) (h2 : kAt nx = (10, n.toNatClampNeg)) (h3 : ¬ n < 0) (h4 : n.toNatClampNeg ≤ 2000) : kJ 106 64 [l0, l1] (.int n :: st) (mi, ml, mr, nx) Q = kJ 106 66 [l0, l1] (.ref nx :: st) (kRow mi nx (fun _ => 0), kRow ml nx (fun _ => 0), kRow mr nx (fun _ => none), nx + 1) Q := kJ_next d106_64 (kg_newa h h2 h3 h4)
theorem d106_66 : decode (mB 106) 66 = .ok (.putfield 32, 3) := by decide +kernel
theorem s106_66 {l0 l1 : Option Value} {st : List Value} {q : Nat} {x : Nat} {mi : Nat → Nat → Int32} {ml : Nat → Nat → Int64} {mr : Nat → Nat → Option Nat} {nx : Nat} {Q : Option Value → kMem → Prop} (h : kIs nx q 5 = true) (hx : x < 1000) : kJ 106 66 [l0, l1] (.ref x :: .ref q :: st) (mi, ml, mr, nx) Q = kJ 106 69 [l0, l1] st (mi, ml, kupR mr q 23 (some x), nx) Q := kJ_next d106_66 (kg_putr 5 23 rfl h (by decide) (by decide) rfl rfl hx)
theorem d106_69 : decode (mB 106) 69 = .ok (.aload_n 0, 1) := by decide +kernel
theorem s106_69 {l1 : Option Value} {st : List Value} {x : Nat} {m : kMem} {Q : Option Value → kMem → Prop} : kJ 106 69 [some (.ref x), l1] st m Q = kJ 106 70 [some (.ref x), l1] (.ref x :: st) m Q := kJ_next d106_69 rfl
theorem d106_70 : decode (mB 106) 70 = .ok (.iconst 4, 1) := by decide +kernel
theorem s106_70 {l0 l1 : Option Value} {st : List Value} {m : kMem} {Q : Option Value → kMem → Prop} : kJ 106 70 [l0, l1] st m Q = kJ 106 71 [l0, l1] (.int (nI 4) :: st) m Q := kJ_next d106_70 rfl
theorem d106_71 : decode (mB 106) 71 = .ok (.newarray .int, 2) := by decide +kernel
theorem s106_71 {l0 l1 : Option Value} {st : List Value} {n : Int32} {mi : Nat → Nat → Int32} {ml : Nat → Nat → Int64} {mr : Nat → Nat → Option Nat} {nx : Nat} {Q : Option Value → kMem → Prop} (h : nx < 95) (h2 : kAt nx = (10, n.toNatClampNeg)) (h3 : ¬ n < 0) (h4 : n.toNatClampNeg ≤ 2000) : kJ 106 71 [l0, l1] (.int n :: st) (mi, ml, mr, nx) Q = kJ 106 73 [l0, l1] (.ref nx :: st) (kRow mi nx (fun _ => 0), kRow ml nx (fun _ => 0), kRow mr nx (fun _ => none), nx + 1) Q := kJ_next d106_71 (kg_newa h h2 h3 h4)
theorem d106_73 : decode (mB 106) 73 = .ok (.putfield 35, 3) := by decide +kernel
theorem s106_73 {l0 l1 : Option Value} {st : List Value} {q : Nat} {x : Nat} {mi : Nat → Nat → Int32} {ml : Nat → Nat → Int64} {mr : Nat → Nat → Option Nat} {nx : Nat} {Q : Option Value → kMem → Prop} (h : kIs nx q 5 = true) (hx : x < 1000) : kJ 106 73 [l0, l1] (.ref x :: .ref q :: st) (mi, ml, mr, nx) Q = kJ 106 76 [l0, l1] st (mi, ml, kupR mr q 24 (some x), nx) Q := kJ_next d106_73 (kg_putr 5 24 rfl h (by decide) (by decide) rfl rfl hx)
theorem d106_76 : decode (mB 106) 76 = .ok (.aload_n 0, 1) := by decide +kernel
theorem s106_76 {l1 : Option Value} {st : List Value} {x : Nat} {m : kMem} {Q : Option Value → kMem → Prop} : kJ 106 76 [some (.ref x), l1] st m Q = kJ 106 77 [some (.ref x), l1] (.ref x :: st) m Q := kJ_next d106_76 rfl
theorem d106_77 : decode (mB 106) 77 = .ok (.sipush 160, 3) := by decide +kernel
theorem s106_77 {l0 l1 : Option Value} {st : List Value} {m : kMem} {Q : Option Value → kMem → Prop} : kJ 106 77 [l0, l1] st m Q = kJ 106 80 [l0, l1] (.int (nI 160) :: st) m Q := kJ_next d106_77 rfl
theorem d106_80 : decode (mB 106) 80 = .ok (.newarray .int, 2) := by decide +kernel
theorem s106_80 {l0 l1 : Option Value} {st : List Value} {n : Int32} {mi : Nat → Nat → Int32} {ml : Nat → Nat → Int64} {mr : Nat → Nat → Option Nat} {nx : Nat} {Q : Option Value → kMem → Prop} (h : nx < 95) (h2 : kAt nx = (10, n.toNatClampNeg)) (h3 : ¬ n < 0) (h4 : n.toNatClampNeg ≤ 2000) : kJ 106 80 [l0, l1] (.int n :: st) (mi, ml, mr, nx) Q = kJ 106 82 [l0, l1] (.ref nx :: st) (kRow mi nx (fun _ => 0), kRow ml nx (fun _ => 0), kRow mr nx (fun _ => none), nx + 1) Q := kJ_next d106_80 (kg_newa h h2 h3 h4)
theorem d106_82 : decode (mB 106) 82 = .ok (.putfield 38, 3) := by decide +kernel
theorem s106_82 {l0 l1 : Option Value} {st : List Value} {q : Nat} {x : Nat} {mi : Nat → Nat → Int32} {ml : Nat → Nat → Int64} {mr : Nat → Nat → Option Nat} {nx : Nat} {Q : Option Value → kMem → Prop} (h : kIs nx q 5 = true) (hx : x < 1000) : kJ 106 82 [l0, l1] (.ref x :: .ref q :: st) (mi, ml, mr, nx) Q = kJ 106 85 [l0, l1] st (mi, ml, kupR mr q 25 (some x), nx) Q := kJ_next d106_82 (kg_putr 5 25 rfl h (by decide) (by decide) rfl rfl hx)
theorem d106_85 : decode (mB 106) 85 = .ok (.aload_n 0, 1) := by decide +kernel
theorem s106_85 {l1 : Option Value} {st : List Value} {x : Nat} {m : kMem} {Q : Option Value → kMem → Prop} : kJ 106 85 [some (.ref x), l1] st m Q = kJ 106 86 [some (.ref x), l1] (.ref x :: st) m Q := kJ_next d106_85 rfl
theorem d106_86 : decode (mB 106) 86 = .ok (.bipush 74, 2) := by decide +kernel
theorem s106_86 {l0 l1 : Option Value} {st : List Value} {m : kMem} {Q : Option Value → kMem → Prop} : kJ 106 86 [l0, l1] st m Q = kJ 106 88 [l0, l1] (.int (nI 74) :: st) m Q := kJ_next d106_86 rfl
theorem d106_88 : decode (mB 106) 88 = .ok (.newarray .int, 2) := by decide +kernel
theorem s106_88 {l0 l1 : Option Value} {st : List Value} {n : Int32} {mi : Nat → Nat → Int32} {ml : Nat → Nat → Int64} {mr : Nat → Nat → Option Nat} {nx : Nat} {Q : Option Value → kMem → Prop} (h : nx < 95) (h2 : kAt nx = (10, n.toNatClampNeg)) (h3 : ¬ n < 0) (h4 : n.toNatClampNeg ≤ 2000) : kJ 106 88 [l0, l1] (.int n :: st) (mi, ml, mr, nx) Q = kJ 106 90 [l0, l1] (.ref nx :: st) (kRow mi nx (fun _ => 0), kRow ml nx (fun _ => 0), kRow mr nx (fun _ => none), nx + 1) Q := kJ_next d106_88 (kg_newa h h2 h3 h4)
theorem d106_90 : decode (mB 106) 90 = .ok (.putfield 41, 3) := by decide +kernel
theorem s106_90 {l0 l1 : Option Value} {st : List Value} {q : Nat} {x : Nat} {mi : Nat → Nat → Int32} {ml : Nat → Nat → Int64} {mr : Nat → Nat → Option Nat} {nx : Nat} {Q : Option Value → kMem → Prop} (h : kIs nx q 5 = true) (hx : x < 1000) : kJ 106 90 [l0, l1] (.ref x :: .ref q :: st) (mi, ml, mr, nx) Q = kJ 106 93 [l0, l1] st (mi, ml, kupR mr q 27 (some x), nx) Q := kJ_next d106_90 (kg_putr 5 27 rfl h (by decide) (by decide) rfl rfl hx)
theorem d106_93 : decode (mB 106) 93 = .ok (.iconst 0, 1) := by decide +kernel
theorem s106_93 {l0 l1 : Option Value} {st : List Value} {m : kMem} {Q : Option Value → kMem → Prop} : kJ 106 93 [l0, l1] st m Q = kJ 106 94 [l0, l1] (.int (nI 0) :: st) m Q := kJ_next d106_93 rfl
theorem d106_94 : decode (mB 106) 94 = .ok (.istore_n 1, 1) := by decide +kernel
theorem s106_94 {l0 l1 : Option Value} {st : List Value} {x : Int32} {m : kMem} {Q : Option Value → kMem → Prop} (hp : kNL l0 = true) : kJ 106 94 [l0, l1] (.int x :: st) m Q = kJ 106 95 [l0, some (.int x)] st m Q := kJ_next d106_94 (kg_sti (Nat.le_of_ble_eq_true rfl) hp)
theorem d106_95 : decode (mB 106) 95 = .ok (.iload_n 1, 1) := by decide +kernel
theorem s106_95 {l0 : Option Value} {st : List Value} {x : Int32} {m : kMem} {Q : Option Value → kMem → Prop} : kJ 106 95 [l0, some (.int x)] st m Q = kJ 106 96 [l0, some (.int x)] (.int x :: st) m Q := kJ_next d106_95 rfl
theorem d106_96 : decode (mB 106) 96 = .ok (.iconst 4, 1) := by decide +kernel
theorem s106_96 {l0 l1 : Option Value} {st : List Value} {m : kMem} {Q : Option Value → kMem → Prop} : kJ 106 96 [l0, l1] st m Q = kJ 106 97 [l0, l1] (.int (nI 4) :: st) m Q := kJ_next d106_96 rfl
theorem d106_97 : decode (mB 106) 97 = .ok (.if_icmp .ge 17, 3) := by decide +kernel
theorem s106_97 {l0 l1 : Option Value} {st : List Value} {a b : Int32} {m : kMem} {Q : Option Value → kMem → Prop} : kJ 106 97 [l0, l1] (.int b :: .int a :: st) m Q = (if b ≤ a then kJ 106 114 [l0, l1] st m Q else kJ 106 100 [l0, l1] st m Q) := kJ_if d106_97 rfl (fun h => kJ_next d106_97 h) (fun h => kJ_next d106_97 h)
theorem d106_100 : decode (mB 106) 100 = .ok (.aload_n 0, 1) := by decide +kernel
theorem s106_100 {l1 : Option Value} {st : List Value} {x : Nat} {m : kMem} {Q : Option Value → kMem → Prop} : kJ 106 100 [some (.ref x), l1] st m Q = kJ 106 101 [some (.ref x), l1] (.ref x :: st) m Q := kJ_next d106_100 rfl
theorem d106_101 : decode (mB 106) 101 = .ok (.getfield 32, 3) := by decide +kernel
theorem s106_101 {l0 l1 : Option Value} {st : List Value} {q : Nat} {mi : Nat → Nat → Int32} {ml : Nat → Nat → Int64} {mr : Nat → Nat → Option Nat} {nx : Nat} {Q : Option Value → kMem → Prop} (h : kIs nx q 5 = true) : kJ 106 101 [l0, l1] (.ref q :: st) (mi, ml, mr, nx) Q = kJ 106 104 [l0, l1] (va_rf (mr q 23) :: st) (mi, ml, mr, nx) Q := kJ_next d106_101 (kg_getr 5 23 rfl h (by decide))
theorem d106_104 : decode (mB 106) 104 = .ok (.iload_n 1, 1) := by decide +kernel
theorem s106_104 {l0 : Option Value} {st : List Value} {x : Int32} {m : kMem} {Q : Option Value → kMem → Prop} : kJ 106 104 [l0, some (.int x)] st m Q = kJ 106 105 [l0, some (.int x)] (.int x :: st) m Q := kJ_next d106_104 rfl
theorem d106_105 : decode (mB 106) 105 = .ok (.bipush (-4), 2) := by decide +kernel
theorem s106_105 {l0 l1 : Option Value} {st : List Value} {m : kMem} {Q : Option Value → kMem → Prop} : kJ 106 105 [l0, l1] st m Q = kJ 106 107 [l0, l1] (.int (-4) :: st) m Q := kJ_next d106_105 rfl
theorem d106_107 : decode (mB 106) 107 = .ok (.iastore, 1) := by decide +kernel
theorem s106_107 {l0 l1 : Option Value} {st : List Value} {q : Nat} {i x : Int32} {mi : Nat → Nat → Int32} {ml : Nat → Nat → Int64} {mr : Nat → Nat → Option Nat} {nx : Nat} {Q : Option Value → kMem → Prop} (h : kIs nx q 10 = true) : kJ 106 107 [l0, l1] (.int x :: .int i :: .ref q :: st) (mi, ml, mr, nx) Q = (vp_in i (kAl q) ∧ kJ 106 108 [l0, l1] st (kup mi q i.toNatClampNeg x, ml, mr, nx) Q) := kg_astJ d106_107 rfl (kAr_of h)
theorem d106_108 : decode (mB 106) 108 = .ok (.iinc 1 1, 3) := by decide +kernel
theorem s106_108 {l0 : Option Value} {st : List Value} {x : Int32} {m : kMem} {Q : Option Value → kMem → Prop} (hp : kNL l0 = true) : kJ 106 108 [l0, some (.int x)] st m Q = kJ 106 111 [l0, some (.int (x + (nI 1)))] st m Q := kJ_next d106_108 (kg_inc rfl (Nat.le_of_ble_eq_true rfl) hp)
theorem d106_111 : decode (mB 106) 111 = .ok (.goto (-16), 3) := by decide +kernel
theorem s106_111 {l0 l1 : Option Value} {st : List Value} {m : kMem} {Q : Option Value → kMem → Prop} : kJ 106 111 [l0, l1] st m Q = kJ 106 95 [l0, l1] st m Q := kJ_next d106_111 rfl
theorem d106_114 : decode (mB 106) 114 = .ok (.aload_n 0, 1) := by decide +kernel
theorem s106_114 {l1 : Option Value} {st : List Value} {x : Nat} {m : kMem} {Q : Option Value → kMem → Prop} : kJ 106 114 [some (.ref x), l1] st m Q = kJ 106 115 [some (.ref x), l1] (.ref x :: st) m Q := kJ_next d106_114 rfl
theorem d106_115 : decode (mB 106) 115 = .ok (.invokevirtual 44, 3) := by decide +kernel
theorem s106_115 {l0 l1 : Option Value} {v0 : Nat} {m : kMem} {Q : Option Value → kMem → Prop} (h : kIs m.2.2.2 v0 5 = true) : kJ 106 115 [l0, l1] [.ref v0] m Q = kJ 110 0 [some (.ref v0), none] [] m (fun v m2 => kJ 106 118 [l0, l1] (v.toList ++ []) m2 Q) := kJ_call d106_115 (kg_callv 110 0 rfl rfl rfl rfl (Nat.le_of_ble_eq_true rfl) (Nat.le_of_ble_eq_true rfl) (Nat.le_of_ble_eq_true rfl) h rfl)
theorem d106_118 : decode (mB 106) 118 = .ok (.aload_n 0, 1) := by decide +kernel
theorem s106_118 {l1 : Option Value} {st : List Value} {x : Nat} {m : kMem} {Q : Option Value → kMem → Prop} : kJ 106 118 [some (.ref x), l1] st m Q = kJ 106 119 [some (.ref x), l1] (.ref x :: st) m Q := kJ_next d106_118 rfl
theorem d106_119 : decode (mB 106) 119 = .ok (.invokevirtual 47, 3) := by decide +kernel
theorem s106_119 {l0 l1 : Option Value} {v0 : Nat} {m : kMem} {Q : Option Value → kMem → Prop} (h : kIs m.2.2.2 v0 5 = true) : kJ 106 119 [l0, l1] [.ref v0] m Q = kJ 111 0 [some (.ref v0), none, none] [] m (fun v m2 => kJ 106 122 [l0, l1] (v.toList ++ []) m2 Q) := kJ_call d106_119 (kg_callv 111 0 rfl rfl rfl rfl (Nat.le_of_ble_eq_true rfl) (Nat.le_of_ble_eq_true rfl) (Nat.le_of_ble_eq_true rfl) h rfl)
theorem d106_122 : decode (mB 106) 122 = .ok (.return_, 1) := by decide +kernel
theorem s106_122 {l0 l1 : Option Value} {m : kMem} {Q : Option Value → kMem → Prop} : kJ 106 122 [l0, l1] [] m Q = Q none m := kJ_ret d106_122 rfl
theorem d107_0 : decode (mB 107) 0 = .ok (.lload_n 0, 1) := by decide +kernel
theorem s107_0 {l1 l2 l3 l4 l5 : Option Value} {st : List Value} {x : Int64} {m : kMem} {Q : Option Value → kMem → Prop} : kJ 107 0 [some (.long x), l1, l2, l3, l4, l5] st m Q = kJ 107 1 [some (.long x), l1, l2, l3, l4, l5] (.long x :: st) m Q := kJ_next d107_0 rfl
theorem d107_1 : decode (mB 107) 1 = .ok (.lload_n 2, 1) := by decide +kernel
theorem s107_1 {l0 l1 l3 l4 l5 : Option Value} {st : List Value} {x : Int64} {m : kMem} {Q : Option Value → kMem → Prop} : kJ 107 1 [l0, l1, some (.long x), l3, l4, l5] st m Q = kJ 107 2 [l0, l1, some (.long x), l3, l4, l5] (.long x :: st) m Q := kJ_next d107_1 rfl
theorem d107_2 : decode (mB 107) 2 = .ok (.lcmp, 1) := by decide +kernel
theorem s107_2 {l0 l1 l2 l3 l4 l5 : Option Value} {st : List Value} {a b : Int64} {m : kMem} {Q : Option Value → kMem → Prop} : kJ 107 2 [l0, l1, l2, l3, l4, l5] (.long b :: .long a :: st) m Q = kJ 107 3 [l0, l1, l2, l3, l4, l5] (.int (lg_cmp a b) :: st) m Q := kJ_next d107_2 rfl
theorem d107_3 : decode (mB 107) 3 = .ok (.ifCond .lt 14, 3) := by decide +kernel
theorem s107_3 {l0 l1 l2 l3 l4 l5 : Option Value} {st : List Value} {a : Int32} {m : kMem} {Q : Option Value → kMem → Prop} : kJ 107 3 [l0, l1, l2, l3, l4, l5] (.int a :: st) m Q = (if a < 0 then kJ 107 17 [l0, l1, l2, l3, l4, l5] st m Q else kJ 107 6 [l0, l1, l2, l3, l4, l5] st m Q) := kJ_if d107_3 rfl (fun h => kJ_next d107_3 h) (fun h => kJ_next d107_3 h)
theorem d107_6 : decode (mB 107) 6 = .ok (.lload_n 0, 1) := by decide +kernel
theorem s107_6 {l1 l2 l3 l4 l5 : Option Value} {st : List Value} {x : Int64} {m : kMem} {Q : Option Value → kMem → Prop} : kJ 107 6 [some (.long x), l1, l2, l3, l4, l5] st m Q = kJ 107 7 [some (.long x), l1, l2, l3, l4, l5] (.long x :: st) m Q := kJ_next d107_6 rfl
theorem d107_7 : decode (mB 107) 7 = .ok (.lload 4, 2) := by decide +kernel
theorem s107_7 {l0 l1 l2 l3 l5 : Option Value} {st : List Value} {x : Int64} {m : kMem} {Q : Option Value → kMem → Prop} : kJ 107 7 [l0, l1, l2, l3, some (.long x), l5] st m Q = kJ 107 9 [l0, l1, l2, l3, some (.long x), l5] (.long x :: st) m Q := kJ_next d107_7 rfl
theorem d107_9 : decode (mB 107) 9 = .ok (.lcmp, 1) := by decide +kernel
theorem s107_9 {l0 l1 l2 l3 l4 l5 : Option Value} {st : List Value} {a b : Int64} {m : kMem} {Q : Option Value → kMem → Prop} : kJ 107 9 [l0, l1, l2, l3, l4, l5] (.long b :: .long a :: st) m Q = kJ 107 10 [l0, l1, l2, l3, l4, l5] (.int (lg_cmp a b) :: st) m Q := kJ_next d107_9 rfl
theorem d107_10 : decode (mB 107) 10 = .ok (.ifCond .gt 7, 3) := by decide +kernel
theorem s107_10 {l0 l1 l2 l3 l4 l5 : Option Value} {st : List Value} {a : Int32} {m : kMem} {Q : Option Value → kMem → Prop} : kJ 107 10 [l0, l1, l2, l3, l4, l5] (.int a :: st) m Q = (if 0 < a then kJ 107 17 [l0, l1, l2, l3, l4, l5] st m Q else kJ 107 13 [l0, l1, l2, l3, l4, l5] st m Q) := kJ_if d107_10 rfl (fun h => kJ_next d107_10 h) (fun h => kJ_next d107_10 h)
theorem d107_13 : decode (mB 107) 13 = .ok (.iconst 1, 1) := by decide +kernel
theorem s107_13 {l0 l1 l2 l3 l4 l5 : Option Value} {st : List Value} {m : kMem} {Q : Option Value → kMem → Prop} : kJ 107 13 [l0, l1, l2, l3, l4, l5] st m Q = kJ 107 14 [l0, l1, l2, l3, l4, l5] (.int (nI 1) :: st) m Q := kJ_next d107_13 rfl
theorem d107_14 : decode (mB 107) 14 = .ok (.goto 4, 3) := by decide +kernel
theorem s107_14 {l0 l1 l2 l3 l4 l5 : Option Value} {st : List Value} {m : kMem} {Q : Option Value → kMem → Prop} : kJ 107 14 [l0, l1, l2, l3, l4, l5] st m Q = kJ 107 18 [l0, l1, l2, l3, l4, l5] st m Q := kJ_next d107_14 rfl
theorem d107_17 : decode (mB 107) 17 = .ok (.iconst 0, 1) := by decide +kernel
theorem s107_17 {l0 l1 l2 l3 l4 l5 : Option Value} {st : List Value} {m : kMem} {Q : Option Value → kMem → Prop} : kJ 107 17 [l0, l1, l2, l3, l4, l5] st m Q = kJ 107 18 [l0, l1, l2, l3, l4, l5] (.int (nI 0) :: st) m Q := kJ_next d107_17 rfl
theorem d107_18 : decode (mB 107) 18 = .ok (.ireturn, 1) := by decide +kernel
theorem s107_18 {l0 l1 l2 l3 l4 l5 : Option Value} {x : Int32} {m : kMem} {Q : Option Value → kMem → Prop} (hx : x = 0 ∨ x = 1) : kJ 107 18 [l0, l1, l2, l3, l4, l5] [.int x] m Q = Q (some (.int x)) m := kJ_ret d107_18 (kg_retz (by decide) hx)
theorem d108_0 : decode (mB 108) 0 = .ok (.iload_n 0, 1) := by decide +kernel
theorem s108_0 {st : List Value} {x : Int32} {m : kMem} {Q : Option Value → kMem → Prop} : kJ 108 0 [some (.int x)] st m Q = kJ 108 1 [some (.int x)] (.int x :: st) m Q := kJ_next d108_0 rfl
theorem d108_1 : decode (mB 108) 1 = .ok (.ifCond .eq 7, 3) := by decide +kernel
theorem s108_1 {l0 : Option Value} {st : List Value} {a : Int32} {m : kMem} {Q : Option Value → kMem → Prop} : kJ 108 1 [l0] (.int a :: st) m Q = (if a = 0 then kJ 108 8 [l0] st m Q else kJ 108 4 [l0] st m Q) := kJ_if d108_1 rfl (fun h => kJ_next d108_1 h) (fun h => kJ_next d108_1 h)
theorem d108_4 : decode (mB 108) 4 = .ok (.iconst 1, 1) := by decide +kernel
theorem s108_4 {l0 : Option Value} {st : List Value} {m : kMem} {Q : Option Value → kMem → Prop} : kJ 108 4 [l0] st m Q = kJ 108 5 [l0] (.int (nI 1) :: st) m Q := kJ_next d108_4 rfl
theorem d108_5 : decode (mB 108) 5 = .ok (.goto 4, 3) := by decide +kernel
theorem s108_5 {l0 : Option Value} {st : List Value} {m : kMem} {Q : Option Value → kMem → Prop} : kJ 108 5 [l0] st m Q = kJ 108 9 [l0] st m Q := kJ_next d108_5 rfl
theorem d108_8 : decode (mB 108) 8 = .ok (.iconst 0, 1) := by decide +kernel
theorem s108_8 {l0 : Option Value} {st : List Value} {m : kMem} {Q : Option Value → kMem → Prop} : kJ 108 8 [l0] st m Q = kJ 108 9 [l0] (.int (nI 0) :: st) m Q := kJ_next d108_8 rfl
theorem d108_9 : decode (mB 108) 9 = .ok (.ireturn, 1) := by decide +kernel
theorem s108_9 {l0 : Option Value} {x : Int32} {m : kMem} {Q : Option Value → kMem → Prop} : kJ 108 9 [l0] [.int x] m Q = Q (some (.int x)) m := kJ_ret d108_9 rfl
theorem d109_0 : decode (mB 109) 0 = .ok (.iload_n 0, 1) := by decide +kernel
theorem s109_0 {l1 : Option Value} {st : List Value} {x : Int32} {m : kMem} {Q : Option Value → kMem → Prop} : kJ 109 0 [some (.int x), l1] st m Q = kJ 109 1 [some (.int x), l1] (.int x :: st) m Q := kJ_next d109_0 rfl
theorem d109_1 : decode (mB 109) 1 = .ok (.ifCond .ge 7, 3) := by decide +kernel
theorem s109_1 {l0 l1 : Option Value} {st : List Value} {a : Int32} {m : kMem} {Q : Option Value → kMem → Prop} : kJ 109 1 [l0, l1] (.int a :: st) m Q = (if 0 ≤ a then kJ 109 8 [l0, l1] st m Q else kJ 109 4 [l0, l1] st m Q) := kJ_if d109_1 rfl (fun h => kJ_next d109_1 h) (fun h => kJ_next d109_1 h)
theorem d109_4 : decode (mB 109) 4 = .ok (.iconst 0, 1) := by decide +kernel
theorem s109_4 {l0 l1 : Option Value} {st : List Value} {m : kMem} {Q : Option Value → kMem → Prop} : kJ 109 4 [l0, l1] st m Q = kJ 109 5 [l0, l1] (.int (nI 0) :: st) m Q := kJ_next d109_4 rfl
theorem d109_5 : decode (mB 109) 5 = .ok (.goto 13, 3) := by decide +kernel
theorem s109_5 {l0 l1 : Option Value} {st : List Value} {m : kMem} {Q : Option Value → kMem → Prop} : kJ 109 5 [l0, l1] st m Q = kJ 109 18 [l0, l1] st m Q := kJ_next d109_5 rfl
theorem d109_8 : decode (mB 109) 8 = .ok (.iload_n 0, 1) := by decide +kernel
theorem s109_8 {l1 : Option Value} {st : List Value} {x : Int32} {m : kMem} {Q : Option Value → kMem → Prop} : kJ 109 8 [some (.int x), l1] st m Q = kJ 109 9 [some (.int x), l1] (.int x :: st) m Q := kJ_next d109_8 rfl
theorem d109_9 : decode (mB 109) 9 = .ok (.iload_n 1, 1) := by decide +kernel
theorem s109_9 {l0 : Option Value} {st : List Value} {x : Int32} {m : kMem} {Q : Option Value → kMem → Prop} : kJ 109 9 [l0, some (.int x)] st m Q = kJ 109 10 [l0, some (.int x)] (.int x :: st) m Q := kJ_next d109_9 rfl
theorem d109_10 : decode (mB 109) 10 = .ok (.if_icmp .le 7, 3) := by decide +kernel
theorem s109_10 {l0 l1 : Option Value} {st : List Value} {a b : Int32} {m : kMem} {Q : Option Value → kMem → Prop} : kJ 109 10 [l0, l1] (.int b :: .int a :: st) m Q = (if a ≤ b then kJ 109 17 [l0, l1] st m Q else kJ 109 13 [l0, l1] st m Q) := kJ_if d109_10 rfl (fun h => kJ_next d109_10 h) (fun h => kJ_next d109_10 h)
theorem d109_13 : decode (mB 109) 13 = .ok (.iload_n 1, 1) := by decide +kernel
theorem s109_13 {l0 : Option Value} {st : List Value} {x : Int32} {m : kMem} {Q : Option Value → kMem → Prop} : kJ 109 13 [l0, some (.int x)] st m Q = kJ 109 14 [l0, some (.int x)] (.int x :: st) m Q := kJ_next d109_13 rfl
theorem d109_14 : decode (mB 109) 14 = .ok (.goto 4, 3) := by decide +kernel
theorem s109_14 {l0 l1 : Option Value} {st : List Value} {m : kMem} {Q : Option Value → kMem → Prop} : kJ 109 14 [l0, l1] st m Q = kJ 109 18 [l0, l1] st m Q := kJ_next d109_14 rfl
theorem d109_17 : decode (mB 109) 17 = .ok (.iload_n 0, 1) := by decide +kernel
theorem s109_17 {l1 : Option Value} {st : List Value} {x : Int32} {m : kMem} {Q : Option Value → kMem → Prop} : kJ 109 17 [some (.int x), l1] st m Q = kJ 109 18 [some (.int x), l1] (.int x :: st) m Q := kJ_next d109_17 rfl
theorem d109_18 : decode (mB 109) 18 = .ok (.ireturn, 1) := by decide +kernel
theorem s109_18 {l0 l1 : Option Value} {x : Int32} {m : kMem} {Q : Option Value → kMem → Prop} : kJ 109 18 [l0, l1] [.int x] m Q = Q (some (.int x)) m := kJ_ret d109_18 rfl
theorem d110_0 : decode (mB 110) 0 = .ok (.iconst 0, 1) := by decide +kernel
theorem s110_0 {l0 l1 : Option Value} {st : List Value} {m : kMem} {Q : Option Value → kMem → Prop} : kJ 110 0 [l0, l1] st m Q = kJ 110 1 [l0, l1] (.int (nI 0) :: st) m Q := kJ_next d110_0 rfl
theorem d110_1 : decode (mB 110) 1 = .ok (.istore_n 1, 1) := by decide +kernel
theorem s110_1 {l0 l1 : Option Value} {st : List Value} {x : Int32} {m : kMem} {Q : Option Value → kMem → Prop} (hp : kNL l0 = true) : kJ 110 1 [l0, l1] (.int x :: st) m Q = kJ 110 2 [l0, some (.int x)] st m Q := kJ_next d110_1 (kg_sti (Nat.le_of_ble_eq_true rfl) hp)
theorem d110_2 : decode (mB 110) 2 = .ok (.iload_n 1, 1) := by decide +kernel
theorem s110_2 {l0 : Option Value} {st : List Value} {x : Int32} {m : kMem} {Q : Option Value → kMem → Prop} : kJ 110 2 [l0, some (.int x)] st m Q = kJ 110 3 [l0, some (.int x)] (.int x :: st) m Q := kJ_next d110_2 rfl
theorem d110_3 : decode (mB 110) 3 = .ok (.bipush 74, 2) := by decide +kernel
theorem s110_3 {l0 l1 : Option Value} {st : List Value} {m : kMem} {Q : Option Value → kMem → Prop} : kJ 110 3 [l0, l1] st m Q = kJ 110 5 [l0, l1] (.int (nI 74) :: st) m Q := kJ_next d110_3 rfl
theorem d110_5 : decode (mB 110) 5 = .ok (.if_icmp .ge 16, 3) := by decide +kernel
theorem s110_5 {l0 l1 : Option Value} {st : List Value} {a b : Int32} {m : kMem} {Q : Option Value → kMem → Prop} : kJ 110 5 [l0, l1] (.int b :: .int a :: st) m Q = (if b ≤ a then kJ 110 21 [l0, l1] st m Q else kJ 110 8 [l0, l1] st m Q) := kJ_if d110_5 rfl (fun h => kJ_next d110_5 h) (fun h => kJ_next d110_5 h)
theorem d110_8 : decode (mB 110) 8 = .ok (.aload_n 0, 1) := by decide +kernel
theorem s110_8 {l1 : Option Value} {st : List Value} {x : Nat} {m : kMem} {Q : Option Value → kMem → Prop} : kJ 110 8 [some (.ref x), l1] st m Q = kJ 110 9 [some (.ref x), l1] (.ref x :: st) m Q := kJ_next d110_8 rfl
theorem d110_9 : decode (mB 110) 9 = .ok (.getfield 20, 3) := by decide +kernel
theorem s110_9 {l0 l1 : Option Value} {st : List Value} {q : Nat} {mi : Nat → Nat → Int32} {ml : Nat → Nat → Int64} {mr : Nat → Nat → Option Nat} {nx : Nat} {Q : Option Value → kMem → Prop} (h : kIs nx q 5 = true) : kJ 110 9 [l0, l1] (.ref q :: st) (mi, ml, mr, nx) Q = kJ 110 12 [l0, l1] (va_rf (mr q 3) :: st) (mi, ml, mr, nx) Q := kJ_next d110_9 (kg_getr 5 3 rfl h (by decide))
theorem d110_12 : decode (mB 110) 12 = .ok (.iload_n 1, 1) := by decide +kernel
theorem s110_12 {l0 : Option Value} {st : List Value} {x : Int32} {m : kMem} {Q : Option Value → kMem → Prop} : kJ 110 12 [l0, some (.int x)] st m Q = kJ 110 13 [l0, some (.int x)] (.int x :: st) m Q := kJ_next d110_12 rfl
theorem d110_13 : decode (mB 110) 13 = .ok (.iconst 0, 1) := by decide +kernel
theorem s110_13 {l0 l1 : Option Value} {st : List Value} {m : kMem} {Q : Option Value → kMem → Prop} : kJ 110 13 [l0, l1] st m Q = kJ 110 14 [l0, l1] (.int (nI 0) :: st) m Q := kJ_next d110_13 rfl
theorem d110_14 : decode (mB 110) 14 = .ok (.iastore, 1) := by decide +kernel
theorem s110_14 {l0 l1 : Option Value} {st : List Value} {q : Nat} {i x : Int32} {mi : Nat → Nat → Int32} {ml : Nat → Nat → Int64} {mr : Nat → Nat → Option Nat} {nx : Nat} {Q : Option Value → kMem → Prop} (h : kIs nx q 10 = true) : kJ 110 14 [l0, l1] (.int x :: .int i :: .ref q :: st) (mi, ml, mr, nx) Q = (vp_in i (kAl q) ∧ kJ 110 15 [l0, l1] st (kup mi q i.toNatClampNeg x, ml, mr, nx) Q) := kg_astJ d110_14 rfl (kAr_of h)
theorem d110_15 : decode (mB 110) 15 = .ok (.iinc 1 1, 3) := by decide +kernel
theorem s110_15 {l0 : Option Value} {st : List Value} {x : Int32} {m : kMem} {Q : Option Value → kMem → Prop} (hp : kNL l0 = true) : kJ 110 15 [l0, some (.int x)] st m Q = kJ 110 18 [l0, some (.int (x + (nI 1)))] st m Q := kJ_next d110_15 (kg_inc rfl (Nat.le_of_ble_eq_true rfl) hp)
theorem d110_18 : decode (mB 110) 18 = .ok (.goto (-16), 3) := by decide +kernel
theorem s110_18 {l0 l1 : Option Value} {st : List Value} {m : kMem} {Q : Option Value → kMem → Prop} : kJ 110 18 [l0, l1] st m Q = kJ 110 2 [l0, l1] st m Q := kJ_next d110_18 rfl
theorem d110_21 : decode (mB 110) 21 = .ok (.aload_n 0, 1) := by decide +kernel
theorem s110_21 {l1 : Option Value} {st : List Value} {x : Nat} {m : kMem} {Q : Option Value → kMem → Prop} : kJ 110 21 [some (.ref x), l1] st m Q = kJ 110 22 [some (.ref x), l1] (.ref x :: st) m Q := kJ_next d110_21 rfl
theorem d110_22 : decode (mB 110) 22 = .ok (.getfield 20, 3) := by decide +kernel
theorem s110_22 {l0 l1 : Option Value} {st : List Value} {q : Nat} {mi : Nat → Nat → Int32} {ml : Nat → Nat → Int64} {mr : Nat → Nat → Option Nat} {nx : Nat} {Q : Option Value → kMem → Prop} (h : kIs nx q 5 = true) : kJ 110 22 [l0, l1] (.ref q :: st) (mi, ml, mr, nx) Q = kJ 110 25 [l0, l1] (va_rf (mr q 3) :: st) (mi, ml, mr, nx) Q := kJ_next d110_22 (kg_getr 5 3 rfl h (by decide))
theorem d110_25 : decode (mB 110) 25 = .ok (.bipush 53, 2) := by decide +kernel
theorem s110_25 {l0 l1 : Option Value} {st : List Value} {m : kMem} {Q : Option Value → kMem → Prop} : kJ 110 25 [l0, l1] st m Q = kJ 110 27 [l0, l1] (.int (nI 53) :: st) m Q := kJ_next d110_25 rfl
theorem d110_27 : decode (mB 110) 27 = .ok (.iconst 2, 1) := by decide +kernel
theorem s110_27 {l0 l1 : Option Value} {st : List Value} {m : kMem} {Q : Option Value → kMem → Prop} : kJ 110 27 [l0, l1] st m Q = kJ 110 28 [l0, l1] (.int (nI 2) :: st) m Q := kJ_next d110_27 rfl
theorem d110_28 : decode (mB 110) 28 = .ok (.iastore, 1) := by decide +kernel
theorem s110_28 {l0 l1 : Option Value} {st : List Value} {q : Nat} {i x : Int32} {mi : Nat → Nat → Int32} {ml : Nat → Nat → Int64} {mr : Nat → Nat → Option Nat} {nx : Nat} {Q : Option Value → kMem → Prop} (h : kIs nx q 10 = true) : kJ 110 28 [l0, l1] (.int x :: .int i :: .ref q :: st) (mi, ml, mr, nx) Q = (vp_in i (kAl q) ∧ kJ 110 29 [l0, l1] st (kup mi q i.toNatClampNeg x, ml, mr, nx) Q) := kg_astJ d110_28 rfl (kAr_of h)
theorem d110_29 : decode (mB 110) 29 = .ok (.aload_n 0, 1) := by decide +kernel
theorem s110_29 {l1 : Option Value} {st : List Value} {x : Nat} {m : kMem} {Q : Option Value → kMem → Prop} : kJ 110 29 [some (.ref x), l1] st m Q = kJ 110 30 [some (.ref x), l1] (.ref x :: st) m Q := kJ_next d110_29 rfl
theorem d110_30 : decode (mB 110) 30 = .ok (.iconst 0, 1) := by decide +kernel
theorem s110_30 {l0 l1 : Option Value} {st : List Value} {m : kMem} {Q : Option Value → kMem → Prop} : kJ 110 30 [l0, l1] st m Q = kJ 110 31 [l0, l1] (.int (nI 0) :: st) m Q := kJ_next d110_30 rfl
theorem d110_31 : decode (mB 110) 31 = .ok (.putfield 50, 3) := by decide +kernel
theorem s110_31 {l0 l1 : Option Value} {st : List Value} {q : Nat} {x : Int32} {mi : Nat → Nat → Int32} {ml : Nat → Nat → Int64} {mr : Nat → Nat → Option Nat} {nx : Nat} {Q : Option Value → kMem → Prop} (h : kIs nx q 5 = true) (hx : x = 0 ∨ x = 1) : kJ 110 31 [l0, l1] (.int x :: .ref q :: st) (mi, ml, mr, nx) Q = kJ 110 34 [l0, l1] st (kup mi q 4 x, ml, mr, nx) Q := kJ_next d110_31 (kg_puti 5 4 rfl h (by decide) (Or.inr ⟨by decide, hx⟩))
theorem d110_34 : decode (mB 110) 34 = .ok (.aload_n 0, 1) := by decide +kernel
theorem s110_34 {l1 : Option Value} {st : List Value} {x : Nat} {m : kMem} {Q : Option Value → kMem → Prop} : kJ 110 34 [some (.ref x), l1] st m Q = kJ 110 35 [some (.ref x), l1] (.ref x :: st) m Q := kJ_next d110_34 rfl
theorem d110_35 : decode (mB 110) 35 = .ok (.iconst (-1), 1) := by decide +kernel
theorem s110_35 {l0 l1 : Option Value} {st : List Value} {m : kMem} {Q : Option Value → kMem → Prop} : kJ 110 35 [l0, l1] st m Q = kJ 110 36 [l0, l1] (.int (-1) :: st) m Q := kJ_next d110_35 rfl
theorem d110_36 : decode (mB 110) 36 = .ok (.putfield 54, 3) := by decide +kernel
theorem s110_36 {l0 l1 : Option Value} {st : List Value} {q : Nat} {x : Int32} {mi : Nat → Nat → Int32} {ml : Nat → Nat → Int64} {mr : Nat → Nat → Option Nat} {nx : Nat} {Q : Option Value → kMem → Prop} (h : kIs nx q 5 = true) : kJ 110 36 [l0, l1] (.int x :: .ref q :: st) (mi, ml, mr, nx) Q = kJ 110 39 [l0, l1] st (kup mi q 5 x, ml, mr, nx) Q := kJ_next d110_36 (kg_puti 5 5 rfl h (by decide) (Or.inl (by decide)))
theorem d110_39 : decode (mB 110) 39 = .ok (.return_, 1) := by decide +kernel
theorem s110_39 {l0 l1 : Option Value} {m : kMem} {Q : Option Value → kMem → Prop} : kJ 110 39 [l0, l1] [] m Q = Q none m := kJ_ret d110_39 rfl
theorem d111_0 : decode (mB 111) 0 = .ok (.iconst 0, 1) := by decide +kernel
theorem s111_0 {l0 l1 l2 : Option Value} {st : List Value} {m : kMem} {Q : Option Value → kMem → Prop} : kJ 111 0 [l0, l1, l2] st m Q = kJ 111 1 [l0, l1, l2] (.int (nI 0) :: st) m Q := kJ_next d111_0 rfl
theorem d111_1 : decode (mB 111) 1 = .ok (.istore_n 1, 1) := by decide +kernel
theorem s111_1 {l0 l1 l2 : Option Value} {st : List Value} {x : Int32} {m : kMem} {Q : Option Value → kMem → Prop} (hp : kNL l0 = true) : kJ 111 1 [l0, l1, l2] (.int x :: st) m Q = kJ 111 2 [l0, some (.int x), l2] st m Q := kJ_next d111_1 (kg_sti (Nat.le_of_ble_eq_true rfl) hp)
theorem d111_2 : decode (mB 111) 2 = .ok (.iload_n 1, 1) := by decide +kernel
theorem s111_2 {l0 l2 : Option Value} {st : List Value} {x : Int32} {m : kMem} {Q : Option Value → kMem → Prop} : kJ 111 2 [l0, some (.int x), l2] st m Q = kJ 111 3 [l0, some (.int x), l2] (.int x :: st) m Q := kJ_next d111_2 rfl
theorem d111_3 : decode (mB 111) 3 = .ok (.aload_n 0, 1) := by decide +kernel
theorem s111_3 {l1 l2 : Option Value} {st : List Value} {x : Nat} {m : kMem} {Q : Option Value → kMem → Prop} : kJ 111 3 [some (.ref x), l1, l2] st m Q = kJ 111 4 [some (.ref x), l1, l2] (.ref x :: st) m Q := kJ_next d111_3 rfl
theorem d111_4 : decode (mB 111) 4 = .ok (.getfield 20, 3) := by decide +kernel
theorem s111_4 {l0 l1 l2 : Option Value} {st : List Value} {q : Nat} {mi : Nat → Nat → Int32} {ml : Nat → Nat → Int64} {mr : Nat → Nat → Option Nat} {nx : Nat} {Q : Option Value → kMem → Prop} (h : kIs nx q 5 = true) : kJ 111 4 [l0, l1, l2] (.ref q :: st) (mi, ml, mr, nx) Q = kJ 111 7 [l0, l1, l2] (va_rf (mr q 3) :: st) (mi, ml, mr, nx) Q := kJ_next d111_4 (kg_getr 5 3 rfl h (by decide))
theorem d111_7 : decode (mB 111) 7 = .ok (.bipush 52, 2) := by decide +kernel
theorem s111_7 {l0 l1 l2 : Option Value} {st : List Value} {m : kMem} {Q : Option Value → kMem → Prop} : kJ 111 7 [l0, l1, l2] st m Q = kJ 111 9 [l0, l1, l2] (.int (nI 52) :: st) m Q := kJ_next d111_7 rfl
theorem d111_9 : decode (mB 111) 9 = .ok (.iaload, 1) := by decide +kernel
theorem s111_9 {l0 l1 l2 : Option Value} {st : List Value} {q : Nat} {i : Int32} {mi : Nat → Nat → Int32} {ml : Nat → Nat → Int64} {mr : Nat → Nat → Option Nat} {nx : Nat} {Q : Option Value → kMem → Prop} (h : kIs nx q 10 = true) : kJ 111 9 [l0, l1, l2] (.int i :: .ref q :: st) (mi, ml, mr, nx) Q = (vp_in i (kAl q) ∧ kJ 111 10 [l0, l1, l2] (.int (mi q i.toNatClampNeg) :: st) (mi, ml, mr, nx) Q) := kg_aldJ d111_9 rfl (kAr_of h)
theorem d111_10 : decode (mB 111) 10 = .ok (.if_icmp .ge 42, 3) := by decide +kernel
theorem s111_10 {l0 l1 l2 : Option Value} {st : List Value} {a b : Int32} {m : kMem} {Q : Option Value → kMem → Prop} : kJ 111 10 [l0, l1, l2] (.int b :: .int a :: st) m Q = (if b ≤ a then kJ 111 52 [l0, l1, l2] st m Q else kJ 111 13 [l0, l1, l2] st m Q) := kJ_if d111_10 rfl (fun h => kJ_next d111_10 h) (fun h => kJ_next d111_10 h)
theorem d111_13 : decode (mB 111) 13 = .ok (.bipush 16, 2) := by decide +kernel
theorem s111_13 {l0 l1 l2 : Option Value} {st : List Value} {m : kMem} {Q : Option Value → kMem → Prop} : kJ 111 13 [l0, l1, l2] st m Q = kJ 111 15 [l0, l1, l2] (.int (nI 16) :: st) m Q := kJ_next d111_13 rfl
theorem d111_15 : decode (mB 111) 15 = .ok (.bipush 6, 2) := by decide +kernel
theorem s111_15 {l0 l1 l2 : Option Value} {st : List Value} {m : kMem} {Q : Option Value → kMem → Prop} : kJ 111 15 [l0, l1, l2] st m Q = kJ 111 17 [l0, l1, l2] (.int (nI 6) :: st) m Q := kJ_next d111_15 rfl
theorem d111_17 : decode (mB 111) 17 = .ok (.iload_n 1, 1) := by decide +kernel
theorem s111_17 {l0 l2 : Option Value} {st : List Value} {x : Int32} {m : kMem} {Q : Option Value → kMem → Prop} : kJ 111 17 [l0, some (.int x), l2] st m Q = kJ 111 18 [l0, some (.int x), l2] (.int x :: st) m Q := kJ_next d111_17 rfl
theorem d111_18 : decode (mB 111) 18 = .ok (.imul, 1) := by decide +kernel
theorem s111_18 {l0 l1 l2 : Option Value} {st : List Value} {a b : Int32} {m : kMem} {Q : Option Value → kMem → Prop} : kJ 111 18 [l0, l1, l2] (.int b :: .int a :: st) m Q = kJ 111 19 [l0, l1, l2] (.int (a * b) :: st) m Q := kJ_next d111_18 rfl
theorem d111_19 : decode (mB 111) 19 = .ok (.iadd, 1) := by decide +kernel
theorem s111_19 {l0 l1 l2 : Option Value} {st : List Value} {a b : Int32} {m : kMem} {Q : Option Value → kMem → Prop} : kJ 111 19 [l0, l1, l2] (.int b :: .int a :: st) m Q = kJ 111 20 [l0, l1, l2] (.int (a + b) :: st) m Q := kJ_next d111_19 rfl
theorem d111_20 : decode (mB 111) 20 = .ok (.istore_n 2, 1) := by decide +kernel
theorem s111_20 {l0 l1 l2 : Option Value} {st : List Value} {x : Int32} {m : kMem} {Q : Option Value → kMem → Prop} (hp : kNL l1 = true) : kJ 111 20 [l0, l1, l2] (.int x :: st) m Q = kJ 111 21 [l0, l1, some (.int x)] st m Q := kJ_next d111_20 (kg_sti (Nat.le_of_ble_eq_true rfl) hp)
theorem d111_21 : decode (mB 111) 21 = .ok (.aload_n 0, 1) := by decide +kernel
theorem s111_21 {l1 l2 : Option Value} {st : List Value} {x : Nat} {m : kMem} {Q : Option Value → kMem → Prop} : kJ 111 21 [some (.ref x), l1, l2] st m Q = kJ 111 22 [some (.ref x), l1, l2] (.ref x :: st) m Q := kJ_next d111_21 rfl
theorem d111_22 : decode (mB 111) 22 = .ok (.getfield 20, 3) := by decide +kernel
theorem s111_22 {l0 l1 l2 : Option Value} {st : List Value} {q : Nat} {mi : Nat → Nat → Int32} {ml : Nat → Nat → Int64} {mr : Nat → Nat → Option Nat} {nx : Nat} {Q : Option Value → kMem → Prop} (h : kIs nx q 5 = true) : kJ 111 22 [l0, l1, l2] (.ref q :: st) (mi, ml, mr, nx) Q = kJ 111 25 [l0, l1, l2] (va_rf (mr q 3) :: st) (mi, ml, mr, nx) Q := kJ_next d111_22 (kg_getr 5 3 rfl h (by decide))
theorem d111_25 : decode (mB 111) 25 = .ok (.iload_n 2, 1) := by decide +kernel
theorem s111_25 {l0 l1 : Option Value} {st : List Value} {x : Int32} {m : kMem} {Q : Option Value → kMem → Prop} : kJ 111 25 [l0, l1, some (.int x)] st m Q = kJ 111 26 [l0, l1, some (.int x)] (.int x :: st) m Q := kJ_next d111_25 rfl
theorem d111_26 : decode (mB 111) 26 = .ok (.iconst 4, 1) := by decide +kernel
theorem s111_26 {l0 l1 l2 : Option Value} {st : List Value} {m : kMem} {Q : Option Value → kMem → Prop} : kJ 111 26 [l0, l1, l2] st m Q = kJ 111 27 [l0, l1, l2] (.int (nI 4) :: st) m Q := kJ_next d111_26 rfl
theorem d111_27 : decode (mB 111) 27 = .ok (.iadd, 1) := by decide +kernel
theorem s111_27 {l0 l1 l2 : Option Value} {st : List Value} {a b : Int32} {m : kMem} {Q : Option Value → kMem → Prop} : kJ 111 27 [l0, l1, l2] (.int b :: .int a :: st) m Q = kJ 111 28 [l0, l1, l2] (.int (a + b) :: st) m Q := kJ_next d111_27 rfl
theorem d111_28 : decode (mB 111) 28 = .ok (.aload_n 0, 1) := by decide +kernel
theorem s111_28 {l1 l2 : Option Value} {st : List Value} {x : Nat} {m : kMem} {Q : Option Value → kMem → Prop} : kJ 111 28 [some (.ref x), l1, l2] st m Q = kJ 111 29 [some (.ref x), l1, l2] (.ref x :: st) m Q := kJ_next d111_28 rfl
theorem d111_29 : decode (mB 111) 29 = .ok (.getfield 20, 3) := by decide +kernel
theorem s111_29 {l0 l1 l2 : Option Value} {st : List Value} {q : Nat} {mi : Nat → Nat → Int32} {ml : Nat → Nat → Int64} {mr : Nat → Nat → Option Nat} {nx : Nat} {Q : Option Value → kMem → Prop} (h : kIs nx q 5 = true) : kJ 111 29 [l0, l1, l2] (.ref q :: st) (mi, ml, mr, nx) Q = kJ 111 32 [l0, l1, l2] (va_rf (mr q 3) :: st) (mi, ml, mr, nx) Q := kJ_next d111_29 (kg_getr 5 3 rfl h (by decide))
theorem d111_32 : decode (mB 111) 32 = .ok (.iconst 3, 1) := by decide +kernel
theorem s111_32 {l0 l1 l2 : Option Value} {st : List Value} {m : kMem} {Q : Option Value → kMem → Prop} : kJ 111 32 [l0, l1, l2] st m Q = kJ 111 33 [l0, l1, l2] (.int (nI 3) :: st) m Q := kJ_next d111_32 rfl
theorem d111_33 : decode (mB 111) 33 = .ok (.aload_n 0, 1) := by decide +kernel
theorem s111_33 {l1 l2 : Option Value} {st : List Value} {x : Nat} {m : kMem} {Q : Option Value → kMem → Prop} : kJ 111 33 [some (.ref x), l1, l2] st m Q = kJ 111 34 [some (.ref x), l1, l2] (.ref x :: st) m Q := kJ_next d111_33 rfl
theorem d111_34 : decode (mB 111) 34 = .ok (.getfield 20, 3) := by decide +kernel
theorem s111_34 {l0 l1 l2 : Option Value} {st : List Value} {q : Nat} {mi : Nat → Nat → Int32} {ml : Nat → Nat → Int64} {mr : Nat → Nat → Option Nat} {nx : Nat} {Q : Option Value → kMem → Prop} (h : kIs nx q 5 = true) : kJ 111 34 [l0, l1, l2] (.ref q :: st) (mi, ml, mr, nx) Q = kJ 111 37 [l0, l1, l2] (va_rf (mr q 3) :: st) (mi, ml, mr, nx) Q := kJ_next d111_34 (kg_getr 5 3 rfl h (by decide))
theorem d111_37 : decode (mB 111) 37 = .ok (.iload_n 2, 1) := by decide +kernel
theorem s111_37 {l0 l1 : Option Value} {st : List Value} {x : Int32} {m : kMem} {Q : Option Value → kMem → Prop} : kJ 111 37 [l0, l1, some (.int x)] st m Q = kJ 111 38 [l0, l1, some (.int x)] (.int x :: st) m Q := kJ_next d111_37 rfl
theorem d111_38 : decode (mB 111) 38 = .ok (.iconst 0, 1) := by decide +kernel
theorem s111_38 {l0 l1 l2 : Option Value} {st : List Value} {m : kMem} {Q : Option Value → kMem → Prop} : kJ 111 38 [l0, l1, l2] st m Q = kJ 111 39 [l0, l1, l2] (.int (nI 0) :: st) m Q := kJ_next d111_38 rfl
theorem d111_39 : decode (mB 111) 39 = .ok (.iadd, 1) := by decide +kernel
theorem s111_39 {l0 l1 l2 : Option Value} {st : List Value} {a b : Int32} {m : kMem} {Q : Option Value → kMem → Prop} : kJ 111 39 [l0, l1, l2] (.int b :: .int a :: st) m Q = kJ 111 40 [l0, l1, l2] (.int (a + b) :: st) m Q := kJ_next d111_39 rfl
theorem d111_40 : decode (mB 111) 40 = .ok (.iaload, 1) := by decide +kernel
theorem s111_40 {l0 l1 l2 : Option Value} {st : List Value} {q : Nat} {i : Int32} {mi : Nat → Nat → Int32} {ml : Nat → Nat → Int64} {mr : Nat → Nat → Option Nat} {nx : Nat} {Q : Option Value → kMem → Prop} (h : kIs nx q 10 = true) : kJ 111 40 [l0, l1, l2] (.int i :: .ref q :: st) (mi, ml, mr, nx) Q = (vp_in i (kAl q) ∧ kJ 111 41 [l0, l1, l2] (.int (mi q i.toNatClampNeg) :: st) (mi, ml, mr, nx) Q) := kg_aldJ d111_40 rfl (kAr_of h)
theorem d111_41 : decode (mB 111) 41 = .ok (.imul, 1) := by decide +kernel
theorem s111_41 {l0 l1 l2 : Option Value} {st : List Value} {a b : Int32} {m : kMem} {Q : Option Value → kMem → Prop} : kJ 111 41 [l0, l1, l2] (.int b :: .int a :: st) m Q = kJ 111 42 [l0, l1, l2] (.int (a * b) :: st) m Q := kJ_next d111_41 rfl
theorem d111_42 : decode (mB 111) 42 = .ok (.iconst 1, 1) := by decide +kernel
theorem s111_42 {l0 l1 l2 : Option Value} {st : List Value} {m : kMem} {Q : Option Value → kMem → Prop} : kJ 111 42 [l0, l1, l2] st m Q = kJ 111 43 [l0, l1, l2] (.int (nI 1) :: st) m Q := kJ_next d111_42 rfl
theorem d111_43 : decode (mB 111) 43 = .ok (.iadd, 1) := by decide +kernel
theorem s111_43 {l0 l1 l2 : Option Value} {st : List Value} {a b : Int32} {m : kMem} {Q : Option Value → kMem → Prop} : kJ 111 43 [l0, l1, l2] (.int b :: .int a :: st) m Q = kJ 111 44 [l0, l1, l2] (.int (a + b) :: st) m Q := kJ_next d111_43 rfl
theorem d111_44 : decode (mB 111) 44 = .ok (.iaload, 1) := by decide +kernel
theorem s111_44 {l0 l1 l2 : Option Value} {st : List Value} {q : Nat} {i : Int32} {mi : Nat → Nat → Int32} {ml : Nat → Nat → Int64} {mr : Nat → Nat → Option Nat} {nx : Nat} {Q : Option Value → kMem → Prop} (h : kIs nx q 10 = true) : kJ 111 44 [l0, l1, l2] (.int i :: .ref q :: st) (mi, ml, mr, nx) Q = (vp_in i (kAl q) ∧ kJ 111 45 [l0, l1, l2] (.int (mi q i.toNatClampNeg) :: st) (mi, ml, mr, nx) Q) := kg_aldJ d111_44 rfl (kAr_of h)
theorem d111_45 : decode (mB 111) 45 = .ok (.iastore, 1) := by decide +kernel
theorem s111_45 {l0 l1 l2 : Option Value} {st : List Value} {q : Nat} {i x : Int32} {mi : Nat → Nat → Int32} {ml : Nat → Nat → Int64} {mr : Nat → Nat → Option Nat} {nx : Nat} {Q : Option Value → kMem → Prop} (h : kIs nx q 10 = true) : kJ 111 45 [l0, l1, l2] (.int x :: .int i :: .ref q :: st) (mi, ml, mr, nx) Q = (vp_in i (kAl q) ∧ kJ 111 46 [l0, l1, l2] st (kup mi q i.toNatClampNeg x, ml, mr, nx) Q) := kg_astJ d111_45 rfl (kAr_of h)
theorem d111_46 : decode (mB 111) 46 = .ok (.iinc 1 1, 3) := by decide +kernel
theorem s111_46 {l0 l2 : Option Value} {st : List Value} {x : Int32} {m : kMem} {Q : Option Value → kMem → Prop} (hp : kNL l0 = true) : kJ 111 46 [l0, some (.int x), l2] st m Q = kJ 111 49 [l0, some (.int (x + (nI 1))), l2] st m Q := kJ_next d111_46 (kg_inc rfl (Nat.le_of_ble_eq_true rfl) hp)
theorem d111_49 : decode (mB 111) 49 = .ok (.goto (-47), 3) := by decide +kernel
theorem s111_49 {l0 l1 l2 : Option Value} {st : List Value} {m : kMem} {Q : Option Value → kMem → Prop} : kJ 111 49 [l0, l1, l2] st m Q = kJ 111 2 [l0, l1, l2] st m Q := kJ_next d111_49 rfl
theorem d111_52 : decode (mB 111) 52 = .ok (.iconst 0, 1) := by decide +kernel
theorem s111_52 {l0 l1 l2 : Option Value} {st : List Value} {m : kMem} {Q : Option Value → kMem → Prop} : kJ 111 52 [l0, l1, l2] st m Q = kJ 111 53 [l0, l1, l2] (.int (nI 0) :: st) m Q := kJ_next d111_52 rfl
theorem d111_53 : decode (mB 111) 53 = .ok (.istore_n 1, 1) := by decide +kernel
theorem s111_53 {l0 l1 l2 : Option Value} {st : List Value} {x : Int32} {m : kMem} {Q : Option Value → kMem → Prop} (hp : kNL l0 = true) : kJ 111 53 [l0, l1, l2] (.int x :: st) m Q = kJ 111 54 [l0, some (.int x), l2] st m Q := kJ_next d111_53 (kg_sti (Nat.le_of_ble_eq_true rfl) hp)
theorem d111_54 : decode (mB 111) 54 = .ok (.iload_n 1, 1) := by decide +kernel
theorem s111_54 {l0 l2 : Option Value} {st : List Value} {x : Int32} {m : kMem} {Q : Option Value → kMem → Prop} : kJ 111 54 [l0, some (.int x), l2] st m Q = kJ 111 55 [l0, some (.int x), l2] (.int x :: st) m Q := kJ_next d111_54 rfl
theorem d111_55 : decode (mB 111) 55 = .ok (.bipush 74, 2) := by decide +kernel
theorem s111_55 {l0 l1 l2 : Option Value} {st : List Value} {m : kMem} {Q : Option Value → kMem → Prop} : kJ 111 55 [l0, l1, l2] st m Q = kJ 111 57 [l0, l1, l2] (.int (nI 74) :: st) m Q := kJ_next d111_55 rfl
theorem d111_57 : decode (mB 111) 57 = .ok (.if_icmp .ge 21, 3) := by decide +kernel
theorem s111_57 {l0 l1 l2 : Option Value} {st : List Value} {a b : Int32} {m : kMem} {Q : Option Value → kMem → Prop} : kJ 111 57 [l0, l1, l2] (.int b :: .int a :: st) m Q = (if b ≤ a then kJ 111 78 [l0, l1, l2] st m Q else kJ 111 60 [l0, l1, l2] st m Q) := kJ_if d111_57 rfl (fun h => kJ_next d111_57 h) (fun h => kJ_next d111_57 h)
theorem d111_60 : decode (mB 111) 60 = .ok (.aload_n 0, 1) := by decide +kernel
theorem s111_60 {l1 l2 : Option Value} {st : List Value} {x : Nat} {m : kMem} {Q : Option Value → kMem → Prop} : kJ 111 60 [some (.ref x), l1, l2] st m Q = kJ 111 61 [some (.ref x), l1, l2] (.ref x :: st) m Q := kJ_next d111_60 rfl
theorem d111_61 : decode (mB 111) 61 = .ok (.getfield 7, 3) := by decide +kernel
theorem s111_61 {l0 l1 l2 : Option Value} {st : List Value} {q : Nat} {mi : Nat → Nat → Int32} {ml : Nat → Nat → Int64} {mr : Nat → Nat → Option Nat} {nx : Nat} {Q : Option Value → kMem → Prop} (h : kIs nx q 5 = true) : kJ 111 61 [l0, l1, l2] (.ref q :: st) (mi, ml, mr, nx) Q = kJ 111 64 [l0, l1, l2] (va_rf (mr q 0) :: st) (mi, ml, mr, nx) Q := kJ_next d111_61 (kg_getr 5 0 rfl h (by decide))
theorem d111_64 : decode (mB 111) 64 = .ok (.iload_n 1, 1) := by decide +kernel
theorem s111_64 {l0 l2 : Option Value} {st : List Value} {x : Int32} {m : kMem} {Q : Option Value → kMem → Prop} : kJ 111 64 [l0, some (.int x), l2] st m Q = kJ 111 65 [l0, some (.int x), l2] (.int x :: st) m Q := kJ_next d111_64 rfl
theorem d111_65 : decode (mB 111) 65 = .ok (.aload_n 0, 1) := by decide +kernel
theorem s111_65 {l1 l2 : Option Value} {st : List Value} {x : Nat} {m : kMem} {Q : Option Value → kMem → Prop} : kJ 111 65 [some (.ref x), l1, l2] st m Q = kJ 111 66 [some (.ref x), l1, l2] (.ref x :: st) m Q := kJ_next d111_65 rfl
theorem d111_66 : decode (mB 111) 66 = .ok (.getfield 20, 3) := by decide +kernel
theorem s111_66 {l0 l1 l2 : Option Value} {st : List Value} {q : Nat} {mi : Nat → Nat → Int32} {ml : Nat → Nat → Int64} {mr : Nat → Nat → Option Nat} {nx : Nat} {Q : Option Value → kMem → Prop} (h : kIs nx q 5 = true) : kJ 111 66 [l0, l1, l2] (.ref q :: st) (mi, ml, mr, nx) Q = kJ 111 69 [l0, l1, l2] (va_rf (mr q 3) :: st) (mi, ml, mr, nx) Q := kJ_next d111_66 (kg_getr 5 3 rfl h (by decide))
theorem d111_69 : decode (mB 111) 69 = .ok (.iload_n 1, 1) := by decide +kernel
theorem s111_69 {l0 l2 : Option Value} {st : List Value} {x : Int32} {m : kMem} {Q : Option Value → kMem → Prop} : kJ 111 69 [l0, some (.int x), l2] st m Q = kJ 111 70 [l0, some (.int x), l2] (.int x :: st) m Q := kJ_next d111_69 rfl
theorem d111_70 : decode (mB 111) 70 = .ok (.iaload, 1) := by decide +kernel
theorem s111_70 {l0 l1 l2 : Option Value} {st : List Value} {q : Nat} {i : Int32} {mi : Nat → Nat → Int32} {ml : Nat → Nat → Int64} {mr : Nat → Nat → Option Nat} {nx : Nat} {Q : Option Value → kMem → Prop} (h : kIs nx q 10 = true) : kJ 111 70 [l0, l1, l2] (.int i :: .ref q :: st) (mi, ml, mr, nx) Q = (vp_in i (kAl q) ∧ kJ 111 71 [l0, l1, l2] (.int (mi q i.toNatClampNeg) :: st) (mi, ml, mr, nx) Q) := kg_aldJ d111_70 rfl (kAr_of h)
theorem d111_71 : decode (mB 111) 71 = .ok (.iastore, 1) := by decide +kernel
theorem s111_71 {l0 l1 l2 : Option Value} {st : List Value} {q : Nat} {i x : Int32} {mi : Nat → Nat → Int32} {ml : Nat → Nat → Int64} {mr : Nat → Nat → Option Nat} {nx : Nat} {Q : Option Value → kMem → Prop} (h : kIs nx q 10 = true) : kJ 111 71 [l0, l1, l2] (.int x :: .int i :: .ref q :: st) (mi, ml, mr, nx) Q = (vp_in i (kAl q) ∧ kJ 111 72 [l0, l1, l2] st (kup mi q i.toNatClampNeg x, ml, mr, nx) Q) := kg_astJ d111_71 rfl (kAr_of h)
theorem d111_72 : decode (mB 111) 72 = .ok (.iinc 1 1, 3) := by decide +kernel
theorem s111_72 {l0 l2 : Option Value} {st : List Value} {x : Int32} {m : kMem} {Q : Option Value → kMem → Prop} (hp : kNL l0 = true) : kJ 111 72 [l0, some (.int x), l2] st m Q = kJ 111 75 [l0, some (.int (x + (nI 1))), l2] st m Q := kJ_next d111_72 (kg_inc rfl (Nat.le_of_ble_eq_true rfl) hp)
theorem d111_75 : decode (mB 111) 75 = .ok (.goto (-21), 3) := by decide +kernel
theorem s111_75 {l0 l1 l2 : Option Value} {st : List Value} {m : kMem} {Q : Option Value → kMem → Prop} : kJ 111 75 [l0, l1, l2] st m Q = kJ 111 54 [l0, l1, l2] st m Q := kJ_next d111_75 rfl
theorem d111_78 : decode (mB 111) 78 = .ok (.aload_n 0, 1) := by decide +kernel
theorem s111_78 {l1 l2 : Option Value} {st : List Value} {x : Nat} {m : kMem} {Q : Option Value → kMem → Prop} : kJ 111 78 [some (.ref x), l1, l2] st m Q = kJ 111 79 [some (.ref x), l1, l2] (.ref x :: st) m Q := kJ_next d111_78 rfl
theorem d111_79 : decode (mB 111) 79 = .ok (.getfield 16, 3) := by decide +kernel
theorem s111_79 {l0 l1 l2 : Option Value} {st : List Value} {q : Nat} {mi : Nat → Nat → Int32} {ml : Nat → Nat → Int64} {mr : Nat → Nat → Option Nat} {nx : Nat} {Q : Option Value → kMem → Prop} (h : kIs nx q 5 = true) : kJ 111 79 [l0, l1, l2] (.ref q :: st) (mi, ml, mr, nx) Q = kJ 111 82 [l0, l1, l2] (va_rf (mr q 2) :: st) (mi, ml, mr, nx) Q := kJ_next d111_79 (kg_getr 5 2 rfl h (by decide))
theorem d111_82 : decode (mB 111) 82 = .ok (.iconst 0, 1) := by decide +kernel
theorem s111_82 {l0 l1 l2 : Option Value} {st : List Value} {m : kMem} {Q : Option Value → kMem → Prop} : kJ 111 82 [l0, l1, l2] st m Q = kJ 111 83 [l0, l1, l2] (.int (nI 0) :: st) m Q := kJ_next d111_82 rfl
theorem d111_83 : decode (mB 111) 83 = .ok (.iconst 0, 1) := by decide +kernel
theorem s111_83 {l0 l1 l2 : Option Value} {st : List Value} {m : kMem} {Q : Option Value → kMem → Prop} : kJ 111 83 [l0, l1, l2] st m Q = kJ 111 84 [l0, l1, l2] (.int (nI 0) :: st) m Q := kJ_next d111_83 rfl
theorem d111_84 : decode (mB 111) 84 = .ok (.bastore, 1) := by decide +kernel
theorem s111_84 {l0 l1 l2 : Option Value} {st : List Value} {q : Nat} {i x : Int32} {mi : Nat → Nat → Int32} {ml : Nat → Nat → Int64} {mr : Nat → Nat → Option Nat} {nx : Nat} {Q : Option Value → kMem → Prop} (h : kIs nx q 11 = true) : kJ 111 84 [l0, l1, l2] (.int x :: .int i :: .ref q :: st) (mi, ml, mr, nx) Q = (vp_in i (kAl q) ∧ kJ 111 85 [l0, l1, l2] st (kup mi q i.toNatClampNeg (x &&& 1), ml, mr, nx) Q) := kg_astJ d111_84 rfl (kAr_of h)
theorem d111_85 : decode (mB 111) 85 = .ok (.aload_n 0, 1) := by decide +kernel
theorem s111_85 {l1 l2 : Option Value} {st : List Value} {x : Nat} {m : kMem} {Q : Option Value → kMem → Prop} : kJ 111 85 [some (.ref x), l1, l2] st m Q = kJ 111 86 [some (.ref x), l1, l2] (.ref x :: st) m Q := kJ_next d111_85 rfl
theorem d111_86 : decode (mB 111) 86 = .ok (.getfield 16, 3) := by decide +kernel
theorem s111_86 {l0 l1 l2 : Option Value} {st : List Value} {q : Nat} {mi : Nat → Nat → Int32} {ml : Nat → Nat → Int64} {mr : Nat → Nat → Option Nat} {nx : Nat} {Q : Option Value → kMem → Prop} (h : kIs nx q 5 = true) : kJ 111 86 [l0, l1, l2] (.ref q :: st) (mi, ml, mr, nx) Q = kJ 111 89 [l0, l1, l2] (va_rf (mr q 2) :: st) (mi, ml, mr, nx) Q := kJ_next d111_86 (kg_getr 5 2 rfl h (by decide))
theorem d111_89 : decode (mB 111) 89 = .ok (.iconst 1, 1) := by decide +kernel
theorem s111_89 {l0 l1 l2 : Option Value} {st : List Value} {m : kMem} {Q : Option Value → kMem → Prop} : kJ 111 89 [l0, l1, l2] st m Q = kJ 111 90 [l0, l1, l2] (.int (nI 1) :: st) m Q := kJ_next d111_89 rfl
theorem d111_90 : decode (mB 111) 90 = .ok (.iconst 0, 1) := by decide +kernel
theorem s111_90 {l0 l1 l2 : Option Value} {st : List Value} {m : kMem} {Q : Option Value → kMem → Prop} : kJ 111 90 [l0, l1, l2] st m Q = kJ 111 91 [l0, l1, l2] (.int (nI 0) :: st) m Q := kJ_next d111_90 rfl
theorem d111_91 : decode (mB 111) 91 = .ok (.bastore, 1) := by decide +kernel
theorem s111_91 {l0 l1 l2 : Option Value} {st : List Value} {q : Nat} {i x : Int32} {mi : Nat → Nat → Int32} {ml : Nat → Nat → Int64} {mr : Nat → Nat → Option Nat} {nx : Nat} {Q : Option Value → kMem → Prop} (h : kIs nx q 11 = true) : kJ 111 91 [l0, l1, l2] (.int x :: .int i :: .ref q :: st) (mi, ml, mr, nx) Q = (vp_in i (kAl q) ∧ kJ 111 92 [l0, l1, l2] st (kup mi q i.toNatClampNeg (x &&& 1), ml, mr, nx) Q) := kg_astJ d111_91 rfl (kAr_of h)
theorem d111_92 : decode (mB 111) 92 = .ok (.return_, 1) := by decide +kernel
theorem s111_92 {l0 l1 l2 : Option Value} {m : kMem} {Q : Option Value → kMem → Prop} : kJ 111 92 [l0, l1, l2] [] m Q = Q none m := kJ_ret d111_92 rfl
theorem d112_0 : decode (mB 112) 0 = .ok (.iload_n 1, 1) := by decide +kernel
theorem s112_0 {l0 : Option Value} {st : List Value} {x : Int32} {m : kMem} {Q : Option Value → kMem → Prop} : kJ 112 0 [l0, some (.int x)] st m Q = kJ 112 1 [l0, some (.int x)] (.int x :: st) m Q := kJ_next d112_0 rfl
theorem d112_1 : decode (mB 112) 1 = .ok (.i2l, 1) := by decide +kernel
theorem s112_1 {l0 l1 : Option Value} {st : List Value} {a : Int32} {m : kMem} {Q : Option Value → kMem → Prop} : kJ 112 1 [l0, l1] (.int a :: st) m Q = kJ 112 2 [l0, l1] (.long a.toInt64 :: st) m Q := kJ_next d112_1 rfl
theorem d112_2 : decode (mB 112) 2 = .ok (.lconst 0, 1) := by decide +kernel
theorem s112_2 {l0 l1 : Option Value} {st : List Value} {m : kMem} {Q : Option Value → kMem → Prop} : kJ 112 2 [l0, l1] st m Q = kJ 112 3 [l0, l1] (.long 0 :: st) m Q := kJ_next d112_2 rfl
theorem d112_3 : decode (mB 112) 3 = .ok (.ldc2_w 58, 3) := by decide +kernel
theorem s112_3 {l0 l1 : Option Value} {st : List Value} {m : kMem} {Q : Option Value → kMem → Prop} : kJ 112 3 [l0, l1] st m Q = kJ 112 6 [l0, l1] (.long (127) :: st) m Q := kJ_next d112_3 rfl
theorem d112_6 : decode (mB 112) 6 = .ok (.invokestatic 60, 3) := by decide +kernel
theorem s112_6 {l0 l1 : Option Value} {v0 : Int64} {v1 : Int64} {v2 : Int64} {m : kMem} {Q : Option Value → kMem → Prop} : kJ 112 6 [l0, l1] [.long v0, .long v1, .long v2] m Q = kJ 107 0 [some (.long v2), none, some (.long v1), none, some (.long v0), none] [] m (fun v m2 => kJ 112 9 [l0, l1] (v.toList ++ []) m2 Q) := kJ_call d112_6 (kg_calls 107 3 rfl rfl (Nat.le_of_ble_eq_true rfl) (Nat.le_of_ble_eq_true rfl) (Nat.le_of_ble_eq_true rfl) (Nat.le_of_ble_eq_true rfl))
theorem d112_9 : decode (mB 112) 9 = .ok (.ifCond .ne 5, 3) := by decide +kernel
theorem s112_9 {l0 l1 : Option Value} {st : List Value} {a : Int32} {m : kMem} {Q : Option Value → kMem → Prop} : kJ 112 9 [l0, l1] (.int a :: st) m Q = (if a = 0 then kJ 112 12 [l0, l1] st m Q else kJ 112 14 [l0, l1] st m Q) := kJ_if d112_9 rfl (fun h => kJ_next d112_9 h) (fun h => kJ_next d112_9 h)
theorem d112_12 : decode (mB 112) 12 = .ok (.iconst (-1), 1) := by decide +kernel
theorem s112_12 {l0 l1 : Option Value} {st : List Value} {m : kMem} {Q : Option Value → kMem → Prop} : kJ 112 12 [l0, l1] st m Q = kJ 112 13 [l0, l1] (.int (-1) :: st) m Q := kJ_next d112_12 rfl
theorem d112_13 : decode (mB 112) 13 = .ok (.ireturn, 1) := by decide +kernel
theorem s112_13 {l0 l1 : Option Value} {x : Int32} {m : kMem} {Q : Option Value → kMem → Prop} : kJ 112 13 [l0, l1] [.int x] m Q = Q (some (.int x)) m := kJ_ret d112_13 rfl
theorem d112_14 : decode (mB 112) 14 = .ok (.aload_n 0, 1) := by decide +kernel
theorem s112_14 {l1 : Option Value} {st : List Value} {x : Nat} {m : kMem} {Q : Option Value → kMem → Prop} : kJ 112 14 [some (.ref x), l1] st m Q = kJ 112 15 [some (.ref x), l1] (.ref x :: st) m Q := kJ_next d112_14 rfl
theorem d112_15 : decode (mB 112) 15 = .ok (.getfield 64, 3) := by decide +kernel
theorem s112_15 {l0 l1 : Option Value} {st : List Value} {q : Nat} {mi : Nat → Nat → Int32} {ml : Nat → Nat → Int64} {mr : Nat → Nat → Option Nat} {nx : Nat} {Q : Option Value → kMem → Prop} (h : kIs nx q 5 = true) : kJ 112 15 [l0, l1] (.ref q :: st) (mi, ml, mr, nx) Q = kJ 112 18 [l0, l1] (.int (mi q 7) :: st) (mi, ml, mr, nx) Q := kJ_next d112_15 (kg_geti 5 7 rfl h (by decide))
theorem d112_18 : decode (mB 112) 18 = .ok (.sipush 160, 3) := by decide +kernel
theorem s112_18 {l0 l1 : Option Value} {st : List Value} {m : kMem} {Q : Option Value → kMem → Prop} : kJ 112 18 [l0, l1] st m Q = kJ 112 21 [l0, l1] (.int (nI 160) :: st) m Q := kJ_next d112_18 rfl
theorem d112_21 : decode (mB 112) 21 = .ok (.if_icmp .ne 6, 3) := by decide +kernel
theorem s112_21 {l0 l1 : Option Value} {st : List Value} {a b : Int32} {m : kMem} {Q : Option Value → kMem → Prop} : kJ 112 21 [l0, l1] (.int b :: .int a :: st) m Q = (if a = b then kJ 112 24 [l0, l1] st m Q else kJ 112 27 [l0, l1] st m Q) := kJ_if d112_21 rfl (fun h => kJ_next d112_21 h) (fun h => kJ_next d112_21 h)
theorem d112_24 : decode (mB 112) 24 = .ok (.bipush (-3), 2) := by decide +kernel
theorem s112_24 {l0 l1 : Option Value} {st : List Value} {m : kMem} {Q : Option Value → kMem → Prop} : kJ 112 24 [l0, l1] st m Q = kJ 112 26 [l0, l1] (.int (-3) :: st) m Q := kJ_next d112_24 rfl
theorem d112_26 : decode (mB 112) 26 = .ok (.ireturn, 1) := by decide +kernel
theorem s112_26 {l0 l1 : Option Value} {x : Int32} {m : kMem} {Q : Option Value → kMem → Prop} : kJ 112 26 [l0, l1] [.int x] m Q = Q (some (.int x)) m := kJ_ret d112_26 rfl
theorem d112_27 : decode (mB 112) 27 = .ok (.aload_n 0, 1) := by decide +kernel
theorem s112_27 {l1 : Option Value} {st : List Value} {x : Nat} {m : kMem} {Q : Option Value → kMem → Prop} : kJ 112 27 [some (.ref x), l1] st m Q = kJ 112 28 [some (.ref x), l1] (.ref x :: st) m Q := kJ_next d112_27 rfl
theorem d112_28 : decode (mB 112) 28 = .ok (.getfield 23, 3) := by decide +kernel
theorem s112_28 {l0 l1 : Option Value} {st : List Value} {q : Nat} {mi : Nat → Nat → Int32} {ml : Nat → Nat → Int64} {mr : Nat → Nat → Option Nat} {nx : Nat} {Q : Option Value → kMem → Prop} (h : kIs nx q 5 = true) : kJ 112 28 [l0, l1] (.ref q :: st) (mi, ml, mr, nx) Q = kJ 112 31 [l0, l1] (va_rf (mr q 6) :: st) (mi, ml, mr, nx) Q := kJ_next d112_28 (kg_getr 5 6 rfl h (by decide))
theorem d112_31 : decode (mB 112) 31 = .ok (.aload_n 0, 1) := by decide +kernel
theorem s112_31 {l1 : Option Value} {st : List Value} {x : Nat} {m : kMem} {Q : Option Value → kMem → Prop} : kJ 112 31 [some (.ref x), l1] st m Q = kJ 112 32 [some (.ref x), l1] (.ref x :: st) m Q := kJ_next d112_31 rfl
theorem d112_32 : decode (mB 112) 32 = .ok (.getfield 64, 3) := by decide +kernel
theorem s112_32 {l0 l1 : Option Value} {st : List Value} {q : Nat} {mi : Nat → Nat → Int32} {ml : Nat → Nat → Int64} {mr : Nat → Nat → Option Nat} {nx : Nat} {Q : Option Value → kMem → Prop} (h : kIs nx q 5 = true) : kJ 112 32 [l0, l1] (.ref q :: st) (mi, ml, mr, nx) Q = kJ 112 35 [l0, l1] (.int (mi q 7) :: st) (mi, ml, mr, nx) Q := kJ_next d112_32 (kg_geti 5 7 rfl h (by decide))
theorem d112_35 : decode (mB 112) 35 = .ok (.iload_n 1, 1) := by decide +kernel
theorem s112_35 {l0 : Option Value} {st : List Value} {x : Int32} {m : kMem} {Q : Option Value → kMem → Prop} : kJ 112 35 [l0, some (.int x)] st m Q = kJ 112 36 [l0, some (.int x)] (.int x :: st) m Q := kJ_next d112_35 rfl
theorem d112_36 : decode (mB 112) 36 = .ok (.iastore, 1) := by decide +kernel
theorem s112_36 {l0 l1 : Option Value} {st : List Value} {q : Nat} {i x : Int32} {mi : Nat → Nat → Int32} {ml : Nat → Nat → Int64} {mr : Nat → Nat → Option Nat} {nx : Nat} {Q : Option Value → kMem → Prop} (h : kIs nx q 10 = true) : kJ 112 36 [l0, l1] (.int x :: .int i :: .ref q :: st) (mi, ml, mr, nx) Q = (vp_in i (kAl q) ∧ kJ 112 37 [l0, l1] st (kup mi q i.toNatClampNeg x, ml, mr, nx) Q) := kg_astJ d112_36 rfl (kAr_of h)
theorem d112_37 : decode (mB 112) 37 = .ok (.aload_n 0, 1) := by decide +kernel
theorem s112_37 {l1 : Option Value} {st : List Value} {x : Nat} {m : kMem} {Q : Option Value → kMem → Prop} : kJ 112 37 [some (.ref x), l1] st m Q = kJ 112 38 [some (.ref x), l1] (.ref x :: st) m Q := kJ_next d112_37 rfl
theorem d112_38 : decode (mB 112) 38 = .ok (.dup, 1) := by decide +kernel
theorem s112_38 {l0 l1 : Option Value} {st : List Value} {a : Nat} {m : kMem} {Q : Option Value → kMem → Prop} : kJ 112 38 [l0, l1] (.ref a :: st) m Q = kJ 112 39 [l0, l1] (.ref a :: .ref a :: st) m Q := kJ_next d112_38 rfl
theorem d112_39 : decode (mB 112) 39 = .ok (.getfield 64, 3) := by decide +kernel
theorem s112_39 {l0 l1 : Option Value} {st : List Value} {q : Nat} {mi : Nat → Nat → Int32} {ml : Nat → Nat → Int64} {mr : Nat → Nat → Option Nat} {nx : Nat} {Q : Option Value → kMem → Prop} (h : kIs nx q 5 = true) : kJ 112 39 [l0, l1] (.ref q :: st) (mi, ml, mr, nx) Q = kJ 112 42 [l0, l1] (.int (mi q 7) :: st) (mi, ml, mr, nx) Q := kJ_next d112_39 (kg_geti 5 7 rfl h (by decide))
theorem d112_42 : decode (mB 112) 42 = .ok (.iconst 1, 1) := by decide +kernel
theorem s112_42 {l0 l1 : Option Value} {st : List Value} {m : kMem} {Q : Option Value → kMem → Prop} : kJ 112 42 [l0, l1] st m Q = kJ 112 43 [l0, l1] (.int (nI 1) :: st) m Q := kJ_next d112_42 rfl
theorem d112_43 : decode (mB 112) 43 = .ok (.iadd, 1) := by decide +kernel
theorem s112_43 {l0 l1 : Option Value} {st : List Value} {a b : Int32} {m : kMem} {Q : Option Value → kMem → Prop} : kJ 112 43 [l0, l1] (.int b :: .int a :: st) m Q = kJ 112 44 [l0, l1] (.int (a + b) :: st) m Q := kJ_next d112_43 rfl
theorem d112_44 : decode (mB 112) 44 = .ok (.putfield 64, 3) := by decide +kernel
theorem s112_44 {l0 l1 : Option Value} {st : List Value} {q : Nat} {x : Int32} {mi : Nat → Nat → Int32} {ml : Nat → Nat → Int64} {mr : Nat → Nat → Option Nat} {nx : Nat} {Q : Option Value → kMem → Prop} (h : kIs nx q 5 = true) : kJ 112 44 [l0, l1] (.int x :: .ref q :: st) (mi, ml, mr, nx) Q = kJ 112 47 [l0, l1] st (kup mi q 7 x, ml, mr, nx) Q := kJ_next d112_44 (kg_puti 5 7 rfl h (by decide) (Or.inl (by decide)))
theorem d112_47 : decode (mB 112) 47 = .ok (.aload_n 0, 1) := by decide +kernel
theorem s112_47 {l1 : Option Value} {st : List Value} {x : Nat} {m : kMem} {Q : Option Value → kMem → Prop} : kJ 112 47 [some (.ref x), l1] st m Q = kJ 112 48 [some (.ref x), l1] (.ref x :: st) m Q := kJ_next d112_47 rfl
theorem d112_48 : decode (mB 112) 48 = .ok (.getfield 64, 3) := by decide +kernel
theorem s112_48 {l0 l1 : Option Value} {st : List Value} {q : Nat} {mi : Nat → Nat → Int32} {ml : Nat → Nat → Int64} {mr : Nat → Nat → Option Nat} {nx : Nat} {Q : Option Value → kMem → Prop} (h : kIs nx q 5 = true) : kJ 112 48 [l0, l1] (.ref q :: st) (mi, ml, mr, nx) Q = kJ 112 51 [l0, l1] (.int (mi q 7) :: st) (mi, ml, mr, nx) Q := kJ_next d112_48 (kg_geti 5 7 rfl h (by decide))
theorem d112_51 : decode (mB 112) 51 = .ok (.ireturn, 1) := by decide +kernel
theorem s112_51 {l0 l1 : Option Value} {x : Int32} {m : kMem} {Q : Option Value → kMem → Prop} : kJ 112 51 [l0, l1] [.int x] m Q = Q (some (.int x)) m := kJ_ret d112_51 rfl
theorem d113_0 : decode (mB 113) 0 = .ok (.iload_n 1, 1) := by decide +kernel
theorem s113_0 {l0 l2 : Option Value} {st : List Value} {x : Int32} {m : kMem} {Q : Option Value → kMem → Prop} : kJ 113 0 [l0, some (.int x), l2] st m Q = kJ 113 1 [l0, some (.int x), l2] (.int x :: st) m Q := kJ_next d113_0 rfl
theorem d113_1 : decode (mB 113) 1 = .ok (.i2l, 1) := by decide +kernel
theorem s113_1 {l0 l1 l2 : Option Value} {st : List Value} {a : Int32} {m : kMem} {Q : Option Value → kMem → Prop} : kJ 113 1 [l0, l1, l2] (.int a :: st) m Q = kJ 113 2 [l0, l1, l2] (.long a.toInt64 :: st) m Q := kJ_next d113_1 rfl
theorem d113_2 : decode (mB 113) 2 = .ok (.lconst 0, 1) := by decide +kernel
theorem s113_2 {l0 l1 l2 : Option Value} {st : List Value} {m : kMem} {Q : Option Value → kMem → Prop} : kJ 113 2 [l0, l1, l2] st m Q = kJ 113 3 [l0, l1, l2] (.long 0 :: st) m Q := kJ_next d113_2 rfl
theorem d113_3 : decode (mB 113) 3 = .ok (.aload_n 0, 1) := by decide +kernel
theorem s113_3 {l1 l2 : Option Value} {st : List Value} {x : Nat} {m : kMem} {Q : Option Value → kMem → Prop} : kJ 113 3 [some (.ref x), l1, l2] st m Q = kJ 113 4 [some (.ref x), l1, l2] (.ref x :: st) m Q := kJ_next d113_3 rfl
theorem d113_4 : decode (mB 113) 4 = .ok (.getfield 64, 3) := by decide +kernel
theorem s113_4 {l0 l1 l2 : Option Value} {st : List Value} {q : Nat} {mi : Nat → Nat → Int32} {ml : Nat → Nat → Int64} {mr : Nat → Nat → Option Nat} {nx : Nat} {Q : Option Value → kMem → Prop} (h : kIs nx q 5 = true) : kJ 113 4 [l0, l1, l2] (.ref q :: st) (mi, ml, mr, nx) Q = kJ 113 7 [l0, l1, l2] (.int (mi q 7) :: st) (mi, ml, mr, nx) Q := kJ_next d113_4 (kg_geti 5 7 rfl h (by decide))
theorem d113_7 : decode (mB 113) 7 = .ok (.i2l, 1) := by decide +kernel
theorem s113_7 {l0 l1 l2 : Option Value} {st : List Value} {a : Int32} {m : kMem} {Q : Option Value → kMem → Prop} : kJ 113 7 [l0, l1, l2] (.int a :: st) m Q = kJ 113 8 [l0, l1, l2] (.long a.toInt64 :: st) m Q := kJ_next d113_7 rfl
theorem d113_8 : decode (mB 113) 8 = .ok (.invokestatic 60, 3) := by decide +kernel
theorem s113_8 {l0 l1 l2 : Option Value} {v0 : Int64} {v1 : Int64} {v2 : Int64} {m : kMem} {Q : Option Value → kMem → Prop} : kJ 113 8 [l0, l1, l2] [.long v0, .long v1, .long v2] m Q = kJ 107 0 [some (.long v2), none, some (.long v1), none, some (.long v0), none] [] m (fun v m2 => kJ 113 11 [l0, l1, l2] (v.toList ++ []) m2 Q) := kJ_call d113_8 (kg_calls 107 3 rfl rfl (Nat.le_of_ble_eq_true rfl) (Nat.le_of_ble_eq_true rfl) (Nat.le_of_ble_eq_true rfl) (Nat.le_of_ble_eq_true rfl))
theorem d113_11 : decode (mB 113) 11 = .ok (.ifCond .ne 5, 3) := by decide +kernel
theorem s113_11 {l0 l1 l2 : Option Value} {st : List Value} {a : Int32} {m : kMem} {Q : Option Value → kMem → Prop} : kJ 113 11 [l0, l1, l2] (.int a :: st) m Q = (if a = 0 then kJ 113 14 [l0, l1, l2] st m Q else kJ 113 16 [l0, l1, l2] st m Q) := kJ_if d113_11 rfl (fun h => kJ_next d113_11 h) (fun h => kJ_next d113_11 h)
theorem d113_14 : decode (mB 113) 14 = .ok (.iconst (-1), 1) := by decide +kernel
theorem s113_14 {l0 l1 l2 : Option Value} {st : List Value} {m : kMem} {Q : Option Value → kMem → Prop} : kJ 113 14 [l0, l1, l2] st m Q = kJ 113 15 [l0, l1, l2] (.int (-1) :: st) m Q := kJ_next d113_14 rfl
theorem d113_15 : decode (mB 113) 15 = .ok (.ireturn, 1) := by decide +kernel
theorem s113_15 {l0 l1 l2 : Option Value} {x : Int32} {m : kMem} {Q : Option Value → kMem → Prop} : kJ 113 15 [l0, l1, l2] [.int x] m Q = Q (some (.int x)) m := kJ_ret d113_15 rfl
theorem d113_16 : decode (mB 113) 16 = .ok (.aload_n 0, 1) := by decide +kernel
theorem s113_16 {l1 l2 : Option Value} {st : List Value} {x : Nat} {m : kMem} {Q : Option Value → kMem → Prop} : kJ 113 16 [some (.ref x), l1, l2] st m Q = kJ 113 17 [some (.ref x), l1, l2] (.ref x :: st) m Q := kJ_next d113_16 rfl
theorem d113_17 : decode (mB 113) 17 = .ok (.getfield 64, 3) := by decide +kernel
theorem s113_17 {l0 l1 l2 : Option Value} {st : List Value} {q : Nat} {mi : Nat → Nat → Int32} {ml : Nat → Nat → Int64} {mr : Nat → Nat → Option Nat} {nx : Nat} {Q : Option Value → kMem → Prop} (h : kIs nx q 5 = true) : kJ 113 17 [l0, l1, l2] (.ref q :: st) (mi, ml, mr, nx) Q = kJ 113 20 [l0, l1, l2] (.int (mi q 7) :: st) (mi, ml, mr, nx) Q := kJ_next d113_17 (kg_geti 5 7 rfl h (by decide))
theorem d113_20 : decode (mB 113) 20 = .ok (.istore_n 2, 1) := by decide +kernel
theorem s113_20 {l0 l1 l2 : Option Value} {st : List Value} {x : Int32} {m : kMem} {Q : Option Value → kMem → Prop} (hp : kNL l1 = true) : kJ 113 20 [l0, l1, l2] (.int x :: st) m Q = kJ 113 21 [l0, l1, some (.int x)] st m Q := kJ_next d113_20 (kg_sti (Nat.le_of_ble_eq_true rfl) hp)
theorem d113_21 : decode (mB 113) 21 = .ok (.aload_n 0, 1) := by decide +kernel
theorem s113_21 {l1 l2 : Option Value} {st : List Value} {x : Nat} {m : kMem} {Q : Option Value → kMem → Prop} : kJ 113 21 [some (.ref x), l1, l2] st m Q = kJ 113 22 [some (.ref x), l1, l2] (.ref x :: st) m Q := kJ_next d113_21 rfl
theorem d113_22 : decode (mB 113) 22 = .ok (.iload_n 1, 1) := by decide +kernel
theorem s113_22 {l0 l2 : Option Value} {st : List Value} {x : Int32} {m : kMem} {Q : Option Value → kMem → Prop} : kJ 113 22 [l0, some (.int x), l2] st m Q = kJ 113 23 [l0, some (.int x), l2] (.int x :: st) m Q := kJ_next d113_22 rfl
theorem d113_23 : decode (mB 113) 23 = .ok (.putfield 64, 3) := by decide +kernel
theorem s113_23 {l0 l1 l2 : Option Value} {st : List Value} {q : Nat} {x : Int32} {mi : Nat → Nat → Int32} {ml : Nat → Nat → Int64} {mr : Nat → Nat → Option Nat} {nx : Nat} {Q : Option Value → kMem → Prop} (h : kIs nx q 5 = true) : kJ 113 23 [l0, l1, l2] (.int x :: .ref q :: st) (mi, ml, mr, nx) Q = kJ 113 26 [l0, l1, l2] st (kup mi q 7 x, ml, mr, nx) Q := kJ_next d113_23 (kg_puti 5 7 rfl h (by decide) (Or.inl (by decide)))
theorem d113_26 : decode (mB 113) 26 = .ok (.iload_n 2, 1) := by decide +kernel
theorem s113_26 {l0 l1 : Option Value} {st : List Value} {x : Int32} {m : kMem} {Q : Option Value → kMem → Prop} : kJ 113 26 [l0, l1, some (.int x)] st m Q = kJ 113 27 [l0, l1, some (.int x)] (.int x :: st) m Q := kJ_next d113_26 rfl
theorem d113_27 : decode (mB 113) 27 = .ok (.ireturn, 1) := by decide +kernel
theorem s113_27 {l0 l1 l2 : Option Value} {x : Int32} {m : kMem} {Q : Option Value → kMem → Prop} : kJ 113 27 [l0, l1, l2] [.int x] m Q = Q (some (.int x)) m := kJ_ret d113_27 rfl
theorem d114_0 : decode (mB 114) 0 = .ok (.iload_n 1, 1) := by decide +kernel
theorem s114_0 {l0 l2 : Option Value} {st : List Value} {x : Int32} {m : kMem} {Q : Option Value → kMem → Prop} : kJ 114 0 [l0, some (.int x), l2] st m Q = kJ 114 1 [l0, some (.int x), l2] (.int x :: st) m Q := kJ_next d114_0 rfl
theorem d114_1 : decode (mB 114) 1 = .ok (.ifCond .ne 23, 3) := by decide +kernel
theorem s114_1 {l0 l1 l2 : Option Value} {st : List Value} {a : Int32} {m : kMem} {Q : Option Value → kMem → Prop} : kJ 114 1 [l0, l1, l2] (.int a :: st) m Q = (if a = 0 then kJ 114 4 [l0, l1, l2] st m Q else kJ 114 24 [l0, l1, l2] st m Q) := kJ_if d114_1 rfl (fun h => kJ_next d114_1 h) (fun h => kJ_next d114_1 h)
theorem d114_4 : decode (mB 114) 4 = .ok (.aload_n 0, 1) := by decide +kernel
theorem s114_4 {l1 l2 : Option Value} {st : List Value} {x : Nat} {m : kMem} {Q : Option Value → kMem → Prop} : kJ 114 4 [some (.ref x), l1, l2] st m Q = kJ 114 5 [some (.ref x), l1, l2] (.ref x :: st) m Q := kJ_next d114_4 rfl
theorem d114_5 : decode (mB 114) 5 = .ok (.getfield 67, 3) := by decide +kernel
theorem s114_5 {l0 l1 l2 : Option Value} {st : List Value} {q : Nat} {mi : Nat → Nat → Int32} {ml : Nat → Nat → Int64} {mr : Nat → Nat → Option Nat} {nx : Nat} {Q : Option Value → kMem → Prop} (h : kIs nx q 5 = true) : kJ 114 5 [l0, l1, l2] (.ref q :: st) (mi, ml, mr, nx) Q = kJ 114 8 [l0, l1, l2] (.int (mi q 12) :: st) (mi, ml, mr, nx) Q := kJ_next d114_5 (kg_geti 5 12 rfl h (by decide))
theorem d114_8 : decode (mB 114) 8 = .ok (.ifCond .ne 16, 3) := by decide +kernel
theorem s114_8 {l0 l1 l2 : Option Value} {st : List Value} {a : Int32} {m : kMem} {Q : Option Value → kMem → Prop} : kJ 114 8 [l0, l1, l2] (.int a :: st) m Q = (if a = 0 then kJ 114 11 [l0, l1, l2] st m Q else kJ 114 24 [l0, l1, l2] st m Q) := kJ_if d114_8 rfl (fun h => kJ_next d114_8 h) (fun h => kJ_next d114_8 h)
theorem d114_11 : decode (mB 114) 11 = .ok (.aload_n 0, 1) := by decide +kernel
theorem s114_11 {l1 l2 : Option Value} {st : List Value} {x : Nat} {m : kMem} {Q : Option Value → kMem → Prop} : kJ 114 11 [some (.ref x), l1, l2] st m Q = kJ 114 12 [some (.ref x), l1, l2] (.ref x :: st) m Q := kJ_next d114_11 rfl
theorem d114_12 : decode (mB 114) 12 = .ok (.iload_n 2, 1) := by decide +kernel
theorem s114_12 {l0 l1 : Option Value} {st : List Value} {x : Int32} {m : kMem} {Q : Option Value → kMem → Prop} : kJ 114 12 [l0, l1, some (.int x)] st m Q = kJ 114 13 [l0, l1, some (.int x)] (.int x :: st) m Q := kJ_next d114_12 rfl
theorem d114_13 : decode (mB 114) 13 = .ok (.putfield 67, 3) := by decide +kernel
theorem s114_13 {l0 l1 l2 : Option Value} {st : List Value} {q : Nat} {x : Int32} {mi : Nat → Nat → Int32} {ml : Nat → Nat → Int64} {mr : Nat → Nat → Option Nat} {nx : Nat} {Q : Option Value → kMem → Prop} (h : kIs nx q 5 = true) : kJ 114 13 [l0, l1, l2] (.int x :: .ref q :: st) (mi, ml, mr, nx) Q = kJ 114 16 [l0, l1, l2] st (kup mi q 12 x, ml, mr, nx) Q := kJ_next d114_13 (kg_puti 5 12 rfl h (by decide) (Or.inl (by decide)))
theorem d114_16 : decode (mB 114) 16 = .ok (.aload_n 0, 1) := by decide +kernel
theorem s114_16 {l1 l2 : Option Value} {st : List Value} {x : Nat} {m : kMem} {Q : Option Value → kMem → Prop} : kJ 114 16 [some (.ref x), l1, l2] st m Q = kJ 114 17 [some (.ref x), l1, l2] (.ref x :: st) m Q := kJ_next d114_16 rfl
theorem d114_17 : decode (mB 114) 17 = .ok (.aload_n 0, 1) := by decide +kernel
theorem s114_17 {l1 l2 : Option Value} {st : List Value} {x : Nat} {m : kMem} {Q : Option Value → kMem → Prop} : kJ 114 17 [some (.ref x), l1, l2] st m Q = kJ 114 18 [some (.ref x), l1, l2] (.ref x :: st) m Q := kJ_next d114_17 rfl
theorem d114_18 : decode (mB 114) 18 = .ok (.getfield 70, 3) := by decide +kernel
theorem s114_18 {l0 l1 l2 : Option Value} {st : List Value} {q : Nat} {mi : Nat → Nat → Int32} {ml : Nat → Nat → Int64} {mr : Nat → Nat → Option Nat} {nx : Nat} {Q : Option Value → kMem → Prop} (h : kIs nx q 5 = true) : kJ 114 18 [l0, l1, l2] (.ref q :: st) (mi, ml, mr, nx) Q = kJ 114 21 [l0, l1, l2] (.int (mi q 9) :: st) (mi, ml, mr, nx) Q := kJ_next d114_18 (kg_geti 5 9 rfl h (by decide))
theorem d114_21 : decode (mB 114) 21 = .ok (.putfield 73, 3) := by decide +kernel
theorem s114_21 {l0 l1 l2 : Option Value} {st : List Value} {q : Nat} {x : Int32} {mi : Nat → Nat → Int32} {ml : Nat → Nat → Int64} {mr : Nat → Nat → Option Nat} {nx : Nat} {Q : Option Value → kMem → Prop} (h : kIs nx q 5 = true) : kJ 114 21 [l0, l1, l2] (.int x :: .ref q :: st) (mi, ml, mr, nx) Q = kJ 114 24 [l0, l1, l2] st (kup mi q 13 x, ml, mr, nx) Q := kJ_next d114_21 (kg_puti 5 13 rfl h (by decide) (Or.inl (by decide)))
theorem d114_24 : decode (mB 114) 24 = .ok (.return_, 1) := by decide +kernel
theorem s114_24 {l0 l1 l2 : Option Value} {m : kMem} {Q : Option Value → kMem → Prop} : kJ 114 24 [l0, l1, l2] [] m Q = Q none m := kJ_ret d114_24 rfl
theorem d115_0 : decode (mB 115) 0 = .ok (.iload_n 1, 1) := by decide +kernel
theorem s115_0 {l0 : Option Value} {st : List Value} {x : Int32} {m : kMem} {Q : Option Value → kMem → Prop} : kJ 115 0 [l0, some (.int x)] st m Q = kJ 115 1 [l0, some (.int x)] (.int x :: st) m Q := kJ_next d115_0 rfl
theorem d115_1 : decode (mB 115) 1 = .ok (.aload_n 0, 1) := by decide +kernel
theorem s115_1 {l1 : Option Value} {st : List Value} {x : Nat} {m : kMem} {Q : Option Value → kMem → Prop} : kJ 115 1 [some (.ref x), l1] st m Q = kJ 115 2 [some (.ref x), l1] (.ref x :: st) m Q := kJ_next d115_1 rfl
theorem d115_2 : decode (mB 115) 2 = .ok (.getfield 64, 3) := by decide +kernel
theorem s115_2 {l0 l1 : Option Value} {st : List Value} {q : Nat} {mi : Nat → Nat → Int32} {ml : Nat → Nat → Int64} {mr : Nat → Nat → Option Nat} {nx : Nat} {Q : Option Value → kMem → Prop} (h : kIs nx q 5 = true) : kJ 115 2 [l0, l1] (.ref q :: st) (mi, ml, mr, nx) Q = kJ 115 5 [l0, l1] (.int (mi q 7) :: st) (mi, ml, mr, nx) Q := kJ_next d115_2 (kg_geti 5 7 rfl h (by decide))
theorem d115_5 : decode (mB 115) 5 = .ok (.if_icmp .ge 12, 3) := by decide +kernel
theorem s115_5 {l0 l1 : Option Value} {st : List Value} {a b : Int32} {m : kMem} {Q : Option Value → kMem → Prop} : kJ 115 5 [l0, l1] (.int b :: .int a :: st) m Q = (if b ≤ a then kJ 115 17 [l0, l1] st m Q else kJ 115 8 [l0, l1] st m Q) := kJ_if d115_5 rfl (fun h => kJ_next d115_5 h) (fun h => kJ_next d115_5 h)
theorem d115_8 : decode (mB 115) 8 = .ok (.aload_n 0, 1) := by decide +kernel
theorem s115_8 {l1 : Option Value} {st : List Value} {x : Nat} {m : kMem} {Q : Option Value → kMem → Prop} : kJ 115 8 [some (.ref x), l1] st m Q = kJ 115 9 [some (.ref x), l1] (.ref x :: st) m Q := kJ_next d115_8 rfl
theorem d115_9 : decode (mB 115) 9 = .ok (.getfield 23, 3) := by decide +kernel
theorem s115_9 {l0 l1 : Option Value} {st : List Value} {q : Nat} {mi : Nat → Nat → Int32} {ml : Nat → Nat → Int64} {mr : Nat → Nat → Option Nat} {nx : Nat} {Q : Option Value → kMem → Prop} (h : kIs nx q 5 = true) : kJ 115 9 [l0, l1] (.ref q :: st) (mi, ml, mr, nx) Q = kJ 115 12 [l0, l1] (va_rf (mr q 6) :: st) (mi, ml, mr, nx) Q := kJ_next d115_9 (kg_getr 5 6 rfl h (by decide))
theorem d115_12 : decode (mB 115) 12 = .ok (.iload_n 1, 1) := by decide +kernel
theorem s115_12 {l0 : Option Value} {st : List Value} {x : Int32} {m : kMem} {Q : Option Value → kMem → Prop} : kJ 115 12 [l0, some (.int x)] st m Q = kJ 115 13 [l0, some (.int x)] (.int x :: st) m Q := kJ_next d115_12 rfl
theorem d115_13 : decode (mB 115) 13 = .ok (.iaload, 1) := by decide +kernel
theorem s115_13 {l0 l1 : Option Value} {st : List Value} {q : Nat} {i : Int32} {mi : Nat → Nat → Int32} {ml : Nat → Nat → Int64} {mr : Nat → Nat → Option Nat} {nx : Nat} {Q : Option Value → kMem → Prop} (h : kIs nx q 10 = true) : kJ 115 13 [l0, l1] (.int i :: .ref q :: st) (mi, ml, mr, nx) Q = (vp_in i (kAl q) ∧ kJ 115 14 [l0, l1] (.int (mi q i.toNatClampNeg) :: st) (mi, ml, mr, nx) Q) := kg_aldJ d115_13 rfl (kAr_of h)
theorem d115_14 : decode (mB 115) 14 = .ok (.goto 4, 3) := by decide +kernel
theorem s115_14 {l0 l1 : Option Value} {st : List Value} {m : kMem} {Q : Option Value → kMem → Prop} : kJ 115 14 [l0, l1] st m Q = kJ 115 18 [l0, l1] st m Q := kJ_next d115_14 rfl
theorem d115_17 : decode (mB 115) 17 = .ok (.iconst (-1), 1) := by decide +kernel
theorem s115_17 {l0 l1 : Option Value} {st : List Value} {m : kMem} {Q : Option Value → kMem → Prop} : kJ 115 17 [l0, l1] st m Q = kJ 115 18 [l0, l1] (.int (-1) :: st) m Q := kJ_next d115_17 rfl
theorem d115_18 : decode (mB 115) 18 = .ok (.ireturn, 1) := by decide +kernel
theorem s115_18 {l0 l1 : Option Value} {x : Int32} {m : kMem} {Q : Option Value → kMem → Prop} : kJ 115 18 [l0, l1] [.int x] m Q = Q (some (.int x)) m := kJ_ret d115_18 rfl
theorem d116_0 : decode (mB 116) 0 = .ok (.aload_n 0, 1) := by decide +kernel
theorem s116_0 {l1 l2 l3 l4 : Option Value} {st : List Value} {x : Nat} {m : kMem} {Q : Option Value → kMem → Prop} : kJ 116 0 [some (.ref x), l1, l2, l3, l4] st m Q = kJ 116 1 [some (.ref x), l1, l2, l3, l4] (.ref x :: st) m Q := kJ_next d116_0 rfl
theorem d116_1 : decode (mB 116) 1 = .ok (.getfield 76, 3) := by decide +kernel
theorem s116_1 {l0 l1 l2 l3 l4 : Option Value} {st : List Value} {q : Nat} {mi : Nat → Nat → Int32} {ml : Nat → Nat → Int64} {mr : Nat → Nat → Option Nat} {nx : Nat} {Q : Option Value → kMem → Prop} (h : kIs nx q 5 = true) : kJ 116 1 [l0, l1, l2, l3, l4] (.ref q :: st) (mi, ml, mr, nx) Q = kJ 116 4 [l0, l1, l2, l3, l4] (.int (mi q 8) :: st) (mi, ml, mr, nx) Q := kJ_next d116_1 (kg_geti 5 8 rfl h (by decide))
theorem d116_4 : decode (mB 116) 4 = .ok (.aload_n 0, 1) := by decide +kernel
theorem s116_4 {l1 l2 l3 l4 : Option Value} {st : List Value} {x : Nat} {m : kMem} {Q : Option Value → kMem → Prop} : kJ 116 4 [some (.ref x), l1, l2, l3, l4] st m Q = kJ 116 5 [some (.ref x), l1, l2, l3, l4] (.ref x :: st) m Q := kJ_next d116_4 rfl
theorem d116_5 : decode (mB 116) 5 = .ok (.getfield 70, 3) := by decide +kernel
theorem s116_5 {l0 l1 l2 l3 l4 : Option Value} {st : List Value} {q : Nat} {mi : Nat → Nat → Int32} {ml : Nat → Nat → Int64} {mr : Nat → Nat → Option Nat} {nx : Nat} {Q : Option Value → kMem → Prop} (h : kIs nx q 5 = true) : kJ 116 5 [l0, l1, l2, l3, l4] (.ref q :: st) (mi, ml, mr, nx) Q = kJ 116 8 [l0, l1, l2, l3, l4] (.int (mi q 9) :: st) (mi, ml, mr, nx) Q := kJ_next d116_5 (kg_geti 5 9 rfl h (by decide))
theorem d116_8 : decode (mB 116) 8 = .ok (.isub, 1) := by decide +kernel
theorem s116_8 {l0 l1 l2 l3 l4 : Option Value} {st : List Value} {a b : Int32} {m : kMem} {Q : Option Value → kMem → Prop} : kJ 116 8 [l0, l1, l2, l3, l4] (.int b :: .int a :: st) m Q = kJ 116 9 [l0, l1, l2, l3, l4] (.int (a - b) :: st) m Q := kJ_next d116_8 rfl
theorem d116_9 : decode (mB 116) 9 = .ok (.iload_n 1, 1) := by decide +kernel
theorem s116_9 {l0 l2 l3 l4 : Option Value} {st : List Value} {x : Int32} {m : kMem} {Q : Option Value → kMem → Prop} : kJ 116 9 [l0, some (.int x), l2, l3, l4] st m Q = kJ 116 10 [l0, some (.int x), l2, l3, l4] (.int x :: st) m Q := kJ_next d116_9 rfl
theorem d116_10 : decode (mB 116) 10 = .ok (.if_icmp .ne 48, 3) := by decide +kernel
theorem s116_10 {l0 l1 l2 l3 l4 : Option Value} {st : List Value} {a b : Int32} {m : kMem} {Q : Option Value → kMem → Prop} : kJ 116 10 [l0, l1, l2, l3, l4] (.int b :: .int a :: st) m Q = (if a = b then kJ 116 13 [l0, l1, l2, l3, l4] st m Q else kJ 116 58 [l0, l1, l2, l3, l4] st m Q) := kJ_if d116_10 rfl (fun h => kJ_next d116_10 h) (fun h => kJ_next d116_10 h)
theorem d116_13 : decode (mB 116) 13 = .ok (.aload_n 0, 1) := by decide +kernel
theorem s116_13 {l1 l2 l3 l4 : Option Value} {st : List Value} {x : Nat} {m : kMem} {Q : Option Value → kMem → Prop} : kJ 116 13 [some (.ref x), l1, l2, l3, l4] st m Q = kJ 116 14 [some (.ref x), l1, l2, l3, l4] (.ref x :: st) m Q := kJ_next d116_13 rfl
theorem d116_14 : decode (mB 116) 14 = .ok (.aload_n 0, 1) := by decide +kernel
theorem s116_14 {l1 l2 l3 l4 : Option Value} {st : List Value} {x : Nat} {m : kMem} {Q : Option Value → kMem → Prop} : kJ 116 14 [some (.ref x), l1, l2, l3, l4] st m Q = kJ 116 15 [some (.ref x), l1, l2, l3, l4] (.ref x :: st) m Q := kJ_next d116_14 rfl
theorem d116_15 : decode (mB 116) 15 = .ok (.getfield 70, 3) := by decide +kernel
theorem s116_15 {l0 l1 l2 l3 l4 : Option Value} {st : List Value} {q : Nat} {mi : Nat → Nat → Int32} {ml : Nat → Nat → Int64} {mr : Nat → Nat → Option Nat} {nx : Nat} {Q : Option Value → kMem → Prop} (h : kIs nx q 5 = true) : kJ 116 15 [l0, l1, l2, l3, l4] (.ref q :: st) (mi, ml, mr, nx) Q = kJ 116 18 [l0, l1, l2, l3, l4] (.int (mi q 9) :: st) (mi, ml, mr, nx) Q := kJ_next d116_15 (kg_geti 5 9 rfl h (by decide))
theorem d116_18 : decode (mB 116) 18 = .ok (.invokevirtual 79, 3) := by decide +kernel
theorem s116_18 {l0 l1 l2 l3 l4 : Option Value} {v0 : Int32} {v1 : Nat} {m : kMem} {Q : Option Value → kMem → Prop} (h : kIs m.2.2.2 v1 5 = true) : kJ 116 18 [l0, l1, l2, l3, l4] [.int v0, .ref v1] m Q = kJ 115 0 [some (.ref v1), some (.int v0)] [] m (fun v m2 => kJ 116 21 [l0, l1, l2, l3, l4] (v.toList ++ []) m2 Q) := kJ_call d116_18 (kg_callv 115 1 rfl rfl rfl rfl (Nat.le_of_ble_eq_true rfl) (Nat.le_of_ble_eq_true rfl) (Nat.le_of_ble_eq_true rfl) h rfl)
theorem d116_21 : decode (mB 116) 21 = .ok (.iload_n 2, 1) := by decide +kernel
theorem s116_21 {l0 l1 l3 l4 : Option Value} {st : List Value} {x : Int32} {m : kMem} {Q : Option Value → kMem → Prop} : kJ 116 21 [l0, l1, some (.int x), l3, l4] st m Q = kJ 116 22 [l0, l1, some (.int x), l3, l4] (.int x :: st) m Q := kJ_next d116_21 rfl
theorem d116_22 : decode (mB 116) 22 = .ok (.if_icmp .ne 36, 3) := by decide +kernel
theorem s116_22 {l0 l1 l2 l3 l4 : Option Value} {st : List Value} {a b : Int32} {m : kMem} {Q : Option Value → kMem → Prop} : kJ 116 22 [l0, l1, l2, l3, l4] (.int b :: .int a :: st) m Q = (if a = b then kJ 116 25 [l0, l1, l2, l3, l4] st m Q else kJ 116 58 [l0, l1, l2, l3, l4] st m Q) := kJ_if d116_22 rfl (fun h => kJ_next d116_22 h) (fun h => kJ_next d116_22 h)
theorem d116_25 : decode (mB 116) 25 = .ok (.aload_n 0, 1) := by decide +kernel
theorem s116_25 {l1 l2 l3 l4 : Option Value} {st : List Value} {x : Nat} {m : kMem} {Q : Option Value → kMem → Prop} : kJ 116 25 [some (.ref x), l1, l2, l3, l4] st m Q = kJ 116 26 [some (.ref x), l1, l2, l3, l4] (.ref x :: st) m Q := kJ_next d116_25 rfl
theorem d116_26 : decode (mB 116) 26 = .ok (.aload_n 0, 1) := by decide +kernel
theorem s116_26 {l1 l2 l3 l4 : Option Value} {st : List Value} {x : Nat} {m : kMem} {Q : Option Value → kMem → Prop} : kJ 116 26 [some (.ref x), l1, l2, l3, l4] st m Q = kJ 116 27 [some (.ref x), l1, l2, l3, l4] (.ref x :: st) m Q := kJ_next d116_26 rfl
theorem d116_27 : decode (mB 116) 27 = .ok (.getfield 70, 3) := by decide +kernel
theorem s116_27 {l0 l1 l2 l3 l4 : Option Value} {st : List Value} {q : Nat} {mi : Nat → Nat → Int32} {ml : Nat → Nat → Int64} {mr : Nat → Nat → Option Nat} {nx : Nat} {Q : Option Value → kMem → Prop} (h : kIs nx q 5 = true) : kJ 116 27 [l0, l1, l2, l3, l4] (.ref q :: st) (mi, ml, mr, nx) Q = kJ 116 30 [l0, l1, l2, l3, l4] (.int (mi q 9) :: st) (mi, ml, mr, nx) Q := kJ_next d116_27 (kg_geti 5 9 rfl h (by decide))
theorem d116_30 : decode (mB 116) 30 = .ok (.iconst 1, 1) := by decide +kernel
theorem s116_30 {l0 l1 l2 l3 l4 : Option Value} {st : List Value} {m : kMem} {Q : Option Value → kMem → Prop} : kJ 116 30 [l0, l1, l2, l3, l4] st m Q = kJ 116 31 [l0, l1, l2, l3, l4] (.int (nI 1) :: st) m Q := kJ_next d116_30 rfl
theorem d116_31 : decode (mB 116) 31 = .ok (.iadd, 1) := by decide +kernel
theorem s116_31 {l0 l1 l2 l3 l4 : Option Value} {st : List Value} {a b : Int32} {m : kMem} {Q : Option Value → kMem → Prop} : kJ 116 31 [l0, l1, l2, l3, l4] (.int b :: .int a :: st) m Q = kJ 116 32 [l0, l1, l2, l3, l4] (.int (a + b) :: st) m Q := kJ_next d116_31 rfl
theorem d116_32 : decode (mB 116) 32 = .ok (.invokevirtual 79, 3) := by decide +kernel
theorem s116_32 {l0 l1 l2 l3 l4 : Option Value} {v0 : Int32} {v1 : Nat} {m : kMem} {Q : Option Value → kMem → Prop} (h : kIs m.2.2.2 v1 5 = true) : kJ 116 32 [l0, l1, l2, l3, l4] [.int v0, .ref v1] m Q = kJ 115 0 [some (.ref v1), some (.int v0)] [] m (fun v m2 => kJ 116 35 [l0, l1, l2, l3, l4] (v.toList ++ []) m2 Q) := kJ_call d116_32 (kg_callv 115 1 rfl rfl rfl rfl (Nat.le_of_ble_eq_true rfl) (Nat.le_of_ble_eq_true rfl) (Nat.le_of_ble_eq_true rfl) h rfl)
theorem d116_35 : decode (mB 116) 35 = .ok (.iload_n 3, 1) := by decide +kernel
theorem s116_35 {l0 l1 l2 l4 : Option Value} {st : List Value} {x : Int32} {m : kMem} {Q : Option Value → kMem → Prop} : kJ 116 35 [l0, l1, l2, some (.int x), l4] st m Q = kJ 116 36 [l0, l1, l2, some (.int x), l4] (.int x :: st) m Q := kJ_next d116_35 rfl
theorem d116_36 : decode (mB 116) 36 = .ok (.if_icmp .ne 22, 3) := by decide +kernel
theorem s116_36 {l0 l1 l2 l3 l4 : Option Value} {st : List Value} {a b : Int32} {m : kMem} {Q : Option Value → kMem → Prop} : kJ 116 36 [l0, l1, l2, l3, l4] (.int b :: .int a :: st) m Q = (if a = b then kJ 116 39 [l0, l1, l2, l3, l4] st m Q else kJ 116 58 [l0, l1, l2, l3, l4] st m Q) := kJ_if d116_36 rfl (fun h => kJ_next d116_36 h) (fun h => kJ_next d116_36 h)
theorem d116_39 : decode (mB 116) 39 = .ok (.aload_n 0, 1) := by decide +kernel
theorem s116_39 {l1 l2 l3 l4 : Option Value} {st : List Value} {x : Nat} {m : kMem} {Q : Option Value → kMem → Prop} : kJ 116 39 [some (.ref x), l1, l2, l3, l4] st m Q = kJ 116 40 [some (.ref x), l1, l2, l3, l4] (.ref x :: st) m Q := kJ_next d116_39 rfl
theorem d116_40 : decode (mB 116) 40 = .ok (.aload_n 0, 1) := by decide +kernel
theorem s116_40 {l1 l2 l3 l4 : Option Value} {st : List Value} {x : Nat} {m : kMem} {Q : Option Value → kMem → Prop} : kJ 116 40 [some (.ref x), l1, l2, l3, l4] st m Q = kJ 116 41 [some (.ref x), l1, l2, l3, l4] (.ref x :: st) m Q := kJ_next d116_40 rfl
theorem d116_41 : decode (mB 116) 41 = .ok (.getfield 70, 3) := by decide +kernel
theorem s116_41 {l0 l1 l2 l3 l4 : Option Value} {st : List Value} {q : Nat} {mi : Nat → Nat → Int32} {ml : Nat → Nat → Int64} {mr : Nat → Nat → Option Nat} {nx : Nat} {Q : Option Value → kMem → Prop} (h : kIs nx q 5 = true) : kJ 116 41 [l0, l1, l2, l3, l4] (.ref q :: st) (mi, ml, mr, nx) Q = kJ 116 44 [l0, l1, l2, l3, l4] (.int (mi q 9) :: st) (mi, ml, mr, nx) Q := kJ_next d116_41 (kg_geti 5 9 rfl h (by decide))
theorem d116_44 : decode (mB 116) 44 = .ok (.iconst 2, 1) := by decide +kernel
theorem s116_44 {l0 l1 l2 l3 l4 : Option Value} {st : List Value} {m : kMem} {Q : Option Value → kMem → Prop} : kJ 116 44 [l0, l1, l2, l3, l4] st m Q = kJ 116 45 [l0, l1, l2, l3, l4] (.int (nI 2) :: st) m Q := kJ_next d116_44 rfl
theorem d116_45 : decode (mB 116) 45 = .ok (.iadd, 1) := by decide +kernel
theorem s116_45 {l0 l1 l2 l3 l4 : Option Value} {st : List Value} {a b : Int32} {m : kMem} {Q : Option Value → kMem → Prop} : kJ 116 45 [l0, l1, l2, l3, l4] (.int b :: .int a :: st) m Q = kJ 116 46 [l0, l1, l2, l3, l4] (.int (a + b) :: st) m Q := kJ_next d116_45 rfl
theorem d116_46 : decode (mB 116) 46 = .ok (.invokevirtual 79, 3) := by decide +kernel
theorem s116_46 {l0 l1 l2 l3 l4 : Option Value} {v0 : Int32} {v1 : Nat} {m : kMem} {Q : Option Value → kMem → Prop} (h : kIs m.2.2.2 v1 5 = true) : kJ 116 46 [l0, l1, l2, l3, l4] [.int v0, .ref v1] m Q = kJ 115 0 [some (.ref v1), some (.int v0)] [] m (fun v m2 => kJ 116 49 [l0, l1, l2, l3, l4] (v.toList ++ []) m2 Q) := kJ_call d116_46 (kg_callv 115 1 rfl rfl rfl rfl (Nat.le_of_ble_eq_true rfl) (Nat.le_of_ble_eq_true rfl) (Nat.le_of_ble_eq_true rfl) h rfl)
theorem d116_49 : decode (mB 116) 49 = .ok (.iload 4, 2) := by decide +kernel
theorem s116_49 {l0 l1 l2 l3 : Option Value} {st : List Value} {x : Int32} {m : kMem} {Q : Option Value → kMem → Prop} : kJ 116 49 [l0, l1, l2, l3, some (.int x)] st m Q = kJ 116 51 [l0, l1, l2, l3, some (.int x)] (.int x :: st) m Q := kJ_next d116_49 rfl
theorem d116_51 : decode (mB 116) 51 = .ok (.if_icmp .ne 7, 3) := by decide +kernel
theorem s116_51 {l0 l1 l2 l3 l4 : Option Value} {st : List Value} {a b : Int32} {m : kMem} {Q : Option Value → kMem → Prop} : kJ 116 51 [l0, l1, l2, l3, l4] (.int b :: .int a :: st) m Q = (if a = b then kJ 116 54 [l0, l1, l2, l3, l4] st m Q else kJ 116 58 [l0, l1, l2, l3, l4] st m Q) := kJ_if d116_51 rfl (fun h => kJ_next d116_51 h) (fun h => kJ_next d116_51 h)
theorem d116_54 : decode (mB 116) 54 = .ok (.iconst 1, 1) := by decide +kernel
theorem s116_54 {l0 l1 l2 l3 l4 : Option Value} {st : List Value} {m : kMem} {Q : Option Value → kMem → Prop} : kJ 116 54 [l0, l1, l2, l3, l4] st m Q = kJ 116 55 [l0, l1, l2, l3, l4] (.int (nI 1) :: st) m Q := kJ_next d116_54 rfl
theorem d116_55 : decode (mB 116) 55 = .ok (.goto 4, 3) := by decide +kernel
theorem s116_55 {l0 l1 l2 l3 l4 : Option Value} {st : List Value} {m : kMem} {Q : Option Value → kMem → Prop} : kJ 116 55 [l0, l1, l2, l3, l4] st m Q = kJ 116 59 [l0, l1, l2, l3, l4] st m Q := kJ_next d116_55 rfl
theorem d116_58 : decode (mB 116) 58 = .ok (.iconst 0, 1) := by decide +kernel
theorem s116_58 {l0 l1 l2 l3 l4 : Option Value} {st : List Value} {m : kMem} {Q : Option Value → kMem → Prop} : kJ 116 58 [l0, l1, l2, l3, l4] st m Q = kJ 116 59 [l0, l1, l2, l3, l4] (.int (nI 0) :: st) m Q := kJ_next d116_58 rfl
theorem d116_59 : decode (mB 116) 59 = .ok (.ireturn, 1) := by decide +kernel
theorem s116_59 {l0 l1 l2 l3 l4 : Option Value} {x : Int32} {m : kMem} {Q : Option Value → kMem → Prop} (hx : x = 0 ∨ x = 1) : kJ 116 59 [l0, l1, l2, l3, l4] [.int x] m Q = Q (some (.int x)) m := kJ_ret d116_59 (kg_retz (by decide) hx)
theorem d117_0 : decode (mB 117) 0 = .ok (.aload_n 0, 1) := by decide +kernel
theorem s117_0 {l1 l2 l3 : Option Value} {st : List Value} {x : Nat} {m : kMem} {Q : Option Value → kMem → Prop} : kJ 117 0 [some (.ref x), l1, l2, l3] st m Q = kJ 117 1 [some (.ref x), l1, l2, l3] (.ref x :: st) m Q := kJ_next d117_0 rfl
theorem d117_1 : decode (mB 117) 1 = .ok (.aload_n 0, 1) := by decide +kernel
theorem s117_1 {l1 l2 l3 : Option Value} {st : List Value} {x : Nat} {m : kMem} {Q : Option Value → kMem → Prop} : kJ 117 1 [some (.ref x), l1, l2, l3] st m Q = kJ 117 2 [some (.ref x), l1, l2, l3] (.ref x :: st) m Q := kJ_next d117_1 rfl
theorem d117_2 : decode (mB 117) 2 = .ok (.getfield 70, 3) := by decide +kernel
theorem s117_2 {l0 l1 l2 l3 : Option Value} {st : List Value} {q : Nat} {mi : Nat → Nat → Int32} {ml : Nat → Nat → Int64} {mr : Nat → Nat → Option Nat} {nx : Nat} {Q : Option Value → kMem → Prop} (h : kIs nx q 5 = true) : kJ 117 2 [l0, l1, l2, l3] (.ref q :: st) (mi, ml, mr, nx) Q = kJ 117 5 [l0, l1, l2, l3] (.int (mi q 9) :: st) (mi, ml, mr, nx) Q := kJ_next d117_2 (kg_geti 5 9 rfl h (by decide))
theorem d117_5 : decode (mB 117) 5 = .ok (.iconst 3, 1) := by decide +kernel
theorem s117_5 {l0 l1 l2 l3 : Option Value} {st : List Value} {m : kMem} {Q : Option Value → kMem → Prop} : kJ 117 5 [l0, l1, l2, l3] st m Q = kJ 117 6 [l0, l1, l2, l3] (.int (nI 3) :: st) m Q := kJ_next d117_5 rfl
theorem d117_6 : decode (mB 117) 6 = .ok (.iadd, 1) := by decide +kernel
theorem s117_6 {l0 l1 l2 l3 : Option Value} {st : List Value} {a b : Int32} {m : kMem} {Q : Option Value → kMem → Prop} : kJ 117 6 [l0, l1, l2, l3] (.int b :: .int a :: st) m Q = kJ 117 7 [l0, l1, l2, l3] (.int (a + b) :: st) m Q := kJ_next d117_6 rfl
theorem d117_7 : decode (mB 117) 7 = .ok (.invokevirtual 79, 3) := by decide +kernel
theorem s117_7 {l0 l1 l2 l3 : Option Value} {v0 : Int32} {v1 : Nat} {m : kMem} {Q : Option Value → kMem → Prop} (h : kIs m.2.2.2 v1 5 = true) : kJ 117 7 [l0, l1, l2, l3] [.int v0, .ref v1] m Q = kJ 115 0 [some (.ref v1), some (.int v0)] [] m (fun v m2 => kJ 117 10 [l0, l1, l2, l3] (v.toList ++ []) m2 Q) := kJ_call d117_7 (kg_callv 115 1 rfl rfl rfl rfl (Nat.le_of_ble_eq_true rfl) (Nat.le_of_ble_eq_true rfl) (Nat.le_of_ble_eq_true rfl) h rfl)
theorem d117_10 : decode (mB 117) 10 = .ok (.iload_n 1, 1) := by decide +kernel
theorem s117_10 {l0 l2 l3 : Option Value} {st : List Value} {x : Int32} {m : kMem} {Q : Option Value → kMem → Prop} : kJ 117 10 [l0, some (.int x), l2, l3] st m Q = kJ 117 11 [l0, some (.int x), l2, l3] (.int x :: st) m Q := kJ_next d117_10 rfl
theorem d117_11 : decode (mB 117) 11 = .ok (.if_icmp .ne 43, 3) := by decide +kernel
theorem s117_11 {l0 l1 l2 l3 : Option Value} {st : List Value} {a b : Int32} {m : kMem} {Q : Option Value → kMem → Prop} : kJ 117 11 [l0, l1, l2, l3] (.int b :: .int a :: st) m Q = (if a = b then kJ 117 14 [l0, l1, l2, l3] st m Q else kJ 117 54 [l0, l1, l2, l3] st m Q) := kJ_if d117_11 rfl (fun h => kJ_next d117_11 h) (fun h => kJ_next d117_11 h)
theorem d117_14 : decode (mB 117) 14 = .ok (.iload_n 2, 1) := by decide +kernel
theorem s117_14 {l0 l1 l3 : Option Value} {st : List Value} {x : Int32} {m : kMem} {Q : Option Value → kMem → Prop} : kJ 117 14 [l0, l1, some (.int x), l3] st m Q = kJ 117 15 [l0, l1, some (.int x), l3] (.int x :: st) m Q := kJ_next d117_14 rfl
theorem d117_15 : decode (mB 117) 15 = .ok (.ifCond .eq 17, 3) := by decide +kernel
theorem s117_15 {l0 l1 l2 l3 : Option Value} {st : List Value} {a : Int32} {m : kMem} {Q : Option Value → kMem → Prop} : kJ 117 15 [l0, l1, l2, l3] (.int a :: st) m Q = (if a = 0 then kJ 117 32 [l0, l1, l2, l3] st m Q else kJ 117 18 [l0, l1, l2, l3] st m Q) := kJ_if d117_15 rfl (fun h => kJ_next d117_15 h) (fun h => kJ_next d117_15 h)
theorem d117_18 : decode (mB 117) 18 = .ok (.aload_n 0, 1) := by decide +kernel
theorem s117_18 {l1 l2 l3 : Option Value} {st : List Value} {x : Nat} {m : kMem} {Q : Option Value → kMem → Prop} : kJ 117 18 [some (.ref x), l1, l2, l3] st m Q = kJ 117 19 [some (.ref x), l1, l2, l3] (.ref x :: st) m Q := kJ_next d117_18 rfl
theorem d117_19 : decode (mB 117) 19 = .ok (.aload_n 0, 1) := by decide +kernel
theorem s117_19 {l1 l2 l3 : Option Value} {st : List Value} {x : Nat} {m : kMem} {Q : Option Value → kMem → Prop} : kJ 117 19 [some (.ref x), l1, l2, l3] st m Q = kJ 117 20 [some (.ref x), l1, l2, l3] (.ref x :: st) m Q := kJ_next d117_19 rfl
theorem d117_20 : decode (mB 117) 20 = .ok (.getfield 70, 3) := by decide +kernel
theorem s117_20 {l0 l1 l2 l3 : Option Value} {st : List Value} {q : Nat} {mi : Nat → Nat → Int32} {ml : Nat → Nat → Int64} {mr : Nat → Nat → Option Nat} {nx : Nat} {Q : Option Value → kMem → Prop} (h : kIs nx q 5 = true) : kJ 117 20 [l0, l1, l2, l3] (.ref q :: st) (mi, ml, mr, nx) Q = kJ 117 23 [l0, l1, l2, l3] (.int (mi q 9) :: st) (mi, ml, mr, nx) Q := kJ_next d117_20 (kg_geti 5 9 rfl h (by decide))
theorem d117_23 : decode (mB 117) 23 = .ok (.iconst 4, 1) := by decide +kernel
theorem s117_23 {l0 l1 l2 l3 : Option Value} {st : List Value} {m : kMem} {Q : Option Value → kMem → Prop} : kJ 117 23 [l0, l1, l2, l3] st m Q = kJ 117 24 [l0, l1, l2, l3] (.int (nI 4) :: st) m Q := kJ_next d117_23 rfl
theorem d117_24 : decode (mB 117) 24 = .ok (.iadd, 1) := by decide +kernel
theorem s117_24 {l0 l1 l2 l3 : Option Value} {st : List Value} {a b : Int32} {m : kMem} {Q : Option Value → kMem → Prop} : kJ 117 24 [l0, l1, l2, l3] (.int b :: .int a :: st) m Q = kJ 117 25 [l0, l1, l2, l3] (.int (a + b) :: st) m Q := kJ_next d117_24 rfl
theorem d117_25 : decode (mB 117) 25 = .ok (.invokevirtual 79, 3) := by decide +kernel
theorem s117_25 {l0 l1 l2 l3 : Option Value} {v0 : Int32} {v1 : Nat} {m : kMem} {Q : Option Value → kMem → Prop} (h : kIs m.2.2.2 v1 5 = true) : kJ 117 25 [l0, l1, l2, l3] [.int v0, .ref v1] m Q = kJ 115 0 [some (.ref v1), some (.int v0)] [] m (fun v m2 => kJ 117 28 [l0, l1, l2, l3] (v.toList ++ []) m2 Q) := kJ_call d117_25 (kg_callv 115 1 rfl rfl rfl rfl (Nat.le_of_ble_eq_true rfl) (Nat.le_of_ble_eq_true rfl) (Nat.le_of_ble_eq_true rfl) h rfl)
theorem d117_28 : decode (mB 117) 28 = .ok (.iload_n 2, 1) := by decide +kernel
theorem s117_28 {l0 l1 l3 : Option Value} {st : List Value} {x : Int32} {m : kMem} {Q : Option Value → kMem → Prop} : kJ 117 28 [l0, l1, some (.int x), l3] st m Q = kJ 117 29 [l0, l1, some (.int x), l3] (.int x :: st) m Q := kJ_next d117_28 rfl
theorem d117_29 : decode (mB 117) 29 = .ok (.if_icmp .ne 25, 3) := by decide +kernel
theorem s117_29 {l0 l1 l2 l3 : Option Value} {st : List Value} {a b : Int32} {m : kMem} {Q : Option Value → kMem → Prop} : kJ 117 29 [l0, l1, l2, l3] (.int b :: .int a :: st) m Q = (if a = b then kJ 117 32 [l0, l1, l2, l3] st m Q else kJ 117 54 [l0, l1, l2, l3] st m Q) := kJ_if d117_29 rfl (fun h => kJ_next d117_29 h) (fun h => kJ_next d117_29 h)
theorem d117_32 : decode (mB 117) 32 = .ok (.iload_n 3, 1) := by decide +kernel
theorem s117_32 {l0 l1 l2 : Option Value} {st : List Value} {x : Int32} {m : kMem} {Q : Option Value → kMem → Prop} : kJ 117 32 [l0, l1, l2, some (.int x)] st m Q = kJ 117 33 [l0, l1, l2, some (.int x)] (.int x :: st) m Q := kJ_next d117_32 rfl
theorem d117_33 : decode (mB 117) 33 = .ok (.ifCond .eq 17, 3) := by decide +kernel
theorem s117_33 {l0 l1 l2 l3 : Option Value} {st : List Value} {a : Int32} {m : kMem} {Q : Option Value → kMem → Prop} : kJ 117 33 [l0, l1, l2, l3] (.int a :: st) m Q = (if a = 0 then kJ 117 50 [l0, l1, l2, l3] st m Q else kJ 117 36 [l0, l1, l2, l3] st m Q) := kJ_if d117_33 rfl (fun h => kJ_next d117_33 h) (fun h => kJ_next d117_33 h)
theorem d117_36 : decode (mB 117) 36 = .ok (.aload_n 0, 1) := by decide +kernel
theorem s117_36 {l1 l2 l3 : Option Value} {st : List Value} {x : Nat} {m : kMem} {Q : Option Value → kMem → Prop} : kJ 117 36 [some (.ref x), l1, l2, l3] st m Q = kJ 117 37 [some (.ref x), l1, l2, l3] (.ref x :: st) m Q := kJ_next d117_36 rfl
theorem d117_37 : decode (mB 117) 37 = .ok (.aload_n 0, 1) := by decide +kernel
theorem s117_37 {l1 l2 l3 : Option Value} {st : List Value} {x : Nat} {m : kMem} {Q : Option Value → kMem → Prop} : kJ 117 37 [some (.ref x), l1, l2, l3] st m Q = kJ 117 38 [some (.ref x), l1, l2, l3] (.ref x :: st) m Q := kJ_next d117_37 rfl
theorem d117_38 : decode (mB 117) 38 = .ok (.getfield 70, 3) := by decide +kernel
theorem s117_38 {l0 l1 l2 l3 : Option Value} {st : List Value} {q : Nat} {mi : Nat → Nat → Int32} {ml : Nat → Nat → Int64} {mr : Nat → Nat → Option Nat} {nx : Nat} {Q : Option Value → kMem → Prop} (h : kIs nx q 5 = true) : kJ 117 38 [l0, l1, l2, l3] (.ref q :: st) (mi, ml, mr, nx) Q = kJ 117 41 [l0, l1, l2, l3] (.int (mi q 9) :: st) (mi, ml, mr, nx) Q := kJ_next d117_38 (kg_geti 5 9 rfl h (by decide))
theorem d117_41 : decode (mB 117) 41 = .ok (.iconst 5, 1) := by decide +kernel
theorem s117_41 {l0 l1 l2 l3 : Option Value} {st : List Value} {m : kMem} {Q : Option Value → kMem → Prop} : kJ 117 41 [l0, l1, l2, l3] st m Q = kJ 117 42 [l0, l1, l2, l3] (.int (nI 5) :: st) m Q := kJ_next d117_41 rfl
theorem d117_42 : decode (mB 117) 42 = .ok (.iadd, 1) := by decide +kernel
theorem s117_42 {l0 l1 l2 l3 : Option Value} {st : List Value} {a b : Int32} {m : kMem} {Q : Option Value → kMem → Prop} : kJ 117 42 [l0, l1, l2, l3] (.int b :: .int a :: st) m Q = kJ 117 43 [l0, l1, l2, l3] (.int (a + b) :: st) m Q := kJ_next d117_42 rfl
theorem d117_43 : decode (mB 117) 43 = .ok (.invokevirtual 79, 3) := by decide +kernel
theorem s117_43 {l0 l1 l2 l3 : Option Value} {v0 : Int32} {v1 : Nat} {m : kMem} {Q : Option Value → kMem → Prop} (h : kIs m.2.2.2 v1 5 = true) : kJ 117 43 [l0, l1, l2, l3] [.int v0, .ref v1] m Q = kJ 115 0 [some (.ref v1), some (.int v0)] [] m (fun v m2 => kJ 117 46 [l0, l1, l2, l3] (v.toList ++ []) m2 Q) := kJ_call d117_43 (kg_callv 115 1 rfl rfl rfl rfl (Nat.le_of_ble_eq_true rfl) (Nat.le_of_ble_eq_true rfl) (Nat.le_of_ble_eq_true rfl) h rfl)
theorem d117_46 : decode (mB 117) 46 = .ok (.iload_n 3, 1) := by decide +kernel
theorem s117_46 {l0 l1 l2 : Option Value} {st : List Value} {x : Int32} {m : kMem} {Q : Option Value → kMem → Prop} : kJ 117 46 [l0, l1, l2, some (.int x)] st m Q = kJ 117 47 [l0, l1, l2, some (.int x)] (.int x :: st) m Q := kJ_next d117_46 rfl
theorem d117_47 : decode (mB 117) 47 = .ok (.if_icmp .ne 7, 3) := by decide +kernel
theorem s117_47 {l0 l1 l2 l3 : Option Value} {st : List Value} {a b : Int32} {m : kMem} {Q : Option Value → kMem → Prop} : kJ 117 47 [l0, l1, l2, l3] (.int b :: .int a :: st) m Q = (if a = b then kJ 117 50 [l0, l1, l2, l3] st m Q else kJ 117 54 [l0, l1, l2, l3] st m Q) := kJ_if d117_47 rfl (fun h => kJ_next d117_47 h) (fun h => kJ_next d117_47 h)
theorem d117_50 : decode (mB 117) 50 = .ok (.iconst 1, 1) := by decide +kernel
theorem s117_50 {l0 l1 l2 l3 : Option Value} {st : List Value} {m : kMem} {Q : Option Value → kMem → Prop} : kJ 117 50 [l0, l1, l2, l3] st m Q = kJ 117 51 [l0, l1, l2, l3] (.int (nI 1) :: st) m Q := kJ_next d117_50 rfl
theorem d117_51 : decode (mB 117) 51 = .ok (.goto 4, 3) := by decide +kernel
theorem s117_51 {l0 l1 l2 l3 : Option Value} {st : List Value} {m : kMem} {Q : Option Value → kMem → Prop} : kJ 117 51 [l0, l1, l2, l3] st m Q = kJ 117 55 [l0, l1, l2, l3] st m Q := kJ_next d117_51 rfl
theorem d117_54 : decode (mB 117) 54 = .ok (.iconst 0, 1) := by decide +kernel
theorem s117_54 {l0 l1 l2 l3 : Option Value} {st : List Value} {m : kMem} {Q : Option Value → kMem → Prop} : kJ 117 54 [l0, l1, l2, l3] st m Q = kJ 117 55 [l0, l1, l2, l3] (.int (nI 0) :: st) m Q := kJ_next d117_54 rfl
theorem d117_55 : decode (mB 117) 55 = .ok (.ireturn, 1) := by decide +kernel
theorem s117_55 {l0 l1 l2 l3 : Option Value} {x : Int32} {m : kMem} {Q : Option Value → kMem → Prop} (hx : x = 0 ∨ x = 1) : kJ 117 55 [l0, l1, l2, l3] [.int x] m Q = Q (some (.int x)) m := kJ_ret d117_55 (kg_retz (by decide) hx)
theorem d118_0 : decode (mB 118) 0 = .ok (.aload_n 0, 1) := by decide +kernel
theorem s118_0 {st : List Value} {x : Nat} {m : kMem} {Q : Option Value → kMem → Prop} : kJ 118 0 [some (.ref x)] st m Q = kJ 118 1 [some (.ref x)] (.ref x :: st) m Q := kJ_next d118_0 rfl
theorem d118_1 : decode (mB 118) 1 = .ok (.iconst 5, 1) := by decide +kernel
theorem s118_1 {l0 : Option Value} {st : List Value} {m : kMem} {Q : Option Value → kMem → Prop} : kJ 118 1 [l0] st m Q = kJ 118 2 [l0] (.int (nI 5) :: st) m Q := kJ_next d118_1 rfl
theorem d118_2 : decode (mB 118) 2 = .ok (.bipush 112, 2) := by decide +kernel
theorem s118_2 {l0 : Option Value} {st : List Value} {m : kMem} {Q : Option Value → kMem → Prop} : kJ 118 2 [l0] st m Q = kJ 118 4 [l0] (.int (nI 112) :: st) m Q := kJ_next d118_2 rfl
theorem d118_4 : decode (mB 118) 4 = .ok (.bipush 108, 2) := by decide +kernel
theorem s118_4 {l0 : Option Value} {st : List Value} {m : kMem} {Q : Option Value → kMem → Prop} : kJ 118 4 [l0] st m Q = kJ 118 6 [l0] (.int (nI 108) :: st) m Q := kJ_next d118_4 rfl
theorem d118_6 : decode (mB 118) 6 = .ok (.bipush 97, 2) := by decide +kernel
theorem s118_6 {l0 : Option Value} {st : List Value} {m : kMem} {Q : Option Value → kMem → Prop} : kJ 118 6 [l0] st m Q = kJ 118 8 [l0] (.int (nI 97) :: st) m Q := kJ_next d118_6 rfl
theorem d118_8 : decode (mB 118) 8 = .ok (.invokevirtual 83, 3) := by decide +kernel
theorem s118_8 {l0 : Option Value} {v0 : Int32} {v1 : Int32} {v2 : Int32} {v3 : Int32} {v4 : Nat} {m : kMem} {Q : Option Value → kMem → Prop} (h : kIs m.2.2.2 v4 5 = true) : kJ 118 8 [l0] [.int v0, .int v1, .int v2, .int v3, .ref v4] m Q = kJ 116 0 [some (.ref v4), some (.int v3), some (.int v2), some (.int v1), some (.int v0)] [] m (fun v m2 => kJ 118 11 [l0] (v.toList ++ []) m2 Q) := kJ_call d118_8 (kg_callv 116 4 rfl rfl rfl rfl (Nat.le_of_ble_eq_true rfl) (Nat.le_of_ble_eq_true rfl) (Nat.le_of_ble_eq_true rfl) h rfl)
theorem d118_11 : decode (mB 118) 11 = .ok (.ifCond .eq 17, 3) := by decide +kernel
theorem s118_11 {l0 : Option Value} {st : List Value} {a : Int32} {m : kMem} {Q : Option Value → kMem → Prop} : kJ 118 11 [l0] (.int a :: st) m Q = (if a = 0 then kJ 118 28 [l0] st m Q else kJ 118 14 [l0] st m Q) := kJ_if d118_11 rfl (fun h => kJ_next d118_11 h) (fun h => kJ_next d118_11 h)
theorem d118_14 : decode (mB 118) 14 = .ok (.aload_n 0, 1) := by decide +kernel
theorem s118_14 {st : List Value} {x : Nat} {m : kMem} {Q : Option Value → kMem → Prop} : kJ 118 14 [some (.ref x)] st m Q = kJ 118 15 [some (.ref x)] (.ref x :: st) m Q := kJ_next d118_14 rfl
theorem d118_15 : decode (mB 118) 15 = .ok (.bipush 105, 2) := by decide +kernel
theorem s118_15 {l0 : Option Value} {st : List Value} {m : kMem} {Q : Option Value → kMem → Prop} : kJ 118 15 [l0] st m Q = kJ 118 17 [l0] (.int (nI 105) :: st) m Q := kJ_next d118_15 rfl
theorem d118_17 : decode (mB 118) 17 = .ok (.bipush 110, 2) := by decide +kernel
theorem s118_17 {l0 : Option Value} {st : List Value} {m : kMem} {Q : Option Value → kMem → Prop} : kJ 118 17 [l0] st m Q = kJ 118 19 [l0] (.int (nI 110) :: st) m Q := kJ_next d118_17 rfl
theorem d118_19 : decode (mB 118) 19 = .ok (.iconst 0, 1) := by decide +kernel
theorem s118_19 {l0 : Option Value} {st : List Value} {m : kMem} {Q : Option Value → kMem → Prop} : kJ 118 19 [l0] st m Q = kJ 118 20 [l0] (.int (nI 0) :: st) m Q := kJ_next d118_19 rfl
theorem d118_20 : decode (mB 118) 20 = .ok (.invokevirtual 87, 3) := by decide +kernel
theorem s118_20 {l0 : Option Value} {v0 : Int32} {v1 : Int32} {v2 : Int32} {v3 : Nat} {m : kMem} {Q : Option Value → kMem → Prop} (h : kIs m.2.2.2 v3 5 = true) : kJ 118 20 [l0] [.int v0, .int v1, .int v2, .ref v3] m Q = kJ 117 0 [some (.ref v3), some (.int v2), some (.int v1), some (.int v0)] [] m (fun v m2 => kJ 118 23 [l0] (v.toList ++ []) m2 Q) := kJ_call d118_20 (kg_callv 117 3 rfl rfl rfl rfl (Nat.le_of_ble_eq_true rfl) (Nat.le_of_ble_eq_true rfl) (Nat.le_of_ble_eq_true rfl) h rfl)
theorem d118_23 : decode (mB 118) 23 = .ok (.ifCond .eq 5, 3) := by decide +kernel
theorem s118_23 {l0 : Option Value} {st : List Value} {a : Int32} {m : kMem} {Q : Option Value → kMem → Prop} : kJ 118 23 [l0] (.int a :: st) m Q = (if a = 0 then kJ 118 28 [l0] st m Q else kJ 118 26 [l0] st m Q) := kJ_if d118_23 rfl (fun h => kJ_next d118_23 h) (fun h => kJ_next d118_23 h)
theorem d118_26 : decode (mB 118) 26 = .ok (.iconst 0, 1) := by decide +kernel
theorem s118_26 {l0 : Option Value} {st : List Value} {m : kMem} {Q : Option Value → kMem → Prop} : kJ 118 26 [l0] st m Q = kJ 118 27 [l0] (.int (nI 0) :: st) m Q := kJ_next d118_26 rfl
theorem d118_27 : decode (mB 118) 27 = .ok (.ireturn, 1) := by decide +kernel
theorem s118_27 {l0 : Option Value} {x : Int32} {m : kMem} {Q : Option Value → kMem → Prop} : kJ 118 27 [l0] [.int x] m Q = Q (some (.int x)) m := kJ_ret d118_27 rfl
theorem d118_28 : decode (mB 118) 28 = .ok (.aload_n 0, 1) := by decide +kernel
theorem s118_28 {st : List Value} {x : Nat} {m : kMem} {Q : Option Value → kMem → Prop} : kJ 118 28 [some (.ref x)] st m Q = kJ 118 29 [some (.ref x)] (.ref x :: st) m Q := kJ_next d118_28 rfl
theorem d118_29 : decode (mB 118) 29 = .ok (.iconst 5, 1) := by decide +kernel
theorem s118_29 {l0 : Option Value} {st : List Value} {m : kMem} {Q : Option Value → kMem → Prop} : kJ 118 29 [l0] st m Q = kJ 118 30 [l0] (.int (nI 5) :: st) m Q := kJ_next d118_29 rfl
theorem d118_30 : decode (mB 118) 30 = .ok (.bipush 112, 2) := by decide +kernel
theorem s118_30 {l0 : Option Value} {st : List Value} {m : kMem} {Q : Option Value → kMem → Prop} : kJ 118 30 [l0] st m Q = kJ 118 32 [l0] (.int (nI 112) :: st) m Q := kJ_next d118_30 rfl
theorem d118_32 : decode (mB 118) 32 = .ok (.bipush 114, 2) := by decide +kernel
theorem s118_32 {l0 : Option Value} {st : List Value} {m : kMem} {Q : Option Value → kMem → Prop} : kJ 118 32 [l0] st m Q = kJ 118 34 [l0] (.int (nI 114) :: st) m Q := kJ_next d118_32 rfl
theorem d118_34 : decode (mB 118) 34 = .ok (.bipush 111, 2) := by decide +kernel
theorem s118_34 {l0 : Option Value} {st : List Value} {m : kMem} {Q : Option Value → kMem → Prop} : kJ 118 34 [l0] st m Q = kJ 118 36 [l0] (.int (nI 111) :: st) m Q := kJ_next d118_34 rfl
theorem d118_36 : decode (mB 118) 36 = .ok (.invokevirtual 83, 3) := by decide +kernel
theorem s118_36 {l0 : Option Value} {v0 : Int32} {v1 : Int32} {v2 : Int32} {v3 : Int32} {v4 : Nat} {m : kMem} {Q : Option Value → kMem → Prop} (h : kIs m.2.2.2 v4 5 = true) : kJ 118 36 [l0] [.int v0, .int v1, .int v2, .int v3, .ref v4] m Q = kJ 116 0 [some (.ref v4), some (.int v3), some (.int v2), some (.int v1), some (.int v0)] [] m (fun v m2 => kJ 118 39 [l0] (v.toList ++ []) m2 Q) := kJ_call d118_36 (kg_callv 116 4 rfl rfl rfl rfl (Nat.le_of_ble_eq_true rfl) (Nat.le_of_ble_eq_true rfl) (Nat.le_of_ble_eq_true rfl) h rfl)
theorem d118_39 : decode (mB 118) 39 = .ok (.ifCond .eq 17, 3) := by decide +kernel
theorem s118_39 {l0 : Option Value} {st : List Value} {a : Int32} {m : kMem} {Q : Option Value → kMem → Prop} : kJ 118 39 [l0] (.int a :: st) m Q = (if a = 0 then kJ 118 56 [l0] st m Q else kJ 118 42 [l0] st m Q) := kJ_if d118_39 rfl (fun h => kJ_next d118_39 h) (fun h => kJ_next d118_39 h)
theorem d118_42 : decode (mB 118) 42 = .ok (.aload_n 0, 1) := by decide +kernel
theorem s118_42 {st : List Value} {x : Nat} {m : kMem} {Q : Option Value → kMem → Prop} : kJ 118 42 [some (.ref x)] st m Q = kJ 118 43 [some (.ref x)] (.ref x :: st) m Q := kJ_next d118_42 rfl
theorem d118_43 : decode (mB 118) 43 = .ok (.bipush 117, 2) := by decide +kernel
theorem s118_43 {l0 : Option Value} {st : List Value} {m : kMem} {Q : Option Value → kMem → Prop} : kJ 118 43 [l0] st m Q = kJ 118 45 [l0] (.int (nI 117) :: st) m Q := kJ_next d118_43 rfl
theorem d118_45 : decode (mB 118) 45 = .ok (.bipush 100, 2) := by decide +kernel
theorem s118_45 {l0 : Option Value} {st : List Value} {m : kMem} {Q : Option Value → kMem → Prop} : kJ 118 45 [l0] st m Q = kJ 118 47 [l0] (.int (nI 100) :: st) m Q := kJ_next d118_45 rfl
theorem d118_47 : decode (mB 118) 47 = .ok (.iconst 0, 1) := by decide +kernel
theorem s118_47 {l0 : Option Value} {st : List Value} {m : kMem} {Q : Option Value → kMem → Prop} : kJ 118 47 [l0] st m Q = kJ 118 48 [l0] (.int (nI 0) :: st) m Q := kJ_next d118_47 rfl
theorem d118_48 : decode (mB 118) 48 = .ok (.invokevirtual 87, 3) := by decide +kernel
theorem s118_48 {l0 : Option Value} {v0 : Int32} {v1 : Int32} {v2 : Int32} {v3 : Nat} {m : kMem} {Q : Option Value → kMem → Prop} (h : kIs m.2.2.2 v3 5 = true) : kJ 118 48 [l0] [.int v0, .int v1, .int v2, .ref v3] m Q = kJ 117 0 [some (.ref v3), some (.int v2), some (.int v1), some (.int v0)] [] m (fun v m2 => kJ 118 51 [l0] (v.toList ++ []) m2 Q) := kJ_call d118_48 (kg_callv 117 3 rfl rfl rfl rfl (Nat.le_of_ble_eq_true rfl) (Nat.le_of_ble_eq_true rfl) (Nat.le_of_ble_eq_true rfl) h rfl)
theorem d118_51 : decode (mB 118) 51 = .ok (.ifCond .eq 5, 3) := by decide +kernel
theorem s118_51 {l0 : Option Value} {st : List Value} {a : Int32} {m : kMem} {Q : Option Value → kMem → Prop} : kJ 118 51 [l0] (.int a :: st) m Q = (if a = 0 then kJ 118 56 [l0] st m Q else kJ 118 54 [l0] st m Q) := kJ_if d118_51 rfl (fun h => kJ_next d118_51 h) (fun h => kJ_next d118_51 h)
theorem d118_54 : decode (mB 118) 54 = .ok (.iconst 1, 1) := by decide +kernel
theorem s118_54 {l0 : Option Value} {st : List Value} {m : kMem} {Q : Option Value → kMem → Prop} : kJ 118 54 [l0] st m Q = kJ 118 55 [l0] (.int (nI 1) :: st) m Q := kJ_next d118_54 rfl
theorem d118_55 : decode (mB 118) 55 = .ok (.ireturn, 1) := by decide +kernel
theorem s118_55 {l0 : Option Value} {x : Int32} {m : kMem} {Q : Option Value → kMem → Prop} : kJ 118 55 [l0] [.int x] m Q = Q (some (.int x)) m := kJ_ret d118_55 rfl
theorem d118_56 : decode (mB 118) 56 = .ok (.aload_n 0, 1) := by decide +kernel
theorem s118_56 {st : List Value} {x : Nat} {m : kMem} {Q : Option Value → kMem → Prop} : kJ 118 56 [some (.ref x)] st m Q = kJ 118 57 [some (.ref x)] (.ref x :: st) m Q := kJ_next d118_56 rfl
theorem d118_57 : decode (mB 118) 57 = .ok (.iconst 4, 1) := by decide +kernel
theorem s118_57 {l0 : Option Value} {st : List Value} {m : kMem} {Q : Option Value → kMem → Prop} : kJ 118 57 [l0] st m Q = kJ 118 58 [l0] (.int (nI 4) :: st) m Q := kJ_next d118_57 rfl
theorem d118_58 : decode (mB 118) 58 = .ok (.bipush 107, 2) := by decide +kernel
theorem s118_58 {l0 : Option Value} {st : List Value} {m : kMem} {Q : Option Value → kMem → Prop} : kJ 118 58 [l0] st m Q = kJ 118 60 [l0] (.int (nI 107) :: st) m Q := kJ_next d118_58 rfl
theorem d118_60 : decode (mB 118) 60 = .ok (.bipush 105, 2) := by decide +kernel
theorem s118_60 {l0 : Option Value} {st : List Value} {m : kMem} {Q : Option Value → kMem → Prop} : kJ 118 60 [l0] st m Q = kJ 118 62 [l0] (.int (nI 105) :: st) m Q := kJ_next d118_60 rfl
theorem d118_62 : decode (mB 118) 62 = .ok (.bipush 110, 2) := by decide +kernel
theorem s118_62 {l0 : Option Value} {st : List Value} {m : kMem} {Q : Option Value → kMem → Prop} : kJ 118 62 [l0] st m Q = kJ 118 64 [l0] (.int (nI 110) :: st) m Q := kJ_next d118_62 rfl
theorem d118_64 : decode (mB 118) 64 = .ok (.invokevirtual 83, 3) := by decide +kernel
theorem s118_64 {l0 : Option Value} {v0 : Int32} {v1 : Int32} {v2 : Int32} {v3 : Int32} {v4 : Nat} {m : kMem} {Q : Option Value → kMem → Prop} (h : kIs m.2.2.2 v4 5 = true) : kJ 118 64 [l0] [.int v0, .int v1, .int v2, .int v3, .ref v4] m Q = kJ 116 0 [some (.ref v4), some (.int v3), some (.int v2), some (.int v1), some (.int v0)] [] m (fun v m2 => kJ 118 67 [l0] (v.toList ++ []) m2 Q) := kJ_call d118_64 (kg_callv 116 4 rfl rfl rfl rfl (Nat.le_of_ble_eq_true rfl) (Nat.le_of_ble_eq_true rfl) (Nat.le_of_ble_eq_true rfl) h rfl)
theorem d118_67 : decode (mB 118) 67 = .ok (.ifCond .eq 16, 3) := by decide +kernel
theorem s118_67 {l0 : Option Value} {st : List Value} {a : Int32} {m : kMem} {Q : Option Value → kMem → Prop} : kJ 118 67 [l0] (.int a :: st) m Q = (if a = 0 then kJ 118 83 [l0] st m Q else kJ 118 70 [l0] st m Q) := kJ_if d118_67 rfl (fun h => kJ_next d118_67 h) (fun h => kJ_next d118_67 h)
theorem d118_70 : decode (mB 118) 70 = .ok (.aload_n 0, 1) := by decide +kernel
theorem s118_70 {st : List Value} {x : Nat} {m : kMem} {Q : Option Value → kMem → Prop} : kJ 118 70 [some (.ref x)] st m Q = kJ 118 71 [some (.ref x)] (.ref x :: st) m Q := kJ_next d118_70 rfl
theorem d118_71 : decode (mB 118) 71 = .ok (.bipush 100, 2) := by decide +kernel
theorem s118_71 {l0 : Option Value} {st : List Value} {m : kMem} {Q : Option Value → kMem → Prop} : kJ 118 71 [l0] st m Q = kJ 118 73 [l0] (.int (nI 100) :: st) m Q := kJ_next d118_71 rfl
theorem d118_73 : decode (mB 118) 73 = .ok (.iconst 0, 1) := by decide +kernel
theorem s118_73 {l0 : Option Value} {st : List Value} {m : kMem} {Q : Option Value → kMem → Prop} : kJ 118 73 [l0] st m Q = kJ 118 74 [l0] (.int (nI 0) :: st) m Q := kJ_next d118_73 rfl
theorem d118_74 : decode (mB 118) 74 = .ok (.iconst 0, 1) := by decide +kernel
theorem s118_74 {l0 : Option Value} {st : List Value} {m : kMem} {Q : Option Value → kMem → Prop} : kJ 118 74 [l0] st m Q = kJ 118 75 [l0] (.int (nI 0) :: st) m Q := kJ_next d118_74 rfl
theorem d118_75 : decode (mB 118) 75 = .ok (.invokevirtual 87, 3) := by decide +kernel
theorem s118_75 {l0 : Option Value} {v0 : Int32} {v1 : Int32} {v2 : Int32} {v3 : Nat} {m : kMem} {Q : Option Value → kMem → Prop} (h : kIs m.2.2.2 v3 5 = true) : kJ 118 75 [l0] [.int v0, .int v1, .int v2, .ref v3] m Q = kJ 117 0 [some (.ref v3), some (.int v2), some (.int v1), some (.int v0)] [] m (fun v m2 => kJ 118 78 [l0] (v.toList ++ []) m2 Q) := kJ_call d118_75 (kg_callv 117 3 rfl rfl rfl rfl (Nat.le_of_ble_eq_true rfl) (Nat.le_of_ble_eq_true rfl) (Nat.le_of_ble_eq_true rfl) h rfl)
theorem d118_78 : decode (mB 118) 78 = .ok (.ifCond .eq 5, 3) := by decide +kernel
theorem s118_78 {l0 : Option Value} {st : List Value} {a : Int32} {m : kMem} {Q : Option Value → kMem → Prop} : kJ 118 78 [l0] (.int a :: st) m Q = (if a = 0 then kJ 118 83 [l0] st m Q else kJ 118 81 [l0] st m Q) := kJ_if d118_78 rfl (fun h => kJ_next d118_78 h) (fun h => kJ_next d118_78 h)
theorem d118_81 : decode (mB 118) 81 = .ok (.iconst 2, 1) := by decide +kernel
theorem s118_81 {l0 : Option Value} {st : List Value} {m : kMem} {Q : Option Value → kMem → Prop} : kJ 118 81 [l0] st m Q = kJ 118 82 [l0] (.int (nI 2) :: st) m Q := kJ_next d118_81 rfl
theorem d118_82 : decode (mB 118) 82 = .ok (.ireturn, 1) := by decide +kernel
theorem s118_82 {l0 : Option Value} {x : Int32} {m : kMem} {Q : Option Value → kMem → Prop} : kJ 118 82 [l0] [.int x] m Q = Q (some (.int x)) m := kJ_ret d118_82 rfl
theorem d118_83 : decode (mB 118) 83 = .ok (.aload_n 0, 1) := by decide +kernel
theorem s118_83 {st : List Value} {x : Nat} {m : kMem} {Q : Option Value → kMem → Prop} : kJ 118 83 [some (.ref x)] st m Q = kJ 118 84 [some (.ref x)] (.ref x :: st) m Q := kJ_next d118_83 rfl
theorem d118_84 : decode (mB 118) 84 = .ok (.iconst 3, 1) := by decide +kernel
theorem s118_84 {l0 : Option Value} {st : List Value} {m : kMem} {Q : Option Value → kMem → Prop} : kJ 118 84 [l0] st m Q = kJ 118 85 [l0] (.int (nI 3) :: st) m Q := kJ_next d118_84 rfl
theorem d118_85 : decode (mB 118) 85 = .ok (.bipush 115, 2) := by decide +kernel
theorem s118_85 {l0 : Option Value} {st : List Value} {m : kMem} {Q : Option Value → kMem → Prop} : kJ 118 85 [l0] st m Q = kJ 118 87 [l0] (.int (nI 115) :: st) m Q := kJ_next d118_85 rfl
theorem d118_87 : decode (mB 118) 87 = .ok (.bipush 108, 2) := by decide +kernel
theorem s118_87 {l0 : Option Value} {st : List Value} {m : kMem} {Q : Option Value → kMem → Prop} : kJ 118 87 [l0] st m Q = kJ 118 89 [l0] (.int (nI 108) :: st) m Q := kJ_next d118_87 rfl
theorem d118_89 : decode (mB 118) 89 = .ok (.bipush 121, 2) := by decide +kernel
theorem s118_89 {l0 : Option Value} {st : List Value} {m : kMem} {Q : Option Value → kMem → Prop} : kJ 118 89 [l0] st m Q = kJ 118 91 [l0] (.int (nI 121) :: st) m Q := kJ_next d118_89 rfl
theorem d118_91 : decode (mB 118) 91 = .ok (.invokevirtual 83, 3) := by decide +kernel
theorem s118_91 {l0 : Option Value} {v0 : Int32} {v1 : Int32} {v2 : Int32} {v3 : Int32} {v4 : Nat} {m : kMem} {Q : Option Value → kMem → Prop} (h : kIs m.2.2.2 v4 5 = true) : kJ 118 91 [l0] [.int v0, .int v1, .int v2, .int v3, .ref v4] m Q = kJ 116 0 [some (.ref v4), some (.int v3), some (.int v2), some (.int v1), some (.int v0)] [] m (fun v m2 => kJ 118 94 [l0] (v.toList ++ []) m2 Q) := kJ_call d118_91 (kg_callv 116 4 rfl rfl rfl rfl (Nat.le_of_ble_eq_true rfl) (Nat.le_of_ble_eq_true rfl) (Nat.le_of_ble_eq_true rfl) h rfl)
theorem d118_94 : decode (mB 118) 94 = .ok (.ifCond .eq 5, 3) := by decide +kernel
theorem s118_94 {l0 : Option Value} {st : List Value} {a : Int32} {m : kMem} {Q : Option Value → kMem → Prop} : kJ 118 94 [l0] (.int a :: st) m Q = (if a = 0 then kJ 118 99 [l0] st m Q else kJ 118 97 [l0] st m Q) := kJ_if d118_94 rfl (fun h => kJ_next d118_94 h) (fun h => kJ_next d118_94 h)
theorem d118_97 : decode (mB 118) 97 = .ok (.iconst 3, 1) := by decide +kernel
theorem s118_97 {l0 : Option Value} {st : List Value} {m : kMem} {Q : Option Value → kMem → Prop} : kJ 118 97 [l0] st m Q = kJ 118 98 [l0] (.int (nI 3) :: st) m Q := kJ_next d118_97 rfl
theorem d118_98 : decode (mB 118) 98 = .ok (.ireturn, 1) := by decide +kernel
theorem s118_98 {l0 : Option Value} {x : Int32} {m : kMem} {Q : Option Value → kMem → Prop} : kJ 118 98 [l0] [.int x] m Q = Q (some (.int x)) m := kJ_ret d118_98 rfl
theorem d118_99 : decode (mB 118) 99 = .ok (.aload_n 0, 1) := by decide +kernel
theorem s118_99 {st : List Value} {x : Nat} {m : kMem} {Q : Option Value → kMem → Prop} : kJ 118 99 [some (.ref x)] st m Q = kJ 118 100 [some (.ref x)] (.ref x :: st) m Q := kJ_next d118_99 rfl
theorem d118_100 : decode (mB 118) 100 = .ok (.bipush 6, 2) := by decide +kernel
theorem s118_100 {l0 : Option Value} {st : List Value} {m : kMem} {Q : Option Value → kMem → Prop} : kJ 118 100 [l0] st m Q = kJ 118 102 [l0] (.int (nI 6) :: st) m Q := kJ_next d118_100 rfl
theorem d118_102 : decode (mB 118) 102 = .ok (.bipush 108, 2) := by decide +kernel
theorem s118_102 {l0 : Option Value} {st : List Value} {m : kMem} {Q : Option Value → kMem → Prop} : kJ 118 102 [l0] st m Q = kJ 118 104 [l0] (.int (nI 108) :: st) m Q := kJ_next d118_102 rfl
theorem d118_104 : decode (mB 118) 104 = .ok (.bipush 101, 2) := by decide +kernel
theorem s118_104 {l0 : Option Value} {st : List Value} {m : kMem} {Q : Option Value → kMem → Prop} : kJ 118 104 [l0] st m Q = kJ 118 106 [l0] (.int (nI 101) :: st) m Q := kJ_next d118_104 rfl
theorem d118_106 : decode (mB 118) 106 = .ok (.bipush 116, 2) := by decide +kernel
theorem s118_106 {l0 : Option Value} {st : List Value} {m : kMem} {Q : Option Value → kMem → Prop} : kJ 118 106 [l0] st m Q = kJ 118 108 [l0] (.int (nI 116) :: st) m Q := kJ_next d118_106 rfl
theorem d118_108 : decode (mB 118) 108 = .ok (.invokevirtual 83, 3) := by decide +kernel
theorem s118_108 {l0 : Option Value} {v0 : Int32} {v1 : Int32} {v2 : Int32} {v3 : Int32} {v4 : Nat} {m : kMem} {Q : Option Value → kMem → Prop} (h : kIs m.2.2.2 v4 5 = true) : kJ 118 108 [l0] [.int v0, .int v1, .int v2, .int v3, .ref v4] m Q = kJ 116 0 [some (.ref v4), some (.int v3), some (.int v2), some (.int v1), some (.int v0)] [] m (fun v m2 => kJ 118 111 [l0] (v.toList ++ []) m2 Q) := kJ_call d118_108 (kg_callv 116 4 rfl rfl rfl rfl (Nat.le_of_ble_eq_true rfl) (Nat.le_of_ble_eq_true rfl) (Nat.le_of_ble_eq_true rfl) h rfl)
theorem d118_111 : decode (mB 118) 111 = .ok (.ifCond .eq 20, 3) := by decide +kernel
theorem s118_111 {l0 : Option Value} {st : List Value} {a : Int32} {m : kMem} {Q : Option Value → kMem → Prop} : kJ 118 111 [l0] (.int a :: st) m Q = (if a = 0 then kJ 118 131 [l0] st m Q else kJ 118 114 [l0] st m Q) := kJ_if d118_111 rfl (fun h => kJ_next d118_111 h) (fun h => kJ_next d118_111 h)
theorem d118_114 : decode (mB 118) 114 = .ok (.aload_n 0, 1) := by decide +kernel
theorem s118_114 {st : List Value} {x : Nat} {m : kMem} {Q : Option Value → kMem → Prop} : kJ 118 114 [some (.ref x)] st m Q = kJ 118 115 [some (.ref x)] (.ref x :: st) m Q := kJ_next d118_114 rfl
theorem d118_115 : decode (mB 118) 115 = .ok (.bipush 116, 2) := by decide +kernel
theorem s118_115 {l0 : Option Value} {st : List Value} {m : kMem} {Q : Option Value → kMem → Prop} : kJ 118 115 [l0] st m Q = kJ 118 117 [l0] (.int (nI 116) :: st) m Q := kJ_next d118_115 rfl
theorem d118_117 : decode (mB 118) 117 = .ok (.bipush 101, 2) := by decide +kernel
theorem s118_117 {l0 : Option Value} {st : List Value} {m : kMem} {Q : Option Value → kMem → Prop} : kJ 118 117 [l0] st m Q = kJ 118 119 [l0] (.int (nI 101) :: st) m Q := kJ_next d118_117 rfl
theorem d118_119 : decode (mB 118) 119 = .ok (.bipush 114, 2) := by decide +kernel
theorem s118_119 {l0 : Option Value} {st : List Value} {m : kMem} {Q : Option Value → kMem → Prop} : kJ 118 119 [l0] st m Q = kJ 118 121 [l0] (.int (nI 114) :: st) m Q := kJ_next d118_119 rfl
theorem d118_121 : decode (mB 118) 121 = .ok (.invokevirtual 87, 3) := by decide +kernel
theorem s118_121 {l0 : Option Value} {v0 : Int32} {v1 : Int32} {v2 : Int32} {v3 : Nat} {m : kMem} {Q : Option Value → kMem → Prop} (h : kIs m.2.2.2 v3 5 = true) : kJ 118 121 [l0] [.int v0, .int v1, .int v2, .ref v3] m Q = kJ 117 0 [some (.ref v3), some (.int v2), some (.int v1), some (.int v0)] [] m (fun v m2 => kJ 118 124 [l0] (v.toList ++ []) m2 Q) := kJ_call d118_121 (kg_callv 117 3 rfl rfl rfl rfl (Nat.le_of_ble_eq_true rfl) (Nat.le_of_ble_eq_true rfl) (Nat.le_of_ble_eq_true rfl) h rfl)
theorem d118_124 : decode (mB 118) 124 = .ok (.ifCond .eq 7, 3) := by decide +kernel
theorem s118_124 {l0 : Option Value} {st : List Value} {a : Int32} {m : kMem} {Q : Option Value → kMem → Prop} : kJ 118 124 [l0] (.int a :: st) m Q = (if a = 0 then kJ 118 131 [l0] st m Q else kJ 118 127 [l0] st m Q) := kJ_if d118_124 rfl (fun h => kJ_next d118_124 h) (fun h => kJ_next d118_124 h)
theorem d118_127 : decode (mB 118) 127 = .ok (.iconst 4, 1) := by decide +kernel
theorem s118_127 {l0 : Option Value} {st : List Value} {m : kMem} {Q : Option Value → kMem → Prop} : kJ 118 127 [l0] st m Q = kJ 118 128 [l0] (.int (nI 4) :: st) m Q := kJ_next d118_127 rfl
theorem d118_128 : decode (mB 118) 128 = .ok (.goto 34, 3) := by decide +kernel
theorem s118_128 {l0 : Option Value} {st : List Value} {m : kMem} {Q : Option Value → kMem → Prop} : kJ 118 128 [l0] st m Q = kJ 118 162 [l0] st m Q := kJ_next d118_128 rfl
theorem d118_131 : decode (mB 118) 131 = .ok (.aload_n 0, 1) := by decide +kernel
theorem s118_131 {st : List Value} {x : Nat} {m : kMem} {Q : Option Value → kMem → Prop} : kJ 118 131 [some (.ref x)] st m Q = kJ 118 132 [some (.ref x)] (.ref x :: st) m Q := kJ_next d118_131 rfl
theorem d118_132 : decode (mB 118) 132 = .ok (.iconst 4, 1) := by decide +kernel
theorem s118_132 {l0 : Option Value} {st : List Value} {m : kMem} {Q : Option Value → kMem → Prop} : kJ 118 132 [l0] st m Q = kJ 118 133 [l0] (.int (nI 4) :: st) m Q := kJ_next d118_132 rfl
theorem d118_133 : decode (mB 118) 133 = .ok (.bipush 112, 2) := by decide +kernel
theorem s118_133 {l0 : Option Value} {st : List Value} {m : kMem} {Q : Option Value → kMem → Prop} : kJ 118 133 [l0] st m Q = kJ 118 135 [l0] (.int (nI 112) :: st) m Q := kJ_next d118_133 rfl
theorem d118_135 : decode (mB 118) 135 = .ok (.bipush 97, 2) := by decide +kernel
theorem s118_135 {l0 : Option Value} {st : List Value} {m : kMem} {Q : Option Value → kMem → Prop} : kJ 118 135 [l0] st m Q = kJ 118 137 [l0] (.int (nI 97) :: st) m Q := kJ_next d118_135 rfl
theorem d118_137 : decode (mB 118) 137 = .ok (.bipush 99, 2) := by decide +kernel
theorem s118_137 {l0 : Option Value} {st : List Value} {m : kMem} {Q : Option Value → kMem → Prop} : kJ 118 137 [l0] st m Q = kJ 118 139 [l0] (.int (nI 99) :: st) m Q := kJ_next d118_137 rfl
theorem d118_139 : decode (mB 118) 139 = .ok (.invokevirtual 83, 3) := by decide +kernel
theorem s118_139 {l0 : Option Value} {v0 : Int32} {v1 : Int32} {v2 : Int32} {v3 : Int32} {v4 : Nat} {m : kMem} {Q : Option Value → kMem → Prop} (h : kIs m.2.2.2 v4 5 = true) : kJ 118 139 [l0] [.int v0, .int v1, .int v2, .int v3, .ref v4] m Q = kJ 116 0 [some (.ref v4), some (.int v3), some (.int v2), some (.int v1), some (.int v0)] [] m (fun v m2 => kJ 118 142 [l0] (v.toList ++ []) m2 Q) := kJ_call d118_139 (kg_callv 116 4 rfl rfl rfl rfl (Nat.le_of_ble_eq_true rfl) (Nat.le_of_ble_eq_true rfl) (Nat.le_of_ble_eq_true rfl) h rfl)
theorem d118_142 : decode (mB 118) 142 = .ok (.ifCond .eq 18, 3) := by decide +kernel
theorem s118_142 {l0 : Option Value} {st : List Value} {a : Int32} {m : kMem} {Q : Option Value → kMem → Prop} : kJ 118 142 [l0] (.int a :: st) m Q = (if a = 0 then kJ 118 160 [l0] st m Q else kJ 118 145 [l0] st m Q) := kJ_if d118_142 rfl (fun h => kJ_next d118_142 h) (fun h => kJ_next d118_142 h)
theorem d118_145 : decode (mB 118) 145 = .ok (.aload_n 0, 1) := by decide +kernel
theorem s118_145 {st : List Value} {x : Nat} {m : kMem} {Q : Option Value → kMem → Prop} : kJ 118 145 [some (.ref x)] st m Q = kJ 118 146 [some (.ref x)] (.ref x :: st) m Q := kJ_next d118_145 rfl
theorem d118_146 : decode (mB 118) 146 = .ok (.bipush 101, 2) := by decide +kernel
theorem s118_146 {l0 : Option Value} {st : List Value} {m : kMem} {Q : Option Value → kMem → Prop} : kJ 118 146 [l0] st m Q = kJ 118 148 [l0] (.int (nI 101) :: st) m Q := kJ_next d118_146 rfl
theorem d118_148 : decode (mB 118) 148 = .ok (.iconst 0, 1) := by decide +kernel
theorem s118_148 {l0 : Option Value} {st : List Value} {m : kMem} {Q : Option Value → kMem → Prop} : kJ 118 148 [l0] st m Q = kJ 118 149 [l0] (.int (nI 0) :: st) m Q := kJ_next d118_148 rfl
theorem d118_149 : decode (mB 118) 149 = .ok (.iconst 0, 1) := by decide +kernel
theorem s118_149 {l0 : Option Value} {st : List Value} {m : kMem} {Q : Option Value → kMem → Prop} : kJ 118 149 [l0] st m Q = kJ 118 150 [l0] (.int (nI 0) :: st) m Q := kJ_next d118_149 rfl
theorem d118_150 : decode (mB 118) 150 = .ok (.invokevirtual 87, 3) := by decide +kernel
theorem s118_150 {l0 : Option Value} {v0 : Int32} {v1 : Int32} {v2 : Int32} {v3 : Nat} {m : kMem} {Q : Option Value → kMem → Prop} (h : kIs m.2.2.2 v3 5 = true) : kJ 118 150 [l0] [.int v0, .int v1, .int v2, .ref v3] m Q = kJ 117 0 [some (.ref v3), some (.int v2), some (.int v1), some (.int v0)] [] m (fun v m2 => kJ 118 153 [l0] (v.toList ++ []) m2 Q) := kJ_call d118_150 (kg_callv 117 3 rfl rfl rfl rfl (Nat.le_of_ble_eq_true rfl) (Nat.le_of_ble_eq_true rfl) (Nat.le_of_ble_eq_true rfl) h rfl)
theorem d118_153 : decode (mB 118) 153 = .ok (.ifCond .eq 7, 3) := by decide +kernel
theorem s118_153 {l0 : Option Value} {st : List Value} {a : Int32} {m : kMem} {Q : Option Value → kMem → Prop} : kJ 118 153 [l0] (.int a :: st) m Q = (if a = 0 then kJ 118 160 [l0] st m Q else kJ 118 156 [l0] st m Q) := kJ_if d118_153 rfl (fun h => kJ_next d118_153 h) (fun h => kJ_next d118_153 h)
theorem d118_156 : decode (mB 118) 156 = .ok (.iconst 5, 1) := by decide +kernel
theorem s118_156 {l0 : Option Value} {st : List Value} {m : kMem} {Q : Option Value → kMem → Prop} : kJ 118 156 [l0] st m Q = kJ 118 157 [l0] (.int (nI 5) :: st) m Q := kJ_next d118_156 rfl
theorem d118_157 : decode (mB 118) 157 = .ok (.goto 5, 3) := by decide +kernel
theorem s118_157 {l0 : Option Value} {st : List Value} {m : kMem} {Q : Option Value → kMem → Prop} : kJ 118 157 [l0] st m Q = kJ 118 162 [l0] st m Q := kJ_next d118_157 rfl
theorem d118_160 : decode (mB 118) 160 = .ok (.bipush (-4), 2) := by decide +kernel
theorem s118_160 {l0 : Option Value} {st : List Value} {m : kMem} {Q : Option Value → kMem → Prop} : kJ 118 160 [l0] st m Q = kJ 118 162 [l0] (.int (-4) :: st) m Q := kJ_next d118_160 rfl
theorem d118_162 : decode (mB 118) 162 = .ok (.ireturn, 1) := by decide +kernel
theorem s118_162 {l0 : Option Value} {x : Int32} {m : kMem} {Q : Option Value → kMem → Prop} : kJ 118 162 [l0] [.int x] m Q = Q (some (.int x)) m := kJ_ret d118_162 rfl
theorem d119_0 : decode (mB 119) 0 = .ok (.aload_n 0, 1) := by decide +kernel
theorem s119_0 {l1 : Option Value} {st : List Value} {x : Nat} {m : kMem} {Q : Option Value → kMem → Prop} : kJ 119 0 [some (.ref x), l1] st m Q = kJ 119 1 [some (.ref x), l1] (.ref x :: st) m Q := kJ_next d119_0 rfl
theorem d119_1 : decode (mB 119) 1 = .ok (.getfield 67, 3) := by decide +kernel
theorem s119_1 {l0 l1 : Option Value} {st : List Value} {q : Nat} {mi : Nat → Nat → Int32} {ml : Nat → Nat → Int64} {mr : Nat → Nat → Option Nat} {nx : Nat} {Q : Option Value → kMem → Prop} (h : kIs nx q 5 = true) : kJ 119 1 [l0, l1] (.ref q :: st) (mi, ml, mr, nx) Q = kJ 119 4 [l0, l1] (.int (mi q 12) :: st) (mi, ml, mr, nx) Q := kJ_next d119_1 (kg_geti 5 12 rfl h (by decide))
theorem d119_4 : decode (mB 119) 4 = .ok (.ifCond .le 4, 3) := by decide +kernel
theorem s119_4 {l0 l1 : Option Value} {st : List Value} {a : Int32} {m : kMem} {Q : Option Value → kMem → Prop} : kJ 119 4 [l0, l1] (.int a :: st) m Q = (if a ≤ 0 then kJ 119 8 [l0, l1] st m Q else kJ 119 7 [l0, l1] st m Q) := kJ_if d119_4 rfl (fun h => kJ_next d119_4 h) (fun h => kJ_next d119_4 h)
theorem d119_7 : decode (mB 119) 7 = .ok (.return_, 1) := by decide +kernel
theorem s119_7 {l0 l1 : Option Value} {m : kMem} {Q : Option Value → kMem → Prop} : kJ 119 7 [l0, l1] [] m Q = Q none m := kJ_ret d119_7 rfl
theorem d119_8 : decode (mB 119) 8 = .ok (.aload_n 0, 1) := by decide +kernel
theorem s119_8 {l1 : Option Value} {st : List Value} {x : Nat} {m : kMem} {Q : Option Value → kMem → Prop} : kJ 119 8 [some (.ref x), l1] st m Q = kJ 119 9 [some (.ref x), l1] (.ref x :: st) m Q := kJ_next d119_8 rfl
theorem d119_9 : decode (mB 119) 9 = .ok (.aload_n 0, 1) := by decide +kernel
theorem s119_9 {l1 : Option Value} {st : List Value} {x : Nat} {m : kMem} {Q : Option Value → kMem → Prop} : kJ 119 9 [some (.ref x), l1] st m Q = kJ 119 10 [some (.ref x), l1] (.ref x :: st) m Q := kJ_next d119_9 rfl
theorem d119_10 : decode (mB 119) 10 = .ok (.getfield 76, 3) := by decide +kernel
theorem s119_10 {l0 l1 : Option Value} {st : List Value} {q : Nat} {mi : Nat → Nat → Int32} {ml : Nat → Nat → Int64} {mr : Nat → Nat → Option Nat} {nx : Nat} {Q : Option Value → kMem → Prop} (h : kIs nx q 5 = true) : kJ 119 10 [l0, l1] (.ref q :: st) (mi, ml, mr, nx) Q = kJ 119 13 [l0, l1] (.int (mi q 8) :: st) (mi, ml, mr, nx) Q := kJ_next d119_10 (kg_geti 5 8 rfl h (by decide))
theorem d119_13 : decode (mB 119) 13 = .ok (.invokevirtual 79, 3) := by decide +kernel
theorem s119_13 {l0 l1 : Option Value} {v0 : Int32} {v1 : Nat} {m : kMem} {Q : Option Value → kMem → Prop} (h : kIs m.2.2.2 v1 5 = true) : kJ 119 13 [l0, l1] [.int v0, .ref v1] m Q = kJ 115 0 [some (.ref v1), some (.int v0)] [] m (fun v m2 => kJ 119 16 [l0, l1] (v.toList ++ []) m2 Q) := kJ_call d119_13 (kg_callv 115 1 rfl rfl rfl rfl (Nat.le_of_ble_eq_true rfl) (Nat.le_of_ble_eq_true rfl) (Nat.le_of_ble_eq_true rfl) h rfl)
theorem d119_16 : decode (mB 119) 16 = .ok (.bipush 32, 2) := by decide +kernel
theorem s119_16 {l0 l1 : Option Value} {st : List Value} {m : kMem} {Q : Option Value → kMem → Prop} : kJ 119 16 [l0, l1] st m Q = kJ 119 18 [l0, l1] (.int (nI 32) :: st) m Q := kJ_next d119_16 rfl
theorem d119_18 : decode (mB 119) 18 = .ok (.if_icmp .ne 16, 3) := by decide +kernel
theorem s119_18 {l0 l1 : Option Value} {st : List Value} {a b : Int32} {m : kMem} {Q : Option Value → kMem → Prop} : kJ 119 18 [l0, l1] (.int b :: .int a :: st) m Q = (if a = b then kJ 119 21 [l0, l1] st m Q else kJ 119 34 [l0, l1] st m Q) := kJ_if d119_18 rfl (fun h => kJ_next d119_18 h) (fun h => kJ_next d119_18 h)
theorem d119_21 : decode (mB 119) 21 = .ok (.aload_n 0, 1) := by decide +kernel
theorem s119_21 {l1 : Option Value} {st : List Value} {x : Nat} {m : kMem} {Q : Option Value → kMem → Prop} : kJ 119 21 [some (.ref x), l1] st m Q = kJ 119 22 [some (.ref x), l1] (.ref x :: st) m Q := kJ_next d119_21 rfl
theorem d119_22 : decode (mB 119) 22 = .ok (.dup, 1) := by decide +kernel
theorem s119_22 {l0 l1 : Option Value} {st : List Value} {a : Nat} {m : kMem} {Q : Option Value → kMem → Prop} : kJ 119 22 [l0, l1] (.ref a :: st) m Q = kJ 119 23 [l0, l1] (.ref a :: .ref a :: st) m Q := kJ_next d119_22 rfl
theorem d119_23 : decode (mB 119) 23 = .ok (.getfield 76, 3) := by decide +kernel
theorem s119_23 {l0 l1 : Option Value} {st : List Value} {q : Nat} {mi : Nat → Nat → Int32} {ml : Nat → Nat → Int64} {mr : Nat → Nat → Option Nat} {nx : Nat} {Q : Option Value → kMem → Prop} (h : kIs nx q 5 = true) : kJ 119 23 [l0, l1] (.ref q :: st) (mi, ml, mr, nx) Q = kJ 119 26 [l0, l1] (.int (mi q 8) :: st) (mi, ml, mr, nx) Q := kJ_next d119_23 (kg_geti 5 8 rfl h (by decide))
theorem d119_26 : decode (mB 119) 26 = .ok (.iconst 1, 1) := by decide +kernel
theorem s119_26 {l0 l1 : Option Value} {st : List Value} {m : kMem} {Q : Option Value → kMem → Prop} : kJ 119 26 [l0, l1] st m Q = kJ 119 27 [l0, l1] (.int (nI 1) :: st) m Q := kJ_next d119_26 rfl
theorem d119_27 : decode (mB 119) 27 = .ok (.iadd, 1) := by decide +kernel
theorem s119_27 {l0 l1 : Option Value} {st : List Value} {a b : Int32} {m : kMem} {Q : Option Value → kMem → Prop} : kJ 119 27 [l0, l1] (.int b :: .int a :: st) m Q = kJ 119 28 [l0, l1] (.int (a + b) :: st) m Q := kJ_next d119_27 rfl
theorem d119_28 : decode (mB 119) 28 = .ok (.putfield 76, 3) := by decide +kernel
theorem s119_28 {l0 l1 : Option Value} {st : List Value} {q : Nat} {x : Int32} {mi : Nat → Nat → Int32} {ml : Nat → Nat → Int64} {mr : Nat → Nat → Option Nat} {nx : Nat} {Q : Option Value → kMem → Prop} (h : kIs nx q 5 = true) : kJ 119 28 [l0, l1] (.int x :: .ref q :: st) (mi, ml, mr, nx) Q = kJ 119 31 [l0, l1] st (kup mi q 8 x, ml, mr, nx) Q := kJ_next d119_28 (kg_puti 5 8 rfl h (by decide) (Or.inl (by decide)))
theorem d119_31 : decode (mB 119) 31 = .ok (.goto (-23), 3) := by decide +kernel
theorem s119_31 {l0 l1 : Option Value} {st : List Value} {m : kMem} {Q : Option Value → kMem → Prop} : kJ 119 31 [l0, l1] st m Q = kJ 119 8 [l0, l1] st m Q := kJ_next d119_31 rfl
theorem d119_34 : decode (mB 119) 34 = .ok (.aload_n 0, 1) := by decide +kernel
theorem s119_34 {l1 : Option Value} {st : List Value} {x : Nat} {m : kMem} {Q : Option Value → kMem → Prop} : kJ 119 34 [some (.ref x), l1] st m Q = kJ 119 35 [some (.ref x), l1] (.ref x :: st) m Q := kJ_next d119_34 rfl
theorem d119_35 : decode (mB 119) 35 = .ok (.aload_n 0, 1) := by decide +kernel
theorem s119_35 {l1 : Option Value} {st : List Value} {x : Nat} {m : kMem} {Q : Option Value → kMem → Prop} : kJ 119 35 [some (.ref x), l1] st m Q = kJ 119 36 [some (.ref x), l1] (.ref x :: st) m Q := kJ_next d119_35 rfl
theorem d119_36 : decode (mB 119) 36 = .ok (.getfield 76, 3) := by decide +kernel
theorem s119_36 {l0 l1 : Option Value} {st : List Value} {q : Nat} {mi : Nat → Nat → Int32} {ml : Nat → Nat → Int64} {mr : Nat → Nat → Option Nat} {nx : Nat} {Q : Option Value → kMem → Prop} (h : kIs nx q 5 = true) : kJ 119 36 [l0, l1] (.ref q :: st) (mi, ml, mr, nx) Q = kJ 119 39 [l0, l1] (.int (mi q 8) :: st) (mi, ml, mr, nx) Q := kJ_next d119_36 (kg_geti 5 8 rfl h (by decide))
theorem d119_39 : decode (mB 119) 39 = .ok (.putfield 70, 3) := by decide +kernel
theorem s119_39 {l0 l1 : Option Value} {st : List Value} {q : Nat} {x : Int32} {mi : Nat → Nat → Int32} {ml : Nat → Nat → Int64} {mr : Nat → Nat → Option Nat} {nx : Nat} {Q : Option Value → kMem → Prop} (h : kIs nx q 5 = true) : kJ 119 39 [l0, l1] (.int x :: .ref q :: st) (mi, ml, mr, nx) Q = kJ 119 42 [l0, l1] st (kup mi q 9 x, ml, mr, nx) Q := kJ_next d119_39 (kg_puti 5 9 rfl h (by decide) (Or.inl (by decide)))
theorem d119_42 : decode (mB 119) 42 = .ok (.aload_n 0, 1) := by decide +kernel
theorem s119_42 {l1 : Option Value} {st : List Value} {x : Nat} {m : kMem} {Q : Option Value → kMem → Prop} : kJ 119 42 [some (.ref x), l1] st m Q = kJ 119 43 [some (.ref x), l1] (.ref x :: st) m Q := kJ_next d119_42 rfl
theorem d119_43 : decode (mB 119) 43 = .ok (.aload_n 0, 1) := by decide +kernel
theorem s119_43 {l1 : Option Value} {st : List Value} {x : Nat} {m : kMem} {Q : Option Value → kMem → Prop} : kJ 119 43 [some (.ref x), l1] st m Q = kJ 119 44 [some (.ref x), l1] (.ref x :: st) m Q := kJ_next d119_43 rfl
theorem d119_44 : decode (mB 119) 44 = .ok (.getfield 76, 3) := by decide +kernel
theorem s119_44 {l0 l1 : Option Value} {st : List Value} {q : Nat} {mi : Nat → Nat → Int32} {ml : Nat → Nat → Int64} {mr : Nat → Nat → Option Nat} {nx : Nat} {Q : Option Value → kMem → Prop} (h : kIs nx q 5 = true) : kJ 119 44 [l0, l1] (.ref q :: st) (mi, ml, mr, nx) Q = kJ 119 47 [l0, l1] (.int (mi q 8) :: st) (mi, ml, mr, nx) Q := kJ_next d119_44 (kg_geti 5 8 rfl h (by decide))
theorem d119_47 : decode (mB 119) 47 = .ok (.invokevirtual 79, 3) := by decide +kernel
theorem s119_47 {l0 l1 : Option Value} {v0 : Int32} {v1 : Nat} {m : kMem} {Q : Option Value → kMem → Prop} (h : kIs m.2.2.2 v1 5 = true) : kJ 119 47 [l0, l1] [.int v0, .ref v1] m Q = kJ 115 0 [some (.ref v1), some (.int v0)] [] m (fun v m2 => kJ 119 50 [l0, l1] (v.toList ++ []) m2 Q) := kJ_call d119_47 (kg_callv 115 1 rfl rfl rfl rfl (Nat.le_of_ble_eq_true rfl) (Nat.le_of_ble_eq_true rfl) (Nat.le_of_ble_eq_true rfl) h rfl)
theorem d119_50 : decode (mB 119) 50 = .ok (.istore_n 1, 1) := by decide +kernel
theorem s119_50 {l0 l1 : Option Value} {st : List Value} {x : Int32} {m : kMem} {Q : Option Value → kMem → Prop} (hp : kNL l0 = true) : kJ 119 50 [l0, l1] (.int x :: st) m Q = kJ 119 51 [l0, some (.int x)] st m Q := kJ_next d119_50 (kg_sti (Nat.le_of_ble_eq_true rfl) hp)
theorem d119_51 : decode (mB 119) 51 = .ok (.iload_n 1, 1) := by decide +kernel
theorem s119_51 {l0 : Option Value} {st : List Value} {x : Int32} {m : kMem} {Q : Option Value → kMem → Prop} : kJ 119 51 [l0, some (.int x)] st m Q = kJ 119 52 [l0, some (.int x)] (.int x :: st) m Q := kJ_next d119_51 rfl
theorem d119_52 : decode (mB 119) 52 = .ok (.ifCond .ge 11, 3) := by decide +kernel
theorem s119_52 {l0 l1 : Option Value} {st : List Value} {a : Int32} {m : kMem} {Q : Option Value → kMem → Prop} : kJ 119 52 [l0, l1] (.int a :: st) m Q = (if 0 ≤ a then kJ 119 63 [l0, l1] st m Q else kJ 119 55 [l0, l1] st m Q) := kJ_if d119_52 rfl (fun h => kJ_next d119_52 h) (fun h => kJ_next d119_52 h)
theorem d119_55 : decode (mB 119) 55 = .ok (.aload_n 0, 1) := by decide +kernel
theorem s119_55 {l1 : Option Value} {st : List Value} {x : Nat} {m : kMem} {Q : Option Value → kMem → Prop} : kJ 119 55 [some (.ref x), l1] st m Q = kJ 119 56 [some (.ref x), l1] (.ref x :: st) m Q := kJ_next d119_55 rfl
theorem d119_56 : decode (mB 119) 56 = .ok (.iconst 0, 1) := by decide +kernel
theorem s119_56 {l0 l1 : Option Value} {st : List Value} {m : kMem} {Q : Option Value → kMem → Prop} : kJ 119 56 [l0, l1] st m Q = kJ 119 57 [l0, l1] (.int (nI 0) :: st) m Q := kJ_next d119_56 rfl
theorem d119_57 : decode (mB 119) 57 = .ok (.putfield 91, 3) := by decide +kernel
theorem s119_57 {l0 l1 : Option Value} {st : List Value} {q : Nat} {x : Int32} {mi : Nat → Nat → Int32} {ml : Nat → Nat → Int64} {mr : Nat → Nat → Option Nat} {nx : Nat} {Q : Option Value → kMem → Prop} (h : kIs nx q 5 = true) : kJ 119 57 [l0, l1] (.int x :: .ref q :: st) (mi, ml, mr, nx) Q = kJ 119 60 [l0, l1] st (kup mi q 10 x, ml, mr, nx) Q := kJ_next d119_57 (kg_puti 5 10 rfl h (by decide) (Or.inl (by decide)))
theorem d119_60 : decode (mB 119) 60 = .ok (.goto 214, 3) := by decide +kernel
theorem s119_60 {l0 l1 : Option Value} {st : List Value} {m : kMem} {Q : Option Value → kMem → Prop} : kJ 119 60 [l0, l1] st m Q = kJ 119 274 [l0, l1] st m Q := kJ_next d119_60 rfl
theorem d119_63 : decode (mB 119) 63 = .ok (.iload_n 1, 1) := by decide +kernel
theorem s119_63 {l0 : Option Value} {st : List Value} {x : Int32} {m : kMem} {Q : Option Value → kMem → Prop} : kJ 119 63 [l0, some (.int x)] st m Q = kJ 119 64 [l0, some (.int x)] (.int x :: st) m Q := kJ_next d119_63 rfl
theorem d119_64 : decode (mB 119) 64 = .ok (.i2l, 1) := by decide +kernel
theorem s119_64 {l0 l1 : Option Value} {st : List Value} {a : Int32} {m : kMem} {Q : Option Value → kMem → Prop} : kJ 119 64 [l0, l1] (.int a :: st) m Q = kJ 119 65 [l0, l1] (.long a.toInt64 :: st) m Q := kJ_next d119_64 rfl
theorem d119_65 : decode (mB 119) 65 = .ok (.ldc2_w 94, 3) := by decide +kernel
theorem s119_65 {l0 l1 : Option Value} {st : List Value} {m : kMem} {Q : Option Value → kMem → Prop} : kJ 119 65 [l0, l1] st m Q = kJ 119 68 [l0, l1] (.long (97) :: st) m Q := kJ_next d119_65 rfl
theorem d119_68 : decode (mB 119) 68 = .ok (.ldc2_w 96, 3) := by decide +kernel
theorem s119_68 {l0 l1 : Option Value} {st : List Value} {m : kMem} {Q : Option Value → kMem → Prop} : kJ 119 68 [l0, l1] st m Q = kJ 119 71 [l0, l1] (.long (122) :: st) m Q := kJ_next d119_68 rfl
theorem d119_71 : decode (mB 119) 71 = .ok (.invokestatic 60, 3) := by decide +kernel
theorem s119_71 {l0 l1 : Option Value} {v0 : Int64} {v1 : Int64} {v2 : Int64} {m : kMem} {Q : Option Value → kMem → Prop} : kJ 119 71 [l0, l1] [.long v0, .long v1, .long v2] m Q = kJ 107 0 [some (.long v2), none, some (.long v1), none, some (.long v0), none] [] m (fun v m2 => kJ 119 74 [l0, l1] (v.toList ++ []) m2 Q) := kJ_call d119_71 (kg_calls 107 3 rfl rfl (Nat.le_of_ble_eq_true rfl) (Nat.le_of_ble_eq_true rfl) (Nat.le_of_ble_eq_true rfl) (Nat.le_of_ble_eq_true rfl))
theorem d119_74 : decode (mB 119) 74 = .ok (.ifCond .eq 42, 3) := by decide +kernel
theorem s119_74 {l0 l1 : Option Value} {st : List Value} {a : Int32} {m : kMem} {Q : Option Value → kMem → Prop} : kJ 119 74 [l0, l1] (.int a :: st) m Q = (if a = 0 then kJ 119 116 [l0, l1] st m Q else kJ 119 77 [l0, l1] st m Q) := kJ_if d119_74 rfl (fun h => kJ_next d119_74 h) (fun h => kJ_next d119_74 h)
theorem d119_77 : decode (mB 119) 77 = .ok (.aload_n 0, 1) := by decide +kernel
theorem s119_77 {l1 : Option Value} {st : List Value} {x : Nat} {m : kMem} {Q : Option Value → kMem → Prop} : kJ 119 77 [some (.ref x), l1] st m Q = kJ 119 78 [some (.ref x), l1] (.ref x :: st) m Q := kJ_next d119_77 rfl
theorem d119_78 : decode (mB 119) 78 = .ok (.iconst 1, 1) := by decide +kernel
theorem s119_78 {l0 l1 : Option Value} {st : List Value} {m : kMem} {Q : Option Value → kMem → Prop} : kJ 119 78 [l0, l1] st m Q = kJ 119 79 [l0, l1] (.int (nI 1) :: st) m Q := kJ_next d119_78 rfl
theorem d119_79 : decode (mB 119) 79 = .ok (.putfield 91, 3) := by decide +kernel
theorem s119_79 {l0 l1 : Option Value} {st : List Value} {q : Nat} {x : Int32} {mi : Nat → Nat → Int32} {ml : Nat → Nat → Int64} {mr : Nat → Nat → Option Nat} {nx : Nat} {Q : Option Value → kMem → Prop} (h : kIs nx q 5 = true) : kJ 119 79 [l0, l1] (.int x :: .ref q :: st) (mi, ml, mr, nx) Q = kJ 119 82 [l0, l1] st (kup mi q 10 x, ml, mr, nx) Q := kJ_next d119_79 (kg_puti 5 10 rfl h (by decide) (Or.inl (by decide)))
theorem d119_82 : decode (mB 119) 82 = .ok (.aload_n 0, 1) := by decide +kernel
theorem s119_82 {l1 : Option Value} {st : List Value} {x : Nat} {m : kMem} {Q : Option Value → kMem → Prop} : kJ 119 82 [some (.ref x), l1] st m Q = kJ 119 83 [some (.ref x), l1] (.ref x :: st) m Q := kJ_next d119_82 rfl
theorem d119_83 : decode (mB 119) 83 = .ok (.aload_n 0, 1) := by decide +kernel
theorem s119_83 {l1 : Option Value} {st : List Value} {x : Nat} {m : kMem} {Q : Option Value → kMem → Prop} : kJ 119 83 [some (.ref x), l1] st m Q = kJ 119 84 [some (.ref x), l1] (.ref x :: st) m Q := kJ_next d119_83 rfl
theorem d119_84 : decode (mB 119) 84 = .ok (.getfield 76, 3) := by decide +kernel
theorem s119_84 {l0 l1 : Option Value} {st : List Value} {q : Nat} {mi : Nat → Nat → Int32} {ml : Nat → Nat → Int64} {mr : Nat → Nat → Option Nat} {nx : Nat} {Q : Option Value → kMem → Prop} (h : kIs nx q 5 = true) : kJ 119 84 [l0, l1] (.ref q :: st) (mi, ml, mr, nx) Q = kJ 119 87 [l0, l1] (.int (mi q 8) :: st) (mi, ml, mr, nx) Q := kJ_next d119_84 (kg_geti 5 8 rfl h (by decide))
theorem d119_87 : decode (mB 119) 87 = .ok (.invokevirtual 79, 3) := by decide +kernel
theorem s119_87 {l0 l1 : Option Value} {v0 : Int32} {v1 : Nat} {m : kMem} {Q : Option Value → kMem → Prop} (h : kIs m.2.2.2 v1 5 = true) : kJ 119 87 [l0, l1] [.int v0, .ref v1] m Q = kJ 115 0 [some (.ref v1), some (.int v0)] [] m (fun v m2 => kJ 119 90 [l0, l1] (v.toList ++ []) m2 Q) := kJ_call d119_87 (kg_callv 115 1 rfl rfl rfl rfl (Nat.le_of_ble_eq_true rfl) (Nat.le_of_ble_eq_true rfl) (Nat.le_of_ble_eq_true rfl) h rfl)
theorem d119_90 : decode (mB 119) 90 = .ok (.i2l, 1) := by decide +kernel
theorem s119_90 {l0 l1 : Option Value} {st : List Value} {a : Int32} {m : kMem} {Q : Option Value → kMem → Prop} : kJ 119 90 [l0, l1] (.int a :: st) m Q = kJ 119 91 [l0, l1] (.long a.toInt64 :: st) m Q := kJ_next d119_90 rfl
theorem d119_91 : decode (mB 119) 91 = .ok (.ldc2_w 94, 3) := by decide +kernel
theorem s119_91 {l0 l1 : Option Value} {st : List Value} {m : kMem} {Q : Option Value → kMem → Prop} : kJ 119 91 [l0, l1] st m Q = kJ 119 94 [l0, l1] (.long (97) :: st) m Q := kJ_next d119_91 rfl
theorem d119_94 : decode (mB 119) 94 = .ok (.ldc2_w 96, 3) := by decide +kernel
theorem s119_94 {l0 l1 : Option Value} {st : List Value} {m : kMem} {Q : Option Value → kMem → Prop} : kJ 119 94 [l0, l1] st m Q = kJ 119 97 [l0, l1] (.long (122) :: st) m Q := kJ_next d119_94 rfl
theorem d119_97 : decode (mB 119) 97 = .ok (.invokestatic 60, 3) := by decide +kernel
theorem s119_97 {l0 l1 : Option Value} {v0 : Int64} {v1 : Int64} {v2 : Int64} {m : kMem} {Q : Option Value → kMem → Prop} : kJ 119 97 [l0, l1] [.long v0, .long v1, .long v2] m Q = kJ 107 0 [some (.long v2), none, some (.long v1), none, some (.long v0), none] [] m (fun v m2 => kJ 119 100 [l0, l1] (v.toList ++ []) m2 Q) := kJ_call d119_97 (kg_calls 107 3 rfl rfl (Nat.le_of_ble_eq_true rfl) (Nat.le_of_ble_eq_true rfl) (Nat.le_of_ble_eq_true rfl) (Nat.le_of_ble_eq_true rfl))
theorem d119_100 : decode (mB 119) 100 = .ok (.ifCond .eq 174, 3) := by decide +kernel
theorem s119_100 {l0 l1 : Option Value} {st : List Value} {a : Int32} {m : kMem} {Q : Option Value → kMem → Prop} : kJ 119 100 [l0, l1] (.int a :: st) m Q = (if a = 0 then kJ 119 274 [l0, l1] st m Q else kJ 119 103 [l0, l1] st m Q) := kJ_if d119_100 rfl (fun h => kJ_next d119_100 h) (fun h => kJ_next d119_100 h)
theorem d119_103 : decode (mB 119) 103 = .ok (.aload_n 0, 1) := by decide +kernel
theorem s119_103 {l1 : Option Value} {st : List Value} {x : Nat} {m : kMem} {Q : Option Value → kMem → Prop} : kJ 119 103 [some (.ref x), l1] st m Q = kJ 119 104 [some (.ref x), l1] (.ref x :: st) m Q := kJ_next d119_103 rfl
theorem d119_104 : decode (mB 119) 104 = .ok (.dup, 1) := by decide +kernel
theorem s119_104 {l0 l1 : Option Value} {st : List Value} {a : Nat} {m : kMem} {Q : Option Value → kMem → Prop} : kJ 119 104 [l0, l1] (.ref a :: st) m Q = kJ 119 105 [l0, l1] (.ref a :: .ref a :: st) m Q := kJ_next d119_104 rfl
theorem d119_105 : decode (mB 119) 105 = .ok (.getfield 76, 3) := by decide +kernel
theorem s119_105 {l0 l1 : Option Value} {st : List Value} {q : Nat} {mi : Nat → Nat → Int32} {ml : Nat → Nat → Int64} {mr : Nat → Nat → Option Nat} {nx : Nat} {Q : Option Value → kMem → Prop} (h : kIs nx q 5 = true) : kJ 119 105 [l0, l1] (.ref q :: st) (mi, ml, mr, nx) Q = kJ 119 108 [l0, l1] (.int (mi q 8) :: st) (mi, ml, mr, nx) Q := kJ_next d119_105 (kg_geti 5 8 rfl h (by decide))
theorem d119_108 : decode (mB 119) 108 = .ok (.iconst 1, 1) := by decide +kernel
theorem s119_108 {l0 l1 : Option Value} {st : List Value} {m : kMem} {Q : Option Value → kMem → Prop} : kJ 119 108 [l0, l1] st m Q = kJ 119 109 [l0, l1] (.int (nI 1) :: st) m Q := kJ_next d119_108 rfl
theorem d119_109 : decode (mB 119) 109 = .ok (.iadd, 1) := by decide +kernel
theorem s119_109 {l0 l1 : Option Value} {st : List Value} {a b : Int32} {m : kMem} {Q : Option Value → kMem → Prop} : kJ 119 109 [l0, l1] (.int b :: .int a :: st) m Q = kJ 119 110 [l0, l1] (.int (a + b) :: st) m Q := kJ_next d119_109 rfl
theorem d119_110 : decode (mB 119) 110 = .ok (.putfield 76, 3) := by decide +kernel
theorem s119_110 {l0 l1 : Option Value} {st : List Value} {q : Nat} {x : Int32} {mi : Nat → Nat → Int32} {ml : Nat → Nat → Int64} {mr : Nat → Nat → Option Nat} {nx : Nat} {Q : Option Value → kMem → Prop} (h : kIs nx q 5 = true) : kJ 119 110 [l0, l1] (.int x :: .ref q :: st) (mi, ml, mr, nx) Q = kJ 119 113 [l0, l1] st (kup mi q 8 x, ml, mr, nx) Q := kJ_next d119_110 (kg_puti 5 8 rfl h (by decide) (Or.inl (by decide)))
theorem d119_113 : decode (mB 119) 113 = .ok (.goto (-31), 3) := by decide +kernel
theorem s119_113 {l0 l1 : Option Value} {st : List Value} {m : kMem} {Q : Option Value → kMem → Prop} : kJ 119 113 [l0, l1] st m Q = kJ 119 82 [l0, l1] st m Q := kJ_next d119_113 rfl
theorem d119_116 : decode (mB 119) 116 = .ok (.iload_n 1, 1) := by decide +kernel
theorem s119_116 {l0 : Option Value} {st : List Value} {x : Int32} {m : kMem} {Q : Option Value → kMem → Prop} : kJ 119 116 [l0, some (.int x)] st m Q = kJ 119 117 [l0, some (.int x)] (.int x :: st) m Q := kJ_next d119_116 rfl
theorem d119_117 : decode (mB 119) 117 = .ok (.i2l, 1) := by decide +kernel
theorem s119_117 {l0 l1 : Option Value} {st : List Value} {a : Int32} {m : kMem} {Q : Option Value → kMem → Prop} : kJ 119 117 [l0, l1] (.int a :: st) m Q = kJ 119 118 [l0, l1] (.long a.toInt64 :: st) m Q := kJ_next d119_117 rfl
theorem d119_118 : decode (mB 119) 118 = .ok (.ldc2_w 98, 3) := by decide +kernel
theorem s119_118 {l0 l1 : Option Value} {st : List Value} {m : kMem} {Q : Option Value → kMem → Prop} : kJ 119 118 [l0, l1] st m Q = kJ 119 121 [l0, l1] (.long (48) :: st) m Q := kJ_next d119_118 rfl
theorem d119_121 : decode (mB 119) 121 = .ok (.ldc2_w 100, 3) := by decide +kernel
theorem s119_121 {l0 l1 : Option Value} {st : List Value} {m : kMem} {Q : Option Value → kMem → Prop} : kJ 119 121 [l0, l1] st m Q = kJ 119 124 [l0, l1] (.long (57) :: st) m Q := kJ_next d119_121 rfl
theorem d119_124 : decode (mB 119) 124 = .ok (.invokestatic 60, 3) := by decide +kernel
theorem s119_124 {l0 l1 : Option Value} {v0 : Int64} {v1 : Int64} {v2 : Int64} {m : kMem} {Q : Option Value → kMem → Prop} : kJ 119 124 [l0, l1] [.long v0, .long v1, .long v2] m Q = kJ 107 0 [some (.long v2), none, some (.long v1), none, some (.long v0), none] [] m (fun v m2 => kJ 119 127 [l0, l1] (v.toList ++ []) m2 Q) := kJ_call d119_124 (kg_calls 107 3 rfl rfl (Nat.le_of_ble_eq_true rfl) (Nat.le_of_ble_eq_true rfl) (Nat.le_of_ble_eq_true rfl) (Nat.le_of_ble_eq_true rfl))
theorem d119_127 : decode (mB 119) 127 = .ok (.ifCond .eq 116, 3) := by decide +kernel
theorem s119_127 {l0 l1 : Option Value} {st : List Value} {a : Int32} {m : kMem} {Q : Option Value → kMem → Prop} : kJ 119 127 [l0, l1] (.int a :: st) m Q = (if a = 0 then kJ 119 243 [l0, l1] st m Q else kJ 119 130 [l0, l1] st m Q) := kJ_if d119_127 rfl (fun h => kJ_next d119_127 h) (fun h => kJ_next d119_127 h)
theorem d119_130 : decode (mB 119) 130 = .ok (.aload_n 0, 1) := by decide +kernel
theorem s119_130 {l1 : Option Value} {st : List Value} {x : Nat} {m : kMem} {Q : Option Value → kMem → Prop} : kJ 119 130 [some (.ref x), l1] st m Q = kJ 119 131 [some (.ref x), l1] (.ref x :: st) m Q := kJ_next d119_130 rfl
theorem d119_131 : decode (mB 119) 131 = .ok (.iconst 2, 1) := by decide +kernel
theorem s119_131 {l0 l1 : Option Value} {st : List Value} {m : kMem} {Q : Option Value → kMem → Prop} : kJ 119 131 [l0, l1] st m Q = kJ 119 132 [l0, l1] (.int (nI 2) :: st) m Q := kJ_next d119_131 rfl
theorem d119_132 : decode (mB 119) 132 = .ok (.putfield 91, 3) := by decide +kernel
theorem s119_132 {l0 l1 : Option Value} {st : List Value} {q : Nat} {x : Int32} {mi : Nat → Nat → Int32} {ml : Nat → Nat → Int64} {mr : Nat → Nat → Option Nat} {nx : Nat} {Q : Option Value → kMem → Prop} (h : kIs nx q 5 = true) : kJ 119 132 [l0, l1] (.int x :: .ref q :: st) (mi, ml, mr, nx) Q = kJ 119 135 [l0, l1] st (kup mi q 10 x, ml, mr, nx) Q := kJ_next d119_132 (kg_puti 5 10 rfl h (by decide) (Or.inl (by decide)))
theorem d119_135 : decode (mB 119) 135 = .ok (.aload_n 0, 1) := by decide +kernel
theorem s119_135 {l1 : Option Value} {st : List Value} {x : Nat} {m : kMem} {Q : Option Value → kMem → Prop} : kJ 119 135 [some (.ref x), l1] st m Q = kJ 119 136 [some (.ref x), l1] (.ref x :: st) m Q := kJ_next d119_135 rfl
theorem d119_136 : decode (mB 119) 136 = .ok (.iconst 0, 1) := by decide +kernel
theorem s119_136 {l0 l1 : Option Value} {st : List Value} {m : kMem} {Q : Option Value → kMem → Prop} : kJ 119 136 [l0, l1] st m Q = kJ 119 137 [l0, l1] (.int (nI 0) :: st) m Q := kJ_next d119_136 rfl
theorem d119_137 : decode (mB 119) 137 = .ok (.putfield 102, 3) := by decide +kernel
theorem s119_137 {l0 l1 : Option Value} {st : List Value} {q : Nat} {x : Int32} {mi : Nat → Nat → Int32} {ml : Nat → Nat → Int64} {mr : Nat → Nat → Option Nat} {nx : Nat} {Q : Option Value → kMem → Prop} (h : kIs nx q 5 = true) : kJ 119 137 [l0, l1] (.int x :: .ref q :: st) (mi, ml, mr, nx) Q = kJ 119 140 [l0, l1] st (kup mi q 11 x, ml, mr, nx) Q := kJ_next d119_137 (kg_puti 5 11 rfl h (by decide) (Or.inl (by decide)))
theorem d119_140 : decode (mB 119) 140 = .ok (.aload_n 0, 1) := by decide +kernel
theorem s119_140 {l1 : Option Value} {st : List Value} {x : Nat} {m : kMem} {Q : Option Value → kMem → Prop} : kJ 119 140 [some (.ref x), l1] st m Q = kJ 119 141 [some (.ref x), l1] (.ref x :: st) m Q := kJ_next d119_140 rfl
theorem d119_141 : decode (mB 119) 141 = .ok (.aload_n 0, 1) := by decide +kernel
theorem s119_141 {l1 : Option Value} {st : List Value} {x : Nat} {m : kMem} {Q : Option Value → kMem → Prop} : kJ 119 141 [some (.ref x), l1] st m Q = kJ 119 142 [some (.ref x), l1] (.ref x :: st) m Q := kJ_next d119_141 rfl
theorem d119_142 : decode (mB 119) 142 = .ok (.getfield 76, 3) := by decide +kernel
theorem s119_142 {l0 l1 : Option Value} {st : List Value} {q : Nat} {mi : Nat → Nat → Int32} {ml : Nat → Nat → Int64} {mr : Nat → Nat → Option Nat} {nx : Nat} {Q : Option Value → kMem → Prop} (h : kIs nx q 5 = true) : kJ 119 142 [l0, l1] (.ref q :: st) (mi, ml, mr, nx) Q = kJ 119 145 [l0, l1] (.int (mi q 8) :: st) (mi, ml, mr, nx) Q := kJ_next d119_142 (kg_geti 5 8 rfl h (by decide))
theorem d119_145 : decode (mB 119) 145 = .ok (.invokevirtual 79, 3) := by decide +kernel
theorem s119_145 {l0 l1 : Option Value} {v0 : Int32} {v1 : Nat} {m : kMem} {Q : Option Value → kMem → Prop} (h : kIs m.2.2.2 v1 5 = true) : kJ 119 145 [l0, l1] [.int v0, .ref v1] m Q = kJ 115 0 [some (.ref v1), some (.int v0)] [] m (fun v m2 => kJ 119 148 [l0, l1] (v.toList ++ []) m2 Q) := kJ_call d119_145 (kg_callv 115 1 rfl rfl rfl rfl (Nat.le_of_ble_eq_true rfl) (Nat.le_of_ble_eq_true rfl) (Nat.le_of_ble_eq_true rfl) h rfl)
theorem d119_148 : decode (mB 119) 148 = .ok (.i2l, 1) := by decide +kernel
theorem s119_148 {l0 l1 : Option Value} {st : List Value} {a : Int32} {m : kMem} {Q : Option Value → kMem → Prop} : kJ 119 148 [l0, l1] (.int a :: st) m Q = kJ 119 149 [l0, l1] (.long a.toInt64 :: st) m Q := kJ_next d119_148 rfl
theorem d119_149 : decode (mB 119) 149 = .ok (.ldc2_w 98, 3) := by decide +kernel
theorem s119_149 {l0 l1 : Option Value} {st : List Value} {m : kMem} {Q : Option Value → kMem → Prop} : kJ 119 149 [l0, l1] st m Q = kJ 119 152 [l0, l1] (.long (48) :: st) m Q := kJ_next d119_149 rfl
theorem d119_152 : decode (mB 119) 152 = .ok (.ldc2_w 100, 3) := by decide +kernel
theorem s119_152 {l0 l1 : Option Value} {st : List Value} {m : kMem} {Q : Option Value → kMem → Prop} : kJ 119 152 [l0, l1] st m Q = kJ 119 155 [l0, l1] (.long (57) :: st) m Q := kJ_next d119_152 rfl
theorem d119_155 : decode (mB 119) 155 = .ok (.invokestatic 60, 3) := by decide +kernel
theorem s119_155 {l0 l1 : Option Value} {v0 : Int64} {v1 : Int64} {v2 : Int64} {m : kMem} {Q : Option Value → kMem → Prop} : kJ 119 155 [l0, l1] [.long v0, .long v1, .long v2] m Q = kJ 107 0 [some (.long v2), none, some (.long v1), none, some (.long v0), none] [] m (fun v m2 => kJ 119 158 [l0, l1] (v.toList ++ []) m2 Q) := kJ_call d119_155 (kg_calls 107 3 rfl rfl (Nat.le_of_ble_eq_true rfl) (Nat.le_of_ble_eq_true rfl) (Nat.le_of_ble_eq_true rfl) (Nat.le_of_ble_eq_true rfl))
theorem d119_158 : decode (mB 119) 158 = .ok (.ifCond .eq 59, 3) := by decide +kernel
theorem s119_158 {l0 l1 : Option Value} {st : List Value} {a : Int32} {m : kMem} {Q : Option Value → kMem → Prop} : kJ 119 158 [l0, l1] (.int a :: st) m Q = (if a = 0 then kJ 119 217 [l0, l1] st m Q else kJ 119 161 [l0, l1] st m Q) := kJ_if d119_158 rfl (fun h => kJ_next d119_158 h) (fun h => kJ_next d119_158 h)
theorem d119_161 : decode (mB 119) 161 = .ok (.aload_n 0, 1) := by decide +kernel
theorem s119_161 {l1 : Option Value} {st : List Value} {x : Nat} {m : kMem} {Q : Option Value → kMem → Prop} : kJ 119 161 [some (.ref x), l1] st m Q = kJ 119 162 [some (.ref x), l1] (.ref x :: st) m Q := kJ_next d119_161 rfl
theorem d119_162 : decode (mB 119) 162 = .ok (.aload_n 0, 1) := by decide +kernel
theorem s119_162 {l1 : Option Value} {st : List Value} {x : Nat} {m : kMem} {Q : Option Value → kMem → Prop} : kJ 119 162 [some (.ref x), l1] st m Q = kJ 119 163 [some (.ref x), l1] (.ref x :: st) m Q := kJ_next d119_162 rfl
theorem d119_163 : decode (mB 119) 163 = .ok (.getfield 76, 3) := by decide +kernel
theorem s119_163 {l0 l1 : Option Value} {st : List Value} {q : Nat} {mi : Nat → Nat → Int32} {ml : Nat → Nat → Int64} {mr : Nat → Nat → Option Nat} {nx : Nat} {Q : Option Value → kMem → Prop} (h : kIs nx q 5 = true) : kJ 119 163 [l0, l1] (.ref q :: st) (mi, ml, mr, nx) Q = kJ 119 166 [l0, l1] (.int (mi q 8) :: st) (mi, ml, mr, nx) Q := kJ_next d119_163 (kg_geti 5 8 rfl h (by decide))
theorem d119_166 : decode (mB 119) 166 = .ok (.aload_n 0, 1) := by decide +kernel
theorem s119_166 {l1 : Option Value} {st : List Value} {x : Nat} {m : kMem} {Q : Option Value → kMem → Prop} : kJ 119 166 [some (.ref x), l1] st m Q = kJ 119 167 [some (.ref x), l1] (.ref x :: st) m Q := kJ_next d119_166 rfl
theorem d119_167 : decode (mB 119) 167 = .ok (.getfield 70, 3) := by decide +kernel
theorem s119_167 {l0 l1 : Option Value} {st : List Value} {q : Nat} {mi : Nat → Nat → Int32} {ml : Nat → Nat → Int64} {mr : Nat → Nat → Option Nat} {nx : Nat} {Q : Option Value → kMem → Prop} (h : kIs nx q 5 = true) : kJ 119 167 [l0, l1] (.ref q :: st) (mi, ml, mr, nx) Q = kJ 119 170 [l0, l1] (.int (mi q 9) :: st) (mi, ml, mr, nx) Q := kJ_next d119_167 (kg_geti 5 9 rfl h (by decide))
theorem d119_170 : decode (mB 119) 170 = .ok (.isub, 1) := by decide +kernel
theorem s119_170 {l0 l1 : Option Value} {st : List Value} {a b : Int32} {m : kMem} {Q : Option Value → kMem → Prop} : kJ 119 170 [l0, l1] (.int b :: .int a :: st) m Q = kJ 119 171 [l0, l1] (.int (a - b) :: st) m Q := kJ_next d119_170 rfl
theorem d119_171 : decode (mB 119) 171 = .ok (.iconst 2, 1) := by decide +kernel
theorem s119_171 {l0 l1 : Option Value} {st : List Value} {m : kMem} {Q : Option Value → kMem → Prop} : kJ 119 171 [l0, l1] st m Q = kJ 119 172 [l0, l1] (.int (nI 2) :: st) m Q := kJ_next d119_171 rfl
theorem d119_172 : decode (mB 119) 172 = .ok (.if_icmp .ge 25, 3) := by decide +kernel
theorem s119_172 {l0 l1 : Option Value} {st : List Value} {a b : Int32} {m : kMem} {Q : Option Value → kMem → Prop} : kJ 119 172 [l0, l1] (.int b :: .int a :: st) m Q = (if b ≤ a then kJ 119 197 [l0, l1] st m Q else kJ 119 175 [l0, l1] st m Q) := kJ_if d119_172 rfl (fun h => kJ_next d119_172 h) (fun h => kJ_next d119_172 h)
theorem d119_175 : decode (mB 119) 175 = .ok (.bipush 10, 2) := by decide +kernel
theorem s119_175 {l0 l1 : Option Value} {st : List Value} {m : kMem} {Q : Option Value → kMem → Prop} : kJ 119 175 [l0, l1] st m Q = kJ 119 177 [l0, l1] (.int (nI 10) :: st) m Q := kJ_next d119_175 rfl
theorem d119_177 : decode (mB 119) 177 = .ok (.aload_n 0, 1) := by decide +kernel
theorem s119_177 {l1 : Option Value} {st : List Value} {x : Nat} {m : kMem} {Q : Option Value → kMem → Prop} : kJ 119 177 [some (.ref x), l1] st m Q = kJ 119 178 [some (.ref x), l1] (.ref x :: st) m Q := kJ_next d119_177 rfl
theorem d119_178 : decode (mB 119) 178 = .ok (.getfield 102, 3) := by decide +kernel
theorem s119_178 {l0 l1 : Option Value} {st : List Value} {q : Nat} {mi : Nat → Nat → Int32} {ml : Nat → Nat → Int64} {mr : Nat → Nat → Option Nat} {nx : Nat} {Q : Option Value → kMem → Prop} (h : kIs nx q 5 = true) : kJ 119 178 [l0, l1] (.ref q :: st) (mi, ml, mr, nx) Q = kJ 119 181 [l0, l1] (.int (mi q 11) :: st) (mi, ml, mr, nx) Q := kJ_next d119_178 (kg_geti 5 11 rfl h (by decide))
theorem d119_181 : decode (mB 119) 181 = .ok (.imul, 1) := by decide +kernel
theorem s119_181 {l0 l1 : Option Value} {st : List Value} {a b : Int32} {m : kMem} {Q : Option Value → kMem → Prop} : kJ 119 181 [l0, l1] (.int b :: .int a :: st) m Q = kJ 119 182 [l0, l1] (.int (a * b) :: st) m Q := kJ_next d119_181 rfl
theorem d119_182 : decode (mB 119) 182 = .ok (.aload_n 0, 1) := by decide +kernel
theorem s119_182 {l1 : Option Value} {st : List Value} {x : Nat} {m : kMem} {Q : Option Value → kMem → Prop} : kJ 119 182 [some (.ref x), l1] st m Q = kJ 119 183 [some (.ref x), l1] (.ref x :: st) m Q := kJ_next d119_182 rfl
theorem d119_183 : decode (mB 119) 183 = .ok (.aload_n 0, 1) := by decide +kernel
theorem s119_183 {l1 : Option Value} {st : List Value} {x : Nat} {m : kMem} {Q : Option Value → kMem → Prop} : kJ 119 183 [some (.ref x), l1] st m Q = kJ 119 184 [some (.ref x), l1] (.ref x :: st) m Q := kJ_next d119_183 rfl
theorem d119_184 : decode (mB 119) 184 = .ok (.getfield 76, 3) := by decide +kernel
theorem s119_184 {l0 l1 : Option Value} {st : List Value} {q : Nat} {mi : Nat → Nat → Int32} {ml : Nat → Nat → Int64} {mr : Nat → Nat → Option Nat} {nx : Nat} {Q : Option Value → kMem → Prop} (h : kIs nx q 5 = true) : kJ 119 184 [l0, l1] (.ref q :: st) (mi, ml, mr, nx) Q = kJ 119 187 [l0, l1] (.int (mi q 8) :: st) (mi, ml, mr, nx) Q := kJ_next d119_184 (kg_geti 5 8 rfl h (by decide))
theorem d119_187 : decode (mB 119) 187 = .ok (.invokevirtual 79, 3) := by decide +kernel
theorem s119_187 {l0 l1 : Option Value} {v0 : Int32} {v1 : Nat} {v2 : Int32} {v3 : Nat} {m : kMem} {Q : Option Value → kMem → Prop} (h : kIs m.2.2.2 v1 5 = true) : kJ 119 187 [l0, l1] [.int v0, .ref v1, .int v2, .ref v3] m Q = kJ 115 0 [some (.ref v1), some (.int v0)] [] m (fun v m2 => kJ 119 190 [l0, l1] (v.toList ++ [.int v2, .ref v3]) m2 Q) := kJ_call d119_187 (kg_callv 115 1 rfl rfl rfl rfl (Nat.le_of_ble_eq_true rfl) (Nat.le_of_ble_eq_true rfl) (Nat.le_of_ble_eq_true rfl) h rfl)
theorem d119_190 : decode (mB 119) 190 = .ok (.iadd, 1) := by decide +kernel
theorem s119_190 {l0 l1 : Option Value} {st : List Value} {a b : Int32} {m : kMem} {Q : Option Value → kMem → Prop} : kJ 119 190 [l0, l1] (.int b :: .int a :: st) m Q = kJ 119 191 [l0, l1] (.int (a + b) :: st) m Q := kJ_next d119_190 rfl
theorem d119_191 : decode (mB 119) 191 = .ok (.bipush 48, 2) := by decide +kernel
theorem s119_191 {l0 l1 : Option Value} {st : List Value} {m : kMem} {Q : Option Value → kMem → Prop} : kJ 119 191 [l0, l1] st m Q = kJ 119 193 [l0, l1] (.int (nI 48) :: st) m Q := kJ_next d119_191 rfl
theorem d119_193 : decode (mB 119) 193 = .ok (.isub, 1) := by decide +kernel
theorem s119_193 {l0 l1 : Option Value} {st : List Value} {a b : Int32} {m : kMem} {Q : Option Value → kMem → Prop} : kJ 119 193 [l0, l1] (.int b :: .int a :: st) m Q = kJ 119 194 [l0, l1] (.int (a - b) :: st) m Q := kJ_next d119_193 rfl
theorem d119_194 : decode (mB 119) 194 = .ok (.goto 7, 3) := by decide +kernel
theorem s119_194 {l0 l1 : Option Value} {st : List Value} {m : kMem} {Q : Option Value → kMem → Prop} : kJ 119 194 [l0, l1] st m Q = kJ 119 201 [l0, l1] st m Q := kJ_next d119_194 rfl
theorem d119_197 : decode (mB 119) 197 = .ok (.aload_n 0, 1) := by decide +kernel
theorem s119_197 {l1 : Option Value} {st : List Value} {x : Nat} {m : kMem} {Q : Option Value → kMem → Prop} : kJ 119 197 [some (.ref x), l1] st m Q = kJ 119 198 [some (.ref x), l1] (.ref x :: st) m Q := kJ_next d119_197 rfl
theorem d119_198 : decode (mB 119) 198 = .ok (.getfield 102, 3) := by decide +kernel
theorem s119_198 {l0 l1 : Option Value} {st : List Value} {q : Nat} {mi : Nat → Nat → Int32} {ml : Nat → Nat → Int64} {mr : Nat → Nat → Option Nat} {nx : Nat} {Q : Option Value → kMem → Prop} (h : kIs nx q 5 = true) : kJ 119 198 [l0, l1] (.ref q :: st) (mi, ml, mr, nx) Q = kJ 119 201 [l0, l1] (.int (mi q 11) :: st) (mi, ml, mr, nx) Q := kJ_next d119_198 (kg_geti 5 11 rfl h (by decide))
theorem d119_201 : decode (mB 119) 201 = .ok (.putfield 102, 3) := by decide +kernel
theorem s119_201 {l0 l1 : Option Value} {st : List Value} {q : Nat} {x : Int32} {mi : Nat → Nat → Int32} {ml : Nat → Nat → Int64} {mr : Nat → Nat → Option Nat} {nx : Nat} {Q : Option Value → kMem → Prop} (h : kIs nx q 5 = true) : kJ 119 201 [l0, l1] (.int x :: .ref q :: st) (mi, ml, mr, nx) Q = kJ 119 204 [l0, l1] st (kup mi q 11 x, ml, mr, nx) Q := kJ_next d119_201 (kg_puti 5 11 rfl h (by decide) (Or.inl (by decide)))
theorem d119_204 : decode (mB 119) 204 = .ok (.aload_n 0, 1) := by decide +kernel
theorem s119_204 {l1 : Option Value} {st : List Value} {x : Nat} {m : kMem} {Q : Option Value → kMem → Prop} : kJ 119 204 [some (.ref x), l1] st m Q = kJ 119 205 [some (.ref x), l1] (.ref x :: st) m Q := kJ_next d119_204 rfl
theorem d119_205 : decode (mB 119) 205 = .ok (.dup, 1) := by decide +kernel
theorem s119_205 {l0 l1 : Option Value} {st : List Value} {a : Nat} {m : kMem} {Q : Option Value → kMem → Prop} : kJ 119 205 [l0, l1] (.ref a :: st) m Q = kJ 119 206 [l0, l1] (.ref a :: .ref a :: st) m Q := kJ_next d119_205 rfl
theorem d119_206 : decode (mB 119) 206 = .ok (.getfield 76, 3) := by decide +kernel
theorem s119_206 {l0 l1 : Option Value} {st : List Value} {q : Nat} {mi : Nat → Nat → Int32} {ml : Nat → Nat → Int64} {mr : Nat → Nat → Option Nat} {nx : Nat} {Q : Option Value → kMem → Prop} (h : kIs nx q 5 = true) : kJ 119 206 [l0, l1] (.ref q :: st) (mi, ml, mr, nx) Q = kJ 119 209 [l0, l1] (.int (mi q 8) :: st) (mi, ml, mr, nx) Q := kJ_next d119_206 (kg_geti 5 8 rfl h (by decide))
theorem d119_209 : decode (mB 119) 209 = .ok (.iconst 1, 1) := by decide +kernel
theorem s119_209 {l0 l1 : Option Value} {st : List Value} {m : kMem} {Q : Option Value → kMem → Prop} : kJ 119 209 [l0, l1] st m Q = kJ 119 210 [l0, l1] (.int (nI 1) :: st) m Q := kJ_next d119_209 rfl
theorem d119_210 : decode (mB 119) 210 = .ok (.iadd, 1) := by decide +kernel
theorem s119_210 {l0 l1 : Option Value} {st : List Value} {a b : Int32} {m : kMem} {Q : Option Value → kMem → Prop} : kJ 119 210 [l0, l1] (.int b :: .int a :: st) m Q = kJ 119 211 [l0, l1] (.int (a + b) :: st) m Q := kJ_next d119_210 rfl
theorem d119_211 : decode (mB 119) 211 = .ok (.putfield 76, 3) := by decide +kernel
theorem s119_211 {l0 l1 : Option Value} {st : List Value} {q : Nat} {x : Int32} {mi : Nat → Nat → Int32} {ml : Nat → Nat → Int64} {mr : Nat → Nat → Option Nat} {nx : Nat} {Q : Option Value → kMem → Prop} (h : kIs nx q 5 = true) : kJ 119 211 [l0, l1] (.int x :: .ref q :: st) (mi, ml, mr, nx) Q = kJ 119 214 [l0, l1] st (kup mi q 8 x, ml, mr, nx) Q := kJ_next d119_211 (kg_puti 5 8 rfl h (by decide) (Or.inl (by decide)))
theorem d119_214 : decode (mB 119) 214 = .ok (.goto (-74), 3) := by decide +kernel
theorem s119_214 {l0 l1 : Option Value} {st : List Value} {m : kMem} {Q : Option Value → kMem → Prop} : kJ 119 214 [l0, l1] st m Q = kJ 119 140 [l0, l1] st m Q := kJ_next d119_214 rfl
theorem d119_217 : decode (mB 119) 217 = .ok (.aload_n 0, 1) := by decide +kernel
theorem s119_217 {l1 : Option Value} {st : List Value} {x : Nat} {m : kMem} {Q : Option Value → kMem → Prop} : kJ 119 217 [some (.ref x), l1] st m Q = kJ 119 218 [some (.ref x), l1] (.ref x :: st) m Q := kJ_next d119_217 rfl
theorem d119_218 : decode (mB 119) 218 = .ok (.aload_n 0, 1) := by decide +kernel
theorem s119_218 {l1 : Option Value} {st : List Value} {x : Nat} {m : kMem} {Q : Option Value → kMem → Prop} : kJ 119 218 [some (.ref x), l1] st m Q = kJ 119 219 [some (.ref x), l1] (.ref x :: st) m Q := kJ_next d119_218 rfl
theorem d119_219 : decode (mB 119) 219 = .ok (.getfield 76, 3) := by decide +kernel
theorem s119_219 {l0 l1 : Option Value} {st : List Value} {q : Nat} {mi : Nat → Nat → Int32} {ml : Nat → Nat → Int64} {mr : Nat → Nat → Option Nat} {nx : Nat} {Q : Option Value → kMem → Prop} (h : kIs nx q 5 = true) : kJ 119 219 [l0, l1] (.ref q :: st) (mi, ml, mr, nx) Q = kJ 119 222 [l0, l1] (.int (mi q 8) :: st) (mi, ml, mr, nx) Q := kJ_next d119_219 (kg_geti 5 8 rfl h (by decide))
theorem d119_222 : decode (mB 119) 222 = .ok (.aload_n 0, 1) := by decide +kernel
theorem s119_222 {l1 : Option Value} {st : List Value} {x : Nat} {m : kMem} {Q : Option Value → kMem → Prop} : kJ 119 222 [some (.ref x), l1] st m Q = kJ 119 223 [some (.ref x), l1] (.ref x :: st) m Q := kJ_next d119_222 rfl
theorem d119_223 : decode (mB 119) 223 = .ok (.getfield 70, 3) := by decide +kernel
theorem s119_223 {l0 l1 : Option Value} {st : List Value} {q : Nat} {mi : Nat → Nat → Int32} {ml : Nat → Nat → Int64} {mr : Nat → Nat → Option Nat} {nx : Nat} {Q : Option Value → kMem → Prop} (h : kIs nx q 5 = true) : kJ 119 223 [l0, l1] (.ref q :: st) (mi, ml, mr, nx) Q = kJ 119 226 [l0, l1] (.int (mi q 9) :: st) (mi, ml, mr, nx) Q := kJ_next d119_223 (kg_geti 5 9 rfl h (by decide))
theorem d119_226 : decode (mB 119) 226 = .ok (.isub, 1) := by decide +kernel
theorem s119_226 {l0 l1 : Option Value} {st : List Value} {a b : Int32} {m : kMem} {Q : Option Value → kMem → Prop} : kJ 119 226 [l0, l1] (.int b :: .int a :: st) m Q = kJ 119 227 [l0, l1] (.int (a - b) :: st) m Q := kJ_next d119_226 rfl
theorem d119_227 : decode (mB 119) 227 = .ok (.iconst 2, 1) := by decide +kernel
theorem s119_227 {l0 l1 : Option Value} {st : List Value} {m : kMem} {Q : Option Value → kMem → Prop} : kJ 119 227 [l0, l1] st m Q = kJ 119 228 [l0, l1] (.int (nI 2) :: st) m Q := kJ_next d119_227 rfl
theorem d119_228 : decode (mB 119) 228 = .ok (.if_icmp .gt 7, 3) := by decide +kernel
theorem s119_228 {l0 l1 : Option Value} {st : List Value} {a b : Int32} {m : kMem} {Q : Option Value → kMem → Prop} : kJ 119 228 [l0, l1] (.int b :: .int a :: st) m Q = (if b < a then kJ 119 235 [l0, l1] st m Q else kJ 119 231 [l0, l1] st m Q) := kJ_if d119_228 rfl (fun h => kJ_next d119_228 h) (fun h => kJ_next d119_228 h)
theorem d119_231 : decode (mB 119) 231 = .ok (.iconst 1, 1) := by decide +kernel
theorem s119_231 {l0 l1 : Option Value} {st : List Value} {m : kMem} {Q : Option Value → kMem → Prop} : kJ 119 231 [l0, l1] st m Q = kJ 119 232 [l0, l1] (.int (nI 1) :: st) m Q := kJ_next d119_231 rfl
theorem d119_232 : decode (mB 119) 232 = .ok (.goto 4, 3) := by decide +kernel
theorem s119_232 {l0 l1 : Option Value} {st : List Value} {m : kMem} {Q : Option Value → kMem → Prop} : kJ 119 232 [l0, l1] st m Q = kJ 119 236 [l0, l1] st m Q := kJ_next d119_232 rfl
theorem d119_235 : decode (mB 119) 235 = .ok (.iconst 0, 1) := by decide +kernel
theorem s119_235 {l0 l1 : Option Value} {st : List Value} {m : kMem} {Q : Option Value → kMem → Prop} : kJ 119 235 [l0, l1] st m Q = kJ 119 236 [l0, l1] (.int (nI 0) :: st) m Q := kJ_next d119_235 rfl
theorem d119_236 : decode (mB 119) 236 = .ok (.iconst 1, 1) := by decide +kernel
theorem s119_236 {l0 l1 : Option Value} {st : List Value} {m : kMem} {Q : Option Value → kMem → Prop} : kJ 119 236 [l0, l1] st m Q = kJ 119 237 [l0, l1] (.int (nI 1) :: st) m Q := kJ_next d119_236 rfl
theorem d119_237 : decode (mB 119) 237 = .ok (.invokevirtual 105, 3) := by decide +kernel
theorem s119_237 {l0 l1 : Option Value} {v0 : Int32} {v1 : Int32} {v2 : Nat} {m : kMem} {Q : Option Value → kMem → Prop} (h : kIs m.2.2.2 v2 5 = true) : kJ 119 237 [l0, l1] [.int v0, .int v1, .ref v2] m Q = kJ 114 0 [some (.ref v2), some (.int v1), some (.int v0)] [] m (fun v m2 => kJ 119 240 [l0, l1] (v.toList ++ []) m2 Q) := kJ_call d119_237 (kg_callv 114 2 rfl rfl rfl rfl (Nat.le_of_ble_eq_true rfl) (Nat.le_of_ble_eq_true rfl) (Nat.le_of_ble_eq_true rfl) h rfl)
theorem d119_240 : decode (mB 119) 240 = .ok (.goto 34, 3) := by decide +kernel
theorem s119_240 {l0 l1 : Option Value} {st : List Value} {m : kMem} {Q : Option Value → kMem → Prop} : kJ 119 240 [l0, l1] st m Q = kJ 119 274 [l0, l1] st m Q := kJ_next d119_240 rfl
theorem d119_243 : decode (mB 119) 243 = .ok (.aload_n 0, 1) := by decide +kernel
theorem s119_243 {l1 : Option Value} {st : List Value} {x : Nat} {m : kMem} {Q : Option Value → kMem → Prop} : kJ 119 243 [some (.ref x), l1] st m Q = kJ 119 244 [some (.ref x), l1] (.ref x :: st) m Q := kJ_next d119_243 rfl
theorem d119_244 : decode (mB 119) 244 = .ok (.iconst 3, 1) := by decide +kernel
theorem s119_244 {l0 l1 : Option Value} {st : List Value} {m : kMem} {Q : Option Value → kMem → Prop} : kJ 119 244 [l0, l1] st m Q = kJ 119 245 [l0, l1] (.int (nI 3) :: st) m Q := kJ_next d119_244 rfl
theorem d119_245 : decode (mB 119) 245 = .ok (.putfield 91, 3) := by decide +kernel
theorem s119_245 {l0 l1 : Option Value} {st : List Value} {q : Nat} {x : Int32} {mi : Nat → Nat → Int32} {ml : Nat → Nat → Int64} {mr : Nat → Nat → Option Nat} {nx : Nat} {Q : Option Value → kMem → Prop} (h : kIs nx q 5 = true) : kJ 119 245 [l0, l1] (.int x :: .ref q :: st) (mi, ml, mr, nx) Q = kJ 119 248 [l0, l1] st (kup mi q 10 x, ml, mr, nx) Q := kJ_next d119_245 (kg_puti 5 10 rfl h (by decide) (Or.inl (by decide)))
theorem d119_248 : decode (mB 119) 248 = .ok (.aload_n 0, 1) := by decide +kernel
theorem s119_248 {l1 : Option Value} {st : List Value} {x : Nat} {m : kMem} {Q : Option Value → kMem → Prop} : kJ 119 248 [some (.ref x), l1] st m Q = kJ 119 249 [some (.ref x), l1] (.ref x :: st) m Q := kJ_next d119_248 rfl
theorem d119_249 : decode (mB 119) 249 = .ok (.iload_n 1, 1) := by decide +kernel
theorem s119_249 {l0 : Option Value} {st : List Value} {x : Int32} {m : kMem} {Q : Option Value → kMem → Prop} : kJ 119 249 [l0, some (.int x)] st m Q = kJ 119 250 [l0, some (.int x)] (.int x :: st) m Q := kJ_next d119_249 rfl
theorem d119_250 : decode (mB 119) 250 = .ok (.bipush 59, 2) := by decide +kernel
theorem s119_250 {l0 l1 : Option Value} {st : List Value} {m : kMem} {Q : Option Value → kMem → Prop} : kJ 119 250 [l0, l1] st m Q = kJ 119 252 [l0, l1] (.int (nI 59) :: st) m Q := kJ_next d119_250 rfl
theorem d119_252 : decode (mB 119) 252 = .ok (.if_icmp .ne 7, 3) := by decide +kernel
theorem s119_252 {l0 l1 : Option Value} {st : List Value} {a b : Int32} {m : kMem} {Q : Option Value → kMem → Prop} : kJ 119 252 [l0, l1] (.int b :: .int a :: st) m Q = (if a = b then kJ 119 255 [l0, l1] st m Q else kJ 119 259 [l0, l1] st m Q) := kJ_if d119_252 rfl (fun h => kJ_next d119_252 h) (fun h => kJ_next d119_252 h)
theorem d119_255 : decode (mB 119) 255 = .ok (.iconst 1, 1) := by decide +kernel
theorem s119_255 {l0 l1 : Option Value} {st : List Value} {m : kMem} {Q : Option Value → kMem → Prop} : kJ 119 255 [l0, l1] st m Q = kJ 119 256 [l0, l1] (.int (nI 1) :: st) m Q := kJ_next d119_255 rfl
theorem d119_256 : decode (mB 119) 256 = .ok (.goto 4, 3) := by decide +kernel
theorem s119_256 {l0 l1 : Option Value} {st : List Value} {m : kMem} {Q : Option Value → kMem → Prop} : kJ 119 256 [l0, l1] st m Q = kJ 119 260 [l0, l1] st m Q := kJ_next d119_256 rfl
theorem d119_259 : decode (mB 119) 259 = .ok (.iconst 0, 1) := by decide +kernel
theorem s119_259 {l0 l1 : Option Value} {st : List Value} {m : kMem} {Q : Option Value → kMem → Prop} : kJ 119 259 [l0, l1] st m Q = kJ 119 260 [l0, l1] (.int (nI 0) :: st) m Q := kJ_next d119_259 rfl
theorem d119_260 : decode (mB 119) 260 = .ok (.iconst 1, 1) := by decide +kernel
theorem s119_260 {l0 l1 : Option Value} {st : List Value} {m : kMem} {Q : Option Value → kMem → Prop} : kJ 119 260 [l0, l1] st m Q = kJ 119 261 [l0, l1] (.int (nI 1) :: st) m Q := kJ_next d119_260 rfl
theorem d119_261 : decode (mB 119) 261 = .ok (.invokevirtual 105, 3) := by decide +kernel
theorem s119_261 {l0 l1 : Option Value} {v0 : Int32} {v1 : Int32} {v2 : Nat} {m : kMem} {Q : Option Value → kMem → Prop} (h : kIs m.2.2.2 v2 5 = true) : kJ 119 261 [l0, l1] [.int v0, .int v1, .ref v2] m Q = kJ 114 0 [some (.ref v2), some (.int v1), some (.int v0)] [] m (fun v m2 => kJ 119 264 [l0, l1] (v.toList ++ []) m2 Q) := kJ_call d119_261 (kg_callv 114 2 rfl rfl rfl rfl (Nat.le_of_ble_eq_true rfl) (Nat.le_of_ble_eq_true rfl) (Nat.le_of_ble_eq_true rfl) h rfl)
theorem d119_264 : decode (mB 119) 264 = .ok (.aload_n 0, 1) := by decide +kernel
theorem s119_264 {l1 : Option Value} {st : List Value} {x : Nat} {m : kMem} {Q : Option Value → kMem → Prop} : kJ 119 264 [some (.ref x), l1] st m Q = kJ 119 265 [some (.ref x), l1] (.ref x :: st) m Q := kJ_next d119_264 rfl
theorem d119_265 : decode (mB 119) 265 = .ok (.dup, 1) := by decide +kernel
theorem s119_265 {l0 l1 : Option Value} {st : List Value} {a : Nat} {m : kMem} {Q : Option Value → kMem → Prop} : kJ 119 265 [l0, l1] (.ref a :: st) m Q = kJ 119 266 [l0, l1] (.ref a :: .ref a :: st) m Q := kJ_next d119_265 rfl
theorem d119_266 : decode (mB 119) 266 = .ok (.getfield 76, 3) := by decide +kernel
theorem s119_266 {l0 l1 : Option Value} {st : List Value} {q : Nat} {mi : Nat → Nat → Int32} {ml : Nat → Nat → Int64} {mr : Nat → Nat → Option Nat} {nx : Nat} {Q : Option Value → kMem → Prop} (h : kIs nx q 5 = true) : kJ 119 266 [l0, l1] (.ref q :: st) (mi, ml, mr, nx) Q = kJ 119 269 [l0, l1] (.int (mi q 8) :: st) (mi, ml, mr, nx) Q := kJ_next d119_266 (kg_geti 5 8 rfl h (by decide))
theorem d119_269 : decode (mB 119) 269 = .ok (.iconst 1, 1) := by decide +kernel
theorem s119_269 {l0 l1 : Option Value} {st : List Value} {m : kMem} {Q : Option Value → kMem → Prop} : kJ 119 269 [l0, l1] st m Q = kJ 119 270 [l0, l1] (.int (nI 1) :: st) m Q := kJ_next d119_269 rfl
theorem d119_270 : decode (mB 119) 270 = .ok (.iadd, 1) := by decide +kernel
theorem s119_270 {l0 l1 : Option Value} {st : List Value} {a b : Int32} {m : kMem} {Q : Option Value → kMem → Prop} : kJ 119 270 [l0, l1] (.int b :: .int a :: st) m Q = kJ 119 271 [l0, l1] (.int (a + b) :: st) m Q := kJ_next d119_270 rfl
theorem d119_271 : decode (mB 119) 271 = .ok (.putfield 76, 3) := by decide +kernel
theorem s119_271 {l0 l1 : Option Value} {st : List Value} {q : Nat} {x : Int32} {mi : Nat → Nat → Int32} {ml : Nat → Nat → Int64} {mr : Nat → Nat → Option Nat} {nx : Nat} {Q : Option Value → kMem → Prop} (h : kIs nx q 5 = true) : kJ 119 271 [l0, l1] (.int x :: .ref q :: st) (mi, ml, mr, nx) Q = kJ 119 274 [l0, l1] st (kup mi q 8 x, ml, mr, nx) Q := kJ_next d119_271 (kg_puti 5 8 rfl h (by decide) (Or.inl (by decide)))
theorem d119_274 : decode (mB 119) 274 = .ok (.return_, 1) := by decide +kernel
theorem s119_274 {l0 l1 : Option Value} {m : kMem} {Q : Option Value → kMem → Prop} : kJ 119 274 [l0, l1] [] m Q = Q none m := kJ_ret d119_274 rfl
theorem d120_0 : decode (mB 120) 0 = .ok (.aload_n 0, 1) := by decide +kernel
theorem s120_0 {l1 l2 l3 : Option Value} {st : List Value} {x : Nat} {m : kMem} {Q : Option Value → kMem → Prop} : kJ 120 0 [some (.ref x), l1, l2, l3] st m Q = kJ 120 1 [some (.ref x), l1, l2, l3] (.ref x :: st) m Q := kJ_next d120_0 rfl
theorem d120_1 : decode (mB 120) 1 = .ok (.getfield 67, 3) := by decide +kernel
theorem s120_1 {l0 l1 l2 l3 : Option Value} {st : List Value} {q : Nat} {mi : Nat → Nat → Int32} {ml : Nat → Nat → Int64} {mr : Nat → Nat → Option Nat} {nx : Nat} {Q : Option Value → kMem → Prop} (h : kIs nx q 5 = true) : kJ 120 1 [l0, l1, l2, l3] (.ref q :: st) (mi, ml, mr, nx) Q = kJ 120 4 [l0, l1, l2, l3] (.int (mi q 12) :: st) (mi, ml, mr, nx) Q := kJ_next d120_1 (kg_geti 5 12 rfl h (by decide))
theorem d120_4 : decode (mB 120) 4 = .ok (.ifCond .ne 21, 3) := by decide +kernel
theorem s120_4 {l0 l1 l2 l3 : Option Value} {st : List Value} {a : Int32} {m : kMem} {Q : Option Value → kMem → Prop} : kJ 120 4 [l0, l1, l2, l3] (.int a :: st) m Q = (if a = 0 then kJ 120 7 [l0, l1, l2, l3] st m Q else kJ 120 25 [l0, l1, l2, l3] st m Q) := kJ_if d120_4 rfl (fun h => kJ_next d120_4 h) (fun h => kJ_next d120_4 h)
theorem d120_7 : decode (mB 120) 7 = .ok (.aload_n 0, 1) := by decide +kernel
theorem s120_7 {l1 l2 l3 : Option Value} {st : List Value} {x : Nat} {m : kMem} {Q : Option Value → kMem → Prop} : kJ 120 7 [some (.ref x), l1, l2, l3] st m Q = kJ 120 8 [some (.ref x), l1, l2, l3] (.ref x :: st) m Q := kJ_next d120_7 rfl
theorem d120_8 : decode (mB 120) 8 = .ok (.aload_n 0, 1) := by decide +kernel
theorem s120_8 {l1 l2 l3 : Option Value} {st : List Value} {x : Nat} {m : kMem} {Q : Option Value → kMem → Prop} : kJ 120 8 [some (.ref x), l1, l2, l3] st m Q = kJ 120 9 [some (.ref x), l1, l2, l3] (.ref x :: st) m Q := kJ_next d120_8 rfl
theorem d120_9 : decode (mB 120) 9 = .ok (.getfield 91, 3) := by decide +kernel
theorem s120_9 {l0 l1 l2 l3 : Option Value} {st : List Value} {q : Nat} {mi : Nat → Nat → Int32} {ml : Nat → Nat → Int64} {mr : Nat → Nat → Option Nat} {nx : Nat} {Q : Option Value → kMem → Prop} (h : kIs nx q 5 = true) : kJ 120 9 [l0, l1, l2, l3] (.ref q :: st) (mi, ml, mr, nx) Q = kJ 120 12 [l0, l1, l2, l3] (.int (mi q 10) :: st) (mi, ml, mr, nx) Q := kJ_next d120_9 (kg_geti 5 10 rfl h (by decide))
theorem d120_12 : decode (mB 120) 12 = .ok (.iconst 2, 1) := by decide +kernel
theorem s120_12 {l0 l1 l2 l3 : Option Value} {st : List Value} {m : kMem} {Q : Option Value → kMem → Prop} : kJ 120 12 [l0, l1, l2, l3] st m Q = kJ 120 13 [l0, l1, l2, l3] (.int (nI 2) :: st) m Q := kJ_next d120_12 rfl
theorem d120_13 : decode (mB 120) 13 = .ok (.if_icmp .ne 7, 3) := by decide +kernel
theorem s120_13 {l0 l1 l2 l3 : Option Value} {st : List Value} {a b : Int32} {m : kMem} {Q : Option Value → kMem → Prop} : kJ 120 13 [l0, l1, l2, l3] (.int b :: .int a :: st) m Q = (if a = b then kJ 120 16 [l0, l1, l2, l3] st m Q else kJ 120 20 [l0, l1, l2, l3] st m Q) := kJ_if d120_13 rfl (fun h => kJ_next d120_13 h) (fun h => kJ_next d120_13 h)
theorem d120_16 : decode (mB 120) 16 = .ok (.iconst 1, 1) := by decide +kernel
theorem s120_16 {l0 l1 l2 l3 : Option Value} {st : List Value} {m : kMem} {Q : Option Value → kMem → Prop} : kJ 120 16 [l0, l1, l2, l3] st m Q = kJ 120 17 [l0, l1, l2, l3] (.int (nI 1) :: st) m Q := kJ_next d120_16 rfl
theorem d120_17 : decode (mB 120) 17 = .ok (.goto 4, 3) := by decide +kernel
theorem s120_17 {l0 l1 l2 l3 : Option Value} {st : List Value} {m : kMem} {Q : Option Value → kMem → Prop} : kJ 120 17 [l0, l1, l2, l3] st m Q = kJ 120 21 [l0, l1, l2, l3] st m Q := kJ_next d120_17 rfl
theorem d120_20 : decode (mB 120) 20 = .ok (.iconst 0, 1) := by decide +kernel
theorem s120_20 {l0 l1 l2 l3 : Option Value} {st : List Value} {m : kMem} {Q : Option Value → kMem → Prop} : kJ 120 20 [l0, l1, l2, l3] st m Q = kJ 120 21 [l0, l1, l2, l3] (.int (nI 0) :: st) m Q := kJ_next d120_20 rfl
theorem d120_21 : decode (mB 120) 21 = .ok (.iconst 2, 1) := by decide +kernel
theorem s120_21 {l0 l1 l2 l3 : Option Value} {st : List Value} {m : kMem} {Q : Option Value → kMem → Prop} : kJ 120 21 [l0, l1, l2, l3] st m Q = kJ 120 22 [l0, l1, l2, l3] (.int (nI 2) :: st) m Q := kJ_next d120_21 rfl
theorem d120_22 : decode (mB 120) 22 = .ok (.invokevirtual 105, 3) := by decide +kernel
theorem s120_22 {l0 l1 l2 l3 : Option Value} {v0 : Int32} {v1 : Int32} {v2 : Nat} {m : kMem} {Q : Option Value → kMem → Prop} (h : kIs m.2.2.2 v2 5 = true) : kJ 120 22 [l0, l1, l2, l3] [.int v0, .int v1, .ref v2] m Q = kJ 114 0 [some (.ref v2), some (.int v1), some (.int v0)] [] m (fun v m2 => kJ 120 25 [l0, l1, l2, l3] (v.toList ++ []) m2 Q) := kJ_call d120_22 (kg_callv 114 2 rfl rfl rfl rfl (Nat.le_of_ble_eq_true rfl) (Nat.le_of_ble_eq_true rfl) (Nat.le_of_ble_eq_true rfl) h rfl)
theorem d120_25 : decode (mB 120) 25 = .ok (.aload_n 0, 1) := by decide +kernel
theorem s120_25 {l1 l2 l3 : Option Value} {st : List Value} {x : Nat} {m : kMem} {Q : Option Value → kMem → Prop} : kJ 120 25 [some (.ref x), l1, l2, l3] st m Q = kJ 120 26 [some (.ref x), l1, l2, l3] (.ref x :: st) m Q := kJ_next d120_25 rfl
theorem d120_26 : decode (mB 120) 26 = .ok (.getfield 67, 3) := by decide +kernel
theorem s120_26 {l0 l1 l2 l3 : Option Value} {st : List Value} {q : Nat} {mi : Nat → Nat → Int32} {ml : Nat → Nat → Int64} {mr : Nat → Nat → Option Nat} {nx : Nat} {Q : Option Value → kMem → Prop} (h : kIs nx q 5 = true) : kJ 120 26 [l0, l1, l2, l3] (.ref q :: st) (mi, ml, mr, nx) Q = kJ 120 29 [l0, l1, l2, l3] (.int (mi q 12) :: st) (mi, ml, mr, nx) Q := kJ_next d120_26 (kg_geti 5 12 rfl h (by decide))
theorem d120_29 : decode (mB 120) 29 = .ok (.ifCond .ne 20, 3) := by decide +kernel
theorem s120_29 {l0 l1 l2 l3 : Option Value} {st : List Value} {a : Int32} {m : kMem} {Q : Option Value → kMem → Prop} : kJ 120 29 [l0, l1, l2, l3] (.int a :: st) m Q = (if a = 0 then kJ 120 32 [l0, l1, l2, l3] st m Q else kJ 120 49 [l0, l1, l2, l3] st m Q) := kJ_if d120_29 rfl (fun h => kJ_next d120_29 h) (fun h => kJ_next d120_29 h)
theorem d120_32 : decode (mB 120) 32 = .ok (.aload_n 0, 1) := by decide +kernel
theorem s120_32 {l1 l2 l3 : Option Value} {st : List Value} {x : Nat} {m : kMem} {Q : Option Value → kMem → Prop} : kJ 120 32 [some (.ref x), l1, l2, l3] st m Q = kJ 120 33 [some (.ref x), l1, l2, l3] (.ref x :: st) m Q := kJ_next d120_32 rfl
theorem d120_33 : decode (mB 120) 33 = .ok (.aload_n 0, 1) := by decide +kernel
theorem s120_33 {l1 l2 l3 : Option Value} {st : List Value} {x : Nat} {m : kMem} {Q : Option Value → kMem → Prop} : kJ 120 33 [some (.ref x), l1, l2, l3] st m Q = kJ 120 34 [some (.ref x), l1, l2, l3] (.ref x :: st) m Q := kJ_next d120_33 rfl
theorem d120_34 : decode (mB 120) 34 = .ok (.getfield 102, 3) := by decide +kernel
theorem s120_34 {l0 l1 l2 l3 : Option Value} {st : List Value} {q : Nat} {mi : Nat → Nat → Int32} {ml : Nat → Nat → Int64} {mr : Nat → Nat → Option Nat} {nx : Nat} {Q : Option Value → kMem → Prop} (h : kIs nx q 5 = true) : kJ 120 34 [l0, l1, l2, l3] (.ref q :: st) (mi, ml, mr, nx) Q = kJ 120 37 [l0, l1, l2, l3] (.int (mi q 11) :: st) (mi, ml, mr, nx) Q := kJ_next d120_34 (kg_geti 5 11 rfl h (by decide))
theorem d120_37 : decode (mB 120) 37 = .ok (.i2l, 1) := by decide +kernel
theorem s120_37 {l0 l1 l2 l3 : Option Value} {st : List Value} {a : Int32} {m : kMem} {Q : Option Value → kMem → Prop} : kJ 120 37 [l0, l1, l2, l3] (.int a :: st) m Q = kJ 120 38 [l0, l1, l2, l3] (.long a.toInt64 :: st) m Q := kJ_next d120_37 rfl
theorem d120_38 : decode (mB 120) 38 = .ok (.iload_n 1, 1) := by decide +kernel
theorem s120_38 {l0 l2 l3 : Option Value} {st : List Value} {x : Int32} {m : kMem} {Q : Option Value → kMem → Prop} : kJ 120 38 [l0, some (.int x), l2, l3] st m Q = kJ 120 39 [l0, some (.int x), l2, l3] (.int x :: st) m Q := kJ_next d120_38 rfl
theorem d120_39 : decode (mB 120) 39 = .ok (.i2l, 1) := by decide +kernel
theorem s120_39 {l0 l1 l2 l3 : Option Value} {st : List Value} {a : Int32} {m : kMem} {Q : Option Value → kMem → Prop} : kJ 120 39 [l0, l1, l2, l3] (.int a :: st) m Q = kJ 120 40 [l0, l1, l2, l3] (.long a.toInt64 :: st) m Q := kJ_next d120_39 rfl
theorem d120_40 : decode (mB 120) 40 = .ok (.iload_n 2, 1) := by decide +kernel
theorem s120_40 {l0 l1 l3 : Option Value} {st : List Value} {x : Int32} {m : kMem} {Q : Option Value → kMem → Prop} : kJ 120 40 [l0, l1, some (.int x), l3] st m Q = kJ 120 41 [l0, l1, some (.int x), l3] (.int x :: st) m Q := kJ_next d120_40 rfl
theorem d120_41 : decode (mB 120) 41 = .ok (.i2l, 1) := by decide +kernel
theorem s120_41 {l0 l1 l2 l3 : Option Value} {st : List Value} {a : Int32} {m : kMem} {Q : Option Value → kMem → Prop} : kJ 120 41 [l0, l1, l2, l3] (.int a :: st) m Q = kJ 120 42 [l0, l1, l2, l3] (.long a.toInt64 :: st) m Q := kJ_next d120_41 rfl
theorem d120_42 : decode (mB 120) 42 = .ok (.invokestatic 60, 3) := by decide +kernel
theorem s120_42 {l0 l1 l2 l3 : Option Value} {v0 : Int64} {v1 : Int64} {v2 : Int64} {v3 : Nat} {m : kMem} {Q : Option Value → kMem → Prop} : kJ 120 42 [l0, l1, l2, l3] [.long v0, .long v1, .long v2, .ref v3] m Q = kJ 107 0 [some (.long v2), none, some (.long v1), none, some (.long v0), none] [] m (fun v m2 => kJ 120 45 [l0, l1, l2, l3] (v.toList ++ [.ref v3]) m2 Q) := kJ_call d120_42 (kg_calls 107 3 rfl rfl (Nat.le_of_ble_eq_true rfl) (Nat.le_of_ble_eq_true rfl) (Nat.le_of_ble_eq_true rfl) (Nat.le_of_ble_eq_true rfl))
theorem d120_45 : decode (mB 120) 45 = .ok (.iconst 3, 1) := by decide +kernel
theorem s120_45 {l0 l1 l2 l3 : Option Value} {st : List Value} {m : kMem} {Q : Option Value → kMem → Prop} : kJ 120 45 [l0, l1, l2, l3] st m Q = kJ 120 46 [l0, l1, l2, l3] (.int (nI 3) :: st) m Q := kJ_next d120_45 rfl
theorem d120_46 : decode (mB 120) 46 = .ok (.invokevirtual 105, 3) := by decide +kernel
theorem s120_46 {l0 l1 l2 l3 : Option Value} {v0 : Int32} {v1 : Int32} {v2 : Nat} {m : kMem} {Q : Option Value → kMem → Prop} (h : kIs m.2.2.2 v2 5 = true) : kJ 120 46 [l0, l1, l2, l3] [.int v0, .int v1, .ref v2] m Q = kJ 114 0 [some (.ref v2), some (.int v1), some (.int v0)] [] m (fun v m2 => kJ 120 49 [l0, l1, l2, l3] (v.toList ++ []) m2 Q) := kJ_call d120_46 (kg_callv 114 2 rfl rfl rfl rfl (Nat.le_of_ble_eq_true rfl) (Nat.le_of_ble_eq_true rfl) (Nat.le_of_ble_eq_true rfl) h rfl)
theorem d120_49 : decode (mB 120) 49 = .ok (.aload_n 0, 1) := by decide +kernel
theorem s120_49 {l1 l2 l3 : Option Value} {st : List Value} {x : Nat} {m : kMem} {Q : Option Value → kMem → Prop} : kJ 120 49 [some (.ref x), l1, l2, l3] st m Q = kJ 120 50 [some (.ref x), l1, l2, l3] (.ref x :: st) m Q := kJ_next d120_49 rfl
theorem d120_50 : decode (mB 120) 50 = .ok (.getfield 67, 3) := by decide +kernel
theorem s120_50 {l0 l1 l2 l3 : Option Value} {st : List Value} {q : Nat} {mi : Nat → Nat → Int32} {ml : Nat → Nat → Int64} {mr : Nat → Nat → Option Nat} {nx : Nat} {Q : Option Value → kMem → Prop} (h : kIs nx q 5 = true) : kJ 120 50 [l0, l1, l2, l3] (.ref q :: st) (mi, ml, mr, nx) Q = kJ 120 53 [l0, l1, l2, l3] (.int (mi q 12) :: st) (mi, ml, mr, nx) Q := kJ_next d120_50 (kg_geti 5 12 rfl h (by decide))
theorem d120_53 : decode (mB 120) 53 = .ok (.ifCond .ne 10, 3) := by decide +kernel
theorem s120_53 {l0 l1 l2 l3 : Option Value} {st : List Value} {a : Int32} {m : kMem} {Q : Option Value → kMem → Prop} : kJ 120 53 [l0, l1, l2, l3] (.int a :: st) m Q = (if a = 0 then kJ 120 56 [l0, l1, l2, l3] st m Q else kJ 120 63 [l0, l1, l2, l3] st m Q) := kJ_if d120_53 rfl (fun h => kJ_next d120_53 h) (fun h => kJ_next d120_53 h)
theorem d120_56 : decode (mB 120) 56 = .ok (.aload_n 0, 1) := by decide +kernel
theorem s120_56 {l1 l2 l3 : Option Value} {st : List Value} {x : Nat} {m : kMem} {Q : Option Value → kMem → Prop} : kJ 120 56 [some (.ref x), l1, l2, l3] st m Q = kJ 120 57 [some (.ref x), l1, l2, l3] (.ref x :: st) m Q := kJ_next d120_56 rfl
theorem d120_57 : decode (mB 120) 57 = .ok (.getfield 102, 3) := by decide +kernel
theorem s120_57 {l0 l1 l2 l3 : Option Value} {st : List Value} {q : Nat} {mi : Nat → Nat → Int32} {ml : Nat → Nat → Int64} {mr : Nat → Nat → Option Nat} {nx : Nat} {Q : Option Value → kMem → Prop} (h : kIs nx q 5 = true) : kJ 120 57 [l0, l1, l2, l3] (.ref q :: st) (mi, ml, mr, nx) Q = kJ 120 60 [l0, l1, l2, l3] (.int (mi q 11) :: st) (mi, ml, mr, nx) Q := kJ_next d120_57 (kg_geti 5 11 rfl h (by decide))
theorem d120_60 : decode (mB 120) 60 = .ok (.goto 4, 3) := by decide +kernel
theorem s120_60 {l0 l1 l2 l3 : Option Value} {st : List Value} {m : kMem} {Q : Option Value → kMem → Prop} : kJ 120 60 [l0, l1, l2, l3] st m Q = kJ 120 64 [l0, l1, l2, l3] st m Q := kJ_next d120_60 rfl
theorem d120_63 : decode (mB 120) 63 = .ok (.iconst 0, 1) := by decide +kernel
theorem s120_63 {l0 l1 l2 l3 : Option Value} {st : List Value} {m : kMem} {Q : Option Value → kMem → Prop} : kJ 120 63 [l0, l1, l2, l3] st m Q = kJ 120 64 [l0, l1, l2, l3] (.int (nI 0) :: st) m Q := kJ_next d120_63 rfl
theorem d120_64 : decode (mB 120) 64 = .ok (.istore_n 3, 1) := by decide +kernel
theorem s120_64 {l0 l1 l2 l3 : Option Value} {st : List Value} {x : Int32} {m : kMem} {Q : Option Value → kMem → Prop} (hp : kNL l2 = true) : kJ 120 64 [l0, l1, l2, l3] (.int x :: st) m Q = kJ 120 65 [l0, l1, l2, some (.int x)] st m Q := kJ_next d120_64 (kg_sti (Nat.le_of_ble_eq_true rfl) hp)
theorem d120_65 : decode (mB 120) 65 = .ok (.aload_n 0, 1) := by decide +kernel
theorem s120_65 {l1 l2 l3 : Option Value} {st : List Value} {x : Nat} {m : kMem} {Q : Option Value → kMem → Prop} : kJ 120 65 [some (.ref x), l1, l2, l3] st m Q = kJ 120 66 [some (.ref x), l1, l2, l3] (.ref x :: st) m Q := kJ_next d120_65 rfl
theorem d120_66 : decode (mB 120) 66 = .ok (.invokevirtual 109, 3) := by decide +kernel
theorem s120_66 {l0 l1 l2 l3 : Option Value} {v0 : Nat} {m : kMem} {Q : Option Value → kMem → Prop} (h : kIs m.2.2.2 v0 5 = true) : kJ 120 66 [l0, l1, l2, l3] [.ref v0] m Q = kJ 119 0 [some (.ref v0), none] [] m (fun v m2 => kJ 120 69 [l0, l1, l2, l3] (v.toList ++ []) m2 Q) := kJ_call d120_66 (kg_callv 119 0 rfl rfl rfl rfl (Nat.le_of_ble_eq_true rfl) (Nat.le_of_ble_eq_true rfl) (Nat.le_of_ble_eq_true rfl) h rfl)
theorem d120_69 : decode (mB 120) 69 = .ok (.iload_n 3, 1) := by decide +kernel
theorem s120_69 {l0 l1 l2 : Option Value} {st : List Value} {x : Int32} {m : kMem} {Q : Option Value → kMem → Prop} : kJ 120 69 [l0, l1, l2, some (.int x)] st m Q = kJ 120 70 [l0, l1, l2, some (.int x)] (.int x :: st) m Q := kJ_next d120_69 rfl
theorem d120_70 : decode (mB 120) 70 = .ok (.ireturn, 1) := by decide +kernel
theorem s120_70 {l0 l1 l2 l3 : Option Value} {x : Int32} {m : kMem} {Q : Option Value → kMem → Prop} : kJ 120 70 [l0, l1, l2, l3] [.int x] m Q = Q (some (.int x)) m := kJ_ret d120_70 rfl
theorem d121_0 : decode (mB 121) 0 = .ok (.bipush 16, 2) := by decide +kernel
theorem s121_0 {l0 l1 l2 : Option Value} {st : List Value} {m : kMem} {Q : Option Value → kMem → Prop} : kJ 121 0 [l0, l1, l2] st m Q = kJ 121 2 [l0, l1, l2] (.int (nI 16) :: st) m Q := kJ_next d121_0 rfl
theorem d121_2 : decode (mB 121) 2 = .ok (.bipush 6, 2) := by decide +kernel
theorem s121_2 {l0 l1 l2 : Option Value} {st : List Value} {m : kMem} {Q : Option Value → kMem → Prop} : kJ 121 2 [l0, l1, l2] st m Q = kJ 121 4 [l0, l1, l2] (.int (nI 6) :: st) m Q := kJ_next d121_2 rfl
theorem d121_4 : decode (mB 121) 4 = .ok (.aload_n 0, 1) := by decide +kernel
theorem s121_4 {l1 l2 : Option Value} {st : List Value} {x : Nat} {m : kMem} {Q : Option Value → kMem → Prop} : kJ 121 4 [some (.ref x), l1, l2] st m Q = kJ 121 5 [some (.ref x), l1, l2] (.ref x :: st) m Q := kJ_next d121_4 rfl
theorem d121_5 : decode (mB 121) 5 = .ok (.getfield 20, 3) := by decide +kernel
theorem s121_5 {l0 l1 l2 : Option Value} {st : List Value} {q : Nat} {mi : Nat → Nat → Int32} {ml : Nat → Nat → Int64} {mr : Nat → Nat → Option Nat} {nx : Nat} {Q : Option Value → kMem → Prop} (h : kIs nx q 5 = true) : kJ 121 5 [l0, l1, l2] (.ref q :: st) (mi, ml, mr, nx) Q = kJ 121 8 [l0, l1, l2] (va_rf (mr q 3) :: st) (mi, ml, mr, nx) Q := kJ_next d121_5 (kg_getr 5 3 rfl h (by decide))
theorem d121_8 : decode (mB 121) 8 = .ok (.bipush 52, 2) := by decide +kernel
theorem s121_8 {l0 l1 l2 : Option Value} {st : List Value} {m : kMem} {Q : Option Value → kMem → Prop} : kJ 121 8 [l0, l1, l2] st m Q = kJ 121 10 [l0, l1, l2] (.int (nI 52) :: st) m Q := kJ_next d121_8 rfl
theorem d121_10 : decode (mB 121) 10 = .ok (.iaload, 1) := by decide +kernel
theorem s121_10 {l0 l1 l2 : Option Value} {st : List Value} {q : Nat} {i : Int32} {mi : Nat → Nat → Int32} {ml : Nat → Nat → Int64} {mr : Nat → Nat → Option Nat} {nx : Nat} {Q : Option Value → kMem → Prop} (h : kIs nx q 10 = true) : kJ 121 10 [l0, l1, l2] (.int i :: .ref q :: st) (mi, ml, mr, nx) Q = (vp_in i (kAl q) ∧ kJ 121 11 [l0, l1, l2] (.int (mi q i.toNatClampNeg) :: st) (mi, ml, mr, nx) Q) := kg_aldJ d121_10 rfl (kAr_of h)
theorem d121_11 : decode (mB 121) 11 = .ok (.imul, 1) := by decide +kernel
theorem s121_11 {l0 l1 l2 : Option Value} {st : List Value} {a b : Int32} {m : kMem} {Q : Option Value → kMem → Prop} : kJ 121 11 [l0, l1, l2] (.int b :: .int a :: st) m Q = kJ 121 12 [l0, l1, l2] (.int (a * b) :: st) m Q := kJ_next d121_11 rfl
theorem d121_12 : decode (mB 121) 12 = .ok (.iadd, 1) := by decide +kernel
theorem s121_12 {l0 l1 l2 : Option Value} {st : List Value} {a b : Int32} {m : kMem} {Q : Option Value → kMem → Prop} : kJ 121 12 [l0, l1, l2] (.int b :: .int a :: st) m Q = kJ 121 13 [l0, l1, l2] (.int (a + b) :: st) m Q := kJ_next d121_12 rfl
theorem d121_13 : decode (mB 121) 13 = .ok (.istore_n 1, 1) := by decide +kernel
theorem s121_13 {l0 l1 l2 : Option Value} {st : List Value} {x : Int32} {m : kMem} {Q : Option Value → kMem → Prop} (hp : kNL l0 = true) : kJ 121 13 [l0, l1, l2] (.int x :: st) m Q = kJ 121 14 [l0, some (.int x), l2] st m Q := kJ_next d121_13 (kg_sti (Nat.le_of_ble_eq_true rfl) hp)
theorem d121_14 : decode (mB 121) 14 = .ok (.iconst 0, 1) := by decide +kernel
theorem s121_14 {l0 l1 l2 : Option Value} {st : List Value} {m : kMem} {Q : Option Value → kMem → Prop} : kJ 121 14 [l0, l1, l2] st m Q = kJ 121 15 [l0, l1, l2] (.int (nI 0) :: st) m Q := kJ_next d121_14 rfl
theorem d121_15 : decode (mB 121) 15 = .ok (.istore_n 2, 1) := by decide +kernel
theorem s121_15 {l0 l1 l2 : Option Value} {st : List Value} {x : Int32} {m : kMem} {Q : Option Value → kMem → Prop} (hp : kNL l1 = true) : kJ 121 15 [l0, l1, l2] (.int x :: st) m Q = kJ 121 16 [l0, l1, some (.int x)] st m Q := kJ_next d121_15 (kg_sti (Nat.le_of_ble_eq_true rfl) hp)
theorem d121_16 : decode (mB 121) 16 = .ok (.iload_n 2, 1) := by decide +kernel
theorem s121_16 {l0 l1 : Option Value} {st : List Value} {x : Int32} {m : kMem} {Q : Option Value → kMem → Prop} : kJ 121 16 [l0, l1, some (.int x)] st m Q = kJ 121 17 [l0, l1, some (.int x)] (.int x :: st) m Q := kJ_next d121_16 rfl
theorem d121_17 : decode (mB 121) 17 = .ok (.iconst 2, 1) := by decide +kernel
theorem s121_17 {l0 l1 l2 : Option Value} {st : List Value} {m : kMem} {Q : Option Value → kMem → Prop} : kJ 121 17 [l0, l1, l2] st m Q = kJ 121 18 [l0, l1, l2] (.int (nI 2) :: st) m Q := kJ_next d121_17 rfl
theorem d121_18 : decode (mB 121) 18 = .ok (.if_icmp .gt 57, 3) := by decide +kernel
theorem s121_18 {l0 l1 l2 : Option Value} {st : List Value} {a b : Int32} {m : kMem} {Q : Option Value → kMem → Prop} : kJ 121 18 [l0, l1, l2] (.int b :: .int a :: st) m Q = (if b < a then kJ 121 75 [l0, l1, l2] st m Q else kJ 121 21 [l0, l1, l2] st m Q) := kJ_if d121_18 rfl (fun h => kJ_next d121_18 h) (fun h => kJ_next d121_18 h)
theorem d121_21 : decode (mB 121) 21 = .ok (.aload_n 0, 1) := by decide +kernel
theorem s121_21 {l1 l2 : Option Value} {st : List Value} {x : Nat} {m : kMem} {Q : Option Value → kMem → Prop} : kJ 121 21 [some (.ref x), l1, l2] st m Q = kJ 121 22 [some (.ref x), l1, l2] (.ref x :: st) m Q := kJ_next d121_21 rfl
theorem d121_22 : decode (mB 121) 22 = .ok (.getfield 20, 3) := by decide +kernel
theorem s121_22 {l0 l1 l2 : Option Value} {st : List Value} {q : Nat} {mi : Nat → Nat → Int32} {ml : Nat → Nat → Int64} {mr : Nat → Nat → Option Nat} {nx : Nat} {Q : Option Value → kMem → Prop} (h : kIs nx q 5 = true) : kJ 121 22 [l0, l1, l2] (.ref q :: st) (mi, ml, mr, nx) Q = kJ 121 25 [l0, l1, l2] (va_rf (mr q 3) :: st) (mi, ml, mr, nx) Q := kJ_next d121_22 (kg_getr 5 3 rfl h (by decide))
theorem d121_25 : decode (mB 121) 25 = .ok (.iload_n 1, 1) := by decide +kernel
theorem s121_25 {l0 l2 : Option Value} {st : List Value} {x : Int32} {m : kMem} {Q : Option Value → kMem → Prop} : kJ 121 25 [l0, some (.int x), l2] st m Q = kJ 121 26 [l0, some (.int x), l2] (.int x :: st) m Q := kJ_next d121_25 rfl
theorem d121_26 : decode (mB 121) 26 = .ok (.iload_n 2, 1) := by decide +kernel
theorem s121_26 {l0 l1 : Option Value} {st : List Value} {x : Int32} {m : kMem} {Q : Option Value → kMem → Prop} : kJ 121 26 [l0, l1, some (.int x)] st m Q = kJ 121 27 [l0, l1, some (.int x)] (.int x :: st) m Q := kJ_next d121_26 rfl
theorem d121_27 : decode (mB 121) 27 = .ok (.iadd, 1) := by decide +kernel
theorem s121_27 {l0 l1 l2 : Option Value} {st : List Value} {a b : Int32} {m : kMem} {Q : Option Value → kMem → Prop} : kJ 121 27 [l0, l1, l2] (.int b :: .int a :: st) m Q = kJ 121 28 [l0, l1, l2] (.int (a + b) :: st) m Q := kJ_next d121_27 rfl
theorem d121_28 : decode (mB 121) 28 = .ok (.aload_n 0, 1) := by decide +kernel
theorem s121_28 {l1 l2 : Option Value} {st : List Value} {x : Nat} {m : kMem} {Q : Option Value → kMem → Prop} : kJ 121 28 [some (.ref x), l1, l2] st m Q = kJ 121 29 [some (.ref x), l1, l2] (.ref x :: st) m Q := kJ_next d121_28 rfl
theorem d121_29 : decode (mB 121) 29 = .ok (.iconst 0, 1) := by decide +kernel
theorem s121_29 {l0 l1 l2 : Option Value} {st : List Value} {m : kMem} {Q : Option Value → kMem → Prop} : kJ 121 29 [l0, l1, l2] st m Q = kJ 121 30 [l0, l1, l2] (.int (nI 0) :: st) m Q := kJ_next d121_29 rfl
theorem d121_30 : decode (mB 121) 30 = .ok (.iconst 4, 1) := by decide +kernel
theorem s121_30 {l0 l1 l2 : Option Value} {st : List Value} {m : kMem} {Q : Option Value → kMem → Prop} : kJ 121 30 [l0, l1, l2] st m Q = kJ 121 31 [l0, l1, l2] (.int (nI 4) :: st) m Q := kJ_next d121_30 rfl
theorem d121_31 : decode (mB 121) 31 = .ok (.invokevirtual 112, 3) := by decide +kernel
theorem s121_31 {l0 l1 l2 : Option Value} {v0 : Int32} {v1 : Int32} {v2 : Nat} {v3 : Int32} {v4 : Nat} {m : kMem} {Q : Option Value → kMem → Prop} (h : kIs m.2.2.2 v2 5 = true) : kJ 121 31 [l0, l1, l2] [.int v0, .int v1, .ref v2, .int v3, .ref v4] m Q = kJ 120 0 [some (.ref v2), some (.int v1), some (.int v0), none] [] m (fun v m2 => kJ 121 34 [l0, l1, l2] (v.toList ++ [.int v3, .ref v4]) m2 Q) := kJ_call d121_31 (kg_callv 120 2 rfl rfl rfl rfl (Nat.le_of_ble_eq_true rfl) (Nat.le_of_ble_eq_true rfl) (Nat.le_of_ble_eq_true rfl) h rfl)
theorem d121_34 : decode (mB 121) 34 = .ok (.iastore, 1) := by decide +kernel
theorem s121_34 {l0 l1 l2 : Option Value} {st : List Value} {q : Nat} {i x : Int32} {mi : Nat → Nat → Int32} {ml : Nat → Nat → Int64} {mr : Nat → Nat → Option Nat} {nx : Nat} {Q : Option Value → kMem → Prop} (h : kIs nx q 10 = true) : kJ 121 34 [l0, l1, l2] (.int x :: .int i :: .ref q :: st) (mi, ml, mr, nx) Q = (vp_in i (kAl q) ∧ kJ 121 35 [l0, l1, l2] st (kup mi q i.toNatClampNeg x, ml, mr, nx) Q) := kg_astJ d121_34 rfl (kAr_of h)
theorem d121_35 : decode (mB 121) 35 = .ok (.aload_n 0, 1) := by decide +kernel
theorem s121_35 {l1 l2 : Option Value} {st : List Value} {x : Nat} {m : kMem} {Q : Option Value → kMem → Prop} : kJ 121 35 [some (.ref x), l1, l2] st m Q = kJ 121 36 [some (.ref x), l1, l2] (.ref x :: st) m Q := kJ_next d121_35 rfl
theorem d121_36 : decode (mB 121) 36 = .ok (.aload_n 0, 1) := by decide +kernel
theorem s121_36 {l1 l2 : Option Value} {st : List Value} {x : Nat} {m : kMem} {Q : Option Value → kMem → Prop} : kJ 121 36 [some (.ref x), l1, l2] st m Q = kJ 121 37 [some (.ref x), l1, l2] (.ref x :: st) m Q := kJ_next d121_36 rfl
theorem d121_37 : decode (mB 121) 37 = .ok (.getfield 20, 3) := by decide +kernel
theorem s121_37 {l0 l1 l2 : Option Value} {st : List Value} {q : Nat} {mi : Nat → Nat → Int32} {ml : Nat → Nat → Int64} {mr : Nat → Nat → Option Nat} {nx : Nat} {Q : Option Value → kMem → Prop} (h : kIs nx q 5 = true) : kJ 121 37 [l0, l1, l2] (.ref q :: st) (mi, ml, mr, nx) Q = kJ 121 40 [l0, l1, l2] (va_rf (mr q 3) :: st) (mi, ml, mr, nx) Q := kJ_next d121_37 (kg_getr 5 3 rfl h (by decide))
theorem d121_40 : decode (mB 121) 40 = .ok (.iload_n 1, 1) := by decide +kernel
theorem s121_40 {l0 l2 : Option Value} {st : List Value} {x : Int32} {m : kMem} {Q : Option Value → kMem → Prop} : kJ 121 40 [l0, some (.int x), l2] st m Q = kJ 121 41 [l0, some (.int x), l2] (.int x :: st) m Q := kJ_next d121_40 rfl
theorem d121_41 : decode (mB 121) 41 = .ok (.iload_n 2, 1) := by decide +kernel
theorem s121_41 {l0 l1 : Option Value} {st : List Value} {x : Int32} {m : kMem} {Q : Option Value → kMem → Prop} : kJ 121 41 [l0, l1, some (.int x)] st m Q = kJ 121 42 [l0, l1, some (.int x)] (.int x :: st) m Q := kJ_next d121_41 rfl
theorem d121_42 : decode (mB 121) 42 = .ok (.iadd, 1) := by decide +kernel
theorem s121_42 {l0 l1 l2 : Option Value} {st : List Value} {a b : Int32} {m : kMem} {Q : Option Value → kMem → Prop} : kJ 121 42 [l0, l1, l2] (.int b :: .int a :: st) m Q = kJ 121 43 [l0, l1, l2] (.int (a + b) :: st) m Q := kJ_next d121_42 rfl
theorem d121_43 : decode (mB 121) 43 = .ok (.iaload, 1) := by decide +kernel
theorem s121_43 {l0 l1 l2 : Option Value} {st : List Value} {q : Nat} {i : Int32} {mi : Nat → Nat → Int32} {ml : Nat → Nat → Int64} {mr : Nat → Nat → Option Nat} {nx : Nat} {Q : Option Value → kMem → Prop} (h : kIs nx q 10 = true) : kJ 121 43 [l0, l1, l2] (.int i :: .ref q :: st) (mi, ml, mr, nx) Q = (vp_in i (kAl q) ∧ kJ 121 44 [l0, l1, l2] (.int (mi q i.toNatClampNeg) :: st) (mi, ml, mr, nx) Q) := kg_aldJ d121_43 rfl (kAr_of h)
theorem d121_44 : decode (mB 121) 44 = .ok (.aload_n 0, 1) := by decide +kernel
theorem s121_44 {l1 l2 : Option Value} {st : List Value} {x : Nat} {m : kMem} {Q : Option Value → kMem → Prop} : kJ 121 44 [some (.ref x), l1, l2] st m Q = kJ 121 45 [some (.ref x), l1, l2] (.ref x :: st) m Q := kJ_next d121_44 rfl
theorem d121_45 : decode (mB 121) 45 = .ok (.getfield 54, 3) := by decide +kernel
theorem s121_45 {l0 l1 l2 : Option Value} {st : List Value} {q : Nat} {mi : Nat → Nat → Int32} {ml : Nat → Nat → Int64} {mr : Nat → Nat → Option Nat} {nx : Nat} {Q : Option Value → kMem → Prop} (h : kIs nx q 5 = true) : kJ 121 45 [l0, l1, l2] (.ref q :: st) (mi, ml, mr, nx) Q = kJ 121 48 [l0, l1, l2] (.int (mi q 5) :: st) (mi, ml, mr, nx) Q := kJ_next d121_45 (kg_geti 5 5 rfl h (by decide))
theorem d121_48 : decode (mB 121) 48 = .ok (.if_icmp .le 14, 3) := by decide +kernel
theorem s121_48 {l0 l1 l2 : Option Value} {st : List Value} {a b : Int32} {m : kMem} {Q : Option Value → kMem → Prop} : kJ 121 48 [l0, l1, l2] (.int b :: .int a :: st) m Q = (if a ≤ b then kJ 121 62 [l0, l1, l2] st m Q else kJ 121 51 [l0, l1, l2] st m Q) := kJ_if d121_48 rfl (fun h => kJ_next d121_48 h) (fun h => kJ_next d121_48 h)
theorem d121_51 : decode (mB 121) 51 = .ok (.aload_n 0, 1) := by decide +kernel
theorem s121_51 {l1 l2 : Option Value} {st : List Value} {x : Nat} {m : kMem} {Q : Option Value → kMem → Prop} : kJ 121 51 [some (.ref x), l1, l2] st m Q = kJ 121 52 [some (.ref x), l1, l2] (.ref x :: st) m Q := kJ_next d121_51 rfl
theorem d121_52 : decode (mB 121) 52 = .ok (.getfield 20, 3) := by decide +kernel
theorem s121_52 {l0 l1 l2 : Option Value} {st : List Value} {q : Nat} {mi : Nat → Nat → Int32} {ml : Nat → Nat → Int64} {mr : Nat → Nat → Option Nat} {nx : Nat} {Q : Option Value → kMem → Prop} (h : kIs nx q 5 = true) : kJ 121 52 [l0, l1, l2] (.ref q :: st) (mi, ml, mr, nx) Q = kJ 121 55 [l0, l1, l2] (va_rf (mr q 3) :: st) (mi, ml, mr, nx) Q := kJ_next d121_52 (kg_getr 5 3 rfl h (by decide))
theorem d121_55 : decode (mB 121) 55 = .ok (.iload_n 1, 1) := by decide +kernel
theorem s121_55 {l0 l2 : Option Value} {st : List Value} {x : Int32} {m : kMem} {Q : Option Value → kMem → Prop} : kJ 121 55 [l0, some (.int x), l2] st m Q = kJ 121 56 [l0, some (.int x), l2] (.int x :: st) m Q := kJ_next d121_55 rfl
theorem d121_56 : decode (mB 121) 56 = .ok (.iload_n 2, 1) := by decide +kernel
theorem s121_56 {l0 l1 : Option Value} {st : List Value} {x : Int32} {m : kMem} {Q : Option Value → kMem → Prop} : kJ 121 56 [l0, l1, some (.int x)] st m Q = kJ 121 57 [l0, l1, some (.int x)] (.int x :: st) m Q := kJ_next d121_56 rfl
theorem d121_57 : decode (mB 121) 57 = .ok (.iadd, 1) := by decide +kernel
theorem s121_57 {l0 l1 l2 : Option Value} {st : List Value} {a b : Int32} {m : kMem} {Q : Option Value → kMem → Prop} : kJ 121 57 [l0, l1, l2] (.int b :: .int a :: st) m Q = kJ 121 58 [l0, l1, l2] (.int (a + b) :: st) m Q := kJ_next d121_57 rfl
theorem d121_58 : decode (mB 121) 58 = .ok (.iaload, 1) := by decide +kernel
theorem s121_58 {l0 l1 l2 : Option Value} {st : List Value} {q : Nat} {i : Int32} {mi : Nat → Nat → Int32} {ml : Nat → Nat → Int64} {mr : Nat → Nat → Option Nat} {nx : Nat} {Q : Option Value → kMem → Prop} (h : kIs nx q 10 = true) : kJ 121 58 [l0, l1, l2] (.int i :: .ref q :: st) (mi, ml, mr, nx) Q = (vp_in i (kAl q) ∧ kJ 121 59 [l0, l1, l2] (.int (mi q i.toNatClampNeg) :: st) (mi, ml, mr, nx) Q) := kg_aldJ d121_58 rfl (kAr_of h)
theorem d121_59 : decode (mB 121) 59 = .ok (.goto 7, 3) := by decide +kernel
theorem s121_59 {l0 l1 l2 : Option Value} {st : List Value} {m : kMem} {Q : Option Value → kMem → Prop} : kJ 121 59 [l0, l1, l2] st m Q = kJ 121 66 [l0, l1, l2] st m Q := kJ_next d121_59 rfl
theorem d121_62 : decode (mB 121) 62 = .ok (.aload_n 0, 1) := by decide +kernel
theorem s121_62 {l1 l2 : Option Value} {st : List Value} {x : Nat} {m : kMem} {Q : Option Value → kMem → Prop} : kJ 121 62 [some (.ref x), l1, l2] st m Q = kJ 121 63 [some (.ref x), l1, l2] (.ref x :: st) m Q := kJ_next d121_62 rfl
theorem d121_63 : decode (mB 121) 63 = .ok (.getfield 54, 3) := by decide +kernel
theorem s121_63 {l0 l1 l2 : Option Value} {st : List Value} {q : Nat} {mi : Nat → Nat → Int32} {ml : Nat → Nat → Int64} {mr : Nat → Nat → Option Nat} {nx : Nat} {Q : Option Value → kMem → Prop} (h : kIs nx q 5 = true) : kJ 121 63 [l0, l1, l2] (.ref q :: st) (mi, ml, mr, nx) Q = kJ 121 66 [l0, l1, l2] (.int (mi q 5) :: st) (mi, ml, mr, nx) Q := kJ_next d121_63 (kg_geti 5 5 rfl h (by decide))
theorem d121_66 : decode (mB 121) 66 = .ok (.putfield 54, 3) := by decide +kernel
theorem s121_66 {l0 l1 l2 : Option Value} {st : List Value} {q : Nat} {x : Int32} {mi : Nat → Nat → Int32} {ml : Nat → Nat → Int64} {mr : Nat → Nat → Option Nat} {nx : Nat} {Q : Option Value → kMem → Prop} (h : kIs nx q 5 = true) : kJ 121 66 [l0, l1, l2] (.int x :: .ref q :: st) (mi, ml, mr, nx) Q = kJ 121 69 [l0, l1, l2] st (kup mi q 5 x, ml, mr, nx) Q := kJ_next d121_66 (kg_puti 5 5 rfl h (by decide) (Or.inl (by decide)))
theorem d121_69 : decode (mB 121) 69 = .ok (.iinc 2 1, 3) := by decide +kernel
theorem s121_69 {l0 l1 : Option Value} {st : List Value} {x : Int32} {m : kMem} {Q : Option Value → kMem → Prop} (hp : kNL l1 = true) : kJ 121 69 [l0, l1, some (.int x)] st m Q = kJ 121 72 [l0, l1, some (.int (x + (nI 1)))] st m Q := kJ_next d121_69 (kg_inc rfl (Nat.le_of_ble_eq_true rfl) hp)
theorem d121_72 : decode (mB 121) 72 = .ok (.goto (-56), 3) := by decide +kernel
theorem s121_72 {l0 l1 l2 : Option Value} {st : List Value} {m : kMem} {Q : Option Value → kMem → Prop} : kJ 121 72 [l0, l1, l2] st m Q = kJ 121 16 [l0, l1, l2] st m Q := kJ_next d121_72 rfl
theorem d121_75 : decode (mB 121) 75 = .ok (.aload_n 0, 1) := by decide +kernel
theorem s121_75 {l1 l2 : Option Value} {st : List Value} {x : Nat} {m : kMem} {Q : Option Value → kMem → Prop} : kJ 121 75 [some (.ref x), l1, l2] st m Q = kJ 121 76 [some (.ref x), l1, l2] (.ref x :: st) m Q := kJ_next d121_75 rfl
theorem d121_76 : decode (mB 121) 76 = .ok (.getfield 20, 3) := by decide +kernel
theorem s121_76 {l0 l1 l2 : Option Value} {st : List Value} {q : Nat} {mi : Nat → Nat → Int32} {ml : Nat → Nat → Int64} {mr : Nat → Nat → Option Nat} {nx : Nat} {Q : Option Value → kMem → Prop} (h : kIs nx q 5 = true) : kJ 121 76 [l0, l1, l2] (.ref q :: st) (mi, ml, mr, nx) Q = kJ 121 79 [l0, l1, l2] (va_rf (mr q 3) :: st) (mi, ml, mr, nx) Q := kJ_next d121_76 (kg_getr 5 3 rfl h (by decide))
theorem d121_79 : decode (mB 121) 79 = .ok (.iload_n 1, 1) := by decide +kernel
theorem s121_79 {l0 l2 : Option Value} {st : List Value} {x : Int32} {m : kMem} {Q : Option Value → kMem → Prop} : kJ 121 79 [l0, some (.int x), l2] st m Q = kJ 121 80 [l0, some (.int x), l2] (.int x :: st) m Q := kJ_next d121_79 rfl
theorem d121_80 : decode (mB 121) 80 = .ok (.iconst 3, 1) := by decide +kernel
theorem s121_80 {l0 l1 l2 : Option Value} {st : List Value} {m : kMem} {Q : Option Value → kMem → Prop} : kJ 121 80 [l0, l1, l2] st m Q = kJ 121 81 [l0, l1, l2] (.int (nI 3) :: st) m Q := kJ_next d121_80 rfl
theorem d121_81 : decode (mB 121) 81 = .ok (.iadd, 1) := by decide +kernel
theorem s121_81 {l0 l1 l2 : Option Value} {st : List Value} {a b : Int32} {m : kMem} {Q : Option Value → kMem → Prop} : kJ 121 81 [l0, l1, l2] (.int b :: .int a :: st) m Q = kJ 121 82 [l0, l1, l2] (.int (a + b) :: st) m Q := kJ_next d121_81 rfl
theorem d121_82 : decode (mB 121) 82 = .ok (.aload_n 0, 1) := by decide +kernel
theorem s121_82 {l1 l2 : Option Value} {st : List Value} {x : Nat} {m : kMem} {Q : Option Value → kMem → Prop} : kJ 121 82 [some (.ref x), l1, l2] st m Q = kJ 121 83 [some (.ref x), l1, l2] (.ref x :: st) m Q := kJ_next d121_82 rfl
theorem d121_83 : decode (mB 121) 83 = .ok (.iconst 0, 1) := by decide +kernel
theorem s121_83 {l0 l1 l2 : Option Value} {st : List Value} {m : kMem} {Q : Option Value → kMem → Prop} : kJ 121 83 [l0, l1, l2] st m Q = kJ 121 84 [l0, l1, l2] (.int (nI 0) :: st) m Q := kJ_next d121_83 rfl
theorem d121_84 : decode (mB 121) 84 = .ok (.bipush 18, 2) := by decide +kernel
theorem s121_84 {l0 l1 l2 : Option Value} {st : List Value} {m : kMem} {Q : Option Value → kMem → Prop} : kJ 121 84 [l0, l1, l2] st m Q = kJ 121 86 [l0, l1, l2] (.int (nI 18) :: st) m Q := kJ_next d121_84 rfl
theorem d121_86 : decode (mB 121) 86 = .ok (.invokevirtual 112, 3) := by decide +kernel
theorem s121_86 {l0 l1 l2 : Option Value} {v0 : Int32} {v1 : Int32} {v2 : Nat} {v3 : Int32} {v4 : Nat} {m : kMem} {Q : Option Value → kMem → Prop} (h : kIs m.2.2.2 v2 5 = true) : kJ 121 86 [l0, l1, l2] [.int v0, .int v1, .ref v2, .int v3, .ref v4] m Q = kJ 120 0 [some (.ref v2), some (.int v1), some (.int v0), none] [] m (fun v m2 => kJ 121 89 [l0, l1, l2] (v.toList ++ [.int v3, .ref v4]) m2 Q) := kJ_call d121_86 (kg_callv 120 2 rfl rfl rfl rfl (Nat.le_of_ble_eq_true rfl) (Nat.le_of_ble_eq_true rfl) (Nat.le_of_ble_eq_true rfl) h rfl)
theorem d121_89 : decode (mB 121) 89 = .ok (.iastore, 1) := by decide +kernel
theorem s121_89 {l0 l1 l2 : Option Value} {st : List Value} {q : Nat} {i x : Int32} {mi : Nat → Nat → Int32} {ml : Nat → Nat → Int64} {mr : Nat → Nat → Option Nat} {nx : Nat} {Q : Option Value → kMem → Prop} (h : kIs nx q 10 = true) : kJ 121 89 [l0, l1, l2] (.int x :: .int i :: .ref q :: st) (mi, ml, mr, nx) Q = (vp_in i (kAl q) ∧ kJ 121 90 [l0, l1, l2] st (kup mi q i.toNatClampNeg x, ml, mr, nx) Q) := kg_astJ d121_89 rfl (kAr_of h)
theorem d121_90 : decode (mB 121) 90 = .ok (.aload_n 0, 1) := by decide +kernel
theorem s121_90 {l1 l2 : Option Value} {st : List Value} {x : Nat} {m : kMem} {Q : Option Value → kMem → Prop} : kJ 121 90 [some (.ref x), l1, l2] st m Q = kJ 121 91 [some (.ref x), l1, l2] (.ref x :: st) m Q := kJ_next d121_90 rfl
theorem d121_91 : decode (mB 121) 91 = .ok (.getfield 20, 3) := by decide +kernel
theorem s121_91 {l0 l1 l2 : Option Value} {st : List Value} {q : Nat} {mi : Nat → Nat → Int32} {ml : Nat → Nat → Int64} {mr : Nat → Nat → Option Nat} {nx : Nat} {Q : Option Value → kMem → Prop} (h : kIs nx q 5 = true) : kJ 121 91 [l0, l1, l2] (.ref q :: st) (mi, ml, mr, nx) Q = kJ 121 94 [l0, l1, l2] (va_rf (mr q 3) :: st) (mi, ml, mr, nx) Q := kJ_next d121_91 (kg_getr 5 3 rfl h (by decide))
theorem d121_94 : decode (mB 121) 94 = .ok (.bipush 52, 2) := by decide +kernel
theorem s121_94 {l0 l1 l2 : Option Value} {st : List Value} {m : kMem} {Q : Option Value → kMem → Prop} : kJ 121 94 [l0, l1, l2] st m Q = kJ 121 96 [l0, l1, l2] (.int (nI 52) :: st) m Q := kJ_next d121_94 rfl
theorem d121_96 : decode (mB 121) 96 = .ok (.dup2, 1) := by decide +kernel
theorem s121_96 {l0 l1 l2 : Option Value} {st : List Value} {a : Int32} {b : Nat} {m : kMem} {Q : Option Value → kMem → Prop} : kJ 121 96 [l0, l1, l2] (.int a :: .ref b :: st) m Q = kJ 121 97 [l0, l1, l2] (.int a :: .ref b :: .int a :: .ref b :: st) m Q := kJ_next d121_96 rfl
theorem d121_97 : decode (mB 121) 97 = .ok (.iaload, 1) := by decide +kernel
theorem s121_97 {l0 l1 l2 : Option Value} {st : List Value} {q : Nat} {i : Int32} {mi : Nat → Nat → Int32} {ml : Nat → Nat → Int64} {mr : Nat → Nat → Option Nat} {nx : Nat} {Q : Option Value → kMem → Prop} (h : kIs nx q 10 = true) : kJ 121 97 [l0, l1, l2] (.int i :: .ref q :: st) (mi, ml, mr, nx) Q = (vp_in i (kAl q) ∧ kJ 121 98 [l0, l1, l2] (.int (mi q i.toNatClampNeg) :: st) (mi, ml, mr, nx) Q) := kg_aldJ d121_97 rfl (kAr_of h)
theorem d121_98 : decode (mB 121) 98 = .ok (.iconst 1, 1) := by decide +kernel
theorem s121_98 {l0 l1 l2 : Option Value} {st : List Value} {m : kMem} {Q : Option Value → kMem → Prop} : kJ 121 98 [l0, l1, l2] st m Q = kJ 121 99 [l0, l1, l2] (.int (nI 1) :: st) m Q := kJ_next d121_98 rfl
theorem d121_99 : decode (mB 121) 99 = .ok (.iadd, 1) := by decide +kernel
theorem s121_99 {l0 l1 l2 : Option Value} {st : List Value} {a b : Int32} {m : kMem} {Q : Option Value → kMem → Prop} : kJ 121 99 [l0, l1, l2] (.int b :: .int a :: st) m Q = kJ 121 100 [l0, l1, l2] (.int (a + b) :: st) m Q := kJ_next d121_99 rfl
theorem d121_100 : decode (mB 121) 100 = .ok (.iastore, 1) := by decide +kernel
theorem s121_100 {l0 l1 l2 : Option Value} {st : List Value} {q : Nat} {i x : Int32} {mi : Nat → Nat → Int32} {ml : Nat → Nat → Int64} {mr : Nat → Nat → Option Nat} {nx : Nat} {Q : Option Value → kMem → Prop} (h : kIs nx q 10 = true) : kJ 121 100 [l0, l1, l2] (.int x :: .int i :: .ref q :: st) (mi, ml, mr, nx) Q = (vp_in i (kAl q) ∧ kJ 121 101 [l0, l1, l2] st (kup mi q i.toNatClampNeg x, ml, mr, nx) Q) := kg_astJ d121_100 rfl (kAr_of h)
theorem d121_101 : decode (mB 121) 101 = .ok (.return_, 1) := by decide +kernel
theorem s121_101 {l0 l1 l2 : Option Value} {m : kMem} {Q : Option Value → kMem → Prop} : kJ 121 101 [l0, l1, l2] [] m Q = Q none m := kJ_ret d121_101 rfl
theorem d122_0 : decode (mB 122) 0 = .ok (.iload_n 1, 1) := by decide +kernel
theorem s122_0 {l0 : Option Value} {st : List Value} {x : Int32} {m : kMem} {Q : Option Value → kMem → Prop} : kJ 122 0 [l0, some (.int x)] st m Q = kJ 122 1 [l0, some (.int x)] (.int x :: st) m Q := kJ_next d122_0 rfl
theorem d122_1 : decode (mB 122) 1 = .ok (.lookupswitch 50 #[(4, 27), (5, 34)], 27) := by decide +kernel
theorem s122_1 {l0 l1 : Option Value} {st : List Value} {a : Int32} {m : kMem} {Q : Option Value → kMem → Prop} : kJ 122 1 [l0, l1] (.int a :: st) m Q = (if a = (nI 4) then kJ 122 28 [l0, l1] st m Q else if a = (nI 5) then kJ 122 35 [l0, l1] st m Q else kJ 122 51 [l0, l1] st m Q) := by
  by_cases h4 : a = nI 4
  · subst h4; exact kJ_next d122_1 rfl
  rw [if_neg h4]
  by_cases h5 : a = nI 5
  · subst h5; exact kJ_next d122_1 rfl
  rw [if_neg h5]
  refine kJ_next d122_1 ?_
  have g4 : ¬ a.toInt = 4 := fun e => h4 (Int32.toInt_inj.mp (by rw [e]; decide))
  have g5 : ¬ a.toInt = 5 := fun e => h5 (Int32.toInt_inj.mp (by rw [e]; decide))
  simp [kst, Op.lookupswitch.offset, g4, g5, kJmp, kGo, eq_comm]
theorem d122_28 : decode (mB 122) 28 = .ok (.aload_n 0, 1) := by decide +kernel
theorem s122_28 {l1 : Option Value} {st : List Value} {x : Nat} {m : kMem} {Q : Option Value → kMem → Prop} : kJ 122 28 [some (.ref x), l1] st m Q = kJ 122 29 [some (.ref x), l1] (.ref x :: st) m Q := kJ_next d122_28 rfl
theorem d122_29 : decode (mB 122) 29 = .ok (.invokevirtual 116, 3) := by decide +kernel
theorem s122_29 {l0 l1 : Option Value} {v0 : Nat} {m : kMem} {Q : Option Value → kMem → Prop} (h : kIs m.2.2.2 v0 5 = true) : kJ 122 29 [l0, l1] [.ref v0] m Q = kJ 121 0 [some (.ref v0), none, none] [] m (fun v m2 => kJ 122 32 [l0, l1] (v.toList ++ []) m2 Q) := kJ_call d122_29 (kg_callv 121 0 rfl rfl rfl rfl (Nat.le_of_ble_eq_true rfl) (Nat.le_of_ble_eq_true rfl) (Nat.le_of_ble_eq_true rfl) h rfl)
theorem d122_32 : decode (mB 122) 32 = .ok (.goto 93, 3) := by decide +kernel
theorem s122_32 {l0 l1 : Option Value} {st : List Value} {m : kMem} {Q : Option Value → kMem → Prop} : kJ 122 32 [l0, l1] st m Q = kJ 122 125 [l0, l1] st m Q := kJ_next d122_32 rfl
theorem d122_35 : decode (mB 122) 35 = .ok (.aload_n 0, 1) := by decide +kernel
theorem s122_35 {l1 : Option Value} {st : List Value} {x : Nat} {m : kMem} {Q : Option Value → kMem → Prop} : kJ 122 35 [some (.ref x), l1] st m Q = kJ 122 36 [some (.ref x), l1] (.ref x :: st) m Q := kJ_next d122_35 rfl
theorem d122_36 : decode (mB 122) 36 = .ok (.getfield 20, 3) := by decide +kernel
theorem s122_36 {l0 l1 : Option Value} {st : List Value} {q : Nat} {mi : Nat → Nat → Int32} {ml : Nat → Nat → Int64} {mr : Nat → Nat → Option Nat} {nx : Nat} {Q : Option Value → kMem → Prop} (h : kIs nx q 5 = true) : kJ 122 36 [l0, l1] (.ref q :: st) (mi, ml, mr, nx) Q = kJ 122 39 [l0, l1] (va_rf (mr q 3) :: st) (mi, ml, mr, nx) Q := kJ_next d122_36 (kg_getr 5 3 rfl h (by decide))
theorem d122_39 : decode (mB 122) 39 = .ok (.bipush 53, 2) := by decide +kernel
theorem s122_39 {l0 l1 : Option Value} {st : List Value} {m : kMem} {Q : Option Value → kMem → Prop} : kJ 122 39 [l0, l1] st m Q = kJ 122 41 [l0, l1] (.int (nI 53) :: st) m Q := kJ_next d122_39 rfl
theorem d122_41 : decode (mB 122) 41 = .ok (.aload_n 0, 1) := by decide +kernel
theorem s122_41 {l1 : Option Value} {st : List Value} {x : Nat} {m : kMem} {Q : Option Value → kMem → Prop} : kJ 122 41 [some (.ref x), l1] st m Q = kJ 122 42 [some (.ref x), l1] (.ref x :: st) m Q := kJ_next d122_41 rfl
theorem d122_42 : decode (mB 122) 42 = .ok (.iconst 1, 1) := by decide +kernel
theorem s122_42 {l0 l1 : Option Value} {st : List Value} {m : kMem} {Q : Option Value → kMem → Prop} : kJ 122 42 [l0, l1] st m Q = kJ 122 43 [l0, l1] (.int (nI 1) :: st) m Q := kJ_next d122_42 rfl
theorem d122_43 : decode (mB 122) 43 = .ok (.iconst 4, 1) := by decide +kernel
theorem s122_43 {l0 l1 : Option Value} {st : List Value} {m : kMem} {Q : Option Value → kMem → Prop} : kJ 122 43 [l0, l1] st m Q = kJ 122 44 [l0, l1] (.int (nI 4) :: st) m Q := kJ_next d122_43 rfl
theorem d122_44 : decode (mB 122) 44 = .ok (.invokevirtual 112, 3) := by decide +kernel
theorem s122_44 {l0 l1 : Option Value} {v0 : Int32} {v1 : Int32} {v2 : Nat} {v3 : Int32} {v4 : Nat} {m : kMem} {Q : Option Value → kMem → Prop} (h : kIs m.2.2.2 v2 5 = true) : kJ 122 44 [l0, l1] [.int v0, .int v1, .ref v2, .int v3, .ref v4] m Q = kJ 120 0 [some (.ref v2), some (.int v1), some (.int v0), none] [] m (fun v m2 => kJ 122 47 [l0, l1] (v.toList ++ [.int v3, .ref v4]) m2 Q) := kJ_call d122_44 (kg_callv 120 2 rfl rfl rfl rfl (Nat.le_of_ble_eq_true rfl) (Nat.le_of_ble_eq_true rfl) (Nat.le_of_ble_eq_true rfl) h rfl)
theorem d122_47 : decode (mB 122) 47 = .ok (.iastore, 1) := by decide +kernel
theorem s122_47 {l0 l1 : Option Value} {st : List Value} {q : Nat} {i x : Int32} {mi : Nat → Nat → Int32} {ml : Nat → Nat → Int64} {mr : Nat → Nat → Option Nat} {nx : Nat} {Q : Option Value → kMem → Prop} (h : kIs nx q 10 = true) : kJ 122 47 [l0, l1] (.int x :: .int i :: .ref q :: st) (mi, ml, mr, nx) Q = (vp_in i (kAl q) ∧ kJ 122 48 [l0, l1] st (kup mi q i.toNatClampNeg x, ml, mr, nx) Q) := kg_astJ d122_47 rfl (kAr_of h)
theorem d122_48 : decode (mB 122) 48 = .ok (.goto 77, 3) := by decide +kernel
theorem s122_48 {l0 l1 : Option Value} {st : List Value} {m : kMem} {Q : Option Value → kMem → Prop} : kJ 122 48 [l0, l1] st m Q = kJ 122 125 [l0, l1] st m Q := kJ_next d122_48 rfl
theorem d122_51 : decode (mB 122) 51 = .ok (.aload_n 0, 1) := by decide +kernel
theorem s122_51 {l1 : Option Value} {st : List Value} {x : Nat} {m : kMem} {Q : Option Value → kMem → Prop} : kJ 122 51 [some (.ref x), l1] st m Q = kJ 122 52 [some (.ref x), l1] (.ref x :: st) m Q := kJ_next d122_51 rfl
theorem d122_52 : decode (mB 122) 52 = .ok (.getfield 20, 3) := by decide +kernel
theorem s122_52 {l0 l1 : Option Value} {st : List Value} {q : Nat} {mi : Nat → Nat → Int32} {ml : Nat → Nat → Int64} {mr : Nat → Nat → Option Nat} {nx : Nat} {Q : Option Value → kMem → Prop} (h : kIs nx q 5 = true) : kJ 122 52 [l0, l1] (.ref q :: st) (mi, ml, mr, nx) Q = kJ 122 55 [l0, l1] (va_rf (mr q 3) :: st) (mi, ml, mr, nx) Q := kJ_next d122_52 (kg_getr 5 3 rfl h (by decide))
theorem d122_55 : decode (mB 122) 55 = .ok (.iconst 3, 1) := by decide +kernel
theorem s122_55 {l0 l1 : Option Value} {st : List Value} {m : kMem} {Q : Option Value → kMem → Prop} : kJ 122 55 [l0, l1] st m Q = kJ 122 56 [l0, l1] (.int (nI 3) :: st) m Q := kJ_next d122_55 rfl
theorem d122_56 : decode (mB 122) 56 = .ok (.aload_n 0, 1) := by decide +kernel
theorem s122_56 {l1 : Option Value} {st : List Value} {x : Nat} {m : kMem} {Q : Option Value → kMem → Prop} : kJ 122 56 [some (.ref x), l1] st m Q = kJ 122 57 [some (.ref x), l1] (.ref x :: st) m Q := kJ_next d122_56 rfl
theorem d122_57 : decode (mB 122) 57 = .ok (.getfield 20, 3) := by decide +kernel
theorem s122_57 {l0 l1 : Option Value} {st : List Value} {q : Nat} {mi : Nat → Nat → Int32} {ml : Nat → Nat → Int64} {mr : Nat → Nat → Option Nat} {nx : Nat} {Q : Option Value → kMem → Prop} (h : kIs nx q 5 = true) : kJ 122 57 [l0, l1] (.ref q :: st) (mi, ml, mr, nx) Q = kJ 122 60 [l0, l1] (va_rf (mr q 3) :: st) (mi, ml, mr, nx) Q := kJ_next d122_57 (kg_getr 5 3 rfl h (by decide))
theorem d122_60 : decode (mB 122) 60 = .ok (.bipush 15, 2) := by decide +kernel
theorem s122_60 {l0 l1 : Option Value} {st : List Value} {m : kMem} {Q : Option Value → kMem → Prop} : kJ 122 60 [l0, l1] st m Q = kJ 122 62 [l0, l1] (.int (nI 15) :: st) m Q := kJ_next d122_60 rfl
theorem d122_62 : decode (mB 122) 62 = .ok (.iaload, 1) := by decide +kernel
theorem s122_62 {l0 l1 : Option Value} {st : List Value} {q : Nat} {i : Int32} {mi : Nat → Nat → Int32} {ml : Nat → Nat → Int64} {mr : Nat → Nat → Option Nat} {nx : Nat} {Q : Option Value → kMem → Prop} (h : kIs nx q 10 = true) : kJ 122 62 [l0, l1] (.int i :: .ref q :: st) (mi, ml, mr, nx) Q = (vp_in i (kAl q) ∧ kJ 122 63 [l0, l1] (.int (mi q i.toNatClampNeg) :: st) (mi, ml, mr, nx) Q) := kg_aldJ d122_62 rfl (kAr_of h)
theorem d122_63 : decode (mB 122) 63 = .ok (.imul, 1) := by decide +kernel
theorem s122_63 {l0 l1 : Option Value} {st : List Value} {a b : Int32} {m : kMem} {Q : Option Value → kMem → Prop} : kJ 122 63 [l0, l1] (.int b :: .int a :: st) m Q = kJ 122 64 [l0, l1] (.int (a * b) :: st) m Q := kJ_next d122_63 rfl
theorem d122_64 : decode (mB 122) 64 = .ok (.iconst 0, 1) := by decide +kernel
theorem s122_64 {l0 l1 : Option Value} {st : List Value} {m : kMem} {Q : Option Value → kMem → Prop} : kJ 122 64 [l0, l1] st m Q = kJ 122 65 [l0, l1] (.int (nI 0) :: st) m Q := kJ_next d122_64 rfl
theorem d122_65 : decode (mB 122) 65 = .ok (.iadd, 1) := by decide +kernel
theorem s122_65 {l0 l1 : Option Value} {st : List Value} {a b : Int32} {m : kMem} {Q : Option Value → kMem → Prop} : kJ 122 65 [l0, l1] (.int b :: .int a :: st) m Q = kJ 122 66 [l0, l1] (.int (a + b) :: st) m Q := kJ_next d122_65 rfl
theorem d122_66 : decode (mB 122) 66 = .ok (.iload_n 1, 1) := by decide +kernel
theorem s122_66 {l0 : Option Value} {st : List Value} {x : Int32} {m : kMem} {Q : Option Value → kMem → Prop} : kJ 122 66 [l0, some (.int x)] st m Q = kJ 122 67 [l0, some (.int x)] (.int x :: st) m Q := kJ_next d122_66 rfl
theorem d122_67 : decode (mB 122) 67 = .ok (.iastore, 1) := by decide +kernel
theorem s122_67 {l0 l1 : Option Value} {st : List Value} {q : Nat} {i x : Int32} {mi : Nat → Nat → Int32} {ml : Nat → Nat → Int64} {mr : Nat → Nat → Option Nat} {nx : Nat} {Q : Option Value → kMem → Prop} (h : kIs nx q 10 = true) : kJ 122 67 [l0, l1] (.int x :: .int i :: .ref q :: st) (mi, ml, mr, nx) Q = (vp_in i (kAl q) ∧ kJ 122 68 [l0, l1] st (kup mi q i.toNatClampNeg x, ml, mr, nx) Q) := kg_astJ d122_67 rfl (kAr_of h)
theorem d122_68 : decode (mB 122) 68 = .ok (.aload_n 0, 1) := by decide +kernel
theorem s122_68 {l1 : Option Value} {st : List Value} {x : Nat} {m : kMem} {Q : Option Value → kMem → Prop} : kJ 122 68 [some (.ref x), l1] st m Q = kJ 122 69 [some (.ref x), l1] (.ref x :: st) m Q := kJ_next d122_68 rfl
theorem d122_69 : decode (mB 122) 69 = .ok (.getfield 20, 3) := by decide +kernel
theorem s122_69 {l0 l1 : Option Value} {st : List Value} {q : Nat} {mi : Nat → Nat → Int32} {ml : Nat → Nat → Int64} {mr : Nat → Nat → Option Nat} {nx : Nat} {Q : Option Value → kMem → Prop} (h : kIs nx q 5 = true) : kJ 122 69 [l0, l1] (.ref q :: st) (mi, ml, mr, nx) Q = kJ 122 72 [l0, l1] (va_rf (mr q 3) :: st) (mi, ml, mr, nx) Q := kJ_next d122_69 (kg_getr 5 3 rfl h (by decide))
theorem d122_72 : decode (mB 122) 72 = .ok (.iconst 3, 1) := by decide +kernel
theorem s122_72 {l0 l1 : Option Value} {st : List Value} {m : kMem} {Q : Option Value → kMem → Prop} : kJ 122 72 [l0, l1] st m Q = kJ 122 73 [l0, l1] (.int (nI 3) :: st) m Q := kJ_next d122_72 rfl
theorem d122_73 : decode (mB 122) 73 = .ok (.aload_n 0, 1) := by decide +kernel
theorem s122_73 {l1 : Option Value} {st : List Value} {x : Nat} {m : kMem} {Q : Option Value → kMem → Prop} : kJ 122 73 [some (.ref x), l1] st m Q = kJ 122 74 [some (.ref x), l1] (.ref x :: st) m Q := kJ_next d122_73 rfl
theorem d122_74 : decode (mB 122) 74 = .ok (.getfield 20, 3) := by decide +kernel
theorem s122_74 {l0 l1 : Option Value} {st : List Value} {q : Nat} {mi : Nat → Nat → Int32} {ml : Nat → Nat → Int64} {mr : Nat → Nat → Option Nat} {nx : Nat} {Q : Option Value → kMem → Prop} (h : kIs nx q 5 = true) : kJ 122 74 [l0, l1] (.ref q :: st) (mi, ml, mr, nx) Q = kJ 122 77 [l0, l1] (va_rf (mr q 3) :: st) (mi, ml, mr, nx) Q := kJ_next d122_74 (kg_getr 5 3 rfl h (by decide))
theorem d122_77 : decode (mB 122) 77 = .ok (.bipush 15, 2) := by decide +kernel
theorem s122_77 {l0 l1 : Option Value} {st : List Value} {m : kMem} {Q : Option Value → kMem → Prop} : kJ 122 77 [l0, l1] st m Q = kJ 122 79 [l0, l1] (.int (nI 15) :: st) m Q := kJ_next d122_77 rfl
theorem d122_79 : decode (mB 122) 79 = .ok (.iaload, 1) := by decide +kernel
theorem s122_79 {l0 l1 : Option Value} {st : List Value} {q : Nat} {i : Int32} {mi : Nat → Nat → Int32} {ml : Nat → Nat → Int64} {mr : Nat → Nat → Option Nat} {nx : Nat} {Q : Option Value → kMem → Prop} (h : kIs nx q 10 = true) : kJ 122 79 [l0, l1] (.int i :: .ref q :: st) (mi, ml, mr, nx) Q = (vp_in i (kAl q) ∧ kJ 122 80 [l0, l1] (.int (mi q i.toNatClampNeg) :: st) (mi, ml, mr, nx) Q) := kg_aldJ d122_79 rfl (kAr_of h)
theorem d122_80 : decode (mB 122) 80 = .ok (.imul, 1) := by decide +kernel
theorem s122_80 {l0 l1 : Option Value} {st : List Value} {a b : Int32} {m : kMem} {Q : Option Value → kMem → Prop} : kJ 122 80 [l0, l1] (.int b :: .int a :: st) m Q = kJ 122 81 [l0, l1] (.int (a * b) :: st) m Q := kJ_next d122_80 rfl
theorem d122_81 : decode (mB 122) 81 = .ok (.iconst 1, 1) := by decide +kernel
theorem s122_81 {l0 l1 : Option Value} {st : List Value} {m : kMem} {Q : Option Value → kMem → Prop} : kJ 122 81 [l0, l1] st m Q = kJ 122 82 [l0, l1] (.int (nI 1) :: st) m Q := kJ_next d122_81 rfl
theorem d122_82 : decode (mB 122) 82 = .ok (.iadd, 1) := by decide +kernel
theorem s122_82 {l0 l1 : Option Value} {st : List Value} {a b : Int32} {m : kMem} {Q : Option Value → kMem → Prop} : kJ 122 82 [l0, l1] (.int b :: .int a :: st) m Q = kJ 122 83 [l0, l1] (.int (a + b) :: st) m Q := kJ_next d122_82 rfl
theorem d122_83 : decode (mB 122) 83 = .ok (.aload_n 0, 1) := by decide +kernel
theorem s122_83 {l1 : Option Value} {st : List Value} {x : Nat} {m : kMem} {Q : Option Value → kMem → Prop} : kJ 122 83 [some (.ref x), l1] st m Q = kJ 122 84 [some (.ref x), l1] (.ref x :: st) m Q := kJ_next d122_83 rfl
theorem d122_84 : decode (mB 122) 84 = .ok (.iconst 0, 1) := by decide +kernel
theorem s122_84 {l0 l1 : Option Value} {st : List Value} {m : kMem} {Q : Option Value → kMem → Prop} : kJ 122 84 [l0, l1] st m Q = kJ 122 85 [l0, l1] (.int (nI 0) :: st) m Q := kJ_next d122_84 rfl
theorem d122_85 : decode (mB 122) 85 = .ok (.bipush 9, 2) := by decide +kernel
theorem s122_85 {l0 l1 : Option Value} {st : List Value} {m : kMem} {Q : Option Value → kMem → Prop} : kJ 122 85 [l0, l1] st m Q = kJ 122 87 [l0, l1] (.int (nI 9) :: st) m Q := kJ_next d122_85 rfl
theorem d122_87 : decode (mB 122) 87 = .ok (.invokevirtual 112, 3) := by decide +kernel
theorem s122_87 {l0 l1 : Option Value} {v0 : Int32} {v1 : Int32} {v2 : Nat} {v3 : Int32} {v4 : Nat} {m : kMem} {Q : Option Value → kMem → Prop} (h : kIs m.2.2.2 v2 5 = true) : kJ 122 87 [l0, l1] [.int v0, .int v1, .ref v2, .int v3, .ref v4] m Q = kJ 120 0 [some (.ref v2), some (.int v1), some (.int v0), none] [] m (fun v m2 => kJ 122 90 [l0, l1] (v.toList ++ [.int v3, .ref v4]) m2 Q) := kJ_call d122_87 (kg_callv 120 2 rfl rfl rfl rfl (Nat.le_of_ble_eq_true rfl) (Nat.le_of_ble_eq_true rfl) (Nat.le_of_ble_eq_true rfl) h rfl)
theorem d122_90 : decode (mB 122) 90 = .ok (.iastore, 1) := by decide +kernel
theorem s122_90 {l0 l1 : Option Value} {st : List Value} {q : Nat} {i x : Int32} {mi : Nat → Nat → Int32} {ml : Nat → Nat → Int64} {mr : Nat → Nat → Option Nat} {nx : Nat} {Q : Option Value → kMem → Prop} (h : kIs nx q 10 = true) : kJ 122 90 [l0, l1] (.int x :: .int i :: .ref q :: st) (mi, ml, mr, nx) Q = (vp_in i (kAl q) ∧ kJ 122 91 [l0, l1] st (kup mi q i.toNatClampNeg x, ml, mr, nx) Q) := kg_astJ d122_90 rfl (kAr_of h)
theorem d122_91 : decode (mB 122) 91 = .ok (.aload_n 0, 1) := by decide +kernel
theorem s122_91 {l1 : Option Value} {st : List Value} {x : Nat} {m : kMem} {Q : Option Value → kMem → Prop} : kJ 122 91 [some (.ref x), l1] st m Q = kJ 122 92 [some (.ref x), l1] (.ref x :: st) m Q := kJ_next d122_91 rfl
theorem d122_92 : decode (mB 122) 92 = .ok (.getfield 20, 3) := by decide +kernel
theorem s122_92 {l0 l1 : Option Value} {st : List Value} {q : Nat} {mi : Nat → Nat → Int32} {ml : Nat → Nat → Int64} {mr : Nat → Nat → Option Nat} {nx : Nat} {Q : Option Value → kMem → Prop} (h : kIs nx q 5 = true) : kJ 122 92 [l0, l1] (.ref q :: st) (mi, ml, mr, nx) Q = kJ 122 95 [l0, l1] (va_rf (mr q 3) :: st) (mi, ml, mr, nx) Q := kJ_next d122_92 (kg_getr 5 3 rfl h (by decide))
theorem d122_95 : decode (mB 122) 95 = .ok (.iconst 3, 1) := by decide +kernel
theorem s122_95 {l0 l1 : Option Value} {st : List Value} {m : kMem} {Q : Option Value → kMem → Prop} : kJ 122 95 [l0, l1] st m Q = kJ 122 96 [l0, l1] (.int (nI 3) :: st) m Q := kJ_next d122_95 rfl
theorem d122_96 : decode (mB 122) 96 = .ok (.aload_n 0, 1) := by decide +kernel
theorem s122_96 {l1 : Option Value} {st : List Value} {x : Nat} {m : kMem} {Q : Option Value → kMem → Prop} : kJ 122 96 [some (.ref x), l1] st m Q = kJ 122 97 [some (.ref x), l1] (.ref x :: st) m Q := kJ_next d122_96 rfl
theorem d122_97 : decode (mB 122) 97 = .ok (.getfield 20, 3) := by decide +kernel
theorem s122_97 {l0 l1 : Option Value} {st : List Value} {q : Nat} {mi : Nat → Nat → Int32} {ml : Nat → Nat → Int64} {mr : Nat → Nat → Option Nat} {nx : Nat} {Q : Option Value → kMem → Prop} (h : kIs nx q 5 = true) : kJ 122 97 [l0, l1] (.ref q :: st) (mi, ml, mr, nx) Q = kJ 122 100 [l0, l1] (va_rf (mr q 3) :: st) (mi, ml, mr, nx) Q := kJ_next d122_97 (kg_getr 5 3 rfl h (by decide))
theorem d122_100 : decode (mB 122) 100 = .ok (.bipush 15, 2) := by decide +kernel
theorem s122_100 {l0 l1 : Option Value} {st : List Value} {m : kMem} {Q : Option Value → kMem → Prop} : kJ 122 100 [l0, l1] st m Q = kJ 122 102 [l0, l1] (.int (nI 15) :: st) m Q := kJ_next d122_100 rfl
theorem d122_102 : decode (mB 122) 102 = .ok (.iaload, 1) := by decide +kernel
theorem s122_102 {l0 l1 : Option Value} {st : List Value} {q : Nat} {i : Int32} {mi : Nat → Nat → Int32} {ml : Nat → Nat → Int64} {mr : Nat → Nat → Option Nat} {nx : Nat} {Q : Option Value → kMem → Prop} (h : kIs nx q 10 = true) : kJ 122 102 [l0, l1] (.int i :: .ref q :: st) (mi, ml, mr, nx) Q = (vp_in i (kAl q) ∧ kJ 122 103 [l0, l1] (.int (mi q i.toNatClampNeg) :: st) (mi, ml, mr, nx) Q) := kg_aldJ d122_102 rfl (kAr_of h)
theorem d122_103 : decode (mB 122) 103 = .ok (.imul, 1) := by decide +kernel
theorem s122_103 {l0 l1 : Option Value} {st : List Value} {a b : Int32} {m : kMem} {Q : Option Value → kMem → Prop} : kJ 122 103 [l0, l1] (.int b :: .int a :: st) m Q = kJ 122 104 [l0, l1] (.int (a * b) :: st) m Q := kJ_next d122_103 rfl
theorem d122_104 : decode (mB 122) 104 = .ok (.iconst 2, 1) := by decide +kernel
theorem s122_104 {l0 l1 : Option Value} {st : List Value} {m : kMem} {Q : Option Value → kMem → Prop} : kJ 122 104 [l0, l1] st m Q = kJ 122 105 [l0, l1] (.int (nI 2) :: st) m Q := kJ_next d122_104 rfl
theorem d122_105 : decode (mB 122) 105 = .ok (.iadd, 1) := by decide +kernel
theorem s122_105 {l0 l1 : Option Value} {st : List Value} {a b : Int32} {m : kMem} {Q : Option Value → kMem → Prop} : kJ 122 105 [l0, l1] (.int b :: .int a :: st) m Q = kJ 122 106 [l0, l1] (.int (a + b) :: st) m Q := kJ_next d122_105 rfl
theorem d122_106 : decode (mB 122) 106 = .ok (.aload_n 0, 1) := by decide +kernel
theorem s122_106 {l1 : Option Value} {st : List Value} {x : Nat} {m : kMem} {Q : Option Value → kMem → Prop} : kJ 122 106 [some (.ref x), l1] st m Q = kJ 122 107 [some (.ref x), l1] (.ref x :: st) m Q := kJ_next d122_106 rfl
theorem d122_107 : decode (mB 122) 107 = .ok (.iconst 0, 1) := by decide +kernel
theorem s122_107 {l0 l1 : Option Value} {st : List Value} {m : kMem} {Q : Option Value → kMem → Prop} : kJ 122 107 [l0, l1] st m Q = kJ 122 108 [l0, l1] (.int (nI 0) :: st) m Q := kJ_next d122_107 rfl
theorem d122_108 : decode (mB 122) 108 = .ok (.bipush 20, 2) := by decide +kernel
theorem s122_108 {l0 l1 : Option Value} {st : List Value} {m : kMem} {Q : Option Value → kMem → Prop} : kJ 122 108 [l0, l1] st m Q = kJ 122 110 [l0, l1] (.int (nI 20) :: st) m Q := kJ_next d122_108 rfl
theorem d122_110 : decode (mB 122) 110 = .ok (.invokevirtual 112, 3) := by decide +kernel
theorem s122_110 {l0 l1 : Option Value} {v0 : Int32} {v1 : Int32} {v2 : Nat} {v3 : Int32} {v4 : Nat} {m : kMem} {Q : Option Value → kMem → Prop} (h : kIs m.2.2.2 v2 5 = true) : kJ 122 110 [l0, l1] [.int v0, .int v1, .ref v2, .int v3, .ref v4] m Q = kJ 120 0 [some (.ref v2), some (.int v1), some (.int v0), none] [] m (fun v m2 => kJ 122 113 [l0, l1] (v.toList ++ [.int v3, .ref v4]) m2 Q) := kJ_call d122_110 (kg_callv 120 2 rfl rfl rfl rfl (Nat.le_of_ble_eq_true rfl) (Nat.le_of_ble_eq_true rfl) (Nat.le_of_ble_eq_true rfl) h rfl)
theorem d122_113 : decode (mB 122) 113 = .ok (.iastore, 1) := by decide +kernel
theorem s122_113 {l0 l1 : Option Value} {st : List Value} {q : Nat} {i x : Int32} {mi : Nat → Nat → Int32} {ml : Nat → Nat → Int64} {mr : Nat → Nat → Option Nat} {nx : Nat} {Q : Option Value → kMem → Prop} (h : kIs nx q 10 = true) : kJ 122 113 [l0, l1] (.int x :: .int i :: .ref q :: st) (mi, ml, mr, nx) Q = (vp_in i (kAl q) ∧ kJ 122 114 [l0, l1] st (kup mi q i.toNatClampNeg x, ml, mr, nx) Q) := kg_astJ d122_113 rfl (kAr_of h)
theorem d122_114 : decode (mB 122) 114 = .ok (.aload_n 0, 1) := by decide +kernel
theorem s122_114 {l1 : Option Value} {st : List Value} {x : Nat} {m : kMem} {Q : Option Value → kMem → Prop} : kJ 122 114 [some (.ref x), l1] st m Q = kJ 122 115 [some (.ref x), l1] (.ref x :: st) m Q := kJ_next d122_114 rfl
theorem d122_115 : decode (mB 122) 115 = .ok (.getfield 20, 3) := by decide +kernel
theorem s122_115 {l0 l1 : Option Value} {st : List Value} {q : Nat} {mi : Nat → Nat → Int32} {ml : Nat → Nat → Int64} {mr : Nat → Nat → Option Nat} {nx : Nat} {Q : Option Value → kMem → Prop} (h : kIs nx q 5 = true) : kJ 122 115 [l0, l1] (.ref q :: st) (mi, ml, mr, nx) Q = kJ 122 118 [l0, l1] (va_rf (mr q 3) :: st) (mi, ml, mr, nx) Q := kJ_next d122_115 (kg_getr 5 3 rfl h (by decide))
theorem d122_118 : decode (mB 122) 118 = .ok (.bipush 15, 2) := by decide +kernel
theorem s122_118 {l0 l1 : Option Value} {st : List Value} {m : kMem} {Q : Option Value → kMem → Prop} : kJ 122 118 [l0, l1] st m Q = kJ 122 120 [l0, l1] (.int (nI 15) :: st) m Q := kJ_next d122_118 rfl
theorem d122_120 : decode (mB 122) 120 = .ok (.dup2, 1) := by decide +kernel
theorem s122_120 {l0 l1 : Option Value} {st : List Value} {a : Int32} {b : Nat} {m : kMem} {Q : Option Value → kMem → Prop} : kJ 122 120 [l0, l1] (.int a :: .ref b :: st) m Q = kJ 122 121 [l0, l1] (.int a :: .ref b :: .int a :: .ref b :: st) m Q := kJ_next d122_120 rfl
theorem d122_121 : decode (mB 122) 121 = .ok (.iaload, 1) := by decide +kernel
theorem s122_121 {l0 l1 : Option Value} {st : List Value} {q : Nat} {i : Int32} {mi : Nat → Nat → Int32} {ml : Nat → Nat → Int64} {mr : Nat → Nat → Option Nat} {nx : Nat} {Q : Option Value → kMem → Prop} (h : kIs nx q 10 = true) : kJ 122 121 [l0, l1] (.int i :: .ref q :: st) (mi, ml, mr, nx) Q = (vp_in i (kAl q) ∧ kJ 122 122 [l0, l1] (.int (mi q i.toNatClampNeg) :: st) (mi, ml, mr, nx) Q) := kg_aldJ d122_121 rfl (kAr_of h)
theorem d122_122 : decode (mB 122) 122 = .ok (.iconst 1, 1) := by decide +kernel
theorem s122_122 {l0 l1 : Option Value} {st : List Value} {m : kMem} {Q : Option Value → kMem → Prop} : kJ 122 122 [l0, l1] st m Q = kJ 122 123 [l0, l1] (.int (nI 1) :: st) m Q := kJ_next d122_122 rfl
theorem d122_123 : decode (mB 122) 123 = .ok (.iadd, 1) := by decide +kernel
theorem s122_123 {l0 l1 : Option Value} {st : List Value} {a b : Int32} {m : kMem} {Q : Option Value → kMem → Prop} : kJ 122 123 [l0, l1] (.int b :: .int a :: st) m Q = kJ 122 124 [l0, l1] (.int (a + b) :: st) m Q := kJ_next d122_123 rfl
theorem d122_124 : decode (mB 122) 124 = .ok (.iastore, 1) := by decide +kernel
theorem s122_124 {l0 l1 : Option Value} {st : List Value} {q : Nat} {i x : Int32} {mi : Nat → Nat → Int32} {ml : Nat → Nat → Int64} {mr : Nat → Nat → Option Nat} {nx : Nat} {Q : Option Value → kMem → Prop} (h : kIs nx q 10 = true) : kJ 122 124 [l0, l1] (.int x :: .int i :: .ref q :: st) (mi, ml, mr, nx) Q = (vp_in i (kAl q) ∧ kJ 122 125 [l0, l1] st (kup mi q i.toNatClampNeg x, ml, mr, nx) Q) := kg_astJ d122_124 rfl (kAr_of h)
theorem d122_125 : decode (mB 122) 125 = .ok (.return_, 1) := by decide +kernel
theorem s122_125 {l0 l1 : Option Value} {m : kMem} {Q : Option Value → kMem → Prop} : kJ 122 125 [l0, l1] [] m Q = Q none m := kJ_ret d122_125 rfl
theorem d123_0 : decode (mB 123) 0 = .ok (.aload_n 0, 1) := by decide +kernel
theorem s123_0 {l1 : Option Value} {st : List Value} {x : Nat} {m : kMem} {Q : Option Value → kMem → Prop} : kJ 123 0 [some (.ref x), l1] st m Q = kJ 123 1 [some (.ref x), l1] (.ref x :: st) m Q := kJ_next d123_0 rfl
theorem d123_1 : decode (mB 123) 1 = .ok (.getfield 91, 3) := by decide +kernel
theorem s123_1 {l0 l1 : Option Value} {st : List Value} {q : Nat} {mi : Nat → Nat → Int32} {ml : Nat → Nat → Int64} {mr : Nat → Nat → Option Nat} {nx : Nat} {Q : Option Value → kMem → Prop} (h : kIs nx q 5 = true) : kJ 123 1 [l0, l1] (.ref q :: st) (mi, ml, mr, nx) Q = kJ 123 4 [l0, l1] (.int (mi q 10) :: st) (mi, ml, mr, nx) Q := kJ_next d123_1 (kg_geti 5 10 rfl h (by decide))
theorem d123_4 : decode (mB 123) 4 = .ok (.iconst 1, 1) := by decide +kernel
theorem s123_4 {l0 l1 : Option Value} {st : List Value} {m : kMem} {Q : Option Value → kMem → Prop} : kJ 123 4 [l0, l1] st m Q = kJ 123 5 [l0, l1] (.int (nI 1) :: st) m Q := kJ_next d123_4 rfl
theorem d123_5 : decode (mB 123) 5 = .ok (.if_icmp .ne 10, 3) := by decide +kernel
theorem s123_5 {l0 l1 : Option Value} {st : List Value} {a b : Int32} {m : kMem} {Q : Option Value → kMem → Prop} : kJ 123 5 [l0, l1] (.int b :: .int a :: st) m Q = (if a = b then kJ 123 8 [l0, l1] st m Q else kJ 123 15 [l0, l1] st m Q) := kJ_if d123_5 rfl (fun h => kJ_next d123_5 h) (fun h => kJ_next d123_5 h)
theorem d123_8 : decode (mB 123) 8 = .ok (.aload_n 0, 1) := by decide +kernel
theorem s123_8 {l1 : Option Value} {st : List Value} {x : Nat} {m : kMem} {Q : Option Value → kMem → Prop} : kJ 123 8 [some (.ref x), l1] st m Q = kJ 123 9 [some (.ref x), l1] (.ref x :: st) m Q := kJ_next d123_8 rfl
theorem d123_9 : decode (mB 123) 9 = .ok (.invokevirtual 119, 3) := by decide +kernel
theorem s123_9 {l0 l1 : Option Value} {v0 : Nat} {m : kMem} {Q : Option Value → kMem → Prop} (h : kIs m.2.2.2 v0 5 = true) : kJ 123 9 [l0, l1] [.ref v0] m Q = kJ 118 0 [some (.ref v0)] [] m (fun v m2 => kJ 123 12 [l0, l1] (v.toList ++ []) m2 Q) := kJ_call d123_9 (kg_callv 118 0 rfl rfl rfl rfl (Nat.le_of_ble_eq_true rfl) (Nat.le_of_ble_eq_true rfl) (Nat.le_of_ble_eq_true rfl) h rfl)
theorem d123_12 : decode (mB 123) 12 = .ok (.goto 5, 3) := by decide +kernel
theorem s123_12 {l0 l1 : Option Value} {st : List Value} {m : kMem} {Q : Option Value → kMem → Prop} : kJ 123 12 [l0, l1] st m Q = kJ 123 17 [l0, l1] st m Q := kJ_next d123_12 rfl
theorem d123_15 : decode (mB 123) 15 = .ok (.bipush (-4), 2) := by decide +kernel
theorem s123_15 {l0 l1 : Option Value} {st : List Value} {m : kMem} {Q : Option Value → kMem → Prop} : kJ 123 15 [l0, l1] st m Q = kJ 123 17 [l0, l1] (.int (-4) :: st) m Q := kJ_next d123_15 rfl
theorem d123_17 : decode (mB 123) 17 = .ok (.istore_n 1, 1) := by decide +kernel
theorem s123_17 {l0 l1 : Option Value} {st : List Value} {x : Int32} {m : kMem} {Q : Option Value → kMem → Prop} (hp : kNL l0 = true) : kJ 123 17 [l0, l1] (.int x :: st) m Q = kJ 123 18 [l0, some (.int x)] st m Q := kJ_next d123_17 (kg_sti (Nat.le_of_ble_eq_true rfl) hp)
theorem d123_18 : decode (mB 123) 18 = .ok (.aload_n 0, 1) := by decide +kernel
theorem s123_18 {l1 : Option Value} {st : List Value} {x : Nat} {m : kMem} {Q : Option Value → kMem → Prop} : kJ 123 18 [some (.ref x), l1] st m Q = kJ 123 19 [some (.ref x), l1] (.ref x :: st) m Q := kJ_next d123_18 rfl
theorem d123_19 : decode (mB 123) 19 = .ok (.iload_n 1, 1) := by decide +kernel
theorem s123_19 {l0 : Option Value} {st : List Value} {x : Int32} {m : kMem} {Q : Option Value → kMem → Prop} : kJ 123 19 [l0, some (.int x)] st m Q = kJ 123 20 [l0, some (.int x)] (.int x :: st) m Q := kJ_next d123_19 rfl
theorem d123_20 : decode (mB 123) 20 = .ok (.bipush (-4), 2) := by decide +kernel
theorem s123_20 {l0 l1 : Option Value} {st : List Value} {m : kMem} {Q : Option Value → kMem → Prop} : kJ 123 20 [l0, l1] st m Q = kJ 123 22 [l0, l1] (.int (-4) :: st) m Q := kJ_next d123_20 rfl
theorem d123_22 : decode (mB 123) 22 = .ok (.if_icmp .eq 7, 3) := by decide +kernel
theorem s123_22 {l0 l1 : Option Value} {st : List Value} {a b : Int32} {m : kMem} {Q : Option Value → kMem → Prop} : kJ 123 22 [l0, l1] (.int b :: .int a :: st) m Q = (if a = b then kJ 123 29 [l0, l1] st m Q else kJ 123 25 [l0, l1] st m Q) := kJ_if d123_22 rfl (fun h => kJ_next d123_22 h) (fun h => kJ_next d123_22 h)
theorem d123_25 : decode (mB 123) 25 = .ok (.iconst 1, 1) := by decide +kernel
theorem s123_25 {l0 l1 : Option Value} {st : List Value} {m : kMem} {Q : Option Value → kMem → Prop} : kJ 123 25 [l0, l1] st m Q = kJ 123 26 [l0, l1] (.int (nI 1) :: st) m Q := kJ_next d123_25 rfl
theorem d123_26 : decode (mB 123) 26 = .ok (.goto 4, 3) := by decide +kernel
theorem s123_26 {l0 l1 : Option Value} {st : List Value} {m : kMem} {Q : Option Value → kMem → Prop} : kJ 123 26 [l0, l1] st m Q = kJ 123 30 [l0, l1] st m Q := kJ_next d123_26 rfl
theorem d123_29 : decode (mB 123) 29 = .ok (.iconst 0, 1) := by decide +kernel
theorem s123_29 {l0 l1 : Option Value} {st : List Value} {m : kMem} {Q : Option Value → kMem → Prop} : kJ 123 29 [l0, l1] st m Q = kJ 123 30 [l0, l1] (.int (nI 0) :: st) m Q := kJ_next d123_29 rfl
theorem d123_30 : decode (mB 123) 30 = .ok (.iconst 2, 1) := by decide +kernel
theorem s123_30 {l0 l1 : Option Value} {st : List Value} {m : kMem} {Q : Option Value → kMem → Prop} : kJ 123 30 [l0, l1] st m Q = kJ 123 31 [l0, l1] (.int (nI 2) :: st) m Q := kJ_next d123_30 rfl
theorem d123_31 : decode (mB 123) 31 = .ok (.invokevirtual 105, 3) := by decide +kernel
theorem s123_31 {l0 l1 : Option Value} {v0 : Int32} {v1 : Int32} {v2 : Nat} {m : kMem} {Q : Option Value → kMem → Prop} (h : kIs m.2.2.2 v2 5 = true) : kJ 123 31 [l0, l1] [.int v0, .int v1, .ref v2] m Q = kJ 114 0 [some (.ref v2), some (.int v1), some (.int v0)] [] m (fun v m2 => kJ 123 34 [l0, l1] (v.toList ++ []) m2 Q) := kJ_call d123_31 (kg_callv 114 2 rfl rfl rfl rfl (Nat.le_of_ble_eq_true rfl) (Nat.le_of_ble_eq_true rfl) (Nat.le_of_ble_eq_true rfl) h rfl)
theorem d123_34 : decode (mB 123) 34 = .ok (.aload_n 0, 1) := by decide +kernel
theorem s123_34 {l1 : Option Value} {st : List Value} {x : Nat} {m : kMem} {Q : Option Value → kMem → Prop} : kJ 123 34 [some (.ref x), l1] st m Q = kJ 123 35 [some (.ref x), l1] (.ref x :: st) m Q := kJ_next d123_34 rfl
theorem d123_35 : decode (mB 123) 35 = .ok (.iload_n 1, 1) := by decide +kernel
theorem s123_35 {l0 : Option Value} {st : List Value} {x : Int32} {m : kMem} {Q : Option Value → kMem → Prop} : kJ 123 35 [l0, some (.int x)] st m Q = kJ 123 36 [l0, some (.int x)] (.int x :: st) m Q := kJ_next d123_35 rfl
theorem d123_36 : decode (mB 123) 36 = .ok (.iconst 4, 1) := by decide +kernel
theorem s123_36 {l0 l1 : Option Value} {st : List Value} {m : kMem} {Q : Option Value → kMem → Prop} : kJ 123 36 [l0, l1] st m Q = kJ 123 37 [l0, l1] (.int (nI 4) :: st) m Q := kJ_next d123_36 rfl
theorem d123_37 : decode (mB 123) 37 = .ok (.if_icmp .ge 14, 3) := by decide +kernel
theorem s123_37 {l0 l1 : Option Value} {st : List Value} {a b : Int32} {m : kMem} {Q : Option Value → kMem → Prop} : kJ 123 37 [l0, l1] (.int b :: .int a :: st) m Q = (if b ≤ a then kJ 123 51 [l0, l1] st m Q else kJ 123 40 [l0, l1] st m Q) := kJ_if d123_37 rfl (fun h => kJ_next d123_37 h) (fun h => kJ_next d123_37 h)
theorem d123_40 : decode (mB 123) 40 = .ok (.aload_n 0, 1) := by decide +kernel
theorem s123_40 {l1 : Option Value} {st : List Value} {x : Nat} {m : kMem} {Q : Option Value → kMem → Prop} : kJ 123 40 [some (.ref x), l1] st m Q = kJ 123 41 [some (.ref x), l1] (.ref x :: st) m Q := kJ_next d123_40 rfl
theorem d123_41 : decode (mB 123) 41 = .ok (.getfield 20, 3) := by decide +kernel
theorem s123_41 {l0 l1 : Option Value} {st : List Value} {q : Nat} {mi : Nat → Nat → Int32} {ml : Nat → Nat → Int64} {mr : Nat → Nat → Option Nat} {nx : Nat} {Q : Option Value → kMem → Prop} (h : kIs nx q 5 = true) : kJ 123 41 [l0, l1] (.ref q :: st) (mi, ml, mr, nx) Q = kJ 123 44 [l0, l1] (va_rf (mr q 3) :: st) (mi, ml, mr, nx) Q := kJ_next d123_41 (kg_getr 5 3 rfl h (by decide))
theorem d123_44 : decode (mB 123) 44 = .ok (.bipush 15, 2) := by decide +kernel
theorem s123_44 {l0 l1 : Option Value} {st : List Value} {m : kMem} {Q : Option Value → kMem → Prop} : kJ 123 44 [l0, l1] st m Q = kJ 123 46 [l0, l1] (.int (nI 15) :: st) m Q := kJ_next d123_44 rfl
theorem d123_46 : decode (mB 123) 46 = .ok (.iaload, 1) := by decide +kernel
theorem s123_46 {l0 l1 : Option Value} {st : List Value} {q : Nat} {i : Int32} {mi : Nat → Nat → Int32} {ml : Nat → Nat → Int64} {mr : Nat → Nat → Option Nat} {nx : Nat} {Q : Option Value → kMem → Prop} (h : kIs nx q 10 = true) : kJ 123 46 [l0, l1] (.int i :: .ref q :: st) (mi, ml, mr, nx) Q = (vp_in i (kAl q) ∧ kJ 123 47 [l0, l1] (.int (mi q i.toNatClampNeg) :: st) (mi, ml, mr, nx) Q) := kg_aldJ d123_46 rfl (kAr_of h)
theorem d123_47 : decode (mB 123) 47 = .ok (.iconst 5, 1) := by decide +kernel
theorem s123_47 {l0 l1 : Option Value} {st : List Value} {m : kMem} {Q : Option Value → kMem → Prop} : kJ 123 47 [l0, l1] st m Q = kJ 123 48 [l0, l1] (.int (nI 5) :: st) m Q := kJ_next d123_47 rfl
theorem d123_48 : decode (mB 123) 48 = .ok (.if_icmp .ge 7, 3) := by decide +kernel
theorem s123_48 {l0 l1 : Option Value} {st : List Value} {a b : Int32} {m : kMem} {Q : Option Value → kMem → Prop} : kJ 123 48 [l0, l1] (.int b :: .int a :: st) m Q = (if b ≤ a then kJ 123 55 [l0, l1] st m Q else kJ 123 51 [l0, l1] st m Q) := kJ_if d123_48 rfl (fun h => kJ_next d123_48 h) (fun h => kJ_next d123_48 h)
theorem d123_51 : decode (mB 123) 51 = .ok (.iconst 1, 1) := by decide +kernel
theorem s123_51 {l0 l1 : Option Value} {st : List Value} {m : kMem} {Q : Option Value → kMem → Prop} : kJ 123 51 [l0, l1] st m Q = kJ 123 52 [l0, l1] (.int (nI 1) :: st) m Q := kJ_next d123_51 rfl
theorem d123_52 : decode (mB 123) 52 = .ok (.goto 4, 3) := by decide +kernel
theorem s123_52 {l0 l1 : Option Value} {st : List Value} {m : kMem} {Q : Option Value → kMem → Prop} : kJ 123 52 [l0, l1] st m Q = kJ 123 56 [l0, l1] st m Q := kJ_next d123_52 rfl
theorem d123_55 : decode (mB 123) 55 = .ok (.iconst 0, 1) := by decide +kernel
theorem s123_55 {l0 l1 : Option Value} {st : List Value} {m : kMem} {Q : Option Value → kMem → Prop} : kJ 123 55 [l0, l1] st m Q = kJ 123 56 [l0, l1] (.int (nI 0) :: st) m Q := kJ_next d123_55 rfl
theorem d123_56 : decode (mB 123) 56 = .ok (.iconst 5, 1) := by decide +kernel
theorem s123_56 {l0 l1 : Option Value} {st : List Value} {m : kMem} {Q : Option Value → kMem → Prop} : kJ 123 56 [l0, l1] st m Q = kJ 123 57 [l0, l1] (.int (nI 5) :: st) m Q := kJ_next d123_56 rfl
theorem d123_57 : decode (mB 123) 57 = .ok (.invokevirtual 105, 3) := by decide +kernel
theorem s123_57 {l0 l1 : Option Value} {v0 : Int32} {v1 : Int32} {v2 : Nat} {m : kMem} {Q : Option Value → kMem → Prop} (h : kIs m.2.2.2 v2 5 = true) : kJ 123 57 [l0, l1] [.int v0, .int v1, .ref v2] m Q = kJ 114 0 [some (.ref v2), some (.int v1), some (.int v0)] [] m (fun v m2 => kJ 123 60 [l0, l1] (v.toList ++ []) m2 Q) := kJ_call d123_57 (kg_callv 114 2 rfl rfl rfl rfl (Nat.le_of_ble_eq_true rfl) (Nat.le_of_ble_eq_true rfl) (Nat.le_of_ble_eq_true rfl) h rfl)
theorem d123_60 : decode (mB 123) 60 = .ok (.aload_n 0, 1) := by decide +kernel
theorem s123_60 {l1 : Option Value} {st : List Value} {x : Nat} {m : kMem} {Q : Option Value → kMem → Prop} : kJ 123 60 [some (.ref x), l1] st m Q = kJ 123 61 [some (.ref x), l1] (.ref x :: st) m Q := kJ_next d123_60 rfl
theorem d123_61 : decode (mB 123) 61 = .ok (.iload_n 1, 1) := by decide +kernel
theorem s123_61 {l0 : Option Value} {st : List Value} {x : Int32} {m : kMem} {Q : Option Value → kMem → Prop} : kJ 123 61 [l0, some (.int x)] st m Q = kJ 123 62 [l0, some (.int x)] (.int x :: st) m Q := kJ_next d123_61 rfl
theorem d123_62 : decode (mB 123) 62 = .ok (.iconst 4, 1) := by decide +kernel
theorem s123_62 {l0 l1 : Option Value} {st : List Value} {m : kMem} {Q : Option Value → kMem → Prop} : kJ 123 62 [l0, l1] st m Q = kJ 123 63 [l0, l1] (.int (nI 4) :: st) m Q := kJ_next d123_62 rfl
theorem d123_63 : decode (mB 123) 63 = .ok (.if_icmp .ne 15, 3) := by decide +kernel
theorem s123_63 {l0 l1 : Option Value} {st : List Value} {a b : Int32} {m : kMem} {Q : Option Value → kMem → Prop} : kJ 123 63 [l0, l1] (.int b :: .int a :: st) m Q = (if a = b then kJ 123 66 [l0, l1] st m Q else kJ 123 78 [l0, l1] st m Q) := kJ_if d123_63 rfl (fun h => kJ_next d123_63 h) (fun h => kJ_next d123_63 h)
theorem d123_66 : decode (mB 123) 66 = .ok (.aload_n 0, 1) := by decide +kernel
theorem s123_66 {l1 : Option Value} {st : List Value} {x : Nat} {m : kMem} {Q : Option Value → kMem → Prop} : kJ 123 66 [some (.ref x), l1] st m Q = kJ 123 67 [some (.ref x), l1] (.ref x :: st) m Q := kJ_next d123_66 rfl
theorem d123_67 : decode (mB 123) 67 = .ok (.getfield 20, 3) := by decide +kernel
theorem s123_67 {l0 l1 : Option Value} {st : List Value} {q : Nat} {mi : Nat → Nat → Int32} {ml : Nat → Nat → Int64} {mr : Nat → Nat → Option Nat} {nx : Nat} {Q : Option Value → kMem → Prop} (h : kIs nx q 5 = true) : kJ 123 67 [l0, l1] (.ref q :: st) (mi, ml, mr, nx) Q = kJ 123 70 [l0, l1] (va_rf (mr q 3) :: st) (mi, ml, mr, nx) Q := kJ_next d123_67 (kg_getr 5 3 rfl h (by decide))
theorem d123_70 : decode (mB 123) 70 = .ok (.bipush 52, 2) := by decide +kernel
theorem s123_70 {l0 l1 : Option Value} {st : List Value} {m : kMem} {Q : Option Value → kMem → Prop} : kJ 123 70 [l0, l1] st m Q = kJ 123 72 [l0, l1] (.int (nI 52) :: st) m Q := kJ_next d123_70 rfl
theorem d123_72 : decode (mB 123) 72 = .ok (.iaload, 1) := by decide +kernel
theorem s123_72 {l0 l1 : Option Value} {st : List Value} {q : Nat} {i : Int32} {mi : Nat → Nat → Int32} {ml : Nat → Nat → Int64} {mr : Nat → Nat → Option Nat} {nx : Nat} {Q : Option Value → kMem → Prop} (h : kIs nx q 10 = true) : kJ 123 72 [l0, l1] (.int i :: .ref q :: st) (mi, ml, mr, nx) Q = (vp_in i (kAl q) ∧ kJ 123 73 [l0, l1] (.int (mi q i.toNatClampNeg) :: st) (mi, ml, mr, nx) Q) := kg_aldJ d123_72 rfl (kAr_of h)
theorem d123_73 : decode (mB 123) 73 = .ok (.bipush 6, 2) := by decide +kernel
theorem s123_73 {l0 l1 : Option Value} {st : List Value} {m : kMem} {Q : Option Value → kMem → Prop} : kJ 123 73 [l0, l1] st m Q = kJ 123 75 [l0, l1] (.int (nI 6) :: st) m Q := kJ_next d123_73 rfl
theorem d123_75 : decode (mB 123) 75 = .ok (.if_icmp .ge 7, 3) := by decide +kernel
theorem s123_75 {l0 l1 : Option Value} {st : List Value} {a b : Int32} {m : kMem} {Q : Option Value → kMem → Prop} : kJ 123 75 [l0, l1] (.int b :: .int a :: st) m Q = (if b ≤ a then kJ 123 82 [l0, l1] st m Q else kJ 123 78 [l0, l1] st m Q) := kJ_if d123_75 rfl (fun h => kJ_next d123_75 h) (fun h => kJ_next d123_75 h)
theorem d123_78 : decode (mB 123) 78 = .ok (.iconst 1, 1) := by decide +kernel
theorem s123_78 {l0 l1 : Option Value} {st : List Value} {m : kMem} {Q : Option Value → kMem → Prop} : kJ 123 78 [l0, l1] st m Q = kJ 123 79 [l0, l1] (.int (nI 1) :: st) m Q := kJ_next d123_78 rfl
theorem d123_79 : decode (mB 123) 79 = .ok (.goto 4, 3) := by decide +kernel
theorem s123_79 {l0 l1 : Option Value} {st : List Value} {m : kMem} {Q : Option Value → kMem → Prop} : kJ 123 79 [l0, l1] st m Q = kJ 123 83 [l0, l1] st m Q := kJ_next d123_79 rfl
theorem d123_82 : decode (mB 123) 82 = .ok (.iconst 0, 1) := by decide +kernel
theorem s123_82 {l0 l1 : Option Value} {st : List Value} {m : kMem} {Q : Option Value → kMem → Prop} : kJ 123 82 [l0, l1] st m Q = kJ 123 83 [l0, l1] (.int (nI 0) :: st) m Q := kJ_next d123_82 rfl
theorem d123_83 : decode (mB 123) 83 = .ok (.iconst 5, 1) := by decide +kernel
theorem s123_83 {l0 l1 : Option Value} {st : List Value} {m : kMem} {Q : Option Value → kMem → Prop} : kJ 123 83 [l0, l1] st m Q = kJ 123 84 [l0, l1] (.int (nI 5) :: st) m Q := kJ_next d123_83 rfl
theorem d123_84 : decode (mB 123) 84 = .ok (.invokevirtual 105, 3) := by decide +kernel
theorem s123_84 {l0 l1 : Option Value} {v0 : Int32} {v1 : Int32} {v2 : Nat} {m : kMem} {Q : Option Value → kMem → Prop} (h : kIs m.2.2.2 v2 5 = true) : kJ 123 84 [l0, l1] [.int v0, .int v1, .ref v2] m Q = kJ 114 0 [some (.ref v2), some (.int v1), some (.int v0)] [] m (fun v m2 => kJ 123 87 [l0, l1] (v.toList ++ []) m2 Q) := kJ_call d123_84 (kg_callv 114 2 rfl rfl rfl rfl (Nat.le_of_ble_eq_true rfl) (Nat.le_of_ble_eq_true rfl) (Nat.le_of_ble_eq_true rfl) h rfl)
theorem d123_87 : decode (mB 123) 87 = .ok (.aload_n 0, 1) := by decide +kernel
theorem s123_87 {l1 : Option Value} {st : List Value} {x : Nat} {m : kMem} {Q : Option Value → kMem → Prop} : kJ 123 87 [some (.ref x), l1] st m Q = kJ 123 88 [some (.ref x), l1] (.ref x :: st) m Q := kJ_next d123_87 rfl
theorem d123_88 : decode (mB 123) 88 = .ok (.iload_n 1, 1) := by decide +kernel
theorem s123_88 {l0 : Option Value} {st : List Value} {x : Int32} {m : kMem} {Q : Option Value → kMem → Prop} : kJ 123 88 [l0, some (.int x)] st m Q = kJ 123 89 [l0, some (.int x)] (.int x :: st) m Q := kJ_next d123_88 rfl
theorem d123_89 : decode (mB 123) 89 = .ok (.iconst 5, 1) := by decide +kernel
theorem s123_89 {l0 l1 : Option Value} {st : List Value} {m : kMem} {Q : Option Value → kMem → Prop} : kJ 123 89 [l0, l1] st m Q = kJ 123 90 [l0, l1] (.int (nI 5) :: st) m Q := kJ_next d123_89 rfl
theorem d123_90 : decode (mB 123) 90 = .ok (.if_icmp .ne 10, 3) := by decide +kernel
theorem s123_90 {l0 l1 : Option Value} {st : List Value} {a b : Int32} {m : kMem} {Q : Option Value → kMem → Prop} : kJ 123 90 [l0, l1] (.int b :: .int a :: st) m Q = (if a = b then kJ 123 93 [l0, l1] st m Q else kJ 123 100 [l0, l1] st m Q) := kJ_if d123_90 rfl (fun h => kJ_next d123_90 h) (fun h => kJ_next d123_90 h)
theorem d123_93 : decode (mB 123) 93 = .ok (.aload_n 0, 1) := by decide +kernel
theorem s123_93 {l1 : Option Value} {st : List Value} {x : Nat} {m : kMem} {Q : Option Value → kMem → Prop} : kJ 123 93 [some (.ref x), l1] st m Q = kJ 123 94 [some (.ref x), l1] (.ref x :: st) m Q := kJ_next d123_93 rfl
theorem d123_94 : decode (mB 123) 94 = .ok (.getfield 50, 3) := by decide +kernel
theorem s123_94 {l0 l1 : Option Value} {st : List Value} {q : Nat} {mi : Nat → Nat → Int32} {ml : Nat → Nat → Int64} {mr : Nat → Nat → Option Nat} {nx : Nat} {Q : Option Value → kMem → Prop} (h : kIs nx q 5 = true) : kJ 123 94 [l0, l1] (.ref q :: st) (mi, ml, mr, nx) Q = kJ 123 97 [l0, l1] (.int (mi q 4) :: st) (mi, ml, mr, nx) Q := kJ_next d123_94 (kg_geti 5 4 rfl h (by decide))
theorem d123_97 : decode (mB 123) 97 = .ok (.ifCond .ne 7, 3) := by decide +kernel
theorem s123_97 {l0 l1 : Option Value} {st : List Value} {a : Int32} {m : kMem} {Q : Option Value → kMem → Prop} : kJ 123 97 [l0, l1] (.int a :: st) m Q = (if a = 0 then kJ 123 100 [l0, l1] st m Q else kJ 123 104 [l0, l1] st m Q) := kJ_if d123_97 rfl (fun h => kJ_next d123_97 h) (fun h => kJ_next d123_97 h)
theorem d123_100 : decode (mB 123) 100 = .ok (.iconst 1, 1) := by decide +kernel
theorem s123_100 {l0 l1 : Option Value} {st : List Value} {m : kMem} {Q : Option Value → kMem → Prop} : kJ 123 100 [l0, l1] st m Q = kJ 123 101 [l0, l1] (.int (nI 1) :: st) m Q := kJ_next d123_100 rfl
theorem d123_101 : decode (mB 123) 101 = .ok (.goto 4, 3) := by decide +kernel
theorem s123_101 {l0 l1 : Option Value} {st : List Value} {m : kMem} {Q : Option Value → kMem → Prop} : kJ 123 101 [l0, l1] st m Q = kJ 123 105 [l0, l1] st m Q := kJ_next d123_101 rfl
theorem d123_104 : decode (mB 123) 104 = .ok (.iconst 0, 1) := by decide +kernel
theorem s123_104 {l0 l1 : Option Value} {st : List Value} {m : kMem} {Q : Option Value → kMem → Prop} : kJ 123 104 [l0, l1] st m Q = kJ 123 105 [l0, l1] (.int (nI 0) :: st) m Q := kJ_next d123_104 rfl
theorem d123_105 : decode (mB 123) 105 = .ok (.iconst 4, 1) := by decide +kernel
theorem s123_105 {l0 l1 : Option Value} {st : List Value} {m : kMem} {Q : Option Value → kMem → Prop} : kJ 123 105 [l0, l1] st m Q = kJ 123 106 [l0, l1] (.int (nI 4) :: st) m Q := kJ_next d123_105 rfl
theorem d123_106 : decode (mB 123) 106 = .ok (.invokevirtual 105, 3) := by decide +kernel
theorem s123_106 {l0 l1 : Option Value} {v0 : Int32} {v1 : Int32} {v2 : Nat} {m : kMem} {Q : Option Value → kMem → Prop} (h : kIs m.2.2.2 v2 5 = true) : kJ 123 106 [l0, l1] [.int v0, .int v1, .ref v2] m Q = kJ 114 0 [some (.ref v2), some (.int v1), some (.int v0)] [] m (fun v m2 => kJ 123 109 [l0, l1] (v.toList ++ []) m2 Q) := kJ_call d123_106 (kg_callv 114 2 rfl rfl rfl rfl (Nat.le_of_ble_eq_true rfl) (Nat.le_of_ble_eq_true rfl) (Nat.le_of_ble_eq_true rfl) h rfl)
theorem d123_109 : decode (mB 123) 109 = .ok (.aload_n 0, 1) := by decide +kernel
theorem s123_109 {l1 : Option Value} {st : List Value} {x : Nat} {m : kMem} {Q : Option Value → kMem → Prop} : kJ 123 109 [some (.ref x), l1] st m Q = kJ 123 110 [some (.ref x), l1] (.ref x :: st) m Q := kJ_next d123_109 rfl
theorem d123_110 : decode (mB 123) 110 = .ok (.aload_n 0, 1) := by decide +kernel
theorem s123_110 {l1 : Option Value} {st : List Value} {x : Nat} {m : kMem} {Q : Option Value → kMem → Prop} : kJ 123 110 [some (.ref x), l1] st m Q = kJ 123 111 [some (.ref x), l1] (.ref x :: st) m Q := kJ_next d123_110 rfl
theorem d123_111 : decode (mB 123) 111 = .ok (.getfield 50, 3) := by decide +kernel
theorem s123_111 {l0 l1 : Option Value} {st : List Value} {q : Nat} {mi : Nat → Nat → Int32} {ml : Nat → Nat → Int64} {mr : Nat → Nat → Option Nat} {nx : Nat} {Q : Option Value → kMem → Prop} (h : kIs nx q 5 = true) : kJ 123 111 [l0, l1] (.ref q :: st) (mi, ml, mr, nx) Q = kJ 123 114 [l0, l1] (.int (mi q 4) :: st) (mi, ml, mr, nx) Q := kJ_next d123_111 (kg_geti 5 4 rfl h (by decide))
theorem d123_114 : decode (mB 123) 114 = .ok (.ifCond .ne 8, 3) := by decide +kernel
theorem s123_114 {l0 l1 : Option Value} {st : List Value} {a : Int32} {m : kMem} {Q : Option Value → kMem → Prop} : kJ 123 114 [l0, l1] (.int a :: st) m Q = (if a = 0 then kJ 123 117 [l0, l1] st m Q else kJ 123 122 [l0, l1] st m Q) := kJ_if d123_114 rfl (fun h => kJ_next d123_114 h) (fun h => kJ_next d123_114 h)
theorem d123_117 : decode (mB 123) 117 = .ok (.iload_n 1, 1) := by decide +kernel
theorem s123_117 {l0 : Option Value} {st : List Value} {x : Int32} {m : kMem} {Q : Option Value → kMem → Prop} : kJ 123 117 [l0, some (.int x)] st m Q = kJ 123 118 [l0, some (.int x)] (.int x :: st) m Q := kJ_next d123_117 rfl
theorem d123_118 : decode (mB 123) 118 = .ok (.iconst 5, 1) := by decide +kernel
theorem s123_118 {l0 l1 : Option Value} {st : List Value} {m : kMem} {Q : Option Value → kMem → Prop} : kJ 123 118 [l0, l1] st m Q = kJ 123 119 [l0, l1] (.int (nI 5) :: st) m Q := kJ_next d123_118 rfl
theorem d123_119 : decode (mB 123) 119 = .ok (.if_icmp .ne 7, 3) := by decide +kernel
theorem s123_119 {l0 l1 : Option Value} {st : List Value} {a b : Int32} {m : kMem} {Q : Option Value → kMem → Prop} : kJ 123 119 [l0, l1] (.int b :: .int a :: st) m Q = (if a = b then kJ 123 122 [l0, l1] st m Q else kJ 123 126 [l0, l1] st m Q) := kJ_if d123_119 rfl (fun h => kJ_next d123_119 h) (fun h => kJ_next d123_119 h)
theorem d123_122 : decode (mB 123) 122 = .ok (.iconst 1, 1) := by decide +kernel
theorem s123_122 {l0 l1 : Option Value} {st : List Value} {m : kMem} {Q : Option Value → kMem → Prop} : kJ 123 122 [l0, l1] st m Q = kJ 123 123 [l0, l1] (.int (nI 1) :: st) m Q := kJ_next d123_122 rfl
theorem d123_123 : decode (mB 123) 123 = .ok (.goto 4, 3) := by decide +kernel
theorem s123_123 {l0 l1 : Option Value} {st : List Value} {m : kMem} {Q : Option Value → kMem → Prop} : kJ 123 123 [l0, l1] st m Q = kJ 123 127 [l0, l1] st m Q := kJ_next d123_123 rfl
theorem d123_126 : decode (mB 123) 126 = .ok (.iconst 0, 1) := by decide +kernel
theorem s123_126 {l0 l1 : Option Value} {st : List Value} {m : kMem} {Q : Option Value → kMem → Prop} : kJ 123 126 [l0, l1] st m Q = kJ 123 127 [l0, l1] (.int (nI 0) :: st) m Q := kJ_next d123_126 rfl
theorem d123_127 : decode (mB 123) 127 = .ok (.putfield 50, 3) := by decide +kernel
theorem s123_127 {l0 l1 : Option Value} {st : List Value} {q : Nat} {x : Int32} {mi : Nat → Nat → Int32} {ml : Nat → Nat → Int64} {mr : Nat → Nat → Option Nat} {nx : Nat} {Q : Option Value → kMem → Prop} (h : kIs nx q 5 = true) (hx : x = 0 ∨ x = 1) : kJ 123 127 [l0, l1] (.int x :: .ref q :: st) (mi, ml, mr, nx) Q = kJ 123 130 [l0, l1] st (kup mi q 4 x, ml, mr, nx) Q := kJ_next d123_127 (kg_puti 5 4 rfl h (by decide) (Or.inr ⟨by decide, hx⟩))
theorem d123_130 : decode (mB 123) 130 = .ok (.aload_n 0, 1) := by decide +kernel
theorem s123_130 {l1 : Option Value} {st : List Value} {x : Nat} {m : kMem} {Q : Option Value → kMem → Prop} : kJ 123 130 [some (.ref x), l1] st m Q = kJ 123 131 [some (.ref x), l1] (.ref x :: st) m Q := kJ_next d123_130 rfl
theorem d123_131 : decode (mB 123) 131 = .ok (.invokevirtual 109, 3) := by decide +kernel
theorem s123_131 {l0 l1 : Option Value} {v0 : Nat} {m : kMem} {Q : Option Value → kMem → Prop} (h : kIs m.2.2.2 v0 5 = true) : kJ 123 131 [l0, l1] [.ref v0] m Q = kJ 119 0 [some (.ref v0), none] [] m (fun v m2 => kJ 123 134 [l0, l1] (v.toList ++ []) m2 Q) := kJ_call d123_131 (kg_callv 119 0 rfl rfl rfl rfl (Nat.le_of_ble_eq_true rfl) (Nat.le_of_ble_eq_true rfl) (Nat.le_of_ble_eq_true rfl) h rfl)
theorem d123_134 : decode (mB 123) 134 = .ok (.aload_n 0, 1) := by decide +kernel
theorem s123_134 {l1 : Option Value} {st : List Value} {x : Nat} {m : kMem} {Q : Option Value → kMem → Prop} : kJ 123 134 [some (.ref x), l1] st m Q = kJ 123 135 [some (.ref x), l1] (.ref x :: st) m Q := kJ_next d123_134 rfl
theorem d123_135 : decode (mB 123) 135 = .ok (.getfield 67, 3) := by decide +kernel
theorem s123_135 {l0 l1 : Option Value} {st : List Value} {q : Nat} {mi : Nat → Nat → Int32} {ml : Nat → Nat → Int64} {mr : Nat → Nat → Option Nat} {nx : Nat} {Q : Option Value → kMem → Prop} (h : kIs nx q 5 = true) : kJ 123 135 [l0, l1] (.ref q :: st) (mi, ml, mr, nx) Q = kJ 123 138 [l0, l1] (.int (mi q 12) :: st) (mi, ml, mr, nx) Q := kJ_next d123_135 (kg_geti 5 12 rfl h (by decide))
theorem d123_138 : decode (mB 123) 138 = .ok (.ifCond .le 4, 3) := by decide +kernel
theorem s123_138 {l0 l1 : Option Value} {st : List Value} {a : Int32} {m : kMem} {Q : Option Value → kMem → Prop} : kJ 123 138 [l0, l1] (.int a :: st) m Q = (if a ≤ 0 then kJ 123 142 [l0, l1] st m Q else kJ 123 141 [l0, l1] st m Q) := kJ_if d123_138 rfl (fun h => kJ_next d123_138 h) (fun h => kJ_next d123_138 h)
theorem d123_141 : decode (mB 123) 141 = .ok (.return_, 1) := by decide +kernel
theorem s123_141 {l0 l1 : Option Value} {m : kMem} {Q : Option Value → kMem → Prop} : kJ 123 141 [l0, l1] [] m Q = Q none m := kJ_ret d123_141 rfl
theorem d123_142 : decode (mB 123) 142 = .ok (.aload_n 0, 1) := by decide +kernel
theorem s123_142 {l1 : Option Value} {st : List Value} {x : Nat} {m : kMem} {Q : Option Value → kMem → Prop} : kJ 123 142 [some (.ref x), l1] st m Q = kJ 123 143 [some (.ref x), l1] (.ref x :: st) m Q := kJ_next d123_142 rfl
theorem d123_143 : decode (mB 123) 143 = .ok (.iload_n 1, 1) := by decide +kernel
theorem s123_143 {l0 : Option Value} {st : List Value} {x : Int32} {m : kMem} {Q : Option Value → kMem → Prop} : kJ 123 143 [l0, some (.int x)] st m Q = kJ 123 144 [l0, some (.int x)] (.int x :: st) m Q := kJ_next d123_143 rfl
theorem d123_144 : decode (mB 123) 144 = .ok (.invokevirtual 123, 3) := by decide +kernel
theorem s123_144 {l0 l1 : Option Value} {v0 : Int32} {v1 : Nat} {m : kMem} {Q : Option Value → kMem → Prop} (h : kIs m.2.2.2 v1 5 = true) : kJ 123 144 [l0, l1] [.int v0, .ref v1] m Q = kJ 122 0 [some (.ref v1), some (.int v0)] [] m (fun v m2 => kJ 123 147 [l0, l1] (v.toList ++ []) m2 Q) := kJ_call d123_144 (kg_callv 122 1 rfl rfl rfl rfl (Nat.le_of_ble_eq_true rfl) (Nat.le_of_ble_eq_true rfl) (Nat.le_of_ble_eq_true rfl) h rfl)
theorem d123_147 : decode (mB 123) 147 = .ok (.aload_n 0, 1) := by decide +kernel
theorem s123_147 {l1 : Option Value} {st : List Value} {x : Nat} {m : kMem} {Q : Option Value → kMem → Prop} : kJ 123 147 [some (.ref x), l1] st m Q = kJ 123 148 [some (.ref x), l1] (.ref x :: st) m Q := kJ_next d123_147 rfl
theorem d123_148 : decode (mB 123) 148 = .ok (.getfield 67, 3) := by decide +kernel
theorem s123_148 {l0 l1 : Option Value} {st : List Value} {q : Nat} {mi : Nat → Nat → Int32} {ml : Nat → Nat → Int64} {mr : Nat → Nat → Option Nat} {nx : Nat} {Q : Option Value → kMem → Prop} (h : kIs nx q 5 = true) : kJ 123 148 [l0, l1] (.ref q :: st) (mi, ml, mr, nx) Q = kJ 123 151 [l0, l1] (.int (mi q 12) :: st) (mi, ml, mr, nx) Q := kJ_next d123_148 (kg_geti 5 12 rfl h (by decide))
theorem d123_151 : decode (mB 123) 151 = .ok (.ifCond .ne 21, 3) := by decide +kernel
theorem s123_151 {l0 l1 : Option Value} {st : List Value} {a : Int32} {m : kMem} {Q : Option Value → kMem → Prop} : kJ 123 151 [l0, l1] (.int a :: st) m Q = (if a = 0 then kJ 123 154 [l0, l1] st m Q else kJ 123 172 [l0, l1] st m Q) := kJ_if d123_151 rfl (fun h => kJ_next d123_151 h) (fun h => kJ_next d123_151 h)
theorem d123_154 : decode (mB 123) 154 = .ok (.aload_n 0, 1) := by decide +kernel
theorem s123_154 {l1 : Option Value} {st : List Value} {x : Nat} {m : kMem} {Q : Option Value → kMem → Prop} : kJ 123 154 [some (.ref x), l1] st m Q = kJ 123 155 [some (.ref x), l1] (.ref x :: st) m Q := kJ_next d123_154 rfl
theorem d123_155 : decode (mB 123) 155 = .ok (.aload_n 0, 1) := by decide +kernel
theorem s123_155 {l1 : Option Value} {st : List Value} {x : Nat} {m : kMem} {Q : Option Value → kMem → Prop} : kJ 123 155 [some (.ref x), l1] st m Q = kJ 123 156 [some (.ref x), l1] (.ref x :: st) m Q := kJ_next d123_155 rfl
theorem d123_156 : decode (mB 123) 156 = .ok (.getfield 91, 3) := by decide +kernel
theorem s123_156 {l0 l1 : Option Value} {st : List Value} {q : Nat} {mi : Nat → Nat → Int32} {ml : Nat → Nat → Int64} {mr : Nat → Nat → Option Nat} {nx : Nat} {Q : Option Value → kMem → Prop} (h : kIs nx q 5 = true) : kJ 123 156 [l0, l1] (.ref q :: st) (mi, ml, mr, nx) Q = kJ 123 159 [l0, l1] (.int (mi q 10) :: st) (mi, ml, mr, nx) Q := kJ_next d123_156 (kg_geti 5 10 rfl h (by decide))
theorem d123_159 : decode (mB 123) 159 = .ok (.iconst 3, 1) := by decide +kernel
theorem s123_159 {l0 l1 : Option Value} {st : List Value} {m : kMem} {Q : Option Value → kMem → Prop} : kJ 123 159 [l0, l1] st m Q = kJ 123 160 [l0, l1] (.int (nI 3) :: st) m Q := kJ_next d123_159 rfl
theorem d123_160 : decode (mB 123) 160 = .ok (.if_icmp .ne 7, 3) := by decide +kernel
theorem s123_160 {l0 l1 : Option Value} {st : List Value} {a b : Int32} {m : kMem} {Q : Option Value → kMem → Prop} : kJ 123 160 [l0, l1] (.int b :: .int a :: st) m Q = (if a = b then kJ 123 163 [l0, l1] st m Q else kJ 123 167 [l0, l1] st m Q) := kJ_if d123_160 rfl (fun h => kJ_next d123_160 h) (fun h => kJ_next d123_160 h)
theorem d123_163 : decode (mB 123) 163 = .ok (.iconst 1, 1) := by decide +kernel
theorem s123_163 {l0 l1 : Option Value} {st : List Value} {m : kMem} {Q : Option Value → kMem → Prop} : kJ 123 163 [l0, l1] st m Q = kJ 123 164 [l0, l1] (.int (nI 1) :: st) m Q := kJ_next d123_163 rfl
theorem d123_164 : decode (mB 123) 164 = .ok (.goto 4, 3) := by decide +kernel
theorem s123_164 {l0 l1 : Option Value} {st : List Value} {m : kMem} {Q : Option Value → kMem → Prop} : kJ 123 164 [l0, l1] st m Q = kJ 123 168 [l0, l1] st m Q := kJ_next d123_164 rfl
theorem d123_167 : decode (mB 123) 167 = .ok (.iconst 0, 1) := by decide +kernel
theorem s123_167 {l0 l1 : Option Value} {st : List Value} {m : kMem} {Q : Option Value → kMem → Prop} : kJ 123 167 [l0, l1] st m Q = kJ 123 168 [l0, l1] (.int (nI 0) :: st) m Q := kJ_next d123_167 rfl
theorem d123_168 : decode (mB 123) 168 = .ok (.iconst 2, 1) := by decide +kernel
theorem s123_168 {l0 l1 : Option Value} {st : List Value} {m : kMem} {Q : Option Value → kMem → Prop} : kJ 123 168 [l0, l1] st m Q = kJ 123 169 [l0, l1] (.int (nI 2) :: st) m Q := kJ_next d123_168 rfl
theorem d123_169 : decode (mB 123) 169 = .ok (.invokevirtual 105, 3) := by decide +kernel
theorem s123_169 {l0 l1 : Option Value} {v0 : Int32} {v1 : Int32} {v2 : Nat} {m : kMem} {Q : Option Value → kMem → Prop} (h : kIs m.2.2.2 v2 5 = true) : kJ 123 169 [l0, l1] [.int v0, .int v1, .ref v2] m Q = kJ 114 0 [some (.ref v2), some (.int v1), some (.int v0)] [] m (fun v m2 => kJ 123 172 [l0, l1] (v.toList ++ []) m2 Q) := kJ_call d123_169 (kg_callv 114 2 rfl rfl rfl rfl (Nat.le_of_ble_eq_true rfl) (Nat.le_of_ble_eq_true rfl) (Nat.le_of_ble_eq_true rfl) h rfl)
theorem d123_172 : decode (mB 123) 172 = .ok (.aload_n 0, 1) := by decide +kernel
theorem s123_172 {l1 : Option Value} {st : List Value} {x : Nat} {m : kMem} {Q : Option Value → kMem → Prop} : kJ 123 172 [some (.ref x), l1] st m Q = kJ 123 173 [some (.ref x), l1] (.ref x :: st) m Q := kJ_next d123_172 rfl
theorem d123_173 : decode (mB 123) 173 = .ok (.invokevirtual 109, 3) := by decide +kernel
theorem s123_173 {l0 l1 : Option Value} {v0 : Nat} {m : kMem} {Q : Option Value → kMem → Prop} (h : kIs m.2.2.2 v0 5 = true) : kJ 123 173 [l0, l1] [.ref v0] m Q = kJ 119 0 [some (.ref v0), none] [] m (fun v m2 => kJ 123 176 [l0, l1] (v.toList ++ []) m2 Q) := kJ_call d123_173 (kg_callv 119 0 rfl rfl rfl rfl (Nat.le_of_ble_eq_true rfl) (Nat.le_of_ble_eq_true rfl) (Nat.le_of_ble_eq_true rfl) h rfl)
theorem d123_176 : decode (mB 123) 176 = .ok (.return_, 1) := by decide +kernel
theorem s123_176 {l0 l1 : Option Value} {m : kMem} {Q : Option Value → kMem → Prop} : kJ 123 176 [l0, l1] [] m Q = Q none m := kJ_ret d123_176 rfl
theorem d124_0 : decode (mB 124) 0 = .ok (.iconst 0, 1) := by decide +kernel
theorem s124_0 {l0 l1 : Option Value} {st : List Value} {m : kMem} {Q : Option Value → kMem → Prop} : kJ 124 0 [l0, l1] st m Q = kJ 124 1 [l0, l1] (.int (nI 0) :: st) m Q := kJ_next d124_0 rfl
theorem d124_1 : decode (mB 124) 1 = .ok (.istore_n 1, 1) := by decide +kernel
theorem s124_1 {l0 l1 : Option Value} {st : List Value} {x : Int32} {m : kMem} {Q : Option Value → kMem → Prop} (hp : kNL l0 = true) : kJ 124 1 [l0, l1] (.int x :: st) m Q = kJ 124 2 [l0, some (.int x)] st m Q := kJ_next d124_1 (kg_sti (Nat.le_of_ble_eq_true rfl) hp)
theorem d124_2 : decode (mB 124) 2 = .ok (.aload_n 0, 1) := by decide +kernel
theorem s124_2 {l1 : Option Value} {st : List Value} {x : Nat} {m : kMem} {Q : Option Value → kMem → Prop} : kJ 124 2 [some (.ref x), l1] st m Q = kJ 124 3 [some (.ref x), l1] (.ref x :: st) m Q := kJ_next d124_2 rfl
theorem d124_3 : decode (mB 124) 3 = .ok (.iconst 0, 1) := by decide +kernel
theorem s124_3 {l0 l1 : Option Value} {st : List Value} {m : kMem} {Q : Option Value → kMem → Prop} : kJ 124 3 [l0, l1] st m Q = kJ 124 4 [l0, l1] (.int (nI 0) :: st) m Q := kJ_next d124_3 rfl
theorem d124_4 : decode (mB 124) 4 = .ok (.putfield 67, 3) := by decide +kernel
theorem s124_4 {l0 l1 : Option Value} {st : List Value} {q : Nat} {x : Int32} {mi : Nat → Nat → Int32} {ml : Nat → Nat → Int64} {mr : Nat → Nat → Option Nat} {nx : Nat} {Q : Option Value → kMem → Prop} (h : kIs nx q 5 = true) : kJ 124 4 [l0, l1] (.int x :: .ref q :: st) (mi, ml, mr, nx) Q = kJ 124 7 [l0, l1] st (kup mi q 12 x, ml, mr, nx) Q := kJ_next d124_4 (kg_puti 5 12 rfl h (by decide) (Or.inl (by decide)))
theorem d124_7 : decode (mB 124) 7 = .ok (.aload_n 0, 1) := by decide +kernel
theorem s124_7 {l1 : Option Value} {st : List Value} {x : Nat} {m : kMem} {Q : Option Value → kMem → Prop} : kJ 124 7 [some (.ref x), l1] st m Q = kJ 124 8 [some (.ref x), l1] (.ref x :: st) m Q := kJ_next d124_7 rfl
theorem d124_8 : decode (mB 124) 8 = .ok (.iconst 0, 1) := by decide +kernel
theorem s124_8 {l0 l1 : Option Value} {st : List Value} {m : kMem} {Q : Option Value → kMem → Prop} : kJ 124 8 [l0, l1] st m Q = kJ 124 9 [l0, l1] (.int (nI 0) :: st) m Q := kJ_next d124_8 rfl
theorem d124_9 : decode (mB 124) 9 = .ok (.putfield 76, 3) := by decide +kernel
theorem s124_9 {l0 l1 : Option Value} {st : List Value} {q : Nat} {x : Int32} {mi : Nat → Nat → Int32} {ml : Nat → Nat → Int64} {mr : Nat → Nat → Option Nat} {nx : Nat} {Q : Option Value → kMem → Prop} (h : kIs nx q 5 = true) : kJ 124 9 [l0, l1] (.int x :: .ref q :: st) (mi, ml, mr, nx) Q = kJ 124 12 [l0, l1] st (kup mi q 8 x, ml, mr, nx) Q := kJ_next d124_9 (kg_puti 5 8 rfl h (by decide) (Or.inl (by decide)))
theorem d124_12 : decode (mB 124) 12 = .ok (.aload_n 0, 1) := by decide +kernel
theorem s124_12 {l1 : Option Value} {st : List Value} {x : Nat} {m : kMem} {Q : Option Value → kMem → Prop} : kJ 124 12 [some (.ref x), l1] st m Q = kJ 124 13 [some (.ref x), l1] (.ref x :: st) m Q := kJ_next d124_12 rfl
theorem d124_13 : decode (mB 124) 13 = .ok (.invokevirtual 44, 3) := by decide +kernel
theorem s124_13 {l0 l1 : Option Value} {v0 : Nat} {m : kMem} {Q : Option Value → kMem → Prop} (h : kIs m.2.2.2 v0 5 = true) : kJ 124 13 [l0, l1] [.ref v0] m Q = kJ 110 0 [some (.ref v0), none] [] m (fun v m2 => kJ 124 16 [l0, l1] (v.toList ++ []) m2 Q) := kJ_call d124_13 (kg_callv 110 0 rfl rfl rfl rfl (Nat.le_of_ble_eq_true rfl) (Nat.le_of_ble_eq_true rfl) (Nat.le_of_ble_eq_true rfl) h rfl)
theorem d124_16 : decode (mB 124) 16 = .ok (.aload_n 0, 1) := by decide +kernel
theorem s124_16 {l1 : Option Value} {st : List Value} {x : Nat} {m : kMem} {Q : Option Value → kMem → Prop} : kJ 124 16 [some (.ref x), l1] st m Q = kJ 124 17 [some (.ref x), l1] (.ref x :: st) m Q := kJ_next d124_16 rfl
theorem d124_17 : decode (mB 124) 17 = .ok (.invokevirtual 109, 3) := by decide +kernel
theorem s124_17 {l0 l1 : Option Value} {v0 : Nat} {m : kMem} {Q : Option Value → kMem → Prop} (h : kIs m.2.2.2 v0 5 = true) : kJ 124 17 [l0, l1] [.ref v0] m Q = kJ 119 0 [some (.ref v0), none] [] m (fun v m2 => kJ 124 20 [l0, l1] (v.toList ++ []) m2 Q) := kJ_call d124_17 (kg_callv 119 0 rfl rfl rfl rfl (Nat.le_of_ble_eq_true rfl) (Nat.le_of_ble_eq_true rfl) (Nat.le_of_ble_eq_true rfl) h rfl)
theorem d124_20 : decode (mB 124) 20 = .ok (.aload_n 0, 1) := by decide +kernel
theorem s124_20 {l1 : Option Value} {st : List Value} {x : Nat} {m : kMem} {Q : Option Value → kMem → Prop} : kJ 124 20 [some (.ref x), l1] st m Q = kJ 124 21 [some (.ref x), l1] (.ref x :: st) m Q := kJ_next d124_20 rfl
theorem d124_21 : decode (mB 124) 21 = .ok (.getfield 67, 3) := by decide +kernel
theorem s124_21 {l0 l1 : Option Value} {st : List Value} {q : Nat} {mi : Nat → Nat → Int32} {ml : Nat → Nat → Int64} {mr : Nat → Nat → Option Nat} {nx : Nat} {Q : Option Value → kMem → Prop} (h : kIs nx q 5 = true) : kJ 124 21 [l0, l1] (.ref q :: st) (mi, ml, mr, nx) Q = kJ 124 24 [l0, l1] (.int (mi q 12) :: st) (mi, ml, mr, nx) Q := kJ_next d124_21 (kg_geti 5 12 rfl h (by decide))
theorem d124_24 : decode (mB 124) 24 = .ok (.ifCond .ne 20, 3) := by decide +kernel
theorem s124_24 {l0 l1 : Option Value} {st : List Value} {a : Int32} {m : kMem} {Q : Option Value → kMem → Prop} : kJ 124 24 [l0, l1] (.int a :: st) m Q = (if a = 0 then kJ 124 27 [l0, l1] st m Q else kJ 124 44 [l0, l1] st m Q) := kJ_if d124_24 rfl (fun h => kJ_next d124_24 h) (fun h => kJ_next d124_24 h)
theorem d124_27 : decode (mB 124) 27 = .ok (.aload_n 0, 1) := by decide +kernel
theorem s124_27 {l1 : Option Value} {st : List Value} {x : Nat} {m : kMem} {Q : Option Value → kMem → Prop} : kJ 124 27 [some (.ref x), l1] st m Q = kJ 124 28 [some (.ref x), l1] (.ref x :: st) m Q := kJ_next d124_27 rfl
theorem d124_28 : decode (mB 124) 28 = .ok (.getfield 91, 3) := by decide +kernel
theorem s124_28 {l0 l1 : Option Value} {st : List Value} {q : Nat} {mi : Nat → Nat → Int32} {ml : Nat → Nat → Int64} {mr : Nat → Nat → Option Nat} {nx : Nat} {Q : Option Value → kMem → Prop} (h : kIs nx q 5 = true) : kJ 124 28 [l0, l1] (.ref q :: st) (mi, ml, mr, nx) Q = kJ 124 31 [l0, l1] (.int (mi q 10) :: st) (mi, ml, mr, nx) Q := kJ_next d124_28 (kg_geti 5 10 rfl h (by decide))
theorem d124_31 : decode (mB 124) 31 = .ok (.ifCond .eq 13, 3) := by decide +kernel
theorem s124_31 {l0 l1 : Option Value} {st : List Value} {a : Int32} {m : kMem} {Q : Option Value → kMem → Prop} : kJ 124 31 [l0, l1] (.int a :: st) m Q = (if a = 0 then kJ 124 44 [l0, l1] st m Q else kJ 124 34 [l0, l1] st m Q) := kJ_if d124_31 rfl (fun h => kJ_next d124_31 h) (fun h => kJ_next d124_31 h)
theorem d124_34 : decode (mB 124) 34 = .ok (.aload_n 0, 1) := by decide +kernel
theorem s124_34 {l1 : Option Value} {st : List Value} {x : Nat} {m : kMem} {Q : Option Value → kMem → Prop} : kJ 124 34 [some (.ref x), l1] st m Q = kJ 124 35 [some (.ref x), l1] (.ref x :: st) m Q := kJ_next d124_34 rfl
theorem d124_35 : decode (mB 124) 35 = .ok (.invokevirtual 127, 3) := by decide +kernel
theorem s124_35 {l0 l1 : Option Value} {v0 : Nat} {m : kMem} {Q : Option Value → kMem → Prop} (h : kIs m.2.2.2 v0 5 = true) : kJ 124 35 [l0, l1] [.ref v0] m Q = kJ 123 0 [some (.ref v0), none] [] m (fun v m2 => kJ 124 38 [l0, l1] (v.toList ++ []) m2 Q) := kJ_call d124_35 (kg_callv 123 0 rfl rfl rfl rfl (Nat.le_of_ble_eq_true rfl) (Nat.le_of_ble_eq_true rfl) (Nat.le_of_ble_eq_true rfl) h rfl)
theorem d124_38 : decode (mB 124) 38 = .ok (.iinc 1 1, 3) := by decide +kernel
theorem s124_38 {l0 : Option Value} {st : List Value} {x : Int32} {m : kMem} {Q : Option Value → kMem → Prop} (hp : kNL l0 = true) : kJ 124 38 [l0, some (.int x)] st m Q = kJ 124 41 [l0, some (.int (x + (nI 1)))] st m Q := kJ_next d124_38 (kg_inc rfl (Nat.le_of_ble_eq_true rfl) hp)
theorem d124_41 : decode (mB 124) 41 = .ok (.goto (-21), 3) := by decide +kernel
theorem s124_41 {l0 l1 : Option Value} {st : List Value} {m : kMem} {Q : Option Value → kMem → Prop} : kJ 124 41 [l0, l1] st m Q = kJ 124 20 [l0, l1] st m Q := kJ_next d124_41 rfl
theorem d124_44 : decode (mB 124) 44 = .ok (.aload_n 0, 1) := by decide +kernel
theorem s124_44 {l1 : Option Value} {st : List Value} {x : Nat} {m : kMem} {Q : Option Value → kMem → Prop} : kJ 124 44 [some (.ref x), l1] st m Q = kJ 124 45 [some (.ref x), l1] (.ref x :: st) m Q := kJ_next d124_44 rfl
theorem d124_45 : decode (mB 124) 45 = .ok (.aload_n 0, 1) := by decide +kernel
theorem s124_45 {l1 : Option Value} {st : List Value} {x : Nat} {m : kMem} {Q : Option Value → kMem → Prop} : kJ 124 45 [some (.ref x), l1] st m Q = kJ 124 46 [some (.ref x), l1] (.ref x :: st) m Q := kJ_next d124_45 rfl
theorem d124_46 : decode (mB 124) 46 = .ok (.getfield 54, 3) := by decide +kernel
theorem s124_46 {l0 l1 : Option Value} {st : List Value} {q : Nat} {mi : Nat → Nat → Int32} {ml : Nat → Nat → Int64} {mr : Nat → Nat → Option Nat} {nx : Nat} {Q : Option Value → kMem → Prop} (h : kIs nx q 5 = true) : kJ 124 46 [l0, l1] (.ref q :: st) (mi, ml, mr, nx) Q = kJ 124 49 [l0, l1] (.int (mi q 5) :: st) (mi, ml, mr, nx) Q := kJ_next d124_46 (kg_geti 5 5 rfl h (by decide))
theorem d124_49 : decode (mB 124) 49 = .ok (.aload_n 0, 1) := by decide +kernel
theorem s124_49 {l1 : Option Value} {st : List Value} {x : Nat} {m : kMem} {Q : Option Value → kMem → Prop} : kJ 124 49 [some (.ref x), l1] st m Q = kJ 124 50 [some (.ref x), l1] (.ref x :: st) m Q := kJ_next d124_49 rfl
theorem d124_50 : decode (mB 124) 50 = .ok (.getfield 20, 3) := by decide +kernel
theorem s124_50 {l0 l1 : Option Value} {st : List Value} {q : Nat} {mi : Nat → Nat → Int32} {ml : Nat → Nat → Int64} {mr : Nat → Nat → Option Nat} {nx : Nat} {Q : Option Value → kMem → Prop} (h : kIs nx q 5 = true) : kJ 124 50 [l0, l1] (.ref q :: st) (mi, ml, mr, nx) Q = kJ 124 53 [l0, l1] (va_rf (mr q 3) :: st) (mi, ml, mr, nx) Q := kJ_next d124_50 (kg_getr 5 3 rfl h (by decide))
theorem d124_53 : decode (mB 124) 53 = .ok (.bipush 15, 2) := by decide +kernel
theorem s124_53 {l0 l1 : Option Value} {st : List Value} {m : kMem} {Q : Option Value → kMem → Prop} : kJ 124 53 [l0, l1] st m Q = kJ 124 55 [l0, l1] (.int (nI 15) :: st) m Q := kJ_next d124_53 rfl
theorem d124_55 : decode (mB 124) 55 = .ok (.iaload, 1) := by decide +kernel
theorem s124_55 {l0 l1 : Option Value} {st : List Value} {q : Nat} {i : Int32} {mi : Nat → Nat → Int32} {ml : Nat → Nat → Int64} {mr : Nat → Nat → Option Nat} {nx : Nat} {Q : Option Value → kMem → Prop} (h : kIs nx q 10 = true) : kJ 124 55 [l0, l1] (.int i :: .ref q :: st) (mi, ml, mr, nx) Q = (vp_in i (kAl q) ∧ kJ 124 56 [l0, l1] (.int (mi q i.toNatClampNeg) :: st) (mi, ml, mr, nx) Q) := kg_aldJ d124_55 rfl (kAr_of h)
theorem d124_56 : decode (mB 124) 56 = .ok (.if_icmp .ge 7, 3) := by decide +kernel
theorem s124_56 {l0 l1 : Option Value} {st : List Value} {a b : Int32} {m : kMem} {Q : Option Value → kMem → Prop} : kJ 124 56 [l0, l1] (.int b :: .int a :: st) m Q = (if b ≤ a then kJ 124 63 [l0, l1] st m Q else kJ 124 59 [l0, l1] st m Q) := kJ_if d124_56 rfl (fun h => kJ_next d124_56 h) (fun h => kJ_next d124_56 h)
theorem d124_59 : decode (mB 124) 59 = .ok (.iconst 1, 1) := by decide +kernel
theorem s124_59 {l0 l1 : Option Value} {st : List Value} {m : kMem} {Q : Option Value → kMem → Prop} : kJ 124 59 [l0, l1] st m Q = kJ 124 60 [l0, l1] (.int (nI 1) :: st) m Q := kJ_next d124_59 rfl
theorem d124_60 : decode (mB 124) 60 = .ok (.goto 4, 3) := by decide +kernel
theorem s124_60 {l0 l1 : Option Value} {st : List Value} {m : kMem} {Q : Option Value → kMem → Prop} : kJ 124 60 [l0, l1] st m Q = kJ 124 64 [l0, l1] st m Q := kJ_next d124_60 rfl
theorem d124_63 : decode (mB 124) 63 = .ok (.iconst 0, 1) := by decide +kernel
theorem s124_63 {l0 l1 : Option Value} {st : List Value} {m : kMem} {Q : Option Value → kMem → Prop} : kJ 124 63 [l0, l1] st m Q = kJ 124 64 [l0, l1] (.int (nI 0) :: st) m Q := kJ_next d124_63 rfl
theorem d124_64 : decode (mB 124) 64 = .ok (.bipush 6, 2) := by decide +kernel
theorem s124_64 {l0 l1 : Option Value} {st : List Value} {m : kMem} {Q : Option Value → kMem → Prop} : kJ 124 64 [l0, l1] st m Q = kJ 124 66 [l0, l1] (.int (nI 6) :: st) m Q := kJ_next d124_64 rfl
theorem d124_66 : decode (mB 124) 66 = .ok (.invokevirtual 105, 3) := by decide +kernel
theorem s124_66 {l0 l1 : Option Value} {v0 : Int32} {v1 : Int32} {v2 : Nat} {m : kMem} {Q : Option Value → kMem → Prop} (h : kIs m.2.2.2 v2 5 = true) : kJ 124 66 [l0, l1] [.int v0, .int v1, .ref v2] m Q = kJ 114 0 [some (.ref v2), some (.int v1), some (.int v0)] [] m (fun v m2 => kJ 124 69 [l0, l1] (v.toList ++ []) m2 Q) := kJ_call d124_66 (kg_callv 114 2 rfl rfl rfl rfl (Nat.le_of_ble_eq_true rfl) (Nat.le_of_ble_eq_true rfl) (Nat.le_of_ble_eq_true rfl) h rfl)
theorem d124_69 : decode (mB 124) 69 = .ok (.aload_n 0, 1) := by decide +kernel
theorem s124_69 {l1 : Option Value} {st : List Value} {x : Nat} {m : kMem} {Q : Option Value → kMem → Prop} : kJ 124 69 [some (.ref x), l1] st m Q = kJ 124 70 [some (.ref x), l1] (.ref x :: st) m Q := kJ_next d124_69 rfl
theorem d124_70 : decode (mB 124) 70 = .ok (.iconst 0, 1) := by decide +kernel
theorem s124_70 {l0 l1 : Option Value} {st : List Value} {m : kMem} {Q : Option Value → kMem → Prop} : kJ 124 70 [l0, l1] st m Q = kJ 124 71 [l0, l1] (.int (nI 0) :: st) m Q := kJ_next d124_70 rfl
theorem d124_71 : decode (mB 124) 71 = .ok (.putfield 64, 3) := by decide +kernel
theorem s124_71 {l0 l1 : Option Value} {st : List Value} {q : Nat} {x : Int32} {mi : Nat → Nat → Int32} {ml : Nat → Nat → Int64} {mr : Nat → Nat → Option Nat} {nx : Nat} {Q : Option Value → kMem → Prop} (h : kIs nx q 5 = true) : kJ 124 71 [l0, l1] (.int x :: .ref q :: st) (mi, ml, mr, nx) Q = kJ 124 74 [l0, l1] st (kup mi q 7 x, ml, mr, nx) Q := kJ_next d124_71 (kg_puti 5 7 rfl h (by decide) (Or.inl (by decide)))
theorem d124_74 : decode (mB 124) 74 = .ok (.aload_n 0, 1) := by decide +kernel
theorem s124_74 {l1 : Option Value} {st : List Value} {x : Nat} {m : kMem} {Q : Option Value → kMem → Prop} : kJ 124 74 [some (.ref x), l1] st m Q = kJ 124 75 [some (.ref x), l1] (.ref x :: st) m Q := kJ_next d124_74 rfl
theorem d124_75 : decode (mB 124) 75 = .ok (.getfield 67, 3) := by decide +kernel
theorem s124_75 {l0 l1 : Option Value} {st : List Value} {q : Nat} {mi : Nat → Nat → Int32} {ml : Nat → Nat → Int64} {mr : Nat → Nat → Option Nat} {nx : Nat} {Q : Option Value → kMem → Prop} (h : kIs nx q 5 = true) : kJ 124 75 [l0, l1] (.ref q :: st) (mi, ml, mr, nx) Q = kJ 124 78 [l0, l1] (.int (mi q 12) :: st) (mi, ml, mr, nx) Q := kJ_next d124_75 (kg_geti 5 12 rfl h (by decide))
theorem d124_78 : decode (mB 124) 78 = .ok (.ifCond .le 11, 3) := by decide +kernel
theorem s124_78 {l0 l1 : Option Value} {st : List Value} {a : Int32} {m : kMem} {Q : Option Value → kMem → Prop} : kJ 124 78 [l0, l1] (.int a :: st) m Q = (if a ≤ 0 then kJ 124 89 [l0, l1] st m Q else kJ 124 81 [l0, l1] st m Q) := kJ_if d124_78 rfl (fun h => kJ_next d124_78 h) (fun h => kJ_next d124_78 h)
theorem d124_81 : decode (mB 124) 81 = .ok (.bipush (-10), 2) := by decide +kernel
theorem s124_81 {l0 l1 : Option Value} {st : List Value} {m : kMem} {Q : Option Value → kMem → Prop} : kJ 124 81 [l0, l1] st m Q = kJ 124 83 [l0, l1] (.int (-10) :: st) m Q := kJ_next d124_81 rfl
theorem d124_83 : decode (mB 124) 83 = .ok (.aload_n 0, 1) := by decide +kernel
theorem s124_83 {l1 : Option Value} {st : List Value} {x : Nat} {m : kMem} {Q : Option Value → kMem → Prop} : kJ 124 83 [some (.ref x), l1] st m Q = kJ 124 84 [some (.ref x), l1] (.ref x :: st) m Q := kJ_next d124_83 rfl
theorem d124_84 : decode (mB 124) 84 = .ok (.getfield 73, 3) := by decide +kernel
theorem s124_84 {l0 l1 : Option Value} {st : List Value} {q : Nat} {mi : Nat → Nat → Int32} {ml : Nat → Nat → Int64} {mr : Nat → Nat → Option Nat} {nx : Nat} {Q : Option Value → kMem → Prop} (h : kIs nx q 5 = true) : kJ 124 84 [l0, l1] (.ref q :: st) (mi, ml, mr, nx) Q = kJ 124 87 [l0, l1] (.int (mi q 13) :: st) (mi, ml, mr, nx) Q := kJ_next d124_84 (kg_geti 5 13 rfl h (by decide))
theorem d124_87 : decode (mB 124) 87 = .ok (.isub, 1) := by decide +kernel
theorem s124_87 {l0 l1 : Option Value} {st : List Value} {a b : Int32} {m : kMem} {Q : Option Value → kMem → Prop} : kJ 124 87 [l0, l1] (.int b :: .int a :: st) m Q = kJ 124 88 [l0, l1] (.int (a - b) :: st) m Q := kJ_next d124_87 rfl
theorem d124_88 : decode (mB 124) 88 = .ok (.ireturn, 1) := by decide +kernel
theorem s124_88 {l0 l1 : Option Value} {x : Int32} {m : kMem} {Q : Option Value → kMem → Prop} : kJ 124 88 [l0, l1] [.int x] m Q = Q (some (.int x)) m := kJ_ret d124_88 rfl
theorem d124_89 : decode (mB 124) 89 = .ok (.aload_n 0, 1) := by decide +kernel
theorem s124_89 {l1 : Option Value} {st : List Value} {x : Nat} {m : kMem} {Q : Option Value → kMem → Prop} : kJ 124 89 [some (.ref x), l1] st m Q = kJ 124 90 [some (.ref x), l1] (.ref x :: st) m Q := kJ_next d124_89 rfl
theorem d124_90 : decode (mB 124) 90 = .ok (.invokevirtual 47, 3) := by decide +kernel
theorem s124_90 {l0 l1 : Option Value} {v0 : Nat} {m : kMem} {Q : Option Value → kMem → Prop} (h : kIs m.2.2.2 v0 5 = true) : kJ 124 90 [l0, l1] [.ref v0] m Q = kJ 111 0 [some (.ref v0), none, none] [] m (fun v m2 => kJ 124 93 [l0, l1] (v.toList ++ []) m2 Q) := kJ_call d124_90 (kg_callv 111 0 rfl rfl rfl rfl (Nat.le_of_ble_eq_true rfl) (Nat.le_of_ble_eq_true rfl) (Nat.le_of_ble_eq_true rfl) h rfl)
theorem d124_93 : decode (mB 124) 93 = .ok (.iload_n 1, 1) := by decide +kernel
theorem s124_93 {l0 : Option Value} {st : List Value} {x : Int32} {m : kMem} {Q : Option Value → kMem → Prop} : kJ 124 93 [l0, some (.int x)] st m Q = kJ 124 94 [l0, some (.int x)] (.int x :: st) m Q := kJ_next d124_93 rfl
theorem d124_94 : decode (mB 124) 94 = .ok (.ireturn, 1) := by decide +kernel
theorem s124_94 {l0 l1 : Option Value} {x : Int32} {m : kMem} {Q : Option Value → kMem → Prop} : kJ 124 94 [l0, l1] [.int x] m Q = Q (some (.int x)) m := kJ_ret d124_94 rfl
theorem d125_0 : decode (mB 125) 0 = .ok (.aload_n 0, 1) := by decide +kernel
theorem s125_0 {st : List Value} {x : Nat} {m : kMem} {Q : Option Value → kMem → Prop} : kJ 125 0 [some (.ref x)] st m Q = kJ 125 1 [some (.ref x)] (.ref x :: st) m Q := kJ_next d125_0 rfl
theorem d125_1 : decode (mB 125) 1 = .ok (.getfield 67, 3) := by decide +kernel
theorem s125_1 {l0 : Option Value} {st : List Value} {q : Nat} {mi : Nat → Nat → Int32} {ml : Nat → Nat → Int64} {mr : Nat → Nat → Option Nat} {nx : Nat} {Q : Option Value → kMem → Prop} (h : kIs nx q 5 = true) : kJ 125 1 [l0] (.ref q :: st) (mi, ml, mr, nx) Q = kJ 125 4 [l0] (.int (mi q 12) :: st) (mi, ml, mr, nx) Q := kJ_next d125_1 (kg_geti 5 12 rfl h (by decide))
theorem d125_4 : decode (mB 125) 4 = .ok (.ireturn, 1) := by decide +kernel
theorem s125_4 {l0 : Option Value} {x : Int32} {m : kMem} {Q : Option Value → kMem → Prop} : kJ 125 4 [l0] [.int x] m Q = Q (some (.int x)) m := kJ_ret d125_4 rfl
theorem d126_0 : decode (mB 126) 0 = .ok (.iload_n 1, 1) := by decide +kernel
theorem s126_0 {l0 : Option Value} {st : List Value} {x : Int32} {m : kMem} {Q : Option Value → kMem → Prop} : kJ 126 0 [l0, some (.int x)] st m Q = kJ 126 1 [l0, some (.int x)] (.int x :: st) m Q := kJ_next d126_0 rfl
theorem d126_1 : decode (mB 126) 1 = .ok (.i2l, 1) := by decide +kernel
theorem s126_1 {l0 l1 : Option Value} {st : List Value} {a : Int32} {m : kMem} {Q : Option Value → kMem → Prop} : kJ 126 1 [l0, l1] (.int a :: st) m Q = kJ 126 2 [l0, l1] (.long a.toInt64 :: st) m Q := kJ_next d126_1 rfl
theorem d126_2 : decode (mB 126) 2 = .ok (.lconst 0, 1) := by decide +kernel
theorem s126_2 {l0 l1 : Option Value} {st : List Value} {m : kMem} {Q : Option Value → kMem → Prop} : kJ 126 2 [l0, l1] st m Q = kJ 126 3 [l0, l1] (.long 0 :: st) m Q := kJ_next d126_2 rfl
theorem d126_3 : decode (mB 126) 3 = .ok (.aload_n 0, 1) := by decide +kernel
theorem s126_3 {l1 : Option Value} {st : List Value} {x : Nat} {m : kMem} {Q : Option Value → kMem → Prop} : kJ 126 3 [some (.ref x), l1] st m Q = kJ 126 4 [some (.ref x), l1] (.ref x :: st) m Q := kJ_next d126_3 rfl
theorem d126_4 : decode (mB 126) 4 = .ok (.getfield 7, 3) := by decide +kernel
theorem s126_4 {l0 l1 : Option Value} {st : List Value} {q : Nat} {mi : Nat → Nat → Int32} {ml : Nat → Nat → Int64} {mr : Nat → Nat → Option Nat} {nx : Nat} {Q : Option Value → kMem → Prop} (h : kIs nx q 5 = true) : kJ 126 4 [l0, l1] (.ref q :: st) (mi, ml, mr, nx) Q = kJ 126 7 [l0, l1] (va_rf (mr q 0) :: st) (mi, ml, mr, nx) Q := kJ_next d126_4 (kg_getr 5 0 rfl h (by decide))
theorem d126_7 : decode (mB 126) 7 = .ok (.bipush 15, 2) := by decide +kernel
theorem s126_7 {l0 l1 : Option Value} {st : List Value} {m : kMem} {Q : Option Value → kMem → Prop} : kJ 126 7 [l0, l1] st m Q = kJ 126 9 [l0, l1] (.int (nI 15) :: st) m Q := kJ_next d126_7 rfl
theorem d126_9 : decode (mB 126) 9 = .ok (.iaload, 1) := by decide +kernel
theorem s126_9 {l0 l1 : Option Value} {st : List Value} {q : Nat} {i : Int32} {mi : Nat → Nat → Int32} {ml : Nat → Nat → Int64} {mr : Nat → Nat → Option Nat} {nx : Nat} {Q : Option Value → kMem → Prop} (h : kIs nx q 10 = true) : kJ 126 9 [l0, l1] (.int i :: .ref q :: st) (mi, ml, mr, nx) Q = (vp_in i (kAl q) ∧ kJ 126 10 [l0, l1] (.int (mi q i.toNatClampNeg) :: st) (mi, ml, mr, nx) Q) := kg_aldJ d126_9 rfl (kAr_of h)
theorem d126_10 : decode (mB 126) 10 = .ok (.iconst 1, 1) := by decide +kernel
theorem s126_10 {l0 l1 : Option Value} {st : List Value} {m : kMem} {Q : Option Value → kMem → Prop} : kJ 126 10 [l0, l1] st m Q = kJ 126 11 [l0, l1] (.int (nI 1) :: st) m Q := kJ_next d126_10 rfl
theorem d126_11 : decode (mB 126) 11 = .ok (.isub, 1) := by decide +kernel
theorem s126_11 {l0 l1 : Option Value} {st : List Value} {a b : Int32} {m : kMem} {Q : Option Value → kMem → Prop} : kJ 126 11 [l0, l1] (.int b :: .int a :: st) m Q = kJ 126 12 [l0, l1] (.int (a - b) :: st) m Q := kJ_next d126_11 rfl
theorem d126_12 : decode (mB 126) 12 = .ok (.i2l, 1) := by decide +kernel
theorem s126_12 {l0 l1 : Option Value} {st : List Value} {a : Int32} {m : kMem} {Q : Option Value → kMem → Prop} : kJ 126 12 [l0, l1] (.int a :: st) m Q = kJ 126 13 [l0, l1] (.long a.toInt64 :: st) m Q := kJ_next d126_12 rfl
theorem d126_13 : decode (mB 126) 13 = .ok (.invokestatic 60, 3) := by decide +kernel
theorem s126_13 {l0 l1 : Option Value} {v0 : Int64} {v1 : Int64} {v2 : Int64} {m : kMem} {Q : Option Value → kMem → Prop} : kJ 126 13 [l0, l1] [.long v0, .long v1, .long v2] m Q = kJ 107 0 [some (.long v2), none, some (.long v1), none, some (.long v0), none] [] m (fun v m2 => kJ 126 16 [l0, l1] (v.toList ++ []) m2 Q) := kJ_call d126_13 (kg_calls 107 3 rfl rfl (Nat.le_of_ble_eq_true rfl) (Nat.le_of_ble_eq_true rfl) (Nat.le_of_ble_eq_true rfl) (Nat.le_of_ble_eq_true rfl))
theorem d126_16 : decode (mB 126) 16 = .ok (.ireturn, 1) := by decide +kernel
theorem s126_16 {l0 l1 : Option Value} {x : Int32} {m : kMem} {Q : Option Value → kMem → Prop} (hx : x = 0 ∨ x = 1) : kJ 126 16 [l0, l1] [.int x] m Q = Q (some (.int x)) m := kJ_ret d126_16 (kg_retz (by decide) hx)
theorem d127_0 : decode (mB 127) 0 = .ok (.iload_n 1, 1) := by decide +kernel
theorem s127_0 {l0 : Option Value} {st : List Value} {x : Int32} {m : kMem} {Q : Option Value → kMem → Prop} : kJ 127 0 [l0, some (.int x)] st m Q = kJ 127 1 [l0, some (.int x)] (.int x :: st) m Q := kJ_next d127_0 rfl
theorem d127_1 : decode (mB 127) 1 = .ok (.i2l, 1) := by decide +kernel
theorem s127_1 {l0 l1 : Option Value} {st : List Value} {a : Int32} {m : kMem} {Q : Option Value → kMem → Prop} : kJ 127 1 [l0, l1] (.int a :: st) m Q = kJ 127 2 [l0, l1] (.long a.toInt64 :: st) m Q := kJ_next d127_1 rfl
theorem d127_2 : decode (mB 127) 2 = .ok (.lconst 0, 1) := by decide +kernel
theorem s127_2 {l0 l1 : Option Value} {st : List Value} {m : kMem} {Q : Option Value → kMem → Prop} : kJ 127 2 [l0, l1] st m Q = kJ 127 3 [l0, l1] (.long 0 :: st) m Q := kJ_next d127_2 rfl
theorem d127_3 : decode (mB 127) 3 = .ok (.aload_n 0, 1) := by decide +kernel
theorem s127_3 {l1 : Option Value} {st : List Value} {x : Nat} {m : kMem} {Q : Option Value → kMem → Prop} : kJ 127 3 [some (.ref x), l1] st m Q = kJ 127 4 [some (.ref x), l1] (.ref x :: st) m Q := kJ_next d127_3 rfl
theorem d127_4 : decode (mB 127) 4 = .ok (.getfield 7, 3) := by decide +kernel
theorem s127_4 {l0 l1 : Option Value} {st : List Value} {q : Nat} {mi : Nat → Nat → Int32} {ml : Nat → Nat → Int64} {mr : Nat → Nat → Option Nat} {nx : Nat} {Q : Option Value → kMem → Prop} (h : kIs nx q 5 = true) : kJ 127 4 [l0, l1] (.ref q :: st) (mi, ml, mr, nx) Q = kJ 127 7 [l0, l1] (va_rf (mr q 0) :: st) (mi, ml, mr, nx) Q := kJ_next d127_4 (kg_getr 5 0 rfl h (by decide))
theorem d127_7 : decode (mB 127) 7 = .ok (.bipush 52, 2) := by decide +kernel
theorem s127_7 {l0 l1 : Option Value} {st : List Value} {m : kMem} {Q : Option Value → kMem → Prop} : kJ 127 7 [l0, l1] st m Q = kJ 127 9 [l0, l1] (.int (nI 52) :: st) m Q := kJ_next d127_7 rfl
theorem d127_9 : decode (mB 127) 9 = .ok (.iaload, 1) := by decide +kernel
theorem s127_9 {l0 l1 : Option Value} {st : List Value} {q : Nat} {i : Int32} {mi : Nat → Nat → Int32} {ml : Nat → Nat → Int64} {mr : Nat → Nat → Option Nat} {nx : Nat} {Q : Option Value → kMem → Prop} (h : kIs nx q 10 = true) : kJ 127 9 [l0, l1] (.int i :: .ref q :: st) (mi, ml, mr, nx) Q = (vp_in i (kAl q) ∧ kJ 127 10 [l0, l1] (.int (mi q i.toNatClampNeg) :: st) (mi, ml, mr, nx) Q) := kg_aldJ d127_9 rfl (kAr_of h)
theorem d127_10 : decode (mB 127) 10 = .ok (.iconst 1, 1) := by decide +kernel
theorem s127_10 {l0 l1 : Option Value} {st : List Value} {m : kMem} {Q : Option Value → kMem → Prop} : kJ 127 10 [l0, l1] st m Q = kJ 127 11 [l0, l1] (.int (nI 1) :: st) m Q := kJ_next d127_10 rfl
theorem d127_11 : decode (mB 127) 11 = .ok (.isub, 1) := by decide +kernel
theorem s127_11 {l0 l1 : Option Value} {st : List Value} {a b : Int32} {m : kMem} {Q : Option Value → kMem → Prop} : kJ 127 11 [l0, l1] (.int b :: .int a :: st) m Q = kJ 127 12 [l0, l1] (.int (a - b) :: st) m Q := kJ_next d127_11 rfl
theorem d127_12 : decode (mB 127) 12 = .ok (.i2l, 1) := by decide +kernel
theorem s127_12 {l0 l1 : Option Value} {st : List Value} {a : Int32} {m : kMem} {Q : Option Value → kMem → Prop} : kJ 127 12 [l0, l1] (.int a :: st) m Q = kJ 127 13 [l0, l1] (.long a.toInt64 :: st) m Q := kJ_next d127_12 rfl
theorem d127_13 : decode (mB 127) 13 = .ok (.invokestatic 60, 3) := by decide +kernel
theorem s127_13 {l0 l1 : Option Value} {v0 : Int64} {v1 : Int64} {v2 : Int64} {m : kMem} {Q : Option Value → kMem → Prop} : kJ 127 13 [l0, l1] [.long v0, .long v1, .long v2] m Q = kJ 107 0 [some (.long v2), none, some (.long v1), none, some (.long v0), none] [] m (fun v m2 => kJ 127 16 [l0, l1] (v.toList ++ []) m2 Q) := kJ_call d127_13 (kg_calls 107 3 rfl rfl (Nat.le_of_ble_eq_true rfl) (Nat.le_of_ble_eq_true rfl) (Nat.le_of_ble_eq_true rfl) (Nat.le_of_ble_eq_true rfl))
theorem d127_16 : decode (mB 127) 16 = .ok (.ireturn, 1) := by decide +kernel
theorem s127_16 {l0 l1 : Option Value} {x : Int32} {m : kMem} {Q : Option Value → kMem → Prop} (hx : x = 0 ∨ x = 1) : kJ 127 16 [l0, l1] [.int x] m Q = Q (some (.int x)) m := kJ_ret d127_16 (kg_retz (by decide) hx)
theorem d128_0 : decode (mB 128) 0 = .ok (.iload_n 0, 1) := by decide +kernel
theorem s128_0 {st : List Value} {x : Int32} {m : kMem} {Q : Option Value → kMem → Prop} : kJ 128 0 [some (.int x)] st m Q = kJ 128 1 [some (.int x)] (.int x :: st) m Q := kJ_next d128_0 rfl
theorem d128_1 : decode (mB 128) 1 = .ok (.i2l, 1) := by decide +kernel
theorem s128_1 {l0 : Option Value} {st : List Value} {a : Int32} {m : kMem} {Q : Option Value → kMem → Prop} : kJ 128 1 [l0] (.int a :: st) m Q = kJ 128 2 [l0] (.long a.toInt64 :: st) m Q := kJ_next d128_1 rfl
theorem d128_2 : decode (mB 128) 2 = .ok (.lconst 0, 1) := by decide +kernel
theorem s128_2 {l0 : Option Value} {st : List Value} {m : kMem} {Q : Option Value → kMem → Prop} : kJ 128 2 [l0] st m Q = kJ 128 3 [l0] (.long 0 :: st) m Q := kJ_next d128_2 rfl
theorem d128_3 : decode (mB 128) 3 = .ok (.ldc2_w 130, 3) := by decide +kernel
theorem s128_3 {l0 : Option Value} {st : List Value} {m : kMem} {Q : Option Value → kMem → Prop} : kJ 128 3 [l0] st m Q = kJ 128 6 [l0] (.long (18) :: st) m Q := kJ_next d128_3 rfl
theorem d128_6 : decode (mB 128) 6 = .ok (.invokestatic 60, 3) := by decide +kernel
theorem s128_6 {l0 : Option Value} {v0 : Int64} {v1 : Int64} {v2 : Int64} {m : kMem} {Q : Option Value → kMem → Prop} : kJ 128 6 [l0] [.long v0, .long v1, .long v2] m Q = kJ 107 0 [some (.long v2), none, some (.long v1), none, some (.long v0), none] [] m (fun v m2 => kJ 128 9 [l0] (v.toList ++ []) m2 Q) := kJ_call d128_6 (kg_calls 107 3 rfl rfl (Nat.le_of_ble_eq_true rfl) (Nat.le_of_ble_eq_true rfl) (Nat.le_of_ble_eq_true rfl) (Nat.le_of_ble_eq_true rfl))
theorem d128_9 : decode (mB 128) 9 = .ok (.ireturn, 1) := by decide +kernel
theorem s128_9 {l0 : Option Value} {x : Int32} {m : kMem} {Q : Option Value → kMem → Prop} (hx : x = 0 ∨ x = 1) : kJ 128 9 [l0] [.int x] m Q = Q (some (.int x)) m := kJ_ret d128_9 (kg_retz (by decide) hx)
theorem d129_0 : decode (mB 129) 0 = .ok (.iload_n 0, 1) := by decide +kernel
theorem s129_0 {st : List Value} {x : Int32} {m : kMem} {Q : Option Value → kMem → Prop} : kJ 129 0 [some (.int x)] st m Q = kJ 129 1 [some (.int x)] (.int x :: st) m Q := kJ_next d129_0 rfl
theorem d129_1 : decode (mB 129) 1 = .ok (.i2l, 1) := by decide +kernel
theorem s129_1 {l0 : Option Value} {st : List Value} {a : Int32} {m : kMem} {Q : Option Value → kMem → Prop} : kJ 129 1 [l0] (.int a :: st) m Q = kJ 129 2 [l0] (.long a.toInt64 :: st) m Q := kJ_next d129_1 rfl
theorem d129_2 : decode (mB 129) 2 = .ok (.lconst 0, 1) := by decide +kernel
theorem s129_2 {l0 : Option Value} {st : List Value} {m : kMem} {Q : Option Value → kMem → Prop} : kJ 129 2 [l0] st m Q = kJ 129 3 [l0] (.long 0 :: st) m Q := kJ_next d129_2 rfl
theorem d129_3 : decode (mB 129) 3 = .ok (.lconst 1, 1) := by decide +kernel
theorem s129_3 {l0 : Option Value} {st : List Value} {m : kMem} {Q : Option Value → kMem → Prop} : kJ 129 3 [l0] st m Q = kJ 129 4 [l0] (.long 1 :: st) m Q := kJ_next d129_3 rfl
theorem d129_4 : decode (mB 129) 4 = .ok (.invokestatic 60, 3) := by decide +kernel
theorem s129_4 {l0 : Option Value} {v0 : Int64} {v1 : Int64} {v2 : Int64} {m : kMem} {Q : Option Value → kMem → Prop} : kJ 129 4 [l0] [.long v0, .long v1, .long v2] m Q = kJ 107 0 [some (.long v2), none, some (.long v1), none, some (.long v0), none] [] m (fun v m2 => kJ 129 7 [l0] (v.toList ++ []) m2 Q) := kJ_call d129_4 (kg_calls 107 3 rfl rfl (Nat.le_of_ble_eq_true rfl) (Nat.le_of_ble_eq_true rfl) (Nat.le_of_ble_eq_true rfl) (Nat.le_of_ble_eq_true rfl))
theorem d129_7 : decode (mB 129) 7 = .ok (.ireturn, 1) := by decide +kernel
theorem s129_7 {l0 : Option Value} {x : Int32} {m : kMem} {Q : Option Value → kMem → Prop} (hx : x = 0 ∨ x = 1) : kJ 129 7 [l0] [.int x] m Q = Q (some (.int x)) m := kJ_ret d129_7 (kg_retz (by decide) hx)
