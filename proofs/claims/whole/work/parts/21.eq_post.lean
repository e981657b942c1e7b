theorem d4_0 : decode (mB 4) 0 = .ok (.aload_n 0, 1) := by decide +kernel
theorem s4_0 {st : List Value} {x : Nat} {m : kMem} {Q : Option Value → kMem → Prop} : kJ 4 0 [some (.ref x)] st m Q = kJ 4 1 [some (.ref x)] (.ref x :: st) m Q := kJ_next d4_0 rfl
theorem d4_1 : decode (mB 4) 1 = .ok (.invokespecial 3, 3) := by decide +kernel
theorem s4_1 {l0 : Option Value}  {q : Nat} {m : kMem} {Q : Option Value → kMem → Prop} : kJ 4 1 [l0] [.ref q] m Q = kJ 4 4 [l0] [] m Q := kJ_next d4_1 (kg_obj rfl rfl (Nat.le_of_ble_eq_true rfl))
theorem d4_4 : decode (mB 4) 4 = .ok (.aload_n 0, 1) := by decide +kernel
theorem s4_4 {st : List Value} {x : Nat} {m : kMem} {Q : Option Value → kMem → Prop} : kJ 4 4 [some (.ref x)] st m Q = kJ 4 5 [some (.ref x)] (.ref x :: st) m Q := kJ_next d4_4 rfl
theorem d4_5 : decode (mB 4) 5 = .ok (.iconst 5, 1) := by decide +kernel
theorem s4_5 {l0 : Option Value} {st : List Value} {m : kMem} {Q : Option Value → kMem → Prop} : kJ 4 5 [l0] st m Q = kJ 4 6 [l0] (.int (nI 5) :: st) m Q := kJ_next d4_5 rfl
theorem d4_6 : decode (mB 4) 6 = .ok (.newarray .int, 2) := by decide +kernel
theorem s4_6 {l0 : Option Value} {st : List Value} {n : Int32} {mi : Nat → Nat → Int32} {ml : Nat → Nat → Int64} {mr : Nat → Nat → Option Nat} {nx : Nat} {Q : Option Value → kMem → Prop} (h : nx < 95) (h2 : kAt nx = (10, n.toNatClampNeg)) (h3 : ¬ n < 0) (h4 : n.toNatClampNeg ≤ 2000) : kJ 4 6 [l0] (.int n :: st) (mi, ml, mr, nx) Q = kJ 4 8 [l0] (.ref nx :: st) (kRow mi nx (fun _ => 0), kRow ml nx (fun _ => 0), kRow mr nx (fun _ => none), nx + 1) Q := kJ_next d4_6 (kg_newa h h2 h3 h4)
theorem d4_8 : decode (mB 4) 8 = .ok (.putfield 9, 3) := by decide +kernel
theorem s4_8 {l0 : Option Value} {st : List Value} {q : Nat} {x : Nat} {mi : Nat → Nat → Int32} {ml : Nat → Nat → Int64} {mr : Nat → Nat → Option Nat} {nx : Nat} {Q : Option Value → kMem → Prop} (h : kIs nx q 1 = true) (hx : x < 1000) : kJ 4 8 [l0] (.ref x :: .ref q :: st) (mi, ml, mr, nx) Q = kJ 4 11 [l0] st (mi, ml, kupR mr q 1 (some x), nx) Q := kJ_next d4_8 (kg_putr 1 1 rfl h (by decide) (by decide) rfl rfl hx)
theorem d4_11 : decode (mB 4) 11 = .ok (.aload_n 0, 1) := by decide +kernel
theorem s4_11 {st : List Value} {x : Nat} {m : kMem} {Q : Option Value → kMem → Prop} : kJ 4 11 [some (.ref x)] st m Q = kJ 4 12 [some (.ref x)] (.ref x :: st) m Q := kJ_next d4_11 rfl
theorem d4_12 : decode (mB 4) 12 = .ok (.iconst 5, 1) := by decide +kernel
theorem s4_12 {l0 : Option Value} {st : List Value} {m : kMem} {Q : Option Value → kMem → Prop} : kJ 4 12 [l0] st m Q = kJ 4 13 [l0] (.int (nI 5) :: st) m Q := kJ_next d4_12 rfl
theorem d4_13 : decode (mB 4) 13 = .ok (.newarray .int, 2) := by decide +kernel
theorem s4_13 {l0 : Option Value} {st : List Value} {n : Int32} {mi : Nat → Nat → Int32} {ml : Nat → Nat → Int64} {mr : Nat → Nat → Option Nat} {nx : Nat} {Q : Option Value → kMem → Prop} (h : nx < 95) (h2 : kAt nx = (10, n.toNatClampNeg)) (h3 : ¬ n < 0) (h4 : n.toNatClampNeg ≤ 2000) : kJ 4 13 [l0] (.int n :: st) (mi, ml, mr, nx) Q = kJ 4 15 [l0] (.ref nx :: st) (kRow mi nx (fun _ => 0), kRow ml nx (fun _ => 0), kRow mr nx (fun _ => none), nx + 1) Q := kJ_next d4_13 (kg_newa h h2 h3 h4)
theorem d4_15 : decode (mB 4) 15 = .ok (.putfield 15, 3) := by decide +kernel
theorem s4_15 {l0 : Option Value} {st : List Value} {q : Nat} {x : Nat} {mi : Nat → Nat → Int32} {ml : Nat → Nat → Int64} {mr : Nat → Nat → Option Nat} {nx : Nat} {Q : Option Value → kMem → Prop} (h : kIs nx q 1 = true) (hx : x < 1000) : kJ 4 15 [l0] (.ref x :: .ref q :: st) (mi, ml, mr, nx) Q = kJ 4 18 [l0] st (mi, ml, kupR mr q 2 (some x), nx) Q := kJ_next d4_15 (kg_putr 1 2 rfl h (by decide) (by decide) rfl rfl hx)
theorem d4_18 : decode (mB 4) 18 = .ok (.aload_n 0, 1) := by decide +kernel
theorem s4_18 {st : List Value} {x : Nat} {m : kMem} {Q : Option Value → kMem → Prop} : kJ 4 18 [some (.ref x)] st m Q = kJ 4 19 [some (.ref x)] (.ref x :: st) m Q := kJ_next d4_18 rfl
theorem d4_19 : decode (mB 4) 19 = .ok (.iconst 5, 1) := by decide +kernel
theorem s4_19 {l0 : Option Value} {st : List Value} {m : kMem} {Q : Option Value → kMem → Prop} : kJ 4 19 [l0] st m Q = kJ 4 20 [l0] (.int (nI 5) :: st) m Q := kJ_next d4_19 rfl
theorem d4_20 : decode (mB 4) 20 = .ok (.newarray .int, 2) := by decide +kernel
theorem s4_20 {l0 : Option Value} {st : List Value} {n : Int32} {mi : Nat → Nat → Int32} {ml : Nat → Nat → Int64} {mr : Nat → Nat → Option Nat} {nx : Nat} {Q : Option Value → kMem → Prop} (h : nx < 95) (h2 : kAt nx = (10, n.toNatClampNeg)) (h3 : ¬ n < 0) (h4 : n.toNatClampNeg ≤ 2000) : kJ 4 20 [l0] (.int n :: st) (mi, ml, mr, nx) Q = kJ 4 22 [l0] (.ref nx :: st) (kRow mi nx (fun _ => 0), kRow ml nx (fun _ => 0), kRow mr nx (fun _ => none), nx + 1) Q := kJ_next d4_20 (kg_newa h h2 h3 h4)
theorem d4_22 : decode (mB 4) 22 = .ok (.putfield 18, 3) := by decide +kernel
theorem s4_22 {l0 : Option Value} {st : List Value} {q : Nat} {x : Nat} {mi : Nat → Nat → Int32} {ml : Nat → Nat → Int64} {mr : Nat → Nat → Option Nat} {nx : Nat} {Q : Option Value → kMem → Prop} (h : kIs nx q 1 = true) (hx : x < 1000) : kJ 4 22 [l0] (.ref x :: .ref q :: st) (mi, ml, mr, nx) Q = kJ 4 25 [l0] st (mi, ml, kupR mr q 3 (some x), nx) Q := kJ_next d4_22 (kg_putr 1 3 rfl h (by decide) (by decide) rfl rfl hx)
theorem d4_25 : decode (mB 4) 25 = .ok (.aload_n 0, 1) := by decide +kernel
theorem s4_25 {st : List Value} {x : Nat} {m : kMem} {Q : Option Value → kMem → Prop} : kJ 4 25 [some (.ref x)] st m Q = kJ 4 26 [some (.ref x)] (.ref x :: st) m Q := kJ_next d4_25 rfl
theorem d4_26 : decode (mB 4) 26 = .ok (.bipush 6, 2) := by decide +kernel
theorem s4_26 {l0 : Option Value} {st : List Value} {m : kMem} {Q : Option Value → kMem → Prop} : kJ 4 26 [l0] st m Q = kJ 4 28 [l0] (.int (nI 6) :: st) m Q := kJ_next d4_26 rfl
theorem d4_28 : decode (mB 4) 28 = .ok (.newarray .int, 2) := by decide +kernel
theorem s4_28 {l0 : Option Value} {st : List Value} {n : Int32} {mi : Nat → Nat → Int32} {ml : Nat → Nat → Int64} {mr : Nat → Nat → Option Nat} {nx : Nat} {Q : Option Value → kMem → Prop} (h : nx < 95) (h2 : kAt nx = (10, n.toNatClampNeg)) (h3 : ¬ n < 0) (h4 : n.toNatClampNeg ≤ 2000) : kJ 4 28 [l0] (.int n :: st) (mi, ml, mr, nx) Q = kJ 4 30 [l0] (.ref nx :: st) (kRow mi nx (fun _ => 0), kRow ml nx (fun _ => 0), kRow mr nx (fun _ => none), nx + 1) Q := kJ_next d4_28 (kg_newa h h2 h3 h4)
theorem d4_30 : decode (mB 4) 30 = .ok (.putfield 21, 3) := by decide +kernel
theorem s4_30 {l0 : Option Value} {st : List Value} {q : Nat} {x : Nat} {mi : Nat → Nat → Int32} {ml : Nat → Nat → Int64} {mr : Nat → Nat → Option Nat} {nx : Nat} {Q : Option Value → kMem → Prop} (h : kIs nx q 1 = true) (hx : x < 1000) : kJ 4 30 [l0] (.ref x :: .ref q :: st) (mi, ml, mr, nx) Q = kJ 4 33 [l0] st (mi, ml, kupR mr q 5 (some x), nx) Q := kJ_next d4_30 (kg_putr 1 5 rfl h (by decide) (by decide) rfl rfl hx)
theorem d4_33 : decode (mB 4) 33 = .ok (.aload_n 0, 1) := by decide +kernel
theorem s4_33 {st : List Value} {x : Nat} {m : kMem} {Q : Option Value → kMem → Prop} : kJ 4 33 [some (.ref x)] st m Q = kJ 4 34 [some (.ref x)] (.ref x :: st) m Q := kJ_next d4_33 rfl
theorem d4_34 : decode (mB 4) 34 = .ok (.bipush 6, 2) := by decide +kernel
theorem s4_34 {l0 : Option Value} {st : List Value} {m : kMem} {Q : Option Value → kMem → Prop} : kJ 4 34 [l0] st m Q = kJ 4 36 [l0] (.int (nI 6) :: st) m Q := kJ_next d4_34 rfl
theorem d4_36 : decode (mB 4) 36 = .ok (.newarray .int, 2) := by decide +kernel
theorem s4_36 {l0 : Option Value} {st : List Value} {n : Int32} {mi : Nat → Nat → Int32} {ml : Nat → Nat → Int64} {mr : Nat → Nat → Option Nat} {nx : Nat} {Q : Option Value → kMem → Prop} (h : nx < 95) (h2 : kAt nx = (10, n.toNatClampNeg)) (h3 : ¬ n < 0) (h4 : n.toNatClampNeg ≤ 2000) : kJ 4 36 [l0] (.int n :: st) (mi, ml, mr, nx) Q = kJ 4 38 [l0] (.ref nx :: st) (kRow mi nx (fun _ => 0), kRow ml nx (fun _ => 0), kRow mr nx (fun _ => none), nx + 1) Q := kJ_next d4_36 (kg_newa h h2 h3 h4)
theorem d4_38 : decode (mB 4) 38 = .ok (.putfield 24, 3) := by decide +kernel
theorem s4_38 {l0 : Option Value} {st : List Value} {q : Nat} {x : Nat} {mi : Nat → Nat → Int32} {ml : Nat → Nat → Int64} {mr : Nat → Nat → Option Nat} {nx : Nat} {Q : Option Value → kMem → Prop} (h : kIs nx q 1 = true) (hx : x < 1000) : kJ 4 38 [l0] (.ref x :: .ref q :: st) (mi, ml, mr, nx) Q = kJ 4 41 [l0] st (mi, ml, kupR mr q 6 (some x), nx) Q := kJ_next d4_38 (kg_putr 1 6 rfl h (by decide) (by decide) rfl rfl hx)
theorem d4_41 : decode (mB 4) 41 = .ok (.aload_n 0, 1) := by decide +kernel
theorem s4_41 {st : List Value} {x : Nat} {m : kMem} {Q : Option Value → kMem → Prop} : kJ 4 41 [some (.ref x)] st m Q = kJ 4 42 [some (.ref x)] (.ref x :: st) m Q := kJ_next d4_41 rfl
theorem d4_42 : decode (mB 4) 42 = .ok (.bipush 6, 2) := by decide +kernel
theorem s4_42 {l0 : Option Value} {st : List Value} {m : kMem} {Q : Option Value → kMem → Prop} : kJ 4 42 [l0] st m Q = kJ 4 44 [l0] (.int (nI 6) :: st) m Q := kJ_next d4_42 rfl
theorem d4_44 : decode (mB 4) 44 = .ok (.newarray .int, 2) := by decide +kernel
theorem s4_44 {l0 : Option Value} {st : List Value} {n : Int32} {mi : Nat → Nat → Int32} {ml : Nat → Nat → Int64} {mr : Nat → Nat → Option Nat} {nx : Nat} {Q : Option Value → kMem → Prop} (h : nx < 95) (h2 : kAt nx = (10, n.toNatClampNeg)) (h3 : ¬ n < 0) (h4 : n.toNatClampNeg ≤ 2000) : kJ 4 44 [l0] (.int n :: st) (mi, ml, mr, nx) Q = kJ 4 46 [l0] (.ref nx :: st) (kRow mi nx (fun _ => 0), kRow ml nx (fun _ => 0), kRow mr nx (fun _ => none), nx + 1) Q := kJ_next d4_44 (kg_newa h h2 h3 h4)
theorem d4_46 : decode (mB 4) 46 = .ok (.putfield 27, 3) := by decide +kernel
theorem s4_46 {l0 : Option Value} {st : List Value} {q : Nat} {x : Nat} {mi : Nat → Nat → Int32} {ml : Nat → Nat → Int64} {mr : Nat → Nat → Option Nat} {nx : Nat} {Q : Option Value → kMem → Prop} (h : kIs nx q 1 = true) (hx : x < 1000) : kJ 4 46 [l0] (.ref x :: .ref q :: st) (mi, ml, mr, nx) Q = kJ 4 49 [l0] st (mi, ml, kupR mr q 7 (some x), nx) Q := kJ_next d4_46 (kg_putr 1 7 rfl h (by decide) (by decide) rfl rfl hx)
theorem d4_49 : decode (mB 4) 49 = .ok (.aload_n 0, 1) := by decide +kernel
theorem s4_49 {st : List Value} {x : Nat} {m : kMem} {Q : Option Value → kMem → Prop} : kJ 4 49 [some (.ref x)] st m Q = kJ 4 50 [some (.ref x)] (.ref x :: st) m Q := kJ_next d4_49 rfl
theorem d4_50 : decode (mB 4) 50 = .ok (.bipush 6, 2) := by decide +kernel
theorem s4_50 {l0 : Option Value} {st : List Value} {m : kMem} {Q : Option Value → kMem → Prop} : kJ 4 50 [l0] st m Q = kJ 4 52 [l0] (.int (nI 6) :: st) m Q := kJ_next d4_50 rfl
theorem d4_52 : decode (mB 4) 52 = .ok (.newarray .int, 2) := by decide +kernel
theorem s4_52 {l0 : Option Value} {st : List Value} {n : Int32} {mi : Nat → Nat → Int32} {ml : Nat → Nat → Int64} {mr : Nat → Nat → Option Nat} {nx : Nat} {Q : Option Value → kMem → Prop} (h : nx < 95) (h2 : kAt nx = (10, n.toNatClampNeg)) (h3 : ¬ n < 0) (h4 : n.toNatClampNeg ≤ 2000) : kJ 4 52 [l0] (.int n :: st) (mi, ml, mr, nx) Q = kJ 4 54 [l0] (.ref nx :: st) (kRow mi nx (fun _ => 0), kRow ml nx (fun _ => 0), kRow mr nx (fun _ => none), nx + 1) Q := kJ_next d4_52 (kg_newa h h2 h3 h4)
theorem d4_54 : decode (mB 4) 54 = .ok (.putfield 30, 3) := by decide +kernel
theorem s4_54 {l0 : Option Value} {st : List Value} {q : Nat} {x : Nat} {mi : Nat → Nat → Int32} {ml : Nat → Nat → Int64} {mr : Nat → Nat → Option Nat} {nx : Nat} {Q : Option Value → kMem → Prop} (h : kIs nx q 1 = true) (hx : x < 1000) : kJ 4 54 [l0] (.ref x :: .ref q :: st) (mi, ml, mr, nx) Q = kJ 4 57 [l0] st (mi, ml, kupR mr q 8 (some x), nx) Q := kJ_next d4_54 (kg_putr 1 8 rfl h (by decide) (by decide) rfl rfl hx)
theorem d4_57 : decode (mB 4) 57 = .ok (.aload_n 0, 1) := by decide +kernel
theorem s4_57 {st : List Value} {x : Nat} {m : kMem} {Q : Option Value → kMem → Prop} : kJ 4 57 [some (.ref x)] st m Q = kJ 4 58 [some (.ref x)] (.ref x :: st) m Q := kJ_next d4_57 rfl
theorem d4_58 : decode (mB 4) 58 = .ok (.bipush 6, 2) := by decide +kernel
theorem s4_58 {l0 : Option Value} {st : List Value} {m : kMem} {Q : Option Value → kMem → Prop} : kJ 4 58 [l0] st m Q = kJ 4 60 [l0] (.int (nI 6) :: st) m Q := kJ_next d4_58 rfl
theorem d4_60 : decode (mB 4) 60 = .ok (.newarray .int, 2) := by decide +kernel
theorem s4_60 {l0 : Option Value} {st : List Value} {n : Int32} {mi : Nat → Nat → Int32} {ml : Nat → Nat → Int64} {mr : Nat → Nat → Option Nat} {nx : Nat} {Q : Option Value → kMem → Prop} (h : nx < 95) (h2 : kAt nx = (10, n.toNatClampNeg)) (h3 : ¬ n < 0) (h4 : n.toNatClampNeg ≤ 2000) : kJ 4 60 [l0] (.int n :: st) (mi, ml, mr, nx) Q = kJ 4 62 [l0] (.ref nx :: st) (kRow mi nx (fun _ => 0), kRow ml nx (fun _ => 0), kRow mr nx (fun _ => none), nx + 1) Q := kJ_next d4_60 (kg_newa h h2 h3 h4)
theorem d4_62 : decode (mB 4) 62 = .ok (.putfield 33, 3) := by decide +kernel
theorem s4_62 {l0 : Option Value} {st : List Value} {q : Nat} {x : Nat} {mi : Nat → Nat → Int32} {ml : Nat → Nat → Int64} {mr : Nat → Nat → Option Nat} {nx : Nat} {Q : Option Value → kMem → Prop} (h : kIs nx q 1 = true) (hx : x < 1000) : kJ 4 62 [l0] (.ref x :: .ref q :: st) (mi, ml, mr, nx) Q = kJ 4 65 [l0] st (mi, ml, kupR mr q 9 (some x), nx) Q := kJ_next d4_62 (kg_putr 1 9 rfl h (by decide) (by decide) rfl rfl hx)
theorem d4_65 : decode (mB 4) 65 = .ok (.aload_n 0, 1) := by decide +kernel
theorem s4_65 {st : List Value} {x : Nat} {m : kMem} {Q : Option Value → kMem → Prop} : kJ 4 65 [some (.ref x)] st m Q = kJ 4 66 [some (.ref x)] (.ref x :: st) m Q := kJ_next d4_65 rfl
theorem d4_66 : decode (mB 4) 66 = .ok (.bipush 6, 2) := by decide +kernel
theorem s4_66 {l0 : Option Value} {st : List Value} {m : kMem} {Q : Option Value → kMem → Prop} : kJ 4 66 [l0] st m Q = kJ 4 68 [l0] (.int (nI 6) :: st) m Q := kJ_next d4_66 rfl
theorem d4_68 : decode (mB 4) 68 = .ok (.newarray .int, 2) := by decide +kernel
theorem s4_68 {l0 : Option Value} {st : List Value} {n : Int32} {mi : Nat → Nat → Int32} {ml : Nat → Nat → Int64} {mr : Nat → Nat → Option Nat} {nx : Nat} {Q : Option Value → kMem → Prop} (h : nx < 95) (h2 : kAt nx = (10, n.toNatClampNeg)) (h3 : ¬ n < 0) (h4 : n.toNatClampNeg ≤ 2000) : kJ 4 68 [l0] (.int n :: st) (mi, ml, mr, nx) Q = kJ 4 70 [l0] (.ref nx :: st) (kRow mi nx (fun _ => 0), kRow ml nx (fun _ => 0), kRow mr nx (fun _ => none), nx + 1) Q := kJ_next d4_68 (kg_newa h h2 h3 h4)
theorem d4_70 : decode (mB 4) 70 = .ok (.putfield 36, 3) := by decide +kernel
theorem s4_70 {l0 : Option Value} {st : List Value} {q : Nat} {x : Nat} {mi : Nat → Nat → Int32} {ml : Nat → Nat → Int64} {mr : Nat → Nat → Option Nat} {nx : Nat} {Q : Option Value → kMem → Prop} (h : kIs nx q 1 = true) (hx : x < 1000) : kJ 4 70 [l0] (.ref x :: .ref q :: st) (mi, ml, mr, nx) Q = kJ 4 73 [l0] st (mi, ml, kupR mr q 10 (some x), nx) Q := kJ_next d4_70 (kg_putr 1 10 rfl h (by decide) (by decide) rfl rfl hx)
theorem d4_73 : decode (mB 4) 73 = .ok (.aload_n 0, 1) := by decide +kernel
theorem s4_73 {st : List Value} {x : Nat} {m : kMem} {Q : Option Value → kMem → Prop} : kJ 4 73 [some (.ref x)] st m Q = kJ 4 74 [some (.ref x)] (.ref x :: st) m Q := kJ_next d4_73 rfl
theorem d4_74 : decode (mB 4) 74 = .ok (.iconst 2, 1) := by decide +kernel
theorem s4_74 {l0 : Option Value} {st : List Value} {m : kMem} {Q : Option Value → kMem → Prop} : kJ 4 74 [l0] st m Q = kJ 4 75 [l0] (.int (nI 2) :: st) m Q := kJ_next d4_74 rfl
theorem d4_75 : decode (mB 4) 75 = .ok (.putfield 39, 3) := by decide +kernel
theorem s4_75 {l0 : Option Value} {st : List Value} {q : Nat} {x : Int32} {mi : Nat → Nat → Int32} {ml : Nat → Nat → Int64} {mr : Nat → Nat → Option Nat} {nx : Nat} {Q : Option Value → kMem → Prop} (h : kIs nx q 1 = true) : kJ 4 75 [l0] (.int x :: .ref q :: st) (mi, ml, mr, nx) Q = kJ 4 78 [l0] st (kup mi q 11 x, ml, mr, nx) Q := kJ_next d4_75 (kg_puti 1 11 rfl h (by decide) (Or.inl (by decide)))
theorem d4_78 : decode (mB 4) 78 = .ok (.aload_n 0, 1) := by decide +kernel
theorem s4_78 {st : List Value} {x : Nat} {m : kMem} {Q : Option Value → kMem → Prop} : kJ 4 78 [some (.ref x)] st m Q = kJ 4 79 [some (.ref x)] (.ref x :: st) m Q := kJ_next d4_78 rfl
theorem d4_79 : decode (mB 4) 79 = .ok (.bipush 6, 2) := by decide +kernel
theorem s4_79 {l0 : Option Value} {st : List Value} {m : kMem} {Q : Option Value → kMem → Prop} : kJ 4 79 [l0] st m Q = kJ 4 81 [l0] (.int (nI 6) :: st) m Q := kJ_next d4_79 rfl
theorem d4_81 : decode (mB 4) 81 = .ok (.newarray .int, 2) := by decide +kernel
theorem s4_81 {l0 : Option Value} {st : List Value} {n : Int32} {mi : Nat → Nat → Int32} {ml : Nat → Nat → Int64} {mr : Nat → Nat → Option Nat} {nx : Nat} {Q : Option Value → kMem → Prop} (h : nx < 95) (h2 : kAt nx = (10, n.toNatClampNeg)) (h3 : ¬ n < 0) (h4 : n.toNatClampNeg ≤ 2000) : kJ 4 81 [l0] (.int n :: st) (mi, ml, mr, nx) Q = kJ 4 83 [l0] (.ref nx :: st) (kRow mi nx (fun _ => 0), kRow ml nx (fun _ => 0), kRow mr nx (fun _ => none), nx + 1) Q := kJ_next d4_81 (kg_newa h h2 h3 h4)
theorem d4_83 : decode (mB 4) 83 = .ok (.putfield 43, 3) := by decide +kernel
theorem s4_83 {l0 : Option Value} {st : List Value} {q : Nat} {x : Nat} {mi : Nat → Nat → Int32} {ml : Nat → Nat → Int64} {mr : Nat → Nat → Option Nat} {nx : Nat} {Q : Option Value → kMem → Prop} (h : kIs nx q 1 = true) (hx : x < 1000) : kJ 4 83 [l0] (.ref x :: .ref q :: st) (mi, ml, mr, nx) Q = kJ 4 86 [l0] st (mi, ml, kupR mr q 14 (some x), nx) Q := kJ_next d4_83 (kg_putr 1 14 rfl h (by decide) (by decide) rfl rfl hx)
theorem d4_86 : decode (mB 4) 86 = .ok (.aload_n 0, 1) := by decide +kernel
theorem s4_86 {st : List Value} {x : Nat} {m : kMem} {Q : Option Value → kMem → Prop} : kJ 4 86 [some (.ref x)] st m Q = kJ 4 87 [some (.ref x)] (.ref x :: st) m Q := kJ_next d4_86 rfl
theorem d4_87 : decode (mB 4) 87 = .ok (.bipush 6, 2) := by decide +kernel
theorem s4_87 {l0 : Option Value} {st : List Value} {m : kMem} {Q : Option Value → kMem → Prop} : kJ 4 87 [l0] st m Q = kJ 4 89 [l0] (.int (nI 6) :: st) m Q := kJ_next d4_87 rfl
theorem d4_89 : decode (mB 4) 89 = .ok (.newarray .int, 2) := by decide +kernel
theorem s4_89 {l0 : Option Value} {st : List Value} {n : Int32} {mi : Nat → Nat → Int32} {ml : Nat → Nat → Int64} {mr : Nat → Nat → Option Nat} {nx : Nat} {Q : Option Value → kMem → Prop} (h : nx < 95) (h2 : kAt nx = (10, n.toNatClampNeg)) (h3 : ¬ n < 0) (h4 : n.toNatClampNeg ≤ 2000) : kJ 4 89 [l0] (.int n :: st) (mi, ml, mr, nx) Q = kJ 4 91 [l0] (.ref nx :: st) (kRow mi nx (fun _ => 0), kRow ml nx (fun _ => 0), kRow mr nx (fun _ => none), nx + 1) Q := kJ_next d4_89 (kg_newa h h2 h3 h4)
theorem d4_91 : decode (mB 4) 91 = .ok (.putfield 46, 3) := by decide +kernel
theorem s4_91 {l0 : Option Value} {st : List Value} {q : Nat} {x : Nat} {mi : Nat → Nat → Int32} {ml : Nat → Nat → Int64} {mr : Nat → Nat → Option Nat} {nx : Nat} {Q : Option Value → kMem → Prop} (h : kIs nx q 1 = true) (hx : x < 1000) : kJ 4 91 [l0] (.ref x :: .ref q :: st) (mi, ml, mr, nx) Q = kJ 4 94 [l0] st (mi, ml, kupR mr q 15 (some x), nx) Q := kJ_next d4_91 (kg_putr 1 15 rfl h (by decide) (by decide) rfl rfl hx)
theorem d4_94 : decode (mB 4) 94 = .ok (.aload_n 0, 1) := by decide +kernel
theorem s4_94 {st : List Value} {x : Nat} {m : kMem} {Q : Option Value → kMem → Prop} : kJ 4 94 [some (.ref x)] st m Q = kJ 4 95 [some (.ref x)] (.ref x :: st) m Q := kJ_next d4_94 rfl
theorem d4_95 : decode (mB 4) 95 = .ok (.bipush 6, 2) := by decide +kernel
theorem s4_95 {l0 : Option Value} {st : List Value} {m : kMem} {Q : Option Value → kMem → Prop} : kJ 4 95 [l0] st m Q = kJ 4 97 [l0] (.int (nI 6) :: st) m Q := kJ_next d4_95 rfl
theorem d4_97 : decode (mB 4) 97 = .ok (.newarray .int, 2) := by decide +kernel
theorem s4_97 {l0 : Option Value} {st : List Value} {n : Int32} {mi : Nat → Nat → Int32} {ml : Nat → Nat → Int64} {mr : Nat → Nat → Option Nat} {nx : Nat} {Q : Option Value → kMem → Prop} (h : nx < 95) (h2 : kAt nx = (10, n.toNatClampNeg)) (h3 : ¬ n < 0) (h4 : n.toNatClampNeg ≤ 2000) : kJ 4 97 [l0] (.int n :: st) (mi, ml, mr, nx) Q = kJ 4 99 [l0] (.ref nx :: st) (kRow mi nx (fun _ => 0), kRow ml nx (fun _ => 0), kRow mr nx (fun _ => none), nx + 1) Q := kJ_next d4_97 (kg_newa h h2 h3 h4)
theorem d4_99 : decode (mB 4) 99 = .ok (.putfield 49, 3) := by decide +kernel
theorem s4_99 {l0 : Option Value} {st : List Value} {q : Nat} {x : Nat} {mi : Nat → Nat → Int32} {ml : Nat → Nat → Int64} {mr : Nat → Nat → Option Nat} {nx : Nat} {Q : Option Value → kMem → Prop} (h : kIs nx q 1 = true) (hx : x < 1000) : kJ 4 99 [l0] (.ref x :: .ref q :: st) (mi, ml, mr, nx) Q = kJ 4 102 [l0] st (mi, ml, kupR mr q 16 (some x), nx) Q := kJ_next d4_99 (kg_putr 1 16 rfl h (by decide) (by decide) rfl rfl hx)
theorem d4_102 : decode (mB 4) 102 = .ok (.return_, 1) := by decide +kernel
theorem s4_102 {l0 : Option Value} {m : kMem} {Q : Option Value → kMem → Prop} : kJ 4 102 [l0] [] m Q = Q none m := kJ_ret d4_102 rfl
theorem d5_0 : decode (mB 5) 0 = .ok (.aload_n 0, 1) := by decide +kernel
theorem s5_0 {st : List Value} {x : Nat} {m : kMem} {Q : Option Value → kMem → Prop} : kJ 5 0 [some (.ref x)] st m Q = kJ 5 1 [some (.ref x)] (.ref x :: st) m Q := kJ_next d5_0 rfl
theorem d5_1 : decode (mB 5) 1 = .ok (.iconst 0, 1) := by decide +kernel
theorem s5_1 {l0 : Option Value} {st : List Value} {m : kMem} {Q : Option Value → kMem → Prop} : kJ 5 1 [l0] st m Q = kJ 5 2 [l0] (.int (nI 0) :: st) m Q := kJ_next d5_1 rfl
theorem d5_2 : decode (mB 5) 2 = .ok (.putfield 52, 3) := by decide +kernel
theorem s5_2 {l0 : Option Value} {st : List Value} {q : Nat} {x : Int32} {mi : Nat → Nat → Int32} {ml : Nat → Nat → Int64} {mr : Nat → Nat → Option Nat} {nx : Nat} {Q : Option Value → kMem → Prop} (h : kIs nx q 1 = true) : kJ 5 2 [l0] (.int x :: .ref q :: st) (mi, ml, mr, nx) Q = kJ 5 5 [l0] st (kup mi q 0 x, ml, mr, nx) Q := kJ_next d5_2 (kg_puti 1 0 rfl h (by decide) (Or.inl (by decide)))
theorem d5_5 : decode (mB 5) 5 = .ok (.aload_n 0, 1) := by decide +kernel
theorem s5_5 {st : List Value} {x : Nat} {m : kMem} {Q : Option Value → kMem → Prop} : kJ 5 5 [some (.ref x)] st m Q = kJ 5 6 [some (.ref x)] (.ref x :: st) m Q := kJ_next d5_5 rfl
theorem d5_6 : decode (mB 5) 6 = .ok (.iconst 0, 1) := by decide +kernel
theorem s5_6 {l0 : Option Value} {st : List Value} {m : kMem} {Q : Option Value → kMem → Prop} : kJ 5 6 [l0] st m Q = kJ 5 7 [l0] (.int (nI 0) :: st) m Q := kJ_next d5_6 rfl
theorem d5_7 : decode (mB 5) 7 = .ok (.putfield 55, 3) := by decide +kernel
theorem s5_7 {l0 : Option Value} {st : List Value} {q : Nat} {x : Int32} {mi : Nat → Nat → Int32} {ml : Nat → Nat → Int64} {mr : Nat → Nat → Option Nat} {nx : Nat} {Q : Option Value → kMem → Prop} (h : kIs nx q 1 = true) : kJ 5 7 [l0] (.int x :: .ref q :: st) (mi, ml, mr, nx) Q = kJ 5 10 [l0] st (kup mi q 4 x, ml, mr, nx) Q := kJ_next d5_7 (kg_puti 1 4 rfl h (by decide) (Or.inl (by decide)))
theorem d5_10 : decode (mB 5) 10 = .ok (.aload_n 0, 1) := by decide +kernel
theorem s5_10 {st : List Value} {x : Nat} {m : kMem} {Q : Option Value → kMem → Prop} : kJ 5 10 [some (.ref x)] st m Q = kJ 5 11 [some (.ref x)] (.ref x :: st) m Q := kJ_next d5_10 rfl
theorem d5_11 : decode (mB 5) 11 = .ok (.iconst 2, 1) := by decide +kernel
theorem s5_11 {l0 : Option Value} {st : List Value} {m : kMem} {Q : Option Value → kMem → Prop} : kJ 5 11 [l0] st m Q = kJ 5 12 [l0] (.int (nI 2) :: st) m Q := kJ_next d5_11 rfl
theorem d5_12 : decode (mB 5) 12 = .ok (.putfield 39, 3) := by decide +kernel
theorem s5_12 {l0 : Option Value} {st : List Value} {q : Nat} {x : Int32} {mi : Nat → Nat → Int32} {ml : Nat → Nat → Int64} {mr : Nat → Nat → Option Nat} {nx : Nat} {Q : Option Value → kMem → Prop} (h : kIs nx q 1 = true) : kJ 5 12 [l0] (.int x :: .ref q :: st) (mi, ml, mr, nx) Q = kJ 5 15 [l0] st (kup mi q 11 x, ml, mr, nx) Q := kJ_next d5_12 (kg_puti 1 11 rfl h (by decide) (Or.inl (by decide)))
theorem d5_15 : decode (mB 5) 15 = .ok (.aload_n 0, 1) := by decide +kernel
theorem s5_15 {st : List Value} {x : Nat} {m : kMem} {Q : Option Value → kMem → Prop} : kJ 5 15 [some (.ref x)] st m Q = kJ 5 16 [some (.ref x)] (.ref x :: st) m Q := kJ_next d5_15 rfl
theorem d5_16 : decode (mB 5) 16 = .ok (.iconst 0, 1) := by decide +kernel
theorem s5_16 {l0 : Option Value} {st : List Value} {m : kMem} {Q : Option Value → kMem → Prop} : kJ 5 16 [l0] st m Q = kJ 5 17 [l0] (.int (nI 0) :: st) m Q := kJ_next d5_16 rfl
theorem d5_17 : decode (mB 5) 17 = .ok (.putfield 58, 3) := by decide +kernel
theorem s5_17 {l0 : Option Value} {st : List Value} {q : Nat} {x : Int32} {mi : Nat → Nat → Int32} {ml : Nat → Nat → Int64} {mr : Nat → Nat → Option Nat} {nx : Nat} {Q : Option Value → kMem → Prop} (h : kIs nx q 1 = true) : kJ 5 17 [l0] (.int x :: .ref q :: st) (mi, ml, mr, nx) Q = kJ 5 20 [l0] st (kup mi q 12 x, ml, mr, nx) Q := kJ_next d5_17 (kg_puti 1 12 rfl h (by decide) (Or.inl (by decide)))
theorem d5_20 : decode (mB 5) 20 = .ok (.aload_n 0, 1) := by decide +kernel
theorem s5_20 {st : List Value} {x : Nat} {m : kMem} {Q : Option Value → kMem → Prop} : kJ 5 20 [some (.ref x)] st m Q = kJ 5 21 [some (.ref x)] (.ref x :: st) m Q := kJ_next d5_20 rfl
theorem d5_21 : decode (mB 5) 21 = .ok (.iconst 0, 1) := by decide +kernel
theorem s5_21 {l0 : Option Value} {st : List Value} {m : kMem} {Q : Option Value → kMem → Prop} : kJ 5 21 [l0] st m Q = kJ 5 22 [l0] (.int (nI 0) :: st) m Q := kJ_next d5_21 rfl
theorem d5_22 : decode (mB 5) 22 = .ok (.putfield 61, 3) := by decide +kernel
theorem s5_22 {l0 : Option Value} {st : List Value} {q : Nat} {x : Int32} {mi : Nat → Nat → Int32} {ml : Nat → Nat → Int64} {mr : Nat → Nat → Option Nat} {nx : Nat} {Q : Option Value → kMem → Prop} (h : kIs nx q 1 = true) : kJ 5 22 [l0] (.int x :: .ref q :: st) (mi, ml, mr, nx) Q = kJ 5 25 [l0] st (kup mi q 13 x, ml, mr, nx) Q := kJ_next d5_22 (kg_puti 1 13 rfl h (by decide) (Or.inl (by decide)))
theorem d5_25 : decode (mB 5) 25 = .ok (.return_, 1) := by decide +kernel
theorem s5_25 {l0 : Option Value} {m : kMem} {Q : Option Value → kMem → Prop} : kJ 5 25 [l0] [] m Q = Q none m := kJ_ret d5_25 rfl
theorem d6_0 : decode (mB 6) 0 = .ok (.aload_n 0, 1) := by decide +kernel
theorem s6_0 {l1 : Option Value} {st : List Value} {x : Nat} {m : kMem} {Q : Option Value → kMem → Prop} : kJ 6 0 [some (.ref x), l1] st m Q = kJ 6 1 [some (.ref x), l1] (.ref x :: st) m Q := kJ_next d6_0 rfl
theorem d6_1 : decode (mB 6) 1 = .ok (.aload_n 1, 1) := by decide +kernel
theorem s6_1 {l0 : Option Value} {st : List Value} {x : Nat} {m : kMem} {Q : Option Value → kMem → Prop} : kJ 6 1 [l0, some (.ref x)] st m Q = kJ 6 2 [l0, some (.ref x)] (.ref x :: st) m Q := kJ_next d6_1 rfl
theorem d6_2 : decode (mB 6) 2 = .ok (.getfield 52, 3) := by decide +kernel
theorem s6_2 {l0 l1 : Option Value} {st : List Value} {q : Nat} {mi : Nat → Nat → Int32} {ml : Nat → Nat → Int64} {mr : Nat → Nat → Option Nat} {nx : Nat} {Q : Option Value → kMem → Prop} (h : kIs nx q 1 = true) : kJ 6 2 [l0, l1] (.ref q :: st) (mi, ml, mr, nx) Q = kJ 6 5 [l0, l1] (.int (mi q 0) :: st) (mi, ml, mr, nx) Q := kJ_next d6_2 (kg_geti 1 0 rfl h (by decide))
theorem d6_5 : decode (mB 6) 5 = .ok (.putfield 52, 3) := by decide +kernel
theorem s6_5 {l0 l1 : Option Value} {st : List Value} {q : Nat} {x : Int32} {mi : Nat → Nat → Int32} {ml : Nat → Nat → Int64} {mr : Nat → Nat → Option Nat} {nx : Nat} {Q : Option Value → kMem → Prop} (h : kIs nx q 1 = true) : kJ 6 5 [l0, l1] (.int x :: .ref q :: st) (mi, ml, mr, nx) Q = kJ 6 8 [l0, l1] st (kup mi q 0 x, ml, mr, nx) Q := kJ_next d6_5 (kg_puti 1 0 rfl h (by decide) (Or.inl (by decide)))
theorem d6_8 : decode (mB 6) 8 = .ok (.aload_n 1, 1) := by decide +kernel
theorem s6_8 {l0 : Option Value} {st : List Value} {x : Nat} {m : kMem} {Q : Option Value → kMem → Prop} : kJ 6 8 [l0, some (.ref x)] st m Q = kJ 6 9 [l0, some (.ref x)] (.ref x :: st) m Q := kJ_next d6_8 rfl
theorem d6_9 : decode (mB 6) 9 = .ok (.getfield 9, 3) := by decide +kernel
theorem s6_9 {l0 l1 : Option Value} {st : List Value} {q : Nat} {mi : Nat → Nat → Int32} {ml : Nat → Nat → Int64} {mr : Nat → Nat → Option Nat} {nx : Nat} {Q : Option Value → kMem → Prop} (h : kIs nx q 1 = true) : kJ 6 9 [l0, l1] (.ref q :: st) (mi, ml, mr, nx) Q = kJ 6 12 [l0, l1] (va_rf (mr q 1) :: st) (mi, ml, mr, nx) Q := kJ_next d6_9 (kg_getr 1 1 rfl h (by decide))
theorem d6_12 : decode (mB 6) 12 = .ok (.iconst 0, 1) := by decide +kernel
theorem s6_12 {l0 l1 : Option Value} {st : List Value} {m : kMem} {Q : Option Value → kMem → Prop} : kJ 6 12 [l0, l1] st m Q = kJ 6 13 [l0, l1] (.int (nI 0) :: st) m Q := kJ_next d6_12 rfl
theorem d6_13 : decode (mB 6) 13 = .ok (.aload_n 0, 1) := by decide +kernel
theorem s6_13 {l1 : Option Value} {st : List Value} {x : Nat} {m : kMem} {Q : Option Value → kMem → Prop} : kJ 6 13 [some (.ref x), l1] st m Q = kJ 6 14 [some (.ref x), l1] (.ref x :: st) m Q := kJ_next d6_13 rfl
theorem d6_14 : decode (mB 6) 14 = .ok (.getfield 9, 3) := by decide +kernel
theorem s6_14 {l0 l1 : Option Value} {st : List Value} {q : Nat} {mi : Nat → Nat → Int32} {ml : Nat → Nat → Int64} {mr : Nat → Nat → Option Nat} {nx : Nat} {Q : Option Value → kMem → Prop} (h : kIs nx q 1 = true) : kJ 6 14 [l0, l1] (.ref q :: st) (mi, ml, mr, nx) Q = kJ 6 17 [l0, l1] (va_rf (mr q 1) :: st) (mi, ml, mr, nx) Q := kJ_next d6_14 (kg_getr 1 1 rfl h (by decide))
theorem d6_17 : decode (mB 6) 17 = .ok (.iconst 0, 1) := by decide +kernel
theorem s6_17 {l0 l1 : Option Value} {st : List Value} {m : kMem} {Q : Option Value → kMem → Prop} : kJ 6 17 [l0, l1] st m Q = kJ 6 18 [l0, l1] (.int (nI 0) :: st) m Q := kJ_next d6_17 rfl
theorem d6_18 : decode (mB 6) 18 = .ok (.iconst 5, 1) := by decide +kernel
theorem s6_18 {l0 l1 : Option Value} {st : List Value} {m : kMem} {Q : Option Value → kMem → Prop} : kJ 6 18 [l0, l1] st m Q = kJ 6 19 [l0, l1] (.int (nI 5) :: st) m Q := kJ_next d6_18 rfl
theorem d6_19 : decode (mB 6) 19 = .ok (.invokestatic 64, 3) := by decide +kernel
theorem s6_19 {l0 l1 : Option Value}  {d s : Nat} {n dp sp : Int32} {mi : Nat → Nat → Int32} {ml : Nat → Nat → Int64} {mr : Nat → Nat → Option Nat} {nx : Nat} {Q : Option Value → kMem → Prop} (h0 : kIs nx s 10 = true) (h1 : kIs nx d 10 = true) (c1 : ¬ sp < 0) (c2 : ¬ dp < 0) (c3 : ¬ n < 0) (c4 : sp.toNatClampNeg + n.toNatClampNeg ≤ kAl s) (c5 : dp.toNatClampNeg + n.toNatClampNeg ≤ kAl d) : kJ 6 19 [l0, l1] [.int n, .int dp, .ref d, .int sp, .ref s] (mi, ml, mr, nx) Q = kJ 6 22 [l0, l1] [] (kRow mi d (va_cpy (mi s) (mi d) sp.toNatClampNeg dp.toNatClampNeg n.toNatClampNeg), ml, mr, nx) Q := kJ_next d6_19 (kg_cpy rfl rfl (kAr_of h0) (kAr_of h1) c1 c2 c3 c4 c5 (Nat.le_of_ble_eq_true rfl))
theorem d6_22 : decode (mB 6) 22 = .ok (.aload_n 1, 1) := by decide +kernel
theorem s6_22 {l0 : Option Value} {st : List Value} {x : Nat} {m : kMem} {Q : Option Value → kMem → Prop} : kJ 6 22 [l0, some (.ref x)] st m Q = kJ 6 23 [l0, some (.ref x)] (.ref x :: st) m Q := kJ_next d6_22 rfl
theorem d6_23 : decode (mB 6) 23 = .ok (.getfield 15, 3) := by decide +kernel
theorem s6_23 {l0 l1 : Option Value} {st : List Value} {q : Nat} {mi : Nat → Nat → Int32} {ml : Nat → Nat → Int64} {mr : Nat → Nat → Option Nat} {nx : Nat} {Q : Option Value → kMem → Prop} (h : kIs nx q 1 = true) : kJ 6 23 [l0, l1] (.ref q :: st) (mi, ml, mr, nx) Q = kJ 6 26 [l0, l1] (va_rf (mr q 2) :: st) (mi, ml, mr, nx) Q := kJ_next d6_23 (kg_getr 1 2 rfl h (by decide))
theorem d6_26 : decode (mB 6) 26 = .ok (.iconst 0, 1) := by decide +kernel
theorem s6_26 {l0 l1 : Option Value} {st : List Value} {m : kMem} {Q : Option Value → kMem → Prop} : kJ 6 26 [l0, l1] st m Q = kJ 6 27 [l0, l1] (.int (nI 0) :: st) m Q := kJ_next d6_26 rfl
theorem d6_27 : decode (mB 6) 27 = .ok (.aload_n 0, 1) := by decide +kernel
theorem s6_27 {l1 : Option Value} {st : List Value} {x : Nat} {m : kMem} {Q : Option Value → kMem → Prop} : kJ 6 27 [some (.ref x), l1] st m Q = kJ 6 28 [some (.ref x), l1] (.ref x :: st) m Q := kJ_next d6_27 rfl
theorem d6_28 : decode (mB 6) 28 = .ok (.getfield 15, 3) := by decide +kernel
theorem s6_28 {l0 l1 : Option Value} {st : List Value} {q : Nat} {mi : Nat → Nat → Int32} {ml : Nat → Nat → Int64} {mr : Nat → Nat → Option Nat} {nx : Nat} {Q : Option Value → kMem → Prop} (h : kIs nx q 1 = true) : kJ 6 28 [l0, l1] (.ref q :: st) (mi, ml, mr, nx) Q = kJ 6 31 [l0, l1] (va_rf (mr q 2) :: st) (mi, ml, mr, nx) Q := kJ_next d6_28 (kg_getr 1 2 rfl h (by decide))
theorem d6_31 : decode (mB 6) 31 = .ok (.iconst 0, 1) := by decide +kernel
theorem s6_31 {l0 l1 : Option Value} {st : List Value} {m : kMem} {Q : Option Value → kMem → Prop} : kJ 6 31 [l0, l1] st m Q = kJ 6 32 [l0, l1] (.int (nI 0) :: st) m Q := kJ_next d6_31 rfl
theorem d6_32 : decode (mB 6) 32 = .ok (.iconst 5, 1) := by decide +kernel
theorem s6_32 {l0 l1 : Option Value} {st : List Value} {m : kMem} {Q : Option Value → kMem → Prop} : kJ 6 32 [l0, l1] st m Q = kJ 6 33 [l0, l1] (.int (nI 5) :: st) m Q := kJ_next d6_32 rfl
theorem d6_33 : decode (mB 6) 33 = .ok (.invokestatic 64, 3) := by decide +kernel
theorem s6_33 {l0 l1 : Option Value}  {d s : Nat} {n dp sp : Int32} {mi : Nat → Nat → Int32} {ml : Nat → Nat → Int64} {mr : Nat → Nat → Option Nat} {nx : Nat} {Q : Option Value → kMem → Prop} (h0 : kIs nx s 10 = true) (h1 : kIs nx d 10 = true) (c1 : ¬ sp < 0) (c2 : ¬ dp < 0) (c3 : ¬ n < 0) (c4 : sp.toNatClampNeg + n.toNatClampNeg ≤ kAl s) (c5 : dp.toNatClampNeg + n.toNatClampNeg ≤ kAl d) : kJ 6 33 [l0, l1] [.int n, .int dp, .ref d, .int sp, .ref s] (mi, ml, mr, nx) Q = kJ 6 36 [l0, l1] [] (kRow mi d (va_cpy (mi s) (mi d) sp.toNatClampNeg dp.toNatClampNeg n.toNatClampNeg), ml, mr, nx) Q := kJ_next d6_33 (kg_cpy rfl rfl (kAr_of h0) (kAr_of h1) c1 c2 c3 c4 c5 (Nat.le_of_ble_eq_true rfl))
theorem d6_36 : decode (mB 6) 36 = .ok (.aload_n 1, 1) := by decide +kernel
theorem s6_36 {l0 : Option Value} {st : List Value} {x : Nat} {m : kMem} {Q : Option Value → kMem → Prop} : kJ 6 36 [l0, some (.ref x)] st m Q = kJ 6 37 [l0, some (.ref x)] (.ref x :: st) m Q := kJ_next d6_36 rfl
theorem d6_37 : decode (mB 6) 37 = .ok (.getfield 18, 3) := by decide +kernel
theorem s6_37 {l0 l1 : Option Value} {st : List Value} {q : Nat} {mi : Nat → Nat → Int32} {ml : Nat → Nat → Int64} {mr : Nat → Nat → Option Nat} {nx : Nat} {Q : Option Value → kMem → Prop} (h : kIs nx q 1 = true) : kJ 6 37 [l0, l1] (.ref q :: st) (mi, ml, mr, nx) Q = kJ 6 40 [l0, l1] (va_rf (mr q 3) :: st) (mi, ml, mr, nx) Q := kJ_next d6_37 (kg_getr 1 3 rfl h (by decide))
theorem d6_40 : decode (mB 6) 40 = .ok (.iconst 0, 1) := by decide +kernel
theorem s6_40 {l0 l1 : Option Value} {st : List Value} {m : kMem} {Q : Option Value → kMem → Prop} : kJ 6 40 [l0, l1] st m Q = kJ 6 41 [l0, l1] (.int (nI 0) :: st) m Q := kJ_next d6_40 rfl
theorem d6_41 : decode (mB 6) 41 = .ok (.aload_n 0, 1) := by decide +kernel
theorem s6_41 {l1 : Option Value} {st : List Value} {x : Nat} {m : kMem} {Q : Option Value → kMem → Prop} : kJ 6 41 [some (.ref x), l1] st m Q = kJ 6 42 [some (.ref x), l1] (.ref x :: st) m Q := kJ_next d6_41 rfl
theorem d6_42 : decode (mB 6) 42 = .ok (.getfield 18, 3) := by decide +kernel
theorem s6_42 {l0 l1 : Option Value} {st : List Value} {q : Nat} {mi : Nat → Nat → Int32} {ml : Nat → Nat → Int64} {mr : Nat → Nat → Option Nat} {nx : Nat} {Q : Option Value → kMem → Prop} (h : kIs nx q 1 = true) : kJ 6 42 [l0, l1] (.ref q :: st) (mi, ml, mr, nx) Q = kJ 6 45 [l0, l1] (va_rf (mr q 3) :: st) (mi, ml, mr, nx) Q := kJ_next d6_42 (kg_getr 1 3 rfl h (by decide))
theorem d6_45 : decode (mB 6) 45 = .ok (.iconst 0, 1) := by decide +kernel
theorem s6_45 {l0 l1 : Option Value} {st : List Value} {m : kMem} {Q : Option Value → kMem → Prop} : kJ 6 45 [l0, l1] st m Q = kJ 6 46 [l0, l1] (.int (nI 0) :: st) m Q := kJ_next d6_45 rfl
theorem d6_46 : decode (mB 6) 46 = .ok (.iconst 5, 1) := by decide +kernel
theorem s6_46 {l0 l1 : Option Value} {st : List Value} {m : kMem} {Q : Option Value → kMem → Prop} : kJ 6 46 [l0, l1] st m Q = kJ 6 47 [l0, l1] (.int (nI 5) :: st) m Q := kJ_next d6_46 rfl
theorem d6_47 : decode (mB 6) 47 = .ok (.invokestatic 64, 3) := by decide +kernel
theorem s6_47 {l0 l1 : Option Value}  {d s : Nat} {n dp sp : Int32} {mi : Nat → Nat → Int32} {ml : Nat → Nat → Int64} {mr : Nat → Nat → Option Nat} {nx : Nat} {Q : Option Value → kMem → Prop} (h0 : kIs nx s 10 = true) (h1 : kIs nx d 10 = true) (c1 : ¬ sp < 0) (c2 : ¬ dp < 0) (c3 : ¬ n < 0) (c4 : sp.toNatClampNeg + n.toNatClampNeg ≤ kAl s) (c5 : dp.toNatClampNeg + n.toNatClampNeg ≤ kAl d) : kJ 6 47 [l0, l1] [.int n, .int dp, .ref d, .int sp, .ref s] (mi, ml, mr, nx) Q = kJ 6 50 [l0, l1] [] (kRow mi d (va_cpy (mi s) (mi d) sp.toNatClampNeg dp.toNatClampNeg n.toNatClampNeg), ml, mr, nx) Q := kJ_next d6_47 (kg_cpy rfl rfl (kAr_of h0) (kAr_of h1) c1 c2 c3 c4 c5 (Nat.le_of_ble_eq_true rfl))
theorem d6_50 : decode (mB 6) 50 = .ok (.aload_n 0, 1) := by decide +kernel
theorem s6_50 {l1 : Option Value} {st : List Value} {x : Nat} {m : kMem} {Q : Option Value → kMem → Prop} : kJ 6 50 [some (.ref x), l1] st m Q = kJ 6 51 [some (.ref x), l1] (.ref x :: st) m Q := kJ_next d6_50 rfl
theorem d6_51 : decode (mB 6) 51 = .ok (.aload_n 1, 1) := by decide +kernel
theorem s6_51 {l0 : Option Value} {st : List Value} {x : Nat} {m : kMem} {Q : Option Value → kMem → Prop} : kJ 6 51 [l0, some (.ref x)] st m Q = kJ 6 52 [l0, some (.ref x)] (.ref x :: st) m Q := kJ_next d6_51 rfl
theorem d6_52 : decode (mB 6) 52 = .ok (.getfield 55, 3) := by decide +kernel
theorem s6_52 {l0 l1 : Option Value} {st : List Value} {q : Nat} {mi : Nat → Nat → Int32} {ml : Nat → Nat → Int64} {mr : Nat → Nat → Option Nat} {nx : Nat} {Q : Option Value → kMem → Prop} (h : kIs nx q 1 = true) : kJ 6 52 [l0, l1] (.ref q :: st) (mi, ml, mr, nx) Q = kJ 6 55 [l0, l1] (.int (mi q 4) :: st) (mi, ml, mr, nx) Q := kJ_next d6_52 (kg_geti 1 4 rfl h (by decide))
theorem d6_55 : decode (mB 6) 55 = .ok (.putfield 55, 3) := by decide +kernel
theorem s6_55 {l0 l1 : Option Value} {st : List Value} {q : Nat} {x : Int32} {mi : Nat → Nat → Int32} {ml : Nat → Nat → Int64} {mr : Nat → Nat → Option Nat} {nx : Nat} {Q : Option Value → kMem → Prop} (h : kIs nx q 1 = true) : kJ 6 55 [l0, l1] (.int x :: .ref q :: st) (mi, ml, mr, nx) Q = kJ 6 58 [l0, l1] st (kup mi q 4 x, ml, mr, nx) Q := kJ_next d6_55 (kg_puti 1 4 rfl h (by decide) (Or.inl (by decide)))
theorem d6_58 : decode (mB 6) 58 = .ok (.aload_n 1, 1) := by decide +kernel
theorem s6_58 {l0 : Option Value} {st : List Value} {x : Nat} {m : kMem} {Q : Option Value → kMem → Prop} : kJ 6 58 [l0, some (.ref x)] st m Q = kJ 6 59 [l0, some (.ref x)] (.ref x :: st) m Q := kJ_next d6_58 rfl
theorem d6_59 : decode (mB 6) 59 = .ok (.getfield 21, 3) := by decide +kernel
theorem s6_59 {l0 l1 : Option Value} {st : List Value} {q : Nat} {mi : Nat → Nat → Int32} {ml : Nat → Nat → Int64} {mr : Nat → Nat → Option Nat} {nx : Nat} {Q : Option Value → kMem → Prop} (h : kIs nx q 1 = true) : kJ 6 59 [l0, l1] (.ref q :: st) (mi, ml, mr, nx) Q = kJ 6 62 [l0, l1] (va_rf (mr q 5) :: st) (mi, ml, mr, nx) Q := kJ_next d6_59 (kg_getr 1 5 rfl h (by decide))
theorem d6_62 : decode (mB 6) 62 = .ok (.iconst 0, 1) := by decide +kernel
theorem s6_62 {l0 l1 : Option Value} {st : List Value} {m : kMem} {Q : Option Value → kMem → Prop} : kJ 6 62 [l0, l1] st m Q = kJ 6 63 [l0, l1] (.int (nI 0) :: st) m Q := kJ_next d6_62 rfl
theorem d6_63 : decode (mB 6) 63 = .ok (.aload_n 0, 1) := by decide +kernel
theorem s6_63 {l1 : Option Value} {st : List Value} {x : Nat} {m : kMem} {Q : Option Value → kMem → Prop} : kJ 6 63 [some (.ref x), l1] st m Q = kJ 6 64 [some (.ref x), l1] (.ref x :: st) m Q := kJ_next d6_63 rfl
theorem d6_64 : decode (mB 6) 64 = .ok (.getfield 21, 3) := by decide +kernel
theorem s6_64 {l0 l1 : Option Value} {st : List Value} {q : Nat} {mi : Nat → Nat → Int32} {ml : Nat → Nat → Int64} {mr : Nat → Nat → Option Nat} {nx : Nat} {Q : Option Value → kMem → Prop} (h : kIs nx q 1 = true) : kJ 6 64 [l0, l1] (.ref q :: st) (mi, ml, mr, nx) Q = kJ 6 67 [l0, l1] (va_rf (mr q 5) :: st) (mi, ml, mr, nx) Q := kJ_next d6_64 (kg_getr 1 5 rfl h (by decide))
theorem d6_67 : decode (mB 6) 67 = .ok (.iconst 0, 1) := by decide +kernel
theorem s6_67 {l0 l1 : Option Value} {st : List Value} {m : kMem} {Q : Option Value → kMem → Prop} : kJ 6 67 [l0, l1] st m Q = kJ 6 68 [l0, l1] (.int (nI 0) :: st) m Q := kJ_next d6_67 rfl
theorem d6_68 : decode (mB 6) 68 = .ok (.bipush 6, 2) := by decide +kernel
theorem s6_68 {l0 l1 : Option Value} {st : List Value} {m : kMem} {Q : Option Value → kMem → Prop} : kJ 6 68 [l0, l1] st m Q = kJ 6 70 [l0, l1] (.int (nI 6) :: st) m Q := kJ_next d6_68 rfl
theorem d6_70 : decode (mB 6) 70 = .ok (.invokestatic 64, 3) := by decide +kernel
theorem s6_70 {l0 l1 : Option Value}  {d s : Nat} {n dp sp : Int32} {mi : Nat → Nat → Int32} {ml : Nat → Nat → Int64} {mr : Nat → Nat → Option Nat} {nx : Nat} {Q : Option Value → kMem → Prop} (h0 : kIs nx s 10 = true) (h1 : kIs nx d 10 = true) (c1 : ¬ sp < 0) (c2 : ¬ dp < 0) (c3 : ¬ n < 0) (c4 : sp.toNatClampNeg + n.toNatClampNeg ≤ kAl s) (c5 : dp.toNatClampNeg + n.toNatClampNeg ≤ kAl d) : kJ 6 70 [l0, l1] [.int n, .int dp, .ref d, .int sp, .ref s] (mi, ml, mr, nx) Q = kJ 6 73 [l0, l1] [] (kRow mi d (va_cpy (mi s) (mi d) sp.toNatClampNeg dp.toNatClampNeg n.toNatClampNeg), ml, mr, nx) Q := kJ_next d6_70 (kg_cpy rfl rfl (kAr_of h0) (kAr_of h1) c1 c2 c3 c4 c5 (Nat.le_of_ble_eq_true rfl))
theorem d6_73 : decode (mB 6) 73 = .ok (.aload_n 1, 1) := by decide +kernel
theorem s6_73 {l0 : Option Value} {st : List Value} {x : Nat} {m : kMem} {Q : Option Value → kMem → Prop} : kJ 6 73 [l0, some (.ref x)] st m Q = kJ 6 74 [l0, some (.ref x)] (.ref x :: st) m Q := kJ_next d6_73 rfl
theorem d6_74 : decode (mB 6) 74 = .ok (.getfield 24, 3) := by decide +kernel
theorem s6_74 {l0 l1 : Option Value} {st : List Value} {q : Nat} {mi : Nat → Nat → Int32} {ml : Nat → Nat → Int64} {mr : Nat → Nat → Option Nat} {nx : Nat} {Q : Option Value → kMem → Prop} (h : kIs nx q 1 = true) : kJ 6 74 [l0, l1] (.ref q :: st) (mi, ml, mr, nx) Q = kJ 6 77 [l0, l1] (va_rf (mr q 6) :: st) (mi, ml, mr, nx) Q := kJ_next d6_74 (kg_getr 1 6 rfl h (by decide))
theorem d6_77 : decode (mB 6) 77 = .ok (.iconst 0, 1) := by decide +kernel
theorem s6_77 {l0 l1 : Option Value} {st : List Value} {m : kMem} {Q : Option Value → kMem → Prop} : kJ 6 77 [l0, l1] st m Q = kJ 6 78 [l0, l1] (.int (nI 0) :: st) m Q := kJ_next d6_77 rfl
theorem d6_78 : decode (mB 6) 78 = .ok (.aload_n 0, 1) := by decide +kernel
theorem s6_78 {l1 : Option Value} {st : List Value} {x : Nat} {m : kMem} {Q : Option Value → kMem → Prop} : kJ 6 78 [some (.ref x), l1] st m Q = kJ 6 79 [some (.ref x), l1] (.ref x :: st) m Q := kJ_next d6_78 rfl
theorem d6_79 : decode (mB 6) 79 = .ok (.getfield 24, 3) := by decide +kernel
theorem s6_79 {l0 l1 : Option Value} {st : List Value} {q : Nat} {mi : Nat → Nat → Int32} {ml : Nat → Nat → Int64} {mr : Nat → Nat → Option Nat} {nx : Nat} {Q : Option Value → kMem → Prop} (h : kIs nx q 1 = true) : kJ 6 79 [l0, l1] (.ref q :: st) (mi, ml, mr, nx) Q = kJ 6 82 [l0, l1] (va_rf (mr q 6) :: st) (mi, ml, mr, nx) Q := kJ_next d6_79 (kg_getr 1 6 rfl h (by decide))
theorem d6_82 : decode (mB 6) 82 = .ok (.iconst 0, 1) := by decide +kernel
theorem s6_82 {l0 l1 : Option Value} {st : List Value} {m : kMem} {Q : Option Value → kMem → Prop} : kJ 6 82 [l0, l1] st m Q = kJ 6 83 [l0, l1] (.int (nI 0) :: st) m Q := kJ_next d6_82 rfl
theorem d6_83 : decode (mB 6) 83 = .ok (.bipush 6, 2) := by decide +kernel
theorem s6_83 {l0 l1 : Option Value} {st : List Value} {m : kMem} {Q : Option Value → kMem → Prop} : kJ 6 83 [l0, l1] st m Q = kJ 6 85 [l0, l1] (.int (nI 6) :: st) m Q := kJ_next d6_83 rfl
theorem d6_85 : decode (mB 6) 85 = .ok (.invokestatic 64, 3) := by decide +kernel
theorem s6_85 {l0 l1 : Option Value}  {d s : Nat} {n dp sp : Int32} {mi : Nat → Nat → Int32} {ml : Nat → Nat → Int64} {mr : Nat → Nat → Option Nat} {nx : Nat} {Q : Option Value → kMem → Prop} (h0 : kIs nx s 10 = true) (h1 : kIs nx d 10 = true) (c1 : ¬ sp < 0) (c2 : ¬ dp < 0) (c3 : ¬ n < 0) (c4 : sp.toNatClampNeg + n.toNatClampNeg ≤ kAl s) (c5 : dp.toNatClampNeg + n.toNatClampNeg ≤ kAl d) : kJ 6 85 [l0, l1] [.int n, .int dp, .ref d, .int sp, .ref s] (mi, ml, mr, nx) Q = kJ 6 88 [l0, l1] [] (kRow mi d (va_cpy (mi s) (mi d) sp.toNatClampNeg dp.toNatClampNeg n.toNatClampNeg), ml, mr, nx) Q := kJ_next d6_85 (kg_cpy rfl rfl (kAr_of h0) (kAr_of h1) c1 c2 c3 c4 c5 (Nat.le_of_ble_eq_true rfl))
theorem d6_88 : decode (mB 6) 88 = .ok (.aload_n 1, 1) := by decide +kernel
theorem s6_88 {l0 : Option Value} {st : List Value} {x : Nat} {m : kMem} {Q : Option Value → kMem → Prop} : kJ 6 88 [l0, some (.ref x)] st m Q = kJ 6 89 [l0, some (.ref x)] (.ref x :: st) m Q := kJ_next d6_88 rfl
theorem d6_89 : decode (mB 6) 89 = .ok (.getfield 27, 3) := by decide +kernel
theorem s6_89 {l0 l1 : Option Value} {st : List Value} {q : Nat} {mi : Nat → Nat → Int32} {ml : Nat → Nat → Int64} {mr : Nat → Nat → Option Nat} {nx : Nat} {Q : Option Value → kMem → Prop} (h : kIs nx q 1 = true) : kJ 6 89 [l0, l1] (.ref q :: st) (mi, ml, mr, nx) Q = kJ 6 92 [l0, l1] (va_rf (mr q 7) :: st) (mi, ml, mr, nx) Q := kJ_next d6_89 (kg_getr 1 7 rfl h (by decide))
theorem d6_92 : decode (mB 6) 92 = .ok (.iconst 0, 1) := by decide +kernel
theorem s6_92 {l0 l1 : Option Value} {st : List Value} {m : kMem} {Q : Option Value → kMem → Prop} : kJ 6 92 [l0, l1] st m Q = kJ 6 93 [l0, l1] (.int (nI 0) :: st) m Q := kJ_next d6_92 rfl
theorem d6_93 : decode (mB 6) 93 = .ok (.aload_n 0, 1) := by decide +kernel
theorem s6_93 {l1 : Option Value} {st : List Value} {x : Nat} {m : kMem} {Q : Option Value → kMem → Prop} : kJ 6 93 [some (.ref x), l1] st m Q = kJ 6 94 [some (.ref x), l1] (.ref x :: st) m Q := kJ_next d6_93 rfl
theorem d6_94 : decode (mB 6) 94 = .ok (.getfield 27, 3) := by decide +kernel
theorem s6_94 {l0 l1 : Option Value} {st : List Value} {q : Nat} {mi : Nat → Nat → Int32} {ml : Nat → Nat → Int64} {mr : Nat → Nat → Option Nat} {nx : Nat} {Q : Option Value → kMem → Prop} (h : kIs nx q 1 = true) : kJ 6 94 [l0, l1] (.ref q :: st) (mi, ml, mr, nx) Q = kJ 6 97 [l0, l1] (va_rf (mr q 7) :: st) (mi, ml, mr, nx) Q := kJ_next d6_94 (kg_getr 1 7 rfl h (by decide))
theorem d6_97 : decode (mB 6) 97 = .ok (.iconst 0, 1) := by decide +kernel
theorem s6_97 {l0 l1 : Option Value} {st : List Value} {m : kMem} {Q : Option Value → kMem → Prop} : kJ 6 97 [l0, l1] st m Q = kJ 6 98 [l0, l1] (.int (nI 0) :: st) m Q := kJ_next d6_97 rfl
theorem d6_98 : decode (mB 6) 98 = .ok (.bipush 6, 2) := by decide +kernel
theorem s6_98 {l0 l1 : Option Value} {st : List Value} {m : kMem} {Q : Option Value → kMem → Prop} : kJ 6 98 [l0, l1] st m Q = kJ 6 100 [l0, l1] (.int (nI 6) :: st) m Q := kJ_next d6_98 rfl
theorem d6_100 : decode (mB 6) 100 = .ok (.invokestatic 64, 3) := by decide +kernel
theorem s6_100 {l0 l1 : Option Value}  {d s : Nat} {n dp sp : Int32} {mi : Nat → Nat → Int32} {ml : Nat → Nat → Int64} {mr : Nat → Nat → Option Nat} {nx : Nat} {Q : Option Value → kMem → Prop} (h0 : kIs nx s 10 = true) (h1 : kIs nx d 10 = true) (c1 : ¬ sp < 0) (c2 : ¬ dp < 0) (c3 : ¬ n < 0) (c4 : sp.toNatClampNeg + n.toNatClampNeg ≤ kAl s) (c5 : dp.toNatClampNeg + n.toNatClampNeg ≤ kAl d) : kJ 6 100 [l0, l1] [.int n, .int dp, .ref d, .int sp, .ref s] (mi, ml, mr, nx) Q = kJ 6 103 [l0, l1] [] (kRow mi d (va_cpy (mi s) (mi d) sp.toNatClampNeg dp.toNatClampNeg n.toNatClampNeg), ml, mr, nx) Q := kJ_next d6_100 (kg_cpy rfl rfl (kAr_of h0) (kAr_of h1) c1 c2 c3 c4 c5 (Nat.le_of_ble_eq_true rfl))
theorem d6_103 : decode (mB 6) 103 = .ok (.aload_n 1, 1) := by decide +kernel
theorem s6_103 {l0 : Option Value} {st : List Value} {x : Nat} {m : kMem} {Q : Option Value → kMem → Prop} : kJ 6 103 [l0, some (.ref x)] st m Q = kJ 6 104 [l0, some (.ref x)] (.ref x :: st) m Q := kJ_next d6_103 rfl
theorem d6_104 : decode (mB 6) 104 = .ok (.getfield 30, 3) := by decide +kernel
theorem s6_104 {l0 l1 : Option Value} {st : List Value} {q : Nat} {mi : Nat → Nat → Int32} {ml : Nat → Nat → Int64} {mr : Nat → Nat → Option Nat} {nx : Nat} {Q : Option Value → kMem → Prop} (h : kIs nx q 1 = true) : kJ 6 104 [l0, l1] (.ref q :: st) (mi, ml, mr, nx) Q = kJ 6 107 [l0, l1] (va_rf (mr q 8) :: st) (mi, ml, mr, nx) Q := kJ_next d6_104 (kg_getr 1 8 rfl h (by decide))
theorem d6_107 : decode (mB 6) 107 = .ok (.iconst 0, 1) := by decide +kernel
theorem s6_107 {l0 l1 : Option Value} {st : List Value} {m : kMem} {Q : Option Value → kMem → Prop} : kJ 6 107 [l0, l1] st m Q = kJ 6 108 [l0, l1] (.int (nI 0) :: st) m Q := kJ_next d6_107 rfl
theorem d6_108 : decode (mB 6) 108 = .ok (.aload_n 0, 1) := by decide +kernel
theorem s6_108 {l1 : Option Value} {st : List Value} {x : Nat} {m : kMem} {Q : Option Value → kMem → Prop} : kJ 6 108 [some (.ref x), l1] st m Q = kJ 6 109 [some (.ref x), l1] (.ref x :: st) m Q := kJ_next d6_108 rfl
theorem d6_109 : decode (mB 6) 109 = .ok (.getfield 30, 3) := by decide +kernel
theorem s6_109 {l0 l1 : Option Value} {st : List Value} {q : Nat} {mi : Nat → Nat → Int32} {ml : Nat → Nat → Int64} {mr : Nat → Nat → Option Nat} {nx : Nat} {Q : Option Value → kMem → Prop} (h : kIs nx q 1 = true) : kJ 6 109 [l0, l1] (.ref q :: st) (mi, ml, mr, nx) Q = kJ 6 112 [l0, l1] (va_rf (mr q 8) :: st) (mi, ml, mr, nx) Q := kJ_next d6_109 (kg_getr 1 8 rfl h (by decide))
theorem d6_112 : decode (mB 6) 112 = .ok (.iconst 0, 1) := by decide +kernel
theorem s6_112 {l0 l1 : Option Value} {st : List Value} {m : kMem} {Q : Option Value → kMem → Prop} : kJ 6 112 [l0, l1] st m Q = kJ 6 113 [l0, l1] (.int (nI 0) :: st) m Q := kJ_next d6_112 rfl
theorem d6_113 : decode (mB 6) 113 = .ok (.bipush 6, 2) := by decide +kernel
theorem s6_113 {l0 l1 : Option Value} {st : List Value} {m : kMem} {Q : Option Value → kMem → Prop} : kJ 6 113 [l0, l1] st m Q = kJ 6 115 [l0, l1] (.int (nI 6) :: st) m Q := kJ_next d6_113 rfl
theorem d6_115 : decode (mB 6) 115 = .ok (.invokestatic 64, 3) := by decide +kernel
theorem s6_115 {l0 l1 : Option Value}  {d s : Nat} {n dp sp : Int32} {mi : Nat → Nat → Int32} {ml : Nat → Nat → Int64} {mr : Nat → Nat → Option Nat} {nx : Nat} {Q : Option Value → kMem → Prop} (h0 : kIs nx s 10 = true) (h1 : kIs nx d 10 = true) (c1 : ¬ sp < 0) (c2 : ¬ dp < 0) (c3 : ¬ n < 0) (c4 : sp.toNatClampNeg + n.toNatClampNeg ≤ kAl s) (c5 : dp.toNatClampNeg + n.toNatClampNeg ≤ kAl d) : kJ 6 115 [l0, l1] [.int n, .int dp, .ref d, .int sp, .ref s] (mi, ml, mr, nx) Q = kJ 6 118 [l0, l1] [] (kRow mi d (va_cpy (mi s) (mi d) sp.toNatClampNeg dp.toNatClampNeg n.toNatClampNeg), ml, mr, nx) Q := kJ_next d6_115 (kg_cpy rfl rfl (kAr_of h0) (kAr_of h1) c1 c2 c3 c4 c5 (Nat.le_of_ble_eq_true rfl))
theorem d6_118 : decode (mB 6) 118 = .ok (.aload_n 1, 1) := by decide +kernel
theorem s6_118 {l0 : Option Value} {st : List Value} {x : Nat} {m : kMem} {Q : Option Value → kMem → Prop} : kJ 6 118 [l0, some (.ref x)] st m Q = kJ 6 119 [l0, some (.ref x)] (.ref x :: st) m Q := kJ_next d6_118 rfl
theorem d6_119 : decode (mB 6) 119 = .ok (.getfield 33, 3) := by decide +kernel
theorem s6_119 {l0 l1 : Option Value} {st : List Value} {q : Nat} {mi : Nat → Nat → Int32} {ml : Nat → Nat → Int64} {mr : Nat → Nat → Option Nat} {nx : Nat} {Q : Option Value → kMem → Prop} (h : kIs nx q 1 = true) : kJ 6 119 [l0, l1] (.ref q :: st) (mi, ml, mr, nx) Q = kJ 6 122 [l0, l1] (va_rf (mr q 9) :: st) (mi, ml, mr, nx) Q := kJ_next d6_119 (kg_getr 1 9 rfl h (by decide))
theorem d6_122 : decode (mB 6) 122 = .ok (.iconst 0, 1) := by decide +kernel
theorem s6_122 {l0 l1 : Option Value} {st : List Value} {m : kMem} {Q : Option Value → kMem → Prop} : kJ 6 122 [l0, l1] st m Q = kJ 6 123 [l0, l1] (.int (nI 0) :: st) m Q := kJ_next d6_122 rfl
theorem d6_123 : decode (mB 6) 123 = .ok (.aload_n 0, 1) := by decide +kernel
theorem s6_123 {l1 : Option Value} {st : List Value} {x : Nat} {m : kMem} {Q : Option Value → kMem → Prop} : kJ 6 123 [some (.ref x), l1] st m Q = kJ 6 124 [some (.ref x), l1] (.ref x :: st) m Q := kJ_next d6_123 rfl
theorem d6_124 : decode (mB 6) 124 = .ok (.getfield 33, 3) := by decide +kernel
theorem s6_124 {l0 l1 : Option Value} {st : List Value} {q : Nat} {mi : Nat → Nat → Int32} {ml : Nat → Nat → Int64} {mr : Nat → Nat → Option Nat} {nx : Nat} {Q : Option Value → kMem → Prop} (h : kIs nx q 1 = true) : kJ 6 124 [l0, l1] (.ref q :: st) (mi, ml, mr, nx) Q = kJ 6 127 [l0, l1] (va_rf (mr q 9) :: st) (mi, ml, mr, nx) Q := kJ_next d6_124 (kg_getr 1 9 rfl h (by decide))
theorem d6_127 : decode (mB 6) 127 = .ok (.iconst 0, 1) := by decide +kernel
theorem s6_127 {l0 l1 : Option Value} {st : List Value} {m : kMem} {Q : Option Value → kMem → Prop} : kJ 6 127 [l0, l1] st m Q = kJ 6 128 [l0, l1] (.int (nI 0) :: st) m Q := kJ_next d6_127 rfl
theorem d6_128 : decode (mB 6) 128 = .ok (.bipush 6, 2) := by decide +kernel
theorem s6_128 {l0 l1 : Option Value} {st : List Value} {m : kMem} {Q : Option Value → kMem → Prop} : kJ 6 128 [l0, l1] st m Q = kJ 6 130 [l0, l1] (.int (nI 6) :: st) m Q := kJ_next d6_128 rfl
theorem d6_130 : decode (mB 6) 130 = .ok (.invokestatic 64, 3) := by decide +kernel
theorem s6_130 {l0 l1 : Option Value}  {d s : Nat} {n dp sp : Int32} {mi : Nat → Nat → Int32} {ml : Nat → Nat → Int64} {mr : Nat → Nat → Option Nat} {nx : Nat} {Q : Option Value → kMem → Prop} (h0 : kIs nx s 10 = true) (h1 : kIs nx d 10 = true) (c1 : ¬ sp < 0) (c2 : ¬ dp < 0) (c3 : ¬ n < 0) (c4 : sp.toNatClampNeg + n.toNatClampNeg ≤ kAl s) (c5 : dp.toNatClampNeg + n.toNatClampNeg ≤ kAl d) : kJ 6 130 [l0, l1] [.int n, .int dp, .ref d, .int sp, .ref s] (mi, ml, mr, nx) Q = kJ 6 133 [l0, l1] [] (kRow mi d (va_cpy (mi s) (mi d) sp.toNatClampNeg dp.toNatClampNeg n.toNatClampNeg), ml, mr, nx) Q := kJ_next d6_130 (kg_cpy rfl rfl (kAr_of h0) (kAr_of h1) c1 c2 c3 c4 c5 (Nat.le_of_ble_eq_true rfl))
theorem d6_133 : decode (mB 6) 133 = .ok (.aload_n 1, 1) := by decide +kernel
theorem s6_133 {l0 : Option Value} {st : List Value} {x : Nat} {m : kMem} {Q : Option Value → kMem → Prop} : kJ 6 133 [l0, some (.ref x)] st m Q = kJ 6 134 [l0, some (.ref x)] (.ref x :: st) m Q := kJ_next d6_133 rfl
theorem d6_134 : decode (mB 6) 134 = .ok (.getfield 36, 3) := by decide +kernel
theorem s6_134 {l0 l1 : Option Value} {st : List Value} {q : Nat} {mi : Nat → Nat → Int32} {ml : Nat → Nat → Int64} {mr : Nat → Nat → Option Nat} {nx : Nat} {Q : Option Value → kMem → Prop} (h : kIs nx q 1 = true) : kJ 6 134 [l0, l1] (.ref q :: st) (mi, ml, mr, nx) Q = kJ 6 137 [l0, l1] (va_rf (mr q 10) :: st) (mi, ml, mr, nx) Q := kJ_next d6_134 (kg_getr 1 10 rfl h (by decide))
theorem d6_137 : decode (mB 6) 137 = .ok (.iconst 0, 1) := by decide +kernel
theorem s6_137 {l0 l1 : Option Value} {st : List Value} {m : kMem} {Q : Option Value → kMem → Prop} : kJ 6 137 [l0, l1] st m Q = kJ 6 138 [l0, l1] (.int (nI 0) :: st) m Q := kJ_next d6_137 rfl
theorem d6_138 : decode (mB 6) 138 = .ok (.aload_n 0, 1) := by decide +kernel
theorem s6_138 {l1 : Option Value} {st : List Value} {x : Nat} {m : kMem} {Q : Option Value → kMem → Prop} : kJ 6 138 [some (.ref x), l1] st m Q = kJ 6 139 [some (.ref x), l1] (.ref x :: st) m Q := kJ_next d6_138 rfl
theorem d6_139 : decode (mB 6) 139 = .ok (.getfield 36, 3) := by decide +kernel
theorem s6_139 {l0 l1 : Option Value} {st : List Value} {q : Nat} {mi : Nat → Nat → Int32} {ml : Nat → Nat → Int64} {mr : Nat → Nat → Option Nat} {nx : Nat} {Q : Option Value → kMem → Prop} (h : kIs nx q 1 = true) : kJ 6 139 [l0, l1] (.ref q :: st) (mi, ml, mr, nx) Q = kJ 6 142 [l0, l1] (va_rf (mr q 10) :: st) (mi, ml, mr, nx) Q := kJ_next d6_139 (kg_getr 1 10 rfl h (by decide))
theorem d6_142 : decode (mB 6) 142 = .ok (.iconst 0, 1) := by decide +kernel
theorem s6_142 {l0 l1 : Option Value} {st : List Value} {m : kMem} {Q : Option Value → kMem → Prop} : kJ 6 142 [l0, l1] st m Q = kJ 6 143 [l0, l1] (.int (nI 0) :: st) m Q := kJ_next d6_142 rfl
theorem d6_143 : decode (mB 6) 143 = .ok (.bipush 6, 2) := by decide +kernel
theorem s6_143 {l0 l1 : Option Value} {st : List Value} {m : kMem} {Q : Option Value → kMem → Prop} : kJ 6 143 [l0, l1] st m Q = kJ 6 145 [l0, l1] (.int (nI 6) :: st) m Q := kJ_next d6_143 rfl
theorem d6_145 : decode (mB 6) 145 = .ok (.invokestatic 64, 3) := by decide +kernel
theorem s6_145 {l0 l1 : Option Value}  {d s : Nat} {n dp sp : Int32} {mi : Nat → Nat → Int32} {ml : Nat → Nat → Int64} {mr : Nat → Nat → Option Nat} {nx : Nat} {Q : Option Value → kMem → Prop} (h0 : kIs nx s 10 = true) (h1 : kIs nx d 10 = true) (c1 : ¬ sp < 0) (c2 : ¬ dp < 0) (c3 : ¬ n < 0) (c4 : sp.toNatClampNeg + n.toNatClampNeg ≤ kAl s) (c5 : dp.toNatClampNeg + n.toNatClampNeg ≤ kAl d) : kJ 6 145 [l0, l1] [.int n, .int dp, .ref d, .int sp, .ref s] (mi, ml, mr, nx) Q = kJ 6 148 [l0, l1] [] (kRow mi d (va_cpy (mi s) (mi d) sp.toNatClampNeg dp.toNatClampNeg n.toNatClampNeg), ml, mr, nx) Q := kJ_next d6_145 (kg_cpy rfl rfl (kAr_of h0) (kAr_of h1) c1 c2 c3 c4 c5 (Nat.le_of_ble_eq_true rfl))
theorem d6_148 : decode (mB 6) 148 = .ok (.aload_n 0, 1) := by decide +kernel
theorem s6_148 {l1 : Option Value} {st : List Value} {x : Nat} {m : kMem} {Q : Option Value → kMem → Prop} : kJ 6 148 [some (.ref x), l1] st m Q = kJ 6 149 [some (.ref x), l1] (.ref x :: st) m Q := kJ_next d6_148 rfl
theorem d6_149 : decode (mB 6) 149 = .ok (.aload_n 1, 1) := by decide +kernel
theorem s6_149 {l0 : Option Value} {st : List Value} {x : Nat} {m : kMem} {Q : Option Value → kMem → Prop} : kJ 6 149 [l0, some (.ref x)] st m Q = kJ 6 150 [l0, some (.ref x)] (.ref x :: st) m Q := kJ_next d6_149 rfl
theorem d6_150 : decode (mB 6) 150 = .ok (.getfield 39, 3) := by decide +kernel
theorem s6_150 {l0 l1 : Option Value} {st : List Value} {q : Nat} {mi : Nat → Nat → Int32} {ml : Nat → Nat → Int64} {mr : Nat → Nat → Option Nat} {nx : Nat} {Q : Option Value → kMem → Prop} (h : kIs nx q 1 = true) : kJ 6 150 [l0, l1] (.ref q :: st) (mi, ml, mr, nx) Q = kJ 6 153 [l0, l1] (.int (mi q 11) :: st) (mi, ml, mr, nx) Q := kJ_next d6_150 (kg_geti 1 11 rfl h (by decide))
theorem d6_153 : decode (mB 6) 153 = .ok (.putfield 39, 3) := by decide +kernel
theorem s6_153 {l0 l1 : Option Value} {st : List Value} {q : Nat} {x : Int32} {mi : Nat → Nat → Int32} {ml : Nat → Nat → Int64} {mr : Nat → Nat → Option Nat} {nx : Nat} {Q : Option Value → kMem → Prop} (h : kIs nx q 1 = true) : kJ 6 153 [l0, l1] (.int x :: .ref q :: st) (mi, ml, mr, nx) Q = kJ 6 156 [l0, l1] st (kup mi q 11 x, ml, mr, nx) Q := kJ_next d6_153 (kg_puti 1 11 rfl h (by decide) (Or.inl (by decide)))
theorem d6_156 : decode (mB 6) 156 = .ok (.aload_n 0, 1) := by decide +kernel
theorem s6_156 {l1 : Option Value} {st : List Value} {x : Nat} {m : kMem} {Q : Option Value → kMem → Prop} : kJ 6 156 [some (.ref x), l1] st m Q = kJ 6 157 [some (.ref x), l1] (.ref x :: st) m Q := kJ_next d6_156 rfl
theorem d6_157 : decode (mB 6) 157 = .ok (.aload_n 1, 1) := by decide +kernel
theorem s6_157 {l0 : Option Value} {st : List Value} {x : Nat} {m : kMem} {Q : Option Value → kMem → Prop} : kJ 6 157 [l0, some (.ref x)] st m Q = kJ 6 158 [l0, some (.ref x)] (.ref x :: st) m Q := kJ_next d6_157 rfl
theorem d6_158 : decode (mB 6) 158 = .ok (.getfield 58, 3) := by decide +kernel
theorem s6_158 {l0 l1 : Option Value} {st : List Value} {q : Nat} {mi : Nat → Nat → Int32} {ml : Nat → Nat → Int64} {mr : Nat → Nat → Option Nat} {nx : Nat} {Q : Option Value → kMem → Prop} (h : kIs nx q 1 = true) : kJ 6 158 [l0, l1] (.ref q :: st) (mi, ml, mr, nx) Q = kJ 6 161 [l0, l1] (.int (mi q 12) :: st) (mi, ml, mr, nx) Q := kJ_next d6_158 (kg_geti 1 12 rfl h (by decide))
theorem d6_161 : decode (mB 6) 161 = .ok (.putfield 58, 3) := by decide +kernel
theorem s6_161 {l0 l1 : Option Value} {st : List Value} {q : Nat} {x : Int32} {mi : Nat → Nat → Int32} {ml : Nat → Nat → Int64} {mr : Nat → Nat → Option Nat} {nx : Nat} {Q : Option Value → kMem → Prop} (h : kIs nx q 1 = true) : kJ 6 161 [l0, l1] (.int x :: .ref q :: st) (mi, ml, mr, nx) Q = kJ 6 164 [l0, l1] st (kup mi q 12 x, ml, mr, nx) Q := kJ_next d6_161 (kg_puti 1 12 rfl h (by decide) (Or.inl (by decide)))
theorem d6_164 : decode (mB 6) 164 = .ok (.aload_n 0, 1) := by decide +kernel
theorem s6_164 {l1 : Option Value} {st : List Value} {x : Nat} {m : kMem} {Q : Option Value → kMem → Prop} : kJ 6 164 [some (.ref x), l1] st m Q = kJ 6 165 [some (.ref x), l1] (.ref x :: st) m Q := kJ_next d6_164 rfl
theorem d6_165 : decode (mB 6) 165 = .ok (.aload_n 1, 1) := by decide +kernel
theorem s6_165 {l0 : Option Value} {st : List Value} {x : Nat} {m : kMem} {Q : Option Value → kMem → Prop} : kJ 6 165 [l0, some (.ref x)] st m Q = kJ 6 166 [l0, some (.ref x)] (.ref x :: st) m Q := kJ_next d6_165 rfl
theorem d6_166 : decode (mB 6) 166 = .ok (.getfield 61, 3) := by decide +kernel
theorem s6_166 {l0 l1 : Option Value} {st : List Value} {q : Nat} {mi : Nat → Nat → Int32} {ml : Nat → Nat → Int64} {mr : Nat → Nat → Option Nat} {nx : Nat} {Q : Option Value → kMem → Prop} (h : kIs nx q 1 = true) : kJ 6 166 [l0, l1] (.ref q :: st) (mi, ml, mr, nx) Q = kJ 6 169 [l0, l1] (.int (mi q 13) :: st) (mi, ml, mr, nx) Q := kJ_next d6_166 (kg_geti 1 13 rfl h (by decide))
theorem d6_169 : decode (mB 6) 169 = .ok (.putfield 61, 3) := by decide +kernel
theorem s6_169 {l0 l1 : Option Value} {st : List Value} {q : Nat} {x : Int32} {mi : Nat → Nat → Int32} {ml : Nat → Nat → Int64} {mr : Nat → Nat → Option Nat} {nx : Nat} {Q : Option Value → kMem → Prop} (h : kIs nx q 1 = true) : kJ 6 169 [l0, l1] (.int x :: .ref q :: st) (mi, ml, mr, nx) Q = kJ 6 172 [l0, l1] st (kup mi q 13 x, ml, mr, nx) Q := kJ_next d6_169 (kg_puti 1 13 rfl h (by decide) (Or.inl (by decide)))
theorem d6_172 : decode (mB 6) 172 = .ok (.aload_n 1, 1) := by decide +kernel
theorem s6_172 {l0 : Option Value} {st : List Value} {x : Nat} {m : kMem} {Q : Option Value → kMem → Prop} : kJ 6 172 [l0, some (.ref x)] st m Q = kJ 6 173 [l0, some (.ref x)] (.ref x :: st) m Q := kJ_next d6_172 rfl
theorem d6_173 : decode (mB 6) 173 = .ok (.getfield 43, 3) := by decide +kernel
theorem s6_173 {l0 l1 : Option Value} {st : List Value} {q : Nat} {mi : Nat → Nat → Int32} {ml : Nat → Nat → Int64} {mr : Nat → Nat → Option Nat} {nx : Nat} {Q : Option Value → kMem → Prop} (h : kIs nx q 1 = true) : kJ 6 173 [l0, l1] (.ref q :: st) (mi, ml, mr, nx) Q = kJ 6 176 [l0, l1] (va_rf (mr q 14) :: st) (mi, ml, mr, nx) Q := kJ_next d6_173 (kg_getr 1 14 rfl h (by decide))
theorem d6_176 : decode (mB 6) 176 = .ok (.iconst 0, 1) := by decide +kernel
theorem s6_176 {l0 l1 : Option Value} {st : List Value} {m : kMem} {Q : Option Value → kMem → Prop} : kJ 6 176 [l0, l1] st m Q = kJ 6 177 [l0, l1] (.int (nI 0) :: st) m Q := kJ_next d6_176 rfl
theorem d6_177 : decode (mB 6) 177 = .ok (.aload_n 0, 1) := by decide +kernel
theorem s6_177 {l1 : Option Value} {st : List Value} {x : Nat} {m : kMem} {Q : Option Value → kMem → Prop} : kJ 6 177 [some (.ref x), l1] st m Q = kJ 6 178 [some (.ref x), l1] (.ref x :: st) m Q := kJ_next d6_177 rfl
theorem d6_178 : decode (mB 6) 178 = .ok (.getfield 43, 3) := by decide +kernel
theorem s6_178 {l0 l1 : Option Value} {st : List Value} {q : Nat} {mi : Nat → Nat → Int32} {ml : Nat → Nat → Int64} {mr : Nat → Nat → Option Nat} {nx : Nat} {Q : Option Value → kMem → Prop} (h : kIs nx q 1 = true) : kJ 6 178 [l0, l1] (.ref q :: st) (mi, ml, mr, nx) Q = kJ 6 181 [l0, l1] (va_rf (mr q 14) :: st) (mi, ml, mr, nx) Q := kJ_next d6_178 (kg_getr 1 14 rfl h (by decide))
theorem d6_181 : decode (mB 6) 181 = .ok (.iconst 0, 1) := by decide +kernel
theorem s6_181 {l0 l1 : Option Value} {st : List Value} {m : kMem} {Q : Option Value → kMem → Prop} : kJ 6 181 [l0, l1] st m Q = kJ 6 182 [l0, l1] (.int (nI 0) :: st) m Q := kJ_next d6_181 rfl
theorem d6_182 : decode (mB 6) 182 = .ok (.bipush 6, 2) := by decide +kernel
theorem s6_182 {l0 l1 : Option Value} {st : List Value} {m : kMem} {Q : Option Value → kMem → Prop} : kJ 6 182 [l0, l1] st m Q = kJ 6 184 [l0, l1] (.int (nI 6) :: st) m Q := kJ_next d6_182 rfl
theorem d6_184 : decode (mB 6) 184 = .ok (.invokestatic 64, 3) := by decide +kernel
theorem s6_184 {l0 l1 : Option Value}  {d s : Nat} {n dp sp : Int32} {mi : Nat → Nat → Int32} {ml : Nat → Nat → Int64} {mr : Nat → Nat → Option Nat} {nx : Nat} {Q : Option Value → kMem → Prop} (h0 : kIs nx s 10 = true) (h1 : kIs nx d 10 = true) (c1 : ¬ sp < 0) (c2 : ¬ dp < 0) (c3 : ¬ n < 0) (c4 : sp.toNatClampNeg + n.toNatClampNeg ≤ kAl s) (c5 : dp.toNatClampNeg + n.toNatClampNeg ≤ kAl d) : kJ 6 184 [l0, l1] [.int n, .int dp, .ref d, .int sp, .ref s] (mi, ml, mr, nx) Q = kJ 6 187 [l0, l1] [] (kRow mi d (va_cpy (mi s) (mi d) sp.toNatClampNeg dp.toNatClampNeg n.toNatClampNeg), ml, mr, nx) Q := kJ_next d6_184 (kg_cpy rfl rfl (kAr_of h0) (kAr_of h1) c1 c2 c3 c4 c5 (Nat.le_of_ble_eq_true rfl))
theorem d6_187 : decode (mB 6) 187 = .ok (.aload_n 1, 1) := by decide +kernel
theorem s6_187 {l0 : Option Value} {st : List Value} {x : Nat} {m : kMem} {Q : Option Value → kMem → Prop} : kJ 6 187 [l0, some (.ref x)] st m Q = kJ 6 188 [l0, some (.ref x)] (.ref x :: st) m Q := kJ_next d6_187 rfl
theorem d6_188 : decode (mB 6) 188 = .ok (.getfield 46, 3) := by decide +kernel
theorem s6_188 {l0 l1 : Option Value} {st : List Value} {q : Nat} {mi : Nat → Nat → Int32} {ml : Nat → Nat → Int64} {mr : Nat → Nat → Option Nat} {nx : Nat} {Q : Option Value → kMem → Prop} (h : kIs nx q 1 = true) : kJ 6 188 [l0, l1] (.ref q :: st) (mi, ml, mr, nx) Q = kJ 6 191 [l0, l1] (va_rf (mr q 15) :: st) (mi, ml, mr, nx) Q := kJ_next d6_188 (kg_getr 1 15 rfl h (by decide))
theorem d6_191 : decode (mB 6) 191 = .ok (.iconst 0, 1) := by decide +kernel
theorem s6_191 {l0 l1 : Option Value} {st : List Value} {m : kMem} {Q : Option Value → kMem → Prop} : kJ 6 191 [l0, l1] st m Q = kJ 6 192 [l0, l1] (.int (nI 0) :: st) m Q := kJ_next d6_191 rfl
theorem d6_192 : decode (mB 6) 192 = .ok (.aload_n 0, 1) := by decide +kernel
theorem s6_192 {l1 : Option Value} {st : List Value} {x : Nat} {m : kMem} {Q : Option Value → kMem → Prop} : kJ 6 192 [some (.ref x), l1] st m Q = kJ 6 193 [some (.ref x), l1] (.ref x :: st) m Q := kJ_next d6_192 rfl
theorem d6_193 : decode (mB 6) 193 = .ok (.getfield 46, 3) := by decide +kernel
theorem s6_193 {l0 l1 : Option Value} {st : List Value} {q : Nat} {mi : Nat → Nat → Int32} {ml : Nat → Nat → Int64} {mr : Nat → Nat → Option Nat} {nx : Nat} {Q : Option Value → kMem → Prop} (h : kIs nx q 1 = true) : kJ 6 193 [l0, l1] (.ref q :: st) (mi, ml, mr, nx) Q = kJ 6 196 [l0, l1] (va_rf (mr q 15) :: st) (mi, ml, mr, nx) Q := kJ_next d6_193 (kg_getr 1 15 rfl h (by decide))
theorem d6_196 : decode (mB 6) 196 = .ok (.iconst 0, 1) := by decide +kernel
theorem s6_196 {l0 l1 : Option Value} {st : List Value} {m : kMem} {Q : Option Value → kMem → Prop} : kJ 6 196 [l0, l1] st m Q = kJ 6 197 [l0, l1] (.int (nI 0) :: st) m Q := kJ_next d6_196 rfl
theorem d6_197 : decode (mB 6) 197 = .ok (.bipush 6, 2) := by decide +kernel
theorem s6_197 {l0 l1 : Option Value} {st : List Value} {m : kMem} {Q : Option Value → kMem → Prop} : kJ 6 197 [l0, l1] st m Q = kJ 6 199 [l0, l1] (.int (nI 6) :: st) m Q := kJ_next d6_197 rfl
theorem d6_199 : decode (mB 6) 199 = .ok (.invokestatic 64, 3) := by decide +kernel
theorem s6_199 {l0 l1 : Option Value}  {d s : Nat} {n dp sp : Int32} {mi : Nat → Nat → Int32} {ml : Nat → Nat → Int64} {mr : Nat → Nat → Option Nat} {nx : Nat} {Q : Option Value → kMem → Prop} (h0 : kIs nx s 10 = true) (h1 : kIs nx d 10 = true) (c1 : ¬ sp < 0) (c2 : ¬ dp < 0) (c3 : ¬ n < 0) (c4 : sp.toNatClampNeg + n.toNatClampNeg ≤ kAl s) (c5 : dp.toNatClampNeg + n.toNatClampNeg ≤ kAl d) : kJ 6 199 [l0, l1] [.int n, .int dp, .ref d, .int sp, .ref s] (mi, ml, mr, nx) Q = kJ 6 202 [l0, l1] [] (kRow mi d (va_cpy (mi s) (mi d) sp.toNatClampNeg dp.toNatClampNeg n.toNatClampNeg), ml, mr, nx) Q := kJ_next d6_199 (kg_cpy rfl rfl (kAr_of h0) (kAr_of h1) c1 c2 c3 c4 c5 (Nat.le_of_ble_eq_true rfl))
theorem d6_202 : decode (mB 6) 202 = .ok (.aload_n 1, 1) := by decide +kernel
theorem s6_202 {l0 : Option Value} {st : List Value} {x : Nat} {m : kMem} {Q : Option Value → kMem → Prop} : kJ 6 202 [l0, some (.ref x)] st m Q = kJ 6 203 [l0, some (.ref x)] (.ref x :: st) m Q := kJ_next d6_202 rfl
theorem d6_203 : decode (mB 6) 203 = .ok (.getfield 49, 3) := by decide +kernel
theorem s6_203 {l0 l1 : Option Value} {st : List Value} {q : Nat} {mi : Nat → Nat → Int32} {ml : Nat → Nat → Int64} {mr : Nat → Nat → Option Nat} {nx : Nat} {Q : Option Value → kMem → Prop} (h : kIs nx q 1 = true) : kJ 6 203 [l0, l1] (.ref q :: st) (mi, ml, mr, nx) Q = kJ 6 206 [l0, l1] (va_rf (mr q 16) :: st) (mi, ml, mr, nx) Q := kJ_next d6_203 (kg_getr 1 16 rfl h (by decide))
theorem d6_206 : decode (mB 6) 206 = .ok (.iconst 0, 1) := by decide +kernel
theorem s6_206 {l0 l1 : Option Value} {st : List Value} {m : kMem} {Q : Option Value → kMem → Prop} : kJ 6 206 [l0, l1] st m Q = kJ 6 207 [l0, l1] (.int (nI 0) :: st) m Q := kJ_next d6_206 rfl
theorem d6_207 : decode (mB 6) 207 = .ok (.aload_n 0, 1) := by decide +kernel
theorem s6_207 {l1 : Option Value} {st : List Value} {x : Nat} {m : kMem} {Q : Option Value → kMem → Prop} : kJ 6 207 [some (.ref x), l1] st m Q = kJ 6 208 [some (.ref x), l1] (.ref x :: st) m Q := kJ_next d6_207 rfl
theorem d6_208 : decode (mB 6) 208 = .ok (.getfield 49, 3) := by decide +kernel
theorem s6_208 {l0 l1 : Option Value} {st : List Value} {q : Nat} {mi : Nat → Nat → Int32} {ml : Nat → Nat → Int64} {mr : Nat → Nat → Option Nat} {nx : Nat} {Q : Option Value → kMem → Prop} (h : kIs nx q 1 = true) : kJ 6 208 [l0, l1] (.ref q :: st) (mi, ml, mr, nx) Q = kJ 6 211 [l0, l1] (va_rf (mr q 16) :: st) (mi, ml, mr, nx) Q := kJ_next d6_208 (kg_getr 1 16 rfl h (by decide))
theorem d6_211 : decode (mB 6) 211 = .ok (.iconst 0, 1) := by decide +kernel
theorem s6_211 {l0 l1 : Option Value} {st : List Value} {m : kMem} {Q : Option Value → kMem → Prop} : kJ 6 211 [l0, l1] st m Q = kJ 6 212 [l0, l1] (.int (nI 0) :: st) m Q := kJ_next d6_211 rfl
theorem d6_212 : decode (mB 6) 212 = .ok (.bipush 6, 2) := by decide +kernel
theorem s6_212 {l0 l1 : Option Value} {st : List Value} {m : kMem} {Q : Option Value → kMem → Prop} : kJ 6 212 [l0, l1] st m Q = kJ 6 214 [l0, l1] (.int (nI 6) :: st) m Q := kJ_next d6_212 rfl
theorem d6_214 : decode (mB 6) 214 = .ok (.invokestatic 64, 3) := by decide +kernel
theorem s6_214 {l0 l1 : Option Value}  {d s : Nat} {n dp sp : Int32} {mi : Nat → Nat → Int32} {ml : Nat → Nat → Int64} {mr : Nat → Nat → Option Nat} {nx : Nat} {Q : Option Value → kMem → Prop} (h0 : kIs nx s 10 = true) (h1 : kIs nx d 10 = true) (c1 : ¬ sp < 0) (c2 : ¬ dp < 0) (c3 : ¬ n < 0) (c4 : sp.toNatClampNeg + n.toNatClampNeg ≤ kAl s) (c5 : dp.toNatClampNeg + n.toNatClampNeg ≤ kAl d) : kJ 6 214 [l0, l1] [.int n, .int dp, .ref d, .int sp, .ref s] (mi, ml, mr, nx) Q = kJ 6 217 [l0, l1] [] (kRow mi d (va_cpy (mi s) (mi d) sp.toNatClampNeg dp.toNatClampNeg n.toNatClampNeg), ml, mr, nx) Q := kJ_next d6_214 (kg_cpy rfl rfl (kAr_of h0) (kAr_of h1) c1 c2 c3 c4 c5 (Nat.le_of_ble_eq_true rfl))
theorem d6_217 : decode (mB 6) 217 = .ok (.return_, 1) := by decide +kernel
theorem s6_217 {l0 l1 : Option Value} {m : kMem} {Q : Option Value → kMem → Prop} : kJ 6 217 [l0, l1] [] m Q = Q none m := kJ_ret d6_217 rfl
theorem d7_0 : decode (mB 7) 0 = .ok (.iload_n 1, 1) := by decide +kernel
theorem s7_0 {l0 : Option Value} {st : List Value} {x : Int32} {m : kMem} {Q : Option Value → kMem → Prop} : kJ 7 0 [l0, some (.int x)] st m Q = kJ 7 1 [l0, some (.int x)] (.int x :: st) m Q := kJ_next d7_0 rfl
theorem d7_1 : decode (mB 7) 1 = .ok (.ifCond .lt 15, 3) := by decide +kernel
theorem s7_1 {l0 l1 : Option Value} {st : List Value} {a : Int32} {m : kMem} {Q : Option Value → kMem → Prop} : kJ 7 1 [l0, l1] (.int a :: st) m Q = (if a < 0 then kJ 7 16 [l0, l1] st m Q else kJ 7 4 [l0, l1] st m Q) := kJ_if d7_1 rfl (fun h => kJ_next d7_1 h) (fun h => kJ_next d7_1 h)
theorem d7_4 : decode (mB 7) 4 = .ok (.iload_n 1, 1) := by decide +kernel
theorem s7_4 {l0 : Option Value} {st : List Value} {x : Int32} {m : kMem} {Q : Option Value → kMem → Prop} : kJ 7 4 [l0, some (.int x)] st m Q = kJ 7 5 [l0, some (.int x)] (.int x :: st) m Q := kJ_next d7_4 rfl
theorem d7_5 : decode (mB 7) 5 = .ok (.aload_n 0, 1) := by decide +kernel
theorem s7_5 {l1 : Option Value} {st : List Value} {x : Nat} {m : kMem} {Q : Option Value → kMem → Prop} : kJ 7 5 [some (.ref x), l1] st m Q = kJ 7 6 [some (.ref x), l1] (.ref x :: st) m Q := kJ_next d7_5 rfl
theorem d7_6 : decode (mB 7) 6 = .ok (.getfield 52, 3) := by decide +kernel
theorem s7_6 {l0 l1 : Option Value} {st : List Value} {q : Nat} {mi : Nat → Nat → Int32} {ml : Nat → Nat → Int64} {mr : Nat → Nat → Option Nat} {nx : Nat} {Q : Option Value → kMem → Prop} (h : kIs nx q 1 = true) : kJ 7 6 [l0, l1] (.ref q :: st) (mi, ml, mr, nx) Q = kJ 7 9 [l0, l1] (.int (mi q 0) :: st) (mi, ml, mr, nx) Q := kJ_next d7_6 (kg_geti 1 0 rfl h (by decide))
theorem d7_9 : decode (mB 7) 9 = .ok (.if_icmp .ge 7, 3) := by decide +kernel
theorem s7_9 {l0 l1 : Option Value} {st : List Value} {a b : Int32} {m : kMem} {Q : Option Value → kMem → Prop} : kJ 7 9 [l0, l1] (.int b :: .int a :: st) m Q = (if b ≤ a then kJ 7 16 [l0, l1] st m Q else kJ 7 12 [l0, l1] st m Q) := kJ_if d7_9 rfl (fun h => kJ_next d7_9 h) (fun h => kJ_next d7_9 h)
theorem d7_12 : decode (mB 7) 12 = .ok (.iconst 1, 1) := by decide +kernel
theorem s7_12 {l0 l1 : Option Value} {st : List Value} {m : kMem} {Q : Option Value → kMem → Prop} : kJ 7 12 [l0, l1] st m Q = kJ 7 13 [l0, l1] (.int (nI 1) :: st) m Q := kJ_next d7_12 rfl
theorem d7_13 : decode (mB 7) 13 = .ok (.goto 4, 3) := by decide +kernel
theorem s7_13 {l0 l1 : Option Value} {st : List Value} {m : kMem} {Q : Option Value → kMem → Prop} : kJ 7 13 [l0, l1] st m Q = kJ 7 17 [l0, l1] st m Q := kJ_next d7_13 rfl
theorem d7_16 : decode (mB 7) 16 = .ok (.iconst 0, 1) := by decide +kernel
theorem s7_16 {l0 l1 : Option Value} {st : List Value} {m : kMem} {Q : Option Value → kMem → Prop} : kJ 7 16 [l0, l1] st m Q = kJ 7 17 [l0, l1] (.int (nI 0) :: st) m Q := kJ_next d7_16 rfl
theorem d7_17 : decode (mB 7) 17 = .ok (.ireturn, 1) := by decide +kernel
theorem s7_17 {l0 l1 : Option Value} {x : Int32} {m : kMem} {Q : Option Value → kMem → Prop} (hx : x = 0 ∨ x = 1) : kJ 7 17 [l0, l1] [.int x] m Q = Q (some (.int x)) m := kJ_ret d7_17 (kg_retz (by decide) hx)
theorem d8_0 : decode (mB 8) 0 = .ok (.iload_n 1, 1) := by decide +kernel
theorem s8_0 {l0 : Option Value} {st : List Value} {x : Int32} {m : kMem} {Q : Option Value → kMem → Prop} : kJ 8 0 [l0, some (.int x)] st m Q = kJ 8 1 [l0, some (.int x)] (.int x :: st) m Q := kJ_next d8_0 rfl
theorem d8_1 : decode (mB 8) 1 = .ok (.ifCond .lt 15, 3) := by decide +kernel
theorem s8_1 {l0 l1 : Option Value} {st : List Value} {a : Int32} {m : kMem} {Q : Option Value → kMem → Prop} : kJ 8 1 [l0, l1] (.int a :: st) m Q = (if a < 0 then kJ 8 16 [l0, l1] st m Q else kJ 8 4 [l0, l1] st m Q) := kJ_if d8_1 rfl (fun h => kJ_next d8_1 h) (fun h => kJ_next d8_1 h)
theorem d8_4 : decode (mB 8) 4 = .ok (.iload_n 1, 1) := by decide +kernel
theorem s8_4 {l0 : Option Value} {st : List Value} {x : Int32} {m : kMem} {Q : Option Value → kMem → Prop} : kJ 8 4 [l0, some (.int x)] st m Q = kJ 8 5 [l0, some (.int x)] (.int x :: st) m Q := kJ_next d8_4 rfl
theorem d8_5 : decode (mB 8) 5 = .ok (.aload_n 0, 1) := by decide +kernel
theorem s8_5 {l1 : Option Value} {st : List Value} {x : Nat} {m : kMem} {Q : Option Value → kMem → Prop} : kJ 8 5 [some (.ref x), l1] st m Q = kJ 8 6 [some (.ref x), l1] (.ref x :: st) m Q := kJ_next d8_5 rfl
theorem d8_6 : decode (mB 8) 6 = .ok (.getfield 55, 3) := by decide +kernel
theorem s8_6 {l0 l1 : Option Value} {st : List Value} {q : Nat} {mi : Nat → Nat → Int32} {ml : Nat → Nat → Int64} {mr : Nat → Nat → Option Nat} {nx : Nat} {Q : Option Value → kMem → Prop} (h : kIs nx q 1 = true) : kJ 8 6 [l0, l1] (.ref q :: st) (mi, ml, mr, nx) Q = kJ 8 9 [l0, l1] (.int (mi q 4) :: st) (mi, ml, mr, nx) Q := kJ_next d8_6 (kg_geti 1 4 rfl h (by decide))
theorem d8_9 : decode (mB 8) 9 = .ok (.if_icmp .ge 7, 3) := by decide +kernel
theorem s8_9 {l0 l1 : Option Value} {st : List Value} {a b : Int32} {m : kMem} {Q : Option Value → kMem → Prop} : kJ 8 9 [l0, l1] (.int b :: .int a :: st) m Q = (if b ≤ a then kJ 8 16 [l0, l1] st m Q else kJ 8 12 [l0, l1] st m Q) := kJ_if d8_9 rfl (fun h => kJ_next d8_9 h) (fun h => kJ_next d8_9 h)
theorem d8_12 : decode (mB 8) 12 = .ok (.iconst 1, 1) := by decide +kernel
theorem s8_12 {l0 l1 : Option Value} {st : List Value} {m : kMem} {Q : Option Value → kMem → Prop} : kJ 8 12 [l0, l1] st m Q = kJ 8 13 [l0, l1] (.int (nI 1) :: st) m Q := kJ_next d8_12 rfl
theorem d8_13 : decode (mB 8) 13 = .ok (.goto 4, 3) := by decide +kernel
theorem s8_13 {l0 l1 : Option Value} {st : List Value} {m : kMem} {Q : Option Value → kMem → Prop} : kJ 8 13 [l0, l1] st m Q = kJ 8 17 [l0, l1] st m Q := kJ_next d8_13 rfl
theorem d8_16 : decode (mB 8) 16 = .ok (.iconst 0, 1) := by decide +kernel
theorem s8_16 {l0 l1 : Option Value} {st : List Value} {m : kMem} {Q : Option Value → kMem → Prop} : kJ 8 16 [l0, l1] st m Q = kJ 8 17 [l0, l1] (.int (nI 0) :: st) m Q := kJ_next d8_16 rfl
theorem d8_17 : decode (mB 8) 17 = .ok (.ireturn, 1) := by decide +kernel
theorem s8_17 {l0 l1 : Option Value} {x : Int32} {m : kMem} {Q : Option Value → kMem → Prop} (hx : x = 0 ∨ x = 1) : kJ 8 17 [l0, l1] [.int x] m Q = Q (some (.int x)) m := kJ_ret d8_17 (kg_retz (by decide) hx)
theorem d9_0 : decode (mB 9) 0 = .ok (.aload_n 0, 1) := by decide +kernel
theorem s9_0 {l1 : Option Value} {st : List Value} {x : Nat} {m : kMem} {Q : Option Value → kMem → Prop} : kJ 9 0 [some (.ref x), l1] st m Q = kJ 9 1 [some (.ref x), l1] (.ref x :: st) m Q := kJ_next d9_0 rfl
theorem d9_1 : decode (mB 9) 1 = .ok (.getfield 36, 3) := by decide +kernel
theorem s9_1 {l0 l1 : Option Value} {st : List Value} {q : Nat} {mi : Nat → Nat → Int32} {ml : Nat → Nat → Int64} {mr : Nat → Nat → Option Nat} {nx : Nat} {Q : Option Value → kMem → Prop} (h : kIs nx q 1 = true) : kJ 9 1 [l0, l1] (.ref q :: st) (mi, ml, mr, nx) Q = kJ 9 4 [l0, l1] (va_rf (mr q 10) :: st) (mi, ml, mr, nx) Q := kJ_next d9_1 (kg_getr 1 10 rfl h (by decide))
theorem d9_4 : decode (mB 9) 4 = .ok (.iload_n 1, 1) := by decide +kernel
theorem s9_4 {l0 : Option Value} {st : List Value} {x : Int32} {m : kMem} {Q : Option Value → kMem → Prop} : kJ 9 4 [l0, some (.int x)] st m Q = kJ 9 5 [l0, some (.int x)] (.int x :: st) m Q := kJ_next d9_4 rfl
theorem d9_5 : decode (mB 9) 5 = .ok (.iaload, 1) := by decide +kernel
theorem s9_5 {l0 l1 : Option Value} {st : List Value} {q : Nat} {i : Int32} {mi : Nat → Nat → Int32} {ml : Nat → Nat → Int64} {mr : Nat → Nat → Option Nat} {nx : Nat} {Q : Option Value → kMem → Prop} (h : kIs nx q 10 = true) : kJ 9 5 [l0, l1] (.int i :: .ref q :: st) (mi, ml, mr, nx) Q = (vp_in i (kAl q) ∧ kJ 9 6 [l0, l1] (.int (mi q i.toNatClampNeg) :: st) (mi, ml, mr, nx) Q) := kg_aldJ d9_5 rfl (kAr_of h)
theorem d9_6 : decode (mB 9) 6 = .ok (.ifCond .eq 13, 3) := by decide +kernel
theorem s9_6 {l0 l1 : Option Value} {st : List Value} {a : Int32} {m : kMem} {Q : Option Value → kMem → Prop} : kJ 9 6 [l0, l1] (.int a :: st) m Q = (if a = 0 then kJ 9 19 [l0, l1] st m Q else kJ 9 9 [l0, l1] st m Q) := kJ_if d9_6 rfl (fun h => kJ_next d9_6 h) (fun h => kJ_next d9_6 h)
theorem d9_9 : decode (mB 9) 9 = .ok (.aload_n 0, 1) := by decide +kernel
theorem s9_9 {l1 : Option Value} {st : List Value} {x : Nat} {m : kMem} {Q : Option Value → kMem → Prop} : kJ 9 9 [some (.ref x), l1] st m Q = kJ 9 10 [some (.ref x), l1] (.ref x :: st) m Q := kJ_next d9_9 rfl
theorem d9_10 : decode (mB 9) 10 = .ok (.getfield 36, 3) := by decide +kernel
theorem s9_10 {l0 l1 : Option Value} {st : List Value} {q : Nat} {mi : Nat → Nat → Int32} {ml : Nat → Nat → Int64} {mr : Nat → Nat → Option Nat} {nx : Nat} {Q : Option Value → kMem → Prop} (h : kIs nx q 1 = true) : kJ 9 10 [l0, l1] (.ref q :: st) (mi, ml, mr, nx) Q = kJ 9 13 [l0, l1] (va_rf (mr q 10) :: st) (mi, ml, mr, nx) Q := kJ_next d9_10 (kg_getr 1 10 rfl h (by decide))
theorem d9_13 : decode (mB 9) 13 = .ok (.iload_n 1, 1) := by decide +kernel
theorem s9_13 {l0 : Option Value} {st : List Value} {x : Int32} {m : kMem} {Q : Option Value → kMem → Prop} : kJ 9 13 [l0, some (.int x)] st m Q = kJ 9 14 [l0, some (.int x)] (.int x :: st) m Q := kJ_next d9_13 rfl
theorem d9_14 : decode (mB 9) 14 = .ok (.iaload, 1) := by decide +kernel
theorem s9_14 {l0 l1 : Option Value} {st : List Value} {q : Nat} {i : Int32} {mi : Nat → Nat → Int32} {ml : Nat → Nat → Int64} {mr : Nat → Nat → Option Nat} {nx : Nat} {Q : Option Value → kMem → Prop} (h : kIs nx q 10 = true) : kJ 9 14 [l0, l1] (.int i :: .ref q :: st) (mi, ml, mr, nx) Q = (vp_in i (kAl q) ∧ kJ 9 15 [l0, l1] (.int (mi q i.toNatClampNeg) :: st) (mi, ml, mr, nx) Q) := kg_aldJ d9_14 rfl (kAr_of h)
theorem d9_15 : decode (mB 9) 15 = .ok (.iconst 1, 1) := by decide +kernel
theorem s9_15 {l0 l1 : Option Value} {st : List Value} {m : kMem} {Q : Option Value → kMem → Prop} : kJ 9 15 [l0, l1] st m Q = kJ 9 16 [l0, l1] (.int (nI 1) :: st) m Q := kJ_next d9_15 rfl
theorem d9_16 : decode (mB 9) 16 = .ok (.if_icmp .ne 7, 3) := by decide +kernel
theorem s9_16 {l0 l1 : Option Value} {st : List Value} {a b : Int32} {m : kMem} {Q : Option Value → kMem → Prop} : kJ 9 16 [l0, l1] (.int b :: .int a :: st) m Q = (if a = b then kJ 9 19 [l0, l1] st m Q else kJ 9 23 [l0, l1] st m Q) := kJ_if d9_16 rfl (fun h => kJ_next d9_16 h) (fun h => kJ_next d9_16 h)
theorem d9_19 : decode (mB 9) 19 = .ok (.iconst 1, 1) := by decide +kernel
theorem s9_19 {l0 l1 : Option Value} {st : List Value} {m : kMem} {Q : Option Value → kMem → Prop} : kJ 9 19 [l0, l1] st m Q = kJ 9 20 [l0, l1] (.int (nI 1) :: st) m Q := kJ_next d9_19 rfl
theorem d9_20 : decode (mB 9) 20 = .ok (.goto 4, 3) := by decide +kernel
theorem s9_20 {l0 l1 : Option Value} {st : List Value} {m : kMem} {Q : Option Value → kMem → Prop} : kJ 9 20 [l0, l1] st m Q = kJ 9 24 [l0, l1] st m Q := kJ_next d9_20 rfl
theorem d9_23 : decode (mB 9) 23 = .ok (.iconst 0, 1) := by decide +kernel
theorem s9_23 {l0 l1 : Option Value} {st : List Value} {m : kMem} {Q : Option Value → kMem → Prop} : kJ 9 23 [l0, l1] st m Q = kJ 9 24 [l0, l1] (.int (nI 0) :: st) m Q := kJ_next d9_23 rfl
theorem d9_24 : decode (mB 9) 24 = .ok (.ireturn, 1) := by decide +kernel
theorem s9_24 {l0 l1 : Option Value} {x : Int32} {m : kMem} {Q : Option Value → kMem → Prop} (hx : x = 0 ∨ x = 1) : kJ 9 24 [l0, l1] [.int x] m Q = Q (some (.int x)) m := kJ_ret d9_24 (kg_retz (by decide) hx)
theorem d10_0 : decode (mB 10) 0 = .ok (.aload_n 0, 1) := by decide +kernel
theorem s10_0 {l1 : Option Value} {st : List Value} {x : Nat} {m : kMem} {Q : Option Value → kMem → Prop} : kJ 10 0 [some (.ref x), l1] st m Q = kJ 10 1 [some (.ref x), l1] (.ref x :: st) m Q := kJ_next d10_0 rfl
theorem d10_1 : decode (mB 10) 1 = .ok (.getfield 36, 3) := by decide +kernel
theorem s10_1 {l0 l1 : Option Value} {st : List Value} {q : Nat} {mi : Nat → Nat → Int32} {ml : Nat → Nat → Int64} {mr : Nat → Nat → Option Nat} {nx : Nat} {Q : Option Value → kMem → Prop} (h : kIs nx q 1 = true) : kJ 10 1 [l0, l1] (.ref q :: st) (mi, ml, mr, nx) Q = kJ 10 4 [l0, l1] (va_rf (mr q 10) :: st) (mi, ml, mr, nx) Q := kJ_next d10_1 (kg_getr 1 10 rfl h (by decide))
theorem d10_4 : decode (mB 10) 4 = .ok (.iload_n 1, 1) := by decide +kernel
theorem s10_4 {l0 : Option Value} {st : List Value} {x : Int32} {m : kMem} {Q : Option Value → kMem → Prop} : kJ 10 4 [l0, some (.int x)] st m Q = kJ 10 5 [l0, some (.int x)] (.int x :: st) m Q := kJ_next d10_4 rfl
theorem d10_5 : decode (mB 10) 5 = .ok (.iaload, 1) := by decide +kernel
theorem s10_5 {l0 l1 : Option Value} {st : List Value} {q : Nat} {i : Int32} {mi : Nat → Nat → Int32} {ml : Nat → Nat → Int64} {mr : Nat → Nat → Option Nat} {nx : Nat} {Q : Option Value → kMem → Prop} (h : kIs nx q 10 = true) : kJ 10 5 [l0, l1] (.int i :: .ref q :: st) (mi, ml, mr, nx) Q = (vp_in i (kAl q) ∧ kJ 10 6 [l0, l1] (.int (mi q i.toNatClampNeg) :: st) (mi, ml, mr, nx) Q) := kg_aldJ d10_5 rfl (kAr_of h)
theorem d10_6 : decode (mB 10) 6 = .ok (.ifCond .ne 12, 3) := by decide +kernel
theorem s10_6 {l0 l1 : Option Value} {st : List Value} {a : Int32} {m : kMem} {Q : Option Value → kMem → Prop} : kJ 10 6 [l0, l1] (.int a :: st) m Q = (if a = 0 then kJ 10 9 [l0, l1] st m Q else kJ 10 18 [l0, l1] st m Q) := kJ_if d10_6 rfl (fun h => kJ_next d10_6 h) (fun h => kJ_next d10_6 h)
theorem d10_9 : decode (mB 10) 9 = .ok (.aload_n 0, 1) := by decide +kernel
theorem s10_9 {l1 : Option Value} {st : List Value} {x : Nat} {m : kMem} {Q : Option Value → kMem → Prop} : kJ 10 9 [some (.ref x), l1] st m Q = kJ 10 10 [some (.ref x), l1] (.ref x :: st) m Q := kJ_next d10_9 rfl
theorem d10_10 : decode (mB 10) 10 = .ok (.getfield 27, 3) := by decide +kernel
theorem s10_10 {l0 l1 : Option Value} {st : List Value} {q : Nat} {mi : Nat → Nat → Int32} {ml : Nat → Nat → Int64} {mr : Nat → Nat → Option Nat} {nx : Nat} {Q : Option Value → kMem → Prop} (h : kIs nx q 1 = true) : kJ 10 10 [l0, l1] (.ref q :: st) (mi, ml, mr, nx) Q = kJ 10 13 [l0, l1] (va_rf (mr q 7) :: st) (mi, ml, mr, nx) Q := kJ_next d10_10 (kg_getr 1 7 rfl h (by decide))
theorem d10_13 : decode (mB 10) 13 = .ok (.iload_n 1, 1) := by decide +kernel
theorem s10_13 {l0 : Option Value} {st : List Value} {x : Int32} {m : kMem} {Q : Option Value → kMem → Prop} : kJ 10 13 [l0, some (.int x)] st m Q = kJ 10 14 [l0, some (.int x)] (.int x :: st) m Q := kJ_next d10_13 rfl
theorem d10_14 : decode (mB 10) 14 = .ok (.iaload, 1) := by decide +kernel
theorem s10_14 {l0 l1 : Option Value} {st : List Value} {q : Nat} {i : Int32} {mi : Nat → Nat → Int32} {ml : Nat → Nat → Int64} {mr : Nat → Nat → Option Nat} {nx : Nat} {Q : Option Value → kMem → Prop} (h : kIs nx q 10 = true) : kJ 10 14 [l0, l1] (.int i :: .ref q :: st) (mi, ml, mr, nx) Q = (vp_in i (kAl q) ∧ kJ 10 15 [l0, l1] (.int (mi q i.toNatClampNeg) :: st) (mi, ml, mr, nx) Q) := kg_aldJ d10_14 rfl (kAr_of h)
theorem d10_15 : decode (mB 10) 15 = .ok (.goto 9, 3) := by decide +kernel
theorem s10_15 {l0 l1 : Option Value} {st : List Value} {m : kMem} {Q : Option Value → kMem → Prop} : kJ 10 15 [l0, l1] st m Q = kJ 10 24 [l0, l1] st m Q := kJ_next d10_15 rfl
theorem d10_18 : decode (mB 10) 18 = .ok (.aload_n 0, 1) := by decide +kernel
theorem s10_18 {l1 : Option Value} {st : List Value} {x : Nat} {m : kMem} {Q : Option Value → kMem → Prop} : kJ 10 18 [some (.ref x), l1] st m Q = kJ 10 19 [some (.ref x), l1] (.ref x :: st) m Q := kJ_next d10_18 rfl
theorem d10_19 : decode (mB 10) 19 = .ok (.getfield 24, 3) := by decide +kernel
theorem s10_19 {l0 l1 : Option Value} {st : List Value} {q : Nat} {mi : Nat → Nat → Int32} {ml : Nat → Nat → Int64} {mr : Nat → Nat → Option Nat} {nx : Nat} {Q : Option Value → kMem → Prop} (h : kIs nx q 1 = true) : kJ 10 19 [l0, l1] (.ref q :: st) (mi, ml, mr, nx) Q = kJ 10 22 [l0, l1] (va_rf (mr q 6) :: st) (mi, ml, mr, nx) Q := kJ_next d10_19 (kg_getr 1 6 rfl h (by decide))
theorem d10_22 : decode (mB 10) 22 = .ok (.iload_n 1, 1) := by decide +kernel
theorem s10_22 {l0 : Option Value} {st : List Value} {x : Int32} {m : kMem} {Q : Option Value → kMem → Prop} : kJ 10 22 [l0, some (.int x)] st m Q = kJ 10 23 [l0, some (.int x)] (.int x :: st) m Q := kJ_next d10_22 rfl
theorem d10_23 : decode (mB 10) 23 = .ok (.iaload, 1) := by decide +kernel
theorem s10_23 {l0 l1 : Option Value} {st : List Value} {q : Nat} {i : Int32} {mi : Nat → Nat → Int32} {ml : Nat → Nat → Int64} {mr : Nat → Nat → Option Nat} {nx : Nat} {Q : Option Value → kMem → Prop} (h : kIs nx q 10 = true) : kJ 10 23 [l0, l1] (.int i :: .ref q :: st) (mi, ml, mr, nx) Q = (vp_in i (kAl q) ∧ kJ 10 24 [l0, l1] (.int (mi q i.toNatClampNeg) :: st) (mi, ml, mr, nx) Q) := kg_aldJ d10_23 rfl (kAr_of h)
theorem d10_24 : decode (mB 10) 24 = .ok (.ireturn, 1) := by decide +kernel
theorem s10_24 {l0 l1 : Option Value} {x : Int32} {m : kMem} {Q : Option Value → kMem → Prop} : kJ 10 24 [l0, l1] [.int x] m Q = Q (some (.int x)) m := kJ_ret d10_24 rfl
theorem d11_0 : decode (mB 11) 0 = .ok (.aload_n 0, 1) := by decide +kernel
theorem s11_0 {l1 l2 l3 : Option Value} {st : List Value} {x : Nat} {m : kMem} {Q : Option Value → kMem → Prop} : kJ 11 0 [some (.ref x), l1, l2, l3] st m Q = kJ 11 1 [some (.ref x), l1, l2, l3] (.ref x :: st) m Q := kJ_next d11_0 rfl
theorem d11_1 : decode (mB 11) 1 = .ok (.getfield 52, 3) := by decide +kernel
theorem s11_1 {l0 l1 l2 l3 : Option Value} {st : List Value} {q : Nat} {mi : Nat → Nat → Int32} {ml : Nat → Nat → Int64} {mr : Nat → Nat → Option Nat} {nx : Nat} {Q : Option Value → kMem → Prop} (h : kIs nx q 1 = true) : kJ 11 1 [l0, l1, l2, l3] (.ref q :: st) (mi, ml, mr, nx) Q = kJ 11 4 [l0, l1, l2, l3] (.int (mi q 0) :: st) (mi, ml, mr, nx) Q := kJ_next d11_1 (kg_geti 1 0 rfl h (by decide))
theorem d11_4 : decode (mB 11) 4 = .ok (.iconst 5, 1) := by decide +kernel
theorem s11_4 {l0 l1 l2 l3 : Option Value} {st : List Value} {m : kMem} {Q : Option Value → kMem → Prop} : kJ 11 4 [l0, l1, l2, l3] st m Q = kJ 11 5 [l0, l1, l2, l3] (.int (nI 5) :: st) m Q := kJ_next d11_4 rfl
theorem d11_5 : decode (mB 11) 5 = .ok (.if_icmp .ge 43, 3) := by decide +kernel
theorem s11_5 {l0 l1 l2 l3 : Option Value} {st : List Value} {a b : Int32} {m : kMem} {Q : Option Value → kMem → Prop} : kJ 11 5 [l0, l1, l2, l3] (.int b :: .int a :: st) m Q = (if b ≤ a then kJ 11 48 [l0, l1, l2, l3] st m Q else kJ 11 8 [l0, l1, l2, l3] st m Q) := kJ_if d11_5 rfl (fun h => kJ_next d11_5 h) (fun h => kJ_next d11_5 h)
theorem d11_8 : decode (mB 11) 8 = .ok (.aload_n 0, 1) := by decide +kernel
theorem s11_8 {l1 l2 l3 : Option Value} {st : List Value} {x : Nat} {m : kMem} {Q : Option Value → kMem → Prop} : kJ 11 8 [some (.ref x), l1, l2, l3] st m Q = kJ 11 9 [some (.ref x), l1, l2, l3] (.ref x :: st) m Q := kJ_next d11_8 rfl
theorem d11_9 : decode (mB 11) 9 = .ok (.getfield 9, 3) := by decide +kernel
theorem s11_9 {l0 l1 l2 l3 : Option Value} {st : List Value} {q : Nat} {mi : Nat → Nat → Int32} {ml : Nat → Nat → Int64} {mr : Nat → Nat → Option Nat} {nx : Nat} {Q : Option Value → kMem → Prop} (h : kIs nx q 1 = true) : kJ 11 9 [l0, l1, l2, l3] (.ref q :: st) (mi, ml, mr, nx) Q = kJ 11 12 [l0, l1, l2, l3] (va_rf (mr q 1) :: st) (mi, ml, mr, nx) Q := kJ_next d11_9 (kg_getr 1 1 rfl h (by decide))
theorem d11_12 : decode (mB 11) 12 = .ok (.aload_n 0, 1) := by decide +kernel
theorem s11_12 {l1 l2 l3 : Option Value} {st : List Value} {x : Nat} {m : kMem} {Q : Option Value → kMem → Prop} : kJ 11 12 [some (.ref x), l1, l2, l3] st m Q = kJ 11 13 [some (.ref x), l1, l2, l3] (.ref x :: st) m Q := kJ_next d11_12 rfl
theorem d11_13 : decode (mB 11) 13 = .ok (.getfield 52, 3) := by decide +kernel
theorem s11_13 {l0 l1 l2 l3 : Option Value} {st : List Value} {q : Nat} {mi : Nat → Nat → Int32} {ml : Nat → Nat → Int64} {mr : Nat → Nat → Option Nat} {nx : Nat} {Q : Option Value → kMem → Prop} (h : kIs nx q 1 = true) : kJ 11 13 [l0, l1, l2, l3] (.ref q :: st) (mi, ml, mr, nx) Q = kJ 11 16 [l0, l1, l2, l3] (.int (mi q 0) :: st) (mi, ml, mr, nx) Q := kJ_next d11_13 (kg_geti 1 0 rfl h (by decide))
theorem d11_16 : decode (mB 11) 16 = .ok (.iload_n 1, 1) := by decide +kernel
theorem s11_16 {l0 l2 l3 : Option Value} {st : List Value} {x : Int32} {m : kMem} {Q : Option Value → kMem → Prop} : kJ 11 16 [l0, some (.int x), l2, l3] st m Q = kJ 11 17 [l0, some (.int x), l2, l3] (.int x :: st) m Q := kJ_next d11_16 rfl
theorem d11_17 : decode (mB 11) 17 = .ok (.iastore, 1) := by decide +kernel
theorem s11_17 {l0 l1 l2 l3 : Option Value} {st : List Value} {q : Nat} {i x : Int32} {mi : Nat → Nat → Int32} {ml : Nat → Nat → Int64} {mr : Nat → Nat → Option Nat} {nx : Nat} {Q : Option Value → kMem → Prop} (h : kIs nx q 10 = true) : kJ 11 17 [l0, l1, l2, l3] (.int x :: .int i :: .ref q :: st) (mi, ml, mr, nx) Q = (vp_in i (kAl q) ∧ kJ 11 18 [l0, l1, l2, l3] st (kup mi q i.toNatClampNeg x, ml, mr, nx) Q) := kg_astJ d11_17 rfl (kAr_of h)
theorem d11_18 : decode (mB 11) 18 = .ok (.aload_n 0, 1) := by decide +kernel
theorem s11_18 {l1 l2 l3 : Option Value} {st : List Value} {x : Nat} {m : kMem} {Q : Option Value → kMem → Prop} : kJ 11 18 [some (.ref x), l1, l2, l3] st m Q = kJ 11 19 [some (.ref x), l1, l2, l3] (.ref x :: st) m Q := kJ_next d11_18 rfl
theorem d11_19 : decode (mB 11) 19 = .ok (.getfield 15, 3) := by decide +kernel
theorem s11_19 {l0 l1 l2 l3 : Option Value} {st : List Value} {q : Nat} {mi : Nat → Nat → Int32} {ml : Nat → Nat → Int64} {mr : Nat → Nat → Option Nat} {nx : Nat} {Q : Option Value → kMem → Prop} (h : kIs nx q 1 = true) : kJ 11 19 [l0, l1, l2, l3] (.ref q :: st) (mi, ml, mr, nx) Q = kJ 11 22 [l0, l1, l2, l3] (va_rf (mr q 2) :: st) (mi, ml, mr, nx) Q := kJ_next d11_19 (kg_getr 1 2 rfl h (by decide))
theorem d11_22 : decode (mB 11) 22 = .ok (.aload_n 0, 1) := by decide +kernel
theorem s11_22 {l1 l2 l3 : Option Value} {st : List Value} {x : Nat} {m : kMem} {Q : Option Value → kMem → Prop} : kJ 11 22 [some (.ref x), l1, l2, l3] st m Q = kJ 11 23 [some (.ref x), l1, l2, l3] (.ref x :: st) m Q := kJ_next d11_22 rfl
theorem d11_23 : decode (mB 11) 23 = .ok (.getfield 52, 3) := by decide +kernel
theorem s11_23 {l0 l1 l2 l3 : Option Value} {st : List Value} {q : Nat} {mi : Nat → Nat → Int32} {ml : Nat → Nat → Int64} {mr : Nat → Nat → Option Nat} {nx : Nat} {Q : Option Value → kMem → Prop} (h : kIs nx q 1 = true) : kJ 11 23 [l0, l1, l2, l3] (.ref q :: st) (mi, ml, mr, nx) Q = kJ 11 26 [l0, l1, l2, l3] (.int (mi q 0) :: st) (mi, ml, mr, nx) Q := kJ_next d11_23 (kg_geti 1 0 rfl h (by decide))
theorem d11_26 : decode (mB 11) 26 = .ok (.iload_n 2, 1) := by decide +kernel
theorem s11_26 {l0 l1 l3 : Option Value} {st : List Value} {x : Int32} {m : kMem} {Q : Option Value → kMem → Prop} : kJ 11 26 [l0, l1, some (.int x), l3] st m Q = kJ 11 27 [l0, l1, some (.int x), l3] (.int x :: st) m Q := kJ_next d11_26 rfl
theorem d11_27 : decode (mB 11) 27 = .ok (.iastore, 1) := by decide +kernel
theorem s11_27 {l0 l1 l2 l3 : Option Value} {st : List Value} {q : Nat} {i x : Int32} {mi : Nat → Nat → Int32} {ml : Nat → Nat → Int64} {mr : Nat → Nat → Option Nat} {nx : Nat} {Q : Option Value → kMem → Prop} (h : kIs nx q 10 = true) : kJ 11 27 [l0, l1, l2, l3] (.int x :: .int i :: .ref q :: st) (mi, ml, mr, nx) Q = (vp_in i (kAl q) ∧ kJ 11 28 [l0, l1, l2, l3] st (kup mi q i.toNatClampNeg x, ml, mr, nx) Q) := kg_astJ d11_27 rfl (kAr_of h)
theorem d11_28 : decode (mB 11) 28 = .ok (.aload_n 0, 1) := by decide +kernel
theorem s11_28 {l1 l2 l3 : Option Value} {st : List Value} {x : Nat} {m : kMem} {Q : Option Value → kMem → Prop} : kJ 11 28 [some (.ref x), l1, l2, l3] st m Q = kJ 11 29 [some (.ref x), l1, l2, l3] (.ref x :: st) m Q := kJ_next d11_28 rfl
theorem d11_29 : decode (mB 11) 29 = .ok (.getfield 18, 3) := by decide +kernel
theorem s11_29 {l0 l1 l2 l3 : Option Value} {st : List Value} {q : Nat} {mi : Nat → Nat → Int32} {ml : Nat → Nat → Int64} {mr : Nat → Nat → Option Nat} {nx : Nat} {Q : Option Value → kMem → Prop} (h : kIs nx q 1 = true) : kJ 11 29 [l0, l1, l2, l3] (.ref q :: st) (mi, ml, mr, nx) Q = kJ 11 32 [l0, l1, l2, l3] (va_rf (mr q 3) :: st) (mi, ml, mr, nx) Q := kJ_next d11_29 (kg_getr 1 3 rfl h (by decide))
theorem d11_32 : decode (mB 11) 32 = .ok (.aload_n 0, 1) := by decide +kernel
theorem s11_32 {l1 l2 l3 : Option Value} {st : List Value} {x : Nat} {m : kMem} {Q : Option Value → kMem → Prop} : kJ 11 32 [some (.ref x), l1, l2, l3] st m Q = kJ 11 33 [some (.ref x), l1, l2, l3] (.ref x :: st) m Q := kJ_next d11_32 rfl
theorem d11_33 : decode (mB 11) 33 = .ok (.getfield 52, 3) := by decide +kernel
theorem s11_33 {l0 l1 l2 l3 : Option Value} {st : List Value} {q : Nat} {mi : Nat → Nat → Int32} {ml : Nat → Nat → Int64} {mr : Nat → Nat → Option Nat} {nx : Nat} {Q : Option Value → kMem → Prop} (h : kIs nx q 1 = true) : kJ 11 33 [l0, l1, l2, l3] (.ref q :: st) (mi, ml, mr, nx) Q = kJ 11 36 [l0, l1, l2, l3] (.int (mi q 0) :: st) (mi, ml, mr, nx) Q := kJ_next d11_33 (kg_geti 1 0 rfl h (by decide))
theorem d11_36 : decode (mB 11) 36 = .ok (.iload_n 3, 1) := by decide +kernel
theorem s11_36 {l0 l1 l2 : Option Value} {st : List Value} {x : Int32} {m : kMem} {Q : Option Value → kMem → Prop} : kJ 11 36 [l0, l1, l2, some (.int x)] st m Q = kJ 11 37 [l0, l1, l2, some (.int x)] (.int x :: st) m Q := kJ_next d11_36 rfl
theorem d11_37 : decode (mB 11) 37 = .ok (.iastore, 1) := by decide +kernel
theorem s11_37 {l0 l1 l2 l3 : Option Value} {st : List Value} {q : Nat} {i x : Int32} {mi : Nat → Nat → Int32} {ml : Nat → Nat → Int64} {mr : Nat → Nat → Option Nat} {nx : Nat} {Q : Option Value → kMem → Prop} (h : kIs nx q 10 = true) : kJ 11 37 [l0, l1, l2, l3] (.int x :: .int i :: .ref q :: st) (mi, ml, mr, nx) Q = (vp_in i (kAl q) ∧ kJ 11 38 [l0, l1, l2, l3] st (kup mi q i.toNatClampNeg x, ml, mr, nx) Q) := kg_astJ d11_37 rfl (kAr_of h)
theorem d11_38 : decode (mB 11) 38 = .ok (.aload_n 0, 1) := by decide +kernel
theorem s11_38 {l1 l2 l3 : Option Value} {st : List Value} {x : Nat} {m : kMem} {Q : Option Value → kMem → Prop} : kJ 11 38 [some (.ref x), l1, l2, l3] st m Q = kJ 11 39 [some (.ref x), l1, l2, l3] (.ref x :: st) m Q := kJ_next d11_38 rfl
theorem d11_39 : decode (mB 11) 39 = .ok (.dup, 1) := by decide +kernel
theorem s11_39 {l0 l1 l2 l3 : Option Value} {st : List Value} {a : Nat} {m : kMem} {Q : Option Value → kMem → Prop} : kJ 11 39 [l0, l1, l2, l3] (.ref a :: st) m Q = kJ 11 40 [l0, l1, l2, l3] (.ref a :: .ref a :: st) m Q := kJ_next d11_39 rfl
theorem d11_40 : decode (mB 11) 40 = .ok (.getfield 52, 3) := by decide +kernel
theorem s11_40 {l0 l1 l2 l3 : Option Value} {st : List Value} {q : Nat} {mi : Nat → Nat → Int32} {ml : Nat → Nat → Int64} {mr : Nat → Nat → Option Nat} {nx : Nat} {Q : Option Value → kMem → Prop} (h : kIs nx q 1 = true) : kJ 11 40 [l0, l1, l2, l3] (.ref q :: st) (mi, ml, mr, nx) Q = kJ 11 43 [l0, l1, l2, l3] (.int (mi q 0) :: st) (mi, ml, mr, nx) Q := kJ_next d11_40 (kg_geti 1 0 rfl h (by decide))
theorem d11_43 : decode (mB 11) 43 = .ok (.iconst 1, 1) := by decide +kernel
theorem s11_43 {l0 l1 l2 l3 : Option Value} {st : List Value} {m : kMem} {Q : Option Value → kMem → Prop} : kJ 11 43 [l0, l1, l2, l3] st m Q = kJ 11 44 [l0, l1, l2, l3] (.int (nI 1) :: st) m Q := kJ_next d11_43 rfl
theorem d11_44 : decode (mB 11) 44 = .ok (.iadd, 1) := by decide +kernel
theorem s11_44 {l0 l1 l2 l3 : Option Value} {st : List Value} {a b : Int32} {m : kMem} {Q : Option Value → kMem → Prop} : kJ 11 44 [l0, l1, l2, l3] (.int b :: .int a :: st) m Q = kJ 11 45 [l0, l1, l2, l3] (.int (a + b) :: st) m Q := kJ_next d11_44 rfl
theorem d11_45 : decode (mB 11) 45 = .ok (.putfield 52, 3) := by decide +kernel
theorem s11_45 {l0 l1 l2 l3 : Option Value} {st : List Value} {q : Nat} {x : Int32} {mi : Nat → Nat → Int32} {ml : Nat → Nat → Int64} {mr : Nat → Nat → Option Nat} {nx : Nat} {Q : Option Value → kMem → Prop} (h : kIs nx q 1 = true) : kJ 11 45 [l0, l1, l2, l3] (.int x :: .ref q :: st) (mi, ml, mr, nx) Q = kJ 11 48 [l0, l1, l2, l3] st (kup mi q 0 x, ml, mr, nx) Q := kJ_next d11_45 (kg_puti 1 0 rfl h (by decide) (Or.inl (by decide)))
theorem d11_48 : decode (mB 11) 48 = .ok (.return_, 1) := by decide +kernel
theorem s11_48 {l0 l1 l2 l3 : Option Value} {m : kMem} {Q : Option Value → kMem → Prop} : kJ 11 48 [l0, l1, l2, l3] [] m Q = Q none m := kJ_ret d11_48 rfl
theorem d12_0 : decode (mB 12) 0 = .ok (.aload_n 0, 1) := by decide +kernel
theorem s12_0 {l1 l2 l3 l4 : Option Value} {st : List Value} {x : Nat} {m : kMem} {Q : Option Value → kMem → Prop} : kJ 12 0 [some (.ref x), l1, l2, l3, l4] st m Q = kJ 12 1 [some (.ref x), l1, l2, l3, l4] (.ref x :: st) m Q := kJ_next d12_0 rfl
theorem d12_1 : decode (mB 12) 1 = .ok (.getfield 55, 3) := by decide +kernel
theorem s12_1 {l0 l1 l2 l3 l4 : Option Value} {st : List Value} {q : Nat} {mi : Nat → Nat → Int32} {ml : Nat → Nat → Int64} {mr : Nat → Nat → Option Nat} {nx : Nat} {Q : Option Value → kMem → Prop} (h : kIs nx q 1 = true) : kJ 12 1 [l0, l1, l2, l3, l4] (.ref q :: st) (mi, ml, mr, nx) Q = kJ 12 4 [l0, l1, l2, l3, l4] (.int (mi q 4) :: st) (mi, ml, mr, nx) Q := kJ_next d12_1 (kg_geti 1 4 rfl h (by decide))
theorem d12_4 : decode (mB 12) 4 = .ok (.bipush 6, 2) := by decide +kernel
theorem s12_4 {l0 l1 l2 l3 l4 : Option Value} {st : List Value} {m : kMem} {Q : Option Value → kMem → Prop} : kJ 12 4 [l0, l1, l2, l3, l4] st m Q = kJ 12 6 [l0, l1, l2, l3, l4] (.int (nI 6) :: st) m Q := kJ_next d12_4 rfl
theorem d12_6 : decode (mB 12) 6 = .ok (.if_icmp .ge 55, 3) := by decide +kernel
theorem s12_6 {l0 l1 l2 l3 l4 : Option Value} {st : List Value} {a b : Int32} {m : kMem} {Q : Option Value → kMem → Prop} : kJ 12 6 [l0, l1, l2, l3, l4] (.int b :: .int a :: st) m Q = (if b ≤ a then kJ 12 61 [l0, l1, l2, l3, l4] st m Q else kJ 12 9 [l0, l1, l2, l3, l4] st m Q) := kJ_if d12_6 rfl (fun h => kJ_next d12_6 h) (fun h => kJ_next d12_6 h)
theorem d12_9 : decode (mB 12) 9 = .ok (.aload_n 0, 1) := by decide +kernel
theorem s12_9 {l1 l2 l3 l4 : Option Value} {st : List Value} {x : Nat} {m : kMem} {Q : Option Value → kMem → Prop} : kJ 12 9 [some (.ref x), l1, l2, l3, l4] st m Q = kJ 12 10 [some (.ref x), l1, l2, l3, l4] (.ref x :: st) m Q := kJ_next d12_9 rfl
theorem d12_10 : decode (mB 12) 10 = .ok (.getfield 21, 3) := by decide +kernel
theorem s12_10 {l0 l1 l2 l3 l4 : Option Value} {st : List Value} {q : Nat} {mi : Nat → Nat → Int32} {ml : Nat → Nat → Int64} {mr : Nat → Nat → Option Nat} {nx : Nat} {Q : Option Value → kMem → Prop} (h : kIs nx q 1 = true) : kJ 12 10 [l0, l1, l2, l3, l4] (.ref q :: st) (mi, ml, mr, nx) Q = kJ 12 13 [l0, l1, l2, l3, l4] (va_rf (mr q 5) :: st) (mi, ml, mr, nx) Q := kJ_next d12_10 (kg_getr 1 5 rfl h (by decide))
theorem d12_13 : decode (mB 12) 13 = .ok (.aload_n 0, 1) := by decide +kernel
theorem s12_13 {l1 l2 l3 l4 : Option Value} {st : List Value} {x : Nat} {m : kMem} {Q : Option Value → kMem → Prop} : kJ 12 13 [some (.ref x), l1, l2, l3, l4] st m Q = kJ 12 14 [some (.ref x), l1, l2, l3, l4] (.ref x :: st) m Q := kJ_next d12_13 rfl
theorem d12_14 : decode (mB 12) 14 = .ok (.getfield 55, 3) := by decide +kernel
theorem s12_14 {l0 l1 l2 l3 l4 : Option Value} {st : List Value} {q : Nat} {mi : Nat → Nat → Int32} {ml : Nat → Nat → Int64} {mr : Nat → Nat → Option Nat} {nx : Nat} {Q : Option Value → kMem → Prop} (h : kIs nx q 1 = true) : kJ 12 14 [l0, l1, l2, l3, l4] (.ref q :: st) (mi, ml, mr, nx) Q = kJ 12 17 [l0, l1, l2, l3, l4] (.int (mi q 4) :: st) (mi, ml, mr, nx) Q := kJ_next d12_14 (kg_geti 1 4 rfl h (by decide))
theorem d12_17 : decode (mB 12) 17 = .ok (.iload_n 1, 1) := by decide +kernel
theorem s12_17 {l0 l2 l3 l4 : Option Value} {st : List Value} {x : Int32} {m : kMem} {Q : Option Value → kMem → Prop} : kJ 12 17 [l0, some (.int x), l2, l3, l4] st m Q = kJ 12 18 [l0, some (.int x), l2, l3, l4] (.int x :: st) m Q := kJ_next d12_17 rfl
theorem d12_18 : decode (mB 12) 18 = .ok (.iastore, 1) := by decide +kernel
theorem s12_18 {l0 l1 l2 l3 l4 : Option Value} {st : List Value} {q : Nat} {i x : Int32} {mi : Nat → Nat → Int32} {ml : Nat → Nat → Int64} {mr : Nat → Nat → Option Nat} {nx : Nat} {Q : Option Value → kMem → Prop} (h : kIs nx q 10 = true) : kJ 12 18 [l0, l1, l2, l3, l4] (.int x :: .int i :: .ref q :: st) (mi, ml, mr, nx) Q = (vp_in i (kAl q) ∧ kJ 12 19 [l0, l1, l2, l3, l4] st (kup mi q i.toNatClampNeg x, ml, mr, nx) Q) := kg_astJ d12_18 rfl (kAr_of h)
theorem d12_19 : decode (mB 12) 19 = .ok (.aload_n 0, 1) := by decide +kernel
theorem s12_19 {l1 l2 l3 l4 : Option Value} {st : List Value} {x : Nat} {m : kMem} {Q : Option Value → kMem → Prop} : kJ 12 19 [some (.ref x), l1, l2, l3, l4] st m Q = kJ 12 20 [some (.ref x), l1, l2, l3, l4] (.ref x :: st) m Q := kJ_next d12_19 rfl
theorem d12_20 : decode (mB 12) 20 = .ok (.getfield 24, 3) := by decide +kernel
theorem s12_20 {l0 l1 l2 l3 l4 : Option Value} {st : List Value} {q : Nat} {mi : Nat → Nat → Int32} {ml : Nat → Nat → Int64} {mr : Nat → Nat → Option Nat} {nx : Nat} {Q : Option Value → kMem → Prop} (h : kIs nx q 1 = true) : kJ 12 20 [l0, l1, l2, l3, l4] (.ref q :: st) (mi, ml, mr, nx) Q = kJ 12 23 [l0, l1, l2, l3, l4] (va_rf (mr q 6) :: st) (mi, ml, mr, nx) Q := kJ_next d12_20 (kg_getr 1 6 rfl h (by decide))
theorem d12_23 : decode (mB 12) 23 = .ok (.aload_n 0, 1) := by decide +kernel
theorem s12_23 {l1 l2 l3 l4 : Option Value} {st : List Value} {x : Nat} {m : kMem} {Q : Option Value → kMem → Prop} : kJ 12 23 [some (.ref x), l1, l2, l3, l4] st m Q = kJ 12 24 [some (.ref x), l1, l2, l3, l4] (.ref x :: st) m Q := kJ_next d12_23 rfl
theorem d12_24 : decode (mB 12) 24 = .ok (.getfield 55, 3) := by decide +kernel
theorem s12_24 {l0 l1 l2 l3 l4 : Option Value} {st : List Value} {q : Nat} {mi : Nat → Nat → Int32} {ml : Nat → Nat → Int64} {mr : Nat → Nat → Option Nat} {nx : Nat} {Q : Option Value → kMem → Prop} (h : kIs nx q 1 = true) : kJ 12 24 [l0, l1, l2, l3, l4] (.ref q :: st) (mi, ml, mr, nx) Q = kJ 12 27 [l0, l1, l2, l3, l4] (.int (mi q 4) :: st) (mi, ml, mr, nx) Q := kJ_next d12_24 (kg_geti 1 4 rfl h (by decide))
theorem d12_27 : decode (mB 12) 27 = .ok (.iload_n 2, 1) := by decide +kernel
theorem s12_27 {l0 l1 l3 l4 : Option Value} {st : List Value} {x : Int32} {m : kMem} {Q : Option Value → kMem → Prop} : kJ 12 27 [l0, l1, some (.int x), l3, l4] st m Q = kJ 12 28 [l0, l1, some (.int x), l3, l4] (.int x :: st) m Q := kJ_next d12_27 rfl
theorem d12_28 : decode (mB 12) 28 = .ok (.iastore, 1) := by decide +kernel
theorem s12_28 {l0 l1 l2 l3 l4 : Option Value} {st : List Value} {q : Nat} {i x : Int32} {mi : Nat → Nat → Int32} {ml : Nat → Nat → Int64} {mr : Nat → Nat → Option Nat} {nx : Nat} {Q : Option Value → kMem → Prop} (h : kIs nx q 10 = true) : kJ 12 28 [l0, l1, l2, l3, l4] (.int x :: .int i :: .ref q :: st) (mi, ml, mr, nx) Q = (vp_in i (kAl q) ∧ kJ 12 29 [l0, l1, l2, l3, l4] st (kup mi q i.toNatClampNeg x, ml, mr, nx) Q) := kg_astJ d12_28 rfl (kAr_of h)
theorem d12_29 : decode (mB 12) 29 = .ok (.aload_n 0, 1) := by decide +kernel
theorem s12_29 {l1 l2 l3 l4 : Option Value} {st : List Value} {x : Nat} {m : kMem} {Q : Option Value → kMem → Prop} : kJ 12 29 [some (.ref x), l1, l2, l3, l4] st m Q = kJ 12 30 [some (.ref x), l1, l2, l3, l4] (.ref x :: st) m Q := kJ_next d12_29 rfl
theorem d12_30 : decode (mB 12) 30 = .ok (.getfield 27, 3) := by decide +kernel
theorem s12_30 {l0 l1 l2 l3 l4 : Option Value} {st : List Value} {q : Nat} {mi : Nat → Nat → Int32} {ml : Nat → Nat → Int64} {mr : Nat → Nat → Option Nat} {nx : Nat} {Q : Option Value → kMem → Prop} (h : kIs nx q 1 = true) : kJ 12 30 [l0, l1, l2, l3, l4] (.ref q :: st) (mi, ml, mr, nx) Q = kJ 12 33 [l0, l1, l2, l3, l4] (va_rf (mr q 7) :: st) (mi, ml, mr, nx) Q := kJ_next d12_30 (kg_getr 1 7 rfl h (by decide))
theorem d12_33 : decode (mB 12) 33 = .ok (.aload_n 0, 1) := by decide +kernel
theorem s12_33 {l1 l2 l3 l4 : Option Value} {st : List Value} {x : Nat} {m : kMem} {Q : Option Value → kMem → Prop} : kJ 12 33 [some (.ref x), l1, l2, l3, l4] st m Q = kJ 12 34 [some (.ref x), l1, l2, l3, l4] (.ref x :: st) m Q := kJ_next d12_33 rfl
theorem d12_34 : decode (mB 12) 34 = .ok (.getfield 55, 3) := by decide +kernel
theorem s12_34 {l0 l1 l2 l3 l4 : Option Value} {st : List Value} {q : Nat} {mi : Nat → Nat → Int32} {ml : Nat → Nat → Int64} {mr : Nat → Nat → Option Nat} {nx : Nat} {Q : Option Value → kMem → Prop} (h : kIs nx q 1 = true) : kJ 12 34 [l0, l1, l2, l3, l4] (.ref q :: st) (mi, ml, mr, nx) Q = kJ 12 37 [l0, l1, l2, l3, l4] (.int (mi q 4) :: st) (mi, ml, mr, nx) Q := kJ_next d12_34 (kg_geti 1 4 rfl h (by decide))
theorem d12_37 : decode (mB 12) 37 = .ok (.iload_n 3, 1) := by decide +kernel
theorem s12_37 {l0 l1 l2 l4 : Option Value} {st : List Value} {x : Int32} {m : kMem} {Q : Option Value → kMem → Prop} : kJ 12 37 [l0, l1, l2, some (.int x), l4] st m Q = kJ 12 38 [l0, l1, l2, some (.int x), l4] (.int x :: st) m Q := kJ_next d12_37 rfl
theorem d12_38 : decode (mB 12) 38 = .ok (.iastore, 1) := by decide +kernel
theorem s12_38 {l0 l1 l2 l3 l4 : Option Value} {st : List Value} {q : Nat} {i x : Int32} {mi : Nat → Nat → Int32} {ml : Nat → Nat → Int64} {mr : Nat → Nat → Option Nat} {nx : Nat} {Q : Option Value → kMem → Prop} (h : kIs nx q 10 = true) : kJ 12 38 [l0, l1, l2, l3, l4] (.int x :: .int i :: .ref q :: st) (mi, ml, mr, nx) Q = (vp_in i (kAl q) ∧ kJ 12 39 [l0, l1, l2, l3, l4] st (kup mi q i.toNatClampNeg x, ml, mr, nx) Q) := kg_astJ d12_38 rfl (kAr_of h)
theorem d12_39 : decode (mB 12) 39 = .ok (.aload_n 0, 1) := by decide +kernel
theorem s12_39 {l1 l2 l3 l4 : Option Value} {st : List Value} {x : Nat} {m : kMem} {Q : Option Value → kMem → Prop} : kJ 12 39 [some (.ref x), l1, l2, l3, l4] st m Q = kJ 12 40 [some (.ref x), l1, l2, l3, l4] (.ref x :: st) m Q := kJ_next d12_39 rfl
theorem d12_40 : decode (mB 12) 40 = .ok (.dup, 1) := by decide +kernel
theorem s12_40 {l0 l1 l2 l3 l4 : Option Value} {st : List Value} {a : Nat} {m : kMem} {Q : Option Value → kMem → Prop} : kJ 12 40 [l0, l1, l2, l3, l4] (.ref a :: st) m Q = kJ 12 41 [l0, l1, l2, l3, l4] (.ref a :: .ref a :: st) m Q := kJ_next d12_40 rfl
theorem d12_41 : decode (mB 12) 41 = .ok (.getfield 55, 3) := by decide +kernel
theorem s12_41 {l0 l1 l2 l3 l4 : Option Value} {st : List Value} {q : Nat} {mi : Nat → Nat → Int32} {ml : Nat → Nat → Int64} {mr : Nat → Nat → Option Nat} {nx : Nat} {Q : Option Value → kMem → Prop} (h : kIs nx q 1 = true) : kJ 12 41 [l0, l1, l2, l3, l4] (.ref q :: st) (mi, ml, mr, nx) Q = kJ 12 44 [l0, l1, l2, l3, l4] (.int (mi q 4) :: st) (mi, ml, mr, nx) Q := kJ_next d12_41 (kg_geti 1 4 rfl h (by decide))
theorem d12_44 : decode (mB 12) 44 = .ok (.iconst 1, 1) := by decide +kernel
theorem s12_44 {l0 l1 l2 l3 l4 : Option Value} {st : List Value} {m : kMem} {Q : Option Value → kMem → Prop} : kJ 12 44 [l0, l1, l2, l3, l4] st m Q = kJ 12 45 [l0, l1, l2, l3, l4] (.int (nI 1) :: st) m Q := kJ_next d12_44 rfl
theorem d12_45 : decode (mB 12) 45 = .ok (.iadd, 1) := by decide +kernel
theorem s12_45 {l0 l1 l2 l3 l4 : Option Value} {st : List Value} {a b : Int32} {m : kMem} {Q : Option Value → kMem → Prop} : kJ 12 45 [l0, l1, l2, l3, l4] (.int b :: .int a :: st) m Q = kJ 12 46 [l0, l1, l2, l3, l4] (.int (a + b) :: st) m Q := kJ_next d12_45 rfl
theorem d12_46 : decode (mB 12) 46 = .ok (.putfield 55, 3) := by decide +kernel
theorem s12_46 {l0 l1 l2 l3 l4 : Option Value} {st : List Value} {q : Nat} {x : Int32} {mi : Nat → Nat → Int32} {ml : Nat → Nat → Int64} {mr : Nat → Nat → Option Nat} {nx : Nat} {Q : Option Value → kMem → Prop} (h : kIs nx q 1 = true) : kJ 12 46 [l0, l1, l2, l3, l4] (.int x :: .ref q :: st) (mi, ml, mr, nx) Q = kJ 12 49 [l0, l1, l2, l3, l4] st (kup mi q 4 x, ml, mr, nx) Q := kJ_next d12_46 (kg_puti 1 4 rfl h (by decide) (Or.inl (by decide)))
theorem d12_49 : decode (mB 12) 49 = .ok (.aload_n 0, 1) := by decide +kernel
theorem s12_49 {l1 l2 l3 l4 : Option Value} {st : List Value} {x : Nat} {m : kMem} {Q : Option Value → kMem → Prop} : kJ 12 49 [some (.ref x), l1, l2, l3, l4] st m Q = kJ 12 50 [some (.ref x), l1, l2, l3, l4] (.ref x :: st) m Q := kJ_next d12_49 rfl
theorem d12_50 : decode (mB 12) 50 = .ok (.aload_n 0, 1) := by decide +kernel
theorem s12_50 {l1 l2 l3 l4 : Option Value} {st : List Value} {x : Nat} {m : kMem} {Q : Option Value → kMem → Prop} : kJ 12 50 [some (.ref x), l1, l2, l3, l4] st m Q = kJ 12 51 [some (.ref x), l1, l2, l3, l4] (.ref x :: st) m Q := kJ_next d12_50 rfl
theorem d12_51 : decode (mB 12) 51 = .ok (.getfield 55, 3) := by decide +kernel
theorem s12_51 {l0 l1 l2 l3 l4 : Option Value} {st : List Value} {q : Nat} {mi : Nat → Nat → Int32} {ml : Nat → Nat → Int64} {mr : Nat → Nat → Option Nat} {nx : Nat} {Q : Option Value → kMem → Prop} (h : kIs nx q 1 = true) : kJ 12 51 [l0, l1, l2, l3, l4] (.ref q :: st) (mi, ml, mr, nx) Q = kJ 12 54 [l0, l1, l2, l3, l4] (.int (mi q 4) :: st) (mi, ml, mr, nx) Q := kJ_next d12_51 (kg_geti 1 4 rfl h (by decide))
theorem d12_54 : decode (mB 12) 54 = .ok (.iconst 1, 1) := by decide +kernel
theorem s12_54 {l0 l1 l2 l3 l4 : Option Value} {st : List Value} {m : kMem} {Q : Option Value → kMem → Prop} : kJ 12 54 [l0, l1, l2, l3, l4] st m Q = kJ 12 55 [l0, l1, l2, l3, l4] (.int (nI 1) :: st) m Q := kJ_next d12_54 rfl
theorem d12_55 : decode (mB 12) 55 = .ok (.isub, 1) := by decide +kernel
theorem s12_55 {l0 l1 l2 l3 l4 : Option Value} {st : List Value} {a b : Int32} {m : kMem} {Q : Option Value → kMem → Prop} : kJ 12 55 [l0, l1, l2, l3, l4] (.int b :: .int a :: st) m Q = kJ 12 56 [l0, l1, l2, l3, l4] (.int (a - b) :: st) m Q := kJ_next d12_55 rfl
theorem d12_56 : decode (mB 12) 56 = .ok (.iload 4, 2) := by decide +kernel
theorem s12_56 {l0 l1 l2 l3 : Option Value} {st : List Value} {x : Int32} {m : kMem} {Q : Option Value → kMem → Prop} : kJ 12 56 [l0, l1, l2, l3, some (.int x)] st m Q = kJ 12 58 [l0, l1, l2, l3, some (.int x)] (.int x :: st) m Q := kJ_next d12_56 rfl
theorem d12_58 : decode (mB 12) 58 = .ok (.invokevirtual 70, 3) := by decide +kernel
theorem s12_58 {l0 l1 l2 l3 l4 : Option Value} {v0 : Int32} {v1 : Int32} {v2 : Nat} {m : kMem} {Q : Option Value → kMem → Prop} (h : kIs m.2.2.2 v2 1 = true) : kJ 12 58 [l0, l1, l2, l3, l4] [.int v0, .int v1, .ref v2] m Q = kJ 13 0 [some (.ref v2), some (.int v1), some (.int v0)] [] m (fun v m2 => kJ 12 61 [l0, l1, l2, l3, l4] (v.toList ++ []) m2 Q) := kJ_call d12_58 (kg_callv 13 2 rfl rfl rfl rfl (Nat.le_of_ble_eq_true rfl) (Nat.le_of_ble_eq_true rfl) (Nat.le_of_ble_eq_true rfl) h rfl)
theorem d12_61 : decode (mB 12) 61 = .ok (.return_, 1) := by decide +kernel
theorem s12_61 {l0 l1 l2 l3 l4 : Option Value} {m : kMem} {Q : Option Value → kMem → Prop} : kJ 12 61 [l0, l1, l2, l3, l4] [] m Q = Q none m := kJ_ret d12_61 rfl
theorem d13_0 : decode (mB 13) 0 = .ok (.aload_n 0, 1) := by decide +kernel
theorem s13_0 {l1 l2 : Option Value} {st : List Value} {x : Nat} {m : kMem} {Q : Option Value → kMem → Prop} : kJ 13 0 [some (.ref x), l1, l2] st m Q = kJ 13 1 [some (.ref x), l1, l2] (.ref x :: st) m Q := kJ_next d13_0 rfl
theorem d13_1 : decode (mB 13) 1 = .ok (.getfield 30, 3) := by decide +kernel
theorem s13_1 {l0 l1 l2 : Option Value} {st : List Value} {q : Nat} {mi : Nat → Nat → Int32} {ml : Nat → Nat → Int64} {mr : Nat → Nat → Option Nat} {nx : Nat} {Q : Option Value → kMem → Prop} (h : kIs nx q 1 = true) : kJ 13 1 [l0, l1, l2] (.ref q :: st) (mi, ml, mr, nx) Q = kJ 13 4 [l0, l1, l2] (va_rf (mr q 8) :: st) (mi, ml, mr, nx) Q := kJ_next d13_1 (kg_getr 1 8 rfl h (by decide))
theorem d13_4 : decode (mB 13) 4 = .ok (.iload_n 1, 1) := by decide +kernel
theorem s13_4 {l0 l2 : Option Value} {st : List Value} {x : Int32} {m : kMem} {Q : Option Value → kMem → Prop} : kJ 13 4 [l0, some (.int x), l2] st m Q = kJ 13 5 [l0, some (.int x), l2] (.int x :: st) m Q := kJ_next d13_4 rfl
theorem d13_5 : decode (mB 13) 5 = .ok (.iload_n 2, 1) := by decide +kernel
theorem s13_5 {l0 l1 : Option Value} {st : List Value} {x : Int32} {m : kMem} {Q : Option Value → kMem → Prop} : kJ 13 5 [l0, l1, some (.int x)] st m Q = kJ 13 6 [l0, l1, some (.int x)] (.int x :: st) m Q := kJ_next d13_5 rfl
theorem d13_6 : decode (mB 13) 6 = .ok (.iastore, 1) := by decide +kernel
theorem s13_6 {l0 l1 l2 : Option Value} {st : List Value} {q : Nat} {i x : Int32} {mi : Nat → Nat → Int32} {ml : Nat → Nat → Int64} {mr : Nat → Nat → Option Nat} {nx : Nat} {Q : Option Value → kMem → Prop} (h : kIs nx q 10 = true) : kJ 13 6 [l0, l1, l2] (.int x :: .int i :: .ref q :: st) (mi, ml, mr, nx) Q = (vp_in i (kAl q) ∧ kJ 13 7 [l0, l1, l2] st (kup mi q i.toNatClampNeg x, ml, mr, nx) Q) := kg_astJ d13_6 rfl (kAr_of h)
theorem d13_7 : decode (mB 13) 7 = .ok (.aload_n 0, 1) := by decide +kernel
theorem s13_7 {l1 l2 : Option Value} {st : List Value} {x : Nat} {m : kMem} {Q : Option Value → kMem → Prop} : kJ 13 7 [some (.ref x), l1, l2] st m Q = kJ 13 8 [some (.ref x), l1, l2] (.ref x :: st) m Q := kJ_next d13_7 rfl
theorem d13_8 : decode (mB 13) 8 = .ok (.getfield 33, 3) := by decide +kernel
theorem s13_8 {l0 l1 l2 : Option Value} {st : List Value} {q : Nat} {mi : Nat → Nat → Int32} {ml : Nat → Nat → Int64} {mr : Nat → Nat → Option Nat} {nx : Nat} {Q : Option Value → kMem → Prop} (h : kIs nx q 1 = true) : kJ 13 8 [l0, l1, l2] (.ref q :: st) (mi, ml, mr, nx) Q = kJ 13 11 [l0, l1, l2] (va_rf (mr q 9) :: st) (mi, ml, mr, nx) Q := kJ_next d13_8 (kg_getr 1 9 rfl h (by decide))
theorem d13_11 : decode (mB 13) 11 = .ok (.iload_n 1, 1) := by decide +kernel
theorem s13_11 {l0 l2 : Option Value} {st : List Value} {x : Int32} {m : kMem} {Q : Option Value → kMem → Prop} : kJ 13 11 [l0, some (.int x), l2] st m Q = kJ 13 12 [l0, some (.int x), l2] (.int x :: st) m Q := kJ_next d13_11 rfl
theorem d13_12 : decode (mB 13) 12 = .ok (.aload_n 0, 1) := by decide +kernel
theorem s13_12 {l1 l2 : Option Value} {st : List Value} {x : Nat} {m : kMem} {Q : Option Value → kMem → Prop} : kJ 13 12 [some (.ref x), l1, l2] st m Q = kJ 13 13 [some (.ref x), l1, l2] (.ref x :: st) m Q := kJ_next d13_12 rfl
theorem d13_13 : decode (mB 13) 13 = .ok (.getfield 15, 3) := by decide +kernel
theorem s13_13 {l0 l1 l2 : Option Value} {st : List Value} {q : Nat} {mi : Nat → Nat → Int32} {ml : Nat → Nat → Int64} {mr : Nat → Nat → Option Nat} {nx : Nat} {Q : Option Value → kMem → Prop} (h : kIs nx q 1 = true) : kJ 13 13 [l0, l1, l2] (.ref q :: st) (mi, ml, mr, nx) Q = kJ 13 16 [l0, l1, l2] (va_rf (mr q 2) :: st) (mi, ml, mr, nx) Q := kJ_next d13_13 (kg_getr 1 2 rfl h (by decide))
theorem d13_16 : decode (mB 13) 16 = .ok (.aload_n 0, 1) := by decide +kernel
theorem s13_16 {l1 l2 : Option Value} {st : List Value} {x : Nat} {m : kMem} {Q : Option Value → kMem → Prop} : kJ 13 16 [some (.ref x), l1, l2] st m Q = kJ 13 17 [some (.ref x), l1, l2] (.ref x :: st) m Q := kJ_next d13_16 rfl
theorem d13_17 : decode (mB 13) 17 = .ok (.getfield 21, 3) := by decide +kernel
theorem s13_17 {l0 l1 l2 : Option Value} {st : List Value} {q : Nat} {mi : Nat → Nat → Int32} {ml : Nat → Nat → Int64} {mr : Nat → Nat → Option Nat} {nx : Nat} {Q : Option Value → kMem → Prop} (h : kIs nx q 1 = true) : kJ 13 17 [l0, l1, l2] (.ref q :: st) (mi, ml, mr, nx) Q = kJ 13 20 [l0, l1, l2] (va_rf (mr q 5) :: st) (mi, ml, mr, nx) Q := kJ_next d13_17 (kg_getr 1 5 rfl h (by decide))
theorem d13_20 : decode (mB 13) 20 = .ok (.iload_n 1, 1) := by decide +kernel
theorem s13_20 {l0 l2 : Option Value} {st : List Value} {x : Int32} {m : kMem} {Q : Option Value → kMem → Prop} : kJ 13 20 [l0, some (.int x), l2] st m Q = kJ 13 21 [l0, some (.int x), l2] (.int x :: st) m Q := kJ_next d13_20 rfl
theorem d13_21 : decode (mB 13) 21 = .ok (.iaload, 1) := by decide +kernel
theorem s13_21 {l0 l1 l2 : Option Value} {st : List Value} {q : Nat} {i : Int32} {mi : Nat → Nat → Int32} {ml : Nat → Nat → Int64} {mr : Nat → Nat → Option Nat} {nx : Nat} {Q : Option Value → kMem → Prop} (h : kIs nx q 10 = true) : kJ 13 21 [l0, l1, l2] (.int i :: .ref q :: st) (mi, ml, mr, nx) Q = (vp_in i (kAl q) ∧ kJ 13 22 [l0, l1, l2] (.int (mi q i.toNatClampNeg) :: st) (mi, ml, mr, nx) Q) := kg_aldJ d13_21 rfl (kAr_of h)
theorem d13_22 : decode (mB 13) 22 = .ok (.iaload, 1) := by decide +kernel
theorem s13_22 {l0 l1 l2 : Option Value} {st : List Value} {q : Nat} {i : Int32} {mi : Nat → Nat → Int32} {ml : Nat → Nat → Int64} {mr : Nat → Nat → Option Nat} {nx : Nat} {Q : Option Value → kMem → Prop} (h : kIs nx q 10 = true) : kJ 13 22 [l0, l1, l2] (.int i :: .ref q :: st) (mi, ml, mr, nx) Q = (vp_in i (kAl q) ∧ kJ 13 23 [l0, l1, l2] (.int (mi q i.toNatClampNeg) :: st) (mi, ml, mr, nx) Q) := kg_aldJ d13_22 rfl (kAr_of h)
theorem d13_23 : decode (mB 13) 23 = .ok (.iastore, 1) := by decide +kernel
theorem s13_23 {l0 l1 l2 : Option Value} {st : List Value} {q : Nat} {i x : Int32} {mi : Nat → Nat → Int32} {ml : Nat → Nat → Int64} {mr : Nat → Nat → Option Nat} {nx : Nat} {Q : Option Value → kMem → Prop} (h : kIs nx q 10 = true) : kJ 13 23 [l0, l1, l2] (.int x :: .int i :: .ref q :: st) (mi, ml, mr, nx) Q = (vp_in i (kAl q) ∧ kJ 13 24 [l0, l1, l2] st (kup mi q i.toNatClampNeg x, ml, mr, nx) Q) := kg_astJ d13_23 rfl (kAr_of h)
theorem d13_24 : decode (mB 13) 24 = .ok (.aload_n 0, 1) := by decide +kernel
theorem s13_24 {l1 l2 : Option Value} {st : List Value} {x : Nat} {m : kMem} {Q : Option Value → kMem → Prop} : kJ 13 24 [some (.ref x), l1, l2] st m Q = kJ 13 25 [some (.ref x), l1, l2] (.ref x :: st) m Q := kJ_next d13_24 rfl
theorem d13_25 : decode (mB 13) 25 = .ok (.getfield 36, 3) := by decide +kernel
theorem s13_25 {l0 l1 l2 : Option Value} {st : List Value} {q : Nat} {mi : Nat → Nat → Int32} {ml : Nat → Nat → Int64} {mr : Nat → Nat → Option Nat} {nx : Nat} {Q : Option Value → kMem → Prop} (h : kIs nx q 1 = true) : kJ 13 25 [l0, l1, l2] (.ref q :: st) (mi, ml, mr, nx) Q = kJ 13 28 [l0, l1, l2] (va_rf (mr q 10) :: st) (mi, ml, mr, nx) Q := kJ_next d13_25 (kg_getr 1 10 rfl h (by decide))
theorem d13_28 : decode (mB 13) 28 = .ok (.iload_n 1, 1) := by decide +kernel
theorem s13_28 {l0 l2 : Option Value} {st : List Value} {x : Int32} {m : kMem} {Q : Option Value → kMem → Prop} : kJ 13 28 [l0, some (.int x), l2] st m Q = kJ 13 29 [l0, some (.int x), l2] (.int x :: st) m Q := kJ_next d13_28 rfl
theorem d13_29 : decode (mB 13) 29 = .ok (.iconst 0, 1) := by decide +kernel
theorem s13_29 {l0 l1 l2 : Option Value} {st : List Value} {m : kMem} {Q : Option Value → kMem → Prop} : kJ 13 29 [l0, l1, l2] st m Q = kJ 13 30 [l0, l1, l2] (.int (nI 0) :: st) m Q := kJ_next d13_29 rfl
theorem d13_30 : decode (mB 13) 30 = .ok (.iastore, 1) := by decide +kernel
theorem s13_30 {l0 l1 l2 : Option Value} {st : List Value} {q : Nat} {i x : Int32} {mi : Nat → Nat → Int32} {ml : Nat → Nat → Int64} {mr : Nat → Nat → Option Nat} {nx : Nat} {Q : Option Value → kMem → Prop} (h : kIs nx q 10 = true) : kJ 13 30 [l0, l1, l2] (.int x :: .int i :: .ref q :: st) (mi, ml, mr, nx) Q = (vp_in i (kAl q) ∧ kJ 13 31 [l0, l1, l2] st (kup mi q i.toNatClampNeg x, ml, mr, nx) Q) := kg_astJ d13_30 rfl (kAr_of h)
theorem d13_31 : decode (mB 13) 31 = .ok (.return_, 1) := by decide +kernel
theorem s13_31 {l0 l1 l2 : Option Value} {m : kMem} {Q : Option Value → kMem → Prop} : kJ 13 31 [l0, l1, l2] [] m Q = Q none m := kJ_ret d13_31 rfl
theorem d14_0 : decode (mB 14) 0 = .ok (.aload_n 0, 1) := by decide +kernel
theorem s14_0 {l1 l2 l3 : Option Value} {st : List Value} {x : Nat} {m : kMem} {Q : Option Value → kMem → Prop} : kJ 14 0 [some (.ref x), l1, l2, l3] st m Q = kJ 14 1 [some (.ref x), l1, l2, l3] (.ref x :: st) m Q := kJ_next d14_0 rfl
theorem d14_1 : decode (mB 14) 1 = .ok (.getfield 61, 3) := by decide +kernel
theorem s14_1 {l0 l1 l2 l3 : Option Value} {st : List Value} {q : Nat} {mi : Nat → Nat → Int32} {ml : Nat → Nat → Int64} {mr : Nat → Nat → Option Nat} {nx : Nat} {Q : Option Value → kMem → Prop} (h : kIs nx q 1 = true) : kJ 14 1 [l0, l1, l2, l3] (.ref q :: st) (mi, ml, mr, nx) Q = kJ 14 4 [l0, l1, l2, l3] (.int (mi q 13) :: st) (mi, ml, mr, nx) Q := kJ_next d14_1 (kg_geti 1 13 rfl h (by decide))
theorem d14_4 : decode (mB 14) 4 = .ok (.bipush 6, 2) := by decide +kernel
theorem s14_4 {l0 l1 l2 l3 : Option Value} {st : List Value} {m : kMem} {Q : Option Value → kMem → Prop} : kJ 14 4 [l0, l1, l2, l3] st m Q = kJ 14 6 [l0, l1, l2, l3] (.int (nI 6) :: st) m Q := kJ_next d14_4 rfl
theorem d14_6 : decode (mB 14) 6 = .ok (.if_icmp .ge 43, 3) := by decide +kernel
theorem s14_6 {l0 l1 l2 l3 : Option Value} {st : List Value} {a b : Int32} {m : kMem} {Q : Option Value → kMem → Prop} : kJ 14 6 [l0, l1, l2, l3] (.int b :: .int a :: st) m Q = (if b ≤ a then kJ 14 49 [l0, l1, l2, l3] st m Q else kJ 14 9 [l0, l1, l2, l3] st m Q) := kJ_if d14_6 rfl (fun h => kJ_next d14_6 h) (fun h => kJ_next d14_6 h)
theorem d14_9 : decode (mB 14) 9 = .ok (.aload_n 0, 1) := by decide +kernel
theorem s14_9 {l1 l2 l3 : Option Value} {st : List Value} {x : Nat} {m : kMem} {Q : Option Value → kMem → Prop} : kJ 14 9 [some (.ref x), l1, l2, l3] st m Q = kJ 14 10 [some (.ref x), l1, l2, l3] (.ref x :: st) m Q := kJ_next d14_9 rfl
theorem d14_10 : decode (mB 14) 10 = .ok (.getfield 43, 3) := by decide +kernel
theorem s14_10 {l0 l1 l2 l3 : Option Value} {st : List Value} {q : Nat} {mi : Nat → Nat → Int32} {ml : Nat → Nat → Int64} {mr : Nat → Nat → Option Nat} {nx : Nat} {Q : Option Value → kMem → Prop} (h : kIs nx q 1 = true) : kJ 14 10 [l0, l1, l2, l3] (.ref q :: st) (mi, ml, mr, nx) Q = kJ 14 13 [l0, l1, l2, l3] (va_rf (mr q 14) :: st) (mi, ml, mr, nx) Q := kJ_next d14_10 (kg_getr 1 14 rfl h (by decide))
theorem d14_13 : decode (mB 14) 13 = .ok (.aload_n 0, 1) := by decide +kernel
theorem s14_13 {l1 l2 l3 : Option Value} {st : List Value} {x : Nat} {m : kMem} {Q : Option Value → kMem → Prop} : kJ 14 13 [some (.ref x), l1, l2, l3] st m Q = kJ 14 14 [some (.ref x), l1, l2, l3] (.ref x :: st) m Q := kJ_next d14_13 rfl
theorem d14_14 : decode (mB 14) 14 = .ok (.getfield 61, 3) := by decide +kernel
theorem s14_14 {l0 l1 l2 l3 : Option Value} {st : List Value} {q : Nat} {mi : Nat → Nat → Int32} {ml : Nat → Nat → Int64} {mr : Nat → Nat → Option Nat} {nx : Nat} {Q : Option Value → kMem → Prop} (h : kIs nx q 1 = true) : kJ 14 14 [l0, l1, l2, l3] (.ref q :: st) (mi, ml, mr, nx) Q = kJ 14 17 [l0, l1, l2, l3] (.int (mi q 13) :: st) (mi, ml, mr, nx) Q := kJ_next d14_14 (kg_geti 1 13 rfl h (by decide))
theorem d14_17 : decode (mB 14) 17 = .ok (.iload_n 1, 1) := by decide +kernel
theorem s14_17 {l0 l2 l3 : Option Value} {st : List Value} {x : Int32} {m : kMem} {Q : Option Value → kMem → Prop} : kJ 14 17 [l0, some (.int x), l2, l3] st m Q = kJ 14 18 [l0, some (.int x), l2, l3] (.int x :: st) m Q := kJ_next d14_17 rfl
theorem d14_18 : decode (mB 14) 18 = .ok (.iastore, 1) := by decide +kernel
theorem s14_18 {l0 l1 l2 l3 : Option Value} {st : List Value} {q : Nat} {i x : Int32} {mi : Nat → Nat → Int32} {ml : Nat → Nat → Int64} {mr : Nat → Nat → Option Nat} {nx : Nat} {Q : Option Value → kMem → Prop} (h : kIs nx q 10 = true) : kJ 14 18 [l0, l1, l2, l3] (.int x :: .int i :: .ref q :: st) (mi, ml, mr, nx) Q = (vp_in i (kAl q) ∧ kJ 14 19 [l0, l1, l2, l3] st (kup mi q i.toNatClampNeg x, ml, mr, nx) Q) := kg_astJ d14_18 rfl (kAr_of h)
theorem d14_19 : decode (mB 14) 19 = .ok (.aload_n 0, 1) := by decide +kernel
theorem s14_19 {l1 l2 l3 : Option Value} {st : List Value} {x : Nat} {m : kMem} {Q : Option Value → kMem → Prop} : kJ 14 19 [some (.ref x), l1, l2, l3] st m Q = kJ 14 20 [some (.ref x), l1, l2, l3] (.ref x :: st) m Q := kJ_next d14_19 rfl
theorem d14_20 : decode (mB 14) 20 = .ok (.getfield 46, 3) := by decide +kernel
theorem s14_20 {l0 l1 l2 l3 : Option Value} {st : List Value} {q : Nat} {mi : Nat → Nat → Int32} {ml : Nat → Nat → Int64} {mr : Nat → Nat → Option Nat} {nx : Nat} {Q : Option Value → kMem → Prop} (h : kIs nx q 1 = true) : kJ 14 20 [l0, l1, l2, l3] (.ref q :: st) (mi, ml, mr, nx) Q = kJ 14 23 [l0, l1, l2, l3] (va_rf (mr q 15) :: st) (mi, ml, mr, nx) Q := kJ_next d14_20 (kg_getr 1 15 rfl h (by decide))
theorem d14_23 : decode (mB 14) 23 = .ok (.aload_n 0, 1) := by decide +kernel
theorem s14_23 {l1 l2 l3 : Option Value} {st : List Value} {x : Nat} {m : kMem} {Q : Option Value → kMem → Prop} : kJ 14 23 [some (.ref x), l1, l2, l3] st m Q = kJ 14 24 [some (.ref x), l1, l2, l3] (.ref x :: st) m Q := kJ_next d14_23 rfl
theorem d14_24 : decode (mB 14) 24 = .ok (.getfield 61, 3) := by decide +kernel
theorem s14_24 {l0 l1 l2 l3 : Option Value} {st : List Value} {q : Nat} {mi : Nat → Nat → Int32} {ml : Nat → Nat → Int64} {mr : Nat → Nat → Option Nat} {nx : Nat} {Q : Option Value → kMem → Prop} (h : kIs nx q 1 = true) : kJ 14 24 [l0, l1, l2, l3] (.ref q :: st) (mi, ml, mr, nx) Q = kJ 14 27 [l0, l1, l2, l3] (.int (mi q 13) :: st) (mi, ml, mr, nx) Q := kJ_next d14_24 (kg_geti 1 13 rfl h (by decide))
theorem d14_27 : decode (mB 14) 27 = .ok (.iload_n 2, 1) := by decide +kernel
theorem s14_27 {l0 l1 l3 : Option Value} {st : List Value} {x : Int32} {m : kMem} {Q : Option Value → kMem → Prop} : kJ 14 27 [l0, l1, some (.int x), l3] st m Q = kJ 14 28 [l0, l1, some (.int x), l3] (.int x :: st) m Q := kJ_next d14_27 rfl
theorem d14_28 : decode (mB 14) 28 = .ok (.iastore, 1) := by decide +kernel
theorem s14_28 {l0 l1 l2 l3 : Option Value} {st : List Value} {q : Nat} {i x : Int32} {mi : Nat → Nat → Int32} {ml : Nat → Nat → Int64} {mr : Nat → Nat → Option Nat} {nx : Nat} {Q : Option Value → kMem → Prop} (h : kIs nx q 10 = true) : kJ 14 28 [l0, l1, l2, l3] (.int x :: .int i :: .ref q :: st) (mi, ml, mr, nx) Q = (vp_in i (kAl q) ∧ kJ 14 29 [l0, l1, l2, l3] st (kup mi q i.toNatClampNeg x, ml, mr, nx) Q) := kg_astJ d14_28 rfl (kAr_of h)
theorem d14_29 : decode (mB 14) 29 = .ok (.aload_n 0, 1) := by decide +kernel
theorem s14_29 {l1 l2 l3 : Option Value} {st : List Value} {x : Nat} {m : kMem} {Q : Option Value → kMem → Prop} : kJ 14 29 [some (.ref x), l1, l2, l3] st m Q = kJ 14 30 [some (.ref x), l1, l2, l3] (.ref x :: st) m Q := kJ_next d14_29 rfl
theorem d14_30 : decode (mB 14) 30 = .ok (.getfield 49, 3) := by decide +kernel
theorem s14_30 {l0 l1 l2 l3 : Option Value} {st : List Value} {q : Nat} {mi : Nat → Nat → Int32} {ml : Nat → Nat → Int64} {mr : Nat → Nat → Option Nat} {nx : Nat} {Q : Option Value → kMem → Prop} (h : kIs nx q 1 = true) : kJ 14 30 [l0, l1, l2, l3] (.ref q :: st) (mi, ml, mr, nx) Q = kJ 14 33 [l0, l1, l2, l3] (va_rf (mr q 16) :: st) (mi, ml, mr, nx) Q := kJ_next d14_30 (kg_getr 1 16 rfl h (by decide))
theorem d14_33 : decode (mB 14) 33 = .ok (.aload_n 0, 1) := by decide +kernel
theorem s14_33 {l1 l2 l3 : Option Value} {st : List Value} {x : Nat} {m : kMem} {Q : Option Value → kMem → Prop} : kJ 14 33 [some (.ref x), l1, l2, l3] st m Q = kJ 14 34 [some (.ref x), l1, l2, l3] (.ref x :: st) m Q := kJ_next d14_33 rfl
theorem d14_34 : decode (mB 14) 34 = .ok (.getfield 61, 3) := by decide +kernel
theorem s14_34 {l0 l1 l2 l3 : Option Value} {st : List Value} {q : Nat} {mi : Nat → Nat → Int32} {ml : Nat → Nat → Int64} {mr : Nat → Nat → Option Nat} {nx : Nat} {Q : Option Value → kMem → Prop} (h : kIs nx q 1 = true) : kJ 14 34 [l0, l1, l2, l3] (.ref q :: st) (mi, ml, mr, nx) Q = kJ 14 37 [l0, l1, l2, l3] (.int (mi q 13) :: st) (mi, ml, mr, nx) Q := kJ_next d14_34 (kg_geti 1 13 rfl h (by decide))
theorem d14_37 : decode (mB 14) 37 = .ok (.iload_n 3, 1) := by decide +kernel
theorem s14_37 {l0 l1 l2 : Option Value} {st : List Value} {x : Int32} {m : kMem} {Q : Option Value → kMem → Prop} : kJ 14 37 [l0, l1, l2, some (.int x)] st m Q = kJ 14 38 [l0, l1, l2, some (.int x)] (.int x :: st) m Q := kJ_next d14_37 rfl
theorem d14_38 : decode (mB 14) 38 = .ok (.iastore, 1) := by decide +kernel
theorem s14_38 {l0 l1 l2 l3 : Option Value} {st : List Value} {q : Nat} {i x : Int32} {mi : Nat → Nat → Int32} {ml : Nat → Nat → Int64} {mr : Nat → Nat → Option Nat} {nx : Nat} {Q : Option Value → kMem → Prop} (h : kIs nx q 10 = true) : kJ 14 38 [l0, l1, l2, l3] (.int x :: .int i :: .ref q :: st) (mi, ml, mr, nx) Q = (vp_in i (kAl q) ∧ kJ 14 39 [l0, l1, l2, l3] st (kup mi q i.toNatClampNeg x, ml, mr, nx) Q) := kg_astJ d14_38 rfl (kAr_of h)
theorem d14_39 : decode (mB 14) 39 = .ok (.aload_n 0, 1) := by decide +kernel
theorem s14_39 {l1 l2 l3 : Option Value} {st : List Value} {x : Nat} {m : kMem} {Q : Option Value → kMem → Prop} : kJ 14 39 [some (.ref x), l1, l2, l3] st m Q = kJ 14 40 [some (.ref x), l1, l2, l3] (.ref x :: st) m Q := kJ_next d14_39 rfl
theorem d14_40 : decode (mB 14) 40 = .ok (.dup, 1) := by decide +kernel
theorem s14_40 {l0 l1 l2 l3 : Option Value} {st : List Value} {a : Nat} {m : kMem} {Q : Option Value → kMem → Prop} : kJ 14 40 [l0, l1, l2, l3] (.ref a :: st) m Q = kJ 14 41 [l0, l1, l2, l3] (.ref a :: .ref a :: st) m Q := kJ_next d14_40 rfl
theorem d14_41 : decode (mB 14) 41 = .ok (.getfield 61, 3) := by decide +kernel
theorem s14_41 {l0 l1 l2 l3 : Option Value} {st : List Value} {q : Nat} {mi : Nat → Nat → Int32} {ml : Nat → Nat → Int64} {mr : Nat → Nat → Option Nat} {nx : Nat} {Q : Option Value → kMem → Prop} (h : kIs nx q 1 = true) : kJ 14 41 [l0, l1, l2, l3] (.ref q :: st) (mi, ml, mr, nx) Q = kJ 14 44 [l0, l1, l2, l3] (.int (mi q 13) :: st) (mi, ml, mr, nx) Q := kJ_next d14_41 (kg_geti 1 13 rfl h (by decide))
theorem d14_44 : decode (mB 14) 44 = .ok (.iconst 1, 1) := by decide +kernel
theorem s14_44 {l0 l1 l2 l3 : Option Value} {st : List Value} {m : kMem} {Q : Option Value → kMem → Prop} : kJ 14 44 [l0, l1, l2, l3] st m Q = kJ 14 45 [l0, l1, l2, l3] (.int (nI 1) :: st) m Q := kJ_next d14_44 rfl
theorem d14_45 : decode (mB 14) 45 = .ok (.iadd, 1) := by decide +kernel
theorem s14_45 {l0 l1 l2 l3 : Option Value} {st : List Value} {a b : Int32} {m : kMem} {Q : Option Value → kMem → Prop} : kJ 14 45 [l0, l1, l2, l3] (.int b :: .int a :: st) m Q = kJ 14 46 [l0, l1, l2, l3] (.int (a + b) :: st) m Q := kJ_next d14_45 rfl
theorem d14_46 : decode (mB 14) 46 = .ok (.putfield 61, 3) := by decide +kernel
theorem s14_46 {l0 l1 l2 l3 : Option Value} {st : List Value} {q : Nat} {x : Int32} {mi : Nat → Nat → Int32} {ml : Nat → Nat → Int64} {mr : Nat → Nat → Option Nat} {nx : Nat} {Q : Option Value → kMem → Prop} (h : kIs nx q 1 = true) : kJ 14 46 [l0, l1, l2, l3] (.int x :: .ref q :: st) (mi, ml, mr, nx) Q = kJ 14 49 [l0, l1, l2, l3] st (kup mi q 13 x, ml, mr, nx) Q := kJ_next d14_46 (kg_puti 1 13 rfl h (by decide) (Or.inl (by decide)))
theorem d14_49 : decode (mB 14) 49 = .ok (.return_, 1) := by decide +kernel
theorem s14_49 {l0 l1 l2 l3 : Option Value} {m : kMem} {Q : Option Value → kMem → Prop} : kJ 14 49 [l0, l1, l2, l3] [] m Q = Q none m := kJ_ret d14_49 rfl
theorem d15_0 : decode (mB 15) 0 = .ok (.aload_n 0, 1) := by decide +kernel
theorem s15_0 {st : List Value} {x : Nat} {m : kMem} {Q : Option Value → kMem → Prop} : kJ 15 0 [some (.ref x)] st m Q = kJ 15 1 [some (.ref x)] (.ref x :: st) m Q := kJ_next d15_0 rfl
theorem d15_1 : decode (mB 15) 1 = .ok (.getfield 18, 3) := by decide +kernel
theorem s15_1 {l0 : Option Value} {st : List Value} {q : Nat} {mi : Nat → Nat → Int32} {ml : Nat → Nat → Int64} {mr : Nat → Nat → Option Nat} {nx : Nat} {Q : Option Value → kMem → Prop} (h : kIs nx q 1 = true) : kJ 15 1 [l0] (.ref q :: st) (mi, ml, mr, nx) Q = kJ 15 4 [l0] (va_rf (mr q 3) :: st) (mi, ml, mr, nx) Q := kJ_next d15_1 (kg_getr 1 3 rfl h (by decide))
theorem d15_4 : decode (mB 15) 4 = .ok (.aload_n 0, 1) := by decide +kernel
theorem s15_4 {st : List Value} {x : Nat} {m : kMem} {Q : Option Value → kMem → Prop} : kJ 15 4 [some (.ref x)] st m Q = kJ 15 5 [some (.ref x)] (.ref x :: st) m Q := kJ_next d15_4 rfl
theorem d15_5 : decode (mB 15) 5 = .ok (.getfield 52, 3) := by decide +kernel
theorem s15_5 {l0 : Option Value} {st : List Value} {q : Nat} {mi : Nat → Nat → Int32} {ml : Nat → Nat → Int64} {mr : Nat → Nat → Option Nat} {nx : Nat} {Q : Option Value → kMem → Prop} (h : kIs nx q 1 = true) : kJ 15 5 [l0] (.ref q :: st) (mi, ml, mr, nx) Q = kJ 15 8 [l0] (.int (mi q 0) :: st) (mi, ml, mr, nx) Q := kJ_next d15_5 (kg_geti 1 0 rfl h (by decide))
theorem d15_8 : decode (mB 15) 8 = .ok (.invokestatic 74, 3) := by decide +kernel
theorem s15_8 {l0 : Option Value} {v0 : Int32} {v1 : Nat} {m : kMem} {Q : Option Value → kMem → Prop} : kJ 15 8 [l0] [.int v0, .ref v1] m Q = kJ 94 0 [some (.ref v1), some (.int v0), none, none] [] m (fun v m2 => kJ 15 11 [l0] (v.toList ++ []) m2 Q) := kJ_call d15_8 (kg_calls 94 2 rfl rfl (Nat.le_of_ble_eq_true rfl) (Nat.le_of_ble_eq_true rfl) (Nat.le_of_ble_eq_true rfl) (Nat.le_of_ble_eq_true rfl))
theorem d15_11 : decode (mB 15) 11 = .ok (.ireturn, 1) := by decide +kernel
theorem s15_11 {l0 : Option Value} {x : Int32} {m : kMem} {Q : Option Value → kMem → Prop} : kJ 15 11 [l0] [.int x] m Q = Q (some (.int x)) m := kJ_ret d15_11 rfl
theorem d16_0 : decode (mB 16) 0 = .ok (.iconst 0, 1) := by decide +kernel
theorem s16_0 {l0 l1 l2 l3 : Option Value} {st : List Value} {m : kMem} {Q : Option Value → kMem → Prop} : kJ 16 0 [l0, l1, l2, l3] st m Q = kJ 16 1 [l0, l1, l2, l3] (.int (nI 0) :: st) m Q := kJ_next d16_0 rfl
theorem d16_1 : decode (mB 16) 1 = .ok (.istore_n 2, 1) := by decide +kernel
theorem s16_1 {l0 l1 l2 l3 : Option Value} {st : List Value} {x : Int32} {m : kMem} {Q : Option Value → kMem → Prop} (hp : kNL l1 = true) : kJ 16 1 [l0, l1, l2, l3] (.int x :: st) m Q = kJ 16 2 [l0, l1, some (.int x), l3] st m Q := kJ_next d16_1 (kg_sti (Nat.le_of_ble_eq_true rfl) hp)
theorem d16_2 : decode (mB 16) 2 = .ok (.iconst 0, 1) := by decide +kernel
theorem s16_2 {l0 l1 l2 l3 : Option Value} {st : List Value} {m : kMem} {Q : Option Value → kMem → Prop} : kJ 16 2 [l0, l1, l2, l3] st m Q = kJ 16 3 [l0, l1, l2, l3] (.int (nI 0) :: st) m Q := kJ_next d16_2 rfl
theorem d16_3 : decode (mB 16) 3 = .ok (.istore_n 3, 1) := by decide +kernel
theorem s16_3 {l0 l1 l2 l3 : Option Value} {st : List Value} {x : Int32} {m : kMem} {Q : Option Value → kMem → Prop} (hp : kNL l2 = true) : kJ 16 3 [l0, l1, l2, l3] (.int x :: st) m Q = kJ 16 4 [l0, l1, l2, some (.int x)] st m Q := kJ_next d16_3 (kg_sti (Nat.le_of_ble_eq_true rfl) hp)
theorem d16_4 : decode (mB 16) 4 = .ok (.iload_n 3, 1) := by decide +kernel
theorem s16_4 {l0 l1 l2 : Option Value} {st : List Value} {x : Int32} {m : kMem} {Q : Option Value → kMem → Prop} : kJ 16 4 [l0, l1, l2, some (.int x)] st m Q = kJ 16 5 [l0, l1, l2, some (.int x)] (.int x :: st) m Q := kJ_next d16_4 rfl
theorem d16_5 : decode (mB 16) 5 = .ok (.aload_n 0, 1) := by decide +kernel
theorem s16_5 {l1 l2 l3 : Option Value} {st : List Value} {x : Nat} {m : kMem} {Q : Option Value → kMem → Prop} : kJ 16 5 [some (.ref x), l1, l2, l3] st m Q = kJ 16 6 [some (.ref x), l1, l2, l3] (.ref x :: st) m Q := kJ_next d16_5 rfl
theorem d16_6 : decode (mB 16) 6 = .ok (.getfield 55, 3) := by decide +kernel
theorem s16_6 {l0 l1 l2 l3 : Option Value} {st : List Value} {q : Nat} {mi : Nat → Nat → Int32} {ml : Nat → Nat → Int64} {mr : Nat → Nat → Option Nat} {nx : Nat} {Q : Option Value → kMem → Prop} (h : kIs nx q 1 = true) : kJ 16 6 [l0, l1, l2, l3] (.ref q :: st) (mi, ml, mr, nx) Q = kJ 16 9 [l0, l1, l2, l3] (.int (mi q 4) :: st) (mi, ml, mr, nx) Q := kJ_next d16_6 (kg_geti 1 4 rfl h (by decide))
theorem d16_9 : decode (mB 16) 9 = .ok (.if_icmp .ge 25, 3) := by decide +kernel
theorem s16_9 {l0 l1 l2 l3 : Option Value} {st : List Value} {a b : Int32} {m : kMem} {Q : Option Value → kMem → Prop} : kJ 16 9 [l0, l1, l2, l3] (.int b :: .int a :: st) m Q = (if b ≤ a then kJ 16 34 [l0, l1, l2, l3] st m Q else kJ 16 12 [l0, l1, l2, l3] st m Q) := kJ_if d16_9 rfl (fun h => kJ_next d16_9 h) (fun h => kJ_next d16_9 h)
theorem d16_12 : decode (mB 16) 12 = .ok (.aload_n 0, 1) := by decide +kernel
theorem s16_12 {l1 l2 l3 : Option Value} {st : List Value} {x : Nat} {m : kMem} {Q : Option Value → kMem → Prop} : kJ 16 12 [some (.ref x), l1, l2, l3] st m Q = kJ 16 13 [some (.ref x), l1, l2, l3] (.ref x :: st) m Q := kJ_next d16_12 rfl
theorem d16_13 : decode (mB 16) 13 = .ok (.getfield 36, 3) := by decide +kernel
theorem s16_13 {l0 l1 l2 l3 : Option Value} {st : List Value} {q : Nat} {mi : Nat → Nat → Int32} {ml : Nat → Nat → Int64} {mr : Nat → Nat → Option Nat} {nx : Nat} {Q : Option Value → kMem → Prop} (h : kIs nx q 1 = true) : kJ 16 13 [l0, l1, l2, l3] (.ref q :: st) (mi, ml, mr, nx) Q = kJ 16 16 [l0, l1, l2, l3] (va_rf (mr q 10) :: st) (mi, ml, mr, nx) Q := kJ_next d16_13 (kg_getr 1 10 rfl h (by decide))
theorem d16_16 : decode (mB 16) 16 = .ok (.iload_n 3, 1) := by decide +kernel
theorem s16_16 {l0 l1 l2 : Option Value} {st : List Value} {x : Int32} {m : kMem} {Q : Option Value → kMem → Prop} : kJ 16 16 [l0, l1, l2, some (.int x)] st m Q = kJ 16 17 [l0, l1, l2, some (.int x)] (.int x :: st) m Q := kJ_next d16_16 rfl
theorem d16_17 : decode (mB 16) 17 = .ok (.iaload, 1) := by decide +kernel
theorem s16_17 {l0 l1 l2 l3 : Option Value} {st : List Value} {q : Nat} {i : Int32} {mi : Nat → Nat → Int32} {ml : Nat → Nat → Int64} {mr : Nat → Nat → Option Nat} {nx : Nat} {Q : Option Value → kMem → Prop} (h : kIs nx q 10 = true) : kJ 16 17 [l0, l1, l2, l3] (.int i :: .ref q :: st) (mi, ml, mr, nx) Q = (vp_in i (kAl q) ∧ kJ 16 18 [l0, l1, l2, l3] (.int (mi q i.toNatClampNeg) :: st) (mi, ml, mr, nx) Q) := kg_aldJ d16_17 rfl (kAr_of h)
theorem d16_18 : decode (mB 16) 18 = .ok (.iload_n 1, 1) := by decide +kernel
theorem s16_18 {l0 l2 l3 : Option Value} {st : List Value} {x : Int32} {m : kMem} {Q : Option Value → kMem → Prop} : kJ 16 18 [l0, some (.int x), l2, l3] st m Q = kJ 16 19 [l0, some (.int x), l2, l3] (.int x :: st) m Q := kJ_next d16_18 rfl
theorem d16_19 : decode (mB 16) 19 = .ok (.if_icmp .ne 9, 3) := by decide +kernel
theorem s16_19 {l0 l1 l2 l3 : Option Value} {st : List Value} {a b : Int32} {m : kMem} {Q : Option Value → kMem → Prop} : kJ 16 19 [l0, l1, l2, l3] (.int b :: .int a :: st) m Q = (if a = b then kJ 16 22 [l0, l1, l2, l3] st m Q else kJ 16 28 [l0, l1, l2, l3] st m Q) := kJ_if d16_19 rfl (fun h => kJ_next d16_19 h) (fun h => kJ_next d16_19 h)
theorem d16_22 : decode (mB 16) 22 = .ok (.iload_n 2, 1) := by decide +kernel
theorem s16_22 {l0 l1 l3 : Option Value} {st : List Value} {x : Int32} {m : kMem} {Q : Option Value → kMem → Prop} : kJ 16 22 [l0, l1, some (.int x), l3] st m Q = kJ 16 23 [l0, l1, some (.int x), l3] (.int x :: st) m Q := kJ_next d16_22 rfl
theorem d16_23 : decode (mB 16) 23 = .ok (.iconst 1, 1) := by decide +kernel
theorem s16_23 {l0 l1 l2 l3 : Option Value} {st : List Value} {m : kMem} {Q : Option Value → kMem → Prop} : kJ 16 23 [l0, l1, l2, l3] st m Q = kJ 16 24 [l0, l1, l2, l3] (.int (nI 1) :: st) m Q := kJ_next d16_23 rfl
theorem d16_24 : decode (mB 16) 24 = .ok (.iload_n 3, 1) := by decide +kernel
theorem s16_24 {l0 l1 l2 : Option Value} {st : List Value} {x : Int32} {m : kMem} {Q : Option Value → kMem → Prop} : kJ 16 24 [l0, l1, l2, some (.int x)] st m Q = kJ 16 25 [l0, l1, l2, some (.int x)] (.int x :: st) m Q := kJ_next d16_24 rfl
theorem d16_25 : decode (mB 16) 25 = .ok (.ishl, 1) := by decide +kernel
theorem s16_25 {l0 l1 l2 l3 : Option Value} {st : List Value} {a b : Int32} {m : kMem} {Q : Option Value → kMem → Prop} : kJ 16 25 [l0, l1, l2, l3] (.int b :: .int a :: st) m Q = kJ 16 26 [l0, l1, l2, l3] (.int (a <<< (b &&& 31)) :: st) m Q := kJ_next d16_25 rfl
theorem d16_26 : decode (mB 16) 26 = .ok (.ior, 1) := by decide +kernel
theorem s16_26 {l0 l1 l2 l3 : Option Value} {st : List Value} {a b : Int32} {m : kMem} {Q : Option Value → kMem → Prop} : kJ 16 26 [l0, l1, l2, l3] (.int b :: .int a :: st) m Q = kJ 16 27 [l0, l1, l2, l3] (.int (a ||| b) :: st) m Q := kJ_next d16_26 rfl
theorem d16_27 : decode (mB 16) 27 = .ok (.istore_n 2, 1) := by decide +kernel
theorem s16_27 {l0 l1 l2 l3 : Option Value} {st : List Value} {x : Int32} {m : kMem} {Q : Option Value → kMem → Prop} (hp : kNL l1 = true) : kJ 16 27 [l0, l1, l2, l3] (.int x :: st) m Q = kJ 16 28 [l0, l1, some (.int x), l3] st m Q := kJ_next d16_27 (kg_sti (Nat.le_of_ble_eq_true rfl) hp)
theorem d16_28 : decode (mB 16) 28 = .ok (.iinc 3 1, 3) := by decide +kernel
theorem s16_28 {l0 l1 l2 : Option Value} {st : List Value} {x : Int32} {m : kMem} {Q : Option Value → kMem → Prop} (hp : kNL l2 = true) : kJ 16 28 [l0, l1, l2, some (.int x)] st m Q = kJ 16 31 [l0, l1, l2, some (.int (x + (nI 1)))] st m Q := kJ_next d16_28 (kg_inc rfl (Nat.le_of_ble_eq_true rfl) hp)
theorem d16_31 : decode (mB 16) 31 = .ok (.goto (-27), 3) := by decide +kernel
theorem s16_31 {l0 l1 l2 l3 : Option Value} {st : List Value} {m : kMem} {Q : Option Value → kMem → Prop} : kJ 16 31 [l0, l1, l2, l3] st m Q = kJ 16 4 [l0, l1, l2, l3] st m Q := kJ_next d16_31 rfl
theorem d16_34 : decode (mB 16) 34 = .ok (.iload_n 2, 1) := by decide +kernel
theorem s16_34 {l0 l1 l3 : Option Value} {st : List Value} {x : Int32} {m : kMem} {Q : Option Value → kMem → Prop} : kJ 16 34 [l0, l1, some (.int x), l3] st m Q = kJ 16 35 [l0, l1, some (.int x), l3] (.int x :: st) m Q := kJ_next d16_34 rfl
theorem d16_35 : decode (mB 16) 35 = .ok (.ireturn, 1) := by decide +kernel
theorem s16_35 {l0 l1 l2 l3 : Option Value} {x : Int32} {m : kMem} {Q : Option Value → kMem → Prop} : kJ 16 35 [l0, l1, l2, l3] [.int x] m Q = Q (some (.int x)) m := kJ_ret d16_35 rfl
theorem d17_0 : decode (mB 17) 0 = .ok (.iconst 0, 1) := by decide +kernel
theorem s17_0 {l0 l1 l2 l3 : Option Value} {st : List Value} {m : kMem} {Q : Option Value → kMem → Prop} : kJ 17 0 [l0, l1, l2, l3] st m Q = kJ 17 1 [l0, l1, l2, l3] (.int (nI 0) :: st) m Q := kJ_next d17_0 rfl
theorem d17_1 : decode (mB 17) 1 = .ok (.istore_n 2, 1) := by decide +kernel
theorem s17_1 {l0 l1 l2 l3 : Option Value} {st : List Value} {x : Int32} {m : kMem} {Q : Option Value → kMem → Prop} (hp : kNL l1 = true) : kJ 17 1 [l0, l1, l2, l3] (.int x :: st) m Q = kJ 17 2 [l0, l1, some (.int x), l3] st m Q := kJ_next d17_1 (kg_sti (Nat.le_of_ble_eq_true rfl) hp)
theorem d17_2 : decode (mB 17) 2 = .ok (.iconst 0, 1) := by decide +kernel
theorem s17_2 {l0 l1 l2 l3 : Option Value} {st : List Value} {m : kMem} {Q : Option Value → kMem → Prop} : kJ 17 2 [l0, l1, l2, l3] st m Q = kJ 17 3 [l0, l1, l2, l3] (.int (nI 0) :: st) m Q := kJ_next d17_2 rfl
theorem d17_3 : decode (mB 17) 3 = .ok (.istore_n 3, 1) := by decide +kernel
theorem s17_3 {l0 l1 l2 l3 : Option Value} {st : List Value} {x : Int32} {m : kMem} {Q : Option Value → kMem → Prop} (hp : kNL l2 = true) : kJ 17 3 [l0, l1, l2, l3] (.int x :: st) m Q = kJ 17 4 [l0, l1, l2, some (.int x)] st m Q := kJ_next d17_3 (kg_sti (Nat.le_of_ble_eq_true rfl) hp)
theorem d17_4 : decode (mB 17) 4 = .ok (.iload_n 3, 1) := by decide +kernel
theorem s17_4 {l0 l1 l2 : Option Value} {st : List Value} {x : Int32} {m : kMem} {Q : Option Value → kMem → Prop} : kJ 17 4 [l0, l1, l2, some (.int x)] st m Q = kJ 17 5 [l0, l1, l2, some (.int x)] (.int x :: st) m Q := kJ_next d17_4 rfl
theorem d17_5 : decode (mB 17) 5 = .ok (.aload_n 0, 1) := by decide +kernel
theorem s17_5 {l1 l2 l3 : Option Value} {st : List Value} {x : Nat} {m : kMem} {Q : Option Value → kMem → Prop} : kJ 17 5 [some (.ref x), l1, l2, l3] st m Q = kJ 17 6 [some (.ref x), l1, l2, l3] (.ref x :: st) m Q := kJ_next d17_5 rfl
theorem d17_6 : decode (mB 17) 6 = .ok (.getfield 55, 3) := by decide +kernel
theorem s17_6 {l0 l1 l2 l3 : Option Value} {st : List Value} {q : Nat} {mi : Nat → Nat → Int32} {ml : Nat → Nat → Int64} {mr : Nat → Nat → Option Nat} {nx : Nat} {Q : Option Value → kMem → Prop} (h : kIs nx q 1 = true) : kJ 17 6 [l0, l1, l2, l3] (.ref q :: st) (mi, ml, mr, nx) Q = kJ 17 9 [l0, l1, l2, l3] (.int (mi q 4) :: st) (mi, ml, mr, nx) Q := kJ_next d17_6 (kg_geti 1 4 rfl h (by decide))
theorem d17_9 : decode (mB 17) 9 = .ok (.if_icmp .ge 32, 3) := by decide +kernel
theorem s17_9 {l0 l1 l2 l3 : Option Value} {st : List Value} {a b : Int32} {m : kMem} {Q : Option Value → kMem → Prop} : kJ 17 9 [l0, l1, l2, l3] (.int b :: .int a :: st) m Q = (if b ≤ a then kJ 17 41 [l0, l1, l2, l3] st m Q else kJ 17 12 [l0, l1, l2, l3] st m Q) := kJ_if d17_9 rfl (fun h => kJ_next d17_9 h) (fun h => kJ_next d17_9 h)
theorem d17_12 : decode (mB 17) 12 = .ok (.aload_n 0, 1) := by decide +kernel
theorem s17_12 {l1 l2 l3 : Option Value} {st : List Value} {x : Nat} {m : kMem} {Q : Option Value → kMem → Prop} : kJ 17 12 [some (.ref x), l1, l2, l3] st m Q = kJ 17 13 [some (.ref x), l1, l2, l3] (.ref x :: st) m Q := kJ_next d17_12 rfl
theorem d17_13 : decode (mB 17) 13 = .ok (.iload_n 3, 1) := by decide +kernel
theorem s17_13 {l0 l1 l2 : Option Value} {st : List Value} {x : Int32} {m : kMem} {Q : Option Value → kMem → Prop} : kJ 17 13 [l0, l1, l2, some (.int x)] st m Q = kJ 17 14 [l0, l1, l2, some (.int x)] (.int x :: st) m Q := kJ_next d17_13 rfl
theorem d17_14 : decode (mB 17) 14 = .ok (.invokevirtual 78, 3) := by decide +kernel
theorem s17_14 {l0 l1 l2 l3 : Option Value} {v0 : Int32} {v1 : Nat} {m : kMem} {Q : Option Value → kMem → Prop} (h : kIs m.2.2.2 v1 1 = true) : kJ 17 14 [l0, l1, l2, l3] [.int v0, .ref v1] m Q = kJ 9 0 [some (.ref v1), some (.int v0)] [] m (fun v m2 => kJ 17 17 [l0, l1, l2, l3] (v.toList ++ []) m2 Q) := kJ_call d17_14 (kg_callv 9 1 rfl rfl rfl rfl (Nat.le_of_ble_eq_true rfl) (Nat.le_of_ble_eq_true rfl) (Nat.le_of_ble_eq_true rfl) h rfl)
theorem d17_17 : decode (mB 17) 17 = .ok (.ifCond .eq 18, 3) := by decide +kernel
theorem s17_17 {l0 l1 l2 l3 : Option Value} {st : List Value} {a : Int32} {m : kMem} {Q : Option Value → kMem → Prop} : kJ 17 17 [l0, l1, l2, l3] (.int a :: st) m Q = (if a = 0 then kJ 17 35 [l0, l1, l2, l3] st m Q else kJ 17 20 [l0, l1, l2, l3] st m Q) := kJ_if d17_17 rfl (fun h => kJ_next d17_17 h) (fun h => kJ_next d17_17 h)
theorem d17_20 : decode (mB 17) 20 = .ok (.aload_n 0, 1) := by decide +kernel
theorem s17_20 {l1 l2 l3 : Option Value} {st : List Value} {x : Nat} {m : kMem} {Q : Option Value → kMem → Prop} : kJ 17 20 [some (.ref x), l1, l2, l3] st m Q = kJ 17 21 [some (.ref x), l1, l2, l3] (.ref x :: st) m Q := kJ_next d17_20 rfl
theorem d17_21 : decode (mB 17) 21 = .ok (.iload_n 3, 1) := by decide +kernel
theorem s17_21 {l0 l1 l2 : Option Value} {st : List Value} {x : Int32} {m : kMem} {Q : Option Value → kMem → Prop} : kJ 17 21 [l0, l1, l2, some (.int x)] st m Q = kJ 17 22 [l0, l1, l2, some (.int x)] (.int x :: st) m Q := kJ_next d17_21 rfl
theorem d17_22 : decode (mB 17) 22 = .ok (.invokevirtual 82, 3) := by decide +kernel
theorem s17_22 {l0 l1 l2 l3 : Option Value} {v0 : Int32} {v1 : Nat} {m : kMem} {Q : Option Value → kMem → Prop} (h : kIs m.2.2.2 v1 1 = true) : kJ 17 22 [l0, l1, l2, l3] [.int v0, .ref v1] m Q = kJ 10 0 [some (.ref v1), some (.int v0)] [] m (fun v m2 => kJ 17 25 [l0, l1, l2, l3] (v.toList ++ []) m2 Q) := kJ_call d17_22 (kg_callv 10 1 rfl rfl rfl rfl (Nat.le_of_ble_eq_true rfl) (Nat.le_of_ble_eq_true rfl) (Nat.le_of_ble_eq_true rfl) h rfl)
theorem d17_25 : decode (mB 17) 25 = .ok (.iload_n 1, 1) := by decide +kernel
theorem s17_25 {l0 l2 l3 : Option Value} {st : List Value} {x : Int32} {m : kMem} {Q : Option Value → kMem → Prop} : kJ 17 25 [l0, some (.int x), l2, l3] st m Q = kJ 17 26 [l0, some (.int x), l2, l3] (.int x :: st) m Q := kJ_next d17_25 rfl
theorem d17_26 : decode (mB 17) 26 = .ok (.if_icmp .ne 9, 3) := by decide +kernel
theorem s17_26 {l0 l1 l2 l3 : Option Value} {st : List Value} {a b : Int32} {m : kMem} {Q : Option Value → kMem → Prop} : kJ 17 26 [l0, l1, l2, l3] (.int b :: .int a :: st) m Q = (if a = b then kJ 17 29 [l0, l1, l2, l3] st m Q else kJ 17 35 [l0, l1, l2, l3] st m Q) := kJ_if d17_26 rfl (fun h => kJ_next d17_26 h) (fun h => kJ_next d17_26 h)
theorem d17_29 : decode (mB 17) 29 = .ok (.iload_n 2, 1) := by decide +kernel
theorem s17_29 {l0 l1 l3 : Option Value} {st : List Value} {x : Int32} {m : kMem} {Q : Option Value → kMem → Prop} : kJ 17 29 [l0, l1, some (.int x), l3] st m Q = kJ 17 30 [l0, l1, some (.int x), l3] (.int x :: st) m Q := kJ_next d17_29 rfl
theorem d17_30 : decode (mB 17) 30 = .ok (.iconst 1, 1) := by decide +kernel
theorem s17_30 {l0 l1 l2 l3 : Option Value} {st : List Value} {m : kMem} {Q : Option Value → kMem → Prop} : kJ 17 30 [l0, l1, l2, l3] st m Q = kJ 17 31 [l0, l1, l2, l3] (.int (nI 1) :: st) m Q := kJ_next d17_30 rfl
theorem d17_31 : decode (mB 17) 31 = .ok (.iload_n 3, 1) := by decide +kernel
theorem s17_31 {l0 l1 l2 : Option Value} {st : List Value} {x : Int32} {m : kMem} {Q : Option Value → kMem → Prop} : kJ 17 31 [l0, l1, l2, some (.int x)] st m Q = kJ 17 32 [l0, l1, l2, some (.int x)] (.int x :: st) m Q := kJ_next d17_31 rfl
theorem d17_32 : decode (mB 17) 32 = .ok (.ishl, 1) := by decide +kernel
theorem s17_32 {l0 l1 l2 l3 : Option Value} {st : List Value} {a b : Int32} {m : kMem} {Q : Option Value → kMem → Prop} : kJ 17 32 [l0, l1, l2, l3] (.int b :: .int a :: st) m Q = kJ 17 33 [l0, l1, l2, l3] (.int (a <<< (b &&& 31)) :: st) m Q := kJ_next d17_32 rfl
theorem d17_33 : decode (mB 17) 33 = .ok (.ior, 1) := by decide +kernel
theorem s17_33 {l0 l1 l2 l3 : Option Value} {st : List Value} {a b : Int32} {m : kMem} {Q : Option Value → kMem → Prop} : kJ 17 33 [l0, l1, l2, l3] (.int b :: .int a :: st) m Q = kJ 17 34 [l0, l1, l2, l3] (.int (a ||| b) :: st) m Q := kJ_next d17_33 rfl
theorem d17_34 : decode (mB 17) 34 = .ok (.istore_n 2, 1) := by decide +kernel
theorem s17_34 {l0 l1 l2 l3 : Option Value} {st : List Value} {x : Int32} {m : kMem} {Q : Option Value → kMem → Prop} (hp : kNL l1 = true) : kJ 17 34 [l0, l1, l2, l3] (.int x :: st) m Q = kJ 17 35 [l0, l1, some (.int x), l3] st m Q := kJ_next d17_34 (kg_sti (Nat.le_of_ble_eq_true rfl) hp)
theorem d17_35 : decode (mB 17) 35 = .ok (.iinc 3 1, 3) := by decide +kernel
theorem s17_35 {l0 l1 l2 : Option Value} {st : List Value} {x : Int32} {m : kMem} {Q : Option Value → kMem → Prop} (hp : kNL l2 = true) : kJ 17 35 [l0, l1, l2, some (.int x)] st m Q = kJ 17 38 [l0, l1, l2, some (.int (x + (nI 1)))] st m Q := kJ_next d17_35 (kg_inc rfl (Nat.le_of_ble_eq_true rfl) hp)
theorem d17_38 : decode (mB 17) 38 = .ok (.goto (-34), 3) := by decide +kernel
theorem s17_38 {l0 l1 l2 l3 : Option Value} {st : List Value} {m : kMem} {Q : Option Value → kMem → Prop} : kJ 17 38 [l0, l1, l2, l3] st m Q = kJ 17 4 [l0, l1, l2, l3] st m Q := kJ_next d17_38 rfl
theorem d17_41 : decode (mB 17) 41 = .ok (.iload_n 2, 1) := by decide +kernel
theorem s17_41 {l0 l1 l3 : Option Value} {st : List Value} {x : Int32} {m : kMem} {Q : Option Value → kMem → Prop} : kJ 17 41 [l0, l1, some (.int x), l3] st m Q = kJ 17 42 [l0, l1, some (.int x), l3] (.int x :: st) m Q := kJ_next d17_41 rfl
theorem d17_42 : decode (mB 17) 42 = .ok (.ireturn, 1) := by decide +kernel
theorem s17_42 {l0 l1 l2 l3 : Option Value} {x : Int32} {m : kMem} {Q : Option Value → kMem → Prop} : kJ 17 42 [l0, l1, l2, l3] [.int x] m Q = Q (some (.int x)) m := kJ_ret d17_42 rfl
theorem d18_0 : decode (mB 18) 0 = .ok (.aload_n 0, 1) := by decide +kernel
theorem s18_0 {st : List Value} {x : Nat} {m : kMem} {Q : Option Value → kMem → Prop} : kJ 18 0 [some (.ref x)] st m Q = kJ 18 1 [some (.ref x)] (.ref x :: st) m Q := kJ_next d18_0 rfl
theorem d18_1 : decode (mB 18) 1 = .ok (.iconst 2, 1) := by decide +kernel
theorem s18_1 {l0 : Option Value} {st : List Value} {m : kMem} {Q : Option Value → kMem → Prop} : kJ 18 1 [l0] st m Q = kJ 18 2 [l0] (.int (nI 2) :: st) m Q := kJ_next d18_1 rfl
theorem d18_2 : decode (mB 18) 2 = .ok (.invokevirtual 86, 3) := by decide +kernel
theorem s18_2 {l0 : Option Value} {v0 : Int32} {v1 : Nat} {m : kMem} {Q : Option Value → kMem → Prop} (h : kIs m.2.2.2 v1 1 = true) : kJ 18 2 [l0] [.int v0, .ref v1] m Q = kJ 16 0 [some (.ref v1), some (.int v0), none, none] [] m (fun v m2 => kJ 18 5 [l0] (v.toList ++ []) m2 Q) := kJ_call d18_2 (kg_callv 16 1 rfl rfl rfl rfl (Nat.le_of_ble_eq_true rfl) (Nat.le_of_ble_eq_true rfl) (Nat.le_of_ble_eq_true rfl) h rfl)
theorem d18_5 : decode (mB 18) 5 = .ok (.invokestatic 89, 3) := by decide +kernel
theorem s18_5 {l0 : Option Value} {v0 : Int32} {m : kMem} {Q : Option Value → kMem → Prop} : kJ 18 5 [l0] [.int v0] m Q = kJ 198 0 [some (.int v0)] [] m (fun v m2 => kJ 18 8 [l0] (v.toList ++ []) m2 Q) := kJ_call d18_5 (kg_calls 198 1 rfl rfl (Nat.le_of_ble_eq_true rfl) (Nat.le_of_ble_eq_true rfl) (Nat.le_of_ble_eq_true rfl) (Nat.le_of_ble_eq_true rfl))
theorem d18_8 : decode (mB 18) 8 = .ok (.ireturn, 1) := by decide +kernel
theorem s18_8 {l0 : Option Value} {x : Int32} {m : kMem} {Q : Option Value → kMem → Prop} : kJ 18 8 [l0] [.int x] m Q = Q (some (.int x)) m := kJ_ret d18_8 rfl
theorem d19_0 : decode (mB 19) 0 = .ok (.iconst 0, 1) := by decide +kernel
theorem s19_0 {l0 l1 : Option Value} {st : List Value} {m : kMem} {Q : Option Value → kMem → Prop} : kJ 19 0 [l0, l1] st m Q = kJ 19 1 [l0, l1] (.int (nI 0) :: st) m Q := kJ_next d19_0 rfl
theorem d19_1 : decode (mB 19) 1 = .ok (.istore_n 1, 1) := by decide +kernel
theorem s19_1 {l0 l1 : Option Value} {st : List Value} {x : Int32} {m : kMem} {Q : Option Value → kMem → Prop} (hp : kNL l0 = true) : kJ 19 1 [l0, l1] (.int x :: st) m Q = kJ 19 2 [l0, some (.int x)] st m Q := kJ_next d19_1 (kg_sti (Nat.le_of_ble_eq_true rfl) hp)
theorem d19_2 : decode (mB 19) 2 = .ok (.iload_n 1, 1) := by decide +kernel
theorem s19_2 {l0 : Option Value} {st : List Value} {x : Int32} {m : kMem} {Q : Option Value → kMem → Prop} : kJ 19 2 [l0, some (.int x)] st m Q = kJ 19 3 [l0, some (.int x)] (.int x :: st) m Q := kJ_next d19_2 rfl
theorem d19_3 : decode (mB 19) 3 = .ok (.aload_n 0, 1) := by decide +kernel
theorem s19_3 {l1 : Option Value} {st : List Value} {x : Nat} {m : kMem} {Q : Option Value → kMem → Prop} : kJ 19 3 [some (.ref x), l1] st m Q = kJ 19 4 [some (.ref x), l1] (.ref x :: st) m Q := kJ_next d19_3 rfl
theorem d19_4 : decode (mB 19) 4 = .ok (.getfield 55, 3) := by decide +kernel
theorem s19_4 {l0 l1 : Option Value} {st : List Value} {q : Nat} {mi : Nat → Nat → Int32} {ml : Nat → Nat → Int64} {mr : Nat → Nat → Option Nat} {nx : Nat} {Q : Option Value → kMem → Prop} (h : kIs nx q 1 = true) : kJ 19 4 [l0, l1] (.ref q :: st) (mi, ml, mr, nx) Q = kJ 19 7 [l0, l1] (.int (mi q 4) :: st) (mi, ml, mr, nx) Q := kJ_next d19_4 (kg_geti 1 4 rfl h (by decide))
theorem d19_7 : decode (mB 19) 7 = .ok (.if_icmp .ge 19, 3) := by decide +kernel
theorem s19_7 {l0 l1 : Option Value} {st : List Value} {a b : Int32} {m : kMem} {Q : Option Value → kMem → Prop} : kJ 19 7 [l0, l1] (.int b :: .int a :: st) m Q = (if b ≤ a then kJ 19 26 [l0, l1] st m Q else kJ 19 10 [l0, l1] st m Q) := kJ_if d19_7 rfl (fun h => kJ_next d19_7 h) (fun h => kJ_next d19_7 h)
theorem d19_10 : decode (mB 19) 10 = .ok (.aload_n 0, 1) := by decide +kernel
theorem s19_10 {l1 : Option Value} {st : List Value} {x : Nat} {m : kMem} {Q : Option Value → kMem → Prop} : kJ 19 10 [some (.ref x), l1] st m Q = kJ 19 11 [some (.ref x), l1] (.ref x :: st) m Q := kJ_next d19_10 rfl
theorem d19_11 : decode (mB 19) 11 = .ok (.iload_n 1, 1) := by decide +kernel
theorem s19_11 {l0 : Option Value} {st : List Value} {x : Int32} {m : kMem} {Q : Option Value → kMem → Prop} : kJ 19 11 [l0, some (.int x)] st m Q = kJ 19 12 [l0, some (.int x)] (.int x :: st) m Q := kJ_next d19_11 rfl
theorem d19_12 : decode (mB 19) 12 = .ok (.invokevirtual 78, 3) := by decide +kernel
theorem s19_12 {l0 l1 : Option Value} {v0 : Int32} {v1 : Nat} {m : kMem} {Q : Option Value → kMem → Prop} (h : kIs m.2.2.2 v1 1 = true) : kJ 19 12 [l0, l1] [.int v0, .ref v1] m Q = kJ 9 0 [some (.ref v1), some (.int v0)] [] m (fun v m2 => kJ 19 15 [l0, l1] (v.toList ++ []) m2 Q) := kJ_call d19_12 (kg_callv 9 1 rfl rfl rfl rfl (Nat.le_of_ble_eq_true rfl) (Nat.le_of_ble_eq_true rfl) (Nat.le_of_ble_eq_true rfl) h rfl)
theorem d19_15 : decode (mB 19) 15 = .ok (.ifCond .eq 5, 3) := by decide +kernel
theorem s19_15 {l0 l1 : Option Value} {st : List Value} {a : Int32} {m : kMem} {Q : Option Value → kMem → Prop} : kJ 19 15 [l0, l1] (.int a :: st) m Q = (if a = 0 then kJ 19 20 [l0, l1] st m Q else kJ 19 18 [l0, l1] st m Q) := kJ_if d19_15 rfl (fun h => kJ_next d19_15 h) (fun h => kJ_next d19_15 h)
theorem d19_18 : decode (mB 19) 18 = .ok (.iconst 1, 1) := by decide +kernel
theorem s19_18 {l0 l1 : Option Value} {st : List Value} {m : kMem} {Q : Option Value → kMem → Prop} : kJ 19 18 [l0, l1] st m Q = kJ 19 19 [l0, l1] (.int (nI 1) :: st) m Q := kJ_next d19_18 rfl
theorem d19_19 : decode (mB 19) 19 = .ok (.ireturn, 1) := by decide +kernel
theorem s19_19 {l0 l1 : Option Value} {x : Int32} {m : kMem} {Q : Option Value → kMem → Prop} (hx : x = 0 ∨ x = 1) : kJ 19 19 [l0, l1] [.int x] m Q = Q (some (.int x)) m := kJ_ret d19_19 (kg_retz (by decide) hx)
theorem d19_20 : decode (mB 19) 20 = .ok (.iinc 1 1, 3) := by decide +kernel
theorem s19_20 {l0 : Option Value} {st : List Value} {x : Int32} {m : kMem} {Q : Option Value → kMem → Prop} (hp : kNL l0 = true) : kJ 19 20 [l0, some (.int x)] st m Q = kJ 19 23 [l0, some (.int (x + (nI 1)))] st m Q := kJ_next d19_20 (kg_inc rfl (Nat.le_of_ble_eq_true rfl) hp)
theorem d19_23 : decode (mB 19) 23 = .ok (.goto (-21), 3) := by decide +kernel
theorem s19_23 {l0 l1 : Option Value} {st : List Value} {m : kMem} {Q : Option Value → kMem → Prop} : kJ 19 23 [l0, l1] st m Q = kJ 19 2 [l0, l1] st m Q := kJ_next d19_23 rfl
theorem d19_26 : decode (mB 19) 26 = .ok (.iconst 0, 1) := by decide +kernel
theorem s19_26 {l0 l1 : Option Value} {st : List Value} {m : kMem} {Q : Option Value → kMem → Prop} : kJ 19 26 [l0, l1] st m Q = kJ 19 27 [l0, l1] (.int (nI 0) :: st) m Q := kJ_next d19_26 rfl
theorem d19_27 : decode (mB 19) 27 = .ok (.ireturn, 1) := by decide +kernel
theorem s19_27 {l0 l1 : Option Value} {x : Int32} {m : kMem} {Q : Option Value → kMem → Prop} (hx : x = 0 ∨ x = 1) : kJ 19 27 [l0, l1] [.int x] m Q = Q (some (.int x)) m := kJ_ret d19_27 (kg_retz (by decide) hx)
theorem d20_0 : decode (mB 20) 0 = .ok (.iconst 0, 1) := by decide +kernel
theorem s20_0 {l0 l1 l2 : Option Value} {st : List Value} {m : kMem} {Q : Option Value → kMem → Prop} : kJ 20 0 [l0, l1, l2] st m Q = kJ 20 1 [l0, l1, l2] (.int (nI 0) :: st) m Q := kJ_next d20_0 rfl
theorem d20_1 : decode (mB 20) 1 = .ok (.istore_n 2, 1) := by decide +kernel
theorem s20_1 {l0 l1 l2 : Option Value} {st : List Value} {x : Int32} {m : kMem} {Q : Option Value → kMem → Prop} (hp : kNL l1 = true) : kJ 20 1 [l0, l1, l2] (.int x :: st) m Q = kJ 20 2 [l0, l1, some (.int x)] st m Q := kJ_next d20_1 (kg_sti (Nat.le_of_ble_eq_true rfl) hp)
theorem d20_2 : decode (mB 20) 2 = .ok (.iload_n 2, 1) := by decide +kernel
theorem s20_2 {l0 l1 : Option Value} {st : List Value} {x : Int32} {m : kMem} {Q : Option Value → kMem → Prop} : kJ 20 2 [l0, l1, some (.int x)] st m Q = kJ 20 3 [l0, l1, some (.int x)] (.int x :: st) m Q := kJ_next d20_2 rfl
theorem d20_3 : decode (mB 20) 3 = .ok (.iload_n 1, 1) := by decide +kernel
theorem s20_3 {l0 l2 : Option Value} {st : List Value} {x : Int32} {m : kMem} {Q : Option Value → kMem → Prop} : kJ 20 3 [l0, some (.int x), l2] st m Q = kJ 20 4 [l0, some (.int x), l2] (.int x :: st) m Q := kJ_next d20_3 rfl
theorem d20_4 : decode (mB 20) 4 = .ok (.if_icmp .ge 21, 3) := by decide +kernel
theorem s20_4 {l0 l1 l2 : Option Value} {st : List Value} {a b : Int32} {m : kMem} {Q : Option Value → kMem → Prop} : kJ 20 4 [l0, l1, l2] (.int b :: .int a :: st) m Q = (if b ≤ a then kJ 20 25 [l0, l1, l2] st m Q else kJ 20 7 [l0, l1, l2] st m Q) := kJ_if d20_4 rfl (fun h => kJ_next d20_4 h) (fun h => kJ_next d20_4 h)
theorem d20_7 : decode (mB 20) 7 = .ok (.aload_n 0, 1) := by decide +kernel
theorem s20_7 {l1 l2 : Option Value} {st : List Value} {x : Nat} {m : kMem} {Q : Option Value → kMem → Prop} : kJ 20 7 [some (.ref x), l1, l2] st m Q = kJ 20 8 [some (.ref x), l1, l2] (.ref x :: st) m Q := kJ_next d20_7 rfl
theorem d20_8 : decode (mB 20) 8 = .ok (.invokevirtual 94, 3) := by decide +kernel
theorem s20_8 {l0 l1 l2 : Option Value} {v0 : Nat} {m : kMem} {Q : Option Value → kMem → Prop} (h : kIs m.2.2.2 v0 1 = true) : kJ 20 8 [l0, l1, l2] [.ref v0] m Q = kJ 19 0 [some (.ref v0), none] [] m (fun v m2 => kJ 20 11 [l0, l1, l2] (v.toList ++ []) m2 Q) := kJ_call d20_8 (kg_callv 19 0 rfl rfl rfl rfl (Nat.le_of_ble_eq_true rfl) (Nat.le_of_ble_eq_true rfl) (Nat.le_of_ble_eq_true rfl) h rfl)
theorem d20_11 : decode (mB 20) 11 = .ok (.ifCond .eq 14, 3) := by decide +kernel
theorem s20_11 {l0 l1 l2 : Option Value} {st : List Value} {a : Int32} {m : kMem} {Q : Option Value → kMem → Prop} : kJ 20 11 [l0, l1, l2] (.int a :: st) m Q = (if a = 0 then kJ 20 25 [l0, l1, l2] st m Q else kJ 20 14 [l0, l1, l2] st m Q) := kJ_if d20_11 rfl (fun h => kJ_next d20_11 h) (fun h => kJ_next d20_11 h)
theorem d20_14 : decode (mB 20) 14 = .ok (.aload_n 0, 1) := by decide +kernel
theorem s20_14 {l1 l2 : Option Value} {st : List Value} {x : Nat} {m : kMem} {Q : Option Value → kMem → Prop} : kJ 20 14 [some (.ref x), l1, l2] st m Q = kJ 20 15 [some (.ref x), l1, l2] (.ref x :: st) m Q := kJ_next d20_14 rfl
theorem d20_15 : decode (mB 20) 15 = .ok (.invokevirtual 98, 3) := by decide +kernel
theorem s20_15 {l0 l1 l2 : Option Value} {v0 : Nat} {m : kMem} {Q : Option Value → kMem → Prop} (h : kIs m.2.2.2 v0 1 = true) : kJ 20 15 [l0, l1, l2] [.ref v0] m Q = kJ 23 0 [some (.ref v0), none, none, none] [] m (fun v m2 => kJ 20 18 [l0, l1, l2] (v.toList ++ []) m2 Q) := kJ_call d20_15 (kg_callv 23 0 rfl rfl rfl rfl (Nat.le_of_ble_eq_true rfl) (Nat.le_of_ble_eq_true rfl) (Nat.le_of_ble_eq_true rfl) h rfl)
theorem d20_18 : decode (mB 20) 18 = .ok (.pop, 1) := by decide +kernel
theorem s20_18 {l0 l1 l2 : Option Value} {st : List Value} {a : Int32} {m : kMem} {Q : Option Value → kMem → Prop} : kJ 20 18 [l0, l1, l2] (.int a :: st) m Q = kJ 20 19 [l0, l1, l2] st m Q := kJ_next d20_18 rfl
theorem d20_19 : decode (mB 20) 19 = .ok (.iinc 2 1, 3) := by decide +kernel
theorem s20_19 {l0 l1 : Option Value} {st : List Value} {x : Int32} {m : kMem} {Q : Option Value → kMem → Prop} (hp : kNL l1 = true) : kJ 20 19 [l0, l1, some (.int x)] st m Q = kJ 20 22 [l0, l1, some (.int (x + (nI 1)))] st m Q := kJ_next d20_19 (kg_inc rfl (Nat.le_of_ble_eq_true rfl) hp)
theorem d20_22 : decode (mB 20) 22 = .ok (.goto (-20), 3) := by decide +kernel
theorem s20_22 {l0 l1 l2 : Option Value} {st : List Value} {m : kMem} {Q : Option Value → kMem → Prop} : kJ 20 22 [l0, l1, l2] st m Q = kJ 20 2 [l0, l1, l2] st m Q := kJ_next d20_22 rfl
theorem d20_25 : decode (mB 20) 25 = .ok (.aload_n 0, 1) := by decide +kernel
theorem s20_25 {l1 l2 : Option Value} {st : List Value} {x : Nat} {m : kMem} {Q : Option Value → kMem → Prop} : kJ 20 25 [some (.ref x), l1, l2] st m Q = kJ 20 26 [some (.ref x), l1, l2] (.ref x :: st) m Q := kJ_next d20_25 rfl
theorem d20_26 : decode (mB 20) 26 = .ok (.dup, 1) := by decide +kernel
theorem s20_26 {l0 l1 l2 : Option Value} {st : List Value} {a : Nat} {m : kMem} {Q : Option Value → kMem → Prop} : kJ 20 26 [l0, l1, l2] (.ref a :: st) m Q = kJ 20 27 [l0, l1, l2] (.ref a :: .ref a :: st) m Q := kJ_next d20_26 rfl
theorem d20_27 : decode (mB 20) 27 = .ok (.getfield 58, 3) := by decide +kernel
theorem s20_27 {l0 l1 l2 : Option Value} {st : List Value} {q : Nat} {mi : Nat → Nat → Int32} {ml : Nat → Nat → Int64} {mr : Nat → Nat → Option Nat} {nx : Nat} {Q : Option Value → kMem → Prop} (h : kIs nx q 1 = true) : kJ 20 27 [l0, l1, l2] (.ref q :: st) (mi, ml, mr, nx) Q = kJ 20 30 [l0, l1, l2] (.int (mi q 12) :: st) (mi, ml, mr, nx) Q := kJ_next d20_27 (kg_geti 1 12 rfl h (by decide))
theorem d20_30 : decode (mB 20) 30 = .ok (.iload_n 1, 1) := by decide +kernel
theorem s20_30 {l0 l2 : Option Value} {st : List Value} {x : Int32} {m : kMem} {Q : Option Value → kMem → Prop} : kJ 20 30 [l0, some (.int x), l2] st m Q = kJ 20 31 [l0, some (.int x), l2] (.int x :: st) m Q := kJ_next d20_30 rfl
theorem d20_31 : decode (mB 20) 31 = .ok (.iadd, 1) := by decide +kernel
theorem s20_31 {l0 l1 l2 : Option Value} {st : List Value} {a b : Int32} {m : kMem} {Q : Option Value → kMem → Prop} : kJ 20 31 [l0, l1, l2] (.int b :: .int a :: st) m Q = kJ 20 32 [l0, l1, l2] (.int (a + b) :: st) m Q := kJ_next d20_31 rfl
theorem d20_32 : decode (mB 20) 32 = .ok (.putfield 58, 3) := by decide +kernel
theorem s20_32 {l0 l1 l2 : Option Value} {st : List Value} {q : Nat} {x : Int32} {mi : Nat → Nat → Int32} {ml : Nat → Nat → Int64} {mr : Nat → Nat → Option Nat} {nx : Nat} {Q : Option Value → kMem → Prop} (h : kIs nx q 1 = true) : kJ 20 32 [l0, l1, l2] (.int x :: .ref q :: st) (mi, ml, mr, nx) Q = kJ 20 35 [l0, l1, l2] st (kup mi q 12 x, ml, mr, nx) Q := kJ_next d20_32 (kg_puti 1 12 rfl h (by decide) (Or.inl (by decide)))
theorem d20_35 : decode (mB 20) 35 = .ok (.return_, 1) := by decide +kernel
theorem s20_35 {l0 l1 l2 : Option Value} {m : kMem} {Q : Option Value → kMem → Prop} : kJ 20 35 [l0, l1, l2] [] m Q = Q none m := kJ_ret d20_35 rfl
theorem d21_0 : decode (mB 21) 0 = .ok (.aload_n 0, 1) := by decide +kernel
theorem s21_0 {l1 : Option Value} {st : List Value} {x : Nat} {m : kMem} {Q : Option Value → kMem → Prop} : kJ 21 0 [some (.ref x), l1] st m Q = kJ 21 1 [some (.ref x), l1] (.ref x :: st) m Q := kJ_next d21_0 rfl
theorem d21_1 : decode (mB 21) 1 = .ok (.iload_n 1, 1) := by decide +kernel
theorem s21_1 {l0 : Option Value} {st : List Value} {x : Int32} {m : kMem} {Q : Option Value → kMem → Prop} : kJ 21 1 [l0, some (.int x)] st m Q = kJ 21 2 [l0, some (.int x)] (.int x :: st) m Q := kJ_next d21_1 rfl
theorem d21_2 : decode (mB 21) 2 = .ok (.invokevirtual 102, 3) := by decide +kernel
theorem s21_2 {l0 l1 : Option Value} {v0 : Int32} {v1 : Nat} {m : kMem} {Q : Option Value → kMem → Prop} (h : kIs m.2.2.2 v1 1 = true) : kJ 21 2 [l0, l1] [.int v0, .ref v1] m Q = kJ 20 0 [some (.ref v1), some (.int v0), none] [] m (fun v m2 => kJ 21 5 [l0, l1] (v.toList ++ []) m2 Q) := kJ_call d21_2 (kg_callv 20 1 rfl rfl rfl rfl (Nat.le_of_ble_eq_true rfl) (Nat.le_of_ble_eq_true rfl) (Nat.le_of_ble_eq_true rfl) h rfl)
theorem d21_5 : decode (mB 21) 5 = .ok (.aload_n 0, 1) := by decide +kernel
theorem s21_5 {l1 : Option Value} {st : List Value} {x : Nat} {m : kMem} {Q : Option Value → kMem → Prop} : kJ 21 5 [some (.ref x), l1] st m Q = kJ 21 6 [some (.ref x), l1] (.ref x :: st) m Q := kJ_next d21_5 rfl
theorem d21_6 : decode (mB 21) 6 = .ok (.invokevirtual 106, 3) := by decide +kernel
theorem s21_6 {l0 l1 : Option Value} {v0 : Nat} {m : kMem} {Q : Option Value → kMem → Prop} (h : kIs m.2.2.2 v0 1 = true) : kJ 21 6 [l0, l1] [.ref v0] m Q = kJ 15 0 [some (.ref v0)] [] m (fun v m2 => kJ 21 9 [l0, l1] (v.toList ++ []) m2 Q) := kJ_call d21_6 (kg_callv 15 0 rfl rfl rfl rfl (Nat.le_of_ble_eq_true rfl) (Nat.le_of_ble_eq_true rfl) (Nat.le_of_ble_eq_true rfl) h rfl)
theorem d21_9 : decode (mB 21) 9 = .ok (.ireturn, 1) := by decide +kernel
theorem s21_9 {l0 l1 : Option Value} {x : Int32} {m : kMem} {Q : Option Value → kMem → Prop} : kJ 21 9 [l0, l1] [.int x] m Q = Q (some (.int x)) m := kJ_ret d21_9 rfl
theorem d22_0 : decode (mB 22) 0 = .ok (.iconst 0, 1) := by decide +kernel
theorem s22_0 {l0 l1 l2 l3 : Option Value} {st : List Value} {m : kMem} {Q : Option Value → kMem → Prop} : kJ 22 0 [l0, l1, l2, l3] st m Q = kJ 22 1 [l0, l1, l2, l3] (.int (nI 0) :: st) m Q := kJ_next d22_0 rfl
theorem d22_1 : decode (mB 22) 1 = .ok (.istore_n 2, 1) := by decide +kernel
theorem s22_1 {l0 l1 l2 l3 : Option Value} {st : List Value} {x : Int32} {m : kMem} {Q : Option Value → kMem → Prop} (hp : kNL l1 = true) : kJ 22 1 [l0, l1, l2, l3] (.int x :: st) m Q = kJ 22 2 [l0, l1, some (.int x), l3] st m Q := kJ_next d22_1 (kg_sti (Nat.le_of_ble_eq_true rfl) hp)
theorem d22_2 : decode (mB 22) 2 = .ok (.iconst 0, 1) := by decide +kernel
theorem s22_2 {l0 l1 l2 l3 : Option Value} {st : List Value} {m : kMem} {Q : Option Value → kMem → Prop} : kJ 22 2 [l0, l1, l2, l3] st m Q = kJ 22 3 [l0, l1, l2, l3] (.int (nI 0) :: st) m Q := kJ_next d22_2 rfl
theorem d22_3 : decode (mB 22) 3 = .ok (.istore_n 3, 1) := by decide +kernel
theorem s22_3 {l0 l1 l2 l3 : Option Value} {st : List Value} {x : Int32} {m : kMem} {Q : Option Value → kMem → Prop} (hp : kNL l2 = true) : kJ 22 3 [l0, l1, l2, l3] (.int x :: st) m Q = kJ 22 4 [l0, l1, l2, some (.int x)] st m Q := kJ_next d22_3 (kg_sti (Nat.le_of_ble_eq_true rfl) hp)
theorem d22_4 : decode (mB 22) 4 = .ok (.iload_n 3, 1) := by decide +kernel
theorem s22_4 {l0 l1 l2 : Option Value} {st : List Value} {x : Int32} {m : kMem} {Q : Option Value → kMem → Prop} : kJ 22 4 [l0, l1, l2, some (.int x)] st m Q = kJ 22 5 [l0, l1, l2, some (.int x)] (.int x :: st) m Q := kJ_next d22_4 rfl
theorem d22_5 : decode (mB 22) 5 = .ok (.iload_n 1, 1) := by decide +kernel
theorem s22_5 {l0 l2 l3 : Option Value} {st : List Value} {x : Int32} {m : kMem} {Q : Option Value → kMem → Prop} : kJ 22 5 [l0, some (.int x), l2, l3] st m Q = kJ 22 6 [l0, some (.int x), l2, l3] (.int x :: st) m Q := kJ_next d22_5 rfl
theorem d22_6 : decode (mB 22) 6 = .ok (.if_icmp .ge 19, 3) := by decide +kernel
theorem s22_6 {l0 l1 l2 l3 : Option Value} {st : List Value} {a b : Int32} {m : kMem} {Q : Option Value → kMem → Prop} : kJ 22 6 [l0, l1, l2, l3] (.int b :: .int a :: st) m Q = (if b ≤ a then kJ 22 25 [l0, l1, l2, l3] st m Q else kJ 22 9 [l0, l1, l2, l3] st m Q) := kJ_if d22_6 rfl (fun h => kJ_next d22_6 h) (fun h => kJ_next d22_6 h)
theorem d22_9 : decode (mB 22) 9 = .ok (.aload_n 0, 1) := by decide +kernel
theorem s22_9 {l1 l2 l3 : Option Value} {st : List Value} {x : Nat} {m : kMem} {Q : Option Value → kMem → Prop} : kJ 22 9 [some (.ref x), l1, l2, l3] st m Q = kJ 22 10 [some (.ref x), l1, l2, l3] (.ref x :: st) m Q := kJ_next d22_9 rfl
theorem d22_10 : decode (mB 22) 10 = .ok (.invokevirtual 98, 3) := by decide +kernel
theorem s22_10 {l0 l1 l2 l3 : Option Value} {v0 : Nat} {m : kMem} {Q : Option Value → kMem → Prop} (h : kIs m.2.2.2 v0 1 = true) : kJ 22 10 [l0, l1, l2, l3] [.ref v0] m Q = kJ 23 0 [some (.ref v0), none, none, none] [] m (fun v m2 => kJ 22 13 [l0, l1, l2, l3] (v.toList ++ []) m2 Q) := kJ_call d22_10 (kg_callv 23 0 rfl rfl rfl rfl (Nat.le_of_ble_eq_true rfl) (Nat.le_of_ble_eq_true rfl) (Nat.le_of_ble_eq_true rfl) h rfl)
theorem d22_13 : decode (mB 22) 13 = .ok (.ifCond .ne 6, 3) := by decide +kernel
theorem s22_13 {l0 l1 l2 l3 : Option Value} {st : List Value} {a : Int32} {m : kMem} {Q : Option Value → kMem → Prop} : kJ 22 13 [l0, l1, l2, l3] (.int a :: st) m Q = (if a = 0 then kJ 22 16 [l0, l1, l2, l3] st m Q else kJ 22 19 [l0, l1, l2, l3] st m Q) := kJ_if d22_13 rfl (fun h => kJ_next d22_13 h) (fun h => kJ_next d22_13 h)
theorem d22_16 : decode (mB 22) 16 = .ok (.iinc 2 1, 3) := by decide +kernel
theorem s22_16 {l0 l1 l3 : Option Value} {st : List Value} {x : Int32} {m : kMem} {Q : Option Value → kMem → Prop} (hp : kNL l1 = true) : kJ 22 16 [l0, l1, some (.int x), l3] st m Q = kJ 22 19 [l0, l1, some (.int (x + (nI 1))), l3] st m Q := kJ_next d22_16 (kg_inc rfl (Nat.le_of_ble_eq_true rfl) hp)
theorem d22_19 : decode (mB 22) 19 = .ok (.iinc 3 1, 3) := by decide +kernel
theorem s22_19 {l0 l1 l2 : Option Value} {st : List Value} {x : Int32} {m : kMem} {Q : Option Value → kMem → Prop} (hp : kNL l2 = true) : kJ 22 19 [l0, l1, l2, some (.int x)] st m Q = kJ 22 22 [l0, l1, l2, some (.int (x + (nI 1)))] st m Q := kJ_next d22_19 (kg_inc rfl (Nat.le_of_ble_eq_true rfl) hp)
theorem d22_22 : decode (mB 22) 22 = .ok (.goto (-18), 3) := by decide +kernel
theorem s22_22 {l0 l1 l2 l3 : Option Value} {st : List Value} {m : kMem} {Q : Option Value → kMem → Prop} : kJ 22 22 [l0, l1, l2, l3] st m Q = kJ 22 4 [l0, l1, l2, l3] st m Q := kJ_next d22_22 rfl
theorem d22_25 : decode (mB 22) 25 = .ok (.iload_n 2, 1) := by decide +kernel
theorem s22_25 {l0 l1 l3 : Option Value} {st : List Value} {x : Int32} {m : kMem} {Q : Option Value → kMem → Prop} : kJ 22 25 [l0, l1, some (.int x), l3] st m Q = kJ 22 26 [l0, l1, some (.int x), l3] (.int x :: st) m Q := kJ_next d22_25 rfl
theorem d22_26 : decode (mB 22) 26 = .ok (.ireturn, 1) := by decide +kernel
theorem s22_26 {l0 l1 l2 l3 : Option Value} {x : Int32} {m : kMem} {Q : Option Value → kMem → Prop} : kJ 22 26 [l0, l1, l2, l3] [.int x] m Q = Q (some (.int x)) m := kJ_ret d22_26 rfl
theorem d23_0 : decode (mB 23) 0 = .ok (.iconst 0, 1) := by decide +kernel
theorem s23_0 {l0 l1 l2 l3 : Option Value} {st : List Value} {m : kMem} {Q : Option Value → kMem → Prop} : kJ 23 0 [l0, l1, l2, l3] st m Q = kJ 23 1 [l0, l1, l2, l3] (.int (nI 0) :: st) m Q := kJ_next d23_0 rfl
theorem d23_1 : decode (mB 23) 1 = .ok (.istore_n 1, 1) := by decide +kernel
theorem s23_1 {l0 l1 l2 l3 : Option Value} {st : List Value} {x : Int32} {m : kMem} {Q : Option Value → kMem → Prop} (hp : kNL l0 = true) : kJ 23 1 [l0, l1, l2, l3] (.int x :: st) m Q = kJ 23 2 [l0, some (.int x), l2, l3] st m Q := kJ_next d23_1 (kg_sti (Nat.le_of_ble_eq_true rfl) hp)
theorem d23_2 : decode (mB 23) 2 = .ok (.iconst 0, 1) := by decide +kernel
theorem s23_2 {l0 l1 l2 l3 : Option Value} {st : List Value} {m : kMem} {Q : Option Value → kMem → Prop} : kJ 23 2 [l0, l1, l2, l3] st m Q = kJ 23 3 [l0, l1, l2, l3] (.int (nI 0) :: st) m Q := kJ_next d23_2 rfl
theorem d23_3 : decode (mB 23) 3 = .ok (.istore_n 2, 1) := by decide +kernel
theorem s23_3 {l0 l1 l2 l3 : Option Value} {st : List Value} {x : Int32} {m : kMem} {Q : Option Value → kMem → Prop} (hp : kNL l1 = true) : kJ 23 3 [l0, l1, l2, l3] (.int x :: st) m Q = kJ 23 4 [l0, l1, some (.int x), l3] st m Q := kJ_next d23_3 (kg_sti (Nat.le_of_ble_eq_true rfl) hp)
theorem d23_4 : decode (mB 23) 4 = .ok (.iload_n 2, 1) := by decide +kernel
theorem s23_4 {l0 l1 l3 : Option Value} {st : List Value} {x : Int32} {m : kMem} {Q : Option Value → kMem → Prop} : kJ 23 4 [l0, l1, some (.int x), l3] st m Q = kJ 23 5 [l0, l1, some (.int x), l3] (.int x :: st) m Q := kJ_next d23_4 rfl
theorem d23_5 : decode (mB 23) 5 = .ok (.aload_n 0, 1) := by decide +kernel
theorem s23_5 {l1 l2 l3 : Option Value} {st : List Value} {x : Nat} {m : kMem} {Q : Option Value → kMem → Prop} : kJ 23 5 [some (.ref x), l1, l2, l3] st m Q = kJ 23 6 [some (.ref x), l1, l2, l3] (.ref x :: st) m Q := kJ_next d23_5 rfl
theorem d23_6 : decode (mB 23) 6 = .ok (.getfield 55, 3) := by decide +kernel
theorem s23_6 {l0 l1 l2 l3 : Option Value} {st : List Value} {q : Nat} {mi : Nat → Nat → Int32} {ml : Nat → Nat → Int64} {mr : Nat → Nat → Option Nat} {nx : Nat} {Q : Option Value → kMem → Prop} (h : kIs nx q 1 = true) : kJ 23 6 [l0, l1, l2, l3] (.ref q :: st) (mi, ml, mr, nx) Q = kJ 23 9 [l0, l1, l2, l3] (.int (mi q 4) :: st) (mi, ml, mr, nx) Q := kJ_next d23_6 (kg_geti 1 4 rfl h (by decide))
theorem d23_9 : decode (mB 23) 9 = .ok (.if_icmp .ge 63, 3) := by decide +kernel
theorem s23_9 {l0 l1 l2 l3 : Option Value} {st : List Value} {a b : Int32} {m : kMem} {Q : Option Value → kMem → Prop} : kJ 23 9 [l0, l1, l2, l3] (.int b :: .int a :: st) m Q = (if b ≤ a then kJ 23 72 [l0, l1, l2, l3] st m Q else kJ 23 12 [l0, l1, l2, l3] st m Q) := kJ_if d23_9 rfl (fun h => kJ_next d23_9 h) (fun h => kJ_next d23_9 h)
theorem d23_12 : decode (mB 23) 12 = .ok (.aload_n 0, 1) := by decide +kernel
theorem s23_12 {l1 l2 l3 : Option Value} {st : List Value} {x : Nat} {m : kMem} {Q : Option Value → kMem → Prop} : kJ 23 12 [some (.ref x), l1, l2, l3] st m Q = kJ 23 13 [some (.ref x), l1, l2, l3] (.ref x :: st) m Q := kJ_next d23_12 rfl
theorem d23_13 : decode (mB 23) 13 = .ok (.iload_n 2, 1) := by decide +kernel
theorem s23_13 {l0 l1 l3 : Option Value} {st : List Value} {x : Int32} {m : kMem} {Q : Option Value → kMem → Prop} : kJ 23 13 [l0, l1, some (.int x), l3] st m Q = kJ 23 14 [l0, l1, some (.int x), l3] (.int x :: st) m Q := kJ_next d23_13 rfl
theorem d23_14 : decode (mB 23) 14 = .ok (.invokevirtual 78, 3) := by decide +kernel
theorem s23_14 {l0 l1 l2 l3 : Option Value} {v0 : Int32} {v1 : Nat} {m : kMem} {Q : Option Value → kMem → Prop} (h : kIs m.2.2.2 v1 1 = true) : kJ 23 14 [l0, l1, l2, l3] [.int v0, .ref v1] m Q = kJ 9 0 [some (.ref v1), some (.int v0)] [] m (fun v m2 => kJ 23 17 [l0, l1, l2, l3] (v.toList ++ []) m2 Q) := kJ_call d23_14 (kg_callv 9 1 rfl rfl rfl rfl (Nat.le_of_ble_eq_true rfl) (Nat.le_of_ble_eq_true rfl) (Nat.le_of_ble_eq_true rfl) h rfl)
theorem d23_17 : decode (mB 23) 17 = .ok (.ifCond .eq 49, 3) := by decide +kernel
theorem s23_17 {l0 l1 l2 l3 : Option Value} {st : List Value} {a : Int32} {m : kMem} {Q : Option Value → kMem → Prop} : kJ 23 17 [l0, l1, l2, l3] (.int a :: st) m Q = (if a = 0 then kJ 23 66 [l0, l1, l2, l3] st m Q else kJ 23 20 [l0, l1, l2, l3] st m Q) := kJ_if d23_17 rfl (fun h => kJ_next d23_17 h) (fun h => kJ_next d23_17 h)
theorem d23_20 : decode (mB 23) 20 = .ok (.aload_n 0, 1) := by decide +kernel
theorem s23_20 {l1 l2 l3 : Option Value} {st : List Value} {x : Nat} {m : kMem} {Q : Option Value → kMem → Prop} : kJ 23 20 [some (.ref x), l1, l2, l3] st m Q = kJ 23 21 [some (.ref x), l1, l2, l3] (.ref x :: st) m Q := kJ_next d23_20 rfl
theorem d23_21 : decode (mB 23) 21 = .ok (.getfield 15, 3) := by decide +kernel
theorem s23_21 {l0 l1 l2 l3 : Option Value} {st : List Value} {q : Nat} {mi : Nat → Nat → Int32} {ml : Nat → Nat → Int64} {mr : Nat → Nat → Option Nat} {nx : Nat} {Q : Option Value → kMem → Prop} (h : kIs nx q 1 = true) : kJ 23 21 [l0, l1, l2, l3] (.ref q :: st) (mi, ml, mr, nx) Q = kJ 23 24 [l0, l1, l2, l3] (va_rf (mr q 2) :: st) (mi, ml, mr, nx) Q := kJ_next d23_21 (kg_getr 1 2 rfl h (by decide))
theorem d23_24 : decode (mB 23) 24 = .ok (.aload_n 0, 1) := by decide +kernel
theorem s23_24 {l1 l2 l3 : Option Value} {st : List Value} {x : Nat} {m : kMem} {Q : Option Value → kMem → Prop} : kJ 23 24 [some (.ref x), l1, l2, l3] st m Q = kJ 23 25 [some (.ref x), l1, l2, l3] (.ref x :: st) m Q := kJ_next d23_24 rfl
theorem d23_25 : decode (mB 23) 25 = .ok (.iload_n 2, 1) := by decide +kernel
theorem s23_25 {l0 l1 l3 : Option Value} {st : List Value} {x : Int32} {m : kMem} {Q : Option Value → kMem → Prop} : kJ 23 25 [l0, l1, some (.int x), l3] st m Q = kJ 23 26 [l0, l1, some (.int x), l3] (.int x :: st) m Q := kJ_next d23_25 rfl
theorem d23_26 : decode (mB 23) 26 = .ok (.invokevirtual 82, 3) := by decide +kernel
theorem s23_26 {l0 l1 l2 l3 : Option Value} {v0 : Int32} {v1 : Nat} {v2 : Nat} {m : kMem} {Q : Option Value → kMem → Prop} (h : kIs m.2.2.2 v1 1 = true) : kJ 23 26 [l0, l1, l2, l3] [.int v0, .ref v1, .ref v2] m Q = kJ 10 0 [some (.ref v1), some (.int v0)] [] m (fun v m2 => kJ 23 29 [l0, l1, l2, l3] (v.toList ++ [.ref v2]) m2 Q) := kJ_call d23_26 (kg_callv 10 1 rfl rfl rfl rfl (Nat.le_of_ble_eq_true rfl) (Nat.le_of_ble_eq_true rfl) (Nat.le_of_ble_eq_true rfl) h rfl)
theorem d23_29 : decode (mB 23) 29 = .ok (.iaload, 1) := by decide +kernel
theorem s23_29 {l0 l1 l2 l3 : Option Value} {st : List Value} {q : Nat} {i : Int32} {mi : Nat → Nat → Int32} {ml : Nat → Nat → Int64} {mr : Nat → Nat → Option Nat} {nx : Nat} {Q : Option Value → kMem → Prop} (h : kIs nx q 10 = true) : kJ 23 29 [l0, l1, l2, l3] (.int i :: .ref q :: st) (mi, ml, mr, nx) Q = (vp_in i (kAl q) ∧ kJ 23 30 [l0, l1, l2, l3] (.int (mi q i.toNatClampNeg) :: st) (mi, ml, mr, nx) Q) := kg_aldJ d23_29 rfl (kAr_of h)
theorem d23_30 : decode (mB 23) 30 = .ok (.istore_n 3, 1) := by decide +kernel
theorem s23_30 {l0 l1 l2 l3 : Option Value} {st : List Value} {x : Int32} {m : kMem} {Q : Option Value → kMem → Prop} (hp : kNL l2 = true) : kJ 23 30 [l0, l1, l2, l3] (.int x :: st) m Q = kJ 23 31 [l0, l1, l2, some (.int x)] st m Q := kJ_next d23_30 (kg_sti (Nat.le_of_ble_eq_true rfl) hp)
theorem d23_31 : decode (mB 23) 31 = .ok (.aload_n 0, 1) := by decide +kernel
theorem s23_31 {l1 l2 l3 : Option Value} {st : List Value} {x : Nat} {m : kMem} {Q : Option Value → kMem → Prop} : kJ 23 31 [some (.ref x), l1, l2, l3] st m Q = kJ 23 32 [some (.ref x), l1, l2, l3] (.ref x :: st) m Q := kJ_next d23_31 rfl
theorem d23_32 : decode (mB 23) 32 = .ok (.getfield 33, 3) := by decide +kernel
theorem s23_32 {l0 l1 l2 l3 : Option Value} {st : List Value} {q : Nat} {mi : Nat → Nat → Int32} {ml : Nat → Nat → Int64} {mr : Nat → Nat → Option Nat} {nx : Nat} {Q : Option Value → kMem → Prop} (h : kIs nx q 1 = true) : kJ 23 32 [l0, l1, l2, l3] (.ref q :: st) (mi, ml, mr, nx) Q = kJ 23 35 [l0, l1, l2, l3] (va_rf (mr q 9) :: st) (mi, ml, mr, nx) Q := kJ_next d23_32 (kg_getr 1 9 rfl h (by decide))
theorem d23_35 : decode (mB 23) 35 = .ok (.iload_n 2, 1) := by decide +kernel
theorem s23_35 {l0 l1 l3 : Option Value} {st : List Value} {x : Int32} {m : kMem} {Q : Option Value → kMem → Prop} : kJ 23 35 [l0, l1, some (.int x), l3] st m Q = kJ 23 36 [l0, l1, some (.int x), l3] (.int x :: st) m Q := kJ_next d23_35 rfl
theorem d23_36 : decode (mB 23) 36 = .ok (.aload_n 0, 1) := by decide +kernel
theorem s23_36 {l1 l2 l3 : Option Value} {st : List Value} {x : Nat} {m : kMem} {Q : Option Value → kMem → Prop} : kJ 23 36 [some (.ref x), l1, l2, l3] st m Q = kJ 23 37 [some (.ref x), l1, l2, l3] (.ref x :: st) m Q := kJ_next d23_36 rfl
theorem d23_37 : decode (mB 23) 37 = .ok (.aload_n 0, 1) := by decide +kernel
theorem s23_37 {l1 l2 l3 : Option Value} {st : List Value} {x : Nat} {m : kMem} {Q : Option Value → kMem → Prop} : kJ 23 37 [some (.ref x), l1, l2, l3] st m Q = kJ 23 38 [some (.ref x), l1, l2, l3] (.ref x :: st) m Q := kJ_next d23_37 rfl
theorem d23_38 : decode (mB 23) 38 = .ok (.getfield 33, 3) := by decide +kernel
theorem s23_38 {l0 l1 l2 l3 : Option Value} {st : List Value} {q : Nat} {mi : Nat → Nat → Int32} {ml : Nat → Nat → Int64} {mr : Nat → Nat → Option Nat} {nx : Nat} {Q : Option Value → kMem → Prop} (h : kIs nx q 1 = true) : kJ 23 38 [l0, l1, l2, l3] (.ref q :: st) (mi, ml, mr, nx) Q = kJ 23 41 [l0, l1, l2, l3] (va_rf (mr q 9) :: st) (mi, ml, mr, nx) Q := kJ_next d23_38 (kg_getr 1 9 rfl h (by decide))
theorem d23_41 : decode (mB 23) 41 = .ok (.iload_n 2, 1) := by decide +kernel
theorem s23_41 {l0 l1 l3 : Option Value} {st : List Value} {x : Int32} {m : kMem} {Q : Option Value → kMem → Prop} : kJ 23 41 [l0, l1, some (.int x), l3] st m Q = kJ 23 42 [l0, l1, some (.int x), l3] (.int x :: st) m Q := kJ_next d23_41 rfl
theorem d23_42 : decode (mB 23) 42 = .ok (.iaload, 1) := by decide +kernel
theorem s23_42 {l0 l1 l2 l3 : Option Value} {st : List Value} {q : Nat} {i : Int32} {mi : Nat → Nat → Int32} {ml : Nat → Nat → Int64} {mr : Nat → Nat → Option Nat} {nx : Nat} {Q : Option Value → kMem → Prop} (h : kIs nx q 10 = true) : kJ 23 42 [l0, l1, l2, l3] (.int i :: .ref q :: st) (mi, ml, mr, nx) Q = (vp_in i (kAl q) ∧ kJ 23 43 [l0, l1, l2, l3] (.int (mi q i.toNatClampNeg) :: st) (mi, ml, mr, nx) Q) := kg_aldJ d23_42 rfl (kAr_of h)
theorem d23_43 : decode (mB 23) 43 = .ok (.iload_n 3, 1) := by decide +kernel
theorem s23_43 {l0 l1 l2 : Option Value} {st : List Value} {x : Int32} {m : kMem} {Q : Option Value → kMem → Prop} : kJ 23 43 [l0, l1, l2, some (.int x)] st m Q = kJ 23 44 [l0, l1, l2, some (.int x)] (.int x :: st) m Q := kJ_next d23_43 rfl
theorem d23_44 : decode (mB 23) 44 = .ok (.invokevirtual 109, 3) := by decide +kernel
theorem s23_44 {l0 l1 l2 l3 : Option Value} {v0 : Int32} {v1 : Int32} {v2 : Nat} {v3 : Int32} {v4 : Nat} {m : kMem} {Q : Option Value → kMem → Prop} (h : kIs m.2.2.2 v2 1 = true) : kJ 23 44 [l0, l1, l2, l3] [.int v0, .int v1, .ref v2, .int v3, .ref v4] m Q = kJ 24 0 [some (.ref v2), some (.int v1), some (.int v0)] [] m (fun v m2 => kJ 23 47 [l0, l1, l2, l3] (v.toList ++ [.int v3, .ref v4]) m2 Q) := kJ_call d23_44 (kg_callv 24 2 rfl rfl rfl rfl (Nat.le_of_ble_eq_true rfl) (Nat.le_of_ble_eq_true rfl) (Nat.le_of_ble_eq_true rfl) h rfl)
theorem d23_47 : decode (mB 23) 47 = .ok (.iastore, 1) := by decide +kernel
theorem s23_47 {l0 l1 l2 l3 : Option Value} {st : List Value} {q : Nat} {i x : Int32} {mi : Nat → Nat → Int32} {ml : Nat → Nat → Int64} {mr : Nat → Nat → Option Nat} {nx : Nat} {Q : Option Value → kMem → Prop} (h : kIs nx q 10 = true) : kJ 23 47 [l0, l1, l2, l3] (.int x :: .int i :: .ref q :: st) (mi, ml, mr, nx) Q = (vp_in i (kAl q) ∧ kJ 23 48 [l0, l1, l2, l3] st (kup mi q i.toNatClampNeg x, ml, mr, nx) Q) := kg_astJ d23_47 rfl (kAr_of h)
theorem d23_48 : decode (mB 23) 48 = .ok (.aload_n 0, 1) := by decide +kernel
theorem s23_48 {l1 l2 l3 : Option Value} {st : List Value} {x : Nat} {m : kMem} {Q : Option Value → kMem → Prop} : kJ 23 48 [some (.ref x), l1, l2, l3] st m Q = kJ 23 49 [some (.ref x), l1, l2, l3] (.ref x :: st) m Q := kJ_next d23_48 rfl
theorem d23_49 : decode (mB 23) 49 = .ok (.getfield 33, 3) := by decide +kernel
theorem s23_49 {l0 l1 l2 l3 : Option Value} {st : List Value} {q : Nat} {mi : Nat → Nat → Int32} {ml : Nat → Nat → Int64} {mr : Nat → Nat → Option Nat} {nx : Nat} {Q : Option Value → kMem → Prop} (h : kIs nx q 1 = true) : kJ 23 49 [l0, l1, l2, l3] (.ref q :: st) (mi, ml, mr, nx) Q = kJ 23 52 [l0, l1, l2, l3] (va_rf (mr q 9) :: st) (mi, ml, mr, nx) Q := kJ_next d23_49 (kg_getr 1 9 rfl h (by decide))
theorem d23_52 : decode (mB 23) 52 = .ok (.iload_n 2, 1) := by decide +kernel
theorem s23_52 {l0 l1 l3 : Option Value} {st : List Value} {x : Int32} {m : kMem} {Q : Option Value → kMem → Prop} : kJ 23 52 [l0, l1, some (.int x), l3] st m Q = kJ 23 53 [l0, l1, some (.int x), l3] (.int x :: st) m Q := kJ_next d23_52 rfl
theorem d23_53 : decode (mB 23) 53 = .ok (.iaload, 1) := by decide +kernel
theorem s23_53 {l0 l1 l2 l3 : Option Value} {st : List Value} {q : Nat} {i : Int32} {mi : Nat → Nat → Int32} {ml : Nat → Nat → Int64} {mr : Nat → Nat → Option Nat} {nx : Nat} {Q : Option Value → kMem → Prop} (h : kIs nx q 10 = true) : kJ 23 53 [l0, l1, l2, l3] (.int i :: .ref q :: st) (mi, ml, mr, nx) Q = (vp_in i (kAl q) ∧ kJ 23 54 [l0, l1, l2, l3] (.int (mi q i.toNatClampNeg) :: st) (mi, ml, mr, nx) Q) := kg_aldJ d23_53 rfl (kAr_of h)
theorem d23_54 : decode (mB 23) 54 = .ok (.iload_n 3, 1) := by decide +kernel
theorem s23_54 {l0 l1 l2 : Option Value} {st : List Value} {x : Int32} {m : kMem} {Q : Option Value → kMem → Prop} : kJ 23 54 [l0, l1, l2, some (.int x)] st m Q = kJ 23 55 [l0, l1, l2, some (.int x)] (.int x :: st) m Q := kJ_next d23_54 rfl
theorem d23_55 : decode (mB 23) 55 = .ok (.if_icmp .ne 11, 3) := by decide +kernel
theorem s23_55 {l0 l1 l2 l3 : Option Value} {st : List Value} {a b : Int32} {m : kMem} {Q : Option Value → kMem → Prop} : kJ 23 55 [l0, l1, l2, l3] (.int b :: .int a :: st) m Q = (if a = b then kJ 23 58 [l0, l1, l2, l3] st m Q else kJ 23 66 [l0, l1, l2, l3] st m Q) := kJ_if d23_55 rfl (fun h => kJ_next d23_55 h) (fun h => kJ_next d23_55 h)
theorem d23_58 : decode (mB 23) 58 = .ok (.aload_n 0, 1) := by decide +kernel
theorem s23_58 {l1 l2 l3 : Option Value} {st : List Value} {x : Nat} {m : kMem} {Q : Option Value → kMem → Prop} : kJ 23 58 [some (.ref x), l1, l2, l3] st m Q = kJ 23 59 [some (.ref x), l1, l2, l3] (.ref x :: st) m Q := kJ_next d23_58 rfl
theorem d23_59 : decode (mB 23) 59 = .ok (.iload_n 2, 1) := by decide +kernel
theorem s23_59 {l0 l1 l3 : Option Value} {st : List Value} {x : Int32} {m : kMem} {Q : Option Value → kMem → Prop} : kJ 23 59 [l0, l1, some (.int x), l3] st m Q = kJ 23 60 [l0, l1, some (.int x), l3] (.int x :: st) m Q := kJ_next d23_59 rfl
theorem d23_60 : decode (mB 23) 60 = .ok (.invokevirtual 113, 3) := by decide +kernel
theorem s23_60 {l0 l1 l2 l3 : Option Value} {v0 : Int32} {v1 : Nat} {m : kMem} {Q : Option Value → kMem → Prop} (h : kIs m.2.2.2 v1 1 = true) : kJ 23 60 [l0, l1, l2, l3] [.int v0, .ref v1] m Q = kJ 25 0 [some (.ref v1), some (.int v0), none, none, none] [] m (fun v m2 => kJ 23 63 [l0, l1, l2, l3] (v.toList ++ []) m2 Q) := kJ_call d23_60 (kg_callv 25 1 rfl rfl rfl rfl (Nat.le_of_ble_eq_true rfl) (Nat.le_of_ble_eq_true rfl) (Nat.le_of_ble_eq_true rfl) h rfl)
theorem d23_63 : decode (mB 23) 63 = .ok (.iinc 1 1, 3) := by decide +kernel
theorem s23_63 {l0 l2 l3 : Option Value} {st : List Value} {x : Int32} {m : kMem} {Q : Option Value → kMem → Prop} (hp : kNL l0 = true) : kJ 23 63 [l0, some (.int x), l2, l3] st m Q = kJ 23 66 [l0, some (.int (x + (nI 1))), l2, l3] st m Q := kJ_next d23_63 (kg_inc rfl (Nat.le_of_ble_eq_true rfl) hp)
theorem d23_66 : decode (mB 23) 66 = .ok (.iinc 2 1, 3) := by decide +kernel
theorem s23_66 {l0 l1 l3 : Option Value} {st : List Value} {x : Int32} {m : kMem} {Q : Option Value → kMem → Prop} (hp : kNL l1 = true) : kJ 23 66 [l0, l1, some (.int x), l3] st m Q = kJ 23 69 [l0, l1, some (.int (x + (nI 1))), l3] st m Q := kJ_next d23_66 (kg_inc rfl (Nat.le_of_ble_eq_true rfl) hp)
theorem d23_69 : decode (mB 23) 69 = .ok (.goto (-65), 3) := by decide +kernel
theorem s23_69 {l0 l1 l2 l3 : Option Value} {st : List Value} {m : kMem} {Q : Option Value → kMem → Prop} : kJ 23 69 [l0, l1, l2, l3] st m Q = kJ 23 4 [l0, l1, l2, l3] st m Q := kJ_next d23_69 rfl
theorem d23_72 : decode (mB 23) 72 = .ok (.iload_n 1, 1) := by decide +kernel
theorem s23_72 {l0 l2 l3 : Option Value} {st : List Value} {x : Int32} {m : kMem} {Q : Option Value → kMem → Prop} : kJ 23 72 [l0, some (.int x), l2, l3] st m Q = kJ 23 73 [l0, some (.int x), l2, l3] (.int x :: st) m Q := kJ_next d23_72 rfl
theorem d23_73 : decode (mB 23) 73 = .ok (.ireturn, 1) := by decide +kernel
theorem s23_73 {l0 l1 l2 l3 : Option Value} {x : Int32} {m : kMem} {Q : Option Value → kMem → Prop} : kJ 23 73 [l0, l1, l2, l3] [.int x] m Q = Q (some (.int x)) m := kJ_ret d23_73 rfl
theorem d24_0 : decode (mB 24) 0 = .ok (.iload_n 1, 1) := by decide +kernel
theorem s24_0 {l0 l2 : Option Value} {st : List Value} {x : Int32} {m : kMem} {Q : Option Value → kMem → Prop} : kJ 24 0 [l0, some (.int x), l2] st m Q = kJ 24 1 [l0, some (.int x), l2] (.int x :: st) m Q := kJ_next d24_0 rfl
theorem d24_1 : decode (mB 24) 1 = .ok (.iload_n 2, 1) := by decide +kernel
theorem s24_1 {l0 l1 : Option Value} {st : List Value} {x : Int32} {m : kMem} {Q : Option Value → kMem → Prop} : kJ 24 1 [l0, l1, some (.int x)] st m Q = kJ 24 2 [l0, l1, some (.int x)] (.int x :: st) m Q := kJ_next d24_1 rfl
theorem d24_2 : decode (mB 24) 2 = .ok (.if_icmp .ge 14, 3) := by decide +kernel
theorem s24_2 {l0 l1 l2 : Option Value} {st : List Value} {a b : Int32} {m : kMem} {Q : Option Value → kMem → Prop} : kJ 24 2 [l0, l1, l2] (.int b :: .int a :: st) m Q = (if b ≤ a then kJ 24 16 [l0, l1, l2] st m Q else kJ 24 5 [l0, l1, l2] st m Q) := kJ_if d24_2 rfl (fun h => kJ_next d24_2 h) (fun h => kJ_next d24_2 h)
theorem d24_5 : decode (mB 24) 5 = .ok (.iload_n 1, 1) := by decide +kernel
theorem s24_5 {l0 l2 : Option Value} {st : List Value} {x : Int32} {m : kMem} {Q : Option Value → kMem → Prop} : kJ 24 5 [l0, some (.int x), l2] st m Q = kJ 24 6 [l0, some (.int x), l2] (.int x :: st) m Q := kJ_next d24_5 rfl
theorem d24_6 : decode (mB 24) 6 = .ok (.aload_n 0, 1) := by decide +kernel
theorem s24_6 {l1 l2 : Option Value} {st : List Value} {x : Nat} {m : kMem} {Q : Option Value → kMem → Prop} : kJ 24 6 [some (.ref x), l1, l2] st m Q = kJ 24 7 [some (.ref x), l1, l2] (.ref x :: st) m Q := kJ_next d24_6 rfl
theorem d24_7 : decode (mB 24) 7 = .ok (.getfield 39, 3) := by decide +kernel
theorem s24_7 {l0 l1 l2 : Option Value} {st : List Value} {q : Nat} {mi : Nat → Nat → Int32} {ml : Nat → Nat → Int64} {mr : Nat → Nat → Option Nat} {nx : Nat} {Q : Option Value → kMem → Prop} (h : kIs nx q 1 = true) : kJ 24 7 [l0, l1, l2] (.ref q :: st) (mi, ml, mr, nx) Q = kJ 24 10 [l0, l1, l2] (.int (mi q 11) :: st) (mi, ml, mr, nx) Q := kJ_next d24_7 (kg_geti 1 11 rfl h (by decide))
theorem d24_10 : decode (mB 24) 10 = .ok (.iadd, 1) := by decide +kernel
theorem s24_10 {l0 l1 l2 : Option Value} {st : List Value} {a b : Int32} {m : kMem} {Q : Option Value → kMem → Prop} : kJ 24 10 [l0, l1, l2] (.int b :: .int a :: st) m Q = kJ 24 11 [l0, l1, l2] (.int (a + b) :: st) m Q := kJ_next d24_10 rfl
theorem d24_11 : decode (mB 24) 11 = .ok (.iload_n 2, 1) := by decide +kernel
theorem s24_11 {l0 l1 : Option Value} {st : List Value} {x : Int32} {m : kMem} {Q : Option Value → kMem → Prop} : kJ 24 11 [l0, l1, some (.int x)] st m Q = kJ 24 12 [l0, l1, some (.int x)] (.int x :: st) m Q := kJ_next d24_11 rfl
theorem d24_12 : decode (mB 24) 12 = .ok (.invokestatic 116, 3) := by decide +kernel
theorem s24_12 {l0 l1 l2 : Option Value}  {a b : Int32} {m : kMem} {Q : Option Value → kMem → Prop} : kJ 24 12 [l0, l1, l2] [.int b, .int a] m Q = kJ 24 15 [l0, l1, l2] [.int (if b < a then b else a)] m Q := kJ_next d24_12 (kg_min rfl rfl (Nat.le_of_ble_eq_true rfl))
theorem d24_15 : decode (mB 24) 15 = .ok (.ireturn, 1) := by decide +kernel
theorem s24_15 {l0 l1 l2 : Option Value} {x : Int32} {m : kMem} {Q : Option Value → kMem → Prop} : kJ 24 15 [l0, l1, l2] [.int x] m Q = Q (some (.int x)) m := kJ_ret d24_15 rfl
theorem d24_16 : decode (mB 24) 16 = .ok (.iload_n 1, 1) := by decide +kernel
theorem s24_16 {l0 l2 : Option Value} {st : List Value} {x : Int32} {m : kMem} {Q : Option Value → kMem → Prop} : kJ 24 16 [l0, some (.int x), l2] st m Q = kJ 24 17 [l0, some (.int x), l2] (.int x :: st) m Q := kJ_next d24_16 rfl
theorem d24_17 : decode (mB 24) 17 = .ok (.aload_n 0, 1) := by decide +kernel
theorem s24_17 {l1 l2 : Option Value} {st : List Value} {x : Nat} {m : kMem} {Q : Option Value → kMem → Prop} : kJ 24 17 [some (.ref x), l1, l2] st m Q = kJ 24 18 [some (.ref x), l1, l2] (.ref x :: st) m Q := kJ_next d24_17 rfl
theorem d24_18 : decode (mB 24) 18 = .ok (.getfield 39, 3) := by decide +kernel
theorem s24_18 {l0 l1 l2 : Option Value} {st : List Value} {q : Nat} {mi : Nat → Nat → Int32} {ml : Nat → Nat → Int64} {mr : Nat → Nat → Option Nat} {nx : Nat} {Q : Option Value → kMem → Prop} (h : kIs nx q 1 = true) : kJ 24 18 [l0, l1, l2] (.ref q :: st) (mi, ml, mr, nx) Q = kJ 24 21 [l0, l1, l2] (.int (mi q 11) :: st) (mi, ml, mr, nx) Q := kJ_next d24_18 (kg_geti 1 11 rfl h (by decide))
theorem d24_21 : decode (mB 24) 21 = .ok (.isub, 1) := by decide +kernel
theorem s24_21 {l0 l1 l2 : Option Value} {st : List Value} {a b : Int32} {m : kMem} {Q : Option Value → kMem → Prop} : kJ 24 21 [l0, l1, l2] (.int b :: .int a :: st) m Q = kJ 24 22 [l0, l1, l2] (.int (a - b) :: st) m Q := kJ_next d24_21 rfl
theorem d24_22 : decode (mB 24) 22 = .ok (.iload_n 2, 1) := by decide +kernel
theorem s24_22 {l0 l1 : Option Value} {st : List Value} {x : Int32} {m : kMem} {Q : Option Value → kMem → Prop} : kJ 24 22 [l0, l1, some (.int x)] st m Q = kJ 24 23 [l0, l1, some (.int x)] (.int x :: st) m Q := kJ_next d24_22 rfl
theorem d24_23 : decode (mB 24) 23 = .ok (.invokestatic 121, 3) := by decide +kernel
theorem s24_23 {l0 l1 l2 : Option Value}  {a b : Int32} {m : kMem} {Q : Option Value → kMem → Prop} : kJ 24 23 [l0, l1, l2] [.int b, .int a] m Q = kJ 24 26 [l0, l1, l2] [.int (if a < b then b else a)] m Q := kJ_next d24_23 (kg_max rfl rfl (Nat.le_of_ble_eq_true rfl))
theorem d24_26 : decode (mB 24) 26 = .ok (.ireturn, 1) := by decide +kernel
theorem s24_26 {l0 l1 l2 : Option Value} {x : Int32} {m : kMem} {Q : Option Value → kMem → Prop} : kJ 24 26 [l0, l1, l2] [.int x] m Q = Q (some (.int x)) m := kJ_ret d24_26 rfl
theorem d25_0 : decode (mB 25) 0 = .ok (.aload_n 0, 1) := by decide +kernel
theorem s25_0 {l1 l2 l3 l4 : Option Value} {st : List Value} {x : Nat} {m : kMem} {Q : Option Value → kMem → Prop} : kJ 25 0 [some (.ref x), l1, l2, l3, l4] st m Q = kJ 25 1 [some (.ref x), l1, l2, l3, l4] (.ref x :: st) m Q := kJ_next d25_0 rfl
theorem d25_1 : decode (mB 25) 1 = .ok (.iload_n 1, 1) := by decide +kernel
theorem s25_1 {l0 l2 l3 l4 : Option Value} {st : List Value} {x : Int32} {m : kMem} {Q : Option Value → kMem → Prop} : kJ 25 1 [l0, some (.int x), l2, l3, l4] st m Q = kJ 25 2 [l0, some (.int x), l2, l3, l4] (.int x :: st) m Q := kJ_next d25_1 rfl
theorem d25_2 : decode (mB 25) 2 = .ok (.invokevirtual 82, 3) := by decide +kernel
theorem s25_2 {l0 l1 l2 l3 l4 : Option Value} {v0 : Int32} {v1 : Nat} {m : kMem} {Q : Option Value → kMem → Prop} (h : kIs m.2.2.2 v1 1 = true) : kJ 25 2 [l0, l1, l2, l3, l4] [.int v0, .ref v1] m Q = kJ 10 0 [some (.ref v1), some (.int v0)] [] m (fun v m2 => kJ 25 5 [l0, l1, l2, l3, l4] (v.toList ++ []) m2 Q) := kJ_call d25_2 (kg_callv 10 1 rfl rfl rfl rfl (Nat.le_of_ble_eq_true rfl) (Nat.le_of_ble_eq_true rfl) (Nat.le_of_ble_eq_true rfl) h rfl)
theorem d25_5 : decode (mB 25) 5 = .ok (.istore_n 2, 1) := by decide +kernel
theorem s25_5 {l0 l1 l2 l3 l4 : Option Value} {st : List Value} {x : Int32} {m : kMem} {Q : Option Value → kMem → Prop} (hp : kNL l1 = true) : kJ 25 5 [l0, l1, l2, l3, l4] (.int x :: st) m Q = kJ 25 6 [l0, l1, some (.int x), l3, l4] st m Q := kJ_next d25_5 (kg_sti (Nat.le_of_ble_eq_true rfl) hp)
theorem d25_6 : decode (mB 25) 6 = .ok (.aload_n 0, 1) := by decide +kernel
theorem s25_6 {l1 l2 l3 l4 : Option Value} {st : List Value} {x : Nat} {m : kMem} {Q : Option Value → kMem → Prop} : kJ 25 6 [some (.ref x), l1, l2, l3, l4] st m Q = kJ 25 7 [some (.ref x), l1, l2, l3, l4] (.ref x :: st) m Q := kJ_next d25_6 rfl
theorem d25_7 : decode (mB 25) 7 = .ok (.getfield 9, 3) := by decide +kernel
theorem s25_7 {l0 l1 l2 l3 l4 : Option Value} {st : List Value} {q : Nat} {mi : Nat → Nat → Int32} {ml : Nat → Nat → Int64} {mr : Nat → Nat → Option Nat} {nx : Nat} {Q : Option Value → kMem → Prop} (h : kIs nx q 1 = true) : kJ 25 7 [l0, l1, l2, l3, l4] (.ref q :: st) (mi, ml, mr, nx) Q = kJ 25 10 [l0, l1, l2, l3, l4] (va_rf (mr q 1) :: st) (mi, ml, mr, nx) Q := kJ_next d25_7 (kg_getr 1 1 rfl h (by decide))
theorem d25_10 : decode (mB 25) 10 = .ok (.iload_n 2, 1) := by decide +kernel
theorem s25_10 {l0 l1 l3 l4 : Option Value} {st : List Value} {x : Int32} {m : kMem} {Q : Option Value → kMem → Prop} : kJ 25 10 [l0, l1, some (.int x), l3, l4] st m Q = kJ 25 11 [l0, l1, some (.int x), l3, l4] (.int x :: st) m Q := kJ_next d25_10 rfl
theorem d25_11 : decode (mB 25) 11 = .ok (.iaload, 1) := by decide +kernel
theorem s25_11 {l0 l1 l2 l3 l4 : Option Value} {st : List Value} {q : Nat} {i : Int32} {mi : Nat → Nat → Int32} {ml : Nat → Nat → Int64} {mr : Nat → Nat → Option Nat} {nx : Nat} {Q : Option Value → kMem → Prop} (h : kIs nx q 10 = true) : kJ 25 11 [l0, l1, l2, l3, l4] (.int i :: .ref q :: st) (mi, ml, mr, nx) Q = (vp_in i (kAl q) ∧ kJ 25 12 [l0, l1, l2, l3, l4] (.int (mi q i.toNatClampNeg) :: st) (mi, ml, mr, nx) Q) := kg_aldJ d25_11 rfl (kAr_of h)
theorem d25_12 : decode (mB 25) 12 = .ok (.istore_n 3, 1) := by decide +kernel
theorem s25_12 {l0 l1 l2 l3 l4 : Option Value} {st : List Value} {x : Int32} {m : kMem} {Q : Option Value → kMem → Prop} (hp : kNL l2 = true) : kJ 25 12 [l0, l1, l2, l3, l4] (.int x :: st) m Q = kJ 25 13 [l0, l1, l2, some (.int x), l4] st m Q := kJ_next d25_12 (kg_sti (Nat.le_of_ble_eq_true rfl) hp)
theorem d25_13 : decode (mB 25) 13 = .ok (.iload_n 3, 1) := by decide +kernel
theorem s25_13 {l0 l1 l2 l4 : Option Value} {st : List Value} {x : Int32} {m : kMem} {Q : Option Value → kMem → Prop} : kJ 25 13 [l0, l1, l2, some (.int x), l4] st m Q = kJ 25 14 [l0, l1, l2, some (.int x), l4] (.int x :: st) m Q := kJ_next d25_13 rfl
theorem d25_14 : decode (mB 25) 14 = .ok (.aload_n 0, 1) := by decide +kernel
theorem s25_14 {l1 l2 l3 l4 : Option Value} {st : List Value} {x : Nat} {m : kMem} {Q : Option Value → kMem → Prop} : kJ 25 14 [some (.ref x), l1, l2, l3, l4] st m Q = kJ 25 15 [some (.ref x), l1, l2, l3, l4] (.ref x :: st) m Q := kJ_next d25_14 rfl
theorem d25_15 : decode (mB 25) 15 = .ok (.getfield 30, 3) := by decide +kernel
theorem s25_15 {l0 l1 l2 l3 l4 : Option Value} {st : List Value} {q : Nat} {mi : Nat → Nat → Int32} {ml : Nat → Nat → Int64} {mr : Nat → Nat → Option Nat} {nx : Nat} {Q : Option Value → kMem → Prop} (h : kIs nx q 1 = true) : kJ 25 15 [l0, l1, l2, l3, l4] (.ref q :: st) (mi, ml, mr, nx) Q = kJ 25 18 [l0, l1, l2, l3, l4] (va_rf (mr q 8) :: st) (mi, ml, mr, nx) Q := kJ_next d25_15 (kg_getr 1 8 rfl h (by decide))
theorem d25_18 : decode (mB 25) 18 = .ok (.iload_n 1, 1) := by decide +kernel
theorem s25_18 {l0 l2 l3 l4 : Option Value} {st : List Value} {x : Int32} {m : kMem} {Q : Option Value → kMem → Prop} : kJ 25 18 [l0, some (.int x), l2, l3, l4] st m Q = kJ 25 19 [l0, some (.int x), l2, l3, l4] (.int x :: st) m Q := kJ_next d25_18 rfl
theorem d25_19 : decode (mB 25) 19 = .ok (.iaload, 1) := by decide +kernel
theorem s25_19 {l0 l1 l2 l3 l4 : Option Value} {st : List Value} {q : Nat} {i : Int32} {mi : Nat → Nat → Int32} {ml : Nat → Nat → Int64} {mr : Nat → Nat → Option Nat} {nx : Nat} {Q : Option Value → kMem → Prop} (h : kIs nx q 10 = true) : kJ 25 19 [l0, l1, l2, l3, l4] (.int i :: .ref q :: st) (mi, ml, mr, nx) Q = (vp_in i (kAl q) ∧ kJ 25 20 [l0, l1, l2, l3, l4] (.int (mi q i.toNatClampNeg) :: st) (mi, ml, mr, nx) Q) := kg_aldJ d25_19 rfl (kAr_of h)
theorem d25_20 : decode (mB 25) 20 = .ok (.invokestatic 124, 3) := by decide +kernel
theorem s25_20 {l0 l1 l2 l3 l4 : Option Value} {v0 : Int32} {v1 : Int32} {m : kMem} {Q : Option Value → kMem → Prop} : kJ 25 20 [l0, l1, l2, l3, l4] [.int v0, .int v1] m Q = kJ 96 0 [some (.int v1), some (.int v0), none] [] m (fun v m2 => kJ 25 23 [l0, l1, l2, l3, l4] (v.toList ++ []) m2 Q) := kJ_call d25_20 (kg_calls 96 2 rfl rfl (Nat.le_of_ble_eq_true rfl) (Nat.le_of_ble_eq_true rfl) (Nat.le_of_ble_eq_true rfl) (Nat.le_of_ble_eq_true rfl))
theorem d25_23 : decode (mB 25) 23 = .ok (.istore 4, 2) := by decide +kernel
theorem s25_23 {l0 l1 l2 l3 l4 : Option Value} {st : List Value} {x : Int32} {m : kMem} {Q : Option Value → kMem → Prop} (hp : kNL l3 = true) : kJ 25 23 [l0, l1, l2, l3, l4] (.int x :: st) m Q = kJ 25 25 [l0, l1, l2, l3, some (.int x)] st m Q := kJ_next d25_23 (kg_sti (Nat.le_of_ble_eq_true rfl) hp)
theorem d25_25 : decode (mB 25) 25 = .ok (.aload_n 0, 1) := by decide +kernel
theorem s25_25 {l1 l2 l3 l4 : Option Value} {st : List Value} {x : Nat} {m : kMem} {Q : Option Value → kMem → Prop} : kJ 25 25 [some (.ref x), l1, l2, l3, l4] st m Q = kJ 25 26 [some (.ref x), l1, l2, l3, l4] (.ref x :: st) m Q := kJ_next d25_25 rfl
theorem d25_26 : decode (mB 25) 26 = .ok (.getfield 36, 3) := by decide +kernel
theorem s25_26 {l0 l1 l2 l3 l4 : Option Value} {st : List Value} {q : Nat} {mi : Nat → Nat → Int32} {ml : Nat → Nat → Int64} {mr : Nat → Nat → Option Nat} {nx : Nat} {Q : Option Value → kMem → Prop} (h : kIs nx q 1 = true) : kJ 25 26 [l0, l1, l2, l3, l4] (.ref q :: st) (mi, ml, mr, nx) Q = kJ 25 29 [l0, l1, l2, l3, l4] (va_rf (mr q 10) :: st) (mi, ml, mr, nx) Q := kJ_next d25_26 (kg_getr 1 10 rfl h (by decide))
theorem d25_29 : decode (mB 25) 29 = .ok (.iload_n 1, 1) := by decide +kernel
theorem s25_29 {l0 l2 l3 l4 : Option Value} {st : List Value} {x : Int32} {m : kMem} {Q : Option Value → kMem → Prop} : kJ 25 29 [l0, some (.int x), l2, l3, l4] st m Q = kJ 25 30 [l0, some (.int x), l2, l3, l4] (.int x :: st) m Q := kJ_next d25_29 rfl
theorem d25_30 : decode (mB 25) 30 = .ok (.iaload, 1) := by decide +kernel
theorem s25_30 {l0 l1 l2 l3 l4 : Option Value} {st : List Value} {q : Nat} {i : Int32} {mi : Nat → Nat → Int32} {ml : Nat → Nat → Int64} {mr : Nat → Nat → Option Nat} {nx : Nat} {Q : Option Value → kMem → Prop} (h : kIs nx q 10 = true) : kJ 25 30 [l0, l1, l2, l3, l4] (.int i :: .ref q :: st) (mi, ml, mr, nx) Q = (vp_in i (kAl q) ∧ kJ 25 31 [l0, l1, l2, l3, l4] (.int (mi q i.toNatClampNeg) :: st) (mi, ml, mr, nx) Q) := kg_aldJ d25_30 rfl (kAr_of h)
theorem d25_31 : decode (mB 25) 31 = .ok (.iconst 1, 1) := by decide +kernel
theorem s25_31 {l0 l1 l2 l3 l4 : Option Value} {st : List Value} {m : kMem} {Q : Option Value → kMem → Prop} : kJ 25 31 [l0, l1, l2, l3, l4] st m Q = kJ 25 32 [l0, l1, l2, l3, l4] (.int (nI 1) :: st) m Q := kJ_next d25_31 rfl
theorem d25_32 : decode (mB 25) 32 = .ok (.if_icmp .ne 20, 3) := by decide +kernel
theorem s25_32 {l0 l1 l2 l3 l4 : Option Value} {st : List Value} {a b : Int32} {m : kMem} {Q : Option Value → kMem → Prop} : kJ 25 32 [l0, l1, l2, l3, l4] (.int b :: .int a :: st) m Q = (if a = b then kJ 25 35 [l0, l1, l2, l3, l4] st m Q else kJ 25 52 [l0, l1, l2, l3, l4] st m Q) := kJ_if d25_32 rfl (fun h => kJ_next d25_32 h) (fun h => kJ_next d25_32 h)
theorem d25_35 : decode (mB 25) 35 = .ok (.aload_n 0, 1) := by decide +kernel
theorem s25_35 {l1 l2 l3 l4 : Option Value} {st : List Value} {x : Nat} {m : kMem} {Q : Option Value → kMem → Prop} : kJ 25 35 [some (.ref x), l1, l2, l3, l4] st m Q = kJ 25 36 [some (.ref x), l1, l2, l3, l4] (.ref x :: st) m Q := kJ_next d25_35 rfl
theorem d25_36 : decode (mB 25) 36 = .ok (.iload_n 2, 1) := by decide +kernel
theorem s25_36 {l0 l1 l3 l4 : Option Value} {st : List Value} {x : Int32} {m : kMem} {Q : Option Value → kMem → Prop} : kJ 25 36 [l0, l1, some (.int x), l3, l4] st m Q = kJ 25 37 [l0, l1, some (.int x), l3, l4] (.int x :: st) m Q := kJ_next d25_36 rfl
theorem d25_37 : decode (mB 25) 37 = .ok (.iload 4, 2) := by decide +kernel
theorem s25_37 {l0 l1 l2 l3 : Option Value} {st : List Value} {x : Int32} {m : kMem} {Q : Option Value → kMem → Prop} : kJ 25 37 [l0, l1, l2, l3, some (.int x)] st m Q = kJ 25 39 [l0, l1, l2, l3, some (.int x)] (.int x :: st) m Q := kJ_next d25_37 rfl
theorem d25_39 : decode (mB 25) 39 = .ok (.iconst 2, 1) := by decide +kernel
theorem s25_39 {l0 l1 l2 l3 l4 : Option Value} {st : List Value} {m : kMem} {Q : Option Value → kMem → Prop} : kJ 25 39 [l0, l1, l2, l3, l4] st m Q = kJ 25 40 [l0, l1, l2, l3, l4] (.int (nI 2) :: st) m Q := kJ_next d25_39 rfl
theorem d25_40 : decode (mB 25) 40 = .ok (.idiv, 1) := by decide +kernel
theorem s25_40 {l0 l1 l2 l3 l4 : Option Value} {st : List Value} {a b : Int32} {m : kMem} {Q : Option Value → kMem → Prop} (hb : ¬ b = 0) : kJ 25 40 [l0, l1, l2, l3, l4] (.int b :: .int a :: st) m Q = kJ 25 41 [l0, l1, l2, l3, l4] (.int (a / b) :: st) m Q := kJ_next d25_40 (kg_idiv hb)
theorem d25_41 : decode (mB 25) 41 = .ok (.invokevirtual 127, 3) := by decide +kernel
theorem s25_41 {l0 l1 l2 l3 l4 : Option Value} {v0 : Int32} {v1 : Int32} {v2 : Nat} {m : kMem} {Q : Option Value → kMem → Prop} (h : kIs m.2.2.2 v2 1 = true) : kJ 25 41 [l0, l1, l2, l3, l4] [.int v0, .int v1, .ref v2] m Q = kJ 26 0 [some (.ref v2), some (.int v1), some (.int v0), none] [] m (fun v m2 => kJ 25 44 [l0, l1, l2, l3, l4] (v.toList ++ []) m2 Q) := kJ_call d25_41 (kg_callv 26 2 rfl rfl rfl rfl (Nat.le_of_ble_eq_true rfl) (Nat.le_of_ble_eq_true rfl) (Nat.le_of_ble_eq_true rfl) h rfl)
theorem d25_44 : decode (mB 25) 44 = .ok (.aload_n 0, 1) := by decide +kernel
theorem s25_44 {l1 l2 l3 l4 : Option Value} {st : List Value} {x : Nat} {m : kMem} {Q : Option Value → kMem → Prop} : kJ 25 44 [some (.ref x), l1, l2, l3, l4] st m Q = kJ 25 45 [some (.ref x), l1, l2, l3, l4] (.ref x :: st) m Q := kJ_next d25_44 rfl
theorem d25_45 : decode (mB 25) 45 = .ok (.getfield 36, 3) := by decide +kernel
theorem s25_45 {l0 l1 l2 l3 l4 : Option Value} {st : List Value} {q : Nat} {mi : Nat → Nat → Int32} {ml : Nat → Nat → Int64} {mr : Nat → Nat → Option Nat} {nx : Nat} {Q : Option Value → kMem → Prop} (h : kIs nx q 1 = true) : kJ 25 45 [l0, l1, l2, l3, l4] (.ref q :: st) (mi, ml, mr, nx) Q = kJ 25 48 [l0, l1, l2, l3, l4] (va_rf (mr q 10) :: st) (mi, ml, mr, nx) Q := kJ_next d25_45 (kg_getr 1 10 rfl h (by decide))
theorem d25_48 : decode (mB 25) 48 = .ok (.iload_n 1, 1) := by decide +kernel
theorem s25_48 {l0 l2 l3 l4 : Option Value} {st : List Value} {x : Int32} {m : kMem} {Q : Option Value → kMem → Prop} : kJ 25 48 [l0, some (.int x), l2, l3, l4] st m Q = kJ 25 49 [l0, some (.int x), l2, l3, l4] (.int x :: st) m Q := kJ_next d25_48 rfl
theorem d25_49 : decode (mB 25) 49 = .ok (.iconst 2, 1) := by decide +kernel
theorem s25_49 {l0 l1 l2 l3 l4 : Option Value} {st : List Value} {m : kMem} {Q : Option Value → kMem → Prop} : kJ 25 49 [l0, l1, l2, l3, l4] st m Q = kJ 25 50 [l0, l1, l2, l3, l4] (.int (nI 2) :: st) m Q := kJ_next d25_49 rfl
theorem d25_50 : decode (mB 25) 50 = .ok (.iastore, 1) := by decide +kernel
theorem s25_50 {l0 l1 l2 l3 l4 : Option Value} {st : List Value} {q : Nat} {i x : Int32} {mi : Nat → Nat → Int32} {ml : Nat → Nat → Int64} {mr : Nat → Nat → Option Nat} {nx : Nat} {Q : Option Value → kMem → Prop} (h : kIs nx q 10 = true) : kJ 25 50 [l0, l1, l2, l3, l4] (.int x :: .int i :: .ref q :: st) (mi, ml, mr, nx) Q = (vp_in i (kAl q) ∧ kJ 25 51 [l0, l1, l2, l3, l4] st (kup mi q i.toNatClampNeg x, ml, mr, nx) Q) := kg_astJ d25_50 rfl (kAr_of h)
theorem d25_51 : decode (mB 25) 51 = .ok (.return_, 1) := by decide +kernel
theorem s25_51 {l0 l1 l2 l3 l4 : Option Value} {m : kMem} {Q : Option Value → kMem → Prop} : kJ 25 51 [l0, l1, l2, l3, l4] [] m Q = Q none m := kJ_ret d25_51 rfl
theorem d25_52 : decode (mB 25) 52 = .ok (.aload_n 0, 1) := by decide +kernel
theorem s25_52 {l1 l2 l3 l4 : Option Value} {st : List Value} {x : Nat} {m : kMem} {Q : Option Value → kMem → Prop} : kJ 25 52 [some (.ref x), l1, l2, l3, l4] st m Q = kJ 25 53 [some (.ref x), l1, l2, l3, l4] (.ref x :: st) m Q := kJ_next d25_52 rfl
theorem d25_53 : decode (mB 25) 53 = .ok (.iload_n 2, 1) := by decide +kernel
theorem s25_53 {l0 l1 l3 l4 : Option Value} {st : List Value} {x : Int32} {m : kMem} {Q : Option Value → kMem → Prop} : kJ 25 53 [l0, l1, some (.int x), l3, l4] st m Q = kJ 25 54 [l0, l1, some (.int x), l3, l4] (.int x :: st) m Q := kJ_next d25_53 rfl
theorem d25_54 : decode (mB 25) 54 = .ok (.iload 4, 2) := by decide +kernel
theorem s25_54 {l0 l1 l2 l3 : Option Value} {st : List Value} {x : Int32} {m : kMem} {Q : Option Value → kMem → Prop} : kJ 25 54 [l0, l1, l2, l3, some (.int x)] st m Q = kJ 25 56 [l0, l1, l2, l3, some (.int x)] (.int x :: st) m Q := kJ_next d25_54 rfl
theorem d25_56 : decode (mB 25) 56 = .ok (.invokevirtual 127, 3) := by decide +kernel
theorem s25_56 {l0 l1 l2 l3 l4 : Option Value} {v0 : Int32} {v1 : Int32} {v2 : Nat} {m : kMem} {Q : Option Value → kMem → Prop} (h : kIs m.2.2.2 v2 1 = true) : kJ 25 56 [l0, l1, l2, l3, l4] [.int v0, .int v1, .ref v2] m Q = kJ 26 0 [some (.ref v2), some (.int v1), some (.int v0), none] [] m (fun v m2 => kJ 25 59 [l0, l1, l2, l3, l4] (v.toList ++ []) m2 Q) := kJ_call d25_56 (kg_callv 26 2 rfl rfl rfl rfl (Nat.le_of_ble_eq_true rfl) (Nat.le_of_ble_eq_true rfl) (Nat.le_of_ble_eq_true rfl) h rfl)
theorem d25_59 : decode (mB 25) 59 = .ok (.iload_n 3, 1) := by decide +kernel
theorem s25_59 {l0 l1 l2 l4 : Option Value} {st : List Value} {x : Int32} {m : kMem} {Q : Option Value → kMem → Prop} : kJ 25 59 [l0, l1, l2, some (.int x), l4] st m Q = kJ 25 60 [l0, l1, l2, some (.int x), l4] (.int x :: st) m Q := kJ_next d25_59 rfl
theorem d25_60 : decode (mB 25) 60 = .ok (.aload_n 0, 1) := by decide +kernel
theorem s25_60 {l1 l2 l3 l4 : Option Value} {st : List Value} {x : Nat} {m : kMem} {Q : Option Value → kMem → Prop} : kJ 25 60 [some (.ref x), l1, l2, l3, l4] st m Q = kJ 25 61 [some (.ref x), l1, l2, l3, l4] (.ref x :: st) m Q := kJ_next d25_60 rfl
theorem d25_61 : decode (mB 25) 61 = .ok (.getfield 30, 3) := by decide +kernel
theorem s25_61 {l0 l1 l2 l3 l4 : Option Value} {st : List Value} {q : Nat} {mi : Nat → Nat → Int32} {ml : Nat → Nat → Int64} {mr : Nat → Nat → Option Nat} {nx : Nat} {Q : Option Value → kMem → Prop} (h : kIs nx q 1 = true) : kJ 25 61 [l0, l1, l2, l3, l4] (.ref q :: st) (mi, ml, mr, nx) Q = kJ 25 64 [l0, l1, l2, l3, l4] (va_rf (mr q 8) :: st) (mi, ml, mr, nx) Q := kJ_next d25_61 (kg_getr 1 8 rfl h (by decide))
theorem d25_64 : decode (mB 25) 64 = .ok (.iload_n 1, 1) := by decide +kernel
theorem s25_64 {l0 l2 l3 l4 : Option Value} {st : List Value} {x : Int32} {m : kMem} {Q : Option Value → kMem → Prop} : kJ 25 64 [l0, some (.int x), l2, l3, l4] st m Q = kJ 25 65 [l0, some (.int x), l2, l3, l4] (.int x :: st) m Q := kJ_next d25_64 rfl
theorem d25_65 : decode (mB 25) 65 = .ok (.iaload, 1) := by decide +kernel
theorem s25_65 {l0 l1 l2 l3 l4 : Option Value} {st : List Value} {q : Nat} {i : Int32} {mi : Nat → Nat → Int32} {ml : Nat → Nat → Int64} {mr : Nat → Nat → Option Nat} {nx : Nat} {Q : Option Value → kMem → Prop} (h : kIs nx q 10 = true) : kJ 25 65 [l0, l1, l2, l3, l4] (.int i :: .ref q :: st) (mi, ml, mr, nx) Q = (vp_in i (kAl q) ∧ kJ 25 66 [l0, l1, l2, l3, l4] (.int (mi q i.toNatClampNeg) :: st) (mi, ml, mr, nx) Q) := kg_aldJ d25_65 rfl (kAr_of h)
theorem d25_66 : decode (mB 25) 66 = .ok (.invokestatic 130, 3) := by decide +kernel
theorem s25_66 {l0 l1 l2 l3 l4 : Option Value} {v0 : Int32} {v1 : Int32} {m : kMem} {Q : Option Value → kMem → Prop} : kJ 25 66 [l0, l1, l2, l3, l4] [.int v0, .int v1] m Q = kJ 97 0 [some (.int v1), some (.int v0)] [] m (fun v m2 => kJ 25 69 [l0, l1, l2, l3, l4] (v.toList ++ []) m2 Q) := kJ_call d25_66 (kg_calls 97 2 rfl rfl (Nat.le_of_ble_eq_true rfl) (Nat.le_of_ble_eq_true rfl) (Nat.le_of_ble_eq_true rfl) (Nat.le_of_ble_eq_true rfl))
theorem d25_69 : decode (mB 25) 69 = .ok (.ifCond .eq 29, 3) := by decide +kernel
theorem s25_69 {l0 l1 l2 l3 l4 : Option Value} {st : List Value} {a : Int32} {m : kMem} {Q : Option Value → kMem → Prop} : kJ 25 69 [l0, l1, l2, l3, l4] (.int a :: st) m Q = (if a = 0 then kJ 25 98 [l0, l1, l2, l3, l4] st m Q else kJ 25 72 [l0, l1, l2, l3, l4] st m Q) := kJ_if d25_69 rfl (fun h => kJ_next d25_69 h) (fun h => kJ_next d25_69 h)
theorem d25_72 : decode (mB 25) 72 = .ok (.aload_n 0, 1) := by decide +kernel
theorem s25_72 {l1 l2 l3 l4 : Option Value} {st : List Value} {x : Nat} {m : kMem} {Q : Option Value → kMem → Prop} : kJ 25 72 [some (.ref x), l1, l2, l3, l4] st m Q = kJ 25 73 [some (.ref x), l1, l2, l3, l4] (.ref x :: st) m Q := kJ_next d25_72 rfl
theorem d25_73 : decode (mB 25) 73 = .ok (.getfield 30, 3) := by decide +kernel
theorem s25_73 {l0 l1 l2 l3 l4 : Option Value} {st : List Value} {q : Nat} {mi : Nat → Nat → Int32} {ml : Nat → Nat → Int64} {mr : Nat → Nat → Option Nat} {nx : Nat} {Q : Option Value → kMem → Prop} (h : kIs nx q 1 = true) : kJ 25 73 [l0, l1, l2, l3, l4] (.ref q :: st) (mi, ml, mr, nx) Q = kJ 25 76 [l0, l1, l2, l3, l4] (va_rf (mr q 8) :: st) (mi, ml, mr, nx) Q := kJ_next d25_73 (kg_getr 1 8 rfl h (by decide))
theorem d25_76 : decode (mB 25) 76 = .ok (.iload_n 1, 1) := by decide +kernel
theorem s25_76 {l0 l2 l3 l4 : Option Value} {st : List Value} {x : Int32} {m : kMem} {Q : Option Value → kMem → Prop} : kJ 25 76 [l0, some (.int x), l2, l3, l4] st m Q = kJ 25 77 [l0, some (.int x), l2, l3, l4] (.int x :: st) m Q := kJ_next d25_76 rfl
theorem d25_77 : decode (mB 25) 77 = .ok (.iload_n 3, 1) := by decide +kernel
theorem s25_77 {l0 l1 l2 l4 : Option Value} {st : List Value} {x : Int32} {m : kMem} {Q : Option Value → kMem → Prop} : kJ 25 77 [l0, l1, l2, some (.int x), l4] st m Q = kJ 25 78 [l0, l1, l2, some (.int x), l4] (.int x :: st) m Q := kJ_next d25_77 rfl
theorem d25_78 : decode (mB 25) 78 = .ok (.aload_n 0, 1) := by decide +kernel
theorem s25_78 {l1 l2 l3 l4 : Option Value} {st : List Value} {x : Nat} {m : kMem} {Q : Option Value → kMem → Prop} : kJ 25 78 [some (.ref x), l1, l2, l3, l4] st m Q = kJ 25 79 [some (.ref x), l1, l2, l3, l4] (.ref x :: st) m Q := kJ_next d25_78 rfl
theorem d25_79 : decode (mB 25) 79 = .ok (.getfield 30, 3) := by decide +kernel
theorem s25_79 {l0 l1 l2 l3 l4 : Option Value} {st : List Value} {q : Nat} {mi : Nat → Nat → Int32} {ml : Nat → Nat → Int64} {mr : Nat → Nat → Option Nat} {nx : Nat} {Q : Option Value → kMem → Prop} (h : kIs nx q 1 = true) : kJ 25 79 [l0, l1, l2, l3, l4] (.ref q :: st) (mi, ml, mr, nx) Q = kJ 25 82 [l0, l1, l2, l3, l4] (va_rf (mr q 8) :: st) (mi, ml, mr, nx) Q := kJ_next d25_79 (kg_getr 1 8 rfl h (by decide))
theorem d25_82 : decode (mB 25) 82 = .ok (.iload_n 1, 1) := by decide +kernel
theorem s25_82 {l0 l2 l3 l4 : Option Value} {st : List Value} {x : Int32} {m : kMem} {Q : Option Value → kMem → Prop} : kJ 25 82 [l0, some (.int x), l2, l3, l4] st m Q = kJ 25 83 [l0, some (.int x), l2, l3, l4] (.int x :: st) m Q := kJ_next d25_82 rfl
theorem d25_83 : decode (mB 25) 83 = .ok (.iaload, 1) := by decide +kernel
theorem s25_83 {l0 l1 l2 l3 l4 : Option Value} {st : List Value} {q : Nat} {i : Int32} {mi : Nat → Nat → Int32} {ml : Nat → Nat → Int64} {mr : Nat → Nat → Option Nat} {nx : Nat} {Q : Option Value → kMem → Prop} (h : kIs nx q 10 = true) : kJ 25 83 [l0, l1, l2, l3, l4] (.int i :: .ref q :: st) (mi, ml, mr, nx) Q = (vp_in i (kAl q) ∧ kJ 25 84 [l0, l1, l2, l3, l4] (.int (mi q i.toNatClampNeg) :: st) (mi, ml, mr, nx) Q) := kg_aldJ d25_83 rfl (kAr_of h)
theorem d25_84 : decode (mB 25) 84 = .ok (.invokestatic 134, 3) := by decide +kernel
theorem s25_84 {l0 l1 l2 l3 l4 : Option Value} {v0 : Int32} {v1 : Int32} {v2 : Int32} {v3 : Nat} {m : kMem} {Q : Option Value → kMem → Prop} : kJ 25 84 [l0, l1, l2, l3, l4] [.int v0, .int v1, .int v2, .ref v3] m Q = kJ 98 0 [some (.int v1), some (.int v0)] [] m (fun v m2 => kJ 25 87 [l0, l1, l2, l3, l4] (v.toList ++ [.int v2, .ref v3]) m2 Q) := kJ_call d25_84 (kg_calls 98 2 rfl rfl (Nat.le_of_ble_eq_true rfl) (Nat.le_of_ble_eq_true rfl) (Nat.le_of_ble_eq_true rfl) (Nat.le_of_ble_eq_true rfl))
theorem d25_87 : decode (mB 25) 87 = .ok (.iastore, 1) := by decide +kernel
theorem s25_87 {l0 l1 l2 l3 l4 : Option Value} {st : List Value} {q : Nat} {i x : Int32} {mi : Nat → Nat → Int32} {ml : Nat → Nat → Int64} {mr : Nat → Nat → Option Nat} {nx : Nat} {Q : Option Value → kMem → Prop} (h : kIs nx q 10 = true) : kJ 25 87 [l0, l1, l2, l3, l4] (.int x :: .int i :: .ref q :: st) (mi, ml, mr, nx) Q = (vp_in i (kAl q) ∧ kJ 25 88 [l0, l1, l2, l3, l4] st (kup mi q i.toNatClampNeg x, ml, mr, nx) Q) := kg_astJ d25_87 rfl (kAr_of h)
theorem d25_88 : decode (mB 25) 88 = .ok (.aload_n 0, 1) := by decide +kernel
theorem s25_88 {l1 l2 l3 l4 : Option Value} {st : List Value} {x : Nat} {m : kMem} {Q : Option Value → kMem → Prop} : kJ 25 88 [some (.ref x), l1, l2, l3, l4] st m Q = kJ 25 89 [some (.ref x), l1, l2, l3, l4] (.ref x :: st) m Q := kJ_next d25_88 rfl
theorem d25_89 : decode (mB 25) 89 = .ok (.getfield 36, 3) := by decide +kernel
theorem s25_89 {l0 l1 l2 l3 l4 : Option Value} {st : List Value} {q : Nat} {mi : Nat → Nat → Int32} {ml : Nat → Nat → Int64} {mr : Nat → Nat → Option Nat} {nx : Nat} {Q : Option Value → kMem → Prop} (h : kIs nx q 1 = true) : kJ 25 89 [l0, l1, l2, l3, l4] (.ref q :: st) (mi, ml, mr, nx) Q = kJ 25 92 [l0, l1, l2, l3, l4] (va_rf (mr q 10) :: st) (mi, ml, mr, nx) Q := kJ_next d25_89 (kg_getr 1 10 rfl h (by decide))
theorem d25_92 : decode (mB 25) 92 = .ok (.iload_n 1, 1) := by decide +kernel
theorem s25_92 {l0 l2 l3 l4 : Option Value} {st : List Value} {x : Int32} {m : kMem} {Q : Option Value → kMem → Prop} : kJ 25 92 [l0, some (.int x), l2, l3, l4] st m Q = kJ 25 93 [l0, some (.int x), l2, l3, l4] (.int x :: st) m Q := kJ_next d25_92 rfl
theorem d25_93 : decode (mB 25) 93 = .ok (.iconst 1, 1) := by decide +kernel
theorem s25_93 {l0 l1 l2 l3 l4 : Option Value} {st : List Value} {m : kMem} {Q : Option Value → kMem → Prop} : kJ 25 93 [l0, l1, l2, l3, l4] st m Q = kJ 25 94 [l0, l1, l2, l3, l4] (.int (nI 1) :: st) m Q := kJ_next d25_93 rfl
theorem d25_94 : decode (mB 25) 94 = .ok (.iastore, 1) := by decide +kernel
theorem s25_94 {l0 l1 l2 l3 l4 : Option Value} {st : List Value} {q : Nat} {i x : Int32} {mi : Nat → Nat → Int32} {ml : Nat → Nat → Int64} {mr : Nat → Nat → Option Nat} {nx : Nat} {Q : Option Value → kMem → Prop} (h : kIs nx q 10 = true) : kJ 25 94 [l0, l1, l2, l3, l4] (.int x :: .int i :: .ref q :: st) (mi, ml, mr, nx) Q = (vp_in i (kAl q) ∧ kJ 25 95 [l0, l1, l2, l3, l4] st (kup mi q i.toNatClampNeg x, ml, mr, nx) Q) := kg_astJ d25_94 rfl (kAr_of h)
theorem d25_95 : decode (mB 25) 95 = .ok (.goto 10, 3) := by decide +kernel
theorem s25_95 {l0 l1 l2 l3 l4 : Option Value} {st : List Value} {m : kMem} {Q : Option Value → kMem → Prop} : kJ 25 95 [l0, l1, l2, l3, l4] st m Q = kJ 25 105 [l0, l1, l2, l3, l4] st m Q := kJ_next d25_95 rfl
theorem d25_98 : decode (mB 25) 98 = .ok (.aload_n 0, 1) := by decide +kernel
theorem s25_98 {l1 l2 l3 l4 : Option Value} {st : List Value} {x : Nat} {m : kMem} {Q : Option Value → kMem → Prop} : kJ 25 98 [some (.ref x), l1, l2, l3, l4] st m Q = kJ 25 99 [some (.ref x), l1, l2, l3, l4] (.ref x :: st) m Q := kJ_next d25_98 rfl
theorem d25_99 : decode (mB 25) 99 = .ok (.getfield 36, 3) := by decide +kernel
theorem s25_99 {l0 l1 l2 l3 l4 : Option Value} {st : List Value} {q : Nat} {mi : Nat → Nat → Int32} {ml : Nat → Nat → Int64} {mr : Nat → Nat → Option Nat} {nx : Nat} {Q : Option Value → kMem → Prop} (h : kIs nx q 1 = true) : kJ 25 99 [l0, l1, l2, l3, l4] (.ref q :: st) (mi, ml, mr, nx) Q = kJ 25 102 [l0, l1, l2, l3, l4] (va_rf (mr q 10) :: st) (mi, ml, mr, nx) Q := kJ_next d25_99 (kg_getr 1 10 rfl h (by decide))
theorem d25_102 : decode (mB 25) 102 = .ok (.iload_n 1, 1) := by decide +kernel
theorem s25_102 {l0 l2 l3 l4 : Option Value} {st : List Value} {x : Int32} {m : kMem} {Q : Option Value → kMem → Prop} : kJ 25 102 [l0, some (.int x), l2, l3, l4] st m Q = kJ 25 103 [l0, some (.int x), l2, l3, l4] (.int x :: st) m Q := kJ_next d25_102 rfl
theorem d25_103 : decode (mB 25) 103 = .ok (.iconst 3, 1) := by decide +kernel
theorem s25_103 {l0 l1 l2 l3 l4 : Option Value} {st : List Value} {m : kMem} {Q : Option Value → kMem → Prop} : kJ 25 103 [l0, l1, l2, l3, l4] st m Q = kJ 25 104 [l0, l1, l2, l3, l4] (.int (nI 3) :: st) m Q := kJ_next d25_103 rfl
theorem d25_104 : decode (mB 25) 104 = .ok (.iastore, 1) := by decide +kernel
theorem s25_104 {l0 l1 l2 l3 l4 : Option Value} {st : List Value} {q : Nat} {i x : Int32} {mi : Nat → Nat → Int32} {ml : Nat → Nat → Int64} {mr : Nat → Nat → Option Nat} {nx : Nat} {Q : Option Value → kMem → Prop} (h : kIs nx q 10 = true) : kJ 25 104 [l0, l1, l2, l3, l4] (.int x :: .int i :: .ref q :: st) (mi, ml, mr, nx) Q = (vp_in i (kAl q) ∧ kJ 25 105 [l0, l1, l2, l3, l4] st (kup mi q i.toNatClampNeg x, ml, mr, nx) Q) := kg_astJ d25_104 rfl (kAr_of h)
theorem d25_105 : decode (mB 25) 105 = .ok (.return_, 1) := by decide +kernel
theorem s25_105 {l0 l1 l2 l3 l4 : Option Value} {m : kMem} {Q : Option Value → kMem → Prop} : kJ 25 105 [l0, l1, l2, l3, l4] [] m Q = Q none m := kJ_ret d25_105 rfl
theorem d26_0 : decode (mB 26) 0 = .ok (.aload_n 0, 1) := by decide +kernel
theorem s26_0 {l1 l2 l3 : Option Value} {st : List Value} {x : Nat} {m : kMem} {Q : Option Value → kMem → Prop} : kJ 26 0 [some (.ref x), l1, l2, l3] st m Q = kJ 26 1 [some (.ref x), l1, l2, l3] (.ref x :: st) m Q := kJ_next d26_0 rfl
theorem d26_1 : decode (mB 26) 1 = .ok (.getfield 18, 3) := by decide +kernel
theorem s26_1 {l0 l1 l2 l3 : Option Value} {st : List Value} {q : Nat} {mi : Nat → Nat → Int32} {ml : Nat → Nat → Int64} {mr : Nat → Nat → Option Nat} {nx : Nat} {Q : Option Value → kMem → Prop} (h : kIs nx q 1 = true) : kJ 26 1 [l0, l1, l2, l3] (.ref q :: st) (mi, ml, mr, nx) Q = kJ 26 4 [l0, l1, l2, l3] (va_rf (mr q 3) :: st) (mi, ml, mr, nx) Q := kJ_next d26_1 (kg_getr 1 3 rfl h (by decide))
theorem d26_4 : decode (mB 26) 4 = .ok (.iload_n 1, 1) := by decide +kernel
theorem s26_4 {l0 l2 l3 : Option Value} {st : List Value} {x : Int32} {m : kMem} {Q : Option Value → kMem → Prop} : kJ 26 4 [l0, some (.int x), l2, l3] st m Q = kJ 26 5 [l0, some (.int x), l2, l3] (.int x :: st) m Q := kJ_next d26_4 rfl
theorem d26_5 : decode (mB 26) 5 = .ok (.iaload, 1) := by decide +kernel
theorem s26_5 {l0 l1 l2 l3 : Option Value} {st : List Value} {q : Nat} {i : Int32} {mi : Nat → Nat → Int32} {ml : Nat → Nat → Int64} {mr : Nat → Nat → Option Nat} {nx : Nat} {Q : Option Value → kMem → Prop} (h : kIs nx q 10 = true) : kJ 26 5 [l0, l1, l2, l3] (.int i :: .ref q :: st) (mi, ml, mr, nx) Q = (vp_in i (kAl q) ∧ kJ 26 6 [l0, l1, l2, l3] (.int (mi q i.toNatClampNeg) :: st) (mi, ml, mr, nx) Q) := kg_aldJ d26_5 rfl (kAr_of h)
theorem d26_6 : decode (mB 26) 6 = .ok (.iload_n 2, 1) := by decide +kernel
theorem s26_6 {l0 l1 l3 : Option Value} {st : List Value} {x : Int32} {m : kMem} {Q : Option Value → kMem → Prop} : kJ 26 6 [l0, l1, some (.int x), l3] st m Q = kJ 26 7 [l0, l1, some (.int x), l3] (.int x :: st) m Q := kJ_next d26_6 rfl
theorem d26_7 : decode (mB 26) 7 = .ok (.iadd, 1) := by decide +kernel
theorem s26_7 {l0 l1 l2 l3 : Option Value} {st : List Value} {a b : Int32} {m : kMem} {Q : Option Value → kMem → Prop} : kJ 26 7 [l0, l1, l2, l3] (.int b :: .int a :: st) m Q = kJ 26 8 [l0, l1, l2, l3] (.int (a + b) :: st) m Q := kJ_next d26_7 rfl
theorem d26_8 : decode (mB 26) 8 = .ok (.istore_n 3, 1) := by decide +kernel
theorem s26_8 {l0 l1 l2 l3 : Option Value} {st : List Value} {x : Int32} {m : kMem} {Q : Option Value → kMem → Prop} (hp : kNL l2 = true) : kJ 26 8 [l0, l1, l2, l3] (.int x :: st) m Q = kJ 26 9 [l0, l1, l2, some (.int x)] st m Q := kJ_next d26_8 (kg_sti (Nat.le_of_ble_eq_true rfl) hp)
theorem d26_9 : decode (mB 26) 9 = .ok (.aload_n 0, 1) := by decide +kernel
theorem s26_9 {l1 l2 l3 : Option Value} {st : List Value} {x : Nat} {m : kMem} {Q : Option Value → kMem → Prop} : kJ 26 9 [some (.ref x), l1, l2, l3] st m Q = kJ 26 10 [some (.ref x), l1, l2, l3] (.ref x :: st) m Q := kJ_next d26_9 rfl
theorem d26_10 : decode (mB 26) 10 = .ok (.getfield 18, 3) := by decide +kernel
theorem s26_10 {l0 l1 l2 l3 : Option Value} {st : List Value} {q : Nat} {mi : Nat → Nat → Int32} {ml : Nat → Nat → Int64} {mr : Nat → Nat → Option Nat} {nx : Nat} {Q : Option Value → kMem → Prop} (h : kIs nx q 1 = true) : kJ 26 10 [l0, l1, l2, l3] (.ref q :: st) (mi, ml, mr, nx) Q = kJ 26 13 [l0, l1, l2, l3] (va_rf (mr q 3) :: st) (mi, ml, mr, nx) Q := kJ_next d26_10 (kg_getr 1 3 rfl h (by decide))
theorem d26_13 : decode (mB 26) 13 = .ok (.iload_n 1, 1) := by decide +kernel
theorem s26_13 {l0 l2 l3 : Option Value} {st : List Value} {x : Int32} {m : kMem} {Q : Option Value → kMem → Prop} : kJ 26 13 [l0, some (.int x), l2, l3] st m Q = kJ 26 14 [l0, some (.int x), l2, l3] (.int x :: st) m Q := kJ_next d26_13 rfl
theorem d26_14 : decode (mB 26) 14 = .ok (.iload_n 3, 1) := by decide +kernel
theorem s26_14 {l0 l1 l2 : Option Value} {st : List Value} {x : Int32} {m : kMem} {Q : Option Value → kMem → Prop} : kJ 26 14 [l0, l1, l2, some (.int x)] st m Q = kJ 26 15 [l0, l1, l2, some (.int x)] (.int x :: st) m Q := kJ_next d26_14 rfl
theorem d26_15 : decode (mB 26) 15 = .ok (.ifCond .ge 7, 3) := by decide +kernel
theorem s26_15 {l0 l1 l2 l3 : Option Value} {st : List Value} {a : Int32} {m : kMem} {Q : Option Value → kMem → Prop} : kJ 26 15 [l0, l1, l2, l3] (.int a :: st) m Q = (if 0 ≤ a then kJ 26 22 [l0, l1, l2, l3] st m Q else kJ 26 18 [l0, l1, l2, l3] st m Q) := kJ_if d26_15 rfl (fun h => kJ_next d26_15 h) (fun h => kJ_next d26_15 h)
theorem d26_18 : decode (mB 26) 18 = .ok (.iconst 0, 1) := by decide +kernel
theorem s26_18 {l0 l1 l2 l3 : Option Value} {st : List Value} {m : kMem} {Q : Option Value → kMem → Prop} : kJ 26 18 [l0, l1, l2, l3] st m Q = kJ 26 19 [l0, l1, l2, l3] (.int (nI 0) :: st) m Q := kJ_next d26_18 rfl
theorem d26_19 : decode (mB 26) 19 = .ok (.goto 15, 3) := by decide +kernel
theorem s26_19 {l0 l1 l2 l3 : Option Value} {st : List Value} {m : kMem} {Q : Option Value → kMem → Prop} : kJ 26 19 [l0, l1, l2, l3] st m Q = kJ 26 34 [l0, l1, l2, l3] st m Q := kJ_next d26_19 rfl
theorem d26_22 : decode (mB 26) 22 = .ok (.iload_n 3, 1) := by decide +kernel
theorem s26_22 {l0 l1 l2 : Option Value} {st : List Value} {x : Int32} {m : kMem} {Q : Option Value → kMem → Prop} : kJ 26 22 [l0, l1, l2, some (.int x)] st m Q = kJ 26 23 [l0, l1, l2, some (.int x)] (.int x :: st) m Q := kJ_next d26_22 rfl
theorem d26_23 : decode (mB 26) 23 = .ok (.bipush 20, 2) := by decide +kernel
theorem s26_23 {l0 l1 l2 l3 : Option Value} {st : List Value} {m : kMem} {Q : Option Value → kMem → Prop} : kJ 26 23 [l0, l1, l2, l3] st m Q = kJ 26 25 [l0, l1, l2, l3] (.int (nI 20) :: st) m Q := kJ_next d26_23 rfl
theorem d26_25 : decode (mB 26) 25 = .ok (.if_icmp .le 8, 3) := by decide +kernel
theorem s26_25 {l0 l1 l2 l3 : Option Value} {st : List Value} {a b : Int32} {m : kMem} {Q : Option Value → kMem → Prop} : kJ 26 25 [l0, l1, l2, l3] (.int b :: .int a :: st) m Q = (if a ≤ b then kJ 26 33 [l0, l1, l2, l3] st m Q else kJ 26 28 [l0, l1, l2, l3] st m Q) := kJ_if d26_25 rfl (fun h => kJ_next d26_25 h) (fun h => kJ_next d26_25 h)
theorem d26_28 : decode (mB 26) 28 = .ok (.bipush 20, 2) := by decide +kernel
theorem s26_28 {l0 l1 l2 l3 : Option Value} {st : List Value} {m : kMem} {Q : Option Value → kMem → Prop} : kJ 26 28 [l0, l1, l2, l3] st m Q = kJ 26 30 [l0, l1, l2, l3] (.int (nI 20) :: st) m Q := kJ_next d26_28 rfl
theorem d26_30 : decode (mB 26) 30 = .ok (.goto 4, 3) := by decide +kernel
theorem s26_30 {l0 l1 l2 l3 : Option Value} {st : List Value} {m : kMem} {Q : Option Value → kMem → Prop} : kJ 26 30 [l0, l1, l2, l3] st m Q = kJ 26 34 [l0, l1, l2, l3] st m Q := kJ_next d26_30 rfl
theorem d26_33 : decode (mB 26) 33 = .ok (.iload_n 3, 1) := by decide +kernel
theorem s26_33 {l0 l1 l2 : Option Value} {st : List Value} {x : Int32} {m : kMem} {Q : Option Value → kMem → Prop} : kJ 26 33 [l0, l1, l2, some (.int x)] st m Q = kJ 26 34 [l0, l1, l2, some (.int x)] (.int x :: st) m Q := kJ_next d26_33 rfl
theorem d26_34 : decode (mB 26) 34 = .ok (.iastore, 1) := by decide +kernel
theorem s26_34 {l0 l1 l2 l3 : Option Value} {st : List Value} {q : Nat} {i x : Int32} {mi : Nat → Nat → Int32} {ml : Nat → Nat → Int64} {mr : Nat → Nat → Option Nat} {nx : Nat} {Q : Option Value → kMem → Prop} (h : kIs nx q 10 = true) : kJ 26 34 [l0, l1, l2, l3] (.int x :: .int i :: .ref q :: st) (mi, ml, mr, nx) Q = (vp_in i (kAl q) ∧ kJ 26 35 [l0, l1, l2, l3] st (kup mi q i.toNatClampNeg x, ml, mr, nx) Q) := kg_astJ d26_34 rfl (kAr_of h)
theorem d26_35 : decode (mB 26) 35 = .ok (.return_, 1) := by decide +kernel
theorem s26_35 {l0 l1 l2 l3 : Option Value} {m : kMem} {Q : Option Value → kMem → Prop} : kJ 26 35 [l0, l1, l2, l3] [] m Q = Q none m := kJ_ret d26_35 rfl
theorem d27_0 : decode (mB 27) 0 = .ok (.aload_n 0, 1) := by decide +kernel
theorem s27_0 {l1 l2 l3 : Option Value} {st : List Value} {x : Nat} {m : kMem} {Q : Option Value → kMem → Prop} : kJ 27 0 [some (.ref x), l1, l2, l3] st m Q = kJ 27 1 [some (.ref x), l1, l2, l3] (.ref x :: st) m Q := kJ_next d27_0 rfl
theorem d27_1 : decode (mB 27) 1 = .ok (.invokevirtual 137, 3) := by decide +kernel
theorem s27_1 {l0 l1 l2 l3 : Option Value} {v0 : Nat} {m : kMem} {Q : Option Value → kMem → Prop} (h : kIs m.2.2.2 v0 1 = true) : kJ 27 1 [l0, l1, l2, l3] [.ref v0] m Q = kJ 28 0 [some (.ref v0), none, none] [] m (fun v m2 => kJ 27 4 [l0, l1, l2, l3] (v.toList ++ []) m2 Q) := kJ_call d27_1 (kg_callv 28 0 rfl rfl rfl rfl (Nat.le_of_ble_eq_true rfl) (Nat.le_of_ble_eq_true rfl) (Nat.le_of_ble_eq_true rfl) h rfl)
theorem d27_4 : decode (mB 27) 4 = .ok (.istore_n 1, 1) := by decide +kernel
theorem s27_4 {l0 l1 l2 l3 : Option Value} {st : List Value} {x : Int32} {m : kMem} {Q : Option Value → kMem → Prop} (hp : kNL l0 = true) : kJ 27 4 [l0, l1, l2, l3] (.int x :: st) m Q = kJ 27 5 [l0, some (.int x), l2, l3] st m Q := kJ_next d27_4 (kg_sti (Nat.le_of_ble_eq_true rfl) hp)
theorem d27_5 : decode (mB 27) 5 = .ok (.iconst 0, 1) := by decide +kernel
theorem s27_5 {l0 l1 l2 l3 : Option Value} {st : List Value} {m : kMem} {Q : Option Value → kMem → Prop} : kJ 27 5 [l0, l1, l2, l3] st m Q = kJ 27 6 [l0, l1, l2, l3] (.int (nI 0) :: st) m Q := kJ_next d27_5 rfl
theorem d27_6 : decode (mB 27) 6 = .ok (.istore_n 2, 1) := by decide +kernel
theorem s27_6 {l0 l1 l2 l3 : Option Value} {st : List Value} {x : Int32} {m : kMem} {Q : Option Value → kMem → Prop} (hp : kNL l1 = true) : kJ 27 6 [l0, l1, l2, l3] (.int x :: st) m Q = kJ 27 7 [l0, l1, some (.int x), l3] st m Q := kJ_next d27_6 (kg_sti (Nat.le_of_ble_eq_true rfl) hp)
theorem d27_7 : decode (mB 27) 7 = .ok (.iload_n 2, 1) := by decide +kernel
theorem s27_7 {l0 l1 l3 : Option Value} {st : List Value} {x : Int32} {m : kMem} {Q : Option Value → kMem → Prop} : kJ 27 7 [l0, l1, some (.int x), l3] st m Q = kJ 27 8 [l0, l1, some (.int x), l3] (.int x :: st) m Q := kJ_next d27_7 rfl
theorem d27_8 : decode (mB 27) 8 = .ok (.iload_n 1, 1) := by decide +kernel
theorem s27_8 {l0 l2 l3 : Option Value} {st : List Value} {x : Int32} {m : kMem} {Q : Option Value → kMem → Prop} : kJ 27 8 [l0, some (.int x), l2, l3] st m Q = kJ 27 9 [l0, some (.int x), l2, l3] (.int x :: st) m Q := kJ_next d27_8 rfl
theorem d27_9 : decode (mB 27) 9 = .ok (.if_icmp .gt 62, 3) := by decide +kernel
theorem s27_9 {l0 l1 l2 l3 : Option Value} {st : List Value} {a b : Int32} {m : kMem} {Q : Option Value → kMem → Prop} : kJ 27 9 [l0, l1, l2, l3] (.int b :: .int a :: st) m Q = (if b < a then kJ 27 71 [l0, l1, l2, l3] st m Q else kJ 27 12 [l0, l1, l2, l3] st m Q) := kJ_if d27_9 rfl (fun h => kJ_next d27_9 h) (fun h => kJ_next d27_9 h)
theorem d27_12 : decode (mB 27) 12 = .ok (.iconst 0, 1) := by decide +kernel
theorem s27_12 {l0 l1 l2 l3 : Option Value} {st : List Value} {m : kMem} {Q : Option Value → kMem → Prop} : kJ 27 12 [l0, l1, l2, l3] st m Q = kJ 27 13 [l0, l1, l2, l3] (.int (nI 0) :: st) m Q := kJ_next d27_12 rfl
theorem d27_13 : decode (mB 27) 13 = .ok (.istore_n 3, 1) := by decide +kernel
theorem s27_13 {l0 l1 l2 l3 : Option Value} {st : List Value} {x : Int32} {m : kMem} {Q : Option Value → kMem → Prop} (hp : kNL l2 = true) : kJ 27 13 [l0, l1, l2, l3] (.int x :: st) m Q = kJ 27 14 [l0, l1, l2, some (.int x)] st m Q := kJ_next d27_13 (kg_sti (Nat.le_of_ble_eq_true rfl) hp)
theorem d27_14 : decode (mB 27) 14 = .ok (.iload_n 3, 1) := by decide +kernel
theorem s27_14 {l0 l1 l2 : Option Value} {st : List Value} {x : Int32} {m : kMem} {Q : Option Value → kMem → Prop} : kJ 27 14 [l0, l1, l2, some (.int x)] st m Q = kJ 27 15 [l0, l1, l2, some (.int x)] (.int x :: st) m Q := kJ_next d27_14 rfl
theorem d27_15 : decode (mB 27) 15 = .ok (.aload_n 0, 1) := by decide +kernel
theorem s27_15 {l1 l2 l3 : Option Value} {st : List Value} {x : Nat} {m : kMem} {Q : Option Value → kMem → Prop} : kJ 27 15 [some (.ref x), l1, l2, l3] st m Q = kJ 27 16 [some (.ref x), l1, l2, l3] (.ref x :: st) m Q := kJ_next d27_15 rfl
theorem d27_16 : decode (mB 27) 16 = .ok (.getfield 61, 3) := by decide +kernel
theorem s27_16 {l0 l1 l2 l3 : Option Value} {st : List Value} {q : Nat} {mi : Nat → Nat → Int32} {ml : Nat → Nat → Int64} {mr : Nat → Nat → Option Nat} {nx : Nat} {Q : Option Value → kMem → Prop} (h : kIs nx q 1 = true) : kJ 27 16 [l0, l1, l2, l3] (.ref q :: st) (mi, ml, mr, nx) Q = kJ 27 19 [l0, l1, l2, l3] (.int (mi q 13) :: st) (mi, ml, mr, nx) Q := kJ_next d27_16 (kg_geti 1 13 rfl h (by decide))
theorem d27_19 : decode (mB 27) 19 = .ok (.if_icmp .ge 41, 3) := by decide +kernel
theorem s27_19 {l0 l1 l2 l3 : Option Value} {st : List Value} {a b : Int32} {m : kMem} {Q : Option Value → kMem → Prop} : kJ 27 19 [l0, l1, l2, l3] (.int b :: .int a :: st) m Q = (if b ≤ a then kJ 27 60 [l0, l1, l2, l3] st m Q else kJ 27 22 [l0, l1, l2, l3] st m Q) := kJ_if d27_19 rfl (fun h => kJ_next d27_19 h) (fun h => kJ_next d27_19 h)
theorem d27_22 : decode (mB 27) 22 = .ok (.aload_n 0, 1) := by decide +kernel
theorem s27_22 {l1 l2 l3 : Option Value} {st : List Value} {x : Nat} {m : kMem} {Q : Option Value → kMem → Prop} : kJ 27 22 [some (.ref x), l1, l2, l3] st m Q = kJ 27 23 [some (.ref x), l1, l2, l3] (.ref x :: st) m Q := kJ_next d27_22 rfl
theorem d27_23 : decode (mB 27) 23 = .ok (.getfield 43, 3) := by decide +kernel
theorem s27_23 {l0 l1 l2 l3 : Option Value} {st : List Value} {q : Nat} {mi : Nat → Nat → Int32} {ml : Nat → Nat → Int64} {mr : Nat → Nat → Option Nat} {nx : Nat} {Q : Option Value → kMem → Prop} (h : kIs nx q 1 = true) : kJ 27 23 [l0, l1, l2, l3] (.ref q :: st) (mi, ml, mr, nx) Q = kJ 27 26 [l0, l1, l2, l3] (va_rf (mr q 14) :: st) (mi, ml, mr, nx) Q := kJ_next d27_23 (kg_getr 1 14 rfl h (by decide))
theorem d27_26 : decode (mB 27) 26 = .ok (.iload_n 3, 1) := by decide +kernel
theorem s27_26 {l0 l1 l2 : Option Value} {st : List Value} {x : Int32} {m : kMem} {Q : Option Value → kMem → Prop} : kJ 27 26 [l0, l1, l2, some (.int x)] st m Q = kJ 27 27 [l0, l1, l2, some (.int x)] (.int x :: st) m Q := kJ_next d27_26 rfl
theorem d27_27 : decode (mB 27) 27 = .ok (.iaload, 1) := by decide +kernel
theorem s27_27 {l0 l1 l2 l3 : Option Value} {st : List Value} {q : Nat} {i : Int32} {mi : Nat → Nat → Int32} {ml : Nat → Nat → Int64} {mr : Nat → Nat → Option Nat} {nx : Nat} {Q : Option Value → kMem → Prop} (h : kIs nx q 10 = true) : kJ 27 27 [l0, l1, l2, l3] (.int i :: .ref q :: st) (mi, ml, mr, nx) Q = (vp_in i (kAl q) ∧ kJ 27 28 [l0, l1, l2, l3] (.int (mi q i.toNatClampNeg) :: st) (mi, ml, mr, nx) Q) := kg_aldJ d27_27 rfl (kAr_of h)
theorem d27_28 : decode (mB 27) 28 = .ok (.iload_n 2, 1) := by decide +kernel
theorem s27_28 {l0 l1 l3 : Option Value} {st : List Value} {x : Int32} {m : kMem} {Q : Option Value → kMem → Prop} : kJ 27 28 [l0, l1, some (.int x), l3] st m Q = kJ 27 29 [l0, l1, some (.int x), l3] (.int x :: st) m Q := kJ_next d27_28 rfl
theorem d27_29 : decode (mB 27) 29 = .ok (.if_icmp .ne 25, 3) := by decide +kernel
theorem s27_29 {l0 l1 l2 l3 : Option Value} {st : List Value} {a b : Int32} {m : kMem} {Q : Option Value → kMem → Prop} : kJ 27 29 [l0, l1, l2, l3] (.int b :: .int a :: st) m Q = (if a = b then kJ 27 32 [l0, l1, l2, l3] st m Q else kJ 27 54 [l0, l1, l2, l3] st m Q) := kJ_if d27_29 rfl (fun h => kJ_next d27_29 h) (fun h => kJ_next d27_29 h)
theorem d27_32 : decode (mB 27) 32 = .ok (.aload_n 0, 1) := by decide +kernel
theorem s27_32 {l1 l2 l3 : Option Value} {st : List Value} {x : Nat} {m : kMem} {Q : Option Value → kMem → Prop} : kJ 27 32 [some (.ref x), l1, l2, l3] st m Q = kJ 27 33 [some (.ref x), l1, l2, l3] (.ref x :: st) m Q := kJ_next d27_32 rfl
theorem d27_33 : decode (mB 27) 33 = .ok (.getfield 18, 3) := by decide +kernel
theorem s27_33 {l0 l1 l2 l3 : Option Value} {st : List Value} {q : Nat} {mi : Nat → Nat → Int32} {ml : Nat → Nat → Int64} {mr : Nat → Nat → Option Nat} {nx : Nat} {Q : Option Value → kMem → Prop} (h : kIs nx q 1 = true) : kJ 27 33 [l0, l1, l2, l3] (.ref q :: st) (mi, ml, mr, nx) Q = kJ 27 36 [l0, l1, l2, l3] (va_rf (mr q 3) :: st) (mi, ml, mr, nx) Q := kJ_next d27_33 (kg_getr 1 3 rfl h (by decide))
theorem d27_36 : decode (mB 27) 36 = .ok (.aload_n 0, 1) := by decide +kernel
theorem s27_36 {l1 l2 l3 : Option Value} {st : List Value} {x : Nat} {m : kMem} {Q : Option Value → kMem → Prop} : kJ 27 36 [some (.ref x), l1, l2, l3] st m Q = kJ 27 37 [some (.ref x), l1, l2, l3] (.ref x :: st) m Q := kJ_next d27_36 rfl
theorem d27_37 : decode (mB 27) 37 = .ok (.getfield 46, 3) := by decide +kernel
theorem s27_37 {l0 l1 l2 l3 : Option Value} {st : List Value} {q : Nat} {mi : Nat → Nat → Int32} {ml : Nat → Nat → Int64} {mr : Nat → Nat → Option Nat} {nx : Nat} {Q : Option Value → kMem → Prop} (h : kIs nx q 1 = true) : kJ 27 37 [l0, l1, l2, l3] (.ref q :: st) (mi, ml, mr, nx) Q = kJ 27 40 [l0, l1, l2, l3] (va_rf (mr q 15) :: st) (mi, ml, mr, nx) Q := kJ_next d27_37 (kg_getr 1 15 rfl h (by decide))
theorem d27_40 : decode (mB 27) 40 = .ok (.iload_n 3, 1) := by decide +kernel
theorem s27_40 {l0 l1 l2 : Option Value} {st : List Value} {x : Int32} {m : kMem} {Q : Option Value → kMem → Prop} : kJ 27 40 [l0, l1, l2, some (.int x)] st m Q = kJ 27 41 [l0, l1, l2, some (.int x)] (.int x :: st) m Q := kJ_next d27_40 rfl
theorem d27_41 : decode (mB 27) 41 = .ok (.iaload, 1) := by decide +kernel
theorem s27_41 {l0 l1 l2 l3 : Option Value} {st : List Value} {q : Nat} {i : Int32} {mi : Nat → Nat → Int32} {ml : Nat → Nat → Int64} {mr : Nat → Nat → Option Nat} {nx : Nat} {Q : Option Value → kMem → Prop} (h : kIs nx q 10 = true) : kJ 27 41 [l0, l1, l2, l3] (.int i :: .ref q :: st) (mi, ml, mr, nx) Q = (vp_in i (kAl q) ∧ kJ 27 42 [l0, l1, l2, l3] (.int (mi q i.toNatClampNeg) :: st) (mi, ml, mr, nx) Q) := kg_aldJ d27_41 rfl (kAr_of h)
theorem d27_42 : decode (mB 27) 42 = .ok (.iaload, 1) := by decide +kernel
theorem s27_42 {l0 l1 l2 l3 : Option Value} {st : List Value} {q : Nat} {i : Int32} {mi : Nat → Nat → Int32} {ml : Nat → Nat → Int64} {mr : Nat → Nat → Option Nat} {nx : Nat} {Q : Option Value → kMem → Prop} (h : kIs nx q 10 = true) : kJ 27 42 [l0, l1, l2, l3] (.int i :: .ref q :: st) (mi, ml, mr, nx) Q = (vp_in i (kAl q) ∧ kJ 27 43 [l0, l1, l2, l3] (.int (mi q i.toNatClampNeg) :: st) (mi, ml, mr, nx) Q) := kg_aldJ d27_42 rfl (kAr_of h)
theorem d27_43 : decode (mB 27) 43 = .ok (.aload_n 0, 1) := by decide +kernel
theorem s27_43 {l1 l2 l3 : Option Value} {st : List Value} {x : Nat} {m : kMem} {Q : Option Value → kMem → Prop} : kJ 27 43 [some (.ref x), l1, l2, l3] st m Q = kJ 27 44 [some (.ref x), l1, l2, l3] (.ref x :: st) m Q := kJ_next d27_43 rfl
theorem d27_44 : decode (mB 27) 44 = .ok (.getfield 49, 3) := by decide +kernel
theorem s27_44 {l0 l1 l2 l3 : Option Value} {st : List Value} {q : Nat} {mi : Nat → Nat → Int32} {ml : Nat → Nat → Int64} {mr : Nat → Nat → Option Nat} {nx : Nat} {Q : Option Value → kMem → Prop} (h : kIs nx q 1 = true) : kJ 27 44 [l0, l1, l2, l3] (.ref q :: st) (mi, ml, mr, nx) Q = kJ 27 47 [l0, l1, l2, l3] (va_rf (mr q 16) :: st) (mi, ml, mr, nx) Q := kJ_next d27_44 (kg_getr 1 16 rfl h (by decide))
theorem d27_47 : decode (mB 27) 47 = .ok (.iload_n 3, 1) := by decide +kernel
theorem s27_47 {l0 l1 l2 : Option Value} {st : List Value} {x : Int32} {m : kMem} {Q : Option Value → kMem → Prop} : kJ 27 47 [l0, l1, l2, some (.int x)] st m Q = kJ 27 48 [l0, l1, l2, some (.int x)] (.int x :: st) m Q := kJ_next d27_47 rfl
theorem d27_48 : decode (mB 27) 48 = .ok (.iaload, 1) := by decide +kernel
theorem s27_48 {l0 l1 l2 l3 : Option Value} {st : List Value} {q : Nat} {i : Int32} {mi : Nat → Nat → Int32} {ml : Nat → Nat → Int64} {mr : Nat → Nat → Option Nat} {nx : Nat} {Q : Option Value → kMem → Prop} (h : kIs nx q 10 = true) : kJ 27 48 [l0, l1, l2, l3] (.int i :: .ref q :: st) (mi, ml, mr, nx) Q = (vp_in i (kAl q) ∧ kJ 27 49 [l0, l1, l2, l3] (.int (mi q i.toNatClampNeg) :: st) (mi, ml, mr, nx) Q) := kg_aldJ d27_48 rfl (kAr_of h)
theorem d27_49 : decode (mB 27) 49 = .ok (.if_icmp .eq 5, 3) := by decide +kernel
theorem s27_49 {l0 l1 l2 l3 : Option Value} {st : List Value} {a b : Int32} {m : kMem} {Q : Option Value → kMem → Prop} : kJ 27 49 [l0, l1, l2, l3] (.int b :: .int a :: st) m Q = (if a = b then kJ 27 54 [l0, l1, l2, l3] st m Q else kJ 27 52 [l0, l1, l2, l3] st m Q) := kJ_if d27_49 rfl (fun h => kJ_next d27_49 h) (fun h => kJ_next d27_49 h)
theorem d27_52 : decode (mB 27) 52 = .ok (.iconst 0, 1) := by decide +kernel
theorem s27_52 {l0 l1 l2 l3 : Option Value} {st : List Value} {m : kMem} {Q : Option Value → kMem → Prop} : kJ 27 52 [l0, l1, l2, l3] st m Q = kJ 27 53 [l0, l1, l2, l3] (.int (nI 0) :: st) m Q := kJ_next d27_52 rfl
theorem d27_53 : decode (mB 27) 53 = .ok (.ireturn, 1) := by decide +kernel
theorem s27_53 {l0 l1 l2 l3 : Option Value} {x : Int32} {m : kMem} {Q : Option Value → kMem → Prop} (hx : x = 0 ∨ x = 1) : kJ 27 53 [l0, l1, l2, l3] [.int x] m Q = Q (some (.int x)) m := kJ_ret d27_53 (kg_retz (by decide) hx)
theorem d27_54 : decode (mB 27) 54 = .ok (.iinc 3 1, 3) := by decide +kernel
theorem s27_54 {l0 l1 l2 : Option Value} {st : List Value} {x : Int32} {m : kMem} {Q : Option Value → kMem → Prop} (hp : kNL l2 = true) : kJ 27 54 [l0, l1, l2, some (.int x)] st m Q = kJ 27 57 [l0, l1, l2, some (.int (x + (nI 1)))] st m Q := kJ_next d27_54 (kg_inc rfl (Nat.le_of_ble_eq_true rfl) hp)
theorem d27_57 : decode (mB 27) 57 = .ok (.goto (-43), 3) := by decide +kernel
theorem s27_57 {l0 l1 l2 l3 : Option Value} {st : List Value} {m : kMem} {Q : Option Value → kMem → Prop} : kJ 27 57 [l0, l1, l2, l3] st m Q = kJ 27 14 [l0, l1, l2, l3] st m Q := kJ_next d27_57 rfl
theorem d27_60 : decode (mB 27) 60 = .ok (.aload_n 0, 1) := by decide +kernel
theorem s27_60 {l1 l2 l3 : Option Value} {st : List Value} {x : Nat} {m : kMem} {Q : Option Value → kMem → Prop} : kJ 27 60 [some (.ref x), l1, l2, l3] st m Q = kJ 27 61 [some (.ref x), l1, l2, l3] (.ref x :: st) m Q := kJ_next d27_60 rfl
theorem d27_61 : decode (mB 27) 61 = .ok (.iconst 1, 1) := by decide +kernel
theorem s27_61 {l0 l1 l2 l3 : Option Value} {st : List Value} {m : kMem} {Q : Option Value → kMem → Prop} : kJ 27 61 [l0, l1, l2, l3] st m Q = kJ 27 62 [l0, l1, l2, l3] (.int (nI 1) :: st) m Q := kJ_next d27_61 rfl
theorem d27_62 : decode (mB 27) 62 = .ok (.invokevirtual 102, 3) := by decide +kernel
theorem s27_62 {l0 l1 l2 l3 : Option Value} {v0 : Int32} {v1 : Nat} {m : kMem} {Q : Option Value → kMem → Prop} (h : kIs m.2.2.2 v1 1 = true) : kJ 27 62 [l0, l1, l2, l3] [.int v0, .ref v1] m Q = kJ 20 0 [some (.ref v1), some (.int v0), none] [] m (fun v m2 => kJ 27 65 [l0, l1, l2, l3] (v.toList ++ []) m2 Q) := kJ_call d27_62 (kg_callv 20 1 rfl rfl rfl rfl (Nat.le_of_ble_eq_true rfl) (Nat.le_of_ble_eq_true rfl) (Nat.le_of_ble_eq_true rfl) h rfl)
theorem d27_65 : decode (mB 27) 65 = .ok (.iinc 2 1, 3) := by decide +kernel
theorem s27_65 {l0 l1 l3 : Option Value} {st : List Value} {x : Int32} {m : kMem} {Q : Option Value → kMem → Prop} (hp : kNL l1 = true) : kJ 27 65 [l0, l1, some (.int x), l3] st m Q = kJ 27 68 [l0, l1, some (.int (x + (nI 1))), l3] st m Q := kJ_next d27_65 (kg_inc rfl (Nat.le_of_ble_eq_true rfl) hp)
theorem d27_68 : decode (mB 27) 68 = .ok (.goto (-61), 3) := by decide +kernel
theorem s27_68 {l0 l1 l2 l3 : Option Value} {st : List Value} {m : kMem} {Q : Option Value → kMem → Prop} : kJ 27 68 [l0, l1, l2, l3] st m Q = kJ 27 7 [l0, l1, l2, l3] st m Q := kJ_next d27_68 rfl
theorem d27_71 : decode (mB 27) 71 = .ok (.iconst 1, 1) := by decide +kernel
theorem s27_71 {l0 l1 l2 l3 : Option Value} {st : List Value} {m : kMem} {Q : Option Value → kMem → Prop} : kJ 27 71 [l0, l1, l2, l3] st m Q = kJ 27 72 [l0, l1, l2, l3] (.int (nI 1) :: st) m Q := kJ_next d27_71 rfl
theorem d27_72 : decode (mB 27) 72 = .ok (.ireturn, 1) := by decide +kernel
theorem s27_72 {l0 l1 l2 l3 : Option Value} {x : Int32} {m : kMem} {Q : Option Value → kMem → Prop} (hx : x = 0 ∨ x = 1) : kJ 27 72 [l0, l1, l2, l3] [.int x] m Q = Q (some (.int x)) m := kJ_ret d27_72 (kg_retz (by decide) hx)
theorem d28_0 : decode (mB 28) 0 = .ok (.iconst (-1), 1) := by decide +kernel
theorem s28_0 {l0 l1 l2 : Option Value} {st : List Value} {m : kMem} {Q : Option Value → kMem → Prop} : kJ 28 0 [l0, l1, l2] st m Q = kJ 28 1 [l0, l1, l2] (.int (-1) :: st) m Q := kJ_next d28_0 rfl
theorem d28_1 : decode (mB 28) 1 = .ok (.istore_n 1, 1) := by decide +kernel
theorem s28_1 {l0 l1 l2 : Option Value} {st : List Value} {x : Int32} {m : kMem} {Q : Option Value → kMem → Prop} (hp : kNL l0 = true) : kJ 28 1 [l0, l1, l2] (.int x :: st) m Q = kJ 28 2 [l0, some (.int x), l2] st m Q := kJ_next d28_1 (kg_sti (Nat.le_of_ble_eq_true rfl) hp)
theorem d28_2 : decode (mB 28) 2 = .ok (.iconst 0, 1) := by decide +kernel
theorem s28_2 {l0 l1 l2 : Option Value} {st : List Value} {m : kMem} {Q : Option Value → kMem → Prop} : kJ 28 2 [l0, l1, l2] st m Q = kJ 28 3 [l0, l1, l2] (.int (nI 0) :: st) m Q := kJ_next d28_2 rfl
theorem d28_3 : decode (mB 28) 3 = .ok (.istore_n 2, 1) := by decide +kernel
theorem s28_3 {l0 l1 l2 : Option Value} {st : List Value} {x : Int32} {m : kMem} {Q : Option Value → kMem → Prop} (hp : kNL l1 = true) : kJ 28 3 [l0, l1, l2] (.int x :: st) m Q = kJ 28 4 [l0, l1, some (.int x)] st m Q := kJ_next d28_3 (kg_sti (Nat.le_of_ble_eq_true rfl) hp)
theorem d28_4 : decode (mB 28) 4 = .ok (.iload_n 2, 1) := by decide +kernel
theorem s28_4 {l0 l1 : Option Value} {st : List Value} {x : Int32} {m : kMem} {Q : Option Value → kMem → Prop} : kJ 28 4 [l0, l1, some (.int x)] st m Q = kJ 28 5 [l0, l1, some (.int x)] (.int x :: st) m Q := kJ_next d28_4 rfl
theorem d28_5 : decode (mB 28) 5 = .ok (.aload_n 0, 1) := by decide +kernel
theorem s28_5 {l1 l2 : Option Value} {st : List Value} {x : Nat} {m : kMem} {Q : Option Value → kMem → Prop} : kJ 28 5 [some (.ref x), l1, l2] st m Q = kJ 28 6 [some (.ref x), l1, l2] (.ref x :: st) m Q := kJ_next d28_5 rfl
theorem d28_6 : decode (mB 28) 6 = .ok (.getfield 61, 3) := by decide +kernel
theorem s28_6 {l0 l1 l2 : Option Value} {st : List Value} {q : Nat} {mi : Nat → Nat → Int32} {ml : Nat → Nat → Int64} {mr : Nat → Nat → Option Nat} {nx : Nat} {Q : Option Value → kMem → Prop} (h : kIs nx q 1 = true) : kJ 28 6 [l0, l1, l2] (.ref q :: st) (mi, ml, mr, nx) Q = kJ 28 9 [l0, l1, l2] (.int (mi q 13) :: st) (mi, ml, mr, nx) Q := kJ_next d28_6 (kg_geti 1 13 rfl h (by decide))
theorem d28_9 : decode (mB 28) 9 = .ok (.if_icmp .ge 20, 3) := by decide +kernel
theorem s28_9 {l0 l1 l2 : Option Value} {st : List Value} {a b : Int32} {m : kMem} {Q : Option Value → kMem → Prop} : kJ 28 9 [l0, l1, l2] (.int b :: .int a :: st) m Q = (if b ≤ a then kJ 28 29 [l0, l1, l2] st m Q else kJ 28 12 [l0, l1, l2] st m Q) := kJ_if d28_9 rfl (fun h => kJ_next d28_9 h) (fun h => kJ_next d28_9 h)
theorem d28_12 : decode (mB 28) 12 = .ok (.iload_n 1, 1) := by decide +kernel
theorem s28_12 {l0 l2 : Option Value} {st : List Value} {x : Int32} {m : kMem} {Q : Option Value → kMem → Prop} : kJ 28 12 [l0, some (.int x), l2] st m Q = kJ 28 13 [l0, some (.int x), l2] (.int x :: st) m Q := kJ_next d28_12 rfl
theorem d28_13 : decode (mB 28) 13 = .ok (.aload_n 0, 1) := by decide +kernel
theorem s28_13 {l1 l2 : Option Value} {st : List Value} {x : Nat} {m : kMem} {Q : Option Value → kMem → Prop} : kJ 28 13 [some (.ref x), l1, l2] st m Q = kJ 28 14 [some (.ref x), l1, l2] (.ref x :: st) m Q := kJ_next d28_13 rfl
theorem d28_14 : decode (mB 28) 14 = .ok (.getfield 43, 3) := by decide +kernel
theorem s28_14 {l0 l1 l2 : Option Value} {st : List Value} {q : Nat} {mi : Nat → Nat → Int32} {ml : Nat → Nat → Int64} {mr : Nat → Nat → Option Nat} {nx : Nat} {Q : Option Value → kMem → Prop} (h : kIs nx q 1 = true) : kJ 28 14 [l0, l1, l2] (.ref q :: st) (mi, ml, mr, nx) Q = kJ 28 17 [l0, l1, l2] (va_rf (mr q 14) :: st) (mi, ml, mr, nx) Q := kJ_next d28_14 (kg_getr 1 14 rfl h (by decide))
theorem d28_17 : decode (mB 28) 17 = .ok (.iload_n 2, 1) := by decide +kernel
theorem s28_17 {l0 l1 : Option Value} {st : List Value} {x : Int32} {m : kMem} {Q : Option Value → kMem → Prop} : kJ 28 17 [l0, l1, some (.int x)] st m Q = kJ 28 18 [l0, l1, some (.int x)] (.int x :: st) m Q := kJ_next d28_17 rfl
theorem d28_18 : decode (mB 28) 18 = .ok (.iaload, 1) := by decide +kernel
theorem s28_18 {l0 l1 l2 : Option Value} {st : List Value} {q : Nat} {i : Int32} {mi : Nat → Nat → Int32} {ml : Nat → Nat → Int64} {mr : Nat → Nat → Option Nat} {nx : Nat} {Q : Option Value → kMem → Prop} (h : kIs nx q 10 = true) : kJ 28 18 [l0, l1, l2] (.int i :: .ref q :: st) (mi, ml, mr, nx) Q = (vp_in i (kAl q) ∧ kJ 28 19 [l0, l1, l2] (.int (mi q i.toNatClampNeg) :: st) (mi, ml, mr, nx) Q) := kg_aldJ d28_18 rfl (kAr_of h)
theorem d28_19 : decode (mB 28) 19 = .ok (.invokestatic 121, 3) := by decide +kernel
theorem s28_19 {l0 l1 l2 : Option Value}  {a b : Int32} {m : kMem} {Q : Option Value → kMem → Prop} : kJ 28 19 [l0, l1, l2] [.int b, .int a] m Q = kJ 28 22 [l0, l1, l2] [.int (if a < b then b else a)] m Q := kJ_next d28_19 (kg_max rfl rfl (Nat.le_of_ble_eq_true rfl))
theorem d28_22 : decode (mB 28) 22 = .ok (.istore_n 1, 1) := by decide +kernel
theorem s28_22 {l0 l1 l2 : Option Value} {st : List Value} {x : Int32} {m : kMem} {Q : Option Value → kMem → Prop} (hp : kNL l0 = true) : kJ 28 22 [l0, l1, l2] (.int x :: st) m Q = kJ 28 23 [l0, some (.int x), l2] st m Q := kJ_next d28_22 (kg_sti (Nat.le_of_ble_eq_true rfl) hp)
theorem d28_23 : decode (mB 28) 23 = .ok (.iinc 2 1, 3) := by decide +kernel
theorem s28_23 {l0 l1 : Option Value} {st : List Value} {x : Int32} {m : kMem} {Q : Option Value → kMem → Prop} (hp : kNL l1 = true) : kJ 28 23 [l0, l1, some (.int x)] st m Q = kJ 28 26 [l0, l1, some (.int (x + (nI 1)))] st m Q := kJ_next d28_23 (kg_inc rfl (Nat.le_of_ble_eq_true rfl) hp)
theorem d28_26 : decode (mB 28) 26 = .ok (.goto (-22), 3) := by decide +kernel
theorem s28_26 {l0 l1 l2 : Option Value} {st : List Value} {m : kMem} {Q : Option Value → kMem → Prop} : kJ 28 26 [l0, l1, l2] st m Q = kJ 28 4 [l0, l1, l2] st m Q := kJ_next d28_26 rfl
theorem d28_29 : decode (mB 28) 29 = .ok (.iload_n 1, 1) := by decide +kernel
theorem s28_29 {l0 l2 : Option Value} {st : List Value} {x : Int32} {m : kMem} {Q : Option Value → kMem → Prop} : kJ 28 29 [l0, some (.int x), l2] st m Q = kJ 28 30 [l0, some (.int x), l2] (.int x :: st) m Q := kJ_next d28_29 rfl
theorem d28_30 : decode (mB 28) 30 = .ok (.ireturn, 1) := by decide +kernel
theorem s28_30 {l0 l1 l2 : Option Value} {x : Int32} {m : kMem} {Q : Option Value → kMem → Prop} : kJ 28 30 [l0, l1, l2] [.int x] m Q = Q (some (.int x)) m := kJ_ret d28_30 rfl
