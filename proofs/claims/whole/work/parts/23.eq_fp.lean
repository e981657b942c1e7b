theorem d51_0 : decode (mB 51) 0 = .ok (.aload_n 0, 1) := by decide +kernel
theorem s51_0 {l1 : Option Value} {st : List Value} {x : Nat} {m : kMem} {Q : Option Value → kMem → Prop} : kJ 51 0 [some (.ref x), l1] st m Q = kJ 51 1 [some (.ref x), l1] (.ref x :: st) m Q := kJ_next d51_0 rfl
theorem d51_1 : decode (mB 51) 1 = .ok (.invokespecial 1, 3) := by decide +kernel
theorem s51_1 {l0 l1 : Option Value}  {q : Nat} {m : kMem} {Q : Option Value → kMem → Prop} : kJ 51 1 [l0, l1] [.ref q] m Q = kJ 51 4 [l0, l1] [] m Q := kJ_next d51_1 (kg_obj rfl rfl (Nat.le_of_ble_eq_true rfl))
theorem d51_4 : decode (mB 51) 4 = .ok (.aload_n 0, 1) := by decide +kernel
theorem s51_4 {l1 : Option Value} {st : List Value} {x : Nat} {m : kMem} {Q : Option Value → kMem → Prop} : kJ 51 4 [some (.ref x), l1] st m Q = kJ 51 5 [some (.ref x), l1] (.ref x :: st) m Q := kJ_next d51_4 rfl
theorem d51_5 : decode (mB 51) 5 = .ok (.new 7, 3) := by decide +kernel
theorem s51_5 {l0 l1 : Option Value} {st : List Value} {mi : Nat → Nat → Int32} {ml : Nat → Nat → Int64} {mr : Nat → Nat → Option Nat} {nx : Nat} {Q : Option Value → kMem → Prop} (h : nx < 95) (h2 : (kAt nx).1 = 1) : kJ 51 5 [l0, l1] st (mi, ml, mr, nx) Q = kJ 51 8 [l0, l1] (.ref nx :: st) (kRow mi nx (fun _ => 0), kRow ml nx (fun _ => 0), kRow mr nx (fun _ => none), nx + 1) Q := kJ_next d51_5 (kg_new 1 rfl h h2 (by decide))
theorem d51_8 : decode (mB 51) 8 = .ok (.dup, 1) := by decide +kernel
theorem s51_8 {l0 l1 : Option Value} {st : List Value} {a : Nat} {m : kMem} {Q : Option Value → kMem → Prop} : kJ 51 8 [l0, l1] (.ref a :: st) m Q = kJ 51 9 [l0, l1] (.ref a :: .ref a :: st) m Q := kJ_next d51_8 rfl
theorem d51_9 : decode (mB 51) 9 = .ok (.invokespecial 9, 3) := by decide +kernel
theorem s51_9 {l0 l1 : Option Value} {v0 : Nat} {v1 : Nat} {v2 : Nat} {m : kMem} {Q : Option Value → kMem → Prop} (h : kIs m.2.2.2 v0 1 = true) : kJ 51 9 [l0, l1] [.ref v0, .ref v1, .ref v2] m Q = kJ 4 0 [some (.ref v0)] [] m (fun v m2 => kJ 51 12 [l0, l1] (v.toList ++ [.ref v1, .ref v2]) m2 Q) := kJ_call d51_9 (kg_spec 4 0 rfl rfl rfl rfl (Nat.le_of_ble_eq_true rfl) (Nat.le_of_ble_eq_true rfl) (Nat.le_of_ble_eq_true rfl) h rfl)
theorem d51_12 : decode (mB 51) 12 = .ok (.putfield 10, 3) := by decide +kernel
theorem s51_12 {l0 l1 : Option Value} {st : List Value} {q : Nat} {x : Nat} {mi : Nat → Nat → Int32} {ml : Nat → Nat → Int64} {mr : Nat → Nat → Option Nat} {nx : Nat} {Q : Option Value → kMem → Prop} (h : kIs nx q 4 = true) (hx : x < 1000) : kJ 51 12 [l0, l1] (.ref x :: .ref q :: st) (mi, ml, mr, nx) Q = kJ 51 15 [l0, l1] st (mi, ml, kupR mr q 0 (some x), nx) Q := kJ_next d51_12 (kg_putr 4 0 rfl h (by decide) (by decide) rfl rfl hx)
theorem d51_15 : decode (mB 51) 15 = .ok (.aload_n 0, 1) := by decide +kernel
theorem s51_15 {l1 : Option Value} {st : List Value} {x : Nat} {m : kMem} {Q : Option Value → kMem → Prop} : kJ 51 15 [some (.ref x), l1] st m Q = kJ 51 16 [some (.ref x), l1] (.ref x :: st) m Q := kJ_next d51_15 rfl
theorem d51_16 : decode (mB 51) 16 = .ok (.new 7, 3) := by decide +kernel
theorem s51_16 {l0 l1 : Option Value} {st : List Value} {mi : Nat → Nat → Int32} {ml : Nat → Nat → Int64} {mr : Nat → Nat → Option Nat} {nx : Nat} {Q : Option Value → kMem → Prop} (h : nx < 95) (h2 : (kAt nx).1 = 1) : kJ 51 16 [l0, l1] st (mi, ml, mr, nx) Q = kJ 51 19 [l0, l1] (.ref nx :: st) (kRow mi nx (fun _ => 0), kRow ml nx (fun _ => 0), kRow mr nx (fun _ => none), nx + 1) Q := kJ_next d51_16 (kg_new 1 rfl h h2 (by decide))
theorem d51_19 : decode (mB 51) 19 = .ok (.dup, 1) := by decide +kernel
theorem s51_19 {l0 l1 : Option Value} {st : List Value} {a : Nat} {m : kMem} {Q : Option Value → kMem → Prop} : kJ 51 19 [l0, l1] (.ref a :: st) m Q = kJ 51 20 [l0, l1] (.ref a :: .ref a :: st) m Q := kJ_next d51_19 rfl
theorem d51_20 : decode (mB 51) 20 = .ok (.invokespecial 9, 3) := by decide +kernel
theorem s51_20 {l0 l1 : Option Value} {v0 : Nat} {v1 : Nat} {v2 : Nat} {m : kMem} {Q : Option Value → kMem → Prop} (h : kIs m.2.2.2 v0 1 = true) : kJ 51 20 [l0, l1] [.ref v0, .ref v1, .ref v2] m Q = kJ 4 0 [some (.ref v0)] [] m (fun v m2 => kJ 51 23 [l0, l1] (v.toList ++ [.ref v1, .ref v2]) m2 Q) := kJ_call d51_20 (kg_spec 4 0 rfl rfl rfl rfl (Nat.le_of_ble_eq_true rfl) (Nat.le_of_ble_eq_true rfl) (Nat.le_of_ble_eq_true rfl) h rfl)
theorem d51_23 : decode (mB 51) 23 = .ok (.putfield 16, 3) := by decide +kernel
theorem s51_23 {l0 l1 : Option Value} {st : List Value} {q : Nat} {x : Nat} {mi : Nat → Nat → Int32} {ml : Nat → Nat → Int64} {mr : Nat → Nat → Option Nat} {nx : Nat} {Q : Option Value → kMem → Prop} (h : kIs nx q 4 = true) (hx : x < 1000) : kJ 51 23 [l0, l1] (.ref x :: .ref q :: st) (mi, ml, mr, nx) Q = kJ 51 26 [l0, l1] st (mi, ml, kupR mr q 1 (some x), nx) Q := kJ_next d51_23 (kg_putr 4 1 rfl h (by decide) (by decide) rfl rfl hx)
theorem d51_26 : decode (mB 51) 26 = .ok (.aload_n 0, 1) := by decide +kernel
theorem s51_26 {l1 : Option Value} {st : List Value} {x : Nat} {m : kMem} {Q : Option Value → kMem → Prop} : kJ 51 26 [some (.ref x), l1] st m Q = kJ 51 27 [some (.ref x), l1] (.ref x :: st) m Q := kJ_next d51_26 rfl
theorem d51_27 : decode (mB 51) 27 = .ok (.new 19, 3) := by decide +kernel
theorem s51_27 {l0 l1 : Option Value} {st : List Value} {mi : Nat → Nat → Int32} {ml : Nat → Nat → Int64} {mr : Nat → Nat → Option Nat} {nx : Nat} {Q : Option Value → kMem → Prop} (h : nx < 95) (h2 : (kAt nx).1 = 0) : kJ 51 27 [l0, l1] st (mi, ml, mr, nx) Q = kJ 51 30 [l0, l1] (.ref nx :: st) (kRow mi nx (fun _ => 0), kRow ml nx (fun _ => 0), kRow mr nx (fun _ => none), nx + 1) Q := kJ_next d51_27 (kg_new 0 rfl h h2 (by decide))
theorem d51_30 : decode (mB 51) 30 = .ok (.dup, 1) := by decide +kernel
theorem s51_30 {l0 l1 : Option Value} {st : List Value} {a : Nat} {m : kMem} {Q : Option Value → kMem → Prop} : kJ 51 30 [l0, l1] (.ref a :: st) m Q = kJ 51 31 [l0, l1] (.ref a :: .ref a :: st) m Q := kJ_next d51_30 rfl
theorem d51_31 : decode (mB 51) 31 = .ok (.invokespecial 21, 3) := by decide +kernel
theorem s51_31 {l0 l1 : Option Value} {v0 : Nat} {v1 : Nat} {v2 : Nat} {m : kMem} {Q : Option Value → kMem → Prop} (h : kIs m.2.2.2 v0 0 = true) : kJ 51 31 [l0, l1] [.ref v0, .ref v1, .ref v2] m Q = kJ 0 0 [some (.ref v0)] [] m (fun v m2 => kJ 51 34 [l0, l1] (v.toList ++ [.ref v1, .ref v2]) m2 Q) := kJ_call d51_31 (kg_spec 0 0 rfl rfl rfl rfl (Nat.le_of_ble_eq_true rfl) (Nat.le_of_ble_eq_true rfl) (Nat.le_of_ble_eq_true rfl) h rfl)
theorem d51_34 : decode (mB 51) 34 = .ok (.putfield 22, 3) := by decide +kernel
theorem s51_34 {l0 l1 : Option Value} {st : List Value} {q : Nat} {x : Nat} {mi : Nat → Nat → Int32} {ml : Nat → Nat → Int64} {mr : Nat → Nat → Option Nat} {nx : Nat} {Q : Option Value → kMem → Prop} (h : kIs nx q 4 = true) (hx : x < 1000) : kJ 51 34 [l0, l1] (.ref x :: .ref q :: st) (mi, ml, mr, nx) Q = kJ 51 37 [l0, l1] st (mi, ml, kupR mr q 2 (some x), nx) Q := kJ_next d51_34 (kg_putr 4 2 rfl h (by decide) (by decide) rfl rfl hx)
theorem d51_37 : decode (mB 51) 37 = .ok (.aload_n 0, 1) := by decide +kernel
theorem s51_37 {l1 : Option Value} {st : List Value} {x : Nat} {m : kMem} {Q : Option Value → kMem → Prop} : kJ 51 37 [some (.ref x), l1] st m Q = kJ 51 38 [some (.ref x), l1] (.ref x :: st) m Q := kJ_next d51_37 rfl
theorem d51_38 : decode (mB 51) 38 = .ok (.new 26, 3) := by decide +kernel
theorem s51_38 {l0 l1 : Option Value} {st : List Value} {mi : Nat → Nat → Int32} {ml : Nat → Nat → Int64} {mr : Nat → Nat → Option Nat} {nx : Nat} {Q : Option Value → kMem → Prop} (h : nx < 95) (h2 : (kAt nx).1 = 3) : kJ 51 38 [l0, l1] st (mi, ml, mr, nx) Q = kJ 51 41 [l0, l1] (.ref nx :: st) (kRow mi nx (fun _ => 0), kRow ml nx (fun _ => 0), kRow mr nx (fun _ => none), nx + 1) Q := kJ_next d51_38 (kg_new 3 rfl h h2 (by decide))
theorem d51_41 : decode (mB 51) 41 = .ok (.dup, 1) := by decide +kernel
theorem s51_41 {l0 l1 : Option Value} {st : List Value} {a : Nat} {m : kMem} {Q : Option Value → kMem → Prop} : kJ 51 41 [l0, l1] (.ref a :: st) m Q = kJ 51 42 [l0, l1] (.ref a :: .ref a :: st) m Q := kJ_next d51_41 rfl
theorem d51_42 : decode (mB 51) 42 = .ok (.invokespecial 28, 3) := by decide +kernel
theorem s51_42 {l0 l1 : Option Value} {v0 : Nat} {v1 : Nat} {v2 : Nat} {m : kMem} {Q : Option Value → kMem → Prop} (h : kIs m.2.2.2 v0 3 = true) : kJ 51 42 [l0, l1] [.ref v0, .ref v1, .ref v2] m Q = kJ 35 0 [some (.ref v0)] [] m (fun v m2 => kJ 51 45 [l0, l1] (v.toList ++ [.ref v1, .ref v2]) m2 Q) := kJ_call d51_42 (kg_spec 35 0 rfl rfl rfl rfl (Nat.le_of_ble_eq_true rfl) (Nat.le_of_ble_eq_true rfl) (Nat.le_of_ble_eq_true rfl) h rfl)
theorem d51_45 : decode (mB 51) 45 = .ok (.putfield 29, 3) := by decide +kernel
theorem s51_45 {l0 l1 : Option Value} {st : List Value} {q : Nat} {x : Nat} {mi : Nat → Nat → Int32} {ml : Nat → Nat → Int64} {mr : Nat → Nat → Option Nat} {nx : Nat} {Q : Option Value → kMem → Prop} (h : kIs nx q 4 = true) (hx : x < 1000) : kJ 51 45 [l0, l1] (.ref x :: .ref q :: st) (mi, ml, mr, nx) Q = kJ 51 48 [l0, l1] st (mi, ml, kupR mr q 3 (some x), nx) Q := kJ_next d51_45 (kg_putr 4 3 rfl h (by decide) (by decide) rfl rfl hx)
theorem d51_48 : decode (mB 51) 48 = .ok (.aload_n 0, 1) := by decide +kernel
theorem s51_48 {l1 : Option Value} {st : List Value} {x : Nat} {m : kMem} {Q : Option Value → kMem → Prop} : kJ 51 48 [some (.ref x), l1] st m Q = kJ 51 49 [some (.ref x), l1] (.ref x :: st) m Q := kJ_next d51_48 rfl
theorem d51_49 : decode (mB 51) 49 = .ok (.iconst 2, 1) := by decide +kernel
theorem s51_49 {l0 l1 : Option Value} {st : List Value} {m : kMem} {Q : Option Value → kMem → Prop} : kJ 51 49 [l0, l1] st m Q = kJ 51 50 [l0, l1] (.int (nI 2) :: st) m Q := kJ_next d51_49 rfl
theorem d51_50 : decode (mB 51) 50 = .ok (.anewarray 7, 3) := by decide +kernel
theorem s51_50 {l0 l1 : Option Value} {st : List Value} {n : Int32} {mi : Nat → Nat → Int32} {ml : Nat → Nat → Int64} {mr : Nat → Nat → Option Nat} {nx : Nat} {Q : Option Value → kMem → Prop} (h : nx < 95) (h2 : kAt nx = (12, n.toNatClampNeg)) (h3 : ¬ n < 0) (h4 : n.toNatClampNeg ≤ 2000) : kJ 51 50 [l0, l1] (.int n :: st) (mi, ml, mr, nx) Q = kJ 51 53 [l0, l1] (.ref nx :: st) (kRow mi nx (fun _ => 0), kRow ml nx (fun _ => 0), kRow mr nx (fun _ => none), nx + 1) Q := kJ_next d51_50 (kg_anew1 rfl h h2 h3 h4)
theorem d51_53 : decode (mB 51) 53 = .ok (.putfield 33, 3) := by decide +kernel
theorem s51_53 {l0 l1 : Option Value} {st : List Value} {q : Nat} {x : Nat} {mi : Nat → Nat → Int32} {ml : Nat → Nat → Int64} {mr : Nat → Nat → Option Nat} {nx : Nat} {Q : Option Value → kMem → Prop} (h : kIs nx q 4 = true) (hx : x < 1000) : kJ 51 53 [l0, l1] (.ref x :: .ref q :: st) (mi, ml, mr, nx) Q = kJ 51 56 [l0, l1] st (mi, ml, kupR mr q 4 (some x), nx) Q := kJ_next d51_53 (kg_putr 4 4 rfl h (by decide) (by decide) rfl rfl hx)
theorem d51_56 : decode (mB 51) 56 = .ok (.aload_n 0, 1) := by decide +kernel
theorem s51_56 {l1 : Option Value} {st : List Value} {x : Nat} {m : kMem} {Q : Option Value → kMem → Prop} : kJ 51 56 [some (.ref x), l1] st m Q = kJ 51 57 [some (.ref x), l1] (.ref x :: st) m Q := kJ_next d51_56 rfl
theorem d51_57 : decode (mB 51) 57 = .ok (.iconst 2, 1) := by decide +kernel
theorem s51_57 {l0 l1 : Option Value} {st : List Value} {m : kMem} {Q : Option Value → kMem → Prop} : kJ 51 57 [l0, l1] st m Q = kJ 51 58 [l0, l1] (.int (nI 2) :: st) m Q := kJ_next d51_57 rfl
theorem d51_58 : decode (mB 51) 58 = .ok (.newarray .boolean, 2) := by decide +kernel
theorem s51_58 {l0 l1 : Option Value} {st : List Value} {n : Int32} {mi : Nat → Nat → Int32} {ml : Nat → Nat → Int64} {mr : Nat → Nat → Option Nat} {nx : Nat} {Q : Option Value → kMem → Prop} (h : nx < 95) (h2 : kAt nx = (11, n.toNatClampNeg)) (h3 : ¬ n < 0) (h4 : n.toNatClampNeg ≤ 2000) : kJ 51 58 [l0, l1] (.int n :: st) (mi, ml, mr, nx) Q = kJ 51 60 [l0, l1] (.ref nx :: st) (kRow mi nx (fun _ => 0), kRow ml nx (fun _ => 0), kRow mr nx (fun _ => none), nx + 1) Q := kJ_next d51_58 (kg_newa h h2 h3 h4)
theorem d51_60 : decode (mB 51) 60 = .ok (.putfield 37, 3) := by decide +kernel
theorem s51_60 {l0 l1 : Option Value} {st : List Value} {q : Nat} {x : Nat} {mi : Nat → Nat → Int32} {ml : Nat → Nat → Int64} {mr : Nat → Nat → Option Nat} {nx : Nat} {Q : Option Value → kMem → Prop} (h : kIs nx q 4 = true) (hx : x < 1000) : kJ 51 60 [l0, l1] (.ref x :: .ref q :: st) (mi, ml, mr, nx) Q = kJ 51 63 [l0, l1] st (mi, ml, kupR mr q 5 (some x), nx) Q := kJ_next d51_60 (kg_putr 4 5 rfl h (by decide) (by decide) rfl rfl hx)
theorem d51_63 : decode (mB 51) 63 = .ok (.aload_n 0, 1) := by decide +kernel
theorem s51_63 {l1 : Option Value} {st : List Value} {x : Nat} {m : kMem} {Q : Option Value → kMem → Prop} : kJ 51 63 [some (.ref x), l1] st m Q = kJ 51 64 [some (.ref x), l1] (.ref x :: st) m Q := kJ_next d51_63 rfl
theorem d51_64 : decode (mB 51) 64 = .ok (.iconst 4, 1) := by decide +kernel
theorem s51_64 {l0 l1 : Option Value} {st : List Value} {m : kMem} {Q : Option Value → kMem → Prop} : kJ 51 64 [l0, l1] st m Q = kJ 51 65 [l0, l1] (.int (nI 4) :: st) m Q := kJ_next d51_64 rfl
theorem d51_65 : decode (mB 51) 65 = .ok (.anewarray 41, 3) := by decide +kernel
theorem s51_65 {l0 l1 : Option Value} {st : List Value} {n : Int32} {mi : Nat → Nat → Int32} {ml : Nat → Nat → Int64} {mr : Nat → Nat → Option Nat} {nx : Nat} {Q : Option Value → kMem → Prop} (h : nx < 95) (h2 : kAt nx = (13, n.toNatClampNeg)) (h3 : ¬ n < 0) (h4 : n.toNatClampNeg ≤ 2000) : kJ 51 65 [l0, l1] (.int n :: st) (mi, ml, mr, nx) Q = kJ 51 68 [l0, l1] (.ref nx :: st) (kRow mi nx (fun _ => 0), kRow ml nx (fun _ => 0), kRow mr nx (fun _ => none), nx + 1) Q := kJ_next d51_65 (kg_anew2 rfl h h2 h3 h4)
theorem d51_68 : decode (mB 51) 68 = .ok (.putfield 43, 3) := by decide +kernel
theorem s51_68 {l0 l1 : Option Value} {st : List Value} {q : Nat} {x : Nat} {mi : Nat → Nat → Int32} {ml : Nat → Nat → Int64} {mr : Nat → Nat → Option Nat} {nx : Nat} {Q : Option Value → kMem → Prop} (h : kIs nx q 4 = true) (hx : x < 1000) : kJ 51 68 [l0, l1] (.ref x :: .ref q :: st) (mi, ml, mr, nx) Q = kJ 51 71 [l0, l1] st (mi, ml, kupR mr q 6 (some x), nx) Q := kJ_next d51_68 (kg_putr 4 6 rfl h (by decide) (by decide) rfl rfl hx)
theorem d51_71 : decode (mB 51) 71 = .ok (.aload_n 0, 1) := by decide +kernel
theorem s51_71 {l1 : Option Value} {st : List Value} {x : Nat} {m : kMem} {Q : Option Value → kMem → Prop} : kJ 51 71 [some (.ref x), l1] st m Q = kJ 51 72 [some (.ref x), l1] (.ref x :: st) m Q := kJ_next d51_71 rfl
theorem d51_72 : decode (mB 51) 72 = .ok (.sipush 1995, 3) := by decide +kernel
theorem s51_72 {l0 l1 : Option Value} {st : List Value} {m : kMem} {Q : Option Value → kMem → Prop} : kJ 51 72 [l0, l1] st m Q = kJ 51 75 [l0, l1] (.int (nI 1995) :: st) m Q := kJ_next d51_72 rfl
theorem d51_75 : decode (mB 51) 75 = .ok (.newarray .int, 2) := by decide +kernel
theorem s51_75 {l0 l1 : Option Value} {st : List Value} {n : Int32} {mi : Nat → Nat → Int32} {ml : Nat → Nat → Int64} {mr : Nat → Nat → Option Nat} {nx : Nat} {Q : Option Value → kMem → Prop} (h : nx < 95) (h2 : kAt nx = (10, n.toNatClampNeg)) (h3 : ¬ n < 0) (h4 : n.toNatClampNeg ≤ 2000) : kJ 51 75 [l0, l1] (.int n :: st) (mi, ml, mr, nx) Q = kJ 51 77 [l0, l1] (.ref nx :: st) (kRow mi nx (fun _ => 0), kRow ml nx (fun _ => 0), kRow mr nx (fun _ => none), nx + 1) Q := kJ_next d51_75 (kg_newa h h2 h3 h4)
theorem d51_77 : decode (mB 51) 77 = .ok (.putfield 47, 3) := by decide +kernel
theorem s51_77 {l0 l1 : Option Value} {st : List Value} {q : Nat} {x : Nat} {mi : Nat → Nat → Int32} {ml : Nat → Nat → Int64} {mr : Nat → Nat → Option Nat} {nx : Nat} {Q : Option Value → kMem → Prop} (h : kIs nx q 4 = true) (hx : x < 1000) : kJ 51 77 [l0, l1] (.ref x :: .ref q :: st) (mi, ml, mr, nx) Q = kJ 51 80 [l0, l1] st (mi, ml, kupR mr q 7 (some x), nx) Q := kJ_next d51_77 (kg_putr 4 7 rfl h (by decide) (by decide) rfl rfl hx)
theorem d51_80 : decode (mB 51) 80 = .ok (.aload_n 0, 1) := by decide +kernel
theorem s51_80 {l1 : Option Value} {st : List Value} {x : Nat} {m : kMem} {Q : Option Value → kMem → Prop} : kJ 51 80 [some (.ref x), l1] st m Q = kJ 51 81 [some (.ref x), l1] (.ref x :: st) m Q := kJ_next d51_80 rfl
theorem d51_81 : decode (mB 51) 81 = .ok (.bipush 21, 2) := by decide +kernel
theorem s51_81 {l0 l1 : Option Value} {st : List Value} {m : kMem} {Q : Option Value → kMem → Prop} : kJ 51 81 [l0, l1] st m Q = kJ 51 83 [l0, l1] (.int (nI 21) :: st) m Q := kJ_next d51_81 rfl
theorem d51_83 : decode (mB 51) 83 = .ok (.newarray .int, 2) := by decide +kernel
theorem s51_83 {l0 l1 : Option Value} {st : List Value} {n : Int32} {mi : Nat → Nat → Int32} {ml : Nat → Nat → Int64} {mr : Nat → Nat → Option Nat} {nx : Nat} {Q : Option Value → kMem → Prop} (h : nx < 95) (h2 : kAt nx = (10, n.toNatClampNeg)) (h3 : ¬ n < 0) (h4 : n.toNatClampNeg ≤ 2000) : kJ 51 83 [l0, l1] (.int n :: st) (mi, ml, mr, nx) Q = kJ 51 85 [l0, l1] (.ref nx :: st) (kRow mi nx (fun _ => 0), kRow ml nx (fun _ => 0), kRow mr nx (fun _ => none), nx + 1) Q := kJ_next d51_83 (kg_newa h h2 h3 h4)
theorem d51_85 : decode (mB 51) 85 = .ok (.putfield 51, 3) := by decide +kernel
theorem s51_85 {l0 l1 : Option Value} {st : List Value} {q : Nat} {x : Nat} {mi : Nat → Nat → Int32} {ml : Nat → Nat → Int64} {mr : Nat → Nat → Option Nat} {nx : Nat} {Q : Option Value → kMem → Prop} (h : kIs nx q 4 = true) (hx : x < 1000) : kJ 51 85 [l0, l1] (.ref x :: .ref q :: st) (mi, ml, mr, nx) Q = kJ 51 88 [l0, l1] st (mi, ml, kupR mr q 8 (some x), nx) Q := kJ_next d51_85 (kg_putr 4 8 rfl h (by decide) (by decide) rfl rfl hx)
theorem d51_88 : decode (mB 51) 88 = .ok (.iconst 0, 1) := by decide +kernel
theorem s51_88 {l0 l1 : Option Value} {st : List Value} {m : kMem} {Q : Option Value → kMem → Prop} : kJ 51 88 [l0, l1] st m Q = kJ 51 89 [l0, l1] (.int (nI 0) :: st) m Q := kJ_next d51_88 rfl
theorem d51_89 : decode (mB 51) 89 = .ok (.istore_n 1, 1) := by decide +kernel
theorem s51_89 {l0 l1 : Option Value} {st : List Value} {x : Int32} {m : kMem} {Q : Option Value → kMem → Prop} (hp : kNL l0 = true) : kJ 51 89 [l0, l1] (.int x :: st) m Q = kJ 51 90 [l0, some (.int x)] st m Q := kJ_next d51_89 (kg_sti (Nat.le_of_ble_eq_true rfl) hp)
theorem d51_90 : decode (mB 51) 90 = .ok (.iload_n 1, 1) := by decide +kernel
theorem s51_90 {l0 : Option Value} {st : List Value} {x : Int32} {m : kMem} {Q : Option Value → kMem → Prop} : kJ 51 90 [l0, some (.int x)] st m Q = kJ 51 91 [l0, some (.int x)] (.int x :: st) m Q := kJ_next d51_90 rfl
theorem d51_91 : decode (mB 51) 91 = .ok (.iconst 2, 1) := by decide +kernel
theorem s51_91 {l0 l1 : Option Value} {st : List Value} {m : kMem} {Q : Option Value → kMem → Prop} : kJ 51 91 [l0, l1] st m Q = kJ 51 92 [l0, l1] (.int (nI 2) :: st) m Q := kJ_next d51_91 rfl
theorem d51_92 : decode (mB 51) 92 = .ok (.if_icmp .ge 22, 3) := by decide +kernel
theorem s51_92 {l0 l1 : Option Value} {st : List Value} {a b : Int32} {m : kMem} {Q : Option Value → kMem → Prop} : kJ 51 92 [l0, l1] (.int b :: .int a :: st) m Q = (if b ≤ a then kJ 51 114 [l0, l1] st m Q else kJ 51 95 [l0, l1] st m Q) := kJ_if d51_92 rfl (fun h => kJ_next d51_92 h) (fun h => kJ_next d51_92 h)
theorem d51_95 : decode (mB 51) 95 = .ok (.aload_n 0, 1) := by decide +kernel
theorem s51_95 {l1 : Option Value} {st : List Value} {x : Nat} {m : kMem} {Q : Option Value → kMem → Prop} : kJ 51 95 [some (.ref x), l1] st m Q = kJ 51 96 [some (.ref x), l1] (.ref x :: st) m Q := kJ_next d51_95 rfl
theorem d51_96 : decode (mB 51) 96 = .ok (.getfield 33, 3) := by decide +kernel
theorem s51_96 {l0 l1 : Option Value} {st : List Value} {q : Nat} {mi : Nat → Nat → Int32} {ml : Nat → Nat → Int64} {mr : Nat → Nat → Option Nat} {nx : Nat} {Q : Option Value → kMem → Prop} (h : kIs nx q 4 = true) : kJ 51 96 [l0, l1] (.ref q :: st) (mi, ml, mr, nx) Q = kJ 51 99 [l0, l1] (va_rf (mr q 4) :: st) (mi, ml, mr, nx) Q := kJ_next d51_96 (kg_getr 4 4 rfl h (by decide))
theorem d51_99 : decode (mB 51) 99 = .ok (.iload_n 1, 1) := by decide +kernel
theorem s51_99 {l0 : Option Value} {st : List Value} {x : Int32} {m : kMem} {Q : Option Value → kMem → Prop} : kJ 51 99 [l0, some (.int x)] st m Q = kJ 51 100 [l0, some (.int x)] (.int x :: st) m Q := kJ_next d51_99 rfl
theorem d51_100 : decode (mB 51) 100 = .ok (.new 7, 3) := by decide +kernel
theorem s51_100 {l0 l1 : Option Value} {st : List Value} {mi : Nat → Nat → Int32} {ml : Nat → Nat → Int64} {mr : Nat → Nat → Option Nat} {nx : Nat} {Q : Option Value → kMem → Prop} (h : nx < 95) (h2 : (kAt nx).1 = 1) : kJ 51 100 [l0, l1] st (mi, ml, mr, nx) Q = kJ 51 103 [l0, l1] (.ref nx :: st) (kRow mi nx (fun _ => 0), kRow ml nx (fun _ => 0), kRow mr nx (fun _ => none), nx + 1) Q := kJ_next d51_100 (kg_new 1 rfl h h2 (by decide))
theorem d51_103 : decode (mB 51) 103 = .ok (.dup, 1) := by decide +kernel
theorem s51_103 {l0 l1 : Option Value} {st : List Value} {a : Nat} {m : kMem} {Q : Option Value → kMem → Prop} : kJ 51 103 [l0, l1] (.ref a :: st) m Q = kJ 51 104 [l0, l1] (.ref a :: .ref a :: st) m Q := kJ_next d51_103 rfl
theorem d51_104 : decode (mB 51) 104 = .ok (.invokespecial 9, 3) := by decide +kernel
theorem s51_104 {l0 l1 : Option Value} {v0 : Nat} {v1 : Nat} {v2 : Int32} {v3 : Nat} {m : kMem} {Q : Option Value → kMem → Prop} (h : kIs m.2.2.2 v0 1 = true) : kJ 51 104 [l0, l1] [.ref v0, .ref v1, .int v2, .ref v3] m Q = kJ 4 0 [some (.ref v0)] [] m (fun v m2 => kJ 51 107 [l0, l1] (v.toList ++ [.ref v1, .int v2, .ref v3]) m2 Q) := kJ_call d51_104 (kg_spec 4 0 rfl rfl rfl rfl (Nat.le_of_ble_eq_true rfl) (Nat.le_of_ble_eq_true rfl) (Nat.le_of_ble_eq_true rfl) h rfl)
theorem d51_107 : decode (mB 51) 107 = .ok (.aastore, 1) := by decide +kernel
theorem s51_107 {l0 l1 : Option Value} {st : List Value} {q v : Nat} {i : Int32} {mi : Nat → Nat → Int32} {ml : Nat → Nat → Int64} {mr : Nat → Nat → Option Nat} {nx : Nat} {Q : Option Value → kMem → Prop} (h : (kIs nx q 12 = true ∧ kIs nx v 1 = true) ∨ (kIs nx q 13 = true ∧ kIs nx v 2 = true)) (hv2 : v < 1000) : kJ 51 107 [l0, l1] (.ref v :: .int i :: .ref q :: st) (mi, ml, mr, nx) Q = (vp_in i (kAl q) ∧ kJ 51 108 [l0, l1] st (mi, ml, kupR mr q i.toNatClampNeg (some v), nx) Q) := kg_aasK d51_107 rfl h hv2
theorem d51_108 : decode (mB 51) 108 = .ok (.iinc 1 1, 3) := by decide +kernel
theorem s51_108 {l0 : Option Value} {st : List Value} {x : Int32} {m : kMem} {Q : Option Value → kMem → Prop} (hp : kNL l0 = true) : kJ 51 108 [l0, some (.int x)] st m Q = kJ 51 111 [l0, some (.int (x + (nI 1)))] st m Q := kJ_next d51_108 (kg_inc rfl (Nat.le_of_ble_eq_true rfl) hp)
theorem d51_111 : decode (mB 51) 111 = .ok (.goto (-21), 3) := by decide +kernel
theorem s51_111 {l0 l1 : Option Value} {st : List Value} {m : kMem} {Q : Option Value → kMem → Prop} : kJ 51 111 [l0, l1] st m Q = kJ 51 90 [l0, l1] st m Q := kJ_next d51_111 rfl
theorem d51_114 : decode (mB 51) 114 = .ok (.iconst 0, 1) := by decide +kernel
theorem s51_114 {l0 l1 : Option Value} {st : List Value} {m : kMem} {Q : Option Value → kMem → Prop} : kJ 51 114 [l0, l1] st m Q = kJ 51 115 [l0, l1] (.int (nI 0) :: st) m Q := kJ_next d51_114 rfl
theorem d51_115 : decode (mB 51) 115 = .ok (.istore_n 1, 1) := by decide +kernel
theorem s51_115 {l0 l1 : Option Value} {st : List Value} {x : Int32} {m : kMem} {Q : Option Value → kMem → Prop} (hp : kNL l0 = true) : kJ 51 115 [l0, l1] (.int x :: st) m Q = kJ 51 116 [l0, some (.int x)] st m Q := kJ_next d51_115 (kg_sti (Nat.le_of_ble_eq_true rfl) hp)
theorem d51_116 : decode (mB 51) 116 = .ok (.iload_n 1, 1) := by decide +kernel
theorem s51_116 {l0 : Option Value} {st : List Value} {x : Int32} {m : kMem} {Q : Option Value → kMem → Prop} : kJ 51 116 [l0, some (.int x)] st m Q = kJ 51 117 [l0, some (.int x)] (.int x :: st) m Q := kJ_next d51_116 rfl
theorem d51_117 : decode (mB 51) 117 = .ok (.iconst 4, 1) := by decide +kernel
theorem s51_117 {l0 l1 : Option Value} {st : List Value} {m : kMem} {Q : Option Value → kMem → Prop} : kJ 51 117 [l0, l1] st m Q = kJ 51 118 [l0, l1] (.int (nI 4) :: st) m Q := kJ_next d51_117 rfl
theorem d51_118 : decode (mB 51) 118 = .ok (.if_icmp .ge 22, 3) := by decide +kernel
theorem s51_118 {l0 l1 : Option Value} {st : List Value} {a b : Int32} {m : kMem} {Q : Option Value → kMem → Prop} : kJ 51 118 [l0, l1] (.int b :: .int a :: st) m Q = (if b ≤ a then kJ 51 140 [l0, l1] st m Q else kJ 51 121 [l0, l1] st m Q) := kJ_if d51_118 rfl (fun h => kJ_next d51_118 h) (fun h => kJ_next d51_118 h)
theorem d51_121 : decode (mB 51) 121 = .ok (.aload_n 0, 1) := by decide +kernel
theorem s51_121 {l1 : Option Value} {st : List Value} {x : Nat} {m : kMem} {Q : Option Value → kMem → Prop} : kJ 51 121 [some (.ref x), l1] st m Q = kJ 51 122 [some (.ref x), l1] (.ref x :: st) m Q := kJ_next d51_121 rfl
theorem d51_122 : decode (mB 51) 122 = .ok (.getfield 43, 3) := by decide +kernel
theorem s51_122 {l0 l1 : Option Value} {st : List Value} {q : Nat} {mi : Nat → Nat → Int32} {ml : Nat → Nat → Int64} {mr : Nat → Nat → Option Nat} {nx : Nat} {Q : Option Value → kMem → Prop} (h : kIs nx q 4 = true) : kJ 51 122 [l0, l1] (.ref q :: st) (mi, ml, mr, nx) Q = kJ 51 125 [l0, l1] (va_rf (mr q 6) :: st) (mi, ml, mr, nx) Q := kJ_next d51_122 (kg_getr 4 6 rfl h (by decide))
theorem d51_125 : decode (mB 51) 125 = .ok (.iload_n 1, 1) := by decide +kernel
theorem s51_125 {l0 : Option Value} {st : List Value} {x : Int32} {m : kMem} {Q : Option Value → kMem → Prop} : kJ 51 125 [l0, some (.int x)] st m Q = kJ 51 126 [l0, some (.int x)] (.int x :: st) m Q := kJ_next d51_125 rfl
theorem d51_126 : decode (mB 51) 126 = .ok (.new 41, 3) := by decide +kernel
theorem s51_126 {l0 l1 : Option Value} {st : List Value} {mi : Nat → Nat → Int32} {ml : Nat → Nat → Int64} {mr : Nat → Nat → Option Nat} {nx : Nat} {Q : Option Value → kMem → Prop} (h : nx < 95) (h2 : (kAt nx).1 = 2) : kJ 51 126 [l0, l1] st (mi, ml, mr, nx) Q = kJ 51 129 [l0, l1] (.ref nx :: st) (kRow mi nx (fun _ => 0), kRow ml nx (fun _ => 0), kRow mr nx (fun _ => none), nx + 1) Q := kJ_next d51_126 (kg_new 2 rfl h h2 (by decide))
theorem d51_129 : decode (mB 51) 129 = .ok (.dup, 1) := by decide +kernel
theorem s51_129 {l0 l1 : Option Value} {st : List Value} {a : Nat} {m : kMem} {Q : Option Value → kMem → Prop} : kJ 51 129 [l0, l1] (.ref a :: st) m Q = kJ 51 130 [l0, l1] (.ref a :: .ref a :: st) m Q := kJ_next d51_129 rfl
theorem d51_130 : decode (mB 51) 130 = .ok (.invokespecial 54, 3) := by decide +kernel
theorem s51_130 {l0 l1 : Option Value} {v0 : Nat} {v1 : Nat} {v2 : Int32} {v3 : Nat} {m : kMem} {Q : Option Value → kMem → Prop} (h : kIs m.2.2.2 v0 2 = true) : kJ 51 130 [l0, l1] [.ref v0, .ref v1, .int v2, .ref v3] m Q = kJ 29 0 [some (.ref v0)] [] m (fun v m2 => kJ 51 133 [l0, l1] (v.toList ++ [.ref v1, .int v2, .ref v3]) m2 Q) := kJ_call d51_130 (kg_spec 29 0 rfl rfl rfl rfl (Nat.le_of_ble_eq_true rfl) (Nat.le_of_ble_eq_true rfl) (Nat.le_of_ble_eq_true rfl) h rfl)
theorem d51_133 : decode (mB 51) 133 = .ok (.aastore, 1) := by decide +kernel
theorem s51_133 {l0 l1 : Option Value} {st : List Value} {q v : Nat} {i : Int32} {mi : Nat → Nat → Int32} {ml : Nat → Nat → Int64} {mr : Nat → Nat → Option Nat} {nx : Nat} {Q : Option Value → kMem → Prop} (h : (kIs nx q 12 = true ∧ kIs nx v 1 = true) ∨ (kIs nx q 13 = true ∧ kIs nx v 2 = true)) (hv2 : v < 1000) : kJ 51 133 [l0, l1] (.ref v :: .int i :: .ref q :: st) (mi, ml, mr, nx) Q = (vp_in i (kAl q) ∧ kJ 51 134 [l0, l1] st (mi, ml, kupR mr q i.toNatClampNeg (some v), nx) Q) := kg_aasK d51_133 rfl h hv2
theorem d51_134 : decode (mB 51) 134 = .ok (.iinc 1 1, 3) := by decide +kernel
theorem s51_134 {l0 : Option Value} {st : List Value} {x : Int32} {m : kMem} {Q : Option Value → kMem → Prop} (hp : kNL l0 = true) : kJ 51 134 [l0, some (.int x)] st m Q = kJ 51 137 [l0, some (.int (x + (nI 1)))] st m Q := kJ_next d51_134 (kg_inc rfl (Nat.le_of_ble_eq_true rfl) hp)
theorem d51_137 : decode (mB 51) 137 = .ok (.goto (-21), 3) := by decide +kernel
theorem s51_137 {l0 l1 : Option Value} {st : List Value} {m : kMem} {Q : Option Value → kMem → Prop} : kJ 51 137 [l0, l1] st m Q = kJ 51 116 [l0, l1] st m Q := kJ_next d51_137 rfl
theorem d51_140 : decode (mB 51) 140 = .ok (.return_, 1) := by decide +kernel
theorem s51_140 {l0 l1 : Option Value} {m : kMem} {Q : Option Value → kMem → Prop} : kJ 51 140 [l0, l1] [] m Q = Q none m := kJ_ret d51_140 rfl
theorem d52_0 : decode (mB 52) 0 = .ok (.iload_n 1, 1) := by decide +kernel
theorem s52_0 {l0 : Option Value} {st : List Value} {x : Int32} {m : kMem} {Q : Option Value → kMem → Prop} : kJ 52 0 [l0, some (.int x)] st m Q = kJ 52 1 [l0, some (.int x)] (.int x :: st) m Q := kJ_next d52_0 rfl
theorem d52_1 : decode (mB 52) 1 = .ok (.iconst 0, 1) := by decide +kernel
theorem s52_1 {l0 l1 : Option Value} {st : List Value} {m : kMem} {Q : Option Value → kMem → Prop} : kJ 52 1 [l0, l1] st m Q = kJ 52 2 [l0, l1] (.int (nI 0) :: st) m Q := kJ_next d52_1 rfl
theorem d52_2 : decode (mB 52) 2 = .ok (.bipush 127, 2) := by decide +kernel
theorem s52_2 {l0 l1 : Option Value} {st : List Value} {m : kMem} {Q : Option Value → kMem → Prop} : kJ 52 2 [l0, l1] st m Q = kJ 52 4 [l0, l1] (.int (nI 127) :: st) m Q := kJ_next d52_2 rfl
theorem d52_4 : decode (mB 52) 4 = .ok (.invokestatic 55, 3) := by decide +kernel
theorem s52_4 {l0 l1 : Option Value} {v0 : Int32} {v1 : Int32} {v2 : Int32} {m : kMem} {Q : Option Value → kMem → Prop} : kJ 52 4 [l0, l1] [.int v0, .int v1, .int v2] m Q = kJ 90 0 [some (.int v2), some (.int v1), some (.int v0)] [] m (fun v m2 => kJ 52 7 [l0, l1] (v.toList ++ []) m2 Q) := kJ_call d52_4 (kg_calls 90 3 rfl rfl (Nat.le_of_ble_eq_true rfl) (Nat.le_of_ble_eq_true rfl) (Nat.le_of_ble_eq_true rfl) (Nat.le_of_ble_eq_true rfl))
theorem d52_7 : decode (mB 52) 7 = .ok (.ifCond .ne 5, 3) := by decide +kernel
theorem s52_7 {l0 l1 : Option Value} {st : List Value} {a : Int32} {m : kMem} {Q : Option Value → kMem → Prop} : kJ 52 7 [l0, l1] (.int a :: st) m Q = (if a = 0 then kJ 52 10 [l0, l1] st m Q else kJ 52 12 [l0, l1] st m Q) := kJ_if d52_7 rfl (fun h => kJ_next d52_7 h) (fun h => kJ_next d52_7 h)
theorem d52_10 : decode (mB 52) 10 = .ok (.iconst (-1), 1) := by decide +kernel
theorem s52_10 {l0 l1 : Option Value} {st : List Value} {m : kMem} {Q : Option Value → kMem → Prop} : kJ 52 10 [l0, l1] st m Q = kJ 52 11 [l0, l1] (.int (-1) :: st) m Q := kJ_next d52_10 rfl
theorem d52_11 : decode (mB 52) 11 = .ok (.ireturn, 1) := by decide +kernel
theorem s52_11 {l0 l1 : Option Value} {x : Int32} {m : kMem} {Q : Option Value → kMem → Prop} : kJ 52 11 [l0, l1] [.int x] m Q = Q (some (.int x)) m := kJ_ret d52_11 rfl
theorem d52_12 : decode (mB 52) 12 = .ok (.aload_n 0, 1) := by decide +kernel
theorem s52_12 {l1 : Option Value} {st : List Value} {x : Nat} {m : kMem} {Q : Option Value → kMem → Prop} : kJ 52 12 [some (.ref x), l1] st m Q = kJ 52 13 [some (.ref x), l1] (.ref x :: st) m Q := kJ_next d52_12 rfl
theorem d52_13 : decode (mB 52) 13 = .ok (.getfield 29, 3) := by decide +kernel
theorem s52_13 {l0 l1 : Option Value} {st : List Value} {q : Nat} {mi : Nat → Nat → Int32} {ml : Nat → Nat → Int64} {mr : Nat → Nat → Option Nat} {nx : Nat} {Q : Option Value → kMem → Prop} (h : kIs nx q 4 = true) : kJ 52 13 [l0, l1] (.ref q :: st) (mi, ml, mr, nx) Q = kJ 52 16 [l0, l1] (va_rf (mr q 3) :: st) (mi, ml, mr, nx) Q := kJ_next d52_13 (kg_getr 4 3 rfl h (by decide))
theorem d52_16 : decode (mB 52) 16 = .ok (.getfield 59, 3) := by decide +kernel
theorem s52_16 {l0 l1 : Option Value} {st : List Value} {q : Nat} {mi : Nat → Nat → Int32} {ml : Nat → Nat → Int64} {mr : Nat → Nat → Option Nat} {nx : Nat} {Q : Option Value → kMem → Prop} (h : kIs nx q 3 = true) : kJ 52 16 [l0, l1] (.ref q :: st) (mi, ml, mr, nx) Q = kJ 52 19 [l0, l1] (.int (mi q 1) :: st) (mi, ml, mr, nx) Q := kJ_next d52_16 (kg_geti 3 1 rfl h (by decide))
theorem d52_19 : decode (mB 52) 19 = .ok (.sipush 160, 3) := by decide +kernel
theorem s52_19 {l0 l1 : Option Value} {st : List Value} {m : kMem} {Q : Option Value → kMem → Prop} : kJ 52 19 [l0, l1] st m Q = kJ 52 22 [l0, l1] (.int (nI 160) :: st) m Q := kJ_next d52_19 rfl
theorem d52_22 : decode (mB 52) 22 = .ok (.if_icmp .lt 6, 3) := by decide +kernel
theorem s52_22 {l0 l1 : Option Value} {st : List Value} {a b : Int32} {m : kMem} {Q : Option Value → kMem → Prop} : kJ 52 22 [l0, l1] (.int b :: .int a :: st) m Q = (if a < b then kJ 52 28 [l0, l1] st m Q else kJ 52 25 [l0, l1] st m Q) := kJ_if d52_22 rfl (fun h => kJ_next d52_22 h) (fun h => kJ_next d52_22 h)
theorem d52_25 : decode (mB 52) 25 = .ok (.bipush (-3), 2) := by decide +kernel
theorem s52_25 {l0 l1 : Option Value} {st : List Value} {m : kMem} {Q : Option Value → kMem → Prop} : kJ 52 25 [l0, l1] st m Q = kJ 52 27 [l0, l1] (.int (-3) :: st) m Q := kJ_next d52_25 rfl
theorem d52_27 : decode (mB 52) 27 = .ok (.ireturn, 1) := by decide +kernel
theorem s52_27 {l0 l1 : Option Value} {x : Int32} {m : kMem} {Q : Option Value → kMem → Prop} : kJ 52 27 [l0, l1] [.int x] m Q = Q (some (.int x)) m := kJ_ret d52_27 rfl
theorem d52_28 : decode (mB 52) 28 = .ok (.aload_n 0, 1) := by decide +kernel
theorem s52_28 {l1 : Option Value} {st : List Value} {x : Nat} {m : kMem} {Q : Option Value → kMem → Prop} : kJ 52 28 [some (.ref x), l1] st m Q = kJ 52 29 [some (.ref x), l1] (.ref x :: st) m Q := kJ_next d52_28 rfl
theorem d52_29 : decode (mB 52) 29 = .ok (.getfield 29, 3) := by decide +kernel
theorem s52_29 {l0 l1 : Option Value} {st : List Value} {q : Nat} {mi : Nat → Nat → Int32} {ml : Nat → Nat → Int64} {mr : Nat → Nat → Option Nat} {nx : Nat} {Q : Option Value → kMem → Prop} (h : kIs nx q 4 = true) : kJ 52 29 [l0, l1] (.ref q :: st) (mi, ml, mr, nx) Q = kJ 52 32 [l0, l1] (va_rf (mr q 3) :: st) (mi, ml, mr, nx) Q := kJ_next d52_29 (kg_getr 4 3 rfl h (by decide))
theorem d52_32 : decode (mB 52) 32 = .ok (.getfield 63, 3) := by decide +kernel
theorem s52_32 {l0 l1 : Option Value} {st : List Value} {q : Nat} {mi : Nat → Nat → Int32} {ml : Nat → Nat → Int64} {mr : Nat → Nat → Option Nat} {nx : Nat} {Q : Option Value → kMem → Prop} (h : kIs nx q 3 = true) : kJ 52 32 [l0, l1] (.ref q :: st) (mi, ml, mr, nx) Q = kJ 52 35 [l0, l1] (va_rf (mr q 0) :: st) (mi, ml, mr, nx) Q := kJ_next d52_32 (kg_getr 3 0 rfl h (by decide))
theorem d52_35 : decode (mB 52) 35 = .ok (.aload_n 0, 1) := by decide +kernel
theorem s52_35 {l1 : Option Value} {st : List Value} {x : Nat} {m : kMem} {Q : Option Value → kMem → Prop} : kJ 52 35 [some (.ref x), l1] st m Q = kJ 52 36 [some (.ref x), l1] (.ref x :: st) m Q := kJ_next d52_35 rfl
theorem d52_36 : decode (mB 52) 36 = .ok (.getfield 29, 3) := by decide +kernel
theorem s52_36 {l0 l1 : Option Value} {st : List Value} {q : Nat} {mi : Nat → Nat → Int32} {ml : Nat → Nat → Int64} {mr : Nat → Nat → Option Nat} {nx : Nat} {Q : Option Value → kMem → Prop} (h : kIs nx q 4 = true) : kJ 52 36 [l0, l1] (.ref q :: st) (mi, ml, mr, nx) Q = kJ 52 39 [l0, l1] (va_rf (mr q 3) :: st) (mi, ml, mr, nx) Q := kJ_next d52_36 (kg_getr 4 3 rfl h (by decide))
theorem d52_39 : decode (mB 52) 39 = .ok (.getfield 59, 3) := by decide +kernel
theorem s52_39 {l0 l1 : Option Value} {st : List Value} {q : Nat} {mi : Nat → Nat → Int32} {ml : Nat → Nat → Int64} {mr : Nat → Nat → Option Nat} {nx : Nat} {Q : Option Value → kMem → Prop} (h : kIs nx q 3 = true) : kJ 52 39 [l0, l1] (.ref q :: st) (mi, ml, mr, nx) Q = kJ 52 42 [l0, l1] (.int (mi q 1) :: st) (mi, ml, mr, nx) Q := kJ_next d52_39 (kg_geti 3 1 rfl h (by decide))
theorem d52_42 : decode (mB 52) 42 = .ok (.iload_n 1, 1) := by decide +kernel
theorem s52_42 {l0 : Option Value} {st : List Value} {x : Int32} {m : kMem} {Q : Option Value → kMem → Prop} : kJ 52 42 [l0, some (.int x)] st m Q = kJ 52 43 [l0, some (.int x)] (.int x :: st) m Q := kJ_next d52_42 rfl
theorem d52_43 : decode (mB 52) 43 = .ok (.iastore, 1) := by decide +kernel
theorem s52_43 {l0 l1 : Option Value} {st : List Value} {q : Nat} {i x : Int32} {mi : Nat → Nat → Int32} {ml : Nat → Nat → Int64} {mr : Nat → Nat → Option Nat} {nx : Nat} {Q : Option Value → kMem → Prop} (h : kIs nx q 10 = true) : kJ 52 43 [l0, l1] (.int x :: .int i :: .ref q :: st) (mi, ml, mr, nx) Q = (vp_in i (kAl q) ∧ kJ 52 44 [l0, l1] st (kup mi q i.toNatClampNeg x, ml, mr, nx) Q) := kg_astJ d52_43 rfl (kAr_of h)
theorem d52_44 : decode (mB 52) 44 = .ok (.aload_n 0, 1) := by decide +kernel
theorem s52_44 {l1 : Option Value} {st : List Value} {x : Nat} {m : kMem} {Q : Option Value → kMem → Prop} : kJ 52 44 [some (.ref x), l1] st m Q = kJ 52 45 [some (.ref x), l1] (.ref x :: st) m Q := kJ_next d52_44 rfl
theorem d52_45 : decode (mB 52) 45 = .ok (.getfield 29, 3) := by decide +kernel
theorem s52_45 {l0 l1 : Option Value} {st : List Value} {q : Nat} {mi : Nat → Nat → Int32} {ml : Nat → Nat → Int64} {mr : Nat → Nat → Option Nat} {nx : Nat} {Q : Option Value → kMem → Prop} (h : kIs nx q 4 = true) : kJ 52 45 [l0, l1] (.ref q :: st) (mi, ml, mr, nx) Q = kJ 52 48 [l0, l1] (va_rf (mr q 3) :: st) (mi, ml, mr, nx) Q := kJ_next d52_45 (kg_getr 4 3 rfl h (by decide))
theorem d52_48 : decode (mB 52) 48 = .ok (.dup, 1) := by decide +kernel
theorem s52_48 {l0 l1 : Option Value} {st : List Value} {a : Nat} {m : kMem} {Q : Option Value → kMem → Prop} : kJ 52 48 [l0, l1] (.ref a :: st) m Q = kJ 52 49 [l0, l1] (.ref a :: .ref a :: st) m Q := kJ_next d52_48 rfl
theorem d52_49 : decode (mB 52) 49 = .ok (.getfield 59, 3) := by decide +kernel
theorem s52_49 {l0 l1 : Option Value} {st : List Value} {q : Nat} {mi : Nat → Nat → Int32} {ml : Nat → Nat → Int64} {mr : Nat → Nat → Option Nat} {nx : Nat} {Q : Option Value → kMem → Prop} (h : kIs nx q 3 = true) : kJ 52 49 [l0, l1] (.ref q :: st) (mi, ml, mr, nx) Q = kJ 52 52 [l0, l1] (.int (mi q 1) :: st) (mi, ml, mr, nx) Q := kJ_next d52_49 (kg_geti 3 1 rfl h (by decide))
theorem d52_52 : decode (mB 52) 52 = .ok (.iconst 1, 1) := by decide +kernel
theorem s52_52 {l0 l1 : Option Value} {st : List Value} {m : kMem} {Q : Option Value → kMem → Prop} : kJ 52 52 [l0, l1] st m Q = kJ 52 53 [l0, l1] (.int (nI 1) :: st) m Q := kJ_next d52_52 rfl
theorem d52_53 : decode (mB 52) 53 = .ok (.iadd, 1) := by decide +kernel
theorem s52_53 {l0 l1 : Option Value} {st : List Value} {a b : Int32} {m : kMem} {Q : Option Value → kMem → Prop} : kJ 52 53 [l0, l1] (.int b :: .int a :: st) m Q = kJ 52 54 [l0, l1] (.int (a + b) :: st) m Q := kJ_next d52_53 rfl
theorem d52_54 : decode (mB 52) 54 = .ok (.putfield 59, 3) := by decide +kernel
theorem s52_54 {l0 l1 : Option Value} {st : List Value} {q : Nat} {x : Int32} {mi : Nat → Nat → Int32} {ml : Nat → Nat → Int64} {mr : Nat → Nat → Option Nat} {nx : Nat} {Q : Option Value → kMem → Prop} (h : kIs nx q 3 = true) : kJ 52 54 [l0, l1] (.int x :: .ref q :: st) (mi, ml, mr, nx) Q = kJ 52 57 [l0, l1] st (kup mi q 1 x, ml, mr, nx) Q := kJ_next d52_54 (kg_puti 3 1 rfl h (by decide) (Or.inl (by decide)))
theorem d52_57 : decode (mB 52) 57 = .ok (.aload_n 0, 1) := by decide +kernel
theorem s52_57 {l1 : Option Value} {st : List Value} {x : Nat} {m : kMem} {Q : Option Value → kMem → Prop} : kJ 52 57 [some (.ref x), l1] st m Q = kJ 52 58 [some (.ref x), l1] (.ref x :: st) m Q := kJ_next d52_57 rfl
theorem d52_58 : decode (mB 52) 58 = .ok (.getfield 29, 3) := by decide +kernel
theorem s52_58 {l0 l1 : Option Value} {st : List Value} {q : Nat} {mi : Nat → Nat → Int32} {ml : Nat → Nat → Int64} {mr : Nat → Nat → Option Nat} {nx : Nat} {Q : Option Value → kMem → Prop} (h : kIs nx q 4 = true) : kJ 52 58 [l0, l1] (.ref q :: st) (mi, ml, mr, nx) Q = kJ 52 61 [l0, l1] (va_rf (mr q 3) :: st) (mi, ml, mr, nx) Q := kJ_next d52_58 (kg_getr 4 3 rfl h (by decide))
theorem d52_61 : decode (mB 52) 61 = .ok (.getfield 59, 3) := by decide +kernel
theorem s52_61 {l0 l1 : Option Value} {st : List Value} {q : Nat} {mi : Nat → Nat → Int32} {ml : Nat → Nat → Int64} {mr : Nat → Nat → Option Nat} {nx : Nat} {Q : Option Value → kMem → Prop} (h : kIs nx q 3 = true) : kJ 52 61 [l0, l1] (.ref q :: st) (mi, ml, mr, nx) Q = kJ 52 64 [l0, l1] (.int (mi q 1) :: st) (mi, ml, mr, nx) Q := kJ_next d52_61 (kg_geti 3 1 rfl h (by decide))
theorem d52_64 : decode (mB 52) 64 = .ok (.ireturn, 1) := by decide +kernel
theorem s52_64 {l0 l1 : Option Value} {x : Int32} {m : kMem} {Q : Option Value → kMem → Prop} : kJ 52 64 [l0, l1] [.int x] m Q = Q (some (.int x)) m := kJ_ret d52_64 rfl
theorem d53_0 : decode (mB 53) 0 = .ok (.iload_n 1, 1) := by decide +kernel
theorem s53_0 {l0 l2 : Option Value} {st : List Value} {x : Int32} {m : kMem} {Q : Option Value → kMem → Prop} : kJ 53 0 [l0, some (.int x), l2] st m Q = kJ 53 1 [l0, some (.int x), l2] (.int x :: st) m Q := kJ_next d53_0 rfl
theorem d53_1 : decode (mB 53) 1 = .ok (.iconst 0, 1) := by decide +kernel
theorem s53_1 {l0 l1 l2 : Option Value} {st : List Value} {m : kMem} {Q : Option Value → kMem → Prop} : kJ 53 1 [l0, l1, l2] st m Q = kJ 53 2 [l0, l1, l2] (.int (nI 0) :: st) m Q := kJ_next d53_1 rfl
theorem d53_2 : decode (mB 53) 2 = .ok (.aload_n 0, 1) := by decide +kernel
theorem s53_2 {l1 l2 : Option Value} {st : List Value} {x : Nat} {m : kMem} {Q : Option Value → kMem → Prop} : kJ 53 2 [some (.ref x), l1, l2] st m Q = kJ 53 3 [some (.ref x), l1, l2] (.ref x :: st) m Q := kJ_next d53_2 rfl
theorem d53_3 : decode (mB 53) 3 = .ok (.getfield 29, 3) := by decide +kernel
theorem s53_3 {l0 l1 l2 : Option Value} {st : List Value} {q : Nat} {mi : Nat → Nat → Int32} {ml : Nat → Nat → Int64} {mr : Nat → Nat → Option Nat} {nx : Nat} {Q : Option Value → kMem → Prop} (h : kIs nx q 4 = true) : kJ 53 3 [l0, l1, l2] (.ref q :: st) (mi, ml, mr, nx) Q = kJ 53 6 [l0, l1, l2] (va_rf (mr q 3) :: st) (mi, ml, mr, nx) Q := kJ_next d53_3 (kg_getr 4 3 rfl h (by decide))
theorem d53_6 : decode (mB 53) 6 = .ok (.getfield 59, 3) := by decide +kernel
theorem s53_6 {l0 l1 l2 : Option Value} {st : List Value} {q : Nat} {mi : Nat → Nat → Int32} {ml : Nat → Nat → Int64} {mr : Nat → Nat → Option Nat} {nx : Nat} {Q : Option Value → kMem → Prop} (h : kIs nx q 3 = true) : kJ 53 6 [l0, l1, l2] (.ref q :: st) (mi, ml, mr, nx) Q = kJ 53 9 [l0, l1, l2] (.int (mi q 1) :: st) (mi, ml, mr, nx) Q := kJ_next d53_6 (kg_geti 3 1 rfl h (by decide))
theorem d53_9 : decode (mB 53) 9 = .ok (.invokestatic 55, 3) := by decide +kernel
theorem s53_9 {l0 l1 l2 : Option Value} {v0 : Int32} {v1 : Int32} {v2 : Int32} {m : kMem} {Q : Option Value → kMem → Prop} : kJ 53 9 [l0, l1, l2] [.int v0, .int v1, .int v2] m Q = kJ 90 0 [some (.int v2), some (.int v1), some (.int v0)] [] m (fun v m2 => kJ 53 12 [l0, l1, l2] (v.toList ++ []) m2 Q) := kJ_call d53_9 (kg_calls 90 3 rfl rfl (Nat.le_of_ble_eq_true rfl) (Nat.le_of_ble_eq_true rfl) (Nat.le_of_ble_eq_true rfl) (Nat.le_of_ble_eq_true rfl))
theorem d53_12 : decode (mB 53) 12 = .ok (.ifCond .ne 5, 3) := by decide +kernel
theorem s53_12 {l0 l1 l2 : Option Value} {st : List Value} {a : Int32} {m : kMem} {Q : Option Value → kMem → Prop} : kJ 53 12 [l0, l1, l2] (.int a :: st) m Q = (if a = 0 then kJ 53 15 [l0, l1, l2] st m Q else kJ 53 17 [l0, l1, l2] st m Q) := kJ_if d53_12 rfl (fun h => kJ_next d53_12 h) (fun h => kJ_next d53_12 h)
theorem d53_15 : decode (mB 53) 15 = .ok (.iconst (-1), 1) := by decide +kernel
theorem s53_15 {l0 l1 l2 : Option Value} {st : List Value} {m : kMem} {Q : Option Value → kMem → Prop} : kJ 53 15 [l0, l1, l2] st m Q = kJ 53 16 [l0, l1, l2] (.int (-1) :: st) m Q := kJ_next d53_15 rfl
theorem d53_16 : decode (mB 53) 16 = .ok (.ireturn, 1) := by decide +kernel
theorem s53_16 {l0 l1 l2 : Option Value} {x : Int32} {m : kMem} {Q : Option Value → kMem → Prop} : kJ 53 16 [l0, l1, l2] [.int x] m Q = Q (some (.int x)) m := kJ_ret d53_16 rfl
theorem d53_17 : decode (mB 53) 17 = .ok (.aload_n 0, 1) := by decide +kernel
theorem s53_17 {l1 l2 : Option Value} {st : List Value} {x : Nat} {m : kMem} {Q : Option Value → kMem → Prop} : kJ 53 17 [some (.ref x), l1, l2] st m Q = kJ 53 18 [some (.ref x), l1, l2] (.ref x :: st) m Q := kJ_next d53_17 rfl
theorem d53_18 : decode (mB 53) 18 = .ok (.getfield 29, 3) := by decide +kernel
theorem s53_18 {l0 l1 l2 : Option Value} {st : List Value} {q : Nat} {mi : Nat → Nat → Int32} {ml : Nat → Nat → Int64} {mr : Nat → Nat → Option Nat} {nx : Nat} {Q : Option Value → kMem → Prop} (h : kIs nx q 4 = true) : kJ 53 18 [l0, l1, l2] (.ref q :: st) (mi, ml, mr, nx) Q = kJ 53 21 [l0, l1, l2] (va_rf (mr q 3) :: st) (mi, ml, mr, nx) Q := kJ_next d53_18 (kg_getr 4 3 rfl h (by decide))
theorem d53_21 : decode (mB 53) 21 = .ok (.getfield 59, 3) := by decide +kernel
theorem s53_21 {l0 l1 l2 : Option Value} {st : List Value} {q : Nat} {mi : Nat → Nat → Int32} {ml : Nat → Nat → Int64} {mr : Nat → Nat → Option Nat} {nx : Nat} {Q : Option Value → kMem → Prop} (h : kIs nx q 3 = true) : kJ 53 21 [l0, l1, l2] (.ref q :: st) (mi, ml, mr, nx) Q = kJ 53 24 [l0, l1, l2] (.int (mi q 1) :: st) (mi, ml, mr, nx) Q := kJ_next d53_21 (kg_geti 3 1 rfl h (by decide))
theorem d53_24 : decode (mB 53) 24 = .ok (.istore_n 2, 1) := by decide +kernel
theorem s53_24 {l0 l1 l2 : Option Value} {st : List Value} {x : Int32} {m : kMem} {Q : Option Value → kMem → Prop} (hp : kNL l1 = true) : kJ 53 24 [l0, l1, l2] (.int x :: st) m Q = kJ 53 25 [l0, l1, some (.int x)] st m Q := kJ_next d53_24 (kg_sti (Nat.le_of_ble_eq_true rfl) hp)
theorem d53_25 : decode (mB 53) 25 = .ok (.aload_n 0, 1) := by decide +kernel
theorem s53_25 {l1 l2 : Option Value} {st : List Value} {x : Nat} {m : kMem} {Q : Option Value → kMem → Prop} : kJ 53 25 [some (.ref x), l1, l2] st m Q = kJ 53 26 [some (.ref x), l1, l2] (.ref x :: st) m Q := kJ_next d53_25 rfl
theorem d53_26 : decode (mB 53) 26 = .ok (.getfield 29, 3) := by decide +kernel
theorem s53_26 {l0 l1 l2 : Option Value} {st : List Value} {q : Nat} {mi : Nat → Nat → Int32} {ml : Nat → Nat → Int64} {mr : Nat → Nat → Option Nat} {nx : Nat} {Q : Option Value → kMem → Prop} (h : kIs nx q 4 = true) : kJ 53 26 [l0, l1, l2] (.ref q :: st) (mi, ml, mr, nx) Q = kJ 53 29 [l0, l1, l2] (va_rf (mr q 3) :: st) (mi, ml, mr, nx) Q := kJ_next d53_26 (kg_getr 4 3 rfl h (by decide))
theorem d53_29 : decode (mB 53) 29 = .ok (.iload_n 1, 1) := by decide +kernel
theorem s53_29 {l0 l2 : Option Value} {st : List Value} {x : Int32} {m : kMem} {Q : Option Value → kMem → Prop} : kJ 53 29 [l0, some (.int x), l2] st m Q = kJ 53 30 [l0, some (.int x), l2] (.int x :: st) m Q := kJ_next d53_29 rfl
theorem d53_30 : decode (mB 53) 30 = .ok (.putfield 59, 3) := by decide +kernel
theorem s53_30 {l0 l1 l2 : Option Value} {st : List Value} {q : Nat} {x : Int32} {mi : Nat → Nat → Int32} {ml : Nat → Nat → Int64} {mr : Nat → Nat → Option Nat} {nx : Nat} {Q : Option Value → kMem → Prop} (h : kIs nx q 3 = true) : kJ 53 30 [l0, l1, l2] (.int x :: .ref q :: st) (mi, ml, mr, nx) Q = kJ 53 33 [l0, l1, l2] st (kup mi q 1 x, ml, mr, nx) Q := kJ_next d53_30 (kg_puti 3 1 rfl h (by decide) (Or.inl (by decide)))
theorem d53_33 : decode (mB 53) 33 = .ok (.iload_n 2, 1) := by decide +kernel
theorem s53_33 {l0 l1 : Option Value} {st : List Value} {x : Int32} {m : kMem} {Q : Option Value → kMem → Prop} : kJ 53 33 [l0, l1, some (.int x)] st m Q = kJ 53 34 [l0, l1, some (.int x)] (.int x :: st) m Q := kJ_next d53_33 rfl
theorem d53_34 : decode (mB 53) 34 = .ok (.ireturn, 1) := by decide +kernel
theorem s53_34 {l0 l1 l2 : Option Value} {x : Int32} {m : kMem} {Q : Option Value → kMem → Prop} : kJ 53 34 [l0, l1, l2] [.int x] m Q = Q (some (.int x)) m := kJ_ret d53_34 rfl
theorem d54_0 : decode (mB 54) 0 = .ok (.aload_n 0, 1) := by decide +kernel
theorem s54_0 {l1 : Option Value} {st : List Value} {x : Nat} {m : kMem} {Q : Option Value → kMem → Prop} : kJ 54 0 [some (.ref x), l1] st m Q = kJ 54 1 [some (.ref x), l1] (.ref x :: st) m Q := kJ_next d54_0 rfl
theorem d54_1 : decode (mB 54) 1 = .ok (.getfield 29, 3) := by decide +kernel
theorem s54_1 {l0 l1 : Option Value} {st : List Value} {q : Nat} {mi : Nat → Nat → Int32} {ml : Nat → Nat → Int64} {mr : Nat → Nat → Option Nat} {nx : Nat} {Q : Option Value → kMem → Prop} (h : kIs nx q 4 = true) : kJ 54 1 [l0, l1] (.ref q :: st) (mi, ml, mr, nx) Q = kJ 54 4 [l0, l1] (va_rf (mr q 3) :: st) (mi, ml, mr, nx) Q := kJ_next d54_1 (kg_getr 4 3 rfl h (by decide))
theorem d54_4 : decode (mB 54) 4 = .ok (.invokevirtual 66, 3) := by decide +kernel
theorem s54_4 {l0 l1 : Option Value} {v0 : Nat} {m : kMem} {Q : Option Value → kMem → Prop} (h : kIs m.2.2.2 v0 3 = true) : kJ 54 4 [l0, l1] [.ref v0] m Q = kJ 36 0 [some (.ref v0), none] [] m (fun v m2 => kJ 54 7 [l0, l1] (v.toList ++ []) m2 Q) := kJ_call d54_4 (kg_callv 36 0 rfl rfl rfl rfl (Nat.le_of_ble_eq_true rfl) (Nat.le_of_ble_eq_true rfl) (Nat.le_of_ble_eq_true rfl) h rfl)
theorem d54_7 : decode (mB 54) 7 = .ok (.aload_n 0, 1) := by decide +kernel
theorem s54_7 {l1 : Option Value} {st : List Value} {x : Nat} {m : kMem} {Q : Option Value → kMem → Prop} : kJ 54 7 [some (.ref x), l1] st m Q = kJ 54 8 [some (.ref x), l1] (.ref x :: st) m Q := kJ_next d54_7 rfl
theorem d54_8 : decode (mB 54) 8 = .ok (.getfield 29, 3) := by decide +kernel
theorem s54_8 {l0 l1 : Option Value} {st : List Value} {q : Nat} {mi : Nat → Nat → Int32} {ml : Nat → Nat → Int64} {mr : Nat → Nat → Option Nat} {nx : Nat} {Q : Option Value → kMem → Prop} (h : kIs nx q 4 = true) : kJ 54 8 [l0, l1] (.ref q :: st) (mi, ml, mr, nx) Q = kJ 54 11 [l0, l1] (va_rf (mr q 3) :: st) (mi, ml, mr, nx) Q := kJ_next d54_8 (kg_getr 4 3 rfl h (by decide))
theorem d54_11 : decode (mB 54) 11 = .ok (.iconst 0, 1) := by decide +kernel
theorem s54_11 {l0 l1 : Option Value} {st : List Value} {m : kMem} {Q : Option Value → kMem → Prop} : kJ 54 11 [l0, l1] st m Q = kJ 54 12 [l0, l1] (.int (nI 0) :: st) m Q := kJ_next d54_11 rfl
theorem d54_12 : decode (mB 54) 12 = .ok (.putfield 59, 3) := by decide +kernel
theorem s54_12 {l0 l1 : Option Value} {st : List Value} {q : Nat} {x : Int32} {mi : Nat → Nat → Int32} {ml : Nat → Nat → Int64} {mr : Nat → Nat → Option Nat} {nx : Nat} {Q : Option Value → kMem → Prop} (h : kIs nx q 3 = true) : kJ 54 12 [l0, l1] (.int x :: .ref q :: st) (mi, ml, mr, nx) Q = kJ 54 15 [l0, l1] st (kup mi q 1 x, ml, mr, nx) Q := kJ_next d54_12 (kg_puti 3 1 rfl h (by decide) (Or.inl (by decide)))
theorem d54_15 : decode (mB 54) 15 = .ok (.aload_n 0, 1) := by decide +kernel
theorem s54_15 {l1 : Option Value} {st : List Value} {x : Nat} {m : kMem} {Q : Option Value → kMem → Prop} : kJ 54 15 [some (.ref x), l1] st m Q = kJ 54 16 [some (.ref x), l1] (.ref x :: st) m Q := kJ_next d54_15 rfl
theorem d54_16 : decode (mB 54) 16 = .ok (.aload_n 0, 1) := by decide +kernel
theorem s54_16 {l1 : Option Value} {st : List Value} {x : Nat} {m : kMem} {Q : Option Value → kMem → Prop} : kJ 54 16 [some (.ref x), l1] st m Q = kJ 54 17 [some (.ref x), l1] (.ref x :: st) m Q := kJ_next d54_16 rfl
theorem d54_17 : decode (mB 54) 17 = .ok (.getfield 29, 3) := by decide +kernel
theorem s54_17 {l0 l1 : Option Value} {st : List Value} {q : Nat} {mi : Nat → Nat → Int32} {ml : Nat → Nat → Int64} {mr : Nat → Nat → Option Nat} {nx : Nat} {Q : Option Value → kMem → Prop} (h : kIs nx q 4 = true) : kJ 54 17 [l0, l1] (.ref q :: st) (mi, ml, mr, nx) Q = kJ 54 20 [l0, l1] (va_rf (mr q 3) :: st) (mi, ml, mr, nx) Q := kJ_next d54_17 (kg_getr 4 3 rfl h (by decide))
theorem d54_20 : decode (mB 54) 20 = .ok (.getfield 69, 3) := by decide +kernel
theorem s54_20 {l0 l1 : Option Value} {st : List Value} {q : Nat} {mi : Nat → Nat → Int32} {ml : Nat → Nat → Int64} {mr : Nat → Nat → Option Nat} {nx : Nat} {Q : Option Value → kMem → Prop} (h : kIs nx q 3 = true) : kJ 54 20 [l0, l1] (.ref q :: st) (mi, ml, mr, nx) Q = kJ 54 23 [l0, l1] (.int (mi q 4) :: st) (mi, ml, mr, nx) Q := kJ_next d54_20 (kg_geti 3 4 rfl h (by decide))
theorem d54_23 : decode (mB 54) 23 = .ok (.putfield 72, 3) := by decide +kernel
theorem s54_23 {l0 l1 : Option Value} {st : List Value} {q : Nat} {x : Int32} {mi : Nat → Nat → Int32} {ml : Nat → Nat → Int64} {mr : Nat → Nat → Option Nat} {nx : Nat} {Q : Option Value → kMem → Prop} (h : kIs nx q 4 = true) : kJ 54 23 [l0, l1] (.int x :: .ref q :: st) (mi, ml, mr, nx) Q = kJ 54 26 [l0, l1] st (kup mi q 9 x, ml, mr, nx) Q := kJ_next d54_23 (kg_puti 4 9 rfl h (by decide) (Or.inl (by decide)))
theorem d54_26 : decode (mB 54) 26 = .ok (.aload_n 0, 1) := by decide +kernel
theorem s54_26 {l1 : Option Value} {st : List Value} {x : Nat} {m : kMem} {Q : Option Value → kMem → Prop} : kJ 54 26 [some (.ref x), l1] st m Q = kJ 54 27 [some (.ref x), l1] (.ref x :: st) m Q := kJ_next d54_26 rfl
theorem d54_27 : decode (mB 54) 27 = .ok (.getfield 72, 3) := by decide +kernel
theorem s54_27 {l0 l1 : Option Value} {st : List Value} {q : Nat} {mi : Nat → Nat → Int32} {ml : Nat → Nat → Int64} {mr : Nat → Nat → Option Nat} {nx : Nat} {Q : Option Value → kMem → Prop} (h : kIs nx q 4 = true) : kJ 54 27 [l0, l1] (.ref q :: st) (mi, ml, mr, nx) Q = kJ 54 30 [l0, l1] (.int (mi q 9) :: st) (mi, ml, mr, nx) Q := kJ_next d54_27 (kg_geti 4 9 rfl h (by decide))
theorem d54_30 : decode (mB 54) 30 = .ok (.ifCond .eq 14, 3) := by decide +kernel
theorem s54_30 {l0 l1 : Option Value} {st : List Value} {a : Int32} {m : kMem} {Q : Option Value → kMem → Prop} : kJ 54 30 [l0, l1] (.int a :: st) m Q = (if a = 0 then kJ 54 44 [l0, l1] st m Q else kJ 54 33 [l0, l1] st m Q) := kJ_if d54_30 rfl (fun h => kJ_next d54_30 h) (fun h => kJ_next d54_30 h)
theorem d54_33 : decode (mB 54) 33 = .ok (.bipush (-10), 2) := by decide +kernel
theorem s54_33 {l0 l1 : Option Value} {st : List Value} {m : kMem} {Q : Option Value → kMem → Prop} : kJ 54 33 [l0, l1] st m Q = kJ 54 35 [l0, l1] (.int (-10) :: st) m Q := kJ_next d54_33 rfl
theorem d54_35 : decode (mB 54) 35 = .ok (.aload_n 0, 1) := by decide +kernel
theorem s54_35 {l1 : Option Value} {st : List Value} {x : Nat} {m : kMem} {Q : Option Value → kMem → Prop} : kJ 54 35 [some (.ref x), l1] st m Q = kJ 54 36 [some (.ref x), l1] (.ref x :: st) m Q := kJ_next d54_35 rfl
theorem d54_36 : decode (mB 54) 36 = .ok (.getfield 29, 3) := by decide +kernel
theorem s54_36 {l0 l1 : Option Value} {st : List Value} {q : Nat} {mi : Nat → Nat → Int32} {ml : Nat → Nat → Int64} {mr : Nat → Nat → Option Nat} {nx : Nat} {Q : Option Value → kMem → Prop} (h : kIs nx q 4 = true) : kJ 54 36 [l0, l1] (.ref q :: st) (mi, ml, mr, nx) Q = kJ 54 39 [l0, l1] (va_rf (mr q 3) :: st) (mi, ml, mr, nx) Q := kJ_next d54_36 (kg_getr 4 3 rfl h (by decide))
theorem d54_39 : decode (mB 54) 39 = .ok (.getfield 75, 3) := by decide +kernel
theorem s54_39 {l0 l1 : Option Value} {st : List Value} {q : Nat} {mi : Nat → Nat → Int32} {ml : Nat → Nat → Int64} {mr : Nat → Nat → Option Nat} {nx : Nat} {Q : Option Value → kMem → Prop} (h : kIs nx q 3 = true) : kJ 54 39 [l0, l1] (.ref q :: st) (mi, ml, mr, nx) Q = kJ 54 42 [l0, l1] (.int (mi q 5) :: st) (mi, ml, mr, nx) Q := kJ_next d54_39 (kg_geti 3 5 rfl h (by decide))
theorem d54_42 : decode (mB 54) 42 = .ok (.isub, 1) := by decide +kernel
theorem s54_42 {l0 l1 : Option Value} {st : List Value} {a b : Int32} {m : kMem} {Q : Option Value → kMem → Prop} : kJ 54 42 [l0, l1] (.int b :: .int a :: st) m Q = kJ 54 43 [l0, l1] (.int (a - b) :: st) m Q := kJ_next d54_42 rfl
theorem d54_43 : decode (mB 54) 43 = .ok (.ireturn, 1) := by decide +kernel
theorem s54_43 {l0 l1 : Option Value} {x : Int32} {m : kMem} {Q : Option Value → kMem → Prop} : kJ 54 43 [l0, l1] [.int x] m Q = Q (some (.int x)) m := kJ_ret d54_43 rfl
theorem d54_44 : decode (mB 54) 44 = .ok (.aload_n 0, 1) := by decide +kernel
theorem s54_44 {l1 : Option Value} {st : List Value} {x : Nat} {m : kMem} {Q : Option Value → kMem → Prop} : kJ 54 44 [some (.ref x), l1] st m Q = kJ 54 45 [some (.ref x), l1] (.ref x :: st) m Q := kJ_next d54_44 rfl
theorem d54_45 : decode (mB 54) 45 = .ok (.getfield 10, 3) := by decide +kernel
theorem s54_45 {l0 l1 : Option Value} {st : List Value} {q : Nat} {mi : Nat → Nat → Int32} {ml : Nat → Nat → Int64} {mr : Nat → Nat → Option Nat} {nx : Nat} {Q : Option Value → kMem → Prop} (h : kIs nx q 4 = true) : kJ 54 45 [l0, l1] (.ref q :: st) (mi, ml, mr, nx) Q = kJ 54 48 [l0, l1] (va_rf (mr q 0) :: st) (mi, ml, mr, nx) Q := kJ_next d54_45 (kg_getr 4 0 rfl h (by decide))
theorem d54_48 : decode (mB 54) 48 = .ok (.aload_n 0, 1) := by decide +kernel
theorem s54_48 {l1 : Option Value} {st : List Value} {x : Nat} {m : kMem} {Q : Option Value → kMem → Prop} : kJ 54 48 [some (.ref x), l1] st m Q = kJ 54 49 [some (.ref x), l1] (.ref x :: st) m Q := kJ_next d54_48 rfl
theorem d54_49 : decode (mB 54) 49 = .ok (.getfield 29, 3) := by decide +kernel
theorem s54_49 {l0 l1 : Option Value} {st : List Value} {q : Nat} {mi : Nat → Nat → Int32} {ml : Nat → Nat → Int64} {mr : Nat → Nat → Option Nat} {nx : Nat} {Q : Option Value → kMem → Prop} (h : kIs nx q 4 = true) : kJ 54 49 [l0, l1] (.ref q :: st) (mi, ml, mr, nx) Q = kJ 54 52 [l0, l1] (va_rf (mr q 3) :: st) (mi, ml, mr, nx) Q := kJ_next d54_49 (kg_getr 4 3 rfl h (by decide))
theorem d54_52 : decode (mB 54) 52 = .ok (.getfield 78, 3) := by decide +kernel
theorem s54_52 {l0 l1 : Option Value} {st : List Value} {q : Nat} {mi : Nat → Nat → Int32} {ml : Nat → Nat → Int64} {mr : Nat → Nat → Option Nat} {nx : Nat} {Q : Option Value → kMem → Prop} (h : kIs nx q 3 = true) : kJ 54 52 [l0, l1] (.ref q :: st) (mi, ml, mr, nx) Q = kJ 54 55 [l0, l1] (va_rf (mr q 2) :: st) (mi, ml, mr, nx) Q := kJ_next d54_52 (kg_getr 3 2 rfl h (by decide))
theorem d54_55 : decode (mB 54) 55 = .ok (.invokevirtual 81, 3) := by decide +kernel
theorem s54_55 {l0 l1 : Option Value} {v0 : Nat} {v1 : Nat} {m : kMem} {Q : Option Value → kMem → Prop} (h : kIs m.2.2.2 v1 1 = true) : kJ 54 55 [l0, l1] [.ref v0, .ref v1] m Q = kJ 6 0 [some (.ref v1), some (.ref v0)] [] m (fun v m2 => kJ 54 58 [l0, l1] (v.toList ++ []) m2 Q) := kJ_call d54_55 (kg_callv 6 1 rfl rfl rfl rfl (Nat.le_of_ble_eq_true rfl) (Nat.le_of_ble_eq_true rfl) (Nat.le_of_ble_eq_true rfl) h rfl)
theorem d54_58 : decode (mB 54) 58 = .ok (.iconst 0, 1) := by decide +kernel
theorem s54_58 {l0 l1 : Option Value} {st : List Value} {m : kMem} {Q : Option Value → kMem → Prop} : kJ 54 58 [l0, l1] st m Q = kJ 54 59 [l0, l1] (.int (nI 0) :: st) m Q := kJ_next d54_58 rfl
theorem d54_59 : decode (mB 54) 59 = .ok (.istore_n 1, 1) := by decide +kernel
theorem s54_59 {l0 l1 : Option Value} {st : List Value} {x : Int32} {m : kMem} {Q : Option Value → kMem → Prop} (hp : kNL l0 = true) : kJ 54 59 [l0, l1] (.int x :: st) m Q = kJ 54 60 [l0, some (.int x)] st m Q := kJ_next d54_59 (kg_sti (Nat.le_of_ble_eq_true rfl) hp)
theorem d54_60 : decode (mB 54) 60 = .ok (.iload_n 1, 1) := by decide +kernel
theorem s54_60 {l0 : Option Value} {st : List Value} {x : Int32} {m : kMem} {Q : Option Value → kMem → Prop} : kJ 54 60 [l0, some (.int x)] st m Q = kJ 54 61 [l0, some (.int x)] (.int x :: st) m Q := kJ_next d54_60 rfl
theorem d54_61 : decode (mB 54) 61 = .ok (.iconst 2, 1) := by decide +kernel
theorem s54_61 {l0 l1 : Option Value} {st : List Value} {m : kMem} {Q : Option Value → kMem → Prop} : kJ 54 61 [l0, l1] st m Q = kJ 54 62 [l0, l1] (.int (nI 2) :: st) m Q := kJ_next d54_61 rfl
theorem d54_62 : decode (mB 54) 62 = .ok (.if_icmp .ge 16, 3) := by decide +kernel
theorem s54_62 {l0 l1 : Option Value} {st : List Value} {a b : Int32} {m : kMem} {Q : Option Value → kMem → Prop} : kJ 54 62 [l0, l1] (.int b :: .int a :: st) m Q = (if b ≤ a then kJ 54 78 [l0, l1] st m Q else kJ 54 65 [l0, l1] st m Q) := kJ_if d54_62 rfl (fun h => kJ_next d54_62 h) (fun h => kJ_next d54_62 h)
theorem d54_65 : decode (mB 54) 65 = .ok (.aload_n 0, 1) := by decide +kernel
theorem s54_65 {l1 : Option Value} {st : List Value} {x : Nat} {m : kMem} {Q : Option Value → kMem → Prop} : kJ 54 65 [some (.ref x), l1] st m Q = kJ 54 66 [some (.ref x), l1] (.ref x :: st) m Q := kJ_next d54_65 rfl
theorem d54_66 : decode (mB 54) 66 = .ok (.getfield 37, 3) := by decide +kernel
theorem s54_66 {l0 l1 : Option Value} {st : List Value} {q : Nat} {mi : Nat → Nat → Int32} {ml : Nat → Nat → Int64} {mr : Nat → Nat → Option Nat} {nx : Nat} {Q : Option Value → kMem → Prop} (h : kIs nx q 4 = true) : kJ 54 66 [l0, l1] (.ref q :: st) (mi, ml, mr, nx) Q = kJ 54 69 [l0, l1] (va_rf (mr q 5) :: st) (mi, ml, mr, nx) Q := kJ_next d54_66 (kg_getr 4 5 rfl h (by decide))
theorem d54_69 : decode (mB 54) 69 = .ok (.iload_n 1, 1) := by decide +kernel
theorem s54_69 {l0 : Option Value} {st : List Value} {x : Int32} {m : kMem} {Q : Option Value → kMem → Prop} : kJ 54 69 [l0, some (.int x)] st m Q = kJ 54 70 [l0, some (.int x)] (.int x :: st) m Q := kJ_next d54_69 rfl
theorem d54_70 : decode (mB 54) 70 = .ok (.iconst 0, 1) := by decide +kernel
theorem s54_70 {l0 l1 : Option Value} {st : List Value} {m : kMem} {Q : Option Value → kMem → Prop} : kJ 54 70 [l0, l1] st m Q = kJ 54 71 [l0, l1] (.int (nI 0) :: st) m Q := kJ_next d54_70 rfl
theorem d54_71 : decode (mB 54) 71 = .ok (.bastore, 1) := by decide +kernel
theorem s54_71 {l0 l1 : Option Value} {st : List Value} {q : Nat} {i x : Int32} {mi : Nat → Nat → Int32} {ml : Nat → Nat → Int64} {mr : Nat → Nat → Option Nat} {nx : Nat} {Q : Option Value → kMem → Prop} (h : kIs nx q 11 = true) : kJ 54 71 [l0, l1] (.int x :: .int i :: .ref q :: st) (mi, ml, mr, nx) Q = (vp_in i (kAl q) ∧ kJ 54 72 [l0, l1] st (kup mi q i.toNatClampNeg (x &&& 1), ml, mr, nx) Q) := kg_astJ d54_71 rfl (kAr_of h)
theorem d54_72 : decode (mB 54) 72 = .ok (.iinc 1 1, 3) := by decide +kernel
theorem s54_72 {l0 : Option Value} {st : List Value} {x : Int32} {m : kMem} {Q : Option Value → kMem → Prop} (hp : kNL l0 = true) : kJ 54 72 [l0, some (.int x)] st m Q = kJ 54 75 [l0, some (.int (x + (nI 1)))] st m Q := kJ_next d54_72 (kg_inc rfl (Nat.le_of_ble_eq_true rfl) hp)
theorem d54_75 : decode (mB 54) 75 = .ok (.goto (-15), 3) := by decide +kernel
theorem s54_75 {l0 l1 : Option Value} {st : List Value} {m : kMem} {Q : Option Value → kMem → Prop} : kJ 54 75 [l0, l1] st m Q = kJ 54 60 [l0, l1] st m Q := kJ_next d54_75 rfl
theorem d54_78 : decode (mB 54) 78 = .ok (.aload_n 0, 1) := by decide +kernel
theorem s54_78 {l1 : Option Value} {st : List Value} {x : Nat} {m : kMem} {Q : Option Value → kMem → Prop} : kJ 54 78 [some (.ref x), l1] st m Q = kJ 54 79 [some (.ref x), l1] (.ref x :: st) m Q := kJ_next d54_78 rfl
theorem d54_79 : decode (mB 54) 79 = .ok (.getfield 29, 3) := by decide +kernel
theorem s54_79 {l0 l1 : Option Value} {st : List Value} {q : Nat} {mi : Nat → Nat → Int32} {ml : Nat → Nat → Int64} {mr : Nat → Nat → Option Nat} {nx : Nat} {Q : Option Value → kMem → Prop} (h : kIs nx q 4 = true) : kJ 54 79 [l0, l1] (.ref q :: st) (mi, ml, mr, nx) Q = kJ 54 82 [l0, l1] (va_rf (mr q 3) :: st) (mi, ml, mr, nx) Q := kJ_next d54_79 (kg_getr 4 3 rfl h (by decide))
theorem d54_82 : decode (mB 54) 82 = .ok (.getfield 85, 3) := by decide +kernel
theorem s54_82 {l0 l1 : Option Value} {st : List Value} {q : Nat} {mi : Nat → Nat → Int32} {ml : Nat → Nat → Int64} {mr : Nat → Nat → Option Nat} {nx : Nat} {Q : Option Value → kMem → Prop} (h : kIs nx q 3 = true) : kJ 54 82 [l0, l1] (.ref q :: st) (mi, ml, mr, nx) Q = kJ 54 85 [l0, l1] (.int (mi q 3) :: st) (mi, ml, mr, nx) Q := kJ_next d54_82 (kg_geti 3 3 rfl h (by decide))
theorem d54_85 : decode (mB 54) 85 = .ok (.ireturn, 1) := by decide +kernel
theorem s54_85 {l0 l1 : Option Value} {x : Int32} {m : kMem} {Q : Option Value → kMem → Prop} : kJ 54 85 [l0, l1] [.int x] m Q = Q (some (.int x)) m := kJ_ret d54_85 rfl
theorem d55_0 : decode (mB 55) 0 = .ok (.aload_n 0, 1) := by decide +kernel
theorem s55_0 {st : List Value} {x : Nat} {m : kMem} {Q : Option Value → kMem → Prop} : kJ 55 0 [some (.ref x)] st m Q = kJ 55 1 [some (.ref x)] (.ref x :: st) m Q := kJ_next d55_0 rfl
theorem d55_1 : decode (mB 55) 1 = .ok (.getfield 72, 3) := by decide +kernel
theorem s55_1 {l0 : Option Value} {st : List Value} {q : Nat} {mi : Nat → Nat → Int32} {ml : Nat → Nat → Int64} {mr : Nat → Nat → Option Nat} {nx : Nat} {Q : Option Value → kMem → Prop} (h : kIs nx q 4 = true) : kJ 55 1 [l0] (.ref q :: st) (mi, ml, mr, nx) Q = kJ 55 4 [l0] (.int (mi q 9) :: st) (mi, ml, mr, nx) Q := kJ_next d55_1 (kg_geti 4 9 rfl h (by decide))
theorem d55_4 : decode (mB 55) 4 = .ok (.ireturn, 1) := by decide +kernel
theorem s55_4 {l0 : Option Value} {x : Int32} {m : kMem} {Q : Option Value → kMem → Prop} : kJ 55 4 [l0] [.int x] m Q = Q (some (.int x)) m := kJ_ret d55_4 rfl
theorem d56_0 : decode (mB 56) 0 = .ok (.iload_n 1, 1) := by decide +kernel
theorem s56_0 {l0 : Option Value} {st : List Value} {x : Int32} {m : kMem} {Q : Option Value → kMem → Prop} : kJ 56 0 [l0, some (.int x)] st m Q = kJ 56 1 [l0, some (.int x)] (.int x :: st) m Q := kJ_next d56_0 rfl
theorem d56_1 : decode (mB 56) 1 = .ok (.tableswitch 101 0 6 #[43, 51, 59, 67, 75, 83, 92], 43) := by decide +kernel
theorem s56_1 {l0 l1 : Option Value} {st : List Value} {a : Int32} {m : kMem} {Q : Option Value → kMem → Prop} : kJ 56 1 [l0, l1] (.int a :: st) m Q = (if a = (nI 0) then kJ 56 44 [l0, l1] st m Q else if a = (nI 1) then kJ 56 52 [l0, l1] st m Q else if a = (nI 2) then kJ 56 60 [l0, l1] st m Q else if a = (nI 3) then kJ 56 68 [l0, l1] st m Q else if a = (nI 4) then kJ 56 76 [l0, l1] st m Q else if a = (nI 5) then kJ 56 84 [l0, l1] st m Q else if a = (nI 6) then kJ 56 93 [l0, l1] st m Q else kJ 56 102 [l0, l1] st m Q) := by
  by_cases h0 : a = nI 0
  · subst h0; exact kJ_next d56_1 rfl
  rw [if_neg h0]
  by_cases h1 : a = nI 1
  · subst h1; exact kJ_next d56_1 rfl
  rw [if_neg h1]
  by_cases h2 : a = nI 2
  · subst h2; exact kJ_next d56_1 rfl
  rw [if_neg h2]
  by_cases h3 : a = nI 3
  · subst h3; exact kJ_next d56_1 rfl
  rw [if_neg h3]
  by_cases h4 : a = nI 4
  · subst h4; exact kJ_next d56_1 rfl
  rw [if_neg h4]
  by_cases h5 : a = nI 5
  · subst h5; exact kJ_next d56_1 rfl
  rw [if_neg h5]
  by_cases h6 : a = nI 6
  · subst h6; exact kJ_next d56_1 rfl
  rw [if_neg h6]
  have hz : ∀ j, j < 0 → a ≠ nI j := fun j hj => absurd hj (Nat.not_lt_zero j)
  refine kJ_next d56_1 (if_pos (c := a.toInt < 0 ∨ (6 : Int) < a.toInt) ?_)
  have hr := kg_rng (a := a) (n := 6) (by decide) (fun j hj => by
    rcases Nat.lt_or_ge j 0 with hl | hl
    · exact hz j hl
    · have hj2 : j = 0 ∨ j = 1 ∨ j = 2 ∨ j = 3 ∨ j = 4 ∨ j = 5 ∨ j = 6 := by omega
      rcases hj2 with rfl | rfl | rfl | rfl | rfl | rfl | rfl
      · exact h0
      · exact h1
      · exact h2
      · exact h3
      · exact h4
      · exact h5
      · exact h6
    )
  omega
theorem d56_44 : decode (mB 56) 44 = .ok (.aload_n 0, 1) := by decide +kernel
theorem s56_44 {l1 : Option Value} {st : List Value} {x : Nat} {m : kMem} {Q : Option Value → kMem → Prop} : kJ 56 44 [some (.ref x), l1] st m Q = kJ 56 45 [some (.ref x), l1] (.ref x :: st) m Q := kJ_next d56_44 rfl
theorem d56_45 : decode (mB 56) 45 = .ok (.getfield 10, 3) := by decide +kernel
theorem s56_45 {l0 l1 : Option Value} {st : List Value} {q : Nat} {mi : Nat → Nat → Int32} {ml : Nat → Nat → Int64} {mr : Nat → Nat → Option Nat} {nx : Nat} {Q : Option Value → kMem → Prop} (h : kIs nx q 4 = true) : kJ 56 45 [l0, l1] (.ref q :: st) (mi, ml, mr, nx) Q = kJ 56 48 [l0, l1] (va_rf (mr q 0) :: st) (mi, ml, mr, nx) Q := kJ_next d56_45 (kg_getr 4 0 rfl h (by decide))
theorem d56_48 : decode (mB 56) 48 = .ok (.getfield 88, 3) := by decide +kernel
theorem s56_48 {l0 l1 : Option Value} {st : List Value} {q : Nat} {mi : Nat → Nat → Int32} {ml : Nat → Nat → Int64} {mr : Nat → Nat → Option Nat} {nx : Nat} {Q : Option Value → kMem → Prop} (h : kIs nx q 1 = true) : kJ 56 48 [l0, l1] (.ref q :: st) (mi, ml, mr, nx) Q = kJ 56 51 [l0, l1] (.int (mi q 0) :: st) (mi, ml, mr, nx) Q := kJ_next d56_48 (kg_geti 1 0 rfl h (by decide))
theorem d56_51 : decode (mB 56) 51 = .ok (.ireturn, 1) := by decide +kernel
theorem s56_51 {l0 l1 : Option Value} {x : Int32} {m : kMem} {Q : Option Value → kMem → Prop} : kJ 56 51 [l0, l1] [.int x] m Q = Q (some (.int x)) m := kJ_ret d56_51 rfl
theorem d56_52 : decode (mB 56) 52 = .ok (.aload_n 0, 1) := by decide +kernel
theorem s56_52 {l1 : Option Value} {st : List Value} {x : Nat} {m : kMem} {Q : Option Value → kMem → Prop} : kJ 56 52 [some (.ref x), l1] st m Q = kJ 56 53 [some (.ref x), l1] (.ref x :: st) m Q := kJ_next d56_52 rfl
theorem d56_53 : decode (mB 56) 53 = .ok (.getfield 10, 3) := by decide +kernel
theorem s56_53 {l0 l1 : Option Value} {st : List Value} {q : Nat} {mi : Nat → Nat → Int32} {ml : Nat → Nat → Int64} {mr : Nat → Nat → Option Nat} {nx : Nat} {Q : Option Value → kMem → Prop} (h : kIs nx q 4 = true) : kJ 56 53 [l0, l1] (.ref q :: st) (mi, ml, mr, nx) Q = kJ 56 56 [l0, l1] (va_rf (mr q 0) :: st) (mi, ml, mr, nx) Q := kJ_next d56_53 (kg_getr 4 0 rfl h (by decide))
theorem d56_56 : decode (mB 56) 56 = .ok (.getfield 91, 3) := by decide +kernel
theorem s56_56 {l0 l1 : Option Value} {st : List Value} {q : Nat} {mi : Nat → Nat → Int32} {ml : Nat → Nat → Int64} {mr : Nat → Nat → Option Nat} {nx : Nat} {Q : Option Value → kMem → Prop} (h : kIs nx q 1 = true) : kJ 56 56 [l0, l1] (.ref q :: st) (mi, ml, mr, nx) Q = kJ 56 59 [l0, l1] (.int (mi q 4) :: st) (mi, ml, mr, nx) Q := kJ_next d56_56 (kg_geti 1 4 rfl h (by decide))
theorem d56_59 : decode (mB 56) 59 = .ok (.ireturn, 1) := by decide +kernel
theorem s56_59 {l0 l1 : Option Value} {x : Int32} {m : kMem} {Q : Option Value → kMem → Prop} : kJ 56 59 [l0, l1] [.int x] m Q = Q (some (.int x)) m := kJ_ret d56_59 rfl
theorem d56_60 : decode (mB 56) 60 = .ok (.aload_n 0, 1) := by decide +kernel
theorem s56_60 {l1 : Option Value} {st : List Value} {x : Nat} {m : kMem} {Q : Option Value → kMem → Prop} : kJ 56 60 [some (.ref x), l1] st m Q = kJ 56 61 [some (.ref x), l1] (.ref x :: st) m Q := kJ_next d56_60 rfl
theorem d56_61 : decode (mB 56) 61 = .ok (.getfield 10, 3) := by decide +kernel
theorem s56_61 {l0 l1 : Option Value} {st : List Value} {q : Nat} {mi : Nat → Nat → Int32} {ml : Nat → Nat → Int64} {mr : Nat → Nat → Option Nat} {nx : Nat} {Q : Option Value → kMem → Prop} (h : kIs nx q 4 = true) : kJ 56 61 [l0, l1] (.ref q :: st) (mi, ml, mr, nx) Q = kJ 56 64 [l0, l1] (va_rf (mr q 0) :: st) (mi, ml, mr, nx) Q := kJ_next d56_61 (kg_getr 4 0 rfl h (by decide))
theorem d56_64 : decode (mB 56) 64 = .ok (.getfield 94, 3) := by decide +kernel
theorem s56_64 {l0 l1 : Option Value} {st : List Value} {q : Nat} {mi : Nat → Nat → Int32} {ml : Nat → Nat → Int64} {mr : Nat → Nat → Option Nat} {nx : Nat} {Q : Option Value → kMem → Prop} (h : kIs nx q 1 = true) : kJ 56 64 [l0, l1] (.ref q :: st) (mi, ml, mr, nx) Q = kJ 56 67 [l0, l1] (.int (mi q 12) :: st) (mi, ml, mr, nx) Q := kJ_next d56_64 (kg_geti 1 12 rfl h (by decide))
theorem d56_67 : decode (mB 56) 67 = .ok (.ireturn, 1) := by decide +kernel
theorem s56_67 {l0 l1 : Option Value} {x : Int32} {m : kMem} {Q : Option Value → kMem → Prop} : kJ 56 67 [l0, l1] [.int x] m Q = Q (some (.int x)) m := kJ_ret d56_67 rfl
theorem d56_68 : decode (mB 56) 68 = .ok (.aload_n 0, 1) := by decide +kernel
theorem s56_68 {l1 : Option Value} {st : List Value} {x : Nat} {m : kMem} {Q : Option Value → kMem → Prop} : kJ 56 68 [some (.ref x), l1] st m Q = kJ 56 69 [some (.ref x), l1] (.ref x :: st) m Q := kJ_next d56_68 rfl
theorem d56_69 : decode (mB 56) 69 = .ok (.getfield 10, 3) := by decide +kernel
theorem s56_69 {l0 l1 : Option Value} {st : List Value} {q : Nat} {mi : Nat → Nat → Int32} {ml : Nat → Nat → Int64} {mr : Nat → Nat → Option Nat} {nx : Nat} {Q : Option Value → kMem → Prop} (h : kIs nx q 4 = true) : kJ 56 69 [l0, l1] (.ref q :: st) (mi, ml, mr, nx) Q = kJ 56 72 [l0, l1] (va_rf (mr q 0) :: st) (mi, ml, mr, nx) Q := kJ_next d56_69 (kg_getr 4 0 rfl h (by decide))
theorem d56_72 : decode (mB 56) 72 = .ok (.getfield 97, 3) := by decide +kernel
theorem s56_72 {l0 l1 : Option Value} {st : List Value} {q : Nat} {mi : Nat → Nat → Int32} {ml : Nat → Nat → Int64} {mr : Nat → Nat → Option Nat} {nx : Nat} {Q : Option Value → kMem → Prop} (h : kIs nx q 1 = true) : kJ 56 72 [l0, l1] (.ref q :: st) (mi, ml, mr, nx) Q = kJ 56 75 [l0, l1] (.int (mi q 11) :: st) (mi, ml, mr, nx) Q := kJ_next d56_72 (kg_geti 1 11 rfl h (by decide))
theorem d56_75 : decode (mB 56) 75 = .ok (.ireturn, 1) := by decide +kernel
theorem s56_75 {l0 l1 : Option Value} {x : Int32} {m : kMem} {Q : Option Value → kMem → Prop} : kJ 56 75 [l0, l1] [.int x] m Q = Q (some (.int x)) m := kJ_ret d56_75 rfl
theorem d56_76 : decode (mB 56) 76 = .ok (.aload_n 0, 1) := by decide +kernel
theorem s56_76 {l1 : Option Value} {st : List Value} {x : Nat} {m : kMem} {Q : Option Value → kMem → Prop} : kJ 56 76 [some (.ref x), l1] st m Q = kJ 56 77 [some (.ref x), l1] (.ref x :: st) m Q := kJ_next d56_76 rfl
theorem d56_77 : decode (mB 56) 77 = .ok (.getfield 10, 3) := by decide +kernel
theorem s56_77 {l0 l1 : Option Value} {st : List Value} {q : Nat} {mi : Nat → Nat → Int32} {ml : Nat → Nat → Int64} {mr : Nat → Nat → Option Nat} {nx : Nat} {Q : Option Value → kMem → Prop} (h : kIs nx q 4 = true) : kJ 56 77 [l0, l1] (.ref q :: st) (mi, ml, mr, nx) Q = kJ 56 80 [l0, l1] (va_rf (mr q 0) :: st) (mi, ml, mr, nx) Q := kJ_next d56_77 (kg_getr 4 0 rfl h (by decide))
theorem d56_80 : decode (mB 56) 80 = .ok (.invokevirtual 100, 3) := by decide +kernel
theorem s56_80 {l0 l1 : Option Value} {v0 : Nat} {m : kMem} {Q : Option Value → kMem → Prop} (h : kIs m.2.2.2 v0 1 = true) : kJ 56 80 [l0, l1] [.ref v0] m Q = kJ 15 0 [some (.ref v0)] [] m (fun v m2 => kJ 56 83 [l0, l1] (v.toList ++ []) m2 Q) := kJ_call d56_80 (kg_callv 15 0 rfl rfl rfl rfl (Nat.le_of_ble_eq_true rfl) (Nat.le_of_ble_eq_true rfl) (Nat.le_of_ble_eq_true rfl) h rfl)
theorem d56_83 : decode (mB 56) 83 = .ok (.ireturn, 1) := by decide +kernel
theorem s56_83 {l0 l1 : Option Value} {x : Int32} {m : kMem} {Q : Option Value → kMem → Prop} : kJ 56 83 [l0, l1] [.int x] m Q = Q (some (.int x)) m := kJ_ret d56_83 rfl
theorem d56_84 : decode (mB 56) 84 = .ok (.aload_n 0, 1) := by decide +kernel
theorem s56_84 {l1 : Option Value} {st : List Value} {x : Nat} {m : kMem} {Q : Option Value → kMem → Prop} : kJ 56 84 [some (.ref x), l1] st m Q = kJ 56 85 [some (.ref x), l1] (.ref x :: st) m Q := kJ_next d56_84 rfl
theorem d56_85 : decode (mB 56) 85 = .ok (.getfield 10, 3) := by decide +kernel
theorem s56_85 {l0 l1 : Option Value} {st : List Value} {q : Nat} {mi : Nat → Nat → Int32} {ml : Nat → Nat → Int64} {mr : Nat → Nat → Option Nat} {nx : Nat} {Q : Option Value → kMem → Prop} (h : kIs nx q 4 = true) : kJ 56 85 [l0, l1] (.ref q :: st) (mi, ml, mr, nx) Q = kJ 56 88 [l0, l1] (va_rf (mr q 0) :: st) (mi, ml, mr, nx) Q := kJ_next d56_85 (kg_getr 4 0 rfl h (by decide))
theorem d56_88 : decode (mB 56) 88 = .ok (.iconst 2, 1) := by decide +kernel
theorem s56_88 {l0 l1 : Option Value} {st : List Value} {m : kMem} {Q : Option Value → kMem → Prop} : kJ 56 88 [l0, l1] st m Q = kJ 56 89 [l0, l1] (.int (nI 2) :: st) m Q := kJ_next d56_88 rfl
theorem d56_89 : decode (mB 56) 89 = .ok (.invokevirtual 104, 3) := by decide +kernel
theorem s56_89 {l0 l1 : Option Value} {v0 : Int32} {v1 : Nat} {m : kMem} {Q : Option Value → kMem → Prop} (h : kIs m.2.2.2 v1 1 = true) : kJ 56 89 [l0, l1] [.int v0, .ref v1] m Q = kJ 16 0 [some (.ref v1), some (.int v0), none, none] [] m (fun v m2 => kJ 56 92 [l0, l1] (v.toList ++ []) m2 Q) := kJ_call d56_89 (kg_callv 16 1 rfl rfl rfl rfl (Nat.le_of_ble_eq_true rfl) (Nat.le_of_ble_eq_true rfl) (Nat.le_of_ble_eq_true rfl) h rfl)
theorem d56_92 : decode (mB 56) 92 = .ok (.ireturn, 1) := by decide +kernel
theorem s56_92 {l0 l1 : Option Value} {x : Int32} {m : kMem} {Q : Option Value → kMem → Prop} : kJ 56 92 [l0, l1] [.int x] m Q = Q (some (.int x)) m := kJ_ret d56_92 rfl
theorem d56_93 : decode (mB 56) 93 = .ok (.aload_n 0, 1) := by decide +kernel
theorem s56_93 {l1 : Option Value} {st : List Value} {x : Nat} {m : kMem} {Q : Option Value → kMem → Prop} : kJ 56 93 [some (.ref x), l1] st m Q = kJ 56 94 [some (.ref x), l1] (.ref x :: st) m Q := kJ_next d56_93 rfl
theorem d56_94 : decode (mB 56) 94 = .ok (.getfield 10, 3) := by decide +kernel
theorem s56_94 {l0 l1 : Option Value} {st : List Value} {q : Nat} {mi : Nat → Nat → Int32} {ml : Nat → Nat → Int64} {mr : Nat → Nat → Option Nat} {nx : Nat} {Q : Option Value → kMem → Prop} (h : kIs nx q 4 = true) : kJ 56 94 [l0, l1] (.ref q :: st) (mi, ml, mr, nx) Q = kJ 56 97 [l0, l1] (va_rf (mr q 0) :: st) (mi, ml, mr, nx) Q := kJ_next d56_94 (kg_getr 4 0 rfl h (by decide))
theorem d56_97 : decode (mB 56) 97 = .ok (.iconst 3, 1) := by decide +kernel
theorem s56_97 {l0 l1 : Option Value} {st : List Value} {m : kMem} {Q : Option Value → kMem → Prop} : kJ 56 97 [l0, l1] st m Q = kJ 56 98 [l0, l1] (.int (nI 3) :: st) m Q := kJ_next d56_97 rfl
theorem d56_98 : decode (mB 56) 98 = .ok (.invokevirtual 104, 3) := by decide +kernel
theorem s56_98 {l0 l1 : Option Value} {v0 : Int32} {v1 : Nat} {m : kMem} {Q : Option Value → kMem → Prop} (h : kIs m.2.2.2 v1 1 = true) : kJ 56 98 [l0, l1] [.int v0, .ref v1] m Q = kJ 16 0 [some (.ref v1), some (.int v0), none, none] [] m (fun v m2 => kJ 56 101 [l0, l1] (v.toList ++ []) m2 Q) := kJ_call d56_98 (kg_callv 16 1 rfl rfl rfl rfl (Nat.le_of_ble_eq_true rfl) (Nat.le_of_ble_eq_true rfl) (Nat.le_of_ble_eq_true rfl) h rfl)
theorem d56_101 : decode (mB 56) 101 = .ok (.ireturn, 1) := by decide +kernel
theorem s56_101 {l0 l1 : Option Value} {x : Int32} {m : kMem} {Q : Option Value → kMem → Prop} : kJ 56 101 [l0, l1] [.int x] m Q = Q (some (.int x)) m := kJ_ret d56_101 rfl
theorem d56_102 : decode (mB 56) 102 = .ok (.iconst (-1), 1) := by decide +kernel
theorem s56_102 {l0 l1 : Option Value} {st : List Value} {m : kMem} {Q : Option Value → kMem → Prop} : kJ 56 102 [l0, l1] st m Q = kJ 56 103 [l0, l1] (.int (-1) :: st) m Q := kJ_next d56_102 rfl
theorem d56_103 : decode (mB 56) 103 = .ok (.ireturn, 1) := by decide +kernel
theorem s56_103 {l0 l1 : Option Value} {x : Int32} {m : kMem} {Q : Option Value → kMem → Prop} : kJ 56 103 [l0, l1] [.int x] m Q = Q (some (.int x)) m := kJ_ret d56_103 rfl
theorem d57_0 : decode (mB 57) 0 = .ok (.aload_n 0, 1) := by decide +kernel
theorem s57_0 {l1 l2 : Option Value} {st : List Value} {x : Nat} {m : kMem} {Q : Option Value → kMem → Prop} : kJ 57 0 [some (.ref x), l1, l2] st m Q = kJ 57 1 [some (.ref x), l1, l2] (.ref x :: st) m Q := kJ_next d57_0 rfl
theorem d57_1 : decode (mB 57) 1 = .ok (.getfield 10, 3) := by decide +kernel
theorem s57_1 {l0 l1 l2 : Option Value} {st : List Value} {q : Nat} {mi : Nat → Nat → Int32} {ml : Nat → Nat → Int64} {mr : Nat → Nat → Option Nat} {nx : Nat} {Q : Option Value → kMem → Prop} (h : kIs nx q 4 = true) : kJ 57 1 [l0, l1, l2] (.ref q :: st) (mi, ml, mr, nx) Q = kJ 57 4 [l0, l1, l2] (va_rf (mr q 0) :: st) (mi, ml, mr, nx) Q := kJ_next d57_1 (kg_getr 4 0 rfl h (by decide))
theorem d57_4 : decode (mB 57) 4 = .ok (.iload_n 1, 1) := by decide +kernel
theorem s57_4 {l0 l2 : Option Value} {st : List Value} {x : Int32} {m : kMem} {Q : Option Value → kMem → Prop} : kJ 57 4 [l0, some (.int x), l2] st m Q = kJ 57 5 [l0, some (.int x), l2] (.int x :: st) m Q := kJ_next d57_4 rfl
theorem d57_5 : decode (mB 57) 5 = .ok (.invokevirtual 108, 3) := by decide +kernel
theorem s57_5 {l0 l1 l2 : Option Value} {v0 : Int32} {v1 : Nat} {m : kMem} {Q : Option Value → kMem → Prop} (h : kIs m.2.2.2 v1 1 = true) : kJ 57 5 [l0, l1, l2] [.int v0, .ref v1] m Q = kJ 7 0 [some (.ref v1), some (.int v0)] [] m (fun v m2 => kJ 57 8 [l0, l1, l2] (v.toList ++ []) m2 Q) := kJ_call d57_5 (kg_callv 7 1 rfl rfl rfl rfl (Nat.le_of_ble_eq_true rfl) (Nat.le_of_ble_eq_true rfl) (Nat.le_of_ble_eq_true rfl) h rfl)
theorem d57_8 : decode (mB 57) 8 = .ok (.ifCond .ne 5, 3) := by decide +kernel
theorem s57_8 {l0 l1 l2 : Option Value} {st : List Value} {a : Int32} {m : kMem} {Q : Option Value → kMem → Prop} : kJ 57 8 [l0, l1, l2] (.int a :: st) m Q = (if a = 0 then kJ 57 11 [l0, l1, l2] st m Q else kJ 57 13 [l0, l1, l2] st m Q) := kJ_if d57_8 rfl (fun h => kJ_next d57_8 h) (fun h => kJ_next d57_8 h)
theorem d57_11 : decode (mB 57) 11 = .ok (.iconst (-1), 1) := by decide +kernel
theorem s57_11 {l0 l1 l2 : Option Value} {st : List Value} {m : kMem} {Q : Option Value → kMem → Prop} : kJ 57 11 [l0, l1, l2] st m Q = kJ 57 12 [l0, l1, l2] (.int (-1) :: st) m Q := kJ_next d57_11 rfl
theorem d57_12 : decode (mB 57) 12 = .ok (.ireturn, 1) := by decide +kernel
theorem s57_12 {l0 l1 l2 : Option Value} {x : Int32} {m : kMem} {Q : Option Value → kMem → Prop} : kJ 57 12 [l0, l1, l2] [.int x] m Q = Q (some (.int x)) m := kJ_ret d57_12 rfl
theorem d57_13 : decode (mB 57) 13 = .ok (.iload_n 2, 1) := by decide +kernel
theorem s57_13 {l0 l1 : Option Value} {st : List Value} {x : Int32} {m : kMem} {Q : Option Value → kMem → Prop} : kJ 57 13 [l0, l1, some (.int x)] st m Q = kJ 57 14 [l0, l1, some (.int x)] (.int x :: st) m Q := kJ_next d57_13 rfl
theorem d57_14 : decode (mB 57) 14 = .ok (.tableswitch 69 0 3 #[30, 40, 50, 60], 30) := by decide +kernel
theorem s57_14 {l0 l1 l2 : Option Value} {st : List Value} {a : Int32} {m : kMem} {Q : Option Value → kMem → Prop} : kJ 57 14 [l0, l1, l2] (.int a :: st) m Q = (if a = (nI 0) then kJ 57 44 [l0, l1, l2] st m Q else if a = (nI 1) then kJ 57 54 [l0, l1, l2] st m Q else if a = (nI 2) then kJ 57 64 [l0, l1, l2] st m Q else if a = (nI 3) then kJ 57 74 [l0, l1, l2] st m Q else kJ 57 83 [l0, l1, l2] st m Q) := by
  by_cases h0 : a = nI 0
  · subst h0; exact kJ_next d57_14 rfl
  rw [if_neg h0]
  by_cases h1 : a = nI 1
  · subst h1; exact kJ_next d57_14 rfl
  rw [if_neg h1]
  by_cases h2 : a = nI 2
  · subst h2; exact kJ_next d57_14 rfl
  rw [if_neg h2]
  by_cases h3 : a = nI 3
  · subst h3; exact kJ_next d57_14 rfl
  rw [if_neg h3]
  have hz : ∀ j, j < 0 → a ≠ nI j := fun j hj => absurd hj (Nat.not_lt_zero j)
  refine kJ_next d57_14 (if_pos (c := a.toInt < 0 ∨ (3 : Int) < a.toInt) ?_)
  have hr := kg_rng (a := a) (n := 3) (by decide) (fun j hj => by
    rcases Nat.lt_or_ge j 0 with hl | hl
    · exact hz j hl
    · have hj2 : j = 0 ∨ j = 1 ∨ j = 2 ∨ j = 3 := by omega
      rcases hj2 with rfl | rfl | rfl | rfl
      · exact h0
      · exact h1
      · exact h2
      · exact h3
    )
  omega
theorem d57_44 : decode (mB 57) 44 = .ok (.aload_n 0, 1) := by decide +kernel
theorem s57_44 {l1 l2 : Option Value} {st : List Value} {x : Nat} {m : kMem} {Q : Option Value → kMem → Prop} : kJ 57 44 [some (.ref x), l1, l2] st m Q = kJ 57 45 [some (.ref x), l1, l2] (.ref x :: st) m Q := kJ_next d57_44 rfl
theorem d57_45 : decode (mB 57) 45 = .ok (.getfield 10, 3) := by decide +kernel
theorem s57_45 {l0 l1 l2 : Option Value} {st : List Value} {q : Nat} {mi : Nat → Nat → Int32} {ml : Nat → Nat → Int64} {mr : Nat → Nat → Option Nat} {nx : Nat} {Q : Option Value → kMem → Prop} (h : kIs nx q 4 = true) : kJ 57 45 [l0, l1, l2] (.ref q :: st) (mi, ml, mr, nx) Q = kJ 57 48 [l0, l1, l2] (va_rf (mr q 0) :: st) (mi, ml, mr, nx) Q := kJ_next d57_45 (kg_getr 4 0 rfl h (by decide))
theorem d57_48 : decode (mB 57) 48 = .ok (.getfield 112, 3) := by decide +kernel
theorem s57_48 {l0 l1 l2 : Option Value} {st : List Value} {q : Nat} {mi : Nat → Nat → Int32} {ml : Nat → Nat → Int64} {mr : Nat → Nat → Option Nat} {nx : Nat} {Q : Option Value → kMem → Prop} (h : kIs nx q 1 = true) : kJ 57 48 [l0, l1, l2] (.ref q :: st) (mi, ml, mr, nx) Q = kJ 57 51 [l0, l1, l2] (va_rf (mr q 1) :: st) (mi, ml, mr, nx) Q := kJ_next d57_48 (kg_getr 1 1 rfl h (by decide))
theorem d57_51 : decode (mB 57) 51 = .ok (.iload_n 1, 1) := by decide +kernel
theorem s57_51 {l0 l2 : Option Value} {st : List Value} {x : Int32} {m : kMem} {Q : Option Value → kMem → Prop} : kJ 57 51 [l0, some (.int x), l2] st m Q = kJ 57 52 [l0, some (.int x), l2] (.int x :: st) m Q := kJ_next d57_51 rfl
theorem d57_52 : decode (mB 57) 52 = .ok (.iaload, 1) := by decide +kernel
theorem s57_52 {l0 l1 l2 : Option Value} {st : List Value} {q : Nat} {i : Int32} {mi : Nat → Nat → Int32} {ml : Nat → Nat → Int64} {mr : Nat → Nat → Option Nat} {nx : Nat} {Q : Option Value → kMem → Prop} (h : kIs nx q 10 = true) : kJ 57 52 [l0, l1, l2] (.int i :: .ref q :: st) (mi, ml, mr, nx) Q = (vp_in i (kAl q) ∧ kJ 57 53 [l0, l1, l2] (.int (mi q i.toNatClampNeg) :: st) (mi, ml, mr, nx) Q) := kg_aldJ d57_52 rfl (kAr_of h)
theorem d57_53 : decode (mB 57) 53 = .ok (.ireturn, 1) := by decide +kernel
theorem s57_53 {l0 l1 l2 : Option Value} {x : Int32} {m : kMem} {Q : Option Value → kMem → Prop} : kJ 57 53 [l0, l1, l2] [.int x] m Q = Q (some (.int x)) m := kJ_ret d57_53 rfl
theorem d57_54 : decode (mB 57) 54 = .ok (.aload_n 0, 1) := by decide +kernel
theorem s57_54 {l1 l2 : Option Value} {st : List Value} {x : Nat} {m : kMem} {Q : Option Value → kMem → Prop} : kJ 57 54 [some (.ref x), l1, l2] st m Q = kJ 57 55 [some (.ref x), l1, l2] (.ref x :: st) m Q := kJ_next d57_54 rfl
theorem d57_55 : decode (mB 57) 55 = .ok (.getfield 10, 3) := by decide +kernel
theorem s57_55 {l0 l1 l2 : Option Value} {st : List Value} {q : Nat} {mi : Nat → Nat → Int32} {ml : Nat → Nat → Int64} {mr : Nat → Nat → Option Nat} {nx : Nat} {Q : Option Value → kMem → Prop} (h : kIs nx q 4 = true) : kJ 57 55 [l0, l1, l2] (.ref q :: st) (mi, ml, mr, nx) Q = kJ 57 58 [l0, l1, l2] (va_rf (mr q 0) :: st) (mi, ml, mr, nx) Q := kJ_next d57_55 (kg_getr 4 0 rfl h (by decide))
theorem d57_58 : decode (mB 57) 58 = .ok (.getfield 115, 3) := by decide +kernel
theorem s57_58 {l0 l1 l2 : Option Value} {st : List Value} {q : Nat} {mi : Nat → Nat → Int32} {ml : Nat → Nat → Int64} {mr : Nat → Nat → Option Nat} {nx : Nat} {Q : Option Value → kMem → Prop} (h : kIs nx q 1 = true) : kJ 57 58 [l0, l1, l2] (.ref q :: st) (mi, ml, mr, nx) Q = kJ 57 61 [l0, l1, l2] (va_rf (mr q 2) :: st) (mi, ml, mr, nx) Q := kJ_next d57_58 (kg_getr 1 2 rfl h (by decide))
theorem d57_61 : decode (mB 57) 61 = .ok (.iload_n 1, 1) := by decide +kernel
theorem s57_61 {l0 l2 : Option Value} {st : List Value} {x : Int32} {m : kMem} {Q : Option Value → kMem → Prop} : kJ 57 61 [l0, some (.int x), l2] st m Q = kJ 57 62 [l0, some (.int x), l2] (.int x :: st) m Q := kJ_next d57_61 rfl
theorem d57_62 : decode (mB 57) 62 = .ok (.iaload, 1) := by decide +kernel
theorem s57_62 {l0 l1 l2 : Option Value} {st : List Value} {q : Nat} {i : Int32} {mi : Nat → Nat → Int32} {ml : Nat → Nat → Int64} {mr : Nat → Nat → Option Nat} {nx : Nat} {Q : Option Value → kMem → Prop} (h : kIs nx q 10 = true) : kJ 57 62 [l0, l1, l2] (.int i :: .ref q :: st) (mi, ml, mr, nx) Q = (vp_in i (kAl q) ∧ kJ 57 63 [l0, l1, l2] (.int (mi q i.toNatClampNeg) :: st) (mi, ml, mr, nx) Q) := kg_aldJ d57_62 rfl (kAr_of h)
theorem d57_63 : decode (mB 57) 63 = .ok (.ireturn, 1) := by decide +kernel
theorem s57_63 {l0 l1 l2 : Option Value} {x : Int32} {m : kMem} {Q : Option Value → kMem → Prop} : kJ 57 63 [l0, l1, l2] [.int x] m Q = Q (some (.int x)) m := kJ_ret d57_63 rfl
theorem d57_64 : decode (mB 57) 64 = .ok (.aload_n 0, 1) := by decide +kernel
theorem s57_64 {l1 l2 : Option Value} {st : List Value} {x : Nat} {m : kMem} {Q : Option Value → kMem → Prop} : kJ 57 64 [some (.ref x), l1, l2] st m Q = kJ 57 65 [some (.ref x), l1, l2] (.ref x :: st) m Q := kJ_next d57_64 rfl
theorem d57_65 : decode (mB 57) 65 = .ok (.getfield 10, 3) := by decide +kernel
theorem s57_65 {l0 l1 l2 : Option Value} {st : List Value} {q : Nat} {mi : Nat → Nat → Int32} {ml : Nat → Nat → Int64} {mr : Nat → Nat → Option Nat} {nx : Nat} {Q : Option Value → kMem → Prop} (h : kIs nx q 4 = true) : kJ 57 65 [l0, l1, l2] (.ref q :: st) (mi, ml, mr, nx) Q = kJ 57 68 [l0, l1, l2] (va_rf (mr q 0) :: st) (mi, ml, mr, nx) Q := kJ_next d57_65 (kg_getr 4 0 rfl h (by decide))
theorem d57_68 : decode (mB 57) 68 = .ok (.getfield 118, 3) := by decide +kernel
theorem s57_68 {l0 l1 l2 : Option Value} {st : List Value} {q : Nat} {mi : Nat → Nat → Int32} {ml : Nat → Nat → Int64} {mr : Nat → Nat → Option Nat} {nx : Nat} {Q : Option Value → kMem → Prop} (h : kIs nx q 1 = true) : kJ 57 68 [l0, l1, l2] (.ref q :: st) (mi, ml, mr, nx) Q = kJ 57 71 [l0, l1, l2] (va_rf (mr q 3) :: st) (mi, ml, mr, nx) Q := kJ_next d57_68 (kg_getr 1 3 rfl h (by decide))
theorem d57_71 : decode (mB 57) 71 = .ok (.iload_n 1, 1) := by decide +kernel
theorem s57_71 {l0 l2 : Option Value} {st : List Value} {x : Int32} {m : kMem} {Q : Option Value → kMem → Prop} : kJ 57 71 [l0, some (.int x), l2] st m Q = kJ 57 72 [l0, some (.int x), l2] (.int x :: st) m Q := kJ_next d57_71 rfl
theorem d57_72 : decode (mB 57) 72 = .ok (.iaload, 1) := by decide +kernel
theorem s57_72 {l0 l1 l2 : Option Value} {st : List Value} {q : Nat} {i : Int32} {mi : Nat → Nat → Int32} {ml : Nat → Nat → Int64} {mr : Nat → Nat → Option Nat} {nx : Nat} {Q : Option Value → kMem → Prop} (h : kIs nx q 10 = true) : kJ 57 72 [l0, l1, l2] (.int i :: .ref q :: st) (mi, ml, mr, nx) Q = (vp_in i (kAl q) ∧ kJ 57 73 [l0, l1, l2] (.int (mi q i.toNatClampNeg) :: st) (mi, ml, mr, nx) Q) := kg_aldJ d57_72 rfl (kAr_of h)
theorem d57_73 : decode (mB 57) 73 = .ok (.ireturn, 1) := by decide +kernel
theorem s57_73 {l0 l1 l2 : Option Value} {x : Int32} {m : kMem} {Q : Option Value → kMem → Prop} : kJ 57 73 [l0, l1, l2] [.int x] m Q = Q (some (.int x)) m := kJ_ret d57_73 rfl
theorem d57_74 : decode (mB 57) 74 = .ok (.aload_n 0, 1) := by decide +kernel
theorem s57_74 {l1 l2 : Option Value} {st : List Value} {x : Nat} {m : kMem} {Q : Option Value → kMem → Prop} : kJ 57 74 [some (.ref x), l1, l2] st m Q = kJ 57 75 [some (.ref x), l1, l2] (.ref x :: st) m Q := kJ_next d57_74 rfl
theorem d57_75 : decode (mB 57) 75 = .ok (.getfield 10, 3) := by decide +kernel
theorem s57_75 {l0 l1 l2 : Option Value} {st : List Value} {q : Nat} {mi : Nat → Nat → Int32} {ml : Nat → Nat → Int64} {mr : Nat → Nat → Option Nat} {nx : Nat} {Q : Option Value → kMem → Prop} (h : kIs nx q 4 = true) : kJ 57 75 [l0, l1, l2] (.ref q :: st) (mi, ml, mr, nx) Q = kJ 57 78 [l0, l1, l2] (va_rf (mr q 0) :: st) (mi, ml, mr, nx) Q := kJ_next d57_75 (kg_getr 4 0 rfl h (by decide))
theorem d57_78 : decode (mB 57) 78 = .ok (.iload_n 1, 1) := by decide +kernel
theorem s57_78 {l0 l2 : Option Value} {st : List Value} {x : Int32} {m : kMem} {Q : Option Value → kMem → Prop} : kJ 57 78 [l0, some (.int x), l2] st m Q = kJ 57 79 [l0, some (.int x), l2] (.int x :: st) m Q := kJ_next d57_78 rfl
theorem d57_79 : decode (mB 57) 79 = .ok (.invokevirtual 121, 3) := by decide +kernel
theorem s57_79 {l0 l1 l2 : Option Value} {v0 : Int32} {v1 : Nat} {m : kMem} {Q : Option Value → kMem → Prop} (h : kIs m.2.2.2 v1 1 = true) : kJ 57 79 [l0, l1, l2] [.int v0, .ref v1] m Q = kJ 17 0 [some (.ref v1), some (.int v0), none, none] [] m (fun v m2 => kJ 57 82 [l0, l1, l2] (v.toList ++ []) m2 Q) := kJ_call d57_79 (kg_callv 17 1 rfl rfl rfl rfl (Nat.le_of_ble_eq_true rfl) (Nat.le_of_ble_eq_true rfl) (Nat.le_of_ble_eq_true rfl) h rfl)
theorem d57_82 : decode (mB 57) 82 = .ok (.ireturn, 1) := by decide +kernel
theorem s57_82 {l0 l1 l2 : Option Value} {x : Int32} {m : kMem} {Q : Option Value → kMem → Prop} : kJ 57 82 [l0, l1, l2] [.int x] m Q = Q (some (.int x)) m := kJ_ret d57_82 rfl
theorem d57_83 : decode (mB 57) 83 = .ok (.iconst (-1), 1) := by decide +kernel
theorem s57_83 {l0 l1 l2 : Option Value} {st : List Value} {m : kMem} {Q : Option Value → kMem → Prop} : kJ 57 83 [l0, l1, l2] st m Q = kJ 57 84 [l0, l1, l2] (.int (-1) :: st) m Q := kJ_next d57_83 rfl
theorem d57_84 : decode (mB 57) 84 = .ok (.ireturn, 1) := by decide +kernel
theorem s57_84 {l0 l1 l2 : Option Value} {x : Int32} {m : kMem} {Q : Option Value → kMem → Prop} : kJ 57 84 [l0, l1, l2] [.int x] m Q = Q (some (.int x)) m := kJ_ret d57_84 rfl
theorem d58_0 : decode (mB 58) 0 = .ok (.aload_n 0, 1) := by decide +kernel
theorem s58_0 {l1 l2 : Option Value} {st : List Value} {x : Nat} {m : kMem} {Q : Option Value → kMem → Prop} : kJ 58 0 [some (.ref x), l1, l2] st m Q = kJ 58 1 [some (.ref x), l1, l2] (.ref x :: st) m Q := kJ_next d58_0 rfl
theorem d58_1 : decode (mB 58) 1 = .ok (.getfield 10, 3) := by decide +kernel
theorem s58_1 {l0 l1 l2 : Option Value} {st : List Value} {q : Nat} {mi : Nat → Nat → Int32} {ml : Nat → Nat → Int64} {mr : Nat → Nat → Option Nat} {nx : Nat} {Q : Option Value → kMem → Prop} (h : kIs nx q 4 = true) : kJ 58 1 [l0, l1, l2] (.ref q :: st) (mi, ml, mr, nx) Q = kJ 58 4 [l0, l1, l2] (va_rf (mr q 0) :: st) (mi, ml, mr, nx) Q := kJ_next d58_1 (kg_getr 4 0 rfl h (by decide))
theorem d58_4 : decode (mB 58) 4 = .ok (.iload_n 1, 1) := by decide +kernel
theorem s58_4 {l0 l2 : Option Value} {st : List Value} {x : Int32} {m : kMem} {Q : Option Value → kMem → Prop} : kJ 58 4 [l0, some (.int x), l2] st m Q = kJ 58 5 [l0, some (.int x), l2] (.int x :: st) m Q := kJ_next d58_4 rfl
theorem d58_5 : decode (mB 58) 5 = .ok (.invokevirtual 124, 3) := by decide +kernel
theorem s58_5 {l0 l1 l2 : Option Value} {v0 : Int32} {v1 : Nat} {m : kMem} {Q : Option Value → kMem → Prop} (h : kIs m.2.2.2 v1 1 = true) : kJ 58 5 [l0, l1, l2] [.int v0, .ref v1] m Q = kJ 8 0 [some (.ref v1), some (.int v0)] [] m (fun v m2 => kJ 58 8 [l0, l1, l2] (v.toList ++ []) m2 Q) := kJ_call d58_5 (kg_callv 8 1 rfl rfl rfl rfl (Nat.le_of_ble_eq_true rfl) (Nat.le_of_ble_eq_true rfl) (Nat.le_of_ble_eq_true rfl) h rfl)
theorem d58_8 : decode (mB 58) 8 = .ok (.ifCond .ne 5, 3) := by decide +kernel
theorem s58_8 {l0 l1 l2 : Option Value} {st : List Value} {a : Int32} {m : kMem} {Q : Option Value → kMem → Prop} : kJ 58 8 [l0, l1, l2] (.int a :: st) m Q = (if a = 0 then kJ 58 11 [l0, l1, l2] st m Q else kJ 58 13 [l0, l1, l2] st m Q) := kJ_if d58_8 rfl (fun h => kJ_next d58_8 h) (fun h => kJ_next d58_8 h)
theorem d58_11 : decode (mB 58) 11 = .ok (.iconst (-1), 1) := by decide +kernel
theorem s58_11 {l0 l1 l2 : Option Value} {st : List Value} {m : kMem} {Q : Option Value → kMem → Prop} : kJ 58 11 [l0, l1, l2] st m Q = kJ 58 12 [l0, l1, l2] (.int (-1) :: st) m Q := kJ_next d58_11 rfl
theorem d58_12 : decode (mB 58) 12 = .ok (.ireturn, 1) := by decide +kernel
theorem s58_12 {l0 l1 l2 : Option Value} {x : Int32} {m : kMem} {Q : Option Value → kMem → Prop} : kJ 58 12 [l0, l1, l2] [.int x] m Q = Q (some (.int x)) m := kJ_ret d58_12 rfl
theorem d58_13 : decode (mB 58) 13 = .ok (.iload_n 2, 1) := by decide +kernel
theorem s58_13 {l0 l1 : Option Value} {st : List Value} {x : Int32} {m : kMem} {Q : Option Value → kMem → Prop} : kJ 58 13 [l0, l1, some (.int x)] st m Q = kJ 58 14 [l0, l1, some (.int x)] (.int x :: st) m Q := kJ_next d58_13 rfl
theorem d58_14 : decode (mB 58) 14 = .ok (.tableswitch 98 0 5 #[38, 48, 58, 68, 78, 88], 38) := by decide +kernel
theorem s58_14 {l0 l1 l2 : Option Value} {st : List Value} {a : Int32} {m : kMem} {Q : Option Value → kMem → Prop} : kJ 58 14 [l0, l1, l2] (.int a :: st) m Q = (if a = (nI 0) then kJ 58 52 [l0, l1, l2] st m Q else if a = (nI 1) then kJ 58 62 [l0, l1, l2] st m Q else if a = (nI 2) then kJ 58 72 [l0, l1, l2] st m Q else if a = (nI 3) then kJ 58 82 [l0, l1, l2] st m Q else if a = (nI 4) then kJ 58 92 [l0, l1, l2] st m Q else if a = (nI 5) then kJ 58 102 [l0, l1, l2] st m Q else kJ 58 112 [l0, l1, l2] st m Q) := by
  by_cases h0 : a = nI 0
  · subst h0; exact kJ_next d58_14 rfl
  rw [if_neg h0]
  by_cases h1 : a = nI 1
  · subst h1; exact kJ_next d58_14 rfl
  rw [if_neg h1]
  by_cases h2 : a = nI 2
  · subst h2; exact kJ_next d58_14 rfl
  rw [if_neg h2]
  by_cases h3 : a = nI 3
  · subst h3; exact kJ_next d58_14 rfl
  rw [if_neg h3]
  by_cases h4 : a = nI 4
  · subst h4; exact kJ_next d58_14 rfl
  rw [if_neg h4]
  by_cases h5 : a = nI 5
  · subst h5; exact kJ_next d58_14 rfl
  rw [if_neg h5]
  have hz : ∀ j, j < 0 → a ≠ nI j := fun j hj => absurd hj (Nat.not_lt_zero j)
  refine kJ_next d58_14 (if_pos (c := a.toInt < 0 ∨ (5 : Int) < a.toInt) ?_)
  have hr := kg_rng (a := a) (n := 5) (by decide) (fun j hj => by
    rcases Nat.lt_or_ge j 0 with hl | hl
    · exact hz j hl
    · have hj2 : j = 0 ∨ j = 1 ∨ j = 2 ∨ j = 3 ∨ j = 4 ∨ j = 5 := by omega
      rcases hj2 with rfl | rfl | rfl | rfl | rfl | rfl
      · exact h0
      · exact h1
      · exact h2
      · exact h3
      · exact h4
      · exact h5
    )
  omega
theorem d58_52 : decode (mB 58) 52 = .ok (.aload_n 0, 1) := by decide +kernel
theorem s58_52 {l1 l2 : Option Value} {st : List Value} {x : Nat} {m : kMem} {Q : Option Value → kMem → Prop} : kJ 58 52 [some (.ref x), l1, l2] st m Q = kJ 58 53 [some (.ref x), l1, l2] (.ref x :: st) m Q := kJ_next d58_52 rfl
theorem d58_53 : decode (mB 58) 53 = .ok (.getfield 10, 3) := by decide +kernel
theorem s58_53 {l0 l1 l2 : Option Value} {st : List Value} {q : Nat} {mi : Nat → Nat → Int32} {ml : Nat → Nat → Int64} {mr : Nat → Nat → Option Nat} {nx : Nat} {Q : Option Value → kMem → Prop} (h : kIs nx q 4 = true) : kJ 58 53 [l0, l1, l2] (.ref q :: st) (mi, ml, mr, nx) Q = kJ 58 56 [l0, l1, l2] (va_rf (mr q 0) :: st) (mi, ml, mr, nx) Q := kJ_next d58_53 (kg_getr 4 0 rfl h (by decide))
theorem d58_56 : decode (mB 58) 56 = .ok (.getfield 127, 3) := by decide +kernel
theorem s58_56 {l0 l1 l2 : Option Value} {st : List Value} {q : Nat} {mi : Nat → Nat → Int32} {ml : Nat → Nat → Int64} {mr : Nat → Nat → Option Nat} {nx : Nat} {Q : Option Value → kMem → Prop} (h : kIs nx q 1 = true) : kJ 58 56 [l0, l1, l2] (.ref q :: st) (mi, ml, mr, nx) Q = kJ 58 59 [l0, l1, l2] (va_rf (mr q 5) :: st) (mi, ml, mr, nx) Q := kJ_next d58_56 (kg_getr 1 5 rfl h (by decide))
theorem d58_59 : decode (mB 58) 59 = .ok (.iload_n 1, 1) := by decide +kernel
theorem s58_59 {l0 l2 : Option Value} {st : List Value} {x : Int32} {m : kMem} {Q : Option Value → kMem → Prop} : kJ 58 59 [l0, some (.int x), l2] st m Q = kJ 58 60 [l0, some (.int x), l2] (.int x :: st) m Q := kJ_next d58_59 rfl
theorem d58_60 : decode (mB 58) 60 = .ok (.iaload, 1) := by decide +kernel
theorem s58_60 {l0 l1 l2 : Option Value} {st : List Value} {q : Nat} {i : Int32} {mi : Nat → Nat → Int32} {ml : Nat → Nat → Int64} {mr : Nat → Nat → Option Nat} {nx : Nat} {Q : Option Value → kMem → Prop} (h : kIs nx q 10 = true) : kJ 58 60 [l0, l1, l2] (.int i :: .ref q :: st) (mi, ml, mr, nx) Q = (vp_in i (kAl q) ∧ kJ 58 61 [l0, l1, l2] (.int (mi q i.toNatClampNeg) :: st) (mi, ml, mr, nx) Q) := kg_aldJ d58_60 rfl (kAr_of h)
theorem d58_61 : decode (mB 58) 61 = .ok (.ireturn, 1) := by decide +kernel
theorem s58_61 {l0 l1 l2 : Option Value} {x : Int32} {m : kMem} {Q : Option Value → kMem → Prop} : kJ 58 61 [l0, l1, l2] [.int x] m Q = Q (some (.int x)) m := kJ_ret d58_61 rfl
theorem d58_62 : decode (mB 58) 62 = .ok (.aload_n 0, 1) := by decide +kernel
theorem s58_62 {l1 l2 : Option Value} {st : List Value} {x : Nat} {m : kMem} {Q : Option Value → kMem → Prop} : kJ 58 62 [some (.ref x), l1, l2] st m Q = kJ 58 63 [some (.ref x), l1, l2] (.ref x :: st) m Q := kJ_next d58_62 rfl
theorem d58_63 : decode (mB 58) 63 = .ok (.getfield 10, 3) := by decide +kernel
theorem s58_63 {l0 l1 l2 : Option Value} {st : List Value} {q : Nat} {mi : Nat → Nat → Int32} {ml : Nat → Nat → Int64} {mr : Nat → Nat → Option Nat} {nx : Nat} {Q : Option Value → kMem → Prop} (h : kIs nx q 4 = true) : kJ 58 63 [l0, l1, l2] (.ref q :: st) (mi, ml, mr, nx) Q = kJ 58 66 [l0, l1, l2] (va_rf (mr q 0) :: st) (mi, ml, mr, nx) Q := kJ_next d58_63 (kg_getr 4 0 rfl h (by decide))
theorem d58_66 : decode (mB 58) 66 = .ok (.getfield 130, 3) := by decide +kernel
theorem s58_66 {l0 l1 l2 : Option Value} {st : List Value} {q : Nat} {mi : Nat → Nat → Int32} {ml : Nat → Nat → Int64} {mr : Nat → Nat → Option Nat} {nx : Nat} {Q : Option Value → kMem → Prop} (h : kIs nx q 1 = true) : kJ 58 66 [l0, l1, l2] (.ref q :: st) (mi, ml, mr, nx) Q = kJ 58 69 [l0, l1, l2] (va_rf (mr q 6) :: st) (mi, ml, mr, nx) Q := kJ_next d58_66 (kg_getr 1 6 rfl h (by decide))
theorem d58_69 : decode (mB 58) 69 = .ok (.iload_n 1, 1) := by decide +kernel
theorem s58_69 {l0 l2 : Option Value} {st : List Value} {x : Int32} {m : kMem} {Q : Option Value → kMem → Prop} : kJ 58 69 [l0, some (.int x), l2] st m Q = kJ 58 70 [l0, some (.int x), l2] (.int x :: st) m Q := kJ_next d58_69 rfl
theorem d58_70 : decode (mB 58) 70 = .ok (.iaload, 1) := by decide +kernel
theorem s58_70 {l0 l1 l2 : Option Value} {st : List Value} {q : Nat} {i : Int32} {mi : Nat → Nat → Int32} {ml : Nat → Nat → Int64} {mr : Nat → Nat → Option Nat} {nx : Nat} {Q : Option Value → kMem → Prop} (h : kIs nx q 10 = true) : kJ 58 70 [l0, l1, l2] (.int i :: .ref q :: st) (mi, ml, mr, nx) Q = (vp_in i (kAl q) ∧ kJ 58 71 [l0, l1, l2] (.int (mi q i.toNatClampNeg) :: st) (mi, ml, mr, nx) Q) := kg_aldJ d58_70 rfl (kAr_of h)
theorem d58_71 : decode (mB 58) 71 = .ok (.ireturn, 1) := by decide +kernel
theorem s58_71 {l0 l1 l2 : Option Value} {x : Int32} {m : kMem} {Q : Option Value → kMem → Prop} : kJ 58 71 [l0, l1, l2] [.int x] m Q = Q (some (.int x)) m := kJ_ret d58_71 rfl
theorem d58_72 : decode (mB 58) 72 = .ok (.aload_n 0, 1) := by decide +kernel
theorem s58_72 {l1 l2 : Option Value} {st : List Value} {x : Nat} {m : kMem} {Q : Option Value → kMem → Prop} : kJ 58 72 [some (.ref x), l1, l2] st m Q = kJ 58 73 [some (.ref x), l1, l2] (.ref x :: st) m Q := kJ_next d58_72 rfl
theorem d58_73 : decode (mB 58) 73 = .ok (.getfield 10, 3) := by decide +kernel
theorem s58_73 {l0 l1 l2 : Option Value} {st : List Value} {q : Nat} {mi : Nat → Nat → Int32} {ml : Nat → Nat → Int64} {mr : Nat → Nat → Option Nat} {nx : Nat} {Q : Option Value → kMem → Prop} (h : kIs nx q 4 = true) : kJ 58 73 [l0, l1, l2] (.ref q :: st) (mi, ml, mr, nx) Q = kJ 58 76 [l0, l1, l2] (va_rf (mr q 0) :: st) (mi, ml, mr, nx) Q := kJ_next d58_73 (kg_getr 4 0 rfl h (by decide))
theorem d58_76 : decode (mB 58) 76 = .ok (.getfield 133, 3) := by decide +kernel
theorem s58_76 {l0 l1 l2 : Option Value} {st : List Value} {q : Nat} {mi : Nat → Nat → Int32} {ml : Nat → Nat → Int64} {mr : Nat → Nat → Option Nat} {nx : Nat} {Q : Option Value → kMem → Prop} (h : kIs nx q 1 = true) : kJ 58 76 [l0, l1, l2] (.ref q :: st) (mi, ml, mr, nx) Q = kJ 58 79 [l0, l1, l2] (va_rf (mr q 7) :: st) (mi, ml, mr, nx) Q := kJ_next d58_76 (kg_getr 1 7 rfl h (by decide))
theorem d58_79 : decode (mB 58) 79 = .ok (.iload_n 1, 1) := by decide +kernel
theorem s58_79 {l0 l2 : Option Value} {st : List Value} {x : Int32} {m : kMem} {Q : Option Value → kMem → Prop} : kJ 58 79 [l0, some (.int x), l2] st m Q = kJ 58 80 [l0, some (.int x), l2] (.int x :: st) m Q := kJ_next d58_79 rfl
theorem d58_80 : decode (mB 58) 80 = .ok (.iaload, 1) := by decide +kernel
theorem s58_80 {l0 l1 l2 : Option Value} {st : List Value} {q : Nat} {i : Int32} {mi : Nat → Nat → Int32} {ml : Nat → Nat → Int64} {mr : Nat → Nat → Option Nat} {nx : Nat} {Q : Option Value → kMem → Prop} (h : kIs nx q 10 = true) : kJ 58 80 [l0, l1, l2] (.int i :: .ref q :: st) (mi, ml, mr, nx) Q = (vp_in i (kAl q) ∧ kJ 58 81 [l0, l1, l2] (.int (mi q i.toNatClampNeg) :: st) (mi, ml, mr, nx) Q) := kg_aldJ d58_80 rfl (kAr_of h)
theorem d58_81 : decode (mB 58) 81 = .ok (.ireturn, 1) := by decide +kernel
theorem s58_81 {l0 l1 l2 : Option Value} {x : Int32} {m : kMem} {Q : Option Value → kMem → Prop} : kJ 58 81 [l0, l1, l2] [.int x] m Q = Q (some (.int x)) m := kJ_ret d58_81 rfl
theorem d58_82 : decode (mB 58) 82 = .ok (.aload_n 0, 1) := by decide +kernel
theorem s58_82 {l1 l2 : Option Value} {st : List Value} {x : Nat} {m : kMem} {Q : Option Value → kMem → Prop} : kJ 58 82 [some (.ref x), l1, l2] st m Q = kJ 58 83 [some (.ref x), l1, l2] (.ref x :: st) m Q := kJ_next d58_82 rfl
theorem d58_83 : decode (mB 58) 83 = .ok (.getfield 10, 3) := by decide +kernel
theorem s58_83 {l0 l1 l2 : Option Value} {st : List Value} {q : Nat} {mi : Nat → Nat → Int32} {ml : Nat → Nat → Int64} {mr : Nat → Nat → Option Nat} {nx : Nat} {Q : Option Value → kMem → Prop} (h : kIs nx q 4 = true) : kJ 58 83 [l0, l1, l2] (.ref q :: st) (mi, ml, mr, nx) Q = kJ 58 86 [l0, l1, l2] (va_rf (mr q 0) :: st) (mi, ml, mr, nx) Q := kJ_next d58_83 (kg_getr 4 0 rfl h (by decide))
theorem d58_86 : decode (mB 58) 86 = .ok (.getfield 136, 3) := by decide +kernel
theorem s58_86 {l0 l1 l2 : Option Value} {st : List Value} {q : Nat} {mi : Nat → Nat → Int32} {ml : Nat → Nat → Int64} {mr : Nat → Nat → Option Nat} {nx : Nat} {Q : Option Value → kMem → Prop} (h : kIs nx q 1 = true) : kJ 58 86 [l0, l1, l2] (.ref q :: st) (mi, ml, mr, nx) Q = kJ 58 89 [l0, l1, l2] (va_rf (mr q 8) :: st) (mi, ml, mr, nx) Q := kJ_next d58_86 (kg_getr 1 8 rfl h (by decide))
theorem d58_89 : decode (mB 58) 89 = .ok (.iload_n 1, 1) := by decide +kernel
theorem s58_89 {l0 l2 : Option Value} {st : List Value} {x : Int32} {m : kMem} {Q : Option Value → kMem → Prop} : kJ 58 89 [l0, some (.int x), l2] st m Q = kJ 58 90 [l0, some (.int x), l2] (.int x :: st) m Q := kJ_next d58_89 rfl
theorem d58_90 : decode (mB 58) 90 = .ok (.iaload, 1) := by decide +kernel
theorem s58_90 {l0 l1 l2 : Option Value} {st : List Value} {q : Nat} {i : Int32} {mi : Nat → Nat → Int32} {ml : Nat → Nat → Int64} {mr : Nat → Nat → Option Nat} {nx : Nat} {Q : Option Value → kMem → Prop} (h : kIs nx q 10 = true) : kJ 58 90 [l0, l1, l2] (.int i :: .ref q :: st) (mi, ml, mr, nx) Q = (vp_in i (kAl q) ∧ kJ 58 91 [l0, l1, l2] (.int (mi q i.toNatClampNeg) :: st) (mi, ml, mr, nx) Q) := kg_aldJ d58_90 rfl (kAr_of h)
theorem d58_91 : decode (mB 58) 91 = .ok (.ireturn, 1) := by decide +kernel
theorem s58_91 {l0 l1 l2 : Option Value} {x : Int32} {m : kMem} {Q : Option Value → kMem → Prop} : kJ 58 91 [l0, l1, l2] [.int x] m Q = Q (some (.int x)) m := kJ_ret d58_91 rfl
theorem d58_92 : decode (mB 58) 92 = .ok (.aload_n 0, 1) := by decide +kernel
theorem s58_92 {l1 l2 : Option Value} {st : List Value} {x : Nat} {m : kMem} {Q : Option Value → kMem → Prop} : kJ 58 92 [some (.ref x), l1, l2] st m Q = kJ 58 93 [some (.ref x), l1, l2] (.ref x :: st) m Q := kJ_next d58_92 rfl
theorem d58_93 : decode (mB 58) 93 = .ok (.getfield 10, 3) := by decide +kernel
theorem s58_93 {l0 l1 l2 : Option Value} {st : List Value} {q : Nat} {mi : Nat → Nat → Int32} {ml : Nat → Nat → Int64} {mr : Nat → Nat → Option Nat} {nx : Nat} {Q : Option Value → kMem → Prop} (h : kIs nx q 4 = true) : kJ 58 93 [l0, l1, l2] (.ref q :: st) (mi, ml, mr, nx) Q = kJ 58 96 [l0, l1, l2] (va_rf (mr q 0) :: st) (mi, ml, mr, nx) Q := kJ_next d58_93 (kg_getr 4 0 rfl h (by decide))
theorem d58_96 : decode (mB 58) 96 = .ok (.getfield 139, 3) := by decide +kernel
theorem s58_96 {l0 l1 l2 : Option Value} {st : List Value} {q : Nat} {mi : Nat → Nat → Int32} {ml : Nat → Nat → Int64} {mr : Nat → Nat → Option Nat} {nx : Nat} {Q : Option Value → kMem → Prop} (h : kIs nx q 1 = true) : kJ 58 96 [l0, l1, l2] (.ref q :: st) (mi, ml, mr, nx) Q = kJ 58 99 [l0, l1, l2] (va_rf (mr q 9) :: st) (mi, ml, mr, nx) Q := kJ_next d58_96 (kg_getr 1 9 rfl h (by decide))
theorem d58_99 : decode (mB 58) 99 = .ok (.iload_n 1, 1) := by decide +kernel
theorem s58_99 {l0 l2 : Option Value} {st : List Value} {x : Int32} {m : kMem} {Q : Option Value → kMem → Prop} : kJ 58 99 [l0, some (.int x), l2] st m Q = kJ 58 100 [l0, some (.int x), l2] (.int x :: st) m Q := kJ_next d58_99 rfl
theorem d58_100 : decode (mB 58) 100 = .ok (.iaload, 1) := by decide +kernel
theorem s58_100 {l0 l1 l2 : Option Value} {st : List Value} {q : Nat} {i : Int32} {mi : Nat → Nat → Int32} {ml : Nat → Nat → Int64} {mr : Nat → Nat → Option Nat} {nx : Nat} {Q : Option Value → kMem → Prop} (h : kIs nx q 10 = true) : kJ 58 100 [l0, l1, l2] (.int i :: .ref q :: st) (mi, ml, mr, nx) Q = (vp_in i (kAl q) ∧ kJ 58 101 [l0, l1, l2] (.int (mi q i.toNatClampNeg) :: st) (mi, ml, mr, nx) Q) := kg_aldJ d58_100 rfl (kAr_of h)
theorem d58_101 : decode (mB 58) 101 = .ok (.ireturn, 1) := by decide +kernel
theorem s58_101 {l0 l1 l2 : Option Value} {x : Int32} {m : kMem} {Q : Option Value → kMem → Prop} : kJ 58 101 [l0, l1, l2] [.int x] m Q = Q (some (.int x)) m := kJ_ret d58_101 rfl
theorem d58_102 : decode (mB 58) 102 = .ok (.aload_n 0, 1) := by decide +kernel
theorem s58_102 {l1 l2 : Option Value} {st : List Value} {x : Nat} {m : kMem} {Q : Option Value → kMem → Prop} : kJ 58 102 [some (.ref x), l1, l2] st m Q = kJ 58 103 [some (.ref x), l1, l2] (.ref x :: st) m Q := kJ_next d58_102 rfl
theorem d58_103 : decode (mB 58) 103 = .ok (.getfield 10, 3) := by decide +kernel
theorem s58_103 {l0 l1 l2 : Option Value} {st : List Value} {q : Nat} {mi : Nat → Nat → Int32} {ml : Nat → Nat → Int64} {mr : Nat → Nat → Option Nat} {nx : Nat} {Q : Option Value → kMem → Prop} (h : kIs nx q 4 = true) : kJ 58 103 [l0, l1, l2] (.ref q :: st) (mi, ml, mr, nx) Q = kJ 58 106 [l0, l1, l2] (va_rf (mr q 0) :: st) (mi, ml, mr, nx) Q := kJ_next d58_103 (kg_getr 4 0 rfl h (by decide))
theorem d58_106 : decode (mB 58) 106 = .ok (.getfield 142, 3) := by decide +kernel
theorem s58_106 {l0 l1 l2 : Option Value} {st : List Value} {q : Nat} {mi : Nat → Nat → Int32} {ml : Nat → Nat → Int64} {mr : Nat → Nat → Option Nat} {nx : Nat} {Q : Option Value → kMem → Prop} (h : kIs nx q 1 = true) : kJ 58 106 [l0, l1, l2] (.ref q :: st) (mi, ml, mr, nx) Q = kJ 58 109 [l0, l1, l2] (va_rf (mr q 10) :: st) (mi, ml, mr, nx) Q := kJ_next d58_106 (kg_getr 1 10 rfl h (by decide))
theorem d58_109 : decode (mB 58) 109 = .ok (.iload_n 1, 1) := by decide +kernel
theorem s58_109 {l0 l2 : Option Value} {st : List Value} {x : Int32} {m : kMem} {Q : Option Value → kMem → Prop} : kJ 58 109 [l0, some (.int x), l2] st m Q = kJ 58 110 [l0, some (.int x), l2] (.int x :: st) m Q := kJ_next d58_109 rfl
theorem d58_110 : decode (mB 58) 110 = .ok (.iaload, 1) := by decide +kernel
theorem s58_110 {l0 l1 l2 : Option Value} {st : List Value} {q : Nat} {i : Int32} {mi : Nat → Nat → Int32} {ml : Nat → Nat → Int64} {mr : Nat → Nat → Option Nat} {nx : Nat} {Q : Option Value → kMem → Prop} (h : kIs nx q 10 = true) : kJ 58 110 [l0, l1, l2] (.int i :: .ref q :: st) (mi, ml, mr, nx) Q = (vp_in i (kAl q) ∧ kJ 58 111 [l0, l1, l2] (.int (mi q i.toNatClampNeg) :: st) (mi, ml, mr, nx) Q) := kg_aldJ d58_110 rfl (kAr_of h)
theorem d58_111 : decode (mB 58) 111 = .ok (.ireturn, 1) := by decide +kernel
theorem s58_111 {l0 l1 l2 : Option Value} {x : Int32} {m : kMem} {Q : Option Value → kMem → Prop} : kJ 58 111 [l0, l1, l2] [.int x] m Q = Q (some (.int x)) m := kJ_ret d58_111 rfl
theorem d58_112 : decode (mB 58) 112 = .ok (.iconst (-1), 1) := by decide +kernel
theorem s58_112 {l0 l1 l2 : Option Value} {st : List Value} {m : kMem} {Q : Option Value → kMem → Prop} : kJ 58 112 [l0, l1, l2] st m Q = kJ 58 113 [l0, l1, l2] (.int (-1) :: st) m Q := kJ_next d58_112 rfl
theorem d58_113 : decode (mB 58) 113 = .ok (.ireturn, 1) := by decide +kernel
theorem s58_113 {l0 l1 l2 : Option Value} {x : Int32} {m : kMem} {Q : Option Value → kMem → Prop} : kJ 58 113 [l0, l1, l2] [.int x] m Q = Q (some (.int x)) m := kJ_ret d58_113 rfl
theorem d59_0 : decode (mB 59) 0 = .ok (.aload_n 0, 1) := by decide +kernel
theorem s59_0 {l1 l2 : Option Value} {st : List Value} {x : Nat} {m : kMem} {Q : Option Value → kMem → Prop} : kJ 59 0 [some (.ref x), l1, l2] st m Q = kJ 59 1 [some (.ref x), l1, l2] (.ref x :: st) m Q := kJ_next d59_0 rfl
theorem d59_1 : decode (mB 59) 1 = .ok (.getfield 10, 3) := by decide +kernel
theorem s59_1 {l0 l1 l2 : Option Value} {st : List Value} {q : Nat} {mi : Nat → Nat → Int32} {ml : Nat → Nat → Int64} {mr : Nat → Nat → Option Nat} {nx : Nat} {Q : Option Value → kMem → Prop} (h : kIs nx q 4 = true) : kJ 59 1 [l0, l1, l2] (.ref q :: st) (mi, ml, mr, nx) Q = kJ 59 4 [l0, l1, l2] (va_rf (mr q 0) :: st) (mi, ml, mr, nx) Q := kJ_next d59_1 (kg_getr 4 0 rfl h (by decide))
theorem d59_4 : decode (mB 59) 4 = .ok (.iload_n 1, 1) := by decide +kernel
theorem s59_4 {l0 l2 : Option Value} {st : List Value} {x : Int32} {m : kMem} {Q : Option Value → kMem → Prop} : kJ 59 4 [l0, some (.int x), l2] st m Q = kJ 59 5 [l0, some (.int x), l2] (.int x :: st) m Q := kJ_next d59_4 rfl
theorem d59_5 : decode (mB 59) 5 = .ok (.invokevirtual 108, 3) := by decide +kernel
theorem s59_5 {l0 l1 l2 : Option Value} {v0 : Int32} {v1 : Nat} {m : kMem} {Q : Option Value → kMem → Prop} (h : kIs m.2.2.2 v1 1 = true) : kJ 59 5 [l0, l1, l2] [.int v0, .ref v1] m Q = kJ 7 0 [some (.ref v1), some (.int v0)] [] m (fun v m2 => kJ 59 8 [l0, l1, l2] (v.toList ++ []) m2 Q) := kJ_call d59_5 (kg_callv 7 1 rfl rfl rfl rfl (Nat.le_of_ble_eq_true rfl) (Nat.le_of_ble_eq_true rfl) (Nat.le_of_ble_eq_true rfl) h rfl)
theorem d59_8 : decode (mB 59) 8 = .ok (.ifCond .eq 13, 3) := by decide +kernel
theorem s59_8 {l0 l1 l2 : Option Value} {st : List Value} {a : Int32} {m : kMem} {Q : Option Value → kMem → Prop} : kJ 59 8 [l0, l1, l2] (.int a :: st) m Q = (if a = 0 then kJ 59 21 [l0, l1, l2] st m Q else kJ 59 11 [l0, l1, l2] st m Q) := kJ_if d59_8 rfl (fun h => kJ_next d59_8 h) (fun h => kJ_next d59_8 h)
theorem d59_11 : decode (mB 59) 11 = .ok (.iload_n 2, 1) := by decide +kernel
theorem s59_11 {l0 l1 : Option Value} {st : List Value} {x : Int32} {m : kMem} {Q : Option Value → kMem → Prop} : kJ 59 11 [l0, l1, some (.int x)] st m Q = kJ 59 12 [l0, l1, some (.int x)] (.int x :: st) m Q := kJ_next d59_11 rfl
theorem d59_12 : decode (mB 59) 12 = .ok (.iconst 0, 1) := by decide +kernel
theorem s59_12 {l0 l1 l2 : Option Value} {st : List Value} {m : kMem} {Q : Option Value → kMem → Prop} : kJ 59 12 [l0, l1, l2] st m Q = kJ 59 13 [l0, l1, l2] (.int (nI 0) :: st) m Q := kJ_next d59_12 rfl
theorem d59_13 : decode (mB 59) 13 = .ok (.bipush 18, 2) := by decide +kernel
theorem s59_13 {l0 l1 l2 : Option Value} {st : List Value} {m : kMem} {Q : Option Value → kMem → Prop} : kJ 59 13 [l0, l1, l2] st m Q = kJ 59 15 [l0, l1, l2] (.int (nI 18) :: st) m Q := kJ_next d59_13 rfl
theorem d59_15 : decode (mB 59) 15 = .ok (.invokestatic 55, 3) := by decide +kernel
theorem s59_15 {l0 l1 l2 : Option Value} {v0 : Int32} {v1 : Int32} {v2 : Int32} {m : kMem} {Q : Option Value → kMem → Prop} : kJ 59 15 [l0, l1, l2] [.int v0, .int v1, .int v2] m Q = kJ 90 0 [some (.int v2), some (.int v1), some (.int v0)] [] m (fun v m2 => kJ 59 18 [l0, l1, l2] (v.toList ++ []) m2 Q) := kJ_call d59_15 (kg_calls 90 3 rfl rfl (Nat.le_of_ble_eq_true rfl) (Nat.le_of_ble_eq_true rfl) (Nat.le_of_ble_eq_true rfl) (Nat.le_of_ble_eq_true rfl))
theorem d59_18 : decode (mB 59) 18 = .ok (.ifCond .ne 5, 3) := by decide +kernel
theorem s59_18 {l0 l1 l2 : Option Value} {st : List Value} {a : Int32} {m : kMem} {Q : Option Value → kMem → Prop} : kJ 59 18 [l0, l1, l2] (.int a :: st) m Q = (if a = 0 then kJ 59 21 [l0, l1, l2] st m Q else kJ 59 23 [l0, l1, l2] st m Q) := kJ_if d59_18 rfl (fun h => kJ_next d59_18 h) (fun h => kJ_next d59_18 h)
theorem d59_21 : decode (mB 59) 21 = .ok (.iconst (-1), 1) := by decide +kernel
theorem s59_21 {l0 l1 l2 : Option Value} {st : List Value} {m : kMem} {Q : Option Value → kMem → Prop} : kJ 59 21 [l0, l1, l2] st m Q = kJ 59 22 [l0, l1, l2] (.int (-1) :: st) m Q := kJ_next d59_21 rfl
theorem d59_22 : decode (mB 59) 22 = .ok (.ireturn, 1) := by decide +kernel
theorem s59_22 {l0 l1 l2 : Option Value} {x : Int32} {m : kMem} {Q : Option Value → kMem → Prop} : kJ 59 22 [l0, l1, l2] [.int x] m Q = Q (some (.int x)) m := kJ_ret d59_22 rfl
theorem d59_23 : decode (mB 59) 23 = .ok (.bipush 40, 2) := by decide +kernel
theorem s59_23 {l0 l1 l2 : Option Value} {st : List Value} {m : kMem} {Q : Option Value → kMem → Prop} : kJ 59 23 [l0, l1, l2] st m Q = kJ 59 25 [l0, l1, l2] (.int (nI 40) :: st) m Q := kJ_next d59_23 rfl
theorem d59_25 : decode (mB 59) 25 = .ok (.aload_n 0, 1) := by decide +kernel
theorem s59_25 {l1 l2 : Option Value} {st : List Value} {x : Nat} {m : kMem} {Q : Option Value → kMem → Prop} : kJ 59 25 [some (.ref x), l1, l2] st m Q = kJ 59 26 [some (.ref x), l1, l2] (.ref x :: st) m Q := kJ_next d59_25 rfl
theorem d59_26 : decode (mB 59) 26 = .ok (.getfield 10, 3) := by decide +kernel
theorem s59_26 {l0 l1 l2 : Option Value} {st : List Value} {q : Nat} {mi : Nat → Nat → Int32} {ml : Nat → Nat → Int64} {mr : Nat → Nat → Option Nat} {nx : Nat} {Q : Option Value → kMem → Prop} (h : kIs nx q 4 = true) : kJ 59 26 [l0, l1, l2] (.ref q :: st) (mi, ml, mr, nx) Q = kJ 59 29 [l0, l1, l2] (va_rf (mr q 0) :: st) (mi, ml, mr, nx) Q := kJ_next d59_26 (kg_getr 4 0 rfl h (by decide))
theorem d59_29 : decode (mB 59) 29 = .ok (.getfield 112, 3) := by decide +kernel
theorem s59_29 {l0 l1 l2 : Option Value} {st : List Value} {q : Nat} {mi : Nat → Nat → Int32} {ml : Nat → Nat → Int64} {mr : Nat → Nat → Option Nat} {nx : Nat} {Q : Option Value → kMem → Prop} (h : kIs nx q 1 = true) : kJ 59 29 [l0, l1, l2] (.ref q :: st) (mi, ml, mr, nx) Q = kJ 59 32 [l0, l1, l2] (va_rf (mr q 1) :: st) (mi, ml, mr, nx) Q := kJ_next d59_29 (kg_getr 1 1 rfl h (by decide))
theorem d59_32 : decode (mB 59) 32 = .ok (.iload_n 1, 1) := by decide +kernel
theorem s59_32 {l0 l2 : Option Value} {st : List Value} {x : Int32} {m : kMem} {Q : Option Value → kMem → Prop} : kJ 59 32 [l0, some (.int x), l2] st m Q = kJ 59 33 [l0, some (.int x), l2] (.int x :: st) m Q := kJ_next d59_32 rfl
theorem d59_33 : decode (mB 59) 33 = .ok (.iaload, 1) := by decide +kernel
theorem s59_33 {l0 l1 l2 : Option Value} {st : List Value} {q : Nat} {i : Int32} {mi : Nat → Nat → Int32} {ml : Nat → Nat → Int64} {mr : Nat → Nat → Option Nat} {nx : Nat} {Q : Option Value → kMem → Prop} (h : kIs nx q 10 = true) : kJ 59 33 [l0, l1, l2] (.int i :: .ref q :: st) (mi, ml, mr, nx) Q = (vp_in i (kAl q) ∧ kJ 59 34 [l0, l1, l2] (.int (mi q i.toNatClampNeg) :: st) (mi, ml, mr, nx) Q) := kg_aldJ d59_33 rfl (kAr_of h)
theorem d59_34 : decode (mB 59) 34 = .ok (.iload_n 2, 1) := by decide +kernel
theorem s59_34 {l0 l1 : Option Value} {st : List Value} {x : Int32} {m : kMem} {Q : Option Value → kMem → Prop} : kJ 59 34 [l0, l1, some (.int x)] st m Q = kJ 59 35 [l0, l1, some (.int x)] (.int x :: st) m Q := kJ_next d59_34 rfl
theorem d59_35 : decode (mB 59) 35 = .ok (.invokestatic 145, 3) := by decide +kernel
theorem s59_35 {l0 l1 l2 : Option Value} {v0 : Int32} {v1 : Int32} {v2 : Int32} {m : kMem} {Q : Option Value → kMem → Prop} : kJ 59 35 [l0, l1, l2] [.int v0, .int v1, .int v2] m Q = kJ 96 0 [some (.int v1), some (.int v0), none] [] m (fun v m2 => kJ 59 38 [l0, l1, l2] (v.toList ++ [.int v2]) m2 Q) := kJ_call d59_35 (kg_calls 96 2 rfl rfl (Nat.le_of_ble_eq_true rfl) (Nat.le_of_ble_eq_true rfl) (Nat.le_of_ble_eq_true rfl) (Nat.le_of_ble_eq_true rfl))
theorem d59_38 : decode (mB 59) 38 = .ok (.iadd, 1) := by decide +kernel
theorem s59_38 {l0 l1 l2 : Option Value} {st : List Value} {a b : Int32} {m : kMem} {Q : Option Value → kMem → Prop} : kJ 59 38 [l0, l1, l2] (.int b :: .int a :: st) m Q = kJ 59 39 [l0, l1, l2] (.int (a + b) :: st) m Q := kJ_next d59_38 rfl
theorem d59_39 : decode (mB 59) 39 = .ok (.ireturn, 1) := by decide +kernel
theorem s59_39 {l0 l1 l2 : Option Value} {x : Int32} {m : kMem} {Q : Option Value → kMem → Prop} : kJ 59 39 [l0, l1, l2] [.int x] m Q = Q (some (.int x)) m := kJ_ret d59_39 rfl
theorem d60_0 : decode (mB 60) 0 = .ok (.aload_n 0, 1) := by decide +kernel
theorem s60_0 {l1 l2 l3 : Option Value} {st : List Value} {x : Nat} {m : kMem} {Q : Option Value → kMem → Prop} : kJ 60 0 [some (.ref x), l1, l2, l3] st m Q = kJ 60 1 [some (.ref x), l1, l2, l3] (.ref x :: st) m Q := kJ_next d60_0 rfl
theorem d60_1 : decode (mB 60) 1 = .ok (.getfield 10, 3) := by decide +kernel
theorem s60_1 {l0 l1 l2 l3 : Option Value} {st : List Value} {q : Nat} {mi : Nat → Nat → Int32} {ml : Nat → Nat → Int64} {mr : Nat → Nat → Option Nat} {nx : Nat} {Q : Option Value → kMem → Prop} (h : kIs nx q 4 = true) : kJ 60 1 [l0, l1, l2, l3] (.ref q :: st) (mi, ml, mr, nx) Q = kJ 60 4 [l0, l1, l2, l3] (va_rf (mr q 0) :: st) (mi, ml, mr, nx) Q := kJ_next d60_1 (kg_getr 4 0 rfl h (by decide))
theorem d60_4 : decode (mB 60) 4 = .ok (.iload_n 1, 1) := by decide +kernel
theorem s60_4 {l0 l2 l3 : Option Value} {st : List Value} {x : Int32} {m : kMem} {Q : Option Value → kMem → Prop} : kJ 60 4 [l0, some (.int x), l2, l3] st m Q = kJ 60 5 [l0, some (.int x), l2, l3] (.int x :: st) m Q := kJ_next d60_4 rfl
theorem d60_5 : decode (mB 60) 5 = .ok (.invokevirtual 108, 3) := by decide +kernel
theorem s60_5 {l0 l1 l2 l3 : Option Value} {v0 : Int32} {v1 : Nat} {m : kMem} {Q : Option Value → kMem → Prop} (h : kIs m.2.2.2 v1 1 = true) : kJ 60 5 [l0, l1, l2, l3] [.int v0, .ref v1] m Q = kJ 7 0 [some (.ref v1), some (.int v0)] [] m (fun v m2 => kJ 60 8 [l0, l1, l2, l3] (v.toList ++ []) m2 Q) := kJ_call d60_5 (kg_callv 7 1 rfl rfl rfl rfl (Nat.le_of_ble_eq_true rfl) (Nat.le_of_ble_eq_true rfl) (Nat.le_of_ble_eq_true rfl) h rfl)
theorem d60_8 : decode (mB 60) 8 = .ok (.ifCond .ne 5, 3) := by decide +kernel
theorem s60_8 {l0 l1 l2 l3 : Option Value} {st : List Value} {a : Int32} {m : kMem} {Q : Option Value → kMem → Prop} : kJ 60 8 [l0, l1, l2, l3] (.int a :: st) m Q = (if a = 0 then kJ 60 11 [l0, l1, l2, l3] st m Q else kJ 60 13 [l0, l1, l2, l3] st m Q) := kJ_if d60_8 rfl (fun h => kJ_next d60_8 h) (fun h => kJ_next d60_8 h)
theorem d60_11 : decode (mB 60) 11 = .ok (.iconst (-1), 1) := by decide +kernel
theorem s60_11 {l0 l1 l2 l3 : Option Value} {st : List Value} {m : kMem} {Q : Option Value → kMem → Prop} : kJ 60 11 [l0, l1, l2, l3] st m Q = kJ 60 12 [l0, l1, l2, l3] (.int (-1) :: st) m Q := kJ_next d60_11 rfl
theorem d60_12 : decode (mB 60) 12 = .ok (.ireturn, 1) := by decide +kernel
theorem s60_12 {l0 l1 l2 l3 : Option Value} {x : Int32} {m : kMem} {Q : Option Value → kMem → Prop} : kJ 60 12 [l0, l1, l2, l3] [.int x] m Q = Q (some (.int x)) m := kJ_ret d60_12 rfl
theorem d60_13 : decode (mB 60) 13 = .ok (.iload_n 2, 1) := by decide +kernel
theorem s60_13 {l0 l1 l3 : Option Value} {st : List Value} {x : Int32} {m : kMem} {Q : Option Value → kMem → Prop} : kJ 60 13 [l0, l1, some (.int x), l3] st m Q = kJ 60 14 [l0, l1, some (.int x), l3] (.int x :: st) m Q := kJ_next d60_13 rfl
theorem d60_14 : decode (mB 60) 14 = .ok (.tableswitch 70 0 2 #[26, 40, 55], 26) := by decide +kernel
theorem s60_14 {l0 l1 l2 l3 : Option Value} {st : List Value} {a : Int32} {m : kMem} {Q : Option Value → kMem → Prop} : kJ 60 14 [l0, l1, l2, l3] (.int a :: st) m Q = (if a = (nI 0) then kJ 60 40 [l0, l1, l2, l3] st m Q else if a = (nI 1) then kJ 60 54 [l0, l1, l2, l3] st m Q else if a = (nI 2) then kJ 60 69 [l0, l1, l2, l3] st m Q else kJ 60 84 [l0, l1, l2, l3] st m Q) := by
  by_cases h0 : a = nI 0
  · subst h0; exact kJ_next d60_14 rfl
  rw [if_neg h0]
  by_cases h1 : a = nI 1
  · subst h1; exact kJ_next d60_14 rfl
  rw [if_neg h1]
  by_cases h2 : a = nI 2
  · subst h2; exact kJ_next d60_14 rfl
  rw [if_neg h2]
  have hz : ∀ j, j < 0 → a ≠ nI j := fun j hj => absurd hj (Nat.not_lt_zero j)
  refine kJ_next d60_14 (if_pos (c := a.toInt < 0 ∨ (2 : Int) < a.toInt) ?_)
  have hr := kg_rng (a := a) (n := 2) (by decide) (fun j hj => by
    rcases Nat.lt_or_ge j 0 with hl | hl
    · exact hz j hl
    · have hj2 : j = 0 ∨ j = 1 ∨ j = 2 := by omega
      rcases hj2 with rfl | rfl | rfl
      · exact h0
      · exact h1
      · exact h2
    )
  omega
theorem d60_40 : decode (mB 60) 40 = .ok (.aload_n 0, 1) := by decide +kernel
theorem s60_40 {l1 l2 l3 : Option Value} {st : List Value} {x : Nat} {m : kMem} {Q : Option Value → kMem → Prop} : kJ 60 40 [some (.ref x), l1, l2, l3] st m Q = kJ 60 41 [some (.ref x), l1, l2, l3] (.ref x :: st) m Q := kJ_next d60_40 rfl
theorem d60_41 : decode (mB 60) 41 = .ok (.getfield 10, 3) := by decide +kernel
theorem s60_41 {l0 l1 l2 l3 : Option Value} {st : List Value} {q : Nat} {mi : Nat → Nat → Int32} {ml : Nat → Nat → Int64} {mr : Nat → Nat → Option Nat} {nx : Nat} {Q : Option Value → kMem → Prop} (h : kIs nx q 4 = true) : kJ 60 41 [l0, l1, l2, l3] (.ref q :: st) (mi, ml, mr, nx) Q = kJ 60 44 [l0, l1, l2, l3] (va_rf (mr q 0) :: st) (mi, ml, mr, nx) Q := kJ_next d60_41 (kg_getr 4 0 rfl h (by decide))
theorem d60_44 : decode (mB 60) 44 = .ok (.getfield 112, 3) := by decide +kernel
theorem s60_44 {l0 l1 l2 l3 : Option Value} {st : List Value} {q : Nat} {mi : Nat → Nat → Int32} {ml : Nat → Nat → Int64} {mr : Nat → Nat → Option Nat} {nx : Nat} {Q : Option Value → kMem → Prop} (h : kIs nx q 1 = true) : kJ 60 44 [l0, l1, l2, l3] (.ref q :: st) (mi, ml, mr, nx) Q = kJ 60 47 [l0, l1, l2, l3] (va_rf (mr q 1) :: st) (mi, ml, mr, nx) Q := kJ_next d60_44 (kg_getr 1 1 rfl h (by decide))
theorem d60_47 : decode (mB 60) 47 = .ok (.iload_n 1, 1) := by decide +kernel
theorem s60_47 {l0 l2 l3 : Option Value} {st : List Value} {x : Int32} {m : kMem} {Q : Option Value → kMem → Prop} : kJ 60 47 [l0, some (.int x), l2, l3] st m Q = kJ 60 48 [l0, some (.int x), l2, l3] (.int x :: st) m Q := kJ_next d60_47 rfl
theorem d60_48 : decode (mB 60) 48 = .ok (.iload_n 3, 1) := by decide +kernel
theorem s60_48 {l0 l1 l2 : Option Value} {st : List Value} {x : Int32} {m : kMem} {Q : Option Value → kMem → Prop} : kJ 60 48 [l0, l1, l2, some (.int x)] st m Q = kJ 60 49 [l0, l1, l2, some (.int x)] (.int x :: st) m Q := kJ_next d60_48 rfl
theorem d60_49 : decode (mB 60) 49 = .ok (.iconst 3, 1) := by decide +kernel
theorem s60_49 {l0 l1 l2 l3 : Option Value} {st : List Value} {m : kMem} {Q : Option Value → kMem → Prop} : kJ 60 49 [l0, l1, l2, l3] st m Q = kJ 60 50 [l0, l1, l2, l3] (.int (nI 3) :: st) m Q := kJ_next d60_49 rfl
theorem d60_50 : decode (mB 60) 50 = .ok (.invokestatic 149, 3) := by decide +kernel
theorem s60_50 {l0 l1 l2 l3 : Option Value} {v0 : Int32} {v1 : Int32} {v2 : Int32} {v3 : Nat} {m : kMem} {Q : Option Value → kMem → Prop} : kJ 60 50 [l0, l1, l2, l3] [.int v0, .int v1, .int v2, .ref v3] m Q = kJ 93 0 [some (.ref v3), some (.int v2), some (.int v1), some (.int v0), none] [] m (fun v m2 => kJ 60 53 [l0, l1, l2, l3] (v.toList ++ []) m2 Q) := kJ_call d60_50 (kg_calls 93 4 rfl rfl (Nat.le_of_ble_eq_true rfl) (Nat.le_of_ble_eq_true rfl) (Nat.le_of_ble_eq_true rfl) (Nat.le_of_ble_eq_true rfl))
theorem d60_53 : decode (mB 60) 53 = .ok (.ireturn, 1) := by decide +kernel
theorem s60_53 {l0 l1 l2 l3 : Option Value} {x : Int32} {m : kMem} {Q : Option Value → kMem → Prop} : kJ 60 53 [l0, l1, l2, l3] [.int x] m Q = Q (some (.int x)) m := kJ_ret d60_53 rfl
theorem d60_54 : decode (mB 60) 54 = .ok (.aload_n 0, 1) := by decide +kernel
theorem s60_54 {l1 l2 l3 : Option Value} {st : List Value} {x : Nat} {m : kMem} {Q : Option Value → kMem → Prop} : kJ 60 54 [some (.ref x), l1, l2, l3] st m Q = kJ 60 55 [some (.ref x), l1, l2, l3] (.ref x :: st) m Q := kJ_next d60_54 rfl
theorem d60_55 : decode (mB 60) 55 = .ok (.getfield 10, 3) := by decide +kernel
theorem s60_55 {l0 l1 l2 l3 : Option Value} {st : List Value} {q : Nat} {mi : Nat → Nat → Int32} {ml : Nat → Nat → Int64} {mr : Nat → Nat → Option Nat} {nx : Nat} {Q : Option Value → kMem → Prop} (h : kIs nx q 4 = true) : kJ 60 55 [l0, l1, l2, l3] (.ref q :: st) (mi, ml, mr, nx) Q = kJ 60 58 [l0, l1, l2, l3] (va_rf (mr q 0) :: st) (mi, ml, mr, nx) Q := kJ_next d60_55 (kg_getr 4 0 rfl h (by decide))
theorem d60_58 : decode (mB 60) 58 = .ok (.getfield 115, 3) := by decide +kernel
theorem s60_58 {l0 l1 l2 l3 : Option Value} {st : List Value} {q : Nat} {mi : Nat → Nat → Int32} {ml : Nat → Nat → Int64} {mr : Nat → Nat → Option Nat} {nx : Nat} {Q : Option Value → kMem → Prop} (h : kIs nx q 1 = true) : kJ 60 58 [l0, l1, l2, l3] (.ref q :: st) (mi, ml, mr, nx) Q = kJ 60 61 [l0, l1, l2, l3] (va_rf (mr q 2) :: st) (mi, ml, mr, nx) Q := kJ_next d60_58 (kg_getr 1 2 rfl h (by decide))
theorem d60_61 : decode (mB 60) 61 = .ok (.iload_n 1, 1) := by decide +kernel
theorem s60_61 {l0 l2 l3 : Option Value} {st : List Value} {x : Int32} {m : kMem} {Q : Option Value → kMem → Prop} : kJ 60 61 [l0, some (.int x), l2, l3] st m Q = kJ 60 62 [l0, some (.int x), l2, l3] (.int x :: st) m Q := kJ_next d60_61 rfl
theorem d60_62 : decode (mB 60) 62 = .ok (.iload_n 3, 1) := by decide +kernel
theorem s60_62 {l0 l1 l2 : Option Value} {st : List Value} {x : Int32} {m : kMem} {Q : Option Value → kMem → Prop} : kJ 60 62 [l0, l1, l2, some (.int x)] st m Q = kJ 60 63 [l0, l1, l2, some (.int x)] (.int x :: st) m Q := kJ_next d60_62 rfl
theorem d60_63 : decode (mB 60) 63 = .ok (.bipush 9, 2) := by decide +kernel
theorem s60_63 {l0 l1 l2 l3 : Option Value} {st : List Value} {m : kMem} {Q : Option Value → kMem → Prop} : kJ 60 63 [l0, l1, l2, l3] st m Q = kJ 60 65 [l0, l1, l2, l3] (.int (nI 9) :: st) m Q := kJ_next d60_63 rfl
theorem d60_65 : decode (mB 60) 65 = .ok (.invokestatic 149, 3) := by decide +kernel
theorem s60_65 {l0 l1 l2 l3 : Option Value} {v0 : Int32} {v1 : Int32} {v2 : Int32} {v3 : Nat} {m : kMem} {Q : Option Value → kMem → Prop} : kJ 60 65 [l0, l1, l2, l3] [.int v0, .int v1, .int v2, .ref v3] m Q = kJ 93 0 [some (.ref v3), some (.int v2), some (.int v1), some (.int v0), none] [] m (fun v m2 => kJ 60 68 [l0, l1, l2, l3] (v.toList ++ []) m2 Q) := kJ_call d60_65 (kg_calls 93 4 rfl rfl (Nat.le_of_ble_eq_true rfl) (Nat.le_of_ble_eq_true rfl) (Nat.le_of_ble_eq_true rfl) (Nat.le_of_ble_eq_true rfl))
theorem d60_68 : decode (mB 60) 68 = .ok (.ireturn, 1) := by decide +kernel
theorem s60_68 {l0 l1 l2 l3 : Option Value} {x : Int32} {m : kMem} {Q : Option Value → kMem → Prop} : kJ 60 68 [l0, l1, l2, l3] [.int x] m Q = Q (some (.int x)) m := kJ_ret d60_68 rfl
theorem d60_69 : decode (mB 60) 69 = .ok (.aload_n 0, 1) := by decide +kernel
theorem s60_69 {l1 l2 l3 : Option Value} {st : List Value} {x : Nat} {m : kMem} {Q : Option Value → kMem → Prop} : kJ 60 69 [some (.ref x), l1, l2, l3] st m Q = kJ 60 70 [some (.ref x), l1, l2, l3] (.ref x :: st) m Q := kJ_next d60_69 rfl
theorem d60_70 : decode (mB 60) 70 = .ok (.getfield 10, 3) := by decide +kernel
theorem s60_70 {l0 l1 l2 l3 : Option Value} {st : List Value} {q : Nat} {mi : Nat → Nat → Int32} {ml : Nat → Nat → Int64} {mr : Nat → Nat → Option Nat} {nx : Nat} {Q : Option Value → kMem → Prop} (h : kIs nx q 4 = true) : kJ 60 70 [l0, l1, l2, l3] (.ref q :: st) (mi, ml, mr, nx) Q = kJ 60 73 [l0, l1, l2, l3] (va_rf (mr q 0) :: st) (mi, ml, mr, nx) Q := kJ_next d60_70 (kg_getr 4 0 rfl h (by decide))
theorem d60_73 : decode (mB 60) 73 = .ok (.getfield 118, 3) := by decide +kernel
theorem s60_73 {l0 l1 l2 l3 : Option Value} {st : List Value} {q : Nat} {mi : Nat → Nat → Int32} {ml : Nat → Nat → Int64} {mr : Nat → Nat → Option Nat} {nx : Nat} {Q : Option Value → kMem → Prop} (h : kIs nx q 1 = true) : kJ 60 73 [l0, l1, l2, l3] (.ref q :: st) (mi, ml, mr, nx) Q = kJ 60 76 [l0, l1, l2, l3] (va_rf (mr q 3) :: st) (mi, ml, mr, nx) Q := kJ_next d60_73 (kg_getr 1 3 rfl h (by decide))
theorem d60_76 : decode (mB 60) 76 = .ok (.iload_n 1, 1) := by decide +kernel
theorem s60_76 {l0 l2 l3 : Option Value} {st : List Value} {x : Int32} {m : kMem} {Q : Option Value → kMem → Prop} : kJ 60 76 [l0, some (.int x), l2, l3] st m Q = kJ 60 77 [l0, some (.int x), l2, l3] (.int x :: st) m Q := kJ_next d60_76 rfl
theorem d60_77 : decode (mB 60) 77 = .ok (.iload_n 3, 1) := by decide +kernel
theorem s60_77 {l0 l1 l2 : Option Value} {st : List Value} {x : Int32} {m : kMem} {Q : Option Value → kMem → Prop} : kJ 60 77 [l0, l1, l2, some (.int x)] st m Q = kJ 60 78 [l0, l1, l2, some (.int x)] (.int x :: st) m Q := kJ_next d60_77 rfl
theorem d60_78 : decode (mB 60) 78 = .ok (.bipush 20, 2) := by decide +kernel
theorem s60_78 {l0 l1 l2 l3 : Option Value} {st : List Value} {m : kMem} {Q : Option Value → kMem → Prop} : kJ 60 78 [l0, l1, l2, l3] st m Q = kJ 60 80 [l0, l1, l2, l3] (.int (nI 20) :: st) m Q := kJ_next d60_78 rfl
theorem d60_80 : decode (mB 60) 80 = .ok (.invokestatic 149, 3) := by decide +kernel
theorem s60_80 {l0 l1 l2 l3 : Option Value} {v0 : Int32} {v1 : Int32} {v2 : Int32} {v3 : Nat} {m : kMem} {Q : Option Value → kMem → Prop} : kJ 60 80 [l0, l1, l2, l3] [.int v0, .int v1, .int v2, .ref v3] m Q = kJ 93 0 [some (.ref v3), some (.int v2), some (.int v1), some (.int v0), none] [] m (fun v m2 => kJ 60 83 [l0, l1, l2, l3] (v.toList ++ []) m2 Q) := kJ_call d60_80 (kg_calls 93 4 rfl rfl (Nat.le_of_ble_eq_true rfl) (Nat.le_of_ble_eq_true rfl) (Nat.le_of_ble_eq_true rfl) (Nat.le_of_ble_eq_true rfl))
theorem d60_83 : decode (mB 60) 83 = .ok (.ireturn, 1) := by decide +kernel
theorem s60_83 {l0 l1 l2 l3 : Option Value} {x : Int32} {m : kMem} {Q : Option Value → kMem → Prop} : kJ 60 83 [l0, l1, l2, l3] [.int x] m Q = Q (some (.int x)) m := kJ_ret d60_83 rfl
theorem d60_84 : decode (mB 60) 84 = .ok (.iconst (-1), 1) := by decide +kernel
theorem s60_84 {l0 l1 l2 l3 : Option Value} {st : List Value} {m : kMem} {Q : Option Value → kMem → Prop} : kJ 60 84 [l0, l1, l2, l3] st m Q = kJ 60 85 [l0, l1, l2, l3] (.int (-1) :: st) m Q := kJ_next d60_84 rfl
theorem d60_85 : decode (mB 60) 85 = .ok (.ireturn, 1) := by decide +kernel
theorem s60_85 {l0 l1 l2 l3 : Option Value} {x : Int32} {m : kMem} {Q : Option Value → kMem → Prop} : kJ 60 85 [l0, l1, l2, l3] [.int x] m Q = Q (some (.int x)) m := kJ_ret d60_85 rfl
theorem d61_0 : decode (mB 61) 0 = .ok (.aload_n 0, 1) := by decide +kernel
theorem s61_0 {l1 l2 : Option Value} {st : List Value} {x : Nat} {m : kMem} {Q : Option Value → kMem → Prop} : kJ 61 0 [some (.ref x), l1, l2] st m Q = kJ 61 1 [some (.ref x), l1, l2] (.ref x :: st) m Q := kJ_next d61_0 rfl
theorem d61_1 : decode (mB 61) 1 = .ok (.getfield 10, 3) := by decide +kernel
theorem s61_1 {l0 l1 l2 : Option Value} {st : List Value} {q : Nat} {mi : Nat → Nat → Int32} {ml : Nat → Nat → Int64} {mr : Nat → Nat → Option Nat} {nx : Nat} {Q : Option Value → kMem → Prop} (h : kIs nx q 4 = true) : kJ 61 1 [l0, l1, l2] (.ref q :: st) (mi, ml, mr, nx) Q = kJ 61 4 [l0, l1, l2] (va_rf (mr q 0) :: st) (mi, ml, mr, nx) Q := kJ_next d61_1 (kg_getr 4 0 rfl h (by decide))
theorem d61_4 : decode (mB 61) 4 = .ok (.iload_n 1, 1) := by decide +kernel
theorem s61_4 {l0 l2 : Option Value} {st : List Value} {x : Int32} {m : kMem} {Q : Option Value → kMem → Prop} : kJ 61 4 [l0, some (.int x), l2] st m Q = kJ 61 5 [l0, some (.int x), l2] (.int x :: st) m Q := kJ_next d61_4 rfl
theorem d61_5 : decode (mB 61) 5 = .ok (.invokevirtual 124, 3) := by decide +kernel
theorem s61_5 {l0 l1 l2 : Option Value} {v0 : Int32} {v1 : Nat} {m : kMem} {Q : Option Value → kMem → Prop} (h : kIs m.2.2.2 v1 1 = true) : kJ 61 5 [l0, l1, l2] [.int v0, .ref v1] m Q = kJ 8 0 [some (.ref v1), some (.int v0)] [] m (fun v m2 => kJ 61 8 [l0, l1, l2] (v.toList ++ []) m2 Q) := kJ_call d61_5 (kg_callv 8 1 rfl rfl rfl rfl (Nat.le_of_ble_eq_true rfl) (Nat.le_of_ble_eq_true rfl) (Nat.le_of_ble_eq_true rfl) h rfl)
theorem d61_8 : decode (mB 61) 8 = .ok (.ifCond .eq 13, 3) := by decide +kernel
theorem s61_8 {l0 l1 l2 : Option Value} {st : List Value} {a : Int32} {m : kMem} {Q : Option Value → kMem → Prop} : kJ 61 8 [l0, l1, l2] (.int a :: st) m Q = (if a = 0 then kJ 61 21 [l0, l1, l2] st m Q else kJ 61 11 [l0, l1, l2] st m Q) := kJ_if d61_8 rfl (fun h => kJ_next d61_8 h) (fun h => kJ_next d61_8 h)
theorem d61_11 : decode (mB 61) 11 = .ok (.iload_n 2, 1) := by decide +kernel
theorem s61_11 {l0 l1 : Option Value} {st : List Value} {x : Int32} {m : kMem} {Q : Option Value → kMem → Prop} : kJ 61 11 [l0, l1, some (.int x)] st m Q = kJ 61 12 [l0, l1, some (.int x)] (.int x :: st) m Q := kJ_next d61_11 rfl
theorem d61_12 : decode (mB 61) 12 = .ok (.iconst 0, 1) := by decide +kernel
theorem s61_12 {l0 l1 l2 : Option Value} {st : List Value} {m : kMem} {Q : Option Value → kMem → Prop} : kJ 61 12 [l0, l1, l2] st m Q = kJ 61 13 [l0, l1, l2] (.int (nI 0) :: st) m Q := kJ_next d61_12 rfl
theorem d61_13 : decode (mB 61) 13 = .ok (.bipush 18, 2) := by decide +kernel
theorem s61_13 {l0 l1 l2 : Option Value} {st : List Value} {m : kMem} {Q : Option Value → kMem → Prop} : kJ 61 13 [l0, l1, l2] st m Q = kJ 61 15 [l0, l1, l2] (.int (nI 18) :: st) m Q := kJ_next d61_13 rfl
theorem d61_15 : decode (mB 61) 15 = .ok (.invokestatic 55, 3) := by decide +kernel
theorem s61_15 {l0 l1 l2 : Option Value} {v0 : Int32} {v1 : Int32} {v2 : Int32} {m : kMem} {Q : Option Value → kMem → Prop} : kJ 61 15 [l0, l1, l2] [.int v0, .int v1, .int v2] m Q = kJ 90 0 [some (.int v2), some (.int v1), some (.int v0)] [] m (fun v m2 => kJ 61 18 [l0, l1, l2] (v.toList ++ []) m2 Q) := kJ_call d61_15 (kg_calls 90 3 rfl rfl (Nat.le_of_ble_eq_true rfl) (Nat.le_of_ble_eq_true rfl) (Nat.le_of_ble_eq_true rfl) (Nat.le_of_ble_eq_true rfl))
theorem d61_18 : decode (mB 61) 18 = .ok (.ifCond .ne 5, 3) := by decide +kernel
theorem s61_18 {l0 l1 l2 : Option Value} {st : List Value} {a : Int32} {m : kMem} {Q : Option Value → kMem → Prop} : kJ 61 18 [l0, l1, l2] (.int a :: st) m Q = (if a = 0 then kJ 61 21 [l0, l1, l2] st m Q else kJ 61 23 [l0, l1, l2] st m Q) := kJ_if d61_18 rfl (fun h => kJ_next d61_18 h) (fun h => kJ_next d61_18 h)
theorem d61_21 : decode (mB 61) 21 = .ok (.iconst (-1), 1) := by decide +kernel
theorem s61_21 {l0 l1 l2 : Option Value} {st : List Value} {m : kMem} {Q : Option Value → kMem → Prop} : kJ 61 21 [l0, l1, l2] st m Q = kJ 61 22 [l0, l1, l2] (.int (-1) :: st) m Q := kJ_next d61_21 rfl
theorem d61_22 : decode (mB 61) 22 = .ok (.ireturn, 1) := by decide +kernel
theorem s61_22 {l0 l1 l2 : Option Value} {x : Int32} {m : kMem} {Q : Option Value → kMem → Prop} : kJ 61 22 [l0, l1, l2] [.int x] m Q = Q (some (.int x)) m := kJ_ret d61_22 rfl
theorem d61_23 : decode (mB 61) 23 = .ok (.aload_n 0, 1) := by decide +kernel
theorem s61_23 {l1 l2 : Option Value} {st : List Value} {x : Nat} {m : kMem} {Q : Option Value → kMem → Prop} : kJ 61 23 [some (.ref x), l1, l2] st m Q = kJ 61 24 [some (.ref x), l1, l2] (.ref x :: st) m Q := kJ_next d61_23 rfl
theorem d61_24 : decode (mB 61) 24 = .ok (.getfield 10, 3) := by decide +kernel
theorem s61_24 {l0 l1 l2 : Option Value} {st : List Value} {q : Nat} {mi : Nat → Nat → Int32} {ml : Nat → Nat → Int64} {mr : Nat → Nat → Option Nat} {nx : Nat} {Q : Option Value → kMem → Prop} (h : kIs nx q 4 = true) : kJ 61 24 [l0, l1, l2] (.ref q :: st) (mi, ml, mr, nx) Q = kJ 61 27 [l0, l1, l2] (va_rf (mr q 0) :: st) (mi, ml, mr, nx) Q := kJ_next d61_24 (kg_getr 4 0 rfl h (by decide))
theorem d61_27 : decode (mB 61) 27 = .ok (.iload_n 1, 1) := by decide +kernel
theorem s61_27 {l0 l2 : Option Value} {st : List Value} {x : Int32} {m : kMem} {Q : Option Value → kMem → Prop} : kJ 61 27 [l0, some (.int x), l2] st m Q = kJ 61 28 [l0, some (.int x), l2] (.int x :: st) m Q := kJ_next d61_27 rfl
theorem d61_28 : decode (mB 61) 28 = .ok (.invokevirtual 153, 3) := by decide +kernel
theorem s61_28 {l0 l1 l2 : Option Value} {v0 : Int32} {v1 : Nat} {m : kMem} {Q : Option Value → kMem → Prop} (h : kIs m.2.2.2 v1 1 = true) : kJ 61 28 [l0, l1, l2] [.int v0, .ref v1] m Q = kJ 9 0 [some (.ref v1), some (.int v0)] [] m (fun v m2 => kJ 61 31 [l0, l1, l2] (v.toList ++ []) m2 Q) := kJ_call d61_28 (kg_callv 9 1 rfl rfl rfl rfl (Nat.le_of_ble_eq_true rfl) (Nat.le_of_ble_eq_true rfl) (Nat.le_of_ble_eq_true rfl) h rfl)
theorem d61_31 : decode (mB 61) 31 = .ok (.ifCond .ne 6, 3) := by decide +kernel
theorem s61_31 {l0 l1 l2 : Option Value} {st : List Value} {a : Int32} {m : kMem} {Q : Option Value → kMem → Prop} : kJ 61 31 [l0, l1, l2] (.int a :: st) m Q = (if a = 0 then kJ 61 34 [l0, l1, l2] st m Q else kJ 61 37 [l0, l1, l2] st m Q) := kJ_if d61_31 rfl (fun h => kJ_next d61_31 h) (fun h => kJ_next d61_31 h)
theorem d61_34 : decode (mB 61) 34 = .ok (.bipush (-2), 2) := by decide +kernel
theorem s61_34 {l0 l1 l2 : Option Value} {st : List Value} {m : kMem} {Q : Option Value → kMem → Prop} : kJ 61 34 [l0, l1, l2] st m Q = kJ 61 36 [l0, l1, l2] (.int (-2) :: st) m Q := kJ_next d61_34 rfl
theorem d61_36 : decode (mB 61) 36 = .ok (.ireturn, 1) := by decide +kernel
theorem s61_36 {l0 l1 l2 : Option Value} {x : Int32} {m : kMem} {Q : Option Value → kMem → Prop} : kJ 61 36 [l0, l1, l2] [.int x] m Q = Q (some (.int x)) m := kJ_ret d61_36 rfl
theorem d61_37 : decode (mB 61) 37 = .ok (.aload_n 0, 1) := by decide +kernel
theorem s61_37 {l1 l2 : Option Value} {st : List Value} {x : Nat} {m : kMem} {Q : Option Value → kMem → Prop} : kJ 61 37 [some (.ref x), l1, l2] st m Q = kJ 61 38 [some (.ref x), l1, l2] (.ref x :: st) m Q := kJ_next d61_37 rfl
theorem d61_38 : decode (mB 61) 38 = .ok (.getfield 10, 3) := by decide +kernel
theorem s61_38 {l0 l1 l2 : Option Value} {st : List Value} {q : Nat} {mi : Nat → Nat → Int32} {ml : Nat → Nat → Int64} {mr : Nat → Nat → Option Nat} {nx : Nat} {Q : Option Value → kMem → Prop} (h : kIs nx q 4 = true) : kJ 61 38 [l0, l1, l2] (.ref q :: st) (mi, ml, mr, nx) Q = kJ 61 41 [l0, l1, l2] (va_rf (mr q 0) :: st) (mi, ml, mr, nx) Q := kJ_next d61_38 (kg_getr 4 0 rfl h (by decide))
theorem d61_41 : decode (mB 61) 41 = .ok (.getfield 136, 3) := by decide +kernel
theorem s61_41 {l0 l1 l2 : Option Value} {st : List Value} {q : Nat} {mi : Nat → Nat → Int32} {ml : Nat → Nat → Int64} {mr : Nat → Nat → Option Nat} {nx : Nat} {Q : Option Value → kMem → Prop} (h : kIs nx q 1 = true) : kJ 61 41 [l0, l1, l2] (.ref q :: st) (mi, ml, mr, nx) Q = kJ 61 44 [l0, l1, l2] (va_rf (mr q 8) :: st) (mi, ml, mr, nx) Q := kJ_next d61_41 (kg_getr 1 8 rfl h (by decide))
theorem d61_44 : decode (mB 61) 44 = .ok (.iload_n 1, 1) := by decide +kernel
theorem s61_44 {l0 l2 : Option Value} {st : List Value} {x : Int32} {m : kMem} {Q : Option Value → kMem → Prop} : kJ 61 44 [l0, some (.int x), l2] st m Q = kJ 61 45 [l0, some (.int x), l2] (.int x :: st) m Q := kJ_next d61_44 rfl
theorem d61_45 : decode (mB 61) 45 = .ok (.iload_n 2, 1) := by decide +kernel
theorem s61_45 {l0 l1 : Option Value} {st : List Value} {x : Int32} {m : kMem} {Q : Option Value → kMem → Prop} : kJ 61 45 [l0, l1, some (.int x)] st m Q = kJ 61 46 [l0, l1, some (.int x)] (.int x :: st) m Q := kJ_next d61_45 rfl
theorem d61_46 : decode (mB 61) 46 = .ok (.bipush 18, 2) := by decide +kernel
theorem s61_46 {l0 l1 l2 : Option Value} {st : List Value} {m : kMem} {Q : Option Value → kMem → Prop} : kJ 61 46 [l0, l1, l2] st m Q = kJ 61 48 [l0, l1, l2] (.int (nI 18) :: st) m Q := kJ_next d61_46 rfl
theorem d61_48 : decode (mB 61) 48 = .ok (.invokestatic 149, 3) := by decide +kernel
theorem s61_48 {l0 l1 l2 : Option Value} {v0 : Int32} {v1 : Int32} {v2 : Int32} {v3 : Nat} {m : kMem} {Q : Option Value → kMem → Prop} : kJ 61 48 [l0, l1, l2] [.int v0, .int v1, .int v2, .ref v3] m Q = kJ 93 0 [some (.ref v3), some (.int v2), some (.int v1), some (.int v0), none] [] m (fun v m2 => kJ 61 51 [l0, l1, l2] (v.toList ++ []) m2 Q) := kJ_call d61_48 (kg_calls 93 4 rfl rfl (Nat.le_of_ble_eq_true rfl) (Nat.le_of_ble_eq_true rfl) (Nat.le_of_ble_eq_true rfl) (Nat.le_of_ble_eq_true rfl))
theorem d61_51 : decode (mB 61) 51 = .ok (.ireturn, 1) := by decide +kernel
theorem s61_51 {l0 l1 l2 : Option Value} {x : Int32} {m : kMem} {Q : Option Value → kMem → Prop} : kJ 61 51 [l0, l1, l2] [.int x] m Q = Q (some (.int x)) m := kJ_ret d61_51 rfl
theorem d62_0 : decode (mB 62) 0 = .ok (.iload_n 1, 1) := by decide +kernel
theorem s62_0 {l0 l2 : Option Value} {st : List Value} {x : Int32} {m : kMem} {Q : Option Value → kMem → Prop} : kJ 62 0 [l0, some (.int x), l2] st m Q = kJ 62 1 [l0, some (.int x), l2] (.int x :: st) m Q := kJ_next d62_0 rfl
theorem d62_1 : decode (mB 62) 1 = .ok (.iconst 1, 1) := by decide +kernel
theorem s62_1 {l0 l1 l2 : Option Value} {st : List Value} {m : kMem} {Q : Option Value → kMem → Prop} : kJ 62 1 [l0, l1, l2] st m Q = kJ 62 2 [l0, l1, l2] (.int (nI 1) :: st) m Q := kJ_next d62_1 rfl
theorem d62_2 : decode (mB 62) 2 = .ok (.iconst 4, 1) := by decide +kernel
theorem s62_2 {l0 l1 l2 : Option Value} {st : List Value} {m : kMem} {Q : Option Value → kMem → Prop} : kJ 62 2 [l0, l1, l2] st m Q = kJ 62 3 [l0, l1, l2] (.int (nI 4) :: st) m Q := kJ_next d62_2 rfl
theorem d62_3 : decode (mB 62) 3 = .ok (.invokestatic 55, 3) := by decide +kernel
theorem s62_3 {l0 l1 l2 : Option Value} {v0 : Int32} {v1 : Int32} {v2 : Int32} {m : kMem} {Q : Option Value → kMem → Prop} : kJ 62 3 [l0, l1, l2] [.int v0, .int v1, .int v2] m Q = kJ 90 0 [some (.int v2), some (.int v1), some (.int v0)] [] m (fun v m2 => kJ 62 6 [l0, l1, l2] (v.toList ++ []) m2 Q) := kJ_call d62_3 (kg_calls 90 3 rfl rfl (Nat.le_of_ble_eq_true rfl) (Nat.le_of_ble_eq_true rfl) (Nat.le_of_ble_eq_true rfl) (Nat.le_of_ble_eq_true rfl))
theorem d62_6 : decode (mB 62) 6 = .ok (.ifCond .ne 5, 3) := by decide +kernel
theorem s62_6 {l0 l1 l2 : Option Value} {st : List Value} {a : Int32} {m : kMem} {Q : Option Value → kMem → Prop} : kJ 62 6 [l0, l1, l2] (.int a :: st) m Q = (if a = 0 then kJ 62 9 [l0, l1, l2] st m Q else kJ 62 11 [l0, l1, l2] st m Q) := kJ_if d62_6 rfl (fun h => kJ_next d62_6 h) (fun h => kJ_next d62_6 h)
theorem d62_9 : decode (mB 62) 9 = .ok (.iconst (-1), 1) := by decide +kernel
theorem s62_9 {l0 l1 l2 : Option Value} {st : List Value} {m : kMem} {Q : Option Value → kMem → Prop} : kJ 62 9 [l0, l1, l2] st m Q = kJ 62 10 [l0, l1, l2] (.int (-1) :: st) m Q := kJ_next d62_9 rfl
theorem d62_10 : decode (mB 62) 10 = .ok (.ireturn, 1) := by decide +kernel
theorem s62_10 {l0 l1 l2 : Option Value} {x : Int32} {m : kMem} {Q : Option Value → kMem → Prop} : kJ 62 10 [l0, l1, l2] [.int x] m Q = Q (some (.int x)) m := kJ_ret d62_10 rfl
theorem d62_11 : decode (mB 62) 11 = .ok (.aload_n 0, 1) := by decide +kernel
theorem s62_11 {l1 l2 : Option Value} {st : List Value} {x : Nat} {m : kMem} {Q : Option Value → kMem → Prop} : kJ 62 11 [some (.ref x), l1, l2] st m Q = kJ 62 12 [some (.ref x), l1, l2] (.ref x :: st) m Q := kJ_next d62_11 rfl
theorem d62_12 : decode (mB 62) 12 = .ok (.getfield 10, 3) := by decide +kernel
theorem s62_12 {l0 l1 l2 : Option Value} {st : List Value} {q : Nat} {mi : Nat → Nat → Int32} {ml : Nat → Nat → Int64} {mr : Nat → Nat → Option Nat} {nx : Nat} {Q : Option Value → kMem → Prop} (h : kIs nx q 4 = true) : kJ 62 12 [l0, l1, l2] (.ref q :: st) (mi, ml, mr, nx) Q = kJ 62 15 [l0, l1, l2] (va_rf (mr q 0) :: st) (mi, ml, mr, nx) Q := kJ_next d62_12 (kg_getr 4 0 rfl h (by decide))
theorem d62_15 : decode (mB 62) 15 = .ok (.getfield 97, 3) := by decide +kernel
theorem s62_15 {l0 l1 l2 : Option Value} {st : List Value} {q : Nat} {mi : Nat → Nat → Int32} {ml : Nat → Nat → Int64} {mr : Nat → Nat → Option Nat} {nx : Nat} {Q : Option Value → kMem → Prop} (h : kIs nx q 1 = true) : kJ 62 15 [l0, l1, l2] (.ref q :: st) (mi, ml, mr, nx) Q = kJ 62 18 [l0, l1, l2] (.int (mi q 11) :: st) (mi, ml, mr, nx) Q := kJ_next d62_15 (kg_geti 1 11 rfl h (by decide))
theorem d62_18 : decode (mB 62) 18 = .ok (.istore_n 2, 1) := by decide +kernel
theorem s62_18 {l0 l1 l2 : Option Value} {st : List Value} {x : Int32} {m : kMem} {Q : Option Value → kMem → Prop} (hp : kNL l1 = true) : kJ 62 18 [l0, l1, l2] (.int x :: st) m Q = kJ 62 19 [l0, l1, some (.int x)] st m Q := kJ_next d62_18 (kg_sti (Nat.le_of_ble_eq_true rfl) hp)
theorem d62_19 : decode (mB 62) 19 = .ok (.aload_n 0, 1) := by decide +kernel
theorem s62_19 {l1 l2 : Option Value} {st : List Value} {x : Nat} {m : kMem} {Q : Option Value → kMem → Prop} : kJ 62 19 [some (.ref x), l1, l2] st m Q = kJ 62 20 [some (.ref x), l1, l2] (.ref x :: st) m Q := kJ_next d62_19 rfl
theorem d62_20 : decode (mB 62) 20 = .ok (.getfield 10, 3) := by decide +kernel
theorem s62_20 {l0 l1 l2 : Option Value} {st : List Value} {q : Nat} {mi : Nat → Nat → Int32} {ml : Nat → Nat → Int64} {mr : Nat → Nat → Option Nat} {nx : Nat} {Q : Option Value → kMem → Prop} (h : kIs nx q 4 = true) : kJ 62 20 [l0, l1, l2] (.ref q :: st) (mi, ml, mr, nx) Q = kJ 62 23 [l0, l1, l2] (va_rf (mr q 0) :: st) (mi, ml, mr, nx) Q := kJ_next d62_20 (kg_getr 4 0 rfl h (by decide))
theorem d62_23 : decode (mB 62) 23 = .ok (.iload_n 1, 1) := by decide +kernel
theorem s62_23 {l0 l2 : Option Value} {st : List Value} {x : Int32} {m : kMem} {Q : Option Value → kMem → Prop} : kJ 62 23 [l0, some (.int x), l2] st m Q = kJ 62 24 [l0, some (.int x), l2] (.int x :: st) m Q := kJ_next d62_23 rfl
theorem d62_24 : decode (mB 62) 24 = .ok (.putfield 97, 3) := by decide +kernel
theorem s62_24 {l0 l1 l2 : Option Value} {st : List Value} {q : Nat} {x : Int32} {mi : Nat → Nat → Int32} {ml : Nat → Nat → Int64} {mr : Nat → Nat → Option Nat} {nx : Nat} {Q : Option Value → kMem → Prop} (h : kIs nx q 1 = true) : kJ 62 24 [l0, l1, l2] (.int x :: .ref q :: st) (mi, ml, mr, nx) Q = kJ 62 27 [l0, l1, l2] st (kup mi q 11 x, ml, mr, nx) Q := kJ_next d62_24 (kg_puti 1 11 rfl h (by decide) (Or.inl (by decide)))
theorem d62_27 : decode (mB 62) 27 = .ok (.iload_n 2, 1) := by decide +kernel
theorem s62_27 {l0 l1 : Option Value} {st : List Value} {x : Int32} {m : kMem} {Q : Option Value → kMem → Prop} : kJ 62 27 [l0, l1, some (.int x)] st m Q = kJ 62 28 [l0, l1, some (.int x)] (.int x :: st) m Q := kJ_next d62_27 rfl
theorem d62_28 : decode (mB 62) 28 = .ok (.ireturn, 1) := by decide +kernel
theorem s62_28 {l0 l1 l2 : Option Value} {x : Int32} {m : kMem} {Q : Option Value → kMem → Prop} : kJ 62 28 [l0, l1, l2] [.int x] m Q = Q (some (.int x)) m := kJ_ret d62_28 rfl
theorem d63_0 : decode (mB 63) 0 = .ok (.aload_n 0, 1) := by decide +kernel
theorem s63_0 {l1 l2 l3 l4 : Option Value} {st : List Value} {x : Nat} {m : kMem} {Q : Option Value → kMem → Prop} : kJ 63 0 [some (.ref x), l1, l2, l3, l4] st m Q = kJ 63 1 [some (.ref x), l1, l2, l3, l4] (.ref x :: st) m Q := kJ_next d63_0 rfl
theorem d63_1 : decode (mB 63) 1 = .ok (.getfield 10, 3) := by decide +kernel
theorem s63_1 {l0 l1 l2 l3 l4 : Option Value} {st : List Value} {q : Nat} {mi : Nat → Nat → Int32} {ml : Nat → Nat → Int64} {mr : Nat → Nat → Option Nat} {nx : Nat} {Q : Option Value → kMem → Prop} (h : kIs nx q 4 = true) : kJ 63 1 [l0, l1, l2, l3, l4] (.ref q :: st) (mi, ml, mr, nx) Q = kJ 63 4 [l0, l1, l2, l3, l4] (va_rf (mr q 0) :: st) (mi, ml, mr, nx) Q := kJ_next d63_1 (kg_getr 4 0 rfl h (by decide))
theorem d63_4 : decode (mB 63) 4 = .ok (.iload_n 1, 1) := by decide +kernel
theorem s63_4 {l0 l2 l3 l4 : Option Value} {st : List Value} {x : Int32} {m : kMem} {Q : Option Value → kMem → Prop} : kJ 63 4 [l0, some (.int x), l2, l3, l4] st m Q = kJ 63 5 [l0, some (.int x), l2, l3, l4] (.int x :: st) m Q := kJ_next d63_4 rfl
theorem d63_5 : decode (mB 63) 5 = .ok (.invokevirtual 108, 3) := by decide +kernel
theorem s63_5 {l0 l1 l2 l3 l4 : Option Value} {v0 : Int32} {v1 : Nat} {m : kMem} {Q : Option Value → kMem → Prop} (h : kIs m.2.2.2 v1 1 = true) : kJ 63 5 [l0, l1, l2, l3, l4] [.int v0, .ref v1] m Q = kJ 7 0 [some (.ref v1), some (.int v0)] [] m (fun v m2 => kJ 63 8 [l0, l1, l2, l3, l4] (v.toList ++ []) m2 Q) := kJ_call d63_5 (kg_callv 7 1 rfl rfl rfl rfl (Nat.le_of_ble_eq_true rfl) (Nat.le_of_ble_eq_true rfl) (Nat.le_of_ble_eq_true rfl) h rfl)
theorem d63_8 : decode (mB 63) 8 = .ok (.ifCond .eq 36, 3) := by decide +kernel
theorem s63_8 {l0 l1 l2 l3 l4 : Option Value} {st : List Value} {a : Int32} {m : kMem} {Q : Option Value → kMem → Prop} : kJ 63 8 [l0, l1, l2, l3, l4] (.int a :: st) m Q = (if a = 0 then kJ 63 44 [l0, l1, l2, l3, l4] st m Q else kJ 63 11 [l0, l1, l2, l3, l4] st m Q) := kJ_if d63_8 rfl (fun h => kJ_next d63_8 h) (fun h => kJ_next d63_8 h)
theorem d63_11 : decode (mB 63) 11 = .ok (.aload_n 0, 1) := by decide +kernel
theorem s63_11 {l1 l2 l3 l4 : Option Value} {st : List Value} {x : Nat} {m : kMem} {Q : Option Value → kMem → Prop} : kJ 63 11 [some (.ref x), l1, l2, l3, l4] st m Q = kJ 63 12 [some (.ref x), l1, l2, l3, l4] (.ref x :: st) m Q := kJ_next d63_11 rfl
theorem d63_12 : decode (mB 63) 12 = .ok (.getfield 10, 3) := by decide +kernel
theorem s63_12 {l0 l1 l2 l3 l4 : Option Value} {st : List Value} {q : Nat} {mi : Nat → Nat → Int32} {ml : Nat → Nat → Int64} {mr : Nat → Nat → Option Nat} {nx : Nat} {Q : Option Value → kMem → Prop} (h : kIs nx q 4 = true) : kJ 63 12 [l0, l1, l2, l3, l4] (.ref q :: st) (mi, ml, mr, nx) Q = kJ 63 15 [l0, l1, l2, l3, l4] (va_rf (mr q 0) :: st) (mi, ml, mr, nx) Q := kJ_next d63_12 (kg_getr 4 0 rfl h (by decide))
theorem d63_15 : decode (mB 63) 15 = .ok (.iload_n 2, 1) := by decide +kernel
theorem s63_15 {l0 l1 l3 l4 : Option Value} {st : List Value} {x : Int32} {m : kMem} {Q : Option Value → kMem → Prop} : kJ 63 15 [l0, l1, some (.int x), l3, l4] st m Q = kJ 63 16 [l0, l1, some (.int x), l3, l4] (.int x :: st) m Q := kJ_next d63_15 rfl
theorem d63_16 : decode (mB 63) 16 = .ok (.invokevirtual 108, 3) := by decide +kernel
theorem s63_16 {l0 l1 l2 l3 l4 : Option Value} {v0 : Int32} {v1 : Nat} {m : kMem} {Q : Option Value → kMem → Prop} (h : kIs m.2.2.2 v1 1 = true) : kJ 63 16 [l0, l1, l2, l3, l4] [.int v0, .ref v1] m Q = kJ 7 0 [some (.ref v1), some (.int v0)] [] m (fun v m2 => kJ 63 19 [l0, l1, l2, l3, l4] (v.toList ++ []) m2 Q) := kJ_call d63_16 (kg_callv 7 1 rfl rfl rfl rfl (Nat.le_of_ble_eq_true rfl) (Nat.le_of_ble_eq_true rfl) (Nat.le_of_ble_eq_true rfl) h rfl)
theorem d63_19 : decode (mB 63) 19 = .ok (.ifCond .eq 25, 3) := by decide +kernel
theorem s63_19 {l0 l1 l2 l3 l4 : Option Value} {st : List Value} {a : Int32} {m : kMem} {Q : Option Value → kMem → Prop} : kJ 63 19 [l0, l1, l2, l3, l4] (.int a :: st) m Q = (if a = 0 then kJ 63 44 [l0, l1, l2, l3, l4] st m Q else kJ 63 22 [l0, l1, l2, l3, l4] st m Q) := kJ_if d63_19 rfl (fun h => kJ_next d63_19 h) (fun h => kJ_next d63_19 h)
theorem d63_22 : decode (mB 63) 22 = .ok (.aload_n 0, 1) := by decide +kernel
theorem s63_22 {l1 l2 l3 l4 : Option Value} {st : List Value} {x : Nat} {m : kMem} {Q : Option Value → kMem → Prop} : kJ 63 22 [some (.ref x), l1, l2, l3, l4] st m Q = kJ 63 23 [some (.ref x), l1, l2, l3, l4] (.ref x :: st) m Q := kJ_next d63_22 rfl
theorem d63_23 : decode (mB 63) 23 = .ok (.getfield 10, 3) := by decide +kernel
theorem s63_23 {l0 l1 l2 l3 l4 : Option Value} {st : List Value} {q : Nat} {mi : Nat → Nat → Int32} {ml : Nat → Nat → Int64} {mr : Nat → Nat → Option Nat} {nx : Nat} {Q : Option Value → kMem → Prop} (h : kIs nx q 4 = true) : kJ 63 23 [l0, l1, l2, l3, l4] (.ref q :: st) (mi, ml, mr, nx) Q = kJ 63 26 [l0, l1, l2, l3, l4] (va_rf (mr q 0) :: st) (mi, ml, mr, nx) Q := kJ_next d63_23 (kg_getr 4 0 rfl h (by decide))
theorem d63_26 : decode (mB 63) 26 = .ok (.iload_n 3, 1) := by decide +kernel
theorem s63_26 {l0 l1 l2 l4 : Option Value} {st : List Value} {x : Int32} {m : kMem} {Q : Option Value → kMem → Prop} : kJ 63 26 [l0, l1, l2, some (.int x), l4] st m Q = kJ 63 27 [l0, l1, l2, some (.int x), l4] (.int x :: st) m Q := kJ_next d63_26 rfl
theorem d63_27 : decode (mB 63) 27 = .ok (.invokevirtual 108, 3) := by decide +kernel
theorem s63_27 {l0 l1 l2 l3 l4 : Option Value} {v0 : Int32} {v1 : Nat} {m : kMem} {Q : Option Value → kMem → Prop} (h : kIs m.2.2.2 v1 1 = true) : kJ 63 27 [l0, l1, l2, l3, l4] [.int v0, .ref v1] m Q = kJ 7 0 [some (.ref v1), some (.int v0)] [] m (fun v m2 => kJ 63 30 [l0, l1, l2, l3, l4] (v.toList ++ []) m2 Q) := kJ_call d63_27 (kg_callv 7 1 rfl rfl rfl rfl (Nat.le_of_ble_eq_true rfl) (Nat.le_of_ble_eq_true rfl) (Nat.le_of_ble_eq_true rfl) h rfl)
theorem d63_30 : decode (mB 63) 30 = .ok (.ifCond .eq 14, 3) := by decide +kernel
theorem s63_30 {l0 l1 l2 l3 l4 : Option Value} {st : List Value} {a : Int32} {m : kMem} {Q : Option Value → kMem → Prop} : kJ 63 30 [l0, l1, l2, l3, l4] (.int a :: st) m Q = (if a = 0 then kJ 63 44 [l0, l1, l2, l3, l4] st m Q else kJ 63 33 [l0, l1, l2, l3, l4] st m Q) := kJ_if d63_30 rfl (fun h => kJ_next d63_30 h) (fun h => kJ_next d63_30 h)
theorem d63_33 : decode (mB 63) 33 = .ok (.iload 4, 2) := by decide +kernel
theorem s63_33 {l0 l1 l2 l3 : Option Value} {st : List Value} {x : Int32} {m : kMem} {Q : Option Value → kMem → Prop} : kJ 63 33 [l0, l1, l2, l3, some (.int x)] st m Q = kJ 63 35 [l0, l1, l2, l3, some (.int x)] (.int x :: st) m Q := kJ_next d63_33 rfl
theorem d63_35 : decode (mB 63) 35 = .ok (.iconst 0, 1) := by decide +kernel
theorem s63_35 {l0 l1 l2 l3 l4 : Option Value} {st : List Value} {m : kMem} {Q : Option Value → kMem → Prop} : kJ 63 35 [l0, l1, l2, l3, l4] st m Q = kJ 63 36 [l0, l1, l2, l3, l4] (.int (nI 0) :: st) m Q := kJ_next d63_35 rfl
theorem d63_36 : decode (mB 63) 36 = .ok (.bipush 18, 2) := by decide +kernel
theorem s63_36 {l0 l1 l2 l3 l4 : Option Value} {st : List Value} {m : kMem} {Q : Option Value → kMem → Prop} : kJ 63 36 [l0, l1, l2, l3, l4] st m Q = kJ 63 38 [l0, l1, l2, l3, l4] (.int (nI 18) :: st) m Q := kJ_next d63_36 rfl
theorem d63_38 : decode (mB 63) 38 = .ok (.invokestatic 55, 3) := by decide +kernel
theorem s63_38 {l0 l1 l2 l3 l4 : Option Value} {v0 : Int32} {v1 : Int32} {v2 : Int32} {m : kMem} {Q : Option Value → kMem → Prop} : kJ 63 38 [l0, l1, l2, l3, l4] [.int v0, .int v1, .int v2] m Q = kJ 90 0 [some (.int v2), some (.int v1), some (.int v0)] [] m (fun v m2 => kJ 63 41 [l0, l1, l2, l3, l4] (v.toList ++ []) m2 Q) := kJ_call d63_38 (kg_calls 90 3 rfl rfl (Nat.le_of_ble_eq_true rfl) (Nat.le_of_ble_eq_true rfl) (Nat.le_of_ble_eq_true rfl) (Nat.le_of_ble_eq_true rfl))
theorem d63_41 : decode (mB 63) 41 = .ok (.ifCond .ne 5, 3) := by decide +kernel
theorem s63_41 {l0 l1 l2 l3 l4 : Option Value} {st : List Value} {a : Int32} {m : kMem} {Q : Option Value → kMem → Prop} : kJ 63 41 [l0, l1, l2, l3, l4] (.int a :: st) m Q = (if a = 0 then kJ 63 44 [l0, l1, l2, l3, l4] st m Q else kJ 63 46 [l0, l1, l2, l3, l4] st m Q) := kJ_if d63_41 rfl (fun h => kJ_next d63_41 h) (fun h => kJ_next d63_41 h)
theorem d63_44 : decode (mB 63) 44 = .ok (.iconst (-1), 1) := by decide +kernel
theorem s63_44 {l0 l1 l2 l3 l4 : Option Value} {st : List Value} {m : kMem} {Q : Option Value → kMem → Prop} : kJ 63 44 [l0, l1, l2, l3, l4] st m Q = kJ 63 45 [l0, l1, l2, l3, l4] (.int (-1) :: st) m Q := kJ_next d63_44 rfl
theorem d63_45 : decode (mB 63) 45 = .ok (.ireturn, 1) := by decide +kernel
theorem s63_45 {l0 l1 l2 l3 l4 : Option Value} {x : Int32} {m : kMem} {Q : Option Value → kMem → Prop} : kJ 63 45 [l0, l1, l2, l3, l4] [.int x] m Q = Q (some (.int x)) m := kJ_ret d63_45 rfl
theorem d63_46 : decode (mB 63) 46 = .ok (.aload_n 0, 1) := by decide +kernel
theorem s63_46 {l1 l2 l3 l4 : Option Value} {st : List Value} {x : Nat} {m : kMem} {Q : Option Value → kMem → Prop} : kJ 63 46 [some (.ref x), l1, l2, l3, l4] st m Q = kJ 63 47 [some (.ref x), l1, l2, l3, l4] (.ref x :: st) m Q := kJ_next d63_46 rfl
theorem d63_47 : decode (mB 63) 47 = .ok (.getfield 10, 3) := by decide +kernel
theorem s63_47 {l0 l1 l2 l3 l4 : Option Value} {st : List Value} {q : Nat} {mi : Nat → Nat → Int32} {ml : Nat → Nat → Int64} {mr : Nat → Nat → Option Nat} {nx : Nat} {Q : Option Value → kMem → Prop} (h : kIs nx q 4 = true) : kJ 63 47 [l0, l1, l2, l3, l4] (.ref q :: st) (mi, ml, mr, nx) Q = kJ 63 50 [l0, l1, l2, l3, l4] (va_rf (mr q 0) :: st) (mi, ml, mr, nx) Q := kJ_next d63_47 (kg_getr 4 0 rfl h (by decide))
theorem d63_50 : decode (mB 63) 50 = .ok (.getfield 91, 3) := by decide +kernel
theorem s63_50 {l0 l1 l2 l3 l4 : Option Value} {st : List Value} {q : Nat} {mi : Nat → Nat → Int32} {ml : Nat → Nat → Int64} {mr : Nat → Nat → Option Nat} {nx : Nat} {Q : Option Value → kMem → Prop} (h : kIs nx q 1 = true) : kJ 63 50 [l0, l1, l2, l3, l4] (.ref q :: st) (mi, ml, mr, nx) Q = kJ 63 53 [l0, l1, l2, l3, l4] (.int (mi q 4) :: st) (mi, ml, mr, nx) Q := kJ_next d63_50 (kg_geti 1 4 rfl h (by decide))
theorem d63_53 : decode (mB 63) 53 = .ok (.bipush 6, 2) := by decide +kernel
theorem s63_53 {l0 l1 l2 l3 l4 : Option Value} {st : List Value} {m : kMem} {Q : Option Value → kMem → Prop} : kJ 63 53 [l0, l1, l2, l3, l4] st m Q = kJ 63 55 [l0, l1, l2, l3, l4] (.int (nI 6) :: st) m Q := kJ_next d63_53 rfl
theorem d63_55 : decode (mB 63) 55 = .ok (.if_icmp .lt 6, 3) := by decide +kernel
theorem s63_55 {l0 l1 l2 l3 l4 : Option Value} {st : List Value} {a b : Int32} {m : kMem} {Q : Option Value → kMem → Prop} : kJ 63 55 [l0, l1, l2, l3, l4] (.int b :: .int a :: st) m Q = (if a < b then kJ 63 61 [l0, l1, l2, l3, l4] st m Q else kJ 63 58 [l0, l1, l2, l3, l4] st m Q) := kJ_if d63_55 rfl (fun h => kJ_next d63_55 h) (fun h => kJ_next d63_55 h)
theorem d63_58 : decode (mB 63) 58 = .ok (.bipush (-3), 2) := by decide +kernel
theorem s63_58 {l0 l1 l2 l3 l4 : Option Value} {st : List Value} {m : kMem} {Q : Option Value → kMem → Prop} : kJ 63 58 [l0, l1, l2, l3, l4] st m Q = kJ 63 60 [l0, l1, l2, l3, l4] (.int (-3) :: st) m Q := kJ_next d63_58 rfl
theorem d63_60 : decode (mB 63) 60 = .ok (.ireturn, 1) := by decide +kernel
theorem s63_60 {l0 l1 l2 l3 l4 : Option Value} {x : Int32} {m : kMem} {Q : Option Value → kMem → Prop} : kJ 63 60 [l0, l1, l2, l3, l4] [.int x] m Q = Q (some (.int x)) m := kJ_ret d63_60 rfl
theorem d63_61 : decode (mB 63) 61 = .ok (.aload_n 0, 1) := by decide +kernel
theorem s63_61 {l1 l2 l3 l4 : Option Value} {st : List Value} {x : Nat} {m : kMem} {Q : Option Value → kMem → Prop} : kJ 63 61 [some (.ref x), l1, l2, l3, l4] st m Q = kJ 63 62 [some (.ref x), l1, l2, l3, l4] (.ref x :: st) m Q := kJ_next d63_61 rfl
theorem d63_62 : decode (mB 63) 62 = .ok (.getfield 10, 3) := by decide +kernel
theorem s63_62 {l0 l1 l2 l3 l4 : Option Value} {st : List Value} {q : Nat} {mi : Nat → Nat → Int32} {ml : Nat → Nat → Int64} {mr : Nat → Nat → Option Nat} {nx : Nat} {Q : Option Value → kMem → Prop} (h : kIs nx q 4 = true) : kJ 63 62 [l0, l1, l2, l3, l4] (.ref q :: st) (mi, ml, mr, nx) Q = kJ 63 65 [l0, l1, l2, l3, l4] (va_rf (mr q 0) :: st) (mi, ml, mr, nx) Q := kJ_next d63_62 (kg_getr 4 0 rfl h (by decide))
theorem d63_65 : decode (mB 63) 65 = .ok (.iload_n 1, 1) := by decide +kernel
theorem s63_65 {l0 l2 l3 l4 : Option Value} {st : List Value} {x : Int32} {m : kMem} {Q : Option Value → kMem → Prop} : kJ 63 65 [l0, some (.int x), l2, l3, l4] st m Q = kJ 63 66 [l0, some (.int x), l2, l3, l4] (.int x :: st) m Q := kJ_next d63_65 rfl
theorem d63_66 : decode (mB 63) 66 = .ok (.iload_n 2, 1) := by decide +kernel
theorem s63_66 {l0 l1 l3 l4 : Option Value} {st : List Value} {x : Int32} {m : kMem} {Q : Option Value → kMem → Prop} : kJ 63 66 [l0, l1, some (.int x), l3, l4] st m Q = kJ 63 67 [l0, l1, some (.int x), l3, l4] (.int x :: st) m Q := kJ_next d63_66 rfl
theorem d63_67 : decode (mB 63) 67 = .ok (.iload_n 3, 1) := by decide +kernel
theorem s63_67 {l0 l1 l2 l4 : Option Value} {st : List Value} {x : Int32} {m : kMem} {Q : Option Value → kMem → Prop} : kJ 63 67 [l0, l1, l2, some (.int x), l4] st m Q = kJ 63 68 [l0, l1, l2, some (.int x), l4] (.int x :: st) m Q := kJ_next d63_67 rfl
theorem d63_68 : decode (mB 63) 68 = .ok (.iload 4, 2) := by decide +kernel
theorem s63_68 {l0 l1 l2 l3 : Option Value} {st : List Value} {x : Int32} {m : kMem} {Q : Option Value → kMem → Prop} : kJ 63 68 [l0, l1, l2, l3, some (.int x)] st m Q = kJ 63 70 [l0, l1, l2, l3, some (.int x)] (.int x :: st) m Q := kJ_next d63_68 rfl
theorem d63_70 : decode (mB 63) 70 = .ok (.invokevirtual 156, 3) := by decide +kernel
theorem s63_70 {l0 l1 l2 l3 l4 : Option Value} {v0 : Int32} {v1 : Int32} {v2 : Int32} {v3 : Int32} {v4 : Nat} {m : kMem} {Q : Option Value → kMem → Prop} (h : kIs m.2.2.2 v4 1 = true) : kJ 63 70 [l0, l1, l2, l3, l4] [.int v0, .int v1, .int v2, .int v3, .ref v4] m Q = kJ 12 0 [some (.ref v4), some (.int v3), some (.int v2), some (.int v1), some (.int v0)] [] m (fun v m2 => kJ 63 73 [l0, l1, l2, l3, l4] (v.toList ++ []) m2 Q) := kJ_call d63_70 (kg_callv 12 4 rfl rfl rfl rfl (Nat.le_of_ble_eq_true rfl) (Nat.le_of_ble_eq_true rfl) (Nat.le_of_ble_eq_true rfl) h rfl)
theorem d63_73 : decode (mB 63) 73 = .ok (.aload_n 0, 1) := by decide +kernel
theorem s63_73 {l1 l2 l3 l4 : Option Value} {st : List Value} {x : Nat} {m : kMem} {Q : Option Value → kMem → Prop} : kJ 63 73 [some (.ref x), l1, l2, l3, l4] st m Q = kJ 63 74 [some (.ref x), l1, l2, l3, l4] (.ref x :: st) m Q := kJ_next d63_73 rfl
theorem d63_74 : decode (mB 63) 74 = .ok (.getfield 10, 3) := by decide +kernel
theorem s63_74 {l0 l1 l2 l3 l4 : Option Value} {st : List Value} {q : Nat} {mi : Nat → Nat → Int32} {ml : Nat → Nat → Int64} {mr : Nat → Nat → Option Nat} {nx : Nat} {Q : Option Value → kMem → Prop} (h : kIs nx q 4 = true) : kJ 63 74 [l0, l1, l2, l3, l4] (.ref q :: st) (mi, ml, mr, nx) Q = kJ 63 77 [l0, l1, l2, l3, l4] (va_rf (mr q 0) :: st) (mi, ml, mr, nx) Q := kJ_next d63_74 (kg_getr 4 0 rfl h (by decide))
theorem d63_77 : decode (mB 63) 77 = .ok (.getfield 91, 3) := by decide +kernel
theorem s63_77 {l0 l1 l2 l3 l4 : Option Value} {st : List Value} {q : Nat} {mi : Nat → Nat → Int32} {ml : Nat → Nat → Int64} {mr : Nat → Nat → Option Nat} {nx : Nat} {Q : Option Value → kMem → Prop} (h : kIs nx q 1 = true) : kJ 63 77 [l0, l1, l2, l3, l4] (.ref q :: st) (mi, ml, mr, nx) Q = kJ 63 80 [l0, l1, l2, l3, l4] (.int (mi q 4) :: st) (mi, ml, mr, nx) Q := kJ_next d63_77 (kg_geti 1 4 rfl h (by decide))
theorem d63_80 : decode (mB 63) 80 = .ok (.ireturn, 1) := by decide +kernel
theorem s63_80 {l0 l1 l2 l3 l4 : Option Value} {x : Int32} {m : kMem} {Q : Option Value → kMem → Prop} : kJ 63 80 [l0, l1, l2, l3, l4] [.int x] m Q = Q (some (.int x)) m := kJ_ret d63_80 rfl
theorem d64_0 : decode (mB 64) 0 = .ok (.iload_n 1, 1) := by decide +kernel
theorem s64_0 {l0 l2 : Option Value} {st : List Value} {x : Int32} {m : kMem} {Q : Option Value → kMem → Prop} : kJ 64 0 [l0, some (.int x), l2] st m Q = kJ 64 1 [l0, some (.int x), l2] (.int x :: st) m Q := kJ_next d64_0 rfl
theorem d64_1 : decode (mB 64) 1 = .ok (.iconst 0, 1) := by decide +kernel
theorem s64_1 {l0 l1 l2 : Option Value} {st : List Value} {m : kMem} {Q : Option Value → kMem → Prop} : kJ 64 1 [l0, l1, l2] st m Q = kJ 64 2 [l0, l1, l2] (.int (nI 0) :: st) m Q := kJ_next d64_1 rfl
theorem d64_2 : decode (mB 64) 2 = .ok (.aload_n 0, 1) := by decide +kernel
theorem s64_2 {l1 l2 : Option Value} {st : List Value} {x : Nat} {m : kMem} {Q : Option Value → kMem → Prop} : kJ 64 2 [some (.ref x), l1, l2] st m Q = kJ 64 3 [some (.ref x), l1, l2] (.ref x :: st) m Q := kJ_next d64_2 rfl
theorem d64_3 : decode (mB 64) 3 = .ok (.getfield 10, 3) := by decide +kernel
theorem s64_3 {l0 l1 l2 : Option Value} {st : List Value} {q : Nat} {mi : Nat → Nat → Int32} {ml : Nat → Nat → Int64} {mr : Nat → Nat → Option Nat} {nx : Nat} {Q : Option Value → kMem → Prop} (h : kIs nx q 4 = true) : kJ 64 3 [l0, l1, l2] (.ref q :: st) (mi, ml, mr, nx) Q = kJ 64 6 [l0, l1, l2] (va_rf (mr q 0) :: st) (mi, ml, mr, nx) Q := kJ_next d64_3 (kg_getr 4 0 rfl h (by decide))
theorem d64_6 : decode (mB 64) 6 = .ok (.getfield 91, 3) := by decide +kernel
theorem s64_6 {l0 l1 l2 : Option Value} {st : List Value} {q : Nat} {mi : Nat → Nat → Int32} {ml : Nat → Nat → Int64} {mr : Nat → Nat → Option Nat} {nx : Nat} {Q : Option Value → kMem → Prop} (h : kIs nx q 1 = true) : kJ 64 6 [l0, l1, l2] (.ref q :: st) (mi, ml, mr, nx) Q = kJ 64 9 [l0, l1, l2] (.int (mi q 4) :: st) (mi, ml, mr, nx) Q := kJ_next d64_6 (kg_geti 1 4 rfl h (by decide))
theorem d64_9 : decode (mB 64) 9 = .ok (.invokestatic 55, 3) := by decide +kernel
theorem s64_9 {l0 l1 l2 : Option Value} {v0 : Int32} {v1 : Int32} {v2 : Int32} {m : kMem} {Q : Option Value → kMem → Prop} : kJ 64 9 [l0, l1, l2] [.int v0, .int v1, .int v2] m Q = kJ 90 0 [some (.int v2), some (.int v1), some (.int v0)] [] m (fun v m2 => kJ 64 12 [l0, l1, l2] (v.toList ++ []) m2 Q) := kJ_call d64_9 (kg_calls 90 3 rfl rfl (Nat.le_of_ble_eq_true rfl) (Nat.le_of_ble_eq_true rfl) (Nat.le_of_ble_eq_true rfl) (Nat.le_of_ble_eq_true rfl))
theorem d64_12 : decode (mB 64) 12 = .ok (.ifCond .ne 5, 3) := by decide +kernel
theorem s64_12 {l0 l1 l2 : Option Value} {st : List Value} {a : Int32} {m : kMem} {Q : Option Value → kMem → Prop} : kJ 64 12 [l0, l1, l2] (.int a :: st) m Q = (if a = 0 then kJ 64 15 [l0, l1, l2] st m Q else kJ 64 17 [l0, l1, l2] st m Q) := kJ_if d64_12 rfl (fun h => kJ_next d64_12 h) (fun h => kJ_next d64_12 h)
theorem d64_15 : decode (mB 64) 15 = .ok (.iconst (-1), 1) := by decide +kernel
theorem s64_15 {l0 l1 l2 : Option Value} {st : List Value} {m : kMem} {Q : Option Value → kMem → Prop} : kJ 64 15 [l0, l1, l2] st m Q = kJ 64 16 [l0, l1, l2] (.int (-1) :: st) m Q := kJ_next d64_15 rfl
theorem d64_16 : decode (mB 64) 16 = .ok (.ireturn, 1) := by decide +kernel
theorem s64_16 {l0 l1 l2 : Option Value} {x : Int32} {m : kMem} {Q : Option Value → kMem → Prop} : kJ 64 16 [l0, l1, l2] [.int x] m Q = Q (some (.int x)) m := kJ_ret d64_16 rfl
theorem d64_17 : decode (mB 64) 17 = .ok (.aload_n 0, 1) := by decide +kernel
theorem s64_17 {l1 l2 : Option Value} {st : List Value} {x : Nat} {m : kMem} {Q : Option Value → kMem → Prop} : kJ 64 17 [some (.ref x), l1, l2] st m Q = kJ 64 18 [some (.ref x), l1, l2] (.ref x :: st) m Q := kJ_next d64_17 rfl
theorem d64_18 : decode (mB 64) 18 = .ok (.getfield 10, 3) := by decide +kernel
theorem s64_18 {l0 l1 l2 : Option Value} {st : List Value} {q : Nat} {mi : Nat → Nat → Int32} {ml : Nat → Nat → Int64} {mr : Nat → Nat → Option Nat} {nx : Nat} {Q : Option Value → kMem → Prop} (h : kIs nx q 4 = true) : kJ 64 18 [l0, l1, l2] (.ref q :: st) (mi, ml, mr, nx) Q = kJ 64 21 [l0, l1, l2] (va_rf (mr q 0) :: st) (mi, ml, mr, nx) Q := kJ_next d64_18 (kg_getr 4 0 rfl h (by decide))
theorem d64_21 : decode (mB 64) 21 = .ok (.getfield 91, 3) := by decide +kernel
theorem s64_21 {l0 l1 l2 : Option Value} {st : List Value} {q : Nat} {mi : Nat → Nat → Int32} {ml : Nat → Nat → Int64} {mr : Nat → Nat → Option Nat} {nx : Nat} {Q : Option Value → kMem → Prop} (h : kIs nx q 1 = true) : kJ 64 21 [l0, l1, l2] (.ref q :: st) (mi, ml, mr, nx) Q = kJ 64 24 [l0, l1, l2] (.int (mi q 4) :: st) (mi, ml, mr, nx) Q := kJ_next d64_21 (kg_geti 1 4 rfl h (by decide))
theorem d64_24 : decode (mB 64) 24 = .ok (.istore_n 2, 1) := by decide +kernel
theorem s64_24 {l0 l1 l2 : Option Value} {st : List Value} {x : Int32} {m : kMem} {Q : Option Value → kMem → Prop} (hp : kNL l1 = true) : kJ 64 24 [l0, l1, l2] (.int x :: st) m Q = kJ 64 25 [l0, l1, some (.int x)] st m Q := kJ_next d64_24 (kg_sti (Nat.le_of_ble_eq_true rfl) hp)
theorem d64_25 : decode (mB 64) 25 = .ok (.aload_n 0, 1) := by decide +kernel
theorem s64_25 {l1 l2 : Option Value} {st : List Value} {x : Nat} {m : kMem} {Q : Option Value → kMem → Prop} : kJ 64 25 [some (.ref x), l1, l2] st m Q = kJ 64 26 [some (.ref x), l1, l2] (.ref x :: st) m Q := kJ_next d64_25 rfl
theorem d64_26 : decode (mB 64) 26 = .ok (.getfield 10, 3) := by decide +kernel
theorem s64_26 {l0 l1 l2 : Option Value} {st : List Value} {q : Nat} {mi : Nat → Nat → Int32} {ml : Nat → Nat → Int64} {mr : Nat → Nat → Option Nat} {nx : Nat} {Q : Option Value → kMem → Prop} (h : kIs nx q 4 = true) : kJ 64 26 [l0, l1, l2] (.ref q :: st) (mi, ml, mr, nx) Q = kJ 64 29 [l0, l1, l2] (va_rf (mr q 0) :: st) (mi, ml, mr, nx) Q := kJ_next d64_26 (kg_getr 4 0 rfl h (by decide))
theorem d64_29 : decode (mB 64) 29 = .ok (.iload_n 1, 1) := by decide +kernel
theorem s64_29 {l0 l2 : Option Value} {st : List Value} {x : Int32} {m : kMem} {Q : Option Value → kMem → Prop} : kJ 64 29 [l0, some (.int x), l2] st m Q = kJ 64 30 [l0, some (.int x), l2] (.int x :: st) m Q := kJ_next d64_29 rfl
theorem d64_30 : decode (mB 64) 30 = .ok (.putfield 91, 3) := by decide +kernel
theorem s64_30 {l0 l1 l2 : Option Value} {st : List Value} {q : Nat} {x : Int32} {mi : Nat → Nat → Int32} {ml : Nat → Nat → Int64} {mr : Nat → Nat → Option Nat} {nx : Nat} {Q : Option Value → kMem → Prop} (h : kIs nx q 1 = true) : kJ 64 30 [l0, l1, l2] (.int x :: .ref q :: st) (mi, ml, mr, nx) Q = kJ 64 33 [l0, l1, l2] st (kup mi q 4 x, ml, mr, nx) Q := kJ_next d64_30 (kg_puti 1 4 rfl h (by decide) (Or.inl (by decide)))
theorem d64_33 : decode (mB 64) 33 = .ok (.iload_n 2, 1) := by decide +kernel
theorem s64_33 {l0 l1 : Option Value} {st : List Value} {x : Int32} {m : kMem} {Q : Option Value → kMem → Prop} : kJ 64 33 [l0, l1, some (.int x)] st m Q = kJ 64 34 [l0, l1, some (.int x)] (.int x :: st) m Q := kJ_next d64_33 rfl
theorem d64_34 : decode (mB 64) 34 = .ok (.ireturn, 1) := by decide +kernel
theorem s64_34 {l0 l1 l2 : Option Value} {x : Int32} {m : kMem} {Q : Option Value → kMem → Prop} : kJ 64 34 [l0, l1, l2] [.int x] m Q = Q (some (.int x)) m := kJ_ret d64_34 rfl
theorem d65_0 : decode (mB 65) 0 = .ok (.iload_n 1, 1) := by decide +kernel
theorem s65_0 {l0 l2 : Option Value} {st : List Value} {x : Int32} {m : kMem} {Q : Option Value → kMem → Prop} : kJ 65 0 [l0, some (.int x), l2] st m Q = kJ 65 1 [l0, some (.int x), l2] (.int x :: st) m Q := kJ_next d65_0 rfl
theorem d65_1 : decode (mB 65) 1 = .ok (.iconst 0, 1) := by decide +kernel
theorem s65_1 {l0 l1 l2 : Option Value} {st : List Value} {m : kMem} {Q : Option Value → kMem → Prop} : kJ 65 1 [l0, l1, l2] st m Q = kJ 65 2 [l0, l1, l2] (.int (nI 0) :: st) m Q := kJ_next d65_1 rfl
theorem d65_2 : decode (mB 65) 2 = .ok (.bipush 30, 2) := by decide +kernel
theorem s65_2 {l0 l1 l2 : Option Value} {st : List Value} {m : kMem} {Q : Option Value → kMem → Prop} : kJ 65 2 [l0, l1, l2] st m Q = kJ 65 4 [l0, l1, l2] (.int (nI 30) :: st) m Q := kJ_next d65_2 rfl
theorem d65_4 : decode (mB 65) 4 = .ok (.invokestatic 55, 3) := by decide +kernel
theorem s65_4 {l0 l1 l2 : Option Value} {v0 : Int32} {v1 : Int32} {v2 : Int32} {m : kMem} {Q : Option Value → kMem → Prop} : kJ 65 4 [l0, l1, l2] [.int v0, .int v1, .int v2] m Q = kJ 90 0 [some (.int v2), some (.int v1), some (.int v0)] [] m (fun v m2 => kJ 65 7 [l0, l1, l2] (v.toList ++ []) m2 Q) := kJ_call d65_4 (kg_calls 90 3 rfl rfl (Nat.le_of_ble_eq_true rfl) (Nat.le_of_ble_eq_true rfl) (Nat.le_of_ble_eq_true rfl) (Nat.le_of_ble_eq_true rfl))
theorem d65_7 : decode (mB 65) 7 = .ok (.ifCond .ne 5, 3) := by decide +kernel
theorem s65_7 {l0 l1 l2 : Option Value} {st : List Value} {a : Int32} {m : kMem} {Q : Option Value → kMem → Prop} : kJ 65 7 [l0, l1, l2] (.int a :: st) m Q = (if a = 0 then kJ 65 10 [l0, l1, l2] st m Q else kJ 65 12 [l0, l1, l2] st m Q) := kJ_if d65_7 rfl (fun h => kJ_next d65_7 h) (fun h => kJ_next d65_7 h)
theorem d65_10 : decode (mB 65) 10 = .ok (.iconst (-1), 1) := by decide +kernel
theorem s65_10 {l0 l1 l2 : Option Value} {st : List Value} {m : kMem} {Q : Option Value → kMem → Prop} : kJ 65 10 [l0, l1, l2] st m Q = kJ 65 11 [l0, l1, l2] (.int (-1) :: st) m Q := kJ_next d65_10 rfl
theorem d65_11 : decode (mB 65) 11 = .ok (.ireturn, 1) := by decide +kernel
theorem s65_11 {l0 l1 l2 : Option Value} {x : Int32} {m : kMem} {Q : Option Value → kMem → Prop} : kJ 65 11 [l0, l1, l2] [.int x] m Q = Q (some (.int x)) m := kJ_ret d65_11 rfl
theorem d65_12 : decode (mB 65) 12 = .ok (.aload_n 0, 1) := by decide +kernel
theorem s65_12 {l1 l2 : Option Value} {st : List Value} {x : Nat} {m : kMem} {Q : Option Value → kMem → Prop} : kJ 65 12 [some (.ref x), l1, l2] st m Q = kJ 65 13 [some (.ref x), l1, l2] (.ref x :: st) m Q := kJ_next d65_12 rfl
theorem d65_13 : decode (mB 65) 13 = .ok (.getfield 10, 3) := by decide +kernel
theorem s65_13 {l0 l1 l2 : Option Value} {st : List Value} {q : Nat} {mi : Nat → Nat → Int32} {ml : Nat → Nat → Int64} {mr : Nat → Nat → Option Nat} {nx : Nat} {Q : Option Value → kMem → Prop} (h : kIs nx q 4 = true) : kJ 65 13 [l0, l1, l2] (.ref q :: st) (mi, ml, mr, nx) Q = kJ 65 16 [l0, l1, l2] (va_rf (mr q 0) :: st) (mi, ml, mr, nx) Q := kJ_next d65_13 (kg_getr 4 0 rfl h (by decide))
theorem d65_16 : decode (mB 65) 16 = .ok (.getfield 94, 3) := by decide +kernel
theorem s65_16 {l0 l1 l2 : Option Value} {st : List Value} {q : Nat} {mi : Nat → Nat → Int32} {ml : Nat → Nat → Int64} {mr : Nat → Nat → Option Nat} {nx : Nat} {Q : Option Value → kMem → Prop} (h : kIs nx q 1 = true) : kJ 65 16 [l0, l1, l2] (.ref q :: st) (mi, ml, mr, nx) Q = kJ 65 19 [l0, l1, l2] (.int (mi q 12) :: st) (mi, ml, mr, nx) Q := kJ_next d65_16 (kg_geti 1 12 rfl h (by decide))
theorem d65_19 : decode (mB 65) 19 = .ok (.iload_n 1, 1) := by decide +kernel
theorem s65_19 {l0 l2 : Option Value} {st : List Value} {x : Int32} {m : kMem} {Q : Option Value → kMem → Prop} : kJ 65 19 [l0, some (.int x), l2] st m Q = kJ 65 20 [l0, some (.int x), l2] (.int x :: st) m Q := kJ_next d65_19 rfl
theorem d65_20 : decode (mB 65) 20 = .ok (.iadd, 1) := by decide +kernel
theorem s65_20 {l0 l1 l2 : Option Value} {st : List Value} {a b : Int32} {m : kMem} {Q : Option Value → kMem → Prop} : kJ 65 20 [l0, l1, l2] (.int b :: .int a :: st) m Q = kJ 65 21 [l0, l1, l2] (.int (a + b) :: st) m Q := kJ_next d65_20 rfl
theorem d65_21 : decode (mB 65) 21 = .ok (.sipush 1000, 3) := by decide +kernel
theorem s65_21 {l0 l1 l2 : Option Value} {st : List Value} {m : kMem} {Q : Option Value → kMem → Prop} : kJ 65 21 [l0, l1, l2] st m Q = kJ 65 24 [l0, l1, l2] (.int (nI 1000) :: st) m Q := kJ_next d65_21 rfl
theorem d65_24 : decode (mB 65) 24 = .ok (.if_icmp .lt 6, 3) := by decide +kernel
theorem s65_24 {l0 l1 l2 : Option Value} {st : List Value} {a b : Int32} {m : kMem} {Q : Option Value → kMem → Prop} : kJ 65 24 [l0, l1, l2] (.int b :: .int a :: st) m Q = (if a < b then kJ 65 30 [l0, l1, l2] st m Q else kJ 65 27 [l0, l1, l2] st m Q) := kJ_if d65_24 rfl (fun h => kJ_next d65_24 h) (fun h => kJ_next d65_24 h)
theorem d65_27 : decode (mB 65) 27 = .ok (.bipush (-3), 2) := by decide +kernel
theorem s65_27 {l0 l1 l2 : Option Value} {st : List Value} {m : kMem} {Q : Option Value → kMem → Prop} : kJ 65 27 [l0, l1, l2] st m Q = kJ 65 29 [l0, l1, l2] (.int (-3) :: st) m Q := kJ_next d65_27 rfl
theorem d65_29 : decode (mB 65) 29 = .ok (.ireturn, 1) := by decide +kernel
theorem s65_29 {l0 l1 l2 : Option Value} {x : Int32} {m : kMem} {Q : Option Value → kMem → Prop} : kJ 65 29 [l0, l1, l2] [.int x] m Q = Q (some (.int x)) m := kJ_ret d65_29 rfl
theorem d65_30 : decode (mB 65) 30 = .ok (.aload_n 0, 1) := by decide +kernel
theorem s65_30 {l1 l2 : Option Value} {st : List Value} {x : Nat} {m : kMem} {Q : Option Value → kMem → Prop} : kJ 65 30 [some (.ref x), l1, l2] st m Q = kJ 65 31 [some (.ref x), l1, l2] (.ref x :: st) m Q := kJ_next d65_30 rfl
theorem d65_31 : decode (mB 65) 31 = .ok (.getfield 10, 3) := by decide +kernel
theorem s65_31 {l0 l1 l2 : Option Value} {st : List Value} {q : Nat} {mi : Nat → Nat → Int32} {ml : Nat → Nat → Int64} {mr : Nat → Nat → Option Nat} {nx : Nat} {Q : Option Value → kMem → Prop} (h : kIs nx q 4 = true) : kJ 65 31 [l0, l1, l2] (.ref q :: st) (mi, ml, mr, nx) Q = kJ 65 34 [l0, l1, l2] (va_rf (mr q 0) :: st) (mi, ml, mr, nx) Q := kJ_next d65_31 (kg_getr 4 0 rfl h (by decide))
theorem d65_34 : decode (mB 65) 34 = .ok (.invokevirtual 160, 3) := by decide +kernel
theorem s65_34 {l0 l1 l2 : Option Value} {v0 : Nat} {m : kMem} {Q : Option Value → kMem → Prop} (h : kIs m.2.2.2 v0 1 = true) : kJ 65 34 [l0, l1, l2] [.ref v0] m Q = kJ 18 0 [some (.ref v0)] [] m (fun v m2 => kJ 65 37 [l0, l1, l2] (v.toList ++ []) m2 Q) := kJ_call d65_34 (kg_callv 18 0 rfl rfl rfl rfl (Nat.le_of_ble_eq_true rfl) (Nat.le_of_ble_eq_true rfl) (Nat.le_of_ble_eq_true rfl) h rfl)
theorem d65_37 : decode (mB 65) 37 = .ok (.istore_n 2, 1) := by decide +kernel
theorem s65_37 {l0 l1 l2 : Option Value} {st : List Value} {x : Int32} {m : kMem} {Q : Option Value → kMem → Prop} (hp : kNL l1 = true) : kJ 65 37 [l0, l1, l2] (.int x :: st) m Q = kJ 65 38 [l0, l1, some (.int x)] st m Q := kJ_next d65_37 (kg_sti (Nat.le_of_ble_eq_true rfl) hp)
theorem d65_38 : decode (mB 65) 38 = .ok (.aload_n 0, 1) := by decide +kernel
theorem s65_38 {l1 l2 : Option Value} {st : List Value} {x : Nat} {m : kMem} {Q : Option Value → kMem → Prop} : kJ 65 38 [some (.ref x), l1, l2] st m Q = kJ 65 39 [some (.ref x), l1, l2] (.ref x :: st) m Q := kJ_next d65_38 rfl
theorem d65_39 : decode (mB 65) 39 = .ok (.getfield 10, 3) := by decide +kernel
theorem s65_39 {l0 l1 l2 : Option Value} {st : List Value} {q : Nat} {mi : Nat → Nat → Int32} {ml : Nat → Nat → Int64} {mr : Nat → Nat → Option Nat} {nx : Nat} {Q : Option Value → kMem → Prop} (h : kIs nx q 4 = true) : kJ 65 39 [l0, l1, l2] (.ref q :: st) (mi, ml, mr, nx) Q = kJ 65 42 [l0, l1, l2] (va_rf (mr q 0) :: st) (mi, ml, mr, nx) Q := kJ_next d65_39 (kg_getr 4 0 rfl h (by decide))
theorem d65_42 : decode (mB 65) 42 = .ok (.iload_n 1, 1) := by decide +kernel
theorem s65_42 {l0 l2 : Option Value} {st : List Value} {x : Int32} {m : kMem} {Q : Option Value → kMem → Prop} : kJ 65 42 [l0, some (.int x), l2] st m Q = kJ 65 43 [l0, some (.int x), l2] (.int x :: st) m Q := kJ_next d65_42 rfl
theorem d65_43 : decode (mB 65) 43 = .ok (.invokevirtual 163, 3) := by decide +kernel
theorem s65_43 {l0 l1 l2 : Option Value} {v0 : Int32} {v1 : Nat} {m : kMem} {Q : Option Value → kMem → Prop} (h : kIs m.2.2.2 v1 1 = true) : kJ 65 43 [l0, l1, l2] [.int v0, .ref v1] m Q = kJ 20 0 [some (.ref v1), some (.int v0), none] [] m (fun v m2 => kJ 65 46 [l0, l1, l2] (v.toList ++ []) m2 Q) := kJ_call d65_43 (kg_callv 20 1 rfl rfl rfl rfl (Nat.le_of_ble_eq_true rfl) (Nat.le_of_ble_eq_true rfl) (Nat.le_of_ble_eq_true rfl) h rfl)
theorem d65_46 : decode (mB 65) 46 = .ok (.aload_n 0, 1) := by decide +kernel
theorem s65_46 {l1 l2 : Option Value} {st : List Value} {x : Nat} {m : kMem} {Q : Option Value → kMem → Prop} : kJ 65 46 [some (.ref x), l1, l2] st m Q = kJ 65 47 [some (.ref x), l1, l2] (.ref x :: st) m Q := kJ_next d65_46 rfl
theorem d65_47 : decode (mB 65) 47 = .ok (.getfield 10, 3) := by decide +kernel
theorem s65_47 {l0 l1 l2 : Option Value} {st : List Value} {q : Nat} {mi : Nat → Nat → Int32} {ml : Nat → Nat → Int64} {mr : Nat → Nat → Option Nat} {nx : Nat} {Q : Option Value → kMem → Prop} (h : kIs nx q 4 = true) : kJ 65 47 [l0, l1, l2] (.ref q :: st) (mi, ml, mr, nx) Q = kJ 65 50 [l0, l1, l2] (va_rf (mr q 0) :: st) (mi, ml, mr, nx) Q := kJ_next d65_47 (kg_getr 4 0 rfl h (by decide))
theorem d65_50 : decode (mB 65) 50 = .ok (.invokevirtual 160, 3) := by decide +kernel
theorem s65_50 {l0 l1 l2 : Option Value} {v0 : Nat} {m : kMem} {Q : Option Value → kMem → Prop} (h : kIs m.2.2.2 v0 1 = true) : kJ 65 50 [l0, l1, l2] [.ref v0] m Q = kJ 18 0 [some (.ref v0)] [] m (fun v m2 => kJ 65 53 [l0, l1, l2] (v.toList ++ []) m2 Q) := kJ_call d65_50 (kg_callv 18 0 rfl rfl rfl rfl (Nat.le_of_ble_eq_true rfl) (Nat.le_of_ble_eq_true rfl) (Nat.le_of_ble_eq_true rfl) h rfl)
theorem d65_53 : decode (mB 65) 53 = .ok (.iload_n 2, 1) := by decide +kernel
theorem s65_53 {l0 l1 : Option Value} {st : List Value} {x : Int32} {m : kMem} {Q : Option Value → kMem → Prop} : kJ 65 53 [l0, l1, some (.int x)] st m Q = kJ 65 54 [l0, l1, some (.int x)] (.int x :: st) m Q := kJ_next d65_53 rfl
theorem d65_54 : decode (mB 65) 54 = .ok (.isub, 1) := by decide +kernel
theorem s65_54 {l0 l1 l2 : Option Value} {st : List Value} {a b : Int32} {m : kMem} {Q : Option Value → kMem → Prop} : kJ 65 54 [l0, l1, l2] (.int b :: .int a :: st) m Q = kJ 65 55 [l0, l1, l2] (.int (a - b) :: st) m Q := kJ_next d65_54 rfl
theorem d65_55 : decode (mB 65) 55 = .ok (.ireturn, 1) := by decide +kernel
theorem s65_55 {l0 l1 l2 : Option Value} {x : Int32} {m : kMem} {Q : Option Value → kMem → Prop} : kJ 65 55 [l0, l1, l2] [.int x] m Q = Q (some (.int x)) m := kJ_ret d65_55 rfl
theorem d66_0 : decode (mB 66) 0 = .ok (.iload_n 1, 1) := by decide +kernel
theorem s66_0 {l0 l2 : Option Value} {st : List Value} {x : Int32} {m : kMem} {Q : Option Value → kMem → Prop} : kJ 66 0 [l0, some (.int x), l2] st m Q = kJ 66 1 [l0, some (.int x), l2] (.int x :: st) m Q := kJ_next d66_0 rfl
theorem d66_1 : decode (mB 66) 1 = .ok (.iconst 0, 1) := by decide +kernel
theorem s66_1 {l0 l1 l2 : Option Value} {st : List Value} {m : kMem} {Q : Option Value → kMem → Prop} : kJ 66 1 [l0, l1, l2] st m Q = kJ 66 2 [l0, l1, l2] (.int (nI 0) :: st) m Q := kJ_next d66_1 rfl
theorem d66_2 : decode (mB 66) 2 = .ok (.bipush 60, 2) := by decide +kernel
theorem s66_2 {l0 l1 l2 : Option Value} {st : List Value} {m : kMem} {Q : Option Value → kMem → Prop} : kJ 66 2 [l0, l1, l2] st m Q = kJ 66 4 [l0, l1, l2] (.int (nI 60) :: st) m Q := kJ_next d66_2 rfl
theorem d66_4 : decode (mB 66) 4 = .ok (.invokestatic 55, 3) := by decide +kernel
theorem s66_4 {l0 l1 l2 : Option Value} {v0 : Int32} {v1 : Int32} {v2 : Int32} {m : kMem} {Q : Option Value → kMem → Prop} : kJ 66 4 [l0, l1, l2] [.int v0, .int v1, .int v2] m Q = kJ 90 0 [some (.int v2), some (.int v1), some (.int v0)] [] m (fun v m2 => kJ 66 7 [l0, l1, l2] (v.toList ++ []) m2 Q) := kJ_call d66_4 (kg_calls 90 3 rfl rfl (Nat.le_of_ble_eq_true rfl) (Nat.le_of_ble_eq_true rfl) (Nat.le_of_ble_eq_true rfl) (Nat.le_of_ble_eq_true rfl))
theorem d66_7 : decode (mB 66) 7 = .ok (.ifCond .eq 12, 3) := by decide +kernel
theorem s66_7 {l0 l1 l2 : Option Value} {st : List Value} {a : Int32} {m : kMem} {Q : Option Value → kMem → Prop} : kJ 66 7 [l0, l1, l2] (.int a :: st) m Q = (if a = 0 then kJ 66 19 [l0, l1, l2] st m Q else kJ 66 10 [l0, l1, l2] st m Q) := kJ_if d66_7 rfl (fun h => kJ_next d66_7 h) (fun h => kJ_next d66_7 h)
theorem d66_10 : decode (mB 66) 10 = .ok (.iload_n 2, 1) := by decide +kernel
theorem s66_10 {l0 l1 : Option Value} {st : List Value} {x : Int32} {m : kMem} {Q : Option Value → kMem → Prop} : kJ 66 10 [l0, l1, some (.int x)] st m Q = kJ 66 11 [l0, l1, some (.int x)] (.int x :: st) m Q := kJ_next d66_10 rfl
theorem d66_11 : decode (mB 66) 11 = .ok (.iconst 0, 1) := by decide +kernel
theorem s66_11 {l0 l1 l2 : Option Value} {st : List Value} {m : kMem} {Q : Option Value → kMem → Prop} : kJ 66 11 [l0, l1, l2] st m Q = kJ 66 12 [l0, l1, l2] (.int (nI 0) :: st) m Q := kJ_next d66_11 rfl
theorem d66_12 : decode (mB 66) 12 = .ok (.iconst 3, 1) := by decide +kernel
theorem s66_12 {l0 l1 l2 : Option Value} {st : List Value} {m : kMem} {Q : Option Value → kMem → Prop} : kJ 66 12 [l0, l1, l2] st m Q = kJ 66 13 [l0, l1, l2] (.int (nI 3) :: st) m Q := kJ_next d66_12 rfl
theorem d66_13 : decode (mB 66) 13 = .ok (.invokestatic 55, 3) := by decide +kernel
theorem s66_13 {l0 l1 l2 : Option Value} {v0 : Int32} {v1 : Int32} {v2 : Int32} {m : kMem} {Q : Option Value → kMem → Prop} : kJ 66 13 [l0, l1, l2] [.int v0, .int v1, .int v2] m Q = kJ 90 0 [some (.int v2), some (.int v1), some (.int v0)] [] m (fun v m2 => kJ 66 16 [l0, l1, l2] (v.toList ++ []) m2 Q) := kJ_call d66_13 (kg_calls 90 3 rfl rfl (Nat.le_of_ble_eq_true rfl) (Nat.le_of_ble_eq_true rfl) (Nat.le_of_ble_eq_true rfl) (Nat.le_of_ble_eq_true rfl))
theorem d66_16 : decode (mB 66) 16 = .ok (.ifCond .ne 5, 3) := by decide +kernel
theorem s66_16 {l0 l1 l2 : Option Value} {st : List Value} {a : Int32} {m : kMem} {Q : Option Value → kMem → Prop} : kJ 66 16 [l0, l1, l2] (.int a :: st) m Q = (if a = 0 then kJ 66 19 [l0, l1, l2] st m Q else kJ 66 21 [l0, l1, l2] st m Q) := kJ_if d66_16 rfl (fun h => kJ_next d66_16 h) (fun h => kJ_next d66_16 h)
theorem d66_19 : decode (mB 66) 19 = .ok (.iconst (-1), 1) := by decide +kernel
theorem s66_19 {l0 l1 l2 : Option Value} {st : List Value} {m : kMem} {Q : Option Value → kMem → Prop} : kJ 66 19 [l0, l1, l2] st m Q = kJ 66 20 [l0, l1, l2] (.int (-1) :: st) m Q := kJ_next d66_19 rfl
theorem d66_20 : decode (mB 66) 20 = .ok (.ireturn, 1) := by decide +kernel
theorem s66_20 {l0 l1 l2 : Option Value} {x : Int32} {m : kMem} {Q : Option Value → kMem → Prop} : kJ 66 20 [l0, l1, l2] [.int x] m Q = Q (some (.int x)) m := kJ_ret d66_20 rfl
theorem d66_21 : decode (mB 66) 21 = .ok (.aload_n 0, 1) := by decide +kernel
theorem s66_21 {l1 l2 : Option Value} {st : List Value} {x : Nat} {m : kMem} {Q : Option Value → kMem → Prop} : kJ 66 21 [some (.ref x), l1, l2] st m Q = kJ 66 22 [some (.ref x), l1, l2] (.ref x :: st) m Q := kJ_next d66_21 rfl
theorem d66_22 : decode (mB 66) 22 = .ok (.getfield 16, 3) := by decide +kernel
theorem s66_22 {l0 l1 l2 : Option Value} {st : List Value} {q : Nat} {mi : Nat → Nat → Int32} {ml : Nat → Nat → Int64} {mr : Nat → Nat → Option Nat} {nx : Nat} {Q : Option Value → kMem → Prop} (h : kIs nx q 4 = true) : kJ 66 22 [l0, l1, l2] (.ref q :: st) (mi, ml, mr, nx) Q = kJ 66 25 [l0, l1, l2] (va_rf (mr q 1) :: st) (mi, ml, mr, nx) Q := kJ_next d66_22 (kg_getr 4 1 rfl h (by decide))
theorem d66_25 : decode (mB 66) 25 = .ok (.aload_n 0, 1) := by decide +kernel
theorem s66_25 {l1 l2 : Option Value} {st : List Value} {x : Nat} {m : kMem} {Q : Option Value → kMem → Prop} : kJ 66 25 [some (.ref x), l1, l2] st m Q = kJ 66 26 [some (.ref x), l1, l2] (.ref x :: st) m Q := kJ_next d66_25 rfl
theorem d66_26 : decode (mB 66) 26 = .ok (.getfield 10, 3) := by decide +kernel
theorem s66_26 {l0 l1 l2 : Option Value} {st : List Value} {q : Nat} {mi : Nat → Nat → Int32} {ml : Nat → Nat → Int64} {mr : Nat → Nat → Option Nat} {nx : Nat} {Q : Option Value → kMem → Prop} (h : kIs nx q 4 = true) : kJ 66 26 [l0, l1, l2] (.ref q :: st) (mi, ml, mr, nx) Q = kJ 66 29 [l0, l1, l2] (va_rf (mr q 0) :: st) (mi, ml, mr, nx) Q := kJ_next d66_26 (kg_getr 4 0 rfl h (by decide))
theorem d66_29 : decode (mB 66) 29 = .ok (.invokevirtual 81, 3) := by decide +kernel
theorem s66_29 {l0 l1 l2 : Option Value} {v0 : Nat} {v1 : Nat} {m : kMem} {Q : Option Value → kMem → Prop} (h : kIs m.2.2.2 v1 1 = true) : kJ 66 29 [l0, l1, l2] [.ref v0, .ref v1] m Q = kJ 6 0 [some (.ref v1), some (.ref v0)] [] m (fun v m2 => kJ 66 32 [l0, l1, l2] (v.toList ++ []) m2 Q) := kJ_call d66_29 (kg_callv 6 1 rfl rfl rfl rfl (Nat.le_of_ble_eq_true rfl) (Nat.le_of_ble_eq_true rfl) (Nat.le_of_ble_eq_true rfl) h rfl)
theorem d66_32 : decode (mB 66) 32 = .ok (.iload_n 2, 1) := by decide +kernel
theorem s66_32 {l0 l1 : Option Value} {st : List Value} {x : Int32} {m : kMem} {Q : Option Value → kMem → Prop} : kJ 66 32 [l0, l1, some (.int x)] st m Q = kJ 66 33 [l0, l1, some (.int x)] (.int x :: st) m Q := kJ_next d66_32 rfl
theorem d66_33 : decode (mB 66) 33 = .ok (.iconst 3, 1) := by decide +kernel
theorem s66_33 {l0 l1 l2 : Option Value} {st : List Value} {m : kMem} {Q : Option Value → kMem → Prop} : kJ 66 33 [l0, l1, l2] st m Q = kJ 66 34 [l0, l1, l2] (.int (nI 3) :: st) m Q := kJ_next d66_33 rfl
theorem d66_34 : decode (mB 66) 34 = .ok (.if_icmp .ne 12, 3) := by decide +kernel
theorem s66_34 {l0 l1 l2 : Option Value} {st : List Value} {a b : Int32} {m : kMem} {Q : Option Value → kMem → Prop} : kJ 66 34 [l0, l1, l2] (.int b :: .int a :: st) m Q = (if a = b then kJ 66 37 [l0, l1, l2] st m Q else kJ 66 46 [l0, l1, l2] st m Q) := kJ_if d66_34 rfl (fun h => kJ_next d66_34 h) (fun h => kJ_next d66_34 h)
theorem d66_37 : decode (mB 66) 37 = .ok (.aload_n 0, 1) := by decide +kernel
theorem s66_37 {l1 l2 : Option Value} {st : List Value} {x : Nat} {m : kMem} {Q : Option Value → kMem → Prop} : kJ 66 37 [some (.ref x), l1, l2] st m Q = kJ 66 38 [some (.ref x), l1, l2] (.ref x :: st) m Q := kJ_next d66_37 rfl
theorem d66_38 : decode (mB 66) 38 = .ok (.getfield 16, 3) := by decide +kernel
theorem s66_38 {l0 l1 l2 : Option Value} {st : List Value} {q : Nat} {mi : Nat → Nat → Int32} {ml : Nat → Nat → Int64} {mr : Nat → Nat → Option Nat} {nx : Nat} {Q : Option Value → kMem → Prop} (h : kIs nx q 4 = true) : kJ 66 38 [l0, l1, l2] (.ref q :: st) (mi, ml, mr, nx) Q = kJ 66 41 [l0, l1, l2] (va_rf (mr q 1) :: st) (mi, ml, mr, nx) Q := kJ_next d66_38 (kg_getr 4 1 rfl h (by decide))
theorem d66_41 : decode (mB 66) 41 = .ok (.iload_n 1, 1) := by decide +kernel
theorem s66_41 {l0 l2 : Option Value} {st : List Value} {x : Int32} {m : kMem} {Q : Option Value → kMem → Prop} : kJ 66 41 [l0, some (.int x), l2] st m Q = kJ 66 42 [l0, some (.int x), l2] (.int x :: st) m Q := kJ_next d66_41 rfl
theorem d66_42 : decode (mB 66) 42 = .ok (.invokevirtual 167, 3) := by decide +kernel
theorem s66_42 {l0 l1 l2 : Option Value} {v0 : Int32} {v1 : Nat} {m : kMem} {Q : Option Value → kMem → Prop} (h : kIs m.2.2.2 v1 1 = true) : kJ 66 42 [l0, l1, l2] [.int v0, .ref v1] m Q = kJ 22 0 [some (.ref v1), some (.int v0), none, none] [] m (fun v m2 => kJ 66 45 [l0, l1, l2] (v.toList ++ []) m2 Q) := kJ_call d66_42 (kg_callv 22 1 rfl rfl rfl rfl (Nat.le_of_ble_eq_true rfl) (Nat.le_of_ble_eq_true rfl) (Nat.le_of_ble_eq_true rfl) h rfl)
theorem d66_45 : decode (mB 66) 45 = .ok (.ireturn, 1) := by decide +kernel
theorem s66_45 {l0 l1 l2 : Option Value} {x : Int32} {m : kMem} {Q : Option Value → kMem → Prop} : kJ 66 45 [l0, l1, l2] [.int x] m Q = Q (some (.int x)) m := kJ_ret d66_45 rfl
theorem d66_46 : decode (mB 66) 46 = .ok (.aload_n 0, 1) := by decide +kernel
theorem s66_46 {l1 l2 : Option Value} {st : List Value} {x : Nat} {m : kMem} {Q : Option Value → kMem → Prop} : kJ 66 46 [some (.ref x), l1, l2] st m Q = kJ 66 47 [some (.ref x), l1, l2] (.ref x :: st) m Q := kJ_next d66_46 rfl
theorem d66_47 : decode (mB 66) 47 = .ok (.getfield 16, 3) := by decide +kernel
theorem s66_47 {l0 l1 l2 : Option Value} {st : List Value} {q : Nat} {mi : Nat → Nat → Int32} {ml : Nat → Nat → Int64} {mr : Nat → Nat → Option Nat} {nx : Nat} {Q : Option Value → kMem → Prop} (h : kIs nx q 4 = true) : kJ 66 47 [l0, l1, l2] (.ref q :: st) (mi, ml, mr, nx) Q = kJ 66 50 [l0, l1, l2] (va_rf (mr q 1) :: st) (mi, ml, mr, nx) Q := kJ_next d66_47 (kg_getr 4 1 rfl h (by decide))
theorem d66_50 : decode (mB 66) 50 = .ok (.iload_n 1, 1) := by decide +kernel
theorem s66_50 {l0 l2 : Option Value} {st : List Value} {x : Int32} {m : kMem} {Q : Option Value → kMem → Prop} : kJ 66 50 [l0, some (.int x), l2] st m Q = kJ 66 51 [l0, some (.int x), l2] (.int x :: st) m Q := kJ_next d66_50 rfl
theorem d66_51 : decode (mB 66) 51 = .ok (.invokevirtual 163, 3) := by decide +kernel
theorem s66_51 {l0 l1 l2 : Option Value} {v0 : Int32} {v1 : Nat} {m : kMem} {Q : Option Value → kMem → Prop} (h : kIs m.2.2.2 v1 1 = true) : kJ 66 51 [l0, l1, l2] [.int v0, .ref v1] m Q = kJ 20 0 [some (.ref v1), some (.int v0), none] [] m (fun v m2 => kJ 66 54 [l0, l1, l2] (v.toList ++ []) m2 Q) := kJ_call d66_51 (kg_callv 20 1 rfl rfl rfl rfl (Nat.le_of_ble_eq_true rfl) (Nat.le_of_ble_eq_true rfl) (Nat.le_of_ble_eq_true rfl) h rfl)
theorem d66_54 : decode (mB 66) 54 = .ok (.iload_n 2, 1) := by decide +kernel
theorem s66_54 {l0 l1 : Option Value} {st : List Value} {x : Int32} {m : kMem} {Q : Option Value → kMem → Prop} : kJ 66 54 [l0, l1, some (.int x)] st m Q = kJ 66 55 [l0, l1, some (.int x)] (.int x :: st) m Q := kJ_next d66_54 rfl
theorem d66_55 : decode (mB 66) 55 = .ok (.ifCond .ne 11, 3) := by decide +kernel
theorem s66_55 {l0 l1 l2 : Option Value} {st : List Value} {a : Int32} {m : kMem} {Q : Option Value → kMem → Prop} : kJ 66 55 [l0, l1, l2] (.int a :: st) m Q = (if a = 0 then kJ 66 58 [l0, l1, l2] st m Q else kJ 66 66 [l0, l1, l2] st m Q) := kJ_if d66_55 rfl (fun h => kJ_next d66_55 h) (fun h => kJ_next d66_55 h)
theorem d66_58 : decode (mB 66) 58 = .ok (.aload_n 0, 1) := by decide +kernel
theorem s66_58 {l1 l2 : Option Value} {st : List Value} {x : Nat} {m : kMem} {Q : Option Value → kMem → Prop} : kJ 66 58 [some (.ref x), l1, l2] st m Q = kJ 66 59 [some (.ref x), l1, l2] (.ref x :: st) m Q := kJ_next d66_58 rfl
theorem d66_59 : decode (mB 66) 59 = .ok (.getfield 16, 3) := by decide +kernel
theorem s66_59 {l0 l1 l2 : Option Value} {st : List Value} {q : Nat} {mi : Nat → Nat → Int32} {ml : Nat → Nat → Int64} {mr : Nat → Nat → Option Nat} {nx : Nat} {Q : Option Value → kMem → Prop} (h : kIs nx q 4 = true) : kJ 66 59 [l0, l1, l2] (.ref q :: st) (mi, ml, mr, nx) Q = kJ 66 62 [l0, l1, l2] (va_rf (mr q 1) :: st) (mi, ml, mr, nx) Q := kJ_next d66_59 (kg_getr 4 1 rfl h (by decide))
theorem d66_62 : decode (mB 66) 62 = .ok (.invokevirtual 100, 3) := by decide +kernel
theorem s66_62 {l0 l1 l2 : Option Value} {v0 : Nat} {m : kMem} {Q : Option Value → kMem → Prop} (h : kIs m.2.2.2 v0 1 = true) : kJ 66 62 [l0, l1, l2] [.ref v0] m Q = kJ 15 0 [some (.ref v0)] [] m (fun v m2 => kJ 66 65 [l0, l1, l2] (v.toList ++ []) m2 Q) := kJ_call d66_62 (kg_callv 15 0 rfl rfl rfl rfl (Nat.le_of_ble_eq_true rfl) (Nat.le_of_ble_eq_true rfl) (Nat.le_of_ble_eq_true rfl) h rfl)
theorem d66_65 : decode (mB 66) 65 = .ok (.ireturn, 1) := by decide +kernel
theorem s66_65 {l0 l1 l2 : Option Value} {x : Int32} {m : kMem} {Q : Option Value → kMem → Prop} : kJ 66 65 [l0, l1, l2] [.int x] m Q = Q (some (.int x)) m := kJ_ret d66_65 rfl
theorem d66_66 : decode (mB 66) 66 = .ok (.aload_n 0, 1) := by decide +kernel
theorem s66_66 {l1 l2 : Option Value} {st : List Value} {x : Nat} {m : kMem} {Q : Option Value → kMem → Prop} : kJ 66 66 [some (.ref x), l1, l2] st m Q = kJ 66 67 [some (.ref x), l1, l2] (.ref x :: st) m Q := kJ_next d66_66 rfl
theorem d66_67 : decode (mB 66) 67 = .ok (.getfield 16, 3) := by decide +kernel
theorem s66_67 {l0 l1 l2 : Option Value} {st : List Value} {q : Nat} {mi : Nat → Nat → Int32} {ml : Nat → Nat → Int64} {mr : Nat → Nat → Option Nat} {nx : Nat} {Q : Option Value → kMem → Prop} (h : kIs nx q 4 = true) : kJ 66 67 [l0, l1, l2] (.ref q :: st) (mi, ml, mr, nx) Q = kJ 66 70 [l0, l1, l2] (va_rf (mr q 1) :: st) (mi, ml, mr, nx) Q := kJ_next d66_67 (kg_getr 4 1 rfl h (by decide))
theorem d66_70 : decode (mB 66) 70 = .ok (.iload_n 2, 1) := by decide +kernel
theorem s66_70 {l0 l1 : Option Value} {st : List Value} {x : Int32} {m : kMem} {Q : Option Value → kMem → Prop} : kJ 66 70 [l0, l1, some (.int x)] st m Q = kJ 66 71 [l0, l1, some (.int x)] (.int x :: st) m Q := kJ_next d66_70 rfl
theorem d66_71 : decode (mB 66) 71 = .ok (.iconst 1, 1) := by decide +kernel
theorem s66_71 {l0 l1 l2 : Option Value} {st : List Value} {m : kMem} {Q : Option Value → kMem → Prop} : kJ 66 71 [l0, l1, l2] st m Q = kJ 66 72 [l0, l1, l2] (.int (nI 1) :: st) m Q := kJ_next d66_71 rfl
theorem d66_72 : decode (mB 66) 72 = .ok (.if_icmp .ne 7, 3) := by decide +kernel
theorem s66_72 {l0 l1 l2 : Option Value} {st : List Value} {a b : Int32} {m : kMem} {Q : Option Value → kMem → Prop} : kJ 66 72 [l0, l1, l2] (.int b :: .int a :: st) m Q = (if a = b then kJ 66 75 [l0, l1, l2] st m Q else kJ 66 79 [l0, l1, l2] st m Q) := kJ_if d66_72 rfl (fun h => kJ_next d66_72 h) (fun h => kJ_next d66_72 h)
theorem d66_75 : decode (mB 66) 75 = .ok (.iconst 2, 1) := by decide +kernel
theorem s66_75 {l0 l1 l2 : Option Value} {st : List Value} {m : kMem} {Q : Option Value → kMem → Prop} : kJ 66 75 [l0, l1, l2] st m Q = kJ 66 76 [l0, l1, l2] (.int (nI 2) :: st) m Q := kJ_next d66_75 rfl
theorem d66_76 : decode (mB 66) 76 = .ok (.goto 4, 3) := by decide +kernel
theorem s66_76 {l0 l1 l2 : Option Value} {st : List Value} {m : kMem} {Q : Option Value → kMem → Prop} : kJ 66 76 [l0, l1, l2] st m Q = kJ 66 80 [l0, l1, l2] st m Q := kJ_next d66_76 rfl
theorem d66_79 : decode (mB 66) 79 = .ok (.iconst 3, 1) := by decide +kernel
theorem s66_79 {l0 l1 l2 : Option Value} {st : List Value} {m : kMem} {Q : Option Value → kMem → Prop} : kJ 66 79 [l0, l1, l2] st m Q = kJ 66 80 [l0, l1, l2] (.int (nI 3) :: st) m Q := kJ_next d66_79 rfl
theorem d66_80 : decode (mB 66) 80 = .ok (.invokevirtual 104, 3) := by decide +kernel
theorem s66_80 {l0 l1 l2 : Option Value} {v0 : Int32} {v1 : Nat} {m : kMem} {Q : Option Value → kMem → Prop} (h : kIs m.2.2.2 v1 1 = true) : kJ 66 80 [l0, l1, l2] [.int v0, .ref v1] m Q = kJ 16 0 [some (.ref v1), some (.int v0), none, none] [] m (fun v m2 => kJ 66 83 [l0, l1, l2] (v.toList ++ []) m2 Q) := kJ_call d66_80 (kg_callv 16 1 rfl rfl rfl rfl (Nat.le_of_ble_eq_true rfl) (Nat.le_of_ble_eq_true rfl) (Nat.le_of_ble_eq_true rfl) h rfl)
theorem d66_83 : decode (mB 66) 83 = .ok (.ireturn, 1) := by decide +kernel
theorem s66_83 {l0 l1 l2 : Option Value} {x : Int32} {m : kMem} {Q : Option Value → kMem → Prop} : kJ 66 83 [l0, l1, l2] [.int x] m Q = Q (some (.int x)) m := kJ_ret d66_83 rfl
theorem d67_0 : decode (mB 67) 0 = .ok (.aload_n 0, 1) := by decide +kernel
theorem s67_0 {l1 l2 : Option Value} {st : List Value} {x : Nat} {m : kMem} {Q : Option Value → kMem → Prop} : kJ 67 0 [some (.ref x), l1, l2] st m Q = kJ 67 1 [some (.ref x), l1, l2] (.ref x :: st) m Q := kJ_next d67_0 rfl
theorem d67_1 : decode (mB 67) 1 = .ok (.getfield 10, 3) := by decide +kernel
theorem s67_1 {l0 l1 l2 : Option Value} {st : List Value} {q : Nat} {mi : Nat → Nat → Int32} {ml : Nat → Nat → Int64} {mr : Nat → Nat → Option Nat} {nx : Nat} {Q : Option Value → kMem → Prop} (h : kIs nx q 4 = true) : kJ 67 1 [l0, l1, l2] (.ref q :: st) (mi, ml, mr, nx) Q = kJ 67 4 [l0, l1, l2] (va_rf (mr q 0) :: st) (mi, ml, mr, nx) Q := kJ_next d67_1 (kg_getr 4 0 rfl h (by decide))
theorem d67_4 : decode (mB 67) 4 = .ok (.iload_n 1, 1) := by decide +kernel
theorem s67_4 {l0 l2 : Option Value} {st : List Value} {x : Int32} {m : kMem} {Q : Option Value → kMem → Prop} : kJ 67 4 [l0, some (.int x), l2] st m Q = kJ 67 5 [l0, some (.int x), l2] (.int x :: st) m Q := kJ_next d67_4 rfl
theorem d67_5 : decode (mB 67) 5 = .ok (.invokevirtual 108, 3) := by decide +kernel
theorem s67_5 {l0 l1 l2 : Option Value} {v0 : Int32} {v1 : Nat} {m : kMem} {Q : Option Value → kMem → Prop} (h : kIs m.2.2.2 v1 1 = true) : kJ 67 5 [l0, l1, l2] [.int v0, .ref v1] m Q = kJ 7 0 [some (.ref v1), some (.int v0)] [] m (fun v m2 => kJ 67 8 [l0, l1, l2] (v.toList ++ []) m2 Q) := kJ_call d67_5 (kg_callv 7 1 rfl rfl rfl rfl (Nat.le_of_ble_eq_true rfl) (Nat.le_of_ble_eq_true rfl) (Nat.le_of_ble_eq_true rfl) h rfl)
theorem d67_8 : decode (mB 67) 8 = .ok (.ifCond .eq 13, 3) := by decide +kernel
theorem s67_8 {l0 l1 l2 : Option Value} {st : List Value} {a : Int32} {m : kMem} {Q : Option Value → kMem → Prop} : kJ 67 8 [l0, l1, l2] (.int a :: st) m Q = (if a = 0 then kJ 67 21 [l0, l1, l2] st m Q else kJ 67 11 [l0, l1, l2] st m Q) := kJ_if d67_8 rfl (fun h => kJ_next d67_8 h) (fun h => kJ_next d67_8 h)
theorem d67_11 : decode (mB 67) 11 = .ok (.iload_n 2, 1) := by decide +kernel
theorem s67_11 {l0 l1 : Option Value} {st : List Value} {x : Int32} {m : kMem} {Q : Option Value → kMem → Prop} : kJ 67 11 [l0, l1, some (.int x)] st m Q = kJ 67 12 [l0, l1, some (.int x)] (.int x :: st) m Q := kJ_next d67_11 rfl
theorem d67_12 : decode (mB 67) 12 = .ok (.iconst 0, 1) := by decide +kernel
theorem s67_12 {l0 l1 l2 : Option Value} {st : List Value} {m : kMem} {Q : Option Value → kMem → Prop} : kJ 67 12 [l0, l1, l2] st m Q = kJ 67 13 [l0, l1, l2] (.int (nI 0) :: st) m Q := kJ_next d67_12 rfl
theorem d67_13 : decode (mB 67) 13 = .ok (.bipush 60, 2) := by decide +kernel
theorem s67_13 {l0 l1 l2 : Option Value} {st : List Value} {m : kMem} {Q : Option Value → kMem → Prop} : kJ 67 13 [l0, l1, l2] st m Q = kJ 67 15 [l0, l1, l2] (.int (nI 60) :: st) m Q := kJ_next d67_13 rfl
theorem d67_15 : decode (mB 67) 15 = .ok (.invokestatic 55, 3) := by decide +kernel
theorem s67_15 {l0 l1 l2 : Option Value} {v0 : Int32} {v1 : Int32} {v2 : Int32} {m : kMem} {Q : Option Value → kMem → Prop} : kJ 67 15 [l0, l1, l2] [.int v0, .int v1, .int v2] m Q = kJ 90 0 [some (.int v2), some (.int v1), some (.int v0)] [] m (fun v m2 => kJ 67 18 [l0, l1, l2] (v.toList ++ []) m2 Q) := kJ_call d67_15 (kg_calls 90 3 rfl rfl (Nat.le_of_ble_eq_true rfl) (Nat.le_of_ble_eq_true rfl) (Nat.le_of_ble_eq_true rfl) (Nat.le_of_ble_eq_true rfl))
theorem d67_18 : decode (mB 67) 18 = .ok (.ifCond .ne 5, 3) := by decide +kernel
theorem s67_18 {l0 l1 l2 : Option Value} {st : List Value} {a : Int32} {m : kMem} {Q : Option Value → kMem → Prop} : kJ 67 18 [l0, l1, l2] (.int a :: st) m Q = (if a = 0 then kJ 67 21 [l0, l1, l2] st m Q else kJ 67 23 [l0, l1, l2] st m Q) := kJ_if d67_18 rfl (fun h => kJ_next d67_18 h) (fun h => kJ_next d67_18 h)
theorem d67_21 : decode (mB 67) 21 = .ok (.iconst (-1), 1) := by decide +kernel
theorem s67_21 {l0 l1 l2 : Option Value} {st : List Value} {m : kMem} {Q : Option Value → kMem → Prop} : kJ 67 21 [l0, l1, l2] st m Q = kJ 67 22 [l0, l1, l2] (.int (-1) :: st) m Q := kJ_next d67_21 rfl
theorem d67_22 : decode (mB 67) 22 = .ok (.ireturn, 1) := by decide +kernel
theorem s67_22 {l0 l1 l2 : Option Value} {x : Int32} {m : kMem} {Q : Option Value → kMem → Prop} : kJ 67 22 [l0, l1, l2] [.int x] m Q = Q (some (.int x)) m := kJ_ret d67_22 rfl
theorem d67_23 : decode (mB 67) 23 = .ok (.aload_n 0, 1) := by decide +kernel
theorem s67_23 {l1 l2 : Option Value} {st : List Value} {x : Nat} {m : kMem} {Q : Option Value → kMem → Prop} : kJ 67 23 [some (.ref x), l1, l2] st m Q = kJ 67 24 [some (.ref x), l1, l2] (.ref x :: st) m Q := kJ_next d67_23 rfl
theorem d67_24 : decode (mB 67) 24 = .ok (.getfield 16, 3) := by decide +kernel
theorem s67_24 {l0 l1 l2 : Option Value} {st : List Value} {q : Nat} {mi : Nat → Nat → Int32} {ml : Nat → Nat → Int64} {mr : Nat → Nat → Option Nat} {nx : Nat} {Q : Option Value → kMem → Prop} (h : kIs nx q 4 = true) : kJ 67 24 [l0, l1, l2] (.ref q :: st) (mi, ml, mr, nx) Q = kJ 67 27 [l0, l1, l2] (va_rf (mr q 1) :: st) (mi, ml, mr, nx) Q := kJ_next d67_24 (kg_getr 4 1 rfl h (by decide))
theorem d67_27 : decode (mB 67) 27 = .ok (.aload_n 0, 1) := by decide +kernel
theorem s67_27 {l1 l2 : Option Value} {st : List Value} {x : Nat} {m : kMem} {Q : Option Value → kMem → Prop} : kJ 67 27 [some (.ref x), l1, l2] st m Q = kJ 67 28 [some (.ref x), l1, l2] (.ref x :: st) m Q := kJ_next d67_27 rfl
theorem d67_28 : decode (mB 67) 28 = .ok (.getfield 10, 3) := by decide +kernel
theorem s67_28 {l0 l1 l2 : Option Value} {st : List Value} {q : Nat} {mi : Nat → Nat → Int32} {ml : Nat → Nat → Int64} {mr : Nat → Nat → Option Nat} {nx : Nat} {Q : Option Value → kMem → Prop} (h : kIs nx q 4 = true) : kJ 67 28 [l0, l1, l2] (.ref q :: st) (mi, ml, mr, nx) Q = kJ 67 31 [l0, l1, l2] (va_rf (mr q 0) :: st) (mi, ml, mr, nx) Q := kJ_next d67_28 (kg_getr 4 0 rfl h (by decide))
theorem d67_31 : decode (mB 67) 31 = .ok (.invokevirtual 81, 3) := by decide +kernel
theorem s67_31 {l0 l1 l2 : Option Value} {v0 : Nat} {v1 : Nat} {m : kMem} {Q : Option Value → kMem → Prop} (h : kIs m.2.2.2 v1 1 = true) : kJ 67 31 [l0, l1, l2] [.ref v0, .ref v1] m Q = kJ 6 0 [some (.ref v1), some (.ref v0)] [] m (fun v m2 => kJ 67 34 [l0, l1, l2] (v.toList ++ []) m2 Q) := kJ_call d67_31 (kg_callv 6 1 rfl rfl rfl rfl (Nat.le_of_ble_eq_true rfl) (Nat.le_of_ble_eq_true rfl) (Nat.le_of_ble_eq_true rfl) h rfl)
theorem d67_34 : decode (mB 67) 34 = .ok (.aload_n 0, 1) := by decide +kernel
theorem s67_34 {l1 l2 : Option Value} {st : List Value} {x : Nat} {m : kMem} {Q : Option Value → kMem → Prop} : kJ 67 34 [some (.ref x), l1, l2] st m Q = kJ 67 35 [some (.ref x), l1, l2] (.ref x :: st) m Q := kJ_next d67_34 rfl
theorem d67_35 : decode (mB 67) 35 = .ok (.getfield 16, 3) := by decide +kernel
theorem s67_35 {l0 l1 l2 : Option Value} {st : List Value} {q : Nat} {mi : Nat → Nat → Int32} {ml : Nat → Nat → Int64} {mr : Nat → Nat → Option Nat} {nx : Nat} {Q : Option Value → kMem → Prop} (h : kIs nx q 4 = true) : kJ 67 35 [l0, l1, l2] (.ref q :: st) (mi, ml, mr, nx) Q = kJ 67 38 [l0, l1, l2] (va_rf (mr q 1) :: st) (mi, ml, mr, nx) Q := kJ_next d67_35 (kg_getr 4 1 rfl h (by decide))
theorem d67_38 : decode (mB 67) 38 = .ok (.iload_n 2, 1) := by decide +kernel
theorem s67_38 {l0 l1 : Option Value} {st : List Value} {x : Int32} {m : kMem} {Q : Option Value → kMem → Prop} : kJ 67 38 [l0, l1, some (.int x)] st m Q = kJ 67 39 [l0, l1, some (.int x)] (.int x :: st) m Q := kJ_next d67_38 rfl
theorem d67_39 : decode (mB 67) 39 = .ok (.invokevirtual 163, 3) := by decide +kernel
theorem s67_39 {l0 l1 l2 : Option Value} {v0 : Int32} {v1 : Nat} {m : kMem} {Q : Option Value → kMem → Prop} (h : kIs m.2.2.2 v1 1 = true) : kJ 67 39 [l0, l1, l2] [.int v0, .ref v1] m Q = kJ 20 0 [some (.ref v1), some (.int v0), none] [] m (fun v m2 => kJ 67 42 [l0, l1, l2] (v.toList ++ []) m2 Q) := kJ_call d67_39 (kg_callv 20 1 rfl rfl rfl rfl (Nat.le_of_ble_eq_true rfl) (Nat.le_of_ble_eq_true rfl) (Nat.le_of_ble_eq_true rfl) h rfl)
theorem d67_42 : decode (mB 67) 42 = .ok (.aload_n 0, 1) := by decide +kernel
theorem s67_42 {l1 l2 : Option Value} {st : List Value} {x : Nat} {m : kMem} {Q : Option Value → kMem → Prop} : kJ 67 42 [some (.ref x), l1, l2] st m Q = kJ 67 43 [some (.ref x), l1, l2] (.ref x :: st) m Q := kJ_next d67_42 rfl
theorem d67_43 : decode (mB 67) 43 = .ok (.getfield 16, 3) := by decide +kernel
theorem s67_43 {l0 l1 l2 : Option Value} {st : List Value} {q : Nat} {mi : Nat → Nat → Int32} {ml : Nat → Nat → Int64} {mr : Nat → Nat → Option Nat} {nx : Nat} {Q : Option Value → kMem → Prop} (h : kIs nx q 4 = true) : kJ 67 43 [l0, l1, l2] (.ref q :: st) (mi, ml, mr, nx) Q = kJ 67 46 [l0, l1, l2] (va_rf (mr q 1) :: st) (mi, ml, mr, nx) Q := kJ_next d67_43 (kg_getr 4 1 rfl h (by decide))
theorem d67_46 : decode (mB 67) 46 = .ok (.getfield 118, 3) := by decide +kernel
theorem s67_46 {l0 l1 l2 : Option Value} {st : List Value} {q : Nat} {mi : Nat → Nat → Int32} {ml : Nat → Nat → Int64} {mr : Nat → Nat → Option Nat} {nx : Nat} {Q : Option Value → kMem → Prop} (h : kIs nx q 1 = true) : kJ 67 46 [l0, l1, l2] (.ref q :: st) (mi, ml, mr, nx) Q = kJ 67 49 [l0, l1, l2] (va_rf (mr q 3) :: st) (mi, ml, mr, nx) Q := kJ_next d67_46 (kg_getr 1 3 rfl h (by decide))
theorem d67_49 : decode (mB 67) 49 = .ok (.iload_n 1, 1) := by decide +kernel
theorem s67_49 {l0 l2 : Option Value} {st : List Value} {x : Int32} {m : kMem} {Q : Option Value → kMem → Prop} : kJ 67 49 [l0, some (.int x), l2] st m Q = kJ 67 50 [l0, some (.int x), l2] (.int x :: st) m Q := kJ_next d67_49 rfl
theorem d67_50 : decode (mB 67) 50 = .ok (.iaload, 1) := by decide +kernel
theorem s67_50 {l0 l1 l2 : Option Value} {st : List Value} {q : Nat} {i : Int32} {mi : Nat → Nat → Int32} {ml : Nat → Nat → Int64} {mr : Nat → Nat → Option Nat} {nx : Nat} {Q : Option Value → kMem → Prop} (h : kIs nx q 10 = true) : kJ 67 50 [l0, l1, l2] (.int i :: .ref q :: st) (mi, ml, mr, nx) Q = (vp_in i (kAl q) ∧ kJ 67 51 [l0, l1, l2] (.int (mi q i.toNatClampNeg) :: st) (mi, ml, mr, nx) Q) := kg_aldJ d67_50 rfl (kAr_of h)
theorem d67_51 : decode (mB 67) 51 = .ok (.ireturn, 1) := by decide +kernel
theorem s67_51 {l0 l1 l2 : Option Value} {x : Int32} {m : kMem} {Q : Option Value → kMem → Prop} : kJ 67 51 [l0, l1, l2] [.int x] m Q = Q (some (.int x)) m := kJ_ret d67_51 rfl
theorem d68_0 : decode (mB 68) 0 = .ok (.aload_n 0, 1) := by decide +kernel
theorem s68_0 {l1 l2 : Option Value} {st : List Value} {x : Nat} {m : kMem} {Q : Option Value → kMem → Prop} : kJ 68 0 [some (.ref x), l1, l2] st m Q = kJ 68 1 [some (.ref x), l1, l2] (.ref x :: st) m Q := kJ_next d68_0 rfl
theorem d68_1 : decode (mB 68) 1 = .ok (.getfield 10, 3) := by decide +kernel
theorem s68_1 {l0 l1 l2 : Option Value} {st : List Value} {q : Nat} {mi : Nat → Nat → Int32} {ml : Nat → Nat → Int64} {mr : Nat → Nat → Option Nat} {nx : Nat} {Q : Option Value → kMem → Prop} (h : kIs nx q 4 = true) : kJ 68 1 [l0, l1, l2] (.ref q :: st) (mi, ml, mr, nx) Q = kJ 68 4 [l0, l1, l2] (va_rf (mr q 0) :: st) (mi, ml, mr, nx) Q := kJ_next d68_1 (kg_getr 4 0 rfl h (by decide))
theorem d68_4 : decode (mB 68) 4 = .ok (.iload_n 1, 1) := by decide +kernel
theorem s68_4 {l0 l2 : Option Value} {st : List Value} {x : Int32} {m : kMem} {Q : Option Value → kMem → Prop} : kJ 68 4 [l0, some (.int x), l2] st m Q = kJ 68 5 [l0, some (.int x), l2] (.int x :: st) m Q := kJ_next d68_4 rfl
theorem d68_5 : decode (mB 68) 5 = .ok (.invokevirtual 124, 3) := by decide +kernel
theorem s68_5 {l0 l1 l2 : Option Value} {v0 : Int32} {v1 : Nat} {m : kMem} {Q : Option Value → kMem → Prop} (h : kIs m.2.2.2 v1 1 = true) : kJ 68 5 [l0, l1, l2] [.int v0, .ref v1] m Q = kJ 8 0 [some (.ref v1), some (.int v0)] [] m (fun v m2 => kJ 68 8 [l0, l1, l2] (v.toList ++ []) m2 Q) := kJ_call d68_5 (kg_callv 8 1 rfl rfl rfl rfl (Nat.le_of_ble_eq_true rfl) (Nat.le_of_ble_eq_true rfl) (Nat.le_of_ble_eq_true rfl) h rfl)
theorem d68_8 : decode (mB 68) 8 = .ok (.ifCond .ne 5, 3) := by decide +kernel
theorem s68_8 {l0 l1 l2 : Option Value} {st : List Value} {a : Int32} {m : kMem} {Q : Option Value → kMem → Prop} : kJ 68 8 [l0, l1, l2] (.int a :: st) m Q = (if a = 0 then kJ 68 11 [l0, l1, l2] st m Q else kJ 68 13 [l0, l1, l2] st m Q) := kJ_if d68_8 rfl (fun h => kJ_next d68_8 h) (fun h => kJ_next d68_8 h)
theorem d68_11 : decode (mB 68) 11 = .ok (.iconst (-1), 1) := by decide +kernel
theorem s68_11 {l0 l1 l2 : Option Value} {st : List Value} {m : kMem} {Q : Option Value → kMem → Prop} : kJ 68 11 [l0, l1, l2] st m Q = kJ 68 12 [l0, l1, l2] (.int (-1) :: st) m Q := kJ_next d68_11 rfl
theorem d68_12 : decode (mB 68) 12 = .ok (.ireturn, 1) := by decide +kernel
theorem s68_12 {l0 l1 l2 : Option Value} {x : Int32} {m : kMem} {Q : Option Value → kMem → Prop} : kJ 68 12 [l0, l1, l2] [.int x] m Q = Q (some (.int x)) m := kJ_ret d68_12 rfl
theorem d68_13 : decode (mB 68) 13 = .ok (.aload_n 0, 1) := by decide +kernel
theorem s68_13 {l1 l2 : Option Value} {st : List Value} {x : Nat} {m : kMem} {Q : Option Value → kMem → Prop} : kJ 68 13 [some (.ref x), l1, l2] st m Q = kJ 68 14 [some (.ref x), l1, l2] (.ref x :: st) m Q := kJ_next d68_13 rfl
theorem d68_14 : decode (mB 68) 14 = .ok (.getfield 16, 3) := by decide +kernel
theorem s68_14 {l0 l1 l2 : Option Value} {st : List Value} {q : Nat} {mi : Nat → Nat → Int32} {ml : Nat → Nat → Int64} {mr : Nat → Nat → Option Nat} {nx : Nat} {Q : Option Value → kMem → Prop} (h : kIs nx q 4 = true) : kJ 68 14 [l0, l1, l2] (.ref q :: st) (mi, ml, mr, nx) Q = kJ 68 17 [l0, l1, l2] (va_rf (mr q 1) :: st) (mi, ml, mr, nx) Q := kJ_next d68_14 (kg_getr 4 1 rfl h (by decide))
theorem d68_17 : decode (mB 68) 17 = .ok (.aload_n 0, 1) := by decide +kernel
theorem s68_17 {l1 l2 : Option Value} {st : List Value} {x : Nat} {m : kMem} {Q : Option Value → kMem → Prop} : kJ 68 17 [some (.ref x), l1, l2] st m Q = kJ 68 18 [some (.ref x), l1, l2] (.ref x :: st) m Q := kJ_next d68_17 rfl
theorem d68_18 : decode (mB 68) 18 = .ok (.getfield 10, 3) := by decide +kernel
theorem s68_18 {l0 l1 l2 : Option Value} {st : List Value} {q : Nat} {mi : Nat → Nat → Int32} {ml : Nat → Nat → Int64} {mr : Nat → Nat → Option Nat} {nx : Nat} {Q : Option Value → kMem → Prop} (h : kIs nx q 4 = true) : kJ 68 18 [l0, l1, l2] (.ref q :: st) (mi, ml, mr, nx) Q = kJ 68 21 [l0, l1, l2] (va_rf (mr q 0) :: st) (mi, ml, mr, nx) Q := kJ_next d68_18 (kg_getr 4 0 rfl h (by decide))
theorem d68_21 : decode (mB 68) 21 = .ok (.invokevirtual 81, 3) := by decide +kernel
theorem s68_21 {l0 l1 l2 : Option Value} {v0 : Nat} {v1 : Nat} {m : kMem} {Q : Option Value → kMem → Prop} (h : kIs m.2.2.2 v1 1 = true) : kJ 68 21 [l0, l1, l2] [.ref v0, .ref v1] m Q = kJ 6 0 [some (.ref v1), some (.ref v0)] [] m (fun v m2 => kJ 68 24 [l0, l1, l2] (v.toList ++ []) m2 Q) := kJ_call d68_21 (kg_callv 6 1 rfl rfl rfl rfl (Nat.le_of_ble_eq_true rfl) (Nat.le_of_ble_eq_true rfl) (Nat.le_of_ble_eq_true rfl) h rfl)
theorem d68_24 : decode (mB 68) 24 = .ok (.iconst 0, 1) := by decide +kernel
theorem s68_24 {l0 l1 l2 : Option Value} {st : List Value} {m : kMem} {Q : Option Value → kMem → Prop} : kJ 68 24 [l0, l1, l2] st m Q = kJ 68 25 [l0, l1, l2] (.int (nI 0) :: st) m Q := kJ_next d68_24 rfl
theorem d68_25 : decode (mB 68) 25 = .ok (.istore_n 2, 1) := by decide +kernel
theorem s68_25 {l0 l1 l2 : Option Value} {st : List Value} {x : Int32} {m : kMem} {Q : Option Value → kMem → Prop} (hp : kNL l1 = true) : kJ 68 25 [l0, l1, l2] (.int x :: st) m Q = kJ 68 26 [l0, l1, some (.int x)] st m Q := kJ_next d68_25 (kg_sti (Nat.le_of_ble_eq_true rfl) hp)
theorem d68_26 : decode (mB 68) 26 = .ok (.iload_n 2, 1) := by decide +kernel
theorem s68_26 {l0 l1 : Option Value} {st : List Value} {x : Int32} {m : kMem} {Q : Option Value → kMem → Prop} : kJ 68 26 [l0, l1, some (.int x)] st m Q = kJ 68 27 [l0, l1, some (.int x)] (.int x :: st) m Q := kJ_next d68_26 rfl
theorem d68_27 : decode (mB 68) 27 = .ok (.bipush 60, 2) := by decide +kernel
theorem s68_27 {l0 l1 l2 : Option Value} {st : List Value} {m : kMem} {Q : Option Value → kMem → Prop} : kJ 68 27 [l0, l1, l2] st m Q = kJ 68 29 [l0, l1, l2] (.int (nI 60) :: st) m Q := kJ_next d68_27 rfl
theorem d68_29 : decode (mB 68) 29 = .ok (.if_icmp .gt 32, 3) := by decide +kernel
theorem s68_29 {l0 l1 l2 : Option Value} {st : List Value} {a b : Int32} {m : kMem} {Q : Option Value → kMem → Prop} : kJ 68 29 [l0, l1, l2] (.int b :: .int a :: st) m Q = (if b < a then kJ 68 61 [l0, l1, l2] st m Q else kJ 68 32 [l0, l1, l2] st m Q) := kJ_if d68_29 rfl (fun h => kJ_next d68_29 h) (fun h => kJ_next d68_29 h)
theorem d68_32 : decode (mB 68) 32 = .ok (.aload_n 0, 1) := by decide +kernel
theorem s68_32 {l1 l2 : Option Value} {st : List Value} {x : Nat} {m : kMem} {Q : Option Value → kMem → Prop} : kJ 68 32 [some (.ref x), l1, l2] st m Q = kJ 68 33 [some (.ref x), l1, l2] (.ref x :: st) m Q := kJ_next d68_32 rfl
theorem d68_33 : decode (mB 68) 33 = .ok (.getfield 16, 3) := by decide +kernel
theorem s68_33 {l0 l1 l2 : Option Value} {st : List Value} {q : Nat} {mi : Nat → Nat → Int32} {ml : Nat → Nat → Int64} {mr : Nat → Nat → Option Nat} {nx : Nat} {Q : Option Value → kMem → Prop} (h : kIs nx q 4 = true) : kJ 68 33 [l0, l1, l2] (.ref q :: st) (mi, ml, mr, nx) Q = kJ 68 36 [l0, l1, l2] (va_rf (mr q 1) :: st) (mi, ml, mr, nx) Q := kJ_next d68_33 (kg_getr 4 1 rfl h (by decide))
theorem d68_36 : decode (mB 68) 36 = .ok (.getfield 142, 3) := by decide +kernel
theorem s68_36 {l0 l1 l2 : Option Value} {st : List Value} {q : Nat} {mi : Nat → Nat → Int32} {ml : Nat → Nat → Int64} {mr : Nat → Nat → Option Nat} {nx : Nat} {Q : Option Value → kMem → Prop} (h : kIs nx q 1 = true) : kJ 68 36 [l0, l1, l2] (.ref q :: st) (mi, ml, mr, nx) Q = kJ 68 39 [l0, l1, l2] (va_rf (mr q 10) :: st) (mi, ml, mr, nx) Q := kJ_next d68_36 (kg_getr 1 10 rfl h (by decide))
theorem d68_39 : decode (mB 68) 39 = .ok (.iload_n 1, 1) := by decide +kernel
theorem s68_39 {l0 l2 : Option Value} {st : List Value} {x : Int32} {m : kMem} {Q : Option Value → kMem → Prop} : kJ 68 39 [l0, some (.int x), l2] st m Q = kJ 68 40 [l0, some (.int x), l2] (.int x :: st) m Q := kJ_next d68_39 rfl
theorem d68_40 : decode (mB 68) 40 = .ok (.iaload, 1) := by decide +kernel
theorem s68_40 {l0 l1 l2 : Option Value} {st : List Value} {q : Nat} {i : Int32} {mi : Nat → Nat → Int32} {ml : Nat → Nat → Int64} {mr : Nat → Nat → Option Nat} {nx : Nat} {Q : Option Value → kMem → Prop} (h : kIs nx q 10 = true) : kJ 68 40 [l0, l1, l2] (.int i :: .ref q :: st) (mi, ml, mr, nx) Q = (vp_in i (kAl q) ∧ kJ 68 41 [l0, l1, l2] (.int (mi q i.toNatClampNeg) :: st) (mi, ml, mr, nx) Q) := kg_aldJ d68_40 rfl (kAr_of h)
theorem d68_41 : decode (mB 68) 41 = .ok (.iconst 2, 1) := by decide +kernel
theorem s68_41 {l0 l1 l2 : Option Value} {st : List Value} {m : kMem} {Q : Option Value → kMem → Prop} : kJ 68 41 [l0, l1, l2] st m Q = kJ 68 42 [l0, l1, l2] (.int (nI 2) :: st) m Q := kJ_next d68_41 rfl
theorem d68_42 : decode (mB 68) 42 = .ok (.if_icmp .ne 5, 3) := by decide +kernel
theorem s68_42 {l0 l1 l2 : Option Value} {st : List Value} {a b : Int32} {m : kMem} {Q : Option Value → kMem → Prop} : kJ 68 42 [l0, l1, l2] (.int b :: .int a :: st) m Q = (if a = b then kJ 68 45 [l0, l1, l2] st m Q else kJ 68 47 [l0, l1, l2] st m Q) := kJ_if d68_42 rfl (fun h => kJ_next d68_42 h) (fun h => kJ_next d68_42 h)
theorem d68_45 : decode (mB 68) 45 = .ok (.iload_n 2, 1) := by decide +kernel
theorem s68_45 {l0 l1 : Option Value} {st : List Value} {x : Int32} {m : kMem} {Q : Option Value → kMem → Prop} : kJ 68 45 [l0, l1, some (.int x)] st m Q = kJ 68 46 [l0, l1, some (.int x)] (.int x :: st) m Q := kJ_next d68_45 rfl
theorem d68_46 : decode (mB 68) 46 = .ok (.ireturn, 1) := by decide +kernel
theorem s68_46 {l0 l1 l2 : Option Value} {x : Int32} {m : kMem} {Q : Option Value → kMem → Prop} : kJ 68 46 [l0, l1, l2] [.int x] m Q = Q (some (.int x)) m := kJ_ret d68_46 rfl
theorem d68_47 : decode (mB 68) 47 = .ok (.aload_n 0, 1) := by decide +kernel
theorem s68_47 {l1 l2 : Option Value} {st : List Value} {x : Nat} {m : kMem} {Q : Option Value → kMem → Prop} : kJ 68 47 [some (.ref x), l1, l2] st m Q = kJ 68 48 [some (.ref x), l1, l2] (.ref x :: st) m Q := kJ_next d68_47 rfl
theorem d68_48 : decode (mB 68) 48 = .ok (.getfield 16, 3) := by decide +kernel
theorem s68_48 {l0 l1 l2 : Option Value} {st : List Value} {q : Nat} {mi : Nat → Nat → Int32} {ml : Nat → Nat → Int64} {mr : Nat → Nat → Option Nat} {nx : Nat} {Q : Option Value → kMem → Prop} (h : kIs nx q 4 = true) : kJ 68 48 [l0, l1, l2] (.ref q :: st) (mi, ml, mr, nx) Q = kJ 68 51 [l0, l1, l2] (va_rf (mr q 1) :: st) (mi, ml, mr, nx) Q := kJ_next d68_48 (kg_getr 4 1 rfl h (by decide))
theorem d68_51 : decode (mB 68) 51 = .ok (.iconst 1, 1) := by decide +kernel
theorem s68_51 {l0 l1 l2 : Option Value} {st : List Value} {m : kMem} {Q : Option Value → kMem → Prop} : kJ 68 51 [l0, l1, l2] st m Q = kJ 68 52 [l0, l1, l2] (.int (nI 1) :: st) m Q := kJ_next d68_51 rfl
theorem d68_52 : decode (mB 68) 52 = .ok (.invokevirtual 163, 3) := by decide +kernel
theorem s68_52 {l0 l1 l2 : Option Value} {v0 : Int32} {v1 : Nat} {m : kMem} {Q : Option Value → kMem → Prop} (h : kIs m.2.2.2 v1 1 = true) : kJ 68 52 [l0, l1, l2] [.int v0, .ref v1] m Q = kJ 20 0 [some (.ref v1), some (.int v0), none] [] m (fun v m2 => kJ 68 55 [l0, l1, l2] (v.toList ++ []) m2 Q) := kJ_call d68_52 (kg_callv 20 1 rfl rfl rfl rfl (Nat.le_of_ble_eq_true rfl) (Nat.le_of_ble_eq_true rfl) (Nat.le_of_ble_eq_true rfl) h rfl)
theorem d68_55 : decode (mB 68) 55 = .ok (.iinc 2 1, 3) := by decide +kernel
theorem s68_55 {l0 l1 : Option Value} {st : List Value} {x : Int32} {m : kMem} {Q : Option Value → kMem → Prop} (hp : kNL l1 = true) : kJ 68 55 [l0, l1, some (.int x)] st m Q = kJ 68 58 [l0, l1, some (.int (x + (nI 1)))] st m Q := kJ_next d68_55 (kg_inc rfl (Nat.le_of_ble_eq_true rfl) hp)
theorem d68_58 : decode (mB 68) 58 = .ok (.goto (-32), 3) := by decide +kernel
theorem s68_58 {l0 l1 l2 : Option Value} {st : List Value} {m : kMem} {Q : Option Value → kMem → Prop} : kJ 68 58 [l0, l1, l2] st m Q = kJ 68 26 [l0, l1, l2] st m Q := kJ_next d68_58 rfl
theorem d68_61 : decode (mB 68) 61 = .ok (.bipush (-4), 2) := by decide +kernel
theorem s68_61 {l0 l1 l2 : Option Value} {st : List Value} {m : kMem} {Q : Option Value → kMem → Prop} : kJ 68 61 [l0, l1, l2] st m Q = kJ 68 63 [l0, l1, l2] (.int (-4) :: st) m Q := kJ_next d68_61 rfl
theorem d68_63 : decode (mB 68) 63 = .ok (.ireturn, 1) := by decide +kernel
theorem s68_63 {l0 l1 l2 : Option Value} {x : Int32} {m : kMem} {Q : Option Value → kMem → Prop} : kJ 68 63 [l0, l1, l2] [.int x] m Q = Q (some (.int x)) m := kJ_ret d68_63 rfl
theorem d69_0 : decode (mB 69) 0 = .ok (.aload_n 0, 1) := by decide +kernel
theorem s69_0 {l1 l2 l3 l4 : Option Value} {st : List Value} {x : Nat} {m : kMem} {Q : Option Value → kMem → Prop} : kJ 69 0 [some (.ref x), l1, l2, l3, l4] st m Q = kJ 69 1 [some (.ref x), l1, l2, l3, l4] (.ref x :: st) m Q := kJ_next d69_0 rfl
theorem d69_1 : decode (mB 69) 1 = .ok (.getfield 10, 3) := by decide +kernel
theorem s69_1 {l0 l1 l2 l3 l4 : Option Value} {st : List Value} {q : Nat} {mi : Nat → Nat → Int32} {ml : Nat → Nat → Int64} {mr : Nat → Nat → Option Nat} {nx : Nat} {Q : Option Value → kMem → Prop} (h : kIs nx q 4 = true) : kJ 69 1 [l0, l1, l2, l3, l4] (.ref q :: st) (mi, ml, mr, nx) Q = kJ 69 4 [l0, l1, l2, l3, l4] (va_rf (mr q 0) :: st) (mi, ml, mr, nx) Q := kJ_next d69_1 (kg_getr 4 0 rfl h (by decide))
theorem d69_4 : decode (mB 69) 4 = .ok (.iload_n 1, 1) := by decide +kernel
theorem s69_4 {l0 l2 l3 l4 : Option Value} {st : List Value} {x : Int32} {m : kMem} {Q : Option Value → kMem → Prop} : kJ 69 4 [l0, some (.int x), l2, l3, l4] st m Q = kJ 69 5 [l0, some (.int x), l2, l3, l4] (.int x :: st) m Q := kJ_next d69_4 rfl
theorem d69_5 : decode (mB 69) 5 = .ok (.invokevirtual 124, 3) := by decide +kernel
theorem s69_5 {l0 l1 l2 l3 l4 : Option Value} {v0 : Int32} {v1 : Nat} {m : kMem} {Q : Option Value → kMem → Prop} (h : kIs m.2.2.2 v1 1 = true) : kJ 69 5 [l0, l1, l2, l3, l4] [.int v0, .ref v1] m Q = kJ 8 0 [some (.ref v1), some (.int v0)] [] m (fun v m2 => kJ 69 8 [l0, l1, l2, l3, l4] (v.toList ++ []) m2 Q) := kJ_call d69_5 (kg_callv 8 1 rfl rfl rfl rfl (Nat.le_of_ble_eq_true rfl) (Nat.le_of_ble_eq_true rfl) (Nat.le_of_ble_eq_true rfl) h rfl)
theorem d69_8 : decode (mB 69) 8 = .ok (.ifCond .eq 11, 3) := by decide +kernel
theorem s69_8 {l0 l1 l2 l3 l4 : Option Value} {st : List Value} {a : Int32} {m : kMem} {Q : Option Value → kMem → Prop} : kJ 69 8 [l0, l1, l2, l3, l4] (.int a :: st) m Q = (if a = 0 then kJ 69 19 [l0, l1, l2, l3, l4] st m Q else kJ 69 11 [l0, l1, l2, l3, l4] st m Q) := kJ_if d69_8 rfl (fun h => kJ_next d69_8 h) (fun h => kJ_next d69_8 h)
theorem d69_11 : decode (mB 69) 11 = .ok (.iload_n 2, 1) := by decide +kernel
theorem s69_11 {l0 l1 l3 l4 : Option Value} {st : List Value} {x : Int32} {m : kMem} {Q : Option Value → kMem → Prop} : kJ 69 11 [l0, l1, some (.int x), l3, l4] st m Q = kJ 69 12 [l0, l1, some (.int x), l3, l4] (.int x :: st) m Q := kJ_next d69_11 rfl
theorem d69_12 : decode (mB 69) 12 = .ok (.iload_n 3, 1) := by decide +kernel
theorem s69_12 {l0 l1 l2 l4 : Option Value} {st : List Value} {x : Int32} {m : kMem} {Q : Option Value → kMem → Prop} : kJ 69 12 [l0, l1, l2, some (.int x), l4] st m Q = kJ 69 13 [l0, l1, l2, some (.int x), l4] (.int x :: st) m Q := kJ_next d69_12 rfl
theorem d69_13 : decode (mB 69) 13 = .ok (.invokestatic 170, 3) := by decide +kernel
theorem s69_13 {l0 l1 l2 l3 l4 : Option Value} {v0 : Int32} {v1 : Int32} {m : kMem} {Q : Option Value → kMem → Prop} : kJ 69 13 [l0, l1, l2, l3, l4] [.int v0, .int v1] m Q = kJ 91 0 [some (.int v1), some (.int v0)] [] m (fun v m2 => kJ 69 16 [l0, l1, l2, l3, l4] (v.toList ++ []) m2 Q) := kJ_call d69_13 (kg_calls 91 2 rfl rfl (Nat.le_of_ble_eq_true rfl) (Nat.le_of_ble_eq_true rfl) (Nat.le_of_ble_eq_true rfl) (Nat.le_of_ble_eq_true rfl))
theorem d69_16 : decode (mB 69) 16 = .ok (.ifCond .ne 5, 3) := by decide +kernel
theorem s69_16 {l0 l1 l2 l3 l4 : Option Value} {st : List Value} {a : Int32} {m : kMem} {Q : Option Value → kMem → Prop} : kJ 69 16 [l0, l1, l2, l3, l4] (.int a :: st) m Q = (if a = 0 then kJ 69 19 [l0, l1, l2, l3, l4] st m Q else kJ 69 21 [l0, l1, l2, l3, l4] st m Q) := kJ_if d69_16 rfl (fun h => kJ_next d69_16 h) (fun h => kJ_next d69_16 h)
theorem d69_19 : decode (mB 69) 19 = .ok (.iconst (-1), 1) := by decide +kernel
theorem s69_19 {l0 l1 l2 l3 l4 : Option Value} {st : List Value} {m : kMem} {Q : Option Value → kMem → Prop} : kJ 69 19 [l0, l1, l2, l3, l4] st m Q = kJ 69 20 [l0, l1, l2, l3, l4] (.int (-1) :: st) m Q := kJ_next d69_19 rfl
theorem d69_20 : decode (mB 69) 20 = .ok (.ireturn, 1) := by decide +kernel
theorem s69_20 {l0 l1 l2 l3 l4 : Option Value} {x : Int32} {m : kMem} {Q : Option Value → kMem → Prop} : kJ 69 20 [l0, l1, l2, l3, l4] [.int x] m Q = Q (some (.int x)) m := kJ_ret d69_20 rfl
theorem d69_21 : decode (mB 69) 21 = .ok (.aload_n 0, 1) := by decide +kernel
theorem s69_21 {l1 l2 l3 l4 : Option Value} {st : List Value} {x : Nat} {m : kMem} {Q : Option Value → kMem → Prop} : kJ 69 21 [some (.ref x), l1, l2, l3, l4] st m Q = kJ 69 22 [some (.ref x), l1, l2, l3, l4] (.ref x :: st) m Q := kJ_next d69_21 rfl
theorem d69_22 : decode (mB 69) 22 = .ok (.getfield 10, 3) := by decide +kernel
theorem s69_22 {l0 l1 l2 l3 l4 : Option Value} {st : List Value} {q : Nat} {mi : Nat → Nat → Int32} {ml : Nat → Nat → Int64} {mr : Nat → Nat → Option Nat} {nx : Nat} {Q : Option Value → kMem → Prop} (h : kIs nx q 4 = true) : kJ 69 22 [l0, l1, l2, l3, l4] (.ref q :: st) (mi, ml, mr, nx) Q = kJ 69 25 [l0, l1, l2, l3, l4] (va_rf (mr q 0) :: st) (mi, ml, mr, nx) Q := kJ_next d69_22 (kg_getr 4 0 rfl h (by decide))
theorem d69_25 : decode (mB 69) 25 = .ok (.iload_n 1, 1) := by decide +kernel
theorem s69_25 {l0 l2 l3 l4 : Option Value} {st : List Value} {x : Int32} {m : kMem} {Q : Option Value → kMem → Prop} : kJ 69 25 [l0, some (.int x), l2, l3, l4] st m Q = kJ 69 26 [l0, some (.int x), l2, l3, l4] (.int x :: st) m Q := kJ_next d69_25 rfl
theorem d69_26 : decode (mB 69) 26 = .ok (.invokevirtual 153, 3) := by decide +kernel
theorem s69_26 {l0 l1 l2 l3 l4 : Option Value} {v0 : Int32} {v1 : Nat} {m : kMem} {Q : Option Value → kMem → Prop} (h : kIs m.2.2.2 v1 1 = true) : kJ 69 26 [l0, l1, l2, l3, l4] [.int v0, .ref v1] m Q = kJ 9 0 [some (.ref v1), some (.int v0)] [] m (fun v m2 => kJ 69 29 [l0, l1, l2, l3, l4] (v.toList ++ []) m2 Q) := kJ_call d69_26 (kg_callv 9 1 rfl rfl rfl rfl (Nat.le_of_ble_eq_true rfl) (Nat.le_of_ble_eq_true rfl) (Nat.le_of_ble_eq_true rfl) h rfl)
theorem d69_29 : decode (mB 69) 29 = .ok (.ifCond .ne 6, 3) := by decide +kernel
theorem s69_29 {l0 l1 l2 l3 l4 : Option Value} {st : List Value} {a : Int32} {m : kMem} {Q : Option Value → kMem → Prop} : kJ 69 29 [l0, l1, l2, l3, l4] (.int a :: st) m Q = (if a = 0 then kJ 69 32 [l0, l1, l2, l3, l4] st m Q else kJ 69 35 [l0, l1, l2, l3, l4] st m Q) := kJ_if d69_29 rfl (fun h => kJ_next d69_29 h) (fun h => kJ_next d69_29 h)
theorem d69_32 : decode (mB 69) 32 = .ok (.bipush (-2), 2) := by decide +kernel
theorem s69_32 {l0 l1 l2 l3 l4 : Option Value} {st : List Value} {m : kMem} {Q : Option Value → kMem → Prop} : kJ 69 32 [l0, l1, l2, l3, l4] st m Q = kJ 69 34 [l0, l1, l2, l3, l4] (.int (-2) :: st) m Q := kJ_next d69_32 rfl
theorem d69_34 : decode (mB 69) 34 = .ok (.ireturn, 1) := by decide +kernel
theorem s69_34 {l0 l1 l2 l3 l4 : Option Value} {x : Int32} {m : kMem} {Q : Option Value → kMem → Prop} : kJ 69 34 [l0, l1, l2, l3, l4] [.int x] m Q = Q (some (.int x)) m := kJ_ret d69_34 rfl
theorem d69_35 : decode (mB 69) 35 = .ok (.aload_n 0, 1) := by decide +kernel
theorem s69_35 {l1 l2 l3 l4 : Option Value} {st : List Value} {x : Nat} {m : kMem} {Q : Option Value → kMem → Prop} : kJ 69 35 [some (.ref x), l1, l2, l3, l4] st m Q = kJ 69 36 [some (.ref x), l1, l2, l3, l4] (.ref x :: st) m Q := kJ_next d69_35 rfl
theorem d69_36 : decode (mB 69) 36 = .ok (.getfield 22, 3) := by decide +kernel
theorem s69_36 {l0 l1 l2 l3 l4 : Option Value} {st : List Value} {q : Nat} {mi : Nat → Nat → Int32} {ml : Nat → Nat → Int64} {mr : Nat → Nat → Option Nat} {nx : Nat} {Q : Option Value → kMem → Prop} (h : kIs nx q 4 = true) : kJ 69 36 [l0, l1, l2, l3, l4] (.ref q :: st) (mi, ml, mr, nx) Q = kJ 69 39 [l0, l1, l2, l3, l4] (va_rf (mr q 2) :: st) (mi, ml, mr, nx) Q := kJ_next d69_36 (kg_getr 4 2 rfl h (by decide))
theorem d69_39 : decode (mB 69) 39 = .ok (.iconst (-1), 1) := by decide +kernel
theorem s69_39 {l0 l1 l2 l3 l4 : Option Value} {st : List Value} {m : kMem} {Q : Option Value → kMem → Prop} : kJ 69 39 [l0, l1, l2, l3, l4] st m Q = kJ 69 40 [l0, l1, l2, l3, l4] (.int (-1) :: st) m Q := kJ_next d69_39 rfl
theorem d69_40 : decode (mB 69) 40 = .ok (.invokevirtual 174, 3) := by decide +kernel
theorem s69_40 {l0 l1 l2 l3 l4 : Option Value} {v0 : Int32} {v1 : Nat} {m : kMem} {Q : Option Value → kMem → Prop} (h : kIs m.2.2.2 v1 0 = true) : kJ 69 40 [l0, l1, l2, l3, l4] [.int v0, .ref v1] m Q = kJ 1 0 [some (.ref v1), some (.int v0)] [] m (fun v m2 => kJ 69 43 [l0, l1, l2, l3, l4] (v.toList ++ []) m2 Q) := kJ_call d69_40 (kg_callv 1 1 rfl rfl rfl rfl (Nat.le_of_ble_eq_true rfl) (Nat.le_of_ble_eq_true rfl) (Nat.le_of_ble_eq_true rfl) h rfl)
theorem d69_43 : decode (mB 69) 43 = .ok (.iconst 0, 1) := by decide +kernel
theorem s69_43 {l0 l1 l2 l3 l4 : Option Value} {st : List Value} {m : kMem} {Q : Option Value → kMem → Prop} : kJ 69 43 [l0, l1, l2, l3, l4] st m Q = kJ 69 44 [l0, l1, l2, l3, l4] (.int (nI 0) :: st) m Q := kJ_next d69_43 rfl
theorem d69_44 : decode (mB 69) 44 = .ok (.istore 4, 2) := by decide +kernel
theorem s69_44 {l0 l1 l2 l3 l4 : Option Value} {st : List Value} {x : Int32} {m : kMem} {Q : Option Value → kMem → Prop} (hp : kNL l3 = true) : kJ 69 44 [l0, l1, l2, l3, l4] (.int x :: st) m Q = kJ 69 46 [l0, l1, l2, l3, some (.int x)] st m Q := kJ_next d69_44 (kg_sti (Nat.le_of_ble_eq_true rfl) hp)
theorem d69_46 : decode (mB 69) 46 = .ok (.iload 4, 2) := by decide +kernel
theorem s69_46 {l0 l1 l2 l3 : Option Value} {st : List Value} {x : Int32} {m : kMem} {Q : Option Value → kMem → Prop} : kJ 69 46 [l0, l1, l2, l3, some (.int x)] st m Q = kJ 69 48 [l0, l1, l2, l3, some (.int x)] (.int x :: st) m Q := kJ_next d69_46 rfl
theorem d69_48 : decode (mB 69) 48 = .ok (.bipush 18, 2) := by decide +kernel
theorem s69_48 {l0 l1 l2 l3 l4 : Option Value} {st : List Value} {m : kMem} {Q : Option Value → kMem → Prop} : kJ 69 48 [l0, l1, l2, l3, l4] st m Q = kJ 69 50 [l0, l1, l2, l3, l4] (.int (nI 18) :: st) m Q := kJ_next d69_48 rfl
theorem d69_50 : decode (mB 69) 50 = .ok (.if_icmp .gt 48, 3) := by decide +kernel
theorem s69_50 {l0 l1 l2 l3 l4 : Option Value} {st : List Value} {a b : Int32} {m : kMem} {Q : Option Value → kMem → Prop} : kJ 69 50 [l0, l1, l2, l3, l4] (.int b :: .int a :: st) m Q = (if b < a then kJ 69 98 [l0, l1, l2, l3, l4] st m Q else kJ 69 53 [l0, l1, l2, l3, l4] st m Q) := kJ_if d69_50 rfl (fun h => kJ_next d69_50 h) (fun h => kJ_next d69_50 h)
theorem d69_53 : decode (mB 69) 53 = .ok (.aload_n 0, 1) := by decide +kernel
theorem s69_53 {l1 l2 l3 l4 : Option Value} {st : List Value} {x : Nat} {m : kMem} {Q : Option Value → kMem → Prop} : kJ 69 53 [some (.ref x), l1, l2, l3, l4] st m Q = kJ 69 54 [some (.ref x), l1, l2, l3, l4] (.ref x :: st) m Q := kJ_next d69_53 rfl
theorem d69_54 : decode (mB 69) 54 = .ok (.getfield 16, 3) := by decide +kernel
theorem s69_54 {l0 l1 l2 l3 l4 : Option Value} {st : List Value} {q : Nat} {mi : Nat → Nat → Int32} {ml : Nat → Nat → Int64} {mr : Nat → Nat → Option Nat} {nx : Nat} {Q : Option Value → kMem → Prop} (h : kIs nx q 4 = true) : kJ 69 54 [l0, l1, l2, l3, l4] (.ref q :: st) (mi, ml, mr, nx) Q = kJ 69 57 [l0, l1, l2, l3, l4] (va_rf (mr q 1) :: st) (mi, ml, mr, nx) Q := kJ_next d69_54 (kg_getr 4 1 rfl h (by decide))
theorem d69_57 : decode (mB 69) 57 = .ok (.aload_n 0, 1) := by decide +kernel
theorem s69_57 {l1 l2 l3 l4 : Option Value} {st : List Value} {x : Nat} {m : kMem} {Q : Option Value → kMem → Prop} : kJ 69 57 [some (.ref x), l1, l2, l3, l4] st m Q = kJ 69 58 [some (.ref x), l1, l2, l3, l4] (.ref x :: st) m Q := kJ_next d69_57 rfl
theorem d69_58 : decode (mB 69) 58 = .ok (.getfield 10, 3) := by decide +kernel
theorem s69_58 {l0 l1 l2 l3 l4 : Option Value} {st : List Value} {q : Nat} {mi : Nat → Nat → Int32} {ml : Nat → Nat → Int64} {mr : Nat → Nat → Option Nat} {nx : Nat} {Q : Option Value → kMem → Prop} (h : kIs nx q 4 = true) : kJ 69 58 [l0, l1, l2, l3, l4] (.ref q :: st) (mi, ml, mr, nx) Q = kJ 69 61 [l0, l1, l2, l3, l4] (va_rf (mr q 0) :: st) (mi, ml, mr, nx) Q := kJ_next d69_58 (kg_getr 4 0 rfl h (by decide))
theorem d69_61 : decode (mB 69) 61 = .ok (.invokevirtual 81, 3) := by decide +kernel
theorem s69_61 {l0 l1 l2 l3 l4 : Option Value} {v0 : Nat} {v1 : Nat} {m : kMem} {Q : Option Value → kMem → Prop} (h : kIs m.2.2.2 v1 1 = true) : kJ 69 61 [l0, l1, l2, l3, l4] [.ref v0, .ref v1] m Q = kJ 6 0 [some (.ref v1), some (.ref v0)] [] m (fun v m2 => kJ 69 64 [l0, l1, l2, l3, l4] (v.toList ++ []) m2 Q) := kJ_call d69_61 (kg_callv 6 1 rfl rfl rfl rfl (Nat.le_of_ble_eq_true rfl) (Nat.le_of_ble_eq_true rfl) (Nat.le_of_ble_eq_true rfl) h rfl)
theorem d69_64 : decode (mB 69) 64 = .ok (.aload_n 0, 1) := by decide +kernel
theorem s69_64 {l1 l2 l3 l4 : Option Value} {st : List Value} {x : Nat} {m : kMem} {Q : Option Value → kMem → Prop} : kJ 69 64 [some (.ref x), l1, l2, l3, l4] st m Q = kJ 69 65 [some (.ref x), l1, l2, l3, l4] (.ref x :: st) m Q := kJ_next d69_64 rfl
theorem d69_65 : decode (mB 69) 65 = .ok (.getfield 16, 3) := by decide +kernel
theorem s69_65 {l0 l1 l2 l3 l4 : Option Value} {st : List Value} {q : Nat} {mi : Nat → Nat → Int32} {ml : Nat → Nat → Int64} {mr : Nat → Nat → Option Nat} {nx : Nat} {Q : Option Value → kMem → Prop} (h : kIs nx q 4 = true) : kJ 69 65 [l0, l1, l2, l3, l4] (.ref q :: st) (mi, ml, mr, nx) Q = kJ 69 68 [l0, l1, l2, l3, l4] (va_rf (mr q 1) :: st) (mi, ml, mr, nx) Q := kJ_next d69_65 (kg_getr 4 1 rfl h (by decide))
theorem d69_68 : decode (mB 69) 68 = .ok (.getfield 136, 3) := by decide +kernel
theorem s69_68 {l0 l1 l2 l3 l4 : Option Value} {st : List Value} {q : Nat} {mi : Nat → Nat → Int32} {ml : Nat → Nat → Int64} {mr : Nat → Nat → Option Nat} {nx : Nat} {Q : Option Value → kMem → Prop} (h : kIs nx q 1 = true) : kJ 69 68 [l0, l1, l2, l3, l4] (.ref q :: st) (mi, ml, mr, nx) Q = kJ 69 71 [l0, l1, l2, l3, l4] (va_rf (mr q 8) :: st) (mi, ml, mr, nx) Q := kJ_next d69_68 (kg_getr 1 8 rfl h (by decide))
theorem d69_71 : decode (mB 69) 71 = .ok (.iload_n 1, 1) := by decide +kernel
theorem s69_71 {l0 l2 l3 l4 : Option Value} {st : List Value} {x : Int32} {m : kMem} {Q : Option Value → kMem → Prop} : kJ 69 71 [l0, some (.int x), l2, l3, l4] st m Q = kJ 69 72 [l0, some (.int x), l2, l3, l4] (.int x :: st) m Q := kJ_next d69_71 rfl
theorem d69_72 : decode (mB 69) 72 = .ok (.iload 4, 2) := by decide +kernel
theorem s69_72 {l0 l1 l2 l3 : Option Value} {st : List Value} {x : Int32} {m : kMem} {Q : Option Value → kMem → Prop} : kJ 69 72 [l0, l1, l2, l3, some (.int x)] st m Q = kJ 69 74 [l0, l1, l2, l3, some (.int x)] (.int x :: st) m Q := kJ_next d69_72 rfl
theorem d69_74 : decode (mB 69) 74 = .ok (.iastore, 1) := by decide +kernel
theorem s69_74 {l0 l1 l2 l3 l4 : Option Value} {st : List Value} {q : Nat} {i x : Int32} {mi : Nat → Nat → Int32} {ml : Nat → Nat → Int64} {mr : Nat → Nat → Option Nat} {nx : Nat} {Q : Option Value → kMem → Prop} (h : kIs nx q 10 = true) : kJ 69 74 [l0, l1, l2, l3, l4] (.int x :: .int i :: .ref q :: st) (mi, ml, mr, nx) Q = (vp_in i (kAl q) ∧ kJ 69 75 [l0, l1, l2, l3, l4] st (kup mi q i.toNatClampNeg x, ml, mr, nx) Q) := kg_astJ d69_74 rfl (kAr_of h)
theorem d69_75 : decode (mB 69) 75 = .ok (.aload_n 0, 1) := by decide +kernel
theorem s69_75 {l1 l2 l3 l4 : Option Value} {st : List Value} {x : Nat} {m : kMem} {Q : Option Value → kMem → Prop} : kJ 69 75 [some (.ref x), l1, l2, l3, l4] st m Q = kJ 69 76 [some (.ref x), l1, l2, l3, l4] (.ref x :: st) m Q := kJ_next d69_75 rfl
theorem d69_76 : decode (mB 69) 76 = .ok (.getfield 22, 3) := by decide +kernel
theorem s69_76 {l0 l1 l2 l3 l4 : Option Value} {st : List Value} {q : Nat} {mi : Nat → Nat → Int32} {ml : Nat → Nat → Int64} {mr : Nat → Nat → Option Nat} {nx : Nat} {Q : Option Value → kMem → Prop} (h : kIs nx q 4 = true) : kJ 69 76 [l0, l1, l2, l3, l4] (.ref q :: st) (mi, ml, mr, nx) Q = kJ 69 79 [l0, l1, l2, l3, l4] (va_rf (mr q 2) :: st) (mi, ml, mr, nx) Q := kJ_next d69_76 (kg_getr 4 2 rfl h (by decide))
theorem d69_79 : decode (mB 69) 79 = .ok (.iload 4, 2) := by decide +kernel
theorem s69_79 {l0 l1 l2 l3 : Option Value} {st : List Value} {x : Int32} {m : kMem} {Q : Option Value → kMem → Prop} : kJ 69 79 [l0, l1, l2, l3, some (.int x)] st m Q = kJ 69 81 [l0, l1, l2, l3, some (.int x)] (.int x :: st) m Q := kJ_next d69_79 rfl
theorem d69_81 : decode (mB 69) 81 = .ok (.aload_n 0, 1) := by decide +kernel
theorem s69_81 {l1 l2 l3 l4 : Option Value} {st : List Value} {x : Nat} {m : kMem} {Q : Option Value → kMem → Prop} : kJ 69 81 [some (.ref x), l1, l2, l3, l4] st m Q = kJ 69 82 [some (.ref x), l1, l2, l3, l4] (.ref x :: st) m Q := kJ_next d69_81 rfl
theorem d69_82 : decode (mB 69) 82 = .ok (.getfield 16, 3) := by decide +kernel
theorem s69_82 {l0 l1 l2 l3 l4 : Option Value} {st : List Value} {q : Nat} {mi : Nat → Nat → Int32} {ml : Nat → Nat → Int64} {mr : Nat → Nat → Option Nat} {nx : Nat} {Q : Option Value → kMem → Prop} (h : kIs nx q 4 = true) : kJ 69 82 [l0, l1, l2, l3, l4] (.ref q :: st) (mi, ml, mr, nx) Q = kJ 69 85 [l0, l1, l2, l3, l4] (va_rf (mr q 1) :: st) (mi, ml, mr, nx) Q := kJ_next d69_82 (kg_getr 4 1 rfl h (by decide))
theorem d69_85 : decode (mB 69) 85 = .ok (.iload_n 2, 1) := by decide +kernel
theorem s69_85 {l0 l1 l3 l4 : Option Value} {st : List Value} {x : Int32} {m : kMem} {Q : Option Value → kMem → Prop} : kJ 69 85 [l0, l1, some (.int x), l3, l4] st m Q = kJ 69 86 [l0, l1, some (.int x), l3, l4] (.int x :: st) m Q := kJ_next d69_85 rfl
theorem d69_86 : decode (mB 69) 86 = .ok (.invokevirtual 177, 3) := by decide +kernel
theorem s69_86 {l0 l1 l2 l3 l4 : Option Value} {v0 : Int32} {v1 : Nat} {v2 : Int32} {v3 : Nat} {m : kMem} {Q : Option Value → kMem → Prop} (h : kIs m.2.2.2 v1 1 = true) : kJ 69 86 [l0, l1, l2, l3, l4] [.int v0, .ref v1, .int v2, .ref v3] m Q = kJ 21 0 [some (.ref v1), some (.int v0)] [] m (fun v m2 => kJ 69 89 [l0, l1, l2, l3, l4] (v.toList ++ [.int v2, .ref v3]) m2 Q) := kJ_call d69_86 (kg_callv 21 1 rfl rfl rfl rfl (Nat.le_of_ble_eq_true rfl) (Nat.le_of_ble_eq_true rfl) (Nat.le_of_ble_eq_true rfl) h rfl)
theorem d69_89 : decode (mB 69) 89 = .ok (.invokevirtual 180, 3) := by decide +kernel
theorem s69_89 {l0 l1 l2 l3 l4 : Option Value} {v0 : Int32} {v1 : Int32} {v2 : Nat} {m : kMem} {Q : Option Value → kMem → Prop} (h : kIs m.2.2.2 v2 0 = true) : kJ 69 89 [l0, l1, l2, l3, l4] [.int v0, .int v1, .ref v2] m Q = kJ 2 0 [some (.ref v2), some (.int v1), some (.int v0)] [] m (fun v m2 => kJ 69 92 [l0, l1, l2, l3, l4] (v.toList ++ []) m2 Q) := kJ_call d69_89 (kg_callv 2 2 rfl rfl rfl rfl (Nat.le_of_ble_eq_true rfl) (Nat.le_of_ble_eq_true rfl) (Nat.le_of_ble_eq_true rfl) h rfl)
theorem d69_92 : decode (mB 69) 92 = .ok (.iinc 4 1, 3) := by decide +kernel
theorem s69_92 {l0 l1 l2 l3 : Option Value} {st : List Value} {x : Int32} {m : kMem} {Q : Option Value → kMem → Prop} (hp : kNL l3 = true) : kJ 69 92 [l0, l1, l2, l3, some (.int x)] st m Q = kJ 69 95 [l0, l1, l2, l3, some (.int (x + (nI 1)))] st m Q := kJ_next d69_92 (kg_inc rfl (Nat.le_of_ble_eq_true rfl) hp)
theorem d69_95 : decode (mB 69) 95 = .ok (.goto (-49), 3) := by decide +kernel
theorem s69_95 {l0 l1 l2 l3 l4 : Option Value} {st : List Value} {m : kMem} {Q : Option Value → kMem → Prop} : kJ 69 95 [l0, l1, l2, l3, l4] st m Q = kJ 69 46 [l0, l1, l2, l3, l4] st m Q := kJ_next d69_95 rfl
theorem d69_98 : decode (mB 69) 98 = .ok (.aload_n 0, 1) := by decide +kernel
theorem s69_98 {l1 l2 l3 l4 : Option Value} {st : List Value} {x : Nat} {m : kMem} {Q : Option Value → kMem → Prop} : kJ 69 98 [some (.ref x), l1, l2, l3, l4] st m Q = kJ 69 99 [some (.ref x), l1, l2, l3, l4] (.ref x :: st) m Q := kJ_next d69_98 rfl
theorem d69_99 : decode (mB 69) 99 = .ok (.getfield 22, 3) := by decide +kernel
theorem s69_99 {l0 l1 l2 l3 l4 : Option Value} {st : List Value} {q : Nat} {mi : Nat → Nat → Int32} {ml : Nat → Nat → Int64} {mr : Nat → Nat → Option Nat} {nx : Nat} {Q : Option Value → kMem → Prop} (h : kIs nx q 4 = true) : kJ 69 99 [l0, l1, l2, l3, l4] (.ref q :: st) (mi, ml, mr, nx) Q = kJ 69 102 [l0, l1, l2, l3, l4] (va_rf (mr q 2) :: st) (mi, ml, mr, nx) Q := kJ_next d69_99 (kg_getr 4 2 rfl h (by decide))
theorem d69_102 : decode (mB 69) 102 = .ok (.iload_n 3, 1) := by decide +kernel
theorem s69_102 {l0 l1 l2 l4 : Option Value} {st : List Value} {x : Int32} {m : kMem} {Q : Option Value → kMem → Prop} : kJ 69 102 [l0, l1, l2, some (.int x), l4] st m Q = kJ 69 103 [l0, l1, l2, some (.int x), l4] (.int x :: st) m Q := kJ_next d69_102 rfl
theorem d69_103 : decode (mB 69) 103 = .ok (.invokevirtual 184, 3) := by decide +kernel
theorem s69_103 {l0 l1 l2 l3 l4 : Option Value} {v0 : Int32} {v1 : Nat} {m : kMem} {Q : Option Value → kMem → Prop} (h : kIs m.2.2.2 v1 0 = true) : kJ 69 103 [l0, l1, l2, l3, l4] [.int v0, .ref v1] m Q = kJ 3 0 [some (.ref v1), some (.int v0)] [] m (fun v m2 => kJ 69 106 [l0, l1, l2, l3, l4] (v.toList ++ []) m2 Q) := kJ_call d69_103 (kg_callv 3 1 rfl rfl rfl rfl (Nat.le_of_ble_eq_true rfl) (Nat.le_of_ble_eq_true rfl) (Nat.le_of_ble_eq_true rfl) h rfl)
theorem d69_106 : decode (mB 69) 106 = .ok (.ireturn, 1) := by decide +kernel
theorem s69_106 {l0 l1 l2 l3 l4 : Option Value} {x : Int32} {m : kMem} {Q : Option Value → kMem → Prop} : kJ 69 106 [l0, l1, l2, l3, l4] [.int x] m Q = Q (some (.int x)) m := kJ_ret d69_106 rfl
theorem d70_0 : decode (mB 70) 0 = .ok (.aload_n 0, 1) := by decide +kernel
theorem s70_0 {l1 l2 l3 : Option Value} {st : List Value} {x : Nat} {m : kMem} {Q : Option Value → kMem → Prop} : kJ 70 0 [some (.ref x), l1, l2, l3] st m Q = kJ 70 1 [some (.ref x), l1, l2, l3] (.ref x :: st) m Q := kJ_next d70_0 rfl
theorem d70_1 : decode (mB 70) 1 = .ok (.getfield 10, 3) := by decide +kernel
theorem s70_1 {l0 l1 l2 l3 : Option Value} {st : List Value} {q : Nat} {mi : Nat → Nat → Int32} {ml : Nat → Nat → Int64} {mr : Nat → Nat → Option Nat} {nx : Nat} {Q : Option Value → kMem → Prop} (h : kIs nx q 4 = true) : kJ 70 1 [l0, l1, l2, l3] (.ref q :: st) (mi, ml, mr, nx) Q = kJ 70 4 [l0, l1, l2, l3] (va_rf (mr q 0) :: st) (mi, ml, mr, nx) Q := kJ_next d70_1 (kg_getr 4 0 rfl h (by decide))
theorem d70_4 : decode (mB 70) 4 = .ok (.iload_n 1, 1) := by decide +kernel
theorem s70_4 {l0 l2 l3 : Option Value} {st : List Value} {x : Int32} {m : kMem} {Q : Option Value → kMem → Prop} : kJ 70 4 [l0, some (.int x), l2, l3] st m Q = kJ 70 5 [l0, some (.int x), l2, l3] (.int x :: st) m Q := kJ_next d70_4 rfl
theorem d70_5 : decode (mB 70) 5 = .ok (.invokevirtual 124, 3) := by decide +kernel
theorem s70_5 {l0 l1 l2 l3 : Option Value} {v0 : Int32} {v1 : Nat} {m : kMem} {Q : Option Value → kMem → Prop} (h : kIs m.2.2.2 v1 1 = true) : kJ 70 5 [l0, l1, l2, l3] [.int v0, .ref v1] m Q = kJ 8 0 [some (.ref v1), some (.int v0)] [] m (fun v m2 => kJ 70 8 [l0, l1, l2, l3] (v.toList ++ []) m2 Q) := kJ_call d70_5 (kg_callv 8 1 rfl rfl rfl rfl (Nat.le_of_ble_eq_true rfl) (Nat.le_of_ble_eq_true rfl) (Nat.le_of_ble_eq_true rfl) h rfl)
theorem d70_8 : decode (mB 70) 8 = .ok (.ifCond .eq 13, 3) := by decide +kernel
theorem s70_8 {l0 l1 l2 l3 : Option Value} {st : List Value} {a : Int32} {m : kMem} {Q : Option Value → kMem → Prop} : kJ 70 8 [l0, l1, l2, l3] (.int a :: st) m Q = (if a = 0 then kJ 70 21 [l0, l1, l2, l3] st m Q else kJ 70 11 [l0, l1, l2, l3] st m Q) := kJ_if d70_8 rfl (fun h => kJ_next d70_8 h) (fun h => kJ_next d70_8 h)
theorem d70_11 : decode (mB 70) 11 = .ok (.iload_n 2, 1) := by decide +kernel
theorem s70_11 {l0 l1 l3 : Option Value} {st : List Value} {x : Int32} {m : kMem} {Q : Option Value → kMem → Prop} : kJ 70 11 [l0, l1, some (.int x), l3] st m Q = kJ 70 12 [l0, l1, some (.int x), l3] (.int x :: st) m Q := kJ_next d70_11 rfl
theorem d70_12 : decode (mB 70) 12 = .ok (.iconst 0, 1) := by decide +kernel
theorem s70_12 {l0 l1 l2 l3 : Option Value} {st : List Value} {m : kMem} {Q : Option Value → kMem → Prop} : kJ 70 12 [l0, l1, l2, l3] st m Q = kJ 70 13 [l0, l1, l2, l3] (.int (nI 0) :: st) m Q := kJ_next d70_12 rfl
theorem d70_13 : decode (mB 70) 13 = .ok (.bipush 60, 2) := by decide +kernel
theorem s70_13 {l0 l1 l2 l3 : Option Value} {st : List Value} {m : kMem} {Q : Option Value → kMem → Prop} : kJ 70 13 [l0, l1, l2, l3] st m Q = kJ 70 15 [l0, l1, l2, l3] (.int (nI 60) :: st) m Q := kJ_next d70_13 rfl
theorem d70_15 : decode (mB 70) 15 = .ok (.invokestatic 55, 3) := by decide +kernel
theorem s70_15 {l0 l1 l2 l3 : Option Value} {v0 : Int32} {v1 : Int32} {v2 : Int32} {m : kMem} {Q : Option Value → kMem → Prop} : kJ 70 15 [l0, l1, l2, l3] [.int v0, .int v1, .int v2] m Q = kJ 90 0 [some (.int v2), some (.int v1), some (.int v0)] [] m (fun v m2 => kJ 70 18 [l0, l1, l2, l3] (v.toList ++ []) m2 Q) := kJ_call d70_15 (kg_calls 90 3 rfl rfl (Nat.le_of_ble_eq_true rfl) (Nat.le_of_ble_eq_true rfl) (Nat.le_of_ble_eq_true rfl) (Nat.le_of_ble_eq_true rfl))
theorem d70_18 : decode (mB 70) 18 = .ok (.ifCond .ne 5, 3) := by decide +kernel
theorem s70_18 {l0 l1 l2 l3 : Option Value} {st : List Value} {a : Int32} {m : kMem} {Q : Option Value → kMem → Prop} : kJ 70 18 [l0, l1, l2, l3] (.int a :: st) m Q = (if a = 0 then kJ 70 21 [l0, l1, l2, l3] st m Q else kJ 70 23 [l0, l1, l2, l3] st m Q) := kJ_if d70_18 rfl (fun h => kJ_next d70_18 h) (fun h => kJ_next d70_18 h)
theorem d70_21 : decode (mB 70) 21 = .ok (.iconst (-1), 1) := by decide +kernel
theorem s70_21 {l0 l1 l2 l3 : Option Value} {st : List Value} {m : kMem} {Q : Option Value → kMem → Prop} : kJ 70 21 [l0, l1, l2, l3] st m Q = kJ 70 22 [l0, l1, l2, l3] (.int (-1) :: st) m Q := kJ_next d70_21 rfl
theorem d70_22 : decode (mB 70) 22 = .ok (.ireturn, 1) := by decide +kernel
theorem s70_22 {l0 l1 l2 l3 : Option Value} {x : Int32} {m : kMem} {Q : Option Value → kMem → Prop} : kJ 70 22 [l0, l1, l2, l3] [.int x] m Q = Q (some (.int x)) m := kJ_ret d70_22 rfl
theorem d70_23 : decode (mB 70) 23 = .ok (.aload_n 0, 1) := by decide +kernel
theorem s70_23 {l1 l2 l3 : Option Value} {st : List Value} {x : Nat} {m : kMem} {Q : Option Value → kMem → Prop} : kJ 70 23 [some (.ref x), l1, l2, l3] st m Q = kJ 70 24 [some (.ref x), l1, l2, l3] (.ref x :: st) m Q := kJ_next d70_23 rfl
theorem d70_24 : decode (mB 70) 24 = .ok (.getfield 10, 3) := by decide +kernel
theorem s70_24 {l0 l1 l2 l3 : Option Value} {st : List Value} {q : Nat} {mi : Nat → Nat → Int32} {ml : Nat → Nat → Int64} {mr : Nat → Nat → Option Nat} {nx : Nat} {Q : Option Value → kMem → Prop} (h : kIs nx q 4 = true) : kJ 70 24 [l0, l1, l2, l3] (.ref q :: st) (mi, ml, mr, nx) Q = kJ 70 27 [l0, l1, l2, l3] (va_rf (mr q 0) :: st) (mi, ml, mr, nx) Q := kJ_next d70_24 (kg_getr 4 0 rfl h (by decide))
theorem d70_27 : decode (mB 70) 27 = .ok (.iload_n 1, 1) := by decide +kernel
theorem s70_27 {l0 l2 l3 : Option Value} {st : List Value} {x : Int32} {m : kMem} {Q : Option Value → kMem → Prop} : kJ 70 27 [l0, some (.int x), l2, l3] st m Q = kJ 70 28 [l0, some (.int x), l2, l3] (.int x :: st) m Q := kJ_next d70_27 rfl
theorem d70_28 : decode (mB 70) 28 = .ok (.invokevirtual 153, 3) := by decide +kernel
theorem s70_28 {l0 l1 l2 l3 : Option Value} {v0 : Int32} {v1 : Nat} {m : kMem} {Q : Option Value → kMem → Prop} (h : kIs m.2.2.2 v1 1 = true) : kJ 70 28 [l0, l1, l2, l3] [.int v0, .ref v1] m Q = kJ 9 0 [some (.ref v1), some (.int v0)] [] m (fun v m2 => kJ 70 31 [l0, l1, l2, l3] (v.toList ++ []) m2 Q) := kJ_call d70_28 (kg_callv 9 1 rfl rfl rfl rfl (Nat.le_of_ble_eq_true rfl) (Nat.le_of_ble_eq_true rfl) (Nat.le_of_ble_eq_true rfl) h rfl)
theorem d70_31 : decode (mB 70) 31 = .ok (.ifCond .ne 6, 3) := by decide +kernel
theorem s70_31 {l0 l1 l2 l3 : Option Value} {st : List Value} {a : Int32} {m : kMem} {Q : Option Value → kMem → Prop} : kJ 70 31 [l0, l1, l2, l3] (.int a :: st) m Q = (if a = 0 then kJ 70 34 [l0, l1, l2, l3] st m Q else kJ 70 37 [l0, l1, l2, l3] st m Q) := kJ_if d70_31 rfl (fun h => kJ_next d70_31 h) (fun h => kJ_next d70_31 h)
theorem d70_34 : decode (mB 70) 34 = .ok (.bipush (-2), 2) := by decide +kernel
theorem s70_34 {l0 l1 l2 l3 : Option Value} {st : List Value} {m : kMem} {Q : Option Value → kMem → Prop} : kJ 70 34 [l0, l1, l2, l3] st m Q = kJ 70 36 [l0, l1, l2, l3] (.int (-2) :: st) m Q := kJ_next d70_34 rfl
theorem d70_36 : decode (mB 70) 36 = .ok (.ireturn, 1) := by decide +kernel
theorem s70_36 {l0 l1 l2 l3 : Option Value} {x : Int32} {m : kMem} {Q : Option Value → kMem → Prop} : kJ 70 36 [l0, l1, l2, l3] [.int x] m Q = Q (some (.int x)) m := kJ_ret d70_36 rfl
theorem d70_37 : decode (mB 70) 37 = .ok (.iconst 0, 1) := by decide +kernel
theorem s70_37 {l0 l1 l2 l3 : Option Value} {st : List Value} {m : kMem} {Q : Option Value → kMem → Prop} : kJ 70 37 [l0, l1, l2, l3] st m Q = kJ 70 38 [l0, l1, l2, l3] (.int (nI 0) :: st) m Q := kJ_next d70_37 rfl
theorem d70_38 : decode (mB 70) 38 = .ok (.istore_n 3, 1) := by decide +kernel
theorem s70_38 {l0 l1 l2 l3 : Option Value} {st : List Value} {x : Int32} {m : kMem} {Q : Option Value → kMem → Prop} (hp : kNL l2 = true) : kJ 70 38 [l0, l1, l2, l3] (.int x :: st) m Q = kJ 70 39 [l0, l1, l2, some (.int x)] st m Q := kJ_next d70_38 (kg_sti (Nat.le_of_ble_eq_true rfl) hp)
theorem d70_39 : decode (mB 70) 39 = .ok (.iload_n 3, 1) := by decide +kernel
theorem s70_39 {l0 l1 l2 : Option Value} {st : List Value} {x : Int32} {m : kMem} {Q : Option Value → kMem → Prop} : kJ 70 39 [l0, l1, l2, some (.int x)] st m Q = kJ 70 40 [l0, l1, l2, some (.int x)] (.int x :: st) m Q := kJ_next d70_39 rfl
theorem d70_40 : decode (mB 70) 40 = .ok (.bipush 18, 2) := by decide +kernel
theorem s70_40 {l0 l1 l2 l3 : Option Value} {st : List Value} {m : kMem} {Q : Option Value → kMem → Prop} : kJ 70 40 [l0, l1, l2, l3] st m Q = kJ 70 42 [l0, l1, l2, l3] (.int (nI 18) :: st) m Q := kJ_next d70_40 rfl
theorem d70_42 : decode (mB 70) 42 = .ok (.if_icmp .gt 53, 3) := by decide +kernel
theorem s70_42 {l0 l1 l2 l3 : Option Value} {st : List Value} {a b : Int32} {m : kMem} {Q : Option Value → kMem → Prop} : kJ 70 42 [l0, l1, l2, l3] (.int b :: .int a :: st) m Q = (if b < a then kJ 70 95 [l0, l1, l2, l3] st m Q else kJ 70 45 [l0, l1, l2, l3] st m Q) := kJ_if d70_42 rfl (fun h => kJ_next d70_42 h) (fun h => kJ_next d70_42 h)
theorem d70_45 : decode (mB 70) 45 = .ok (.aload_n 0, 1) := by decide +kernel
theorem s70_45 {l1 l2 l3 : Option Value} {st : List Value} {x : Nat} {m : kMem} {Q : Option Value → kMem → Prop} : kJ 70 45 [some (.ref x), l1, l2, l3] st m Q = kJ 70 46 [some (.ref x), l1, l2, l3] (.ref x :: st) m Q := kJ_next d70_45 rfl
theorem d70_46 : decode (mB 70) 46 = .ok (.getfield 16, 3) := by decide +kernel
theorem s70_46 {l0 l1 l2 l3 : Option Value} {st : List Value} {q : Nat} {mi : Nat → Nat → Int32} {ml : Nat → Nat → Int64} {mr : Nat → Nat → Option Nat} {nx : Nat} {Q : Option Value → kMem → Prop} (h : kIs nx q 4 = true) : kJ 70 46 [l0, l1, l2, l3] (.ref q :: st) (mi, ml, mr, nx) Q = kJ 70 49 [l0, l1, l2, l3] (va_rf (mr q 1) :: st) (mi, ml, mr, nx) Q := kJ_next d70_46 (kg_getr 4 1 rfl h (by decide))
theorem d70_49 : decode (mB 70) 49 = .ok (.aload_n 0, 1) := by decide +kernel
theorem s70_49 {l1 l2 l3 : Option Value} {st : List Value} {x : Nat} {m : kMem} {Q : Option Value → kMem → Prop} : kJ 70 49 [some (.ref x), l1, l2, l3] st m Q = kJ 70 50 [some (.ref x), l1, l2, l3] (.ref x :: st) m Q := kJ_next d70_49 rfl
theorem d70_50 : decode (mB 70) 50 = .ok (.getfield 10, 3) := by decide +kernel
theorem s70_50 {l0 l1 l2 l3 : Option Value} {st : List Value} {q : Nat} {mi : Nat → Nat → Int32} {ml : Nat → Nat → Int64} {mr : Nat → Nat → Option Nat} {nx : Nat} {Q : Option Value → kMem → Prop} (h : kIs nx q 4 = true) : kJ 70 50 [l0, l1, l2, l3] (.ref q :: st) (mi, ml, mr, nx) Q = kJ 70 53 [l0, l1, l2, l3] (va_rf (mr q 0) :: st) (mi, ml, mr, nx) Q := kJ_next d70_50 (kg_getr 4 0 rfl h (by decide))
theorem d70_53 : decode (mB 70) 53 = .ok (.invokevirtual 81, 3) := by decide +kernel
theorem s70_53 {l0 l1 l2 l3 : Option Value} {v0 : Nat} {v1 : Nat} {m : kMem} {Q : Option Value → kMem → Prop} (h : kIs m.2.2.2 v1 1 = true) : kJ 70 53 [l0, l1, l2, l3] [.ref v0, .ref v1] m Q = kJ 6 0 [some (.ref v1), some (.ref v0)] [] m (fun v m2 => kJ 70 56 [l0, l1, l2, l3] (v.toList ++ []) m2 Q) := kJ_call d70_53 (kg_callv 6 1 rfl rfl rfl rfl (Nat.le_of_ble_eq_true rfl) (Nat.le_of_ble_eq_true rfl) (Nat.le_of_ble_eq_true rfl) h rfl)
theorem d70_56 : decode (mB 70) 56 = .ok (.aload_n 0, 1) := by decide +kernel
theorem s70_56 {l1 l2 l3 : Option Value} {st : List Value} {x : Nat} {m : kMem} {Q : Option Value → kMem → Prop} : kJ 70 56 [some (.ref x), l1, l2, l3] st m Q = kJ 70 57 [some (.ref x), l1, l2, l3] (.ref x :: st) m Q := kJ_next d70_56 rfl
theorem d70_57 : decode (mB 70) 57 = .ok (.getfield 16, 3) := by decide +kernel
theorem s70_57 {l0 l1 l2 l3 : Option Value} {st : List Value} {q : Nat} {mi : Nat → Nat → Int32} {ml : Nat → Nat → Int64} {mr : Nat → Nat → Option Nat} {nx : Nat} {Q : Option Value → kMem → Prop} (h : kIs nx q 4 = true) : kJ 70 57 [l0, l1, l2, l3] (.ref q :: st) (mi, ml, mr, nx) Q = kJ 70 60 [l0, l1, l2, l3] (va_rf (mr q 1) :: st) (mi, ml, mr, nx) Q := kJ_next d70_57 (kg_getr 4 1 rfl h (by decide))
theorem d70_60 : decode (mB 70) 60 = .ok (.getfield 136, 3) := by decide +kernel
theorem s70_60 {l0 l1 l2 l3 : Option Value} {st : List Value} {q : Nat} {mi : Nat → Nat → Int32} {ml : Nat → Nat → Int64} {mr : Nat → Nat → Option Nat} {nx : Nat} {Q : Option Value → kMem → Prop} (h : kIs nx q 1 = true) : kJ 70 60 [l0, l1, l2, l3] (.ref q :: st) (mi, ml, mr, nx) Q = kJ 70 63 [l0, l1, l2, l3] (va_rf (mr q 8) :: st) (mi, ml, mr, nx) Q := kJ_next d70_60 (kg_getr 1 8 rfl h (by decide))
theorem d70_63 : decode (mB 70) 63 = .ok (.iload_n 1, 1) := by decide +kernel
theorem s70_63 {l0 l2 l3 : Option Value} {st : List Value} {x : Int32} {m : kMem} {Q : Option Value → kMem → Prop} : kJ 70 63 [l0, some (.int x), l2, l3] st m Q = kJ 70 64 [l0, some (.int x), l2, l3] (.int x :: st) m Q := kJ_next d70_63 rfl
theorem d70_64 : decode (mB 70) 64 = .ok (.iload_n 3, 1) := by decide +kernel
theorem s70_64 {l0 l1 l2 : Option Value} {st : List Value} {x : Int32} {m : kMem} {Q : Option Value → kMem → Prop} : kJ 70 64 [l0, l1, l2, some (.int x)] st m Q = kJ 70 65 [l0, l1, l2, some (.int x)] (.int x :: st) m Q := kJ_next d70_64 rfl
theorem d70_65 : decode (mB 70) 65 = .ok (.iastore, 1) := by decide +kernel
theorem s70_65 {l0 l1 l2 l3 : Option Value} {st : List Value} {q : Nat} {i x : Int32} {mi : Nat → Nat → Int32} {ml : Nat → Nat → Int64} {mr : Nat → Nat → Option Nat} {nx : Nat} {Q : Option Value → kMem → Prop} (h : kIs nx q 10 = true) : kJ 70 65 [l0, l1, l2, l3] (.int x :: .int i :: .ref q :: st) (mi, ml, mr, nx) Q = (vp_in i (kAl q) ∧ kJ 70 66 [l0, l1, l2, l3] st (kup mi q i.toNatClampNeg x, ml, mr, nx) Q) := kg_astJ d70_65 rfl (kAr_of h)
theorem d70_66 : decode (mB 70) 66 = .ok (.aload_n 0, 1) := by decide +kernel
theorem s70_66 {l1 l2 l3 : Option Value} {st : List Value} {x : Nat} {m : kMem} {Q : Option Value → kMem → Prop} : kJ 70 66 [some (.ref x), l1, l2, l3] st m Q = kJ 70 67 [some (.ref x), l1, l2, l3] (.ref x :: st) m Q := kJ_next d70_66 rfl
theorem d70_67 : decode (mB 70) 67 = .ok (.getfield 16, 3) := by decide +kernel
theorem s70_67 {l0 l1 l2 l3 : Option Value} {st : List Value} {q : Nat} {mi : Nat → Nat → Int32} {ml : Nat → Nat → Int64} {mr : Nat → Nat → Option Nat} {nx : Nat} {Q : Option Value → kMem → Prop} (h : kIs nx q 4 = true) : kJ 70 67 [l0, l1, l2, l3] (.ref q :: st) (mi, ml, mr, nx) Q = kJ 70 70 [l0, l1, l2, l3] (va_rf (mr q 1) :: st) (mi, ml, mr, nx) Q := kJ_next d70_67 (kg_getr 4 1 rfl h (by decide))
theorem d70_70 : decode (mB 70) 70 = .ok (.iload_n 2, 1) := by decide +kernel
theorem s70_70 {l0 l1 l3 : Option Value} {st : List Value} {x : Int32} {m : kMem} {Q : Option Value → kMem → Prop} : kJ 70 70 [l0, l1, some (.int x), l3] st m Q = kJ 70 71 [l0, l1, some (.int x), l3] (.int x :: st) m Q := kJ_next d70_70 rfl
theorem d70_71 : decode (mB 70) 71 = .ok (.invokevirtual 163, 3) := by decide +kernel
theorem s70_71 {l0 l1 l2 l3 : Option Value} {v0 : Int32} {v1 : Nat} {m : kMem} {Q : Option Value → kMem → Prop} (h : kIs m.2.2.2 v1 1 = true) : kJ 70 71 [l0, l1, l2, l3] [.int v0, .ref v1] m Q = kJ 20 0 [some (.ref v1), some (.int v0), none] [] m (fun v m2 => kJ 70 74 [l0, l1, l2, l3] (v.toList ++ []) m2 Q) := kJ_call d70_71 (kg_callv 20 1 rfl rfl rfl rfl (Nat.le_of_ble_eq_true rfl) (Nat.le_of_ble_eq_true rfl) (Nat.le_of_ble_eq_true rfl) h rfl)
theorem d70_74 : decode (mB 70) 74 = .ok (.aload_n 0, 1) := by decide +kernel
theorem s70_74 {l1 l2 l3 : Option Value} {st : List Value} {x : Nat} {m : kMem} {Q : Option Value → kMem → Prop} : kJ 70 74 [some (.ref x), l1, l2, l3] st m Q = kJ 70 75 [some (.ref x), l1, l2, l3] (.ref x :: st) m Q := kJ_next d70_74 rfl
theorem d70_75 : decode (mB 70) 75 = .ok (.getfield 16, 3) := by decide +kernel
theorem s70_75 {l0 l1 l2 l3 : Option Value} {st : List Value} {q : Nat} {mi : Nat → Nat → Int32} {ml : Nat → Nat → Int64} {mr : Nat → Nat → Option Nat} {nx : Nat} {Q : Option Value → kMem → Prop} (h : kIs nx q 4 = true) : kJ 70 75 [l0, l1, l2, l3] (.ref q :: st) (mi, ml, mr, nx) Q = kJ 70 78 [l0, l1, l2, l3] (va_rf (mr q 1) :: st) (mi, ml, mr, nx) Q := kJ_next d70_75 (kg_getr 4 1 rfl h (by decide))
theorem d70_78 : decode (mB 70) 78 = .ok (.getfield 142, 3) := by decide +kernel
theorem s70_78 {l0 l1 l2 l3 : Option Value} {st : List Value} {q : Nat} {mi : Nat → Nat → Int32} {ml : Nat → Nat → Int64} {mr : Nat → Nat → Option Nat} {nx : Nat} {Q : Option Value → kMem → Prop} (h : kIs nx q 1 = true) : kJ 70 78 [l0, l1, l2, l3] (.ref q :: st) (mi, ml, mr, nx) Q = kJ 70 81 [l0, l1, l2, l3] (va_rf (mr q 10) :: st) (mi, ml, mr, nx) Q := kJ_next d70_78 (kg_getr 1 10 rfl h (by decide))
theorem d70_81 : decode (mB 70) 81 = .ok (.iload_n 1, 1) := by decide +kernel
theorem s70_81 {l0 l2 l3 : Option Value} {st : List Value} {x : Int32} {m : kMem} {Q : Option Value → kMem → Prop} : kJ 70 81 [l0, some (.int x), l2, l3] st m Q = kJ 70 82 [l0, some (.int x), l2, l3] (.int x :: st) m Q := kJ_next d70_81 rfl
theorem d70_82 : decode (mB 70) 82 = .ok (.iaload, 1) := by decide +kernel
theorem s70_82 {l0 l1 l2 l3 : Option Value} {st : List Value} {q : Nat} {i : Int32} {mi : Nat → Nat → Int32} {ml : Nat → Nat → Int64} {mr : Nat → Nat → Option Nat} {nx : Nat} {Q : Option Value → kMem → Prop} (h : kIs nx q 10 = true) : kJ 70 82 [l0, l1, l2, l3] (.int i :: .ref q :: st) (mi, ml, mr, nx) Q = (vp_in i (kAl q) ∧ kJ 70 83 [l0, l1, l2, l3] (.int (mi q i.toNatClampNeg) :: st) (mi, ml, mr, nx) Q) := kg_aldJ d70_82 rfl (kAr_of h)
theorem d70_83 : decode (mB 70) 83 = .ok (.iconst 2, 1) := by decide +kernel
theorem s70_83 {l0 l1 l2 l3 : Option Value} {st : List Value} {m : kMem} {Q : Option Value → kMem → Prop} : kJ 70 83 [l0, l1, l2, l3] st m Q = kJ 70 84 [l0, l1, l2, l3] (.int (nI 2) :: st) m Q := kJ_next d70_83 rfl
theorem d70_84 : decode (mB 70) 84 = .ok (.if_icmp .ne 5, 3) := by decide +kernel
theorem s70_84 {l0 l1 l2 l3 : Option Value} {st : List Value} {a b : Int32} {m : kMem} {Q : Option Value → kMem → Prop} : kJ 70 84 [l0, l1, l2, l3] (.int b :: .int a :: st) m Q = (if a = b then kJ 70 87 [l0, l1, l2, l3] st m Q else kJ 70 89 [l0, l1, l2, l3] st m Q) := kJ_if d70_84 rfl (fun h => kJ_next d70_84 h) (fun h => kJ_next d70_84 h)
theorem d70_87 : decode (mB 70) 87 = .ok (.iload_n 3, 1) := by decide +kernel
theorem s70_87 {l0 l1 l2 : Option Value} {st : List Value} {x : Int32} {m : kMem} {Q : Option Value → kMem → Prop} : kJ 70 87 [l0, l1, l2, some (.int x)] st m Q = kJ 70 88 [l0, l1, l2, some (.int x)] (.int x :: st) m Q := kJ_next d70_87 rfl
theorem d70_88 : decode (mB 70) 88 = .ok (.ireturn, 1) := by decide +kernel
theorem s70_88 {l0 l1 l2 l3 : Option Value} {x : Int32} {m : kMem} {Q : Option Value → kMem → Prop} : kJ 70 88 [l0, l1, l2, l3] [.int x] m Q = Q (some (.int x)) m := kJ_ret d70_88 rfl
theorem d70_89 : decode (mB 70) 89 = .ok (.iinc 3 1, 3) := by decide +kernel
theorem s70_89 {l0 l1 l2 : Option Value} {st : List Value} {x : Int32} {m : kMem} {Q : Option Value → kMem → Prop} (hp : kNL l2 = true) : kJ 70 89 [l0, l1, l2, some (.int x)] st m Q = kJ 70 92 [l0, l1, l2, some (.int (x + (nI 1)))] st m Q := kJ_next d70_89 (kg_inc rfl (Nat.le_of_ble_eq_true rfl) hp)
theorem d70_92 : decode (mB 70) 92 = .ok (.goto (-53), 3) := by decide +kernel
theorem s70_92 {l0 l1 l2 l3 : Option Value} {st : List Value} {m : kMem} {Q : Option Value → kMem → Prop} : kJ 70 92 [l0, l1, l2, l3] st m Q = kJ 70 39 [l0, l1, l2, l3] st m Q := kJ_next d70_92 rfl
theorem d70_95 : decode (mB 70) 95 = .ok (.bipush (-4), 2) := by decide +kernel
theorem s70_95 {l0 l1 l2 l3 : Option Value} {st : List Value} {m : kMem} {Q : Option Value → kMem → Prop} : kJ 70 95 [l0, l1, l2, l3] st m Q = kJ 70 97 [l0, l1, l2, l3] (.int (-4) :: st) m Q := kJ_next d70_95 rfl
theorem d70_97 : decode (mB 70) 97 = .ok (.ireturn, 1) := by decide +kernel
theorem s70_97 {l0 l1 l2 l3 : Option Value} {x : Int32} {m : kMem} {Q : Option Value → kMem → Prop} : kJ 70 97 [l0, l1, l2, l3] [.int x] m Q = Q (some (.int x)) m := kJ_ret d70_97 rfl
theorem d71_0 : decode (mB 71) 0 = .ok (.aload_n 0, 1) := by decide +kernel
theorem s71_0 {l1 l2 l3 l4 : Option Value} {st : List Value} {x : Nat} {m : kMem} {Q : Option Value → kMem → Prop} : kJ 71 0 [some (.ref x), l1, l2, l3, l4] st m Q = kJ 71 1 [some (.ref x), l1, l2, l3, l4] (.ref x :: st) m Q := kJ_next d71_0 rfl
theorem d71_1 : decode (mB 71) 1 = .ok (.getfield 10, 3) := by decide +kernel
theorem s71_1 {l0 l1 l2 l3 l4 : Option Value} {st : List Value} {q : Nat} {mi : Nat → Nat → Int32} {ml : Nat → Nat → Int64} {mr : Nat → Nat → Option Nat} {nx : Nat} {Q : Option Value → kMem → Prop} (h : kIs nx q 4 = true) : kJ 71 1 [l0, l1, l2, l3, l4] (.ref q :: st) (mi, ml, mr, nx) Q = kJ 71 4 [l0, l1, l2, l3, l4] (va_rf (mr q 0) :: st) (mi, ml, mr, nx) Q := kJ_next d71_1 (kg_getr 4 0 rfl h (by decide))
theorem d71_4 : decode (mB 71) 4 = .ok (.iload_n 1, 1) := by decide +kernel
theorem s71_4 {l0 l2 l3 l4 : Option Value} {st : List Value} {x : Int32} {m : kMem} {Q : Option Value → kMem → Prop} : kJ 71 4 [l0, some (.int x), l2, l3, l4] st m Q = kJ 71 5 [l0, some (.int x), l2, l3, l4] (.int x :: st) m Q := kJ_next d71_4 rfl
theorem d71_5 : decode (mB 71) 5 = .ok (.invokevirtual 124, 3) := by decide +kernel
theorem s71_5 {l0 l1 l2 l3 l4 : Option Value} {v0 : Int32} {v1 : Nat} {m : kMem} {Q : Option Value → kMem → Prop} (h : kIs m.2.2.2 v1 1 = true) : kJ 71 5 [l0, l1, l2, l3, l4] [.int v0, .ref v1] m Q = kJ 8 0 [some (.ref v1), some (.int v0)] [] m (fun v m2 => kJ 71 8 [l0, l1, l2, l3, l4] (v.toList ++ []) m2 Q) := kJ_call d71_5 (kg_callv 8 1 rfl rfl rfl rfl (Nat.le_of_ble_eq_true rfl) (Nat.le_of_ble_eq_true rfl) (Nat.le_of_ble_eq_true rfl) h rfl)
theorem d71_8 : decode (mB 71) 8 = .ok (.ifCond .eq 11, 3) := by decide +kernel
theorem s71_8 {l0 l1 l2 l3 l4 : Option Value} {st : List Value} {a : Int32} {m : kMem} {Q : Option Value → kMem → Prop} : kJ 71 8 [l0, l1, l2, l3, l4] (.int a :: st) m Q = (if a = 0 then kJ 71 19 [l0, l1, l2, l3, l4] st m Q else kJ 71 11 [l0, l1, l2, l3, l4] st m Q) := kJ_if d71_8 rfl (fun h => kJ_next d71_8 h) (fun h => kJ_next d71_8 h)
theorem d71_11 : decode (mB 71) 11 = .ok (.iload_n 2, 1) := by decide +kernel
theorem s71_11 {l0 l1 l3 l4 : Option Value} {st : List Value} {x : Int32} {m : kMem} {Q : Option Value → kMem → Prop} : kJ 71 11 [l0, l1, some (.int x), l3, l4] st m Q = kJ 71 12 [l0, l1, some (.int x), l3, l4] (.int x :: st) m Q := kJ_next d71_11 rfl
theorem d71_12 : decode (mB 71) 12 = .ok (.iload_n 3, 1) := by decide +kernel
theorem s71_12 {l0 l1 l2 l4 : Option Value} {st : List Value} {x : Int32} {m : kMem} {Q : Option Value → kMem → Prop} : kJ 71 12 [l0, l1, l2, some (.int x), l4] st m Q = kJ 71 13 [l0, l1, l2, some (.int x), l4] (.int x :: st) m Q := kJ_next d71_12 rfl
theorem d71_13 : decode (mB 71) 13 = .ok (.invokestatic 170, 3) := by decide +kernel
theorem s71_13 {l0 l1 l2 l3 l4 : Option Value} {v0 : Int32} {v1 : Int32} {m : kMem} {Q : Option Value → kMem → Prop} : kJ 71 13 [l0, l1, l2, l3, l4] [.int v0, .int v1] m Q = kJ 91 0 [some (.int v1), some (.int v0)] [] m (fun v m2 => kJ 71 16 [l0, l1, l2, l3, l4] (v.toList ++ []) m2 Q) := kJ_call d71_13 (kg_calls 91 2 rfl rfl (Nat.le_of_ble_eq_true rfl) (Nat.le_of_ble_eq_true rfl) (Nat.le_of_ble_eq_true rfl) (Nat.le_of_ble_eq_true rfl))
theorem d71_16 : decode (mB 71) 16 = .ok (.ifCond .ne 5, 3) := by decide +kernel
theorem s71_16 {l0 l1 l2 l3 l4 : Option Value} {st : List Value} {a : Int32} {m : kMem} {Q : Option Value → kMem → Prop} : kJ 71 16 [l0, l1, l2, l3, l4] (.int a :: st) m Q = (if a = 0 then kJ 71 19 [l0, l1, l2, l3, l4] st m Q else kJ 71 21 [l0, l1, l2, l3, l4] st m Q) := kJ_if d71_16 rfl (fun h => kJ_next d71_16 h) (fun h => kJ_next d71_16 h)
theorem d71_19 : decode (mB 71) 19 = .ok (.iconst (-1), 1) := by decide +kernel
theorem s71_19 {l0 l1 l2 l3 l4 : Option Value} {st : List Value} {m : kMem} {Q : Option Value → kMem → Prop} : kJ 71 19 [l0, l1, l2, l3, l4] st m Q = kJ 71 20 [l0, l1, l2, l3, l4] (.int (-1) :: st) m Q := kJ_next d71_19 rfl
theorem d71_20 : decode (mB 71) 20 = .ok (.ireturn, 1) := by decide +kernel
theorem s71_20 {l0 l1 l2 l3 l4 : Option Value} {x : Int32} {m : kMem} {Q : Option Value → kMem → Prop} : kJ 71 20 [l0, l1, l2, l3, l4] [.int x] m Q = Q (some (.int x)) m := kJ_ret d71_20 rfl
theorem d71_21 : decode (mB 71) 21 = .ok (.aload_n 0, 1) := by decide +kernel
theorem s71_21 {l1 l2 l3 l4 : Option Value} {st : List Value} {x : Nat} {m : kMem} {Q : Option Value → kMem → Prop} : kJ 71 21 [some (.ref x), l1, l2, l3, l4] st m Q = kJ 71 22 [some (.ref x), l1, l2, l3, l4] (.ref x :: st) m Q := kJ_next d71_21 rfl
theorem d71_22 : decode (mB 71) 22 = .ok (.getfield 10, 3) := by decide +kernel
theorem s71_22 {l0 l1 l2 l3 l4 : Option Value} {st : List Value} {q : Nat} {mi : Nat → Nat → Int32} {ml : Nat → Nat → Int64} {mr : Nat → Nat → Option Nat} {nx : Nat} {Q : Option Value → kMem → Prop} (h : kIs nx q 4 = true) : kJ 71 22 [l0, l1, l2, l3, l4] (.ref q :: st) (mi, ml, mr, nx) Q = kJ 71 25 [l0, l1, l2, l3, l4] (va_rf (mr q 0) :: st) (mi, ml, mr, nx) Q := kJ_next d71_22 (kg_getr 4 0 rfl h (by decide))
theorem d71_25 : decode (mB 71) 25 = .ok (.getfield 142, 3) := by decide +kernel
theorem s71_25 {l0 l1 l2 l3 l4 : Option Value} {st : List Value} {q : Nat} {mi : Nat → Nat → Int32} {ml : Nat → Nat → Int64} {mr : Nat → Nat → Option Nat} {nx : Nat} {Q : Option Value → kMem → Prop} (h : kIs nx q 1 = true) : kJ 71 25 [l0, l1, l2, l3, l4] (.ref q :: st) (mi, ml, mr, nx) Q = kJ 71 28 [l0, l1, l2, l3, l4] (va_rf (mr q 10) :: st) (mi, ml, mr, nx) Q := kJ_next d71_25 (kg_getr 1 10 rfl h (by decide))
theorem d71_28 : decode (mB 71) 28 = .ok (.iload_n 1, 1) := by decide +kernel
theorem s71_28 {l0 l2 l3 l4 : Option Value} {st : List Value} {x : Int32} {m : kMem} {Q : Option Value → kMem → Prop} : kJ 71 28 [l0, some (.int x), l2, l3, l4] st m Q = kJ 71 29 [l0, some (.int x), l2, l3, l4] (.int x :: st) m Q := kJ_next d71_28 rfl
theorem d71_29 : decode (mB 71) 29 = .ok (.iaload, 1) := by decide +kernel
theorem s71_29 {l0 l1 l2 l3 l4 : Option Value} {st : List Value} {q : Nat} {i : Int32} {mi : Nat → Nat → Int32} {ml : Nat → Nat → Int64} {mr : Nat → Nat → Option Nat} {nx : Nat} {Q : Option Value → kMem → Prop} (h : kIs nx q 10 = true) : kJ 71 29 [l0, l1, l2, l3, l4] (.int i :: .ref q :: st) (mi, ml, mr, nx) Q = (vp_in i (kAl q) ∧ kJ 71 30 [l0, l1, l2, l3, l4] (.int (mi q i.toNatClampNeg) :: st) (mi, ml, mr, nx) Q) := kg_aldJ d71_29 rfl (kAr_of h)
theorem d71_30 : decode (mB 71) 30 = .ok (.ifCond .eq 6, 3) := by decide +kernel
theorem s71_30 {l0 l1 l2 l3 l4 : Option Value} {st : List Value} {a : Int32} {m : kMem} {Q : Option Value → kMem → Prop} : kJ 71 30 [l0, l1, l2, l3, l4] (.int a :: st) m Q = (if a = 0 then kJ 71 36 [l0, l1, l2, l3, l4] st m Q else kJ 71 33 [l0, l1, l2, l3, l4] st m Q) := kJ_if d71_30 rfl (fun h => kJ_next d71_30 h) (fun h => kJ_next d71_30 h)
theorem d71_33 : decode (mB 71) 33 = .ok (.bipush (-2), 2) := by decide +kernel
theorem s71_33 {l0 l1 l2 l3 l4 : Option Value} {st : List Value} {m : kMem} {Q : Option Value → kMem → Prop} : kJ 71 33 [l0, l1, l2, l3, l4] st m Q = kJ 71 35 [l0, l1, l2, l3, l4] (.int (-2) :: st) m Q := kJ_next d71_33 rfl
theorem d71_35 : decode (mB 71) 35 = .ok (.ireturn, 1) := by decide +kernel
theorem s71_35 {l0 l1 l2 l3 l4 : Option Value} {x : Int32} {m : kMem} {Q : Option Value → kMem → Prop} : kJ 71 35 [l0, l1, l2, l3, l4] [.int x] m Q = Q (some (.int x)) m := kJ_ret d71_35 rfl
theorem d71_36 : decode (mB 71) 36 = .ok (.aload_n 0, 1) := by decide +kernel
theorem s71_36 {l1 l2 l3 l4 : Option Value} {st : List Value} {x : Nat} {m : kMem} {Q : Option Value → kMem → Prop} : kJ 71 36 [some (.ref x), l1, l2, l3, l4] st m Q = kJ 71 37 [some (.ref x), l1, l2, l3, l4] (.ref x :: st) m Q := kJ_next d71_36 rfl
theorem d71_37 : decode (mB 71) 37 = .ok (.getfield 22, 3) := by decide +kernel
theorem s71_37 {l0 l1 l2 l3 l4 : Option Value} {st : List Value} {q : Nat} {mi : Nat → Nat → Int32} {ml : Nat → Nat → Int64} {mr : Nat → Nat → Option Nat} {nx : Nat} {Q : Option Value → kMem → Prop} (h : kIs nx q 4 = true) : kJ 71 37 [l0, l1, l2, l3, l4] (.ref q :: st) (mi, ml, mr, nx) Q = kJ 71 40 [l0, l1, l2, l3, l4] (va_rf (mr q 2) :: st) (mi, ml, mr, nx) Q := kJ_next d71_37 (kg_getr 4 2 rfl h (by decide))
theorem d71_40 : decode (mB 71) 40 = .ok (.iconst (-1), 1) := by decide +kernel
theorem s71_40 {l0 l1 l2 l3 l4 : Option Value} {st : List Value} {m : kMem} {Q : Option Value → kMem → Prop} : kJ 71 40 [l0, l1, l2, l3, l4] st m Q = kJ 71 41 [l0, l1, l2, l3, l4] (.int (-1) :: st) m Q := kJ_next d71_40 rfl
theorem d71_41 : decode (mB 71) 41 = .ok (.invokevirtual 174, 3) := by decide +kernel
theorem s71_41 {l0 l1 l2 l3 l4 : Option Value} {v0 : Int32} {v1 : Nat} {m : kMem} {Q : Option Value → kMem → Prop} (h : kIs m.2.2.2 v1 0 = true) : kJ 71 41 [l0, l1, l2, l3, l4] [.int v0, .ref v1] m Q = kJ 1 0 [some (.ref v1), some (.int v0)] [] m (fun v m2 => kJ 71 44 [l0, l1, l2, l3, l4] (v.toList ++ []) m2 Q) := kJ_call d71_41 (kg_callv 1 1 rfl rfl rfl rfl (Nat.le_of_ble_eq_true rfl) (Nat.le_of_ble_eq_true rfl) (Nat.le_of_ble_eq_true rfl) h rfl)
theorem d71_44 : decode (mB 71) 44 = .ok (.iconst 0, 1) := by decide +kernel
theorem s71_44 {l0 l1 l2 l3 l4 : Option Value} {st : List Value} {m : kMem} {Q : Option Value → kMem → Prop} : kJ 71 44 [l0, l1, l2, l3, l4] st m Q = kJ 71 45 [l0, l1, l2, l3, l4] (.int (nI 0) :: st) m Q := kJ_next d71_44 rfl
theorem d71_45 : decode (mB 71) 45 = .ok (.istore 4, 2) := by decide +kernel
theorem s71_45 {l0 l1 l2 l3 l4 : Option Value} {st : List Value} {x : Int32} {m : kMem} {Q : Option Value → kMem → Prop} (hp : kNL l3 = true) : kJ 71 45 [l0, l1, l2, l3, l4] (.int x :: st) m Q = kJ 71 47 [l0, l1, l2, l3, some (.int x)] st m Q := kJ_next d71_45 (kg_sti (Nat.le_of_ble_eq_true rfl) hp)
theorem d71_47 : decode (mB 71) 47 = .ok (.iload 4, 2) := by decide +kernel
theorem s71_47 {l0 l1 l2 l3 : Option Value} {st : List Value} {x : Int32} {m : kMem} {Q : Option Value → kMem → Prop} : kJ 71 47 [l0, l1, l2, l3, some (.int x)] st m Q = kJ 71 49 [l0, l1, l2, l3, some (.int x)] (.int x :: st) m Q := kJ_next d71_47 rfl
theorem d71_49 : decode (mB 71) 49 = .ok (.aload_n 0, 1) := by decide +kernel
theorem s71_49 {l1 l2 l3 l4 : Option Value} {st : List Value} {x : Nat} {m : kMem} {Q : Option Value → kMem → Prop} : kJ 71 49 [some (.ref x), l1, l2, l3, l4] st m Q = kJ 71 50 [some (.ref x), l1, l2, l3, l4] (.ref x :: st) m Q := kJ_next d71_49 rfl
theorem d71_50 : decode (mB 71) 50 = .ok (.getfield 10, 3) := by decide +kernel
theorem s71_50 {l0 l1 l2 l3 l4 : Option Value} {st : List Value} {q : Nat} {mi : Nat → Nat → Int32} {ml : Nat → Nat → Int64} {mr : Nat → Nat → Option Nat} {nx : Nat} {Q : Option Value → kMem → Prop} (h : kIs nx q 4 = true) : kJ 71 50 [l0, l1, l2, l3, l4] (.ref q :: st) (mi, ml, mr, nx) Q = kJ 71 53 [l0, l1, l2, l3, l4] (va_rf (mr q 0) :: st) (mi, ml, mr, nx) Q := kJ_next d71_50 (kg_getr 4 0 rfl h (by decide))
theorem d71_53 : decode (mB 71) 53 = .ok (.getfield 88, 3) := by decide +kernel
theorem s71_53 {l0 l1 l2 l3 l4 : Option Value} {st : List Value} {q : Nat} {mi : Nat → Nat → Int32} {ml : Nat → Nat → Int64} {mr : Nat → Nat → Option Nat} {nx : Nat} {Q : Option Value → kMem → Prop} (h : kIs nx q 1 = true) : kJ 71 53 [l0, l1, l2, l3, l4] (.ref q :: st) (mi, ml, mr, nx) Q = kJ 71 56 [l0, l1, l2, l3, l4] (.int (mi q 0) :: st) (mi, ml, mr, nx) Q := kJ_next d71_53 (kg_geti 1 0 rfl h (by decide))
theorem d71_56 : decode (mB 71) 56 = .ok (.if_icmp .ge 48, 3) := by decide +kernel
theorem s71_56 {l0 l1 l2 l3 l4 : Option Value} {st : List Value} {a b : Int32} {m : kMem} {Q : Option Value → kMem → Prop} : kJ 71 56 [l0, l1, l2, l3, l4] (.int b :: .int a :: st) m Q = (if b ≤ a then kJ 71 104 [l0, l1, l2, l3, l4] st m Q else kJ 71 59 [l0, l1, l2, l3, l4] st m Q) := kJ_if d71_56 rfl (fun h => kJ_next d71_56 h) (fun h => kJ_next d71_56 h)
theorem d71_59 : decode (mB 71) 59 = .ok (.aload_n 0, 1) := by decide +kernel
theorem s71_59 {l1 l2 l3 l4 : Option Value} {st : List Value} {x : Nat} {m : kMem} {Q : Option Value → kMem → Prop} : kJ 71 59 [some (.ref x), l1, l2, l3, l4] st m Q = kJ 71 60 [some (.ref x), l1, l2, l3, l4] (.ref x :: st) m Q := kJ_next d71_59 rfl
theorem d71_60 : decode (mB 71) 60 = .ok (.getfield 16, 3) := by decide +kernel
theorem s71_60 {l0 l1 l2 l3 l4 : Option Value} {st : List Value} {q : Nat} {mi : Nat → Nat → Int32} {ml : Nat → Nat → Int64} {mr : Nat → Nat → Option Nat} {nx : Nat} {Q : Option Value → kMem → Prop} (h : kIs nx q 4 = true) : kJ 71 60 [l0, l1, l2, l3, l4] (.ref q :: st) (mi, ml, mr, nx) Q = kJ 71 63 [l0, l1, l2, l3, l4] (va_rf (mr q 1) :: st) (mi, ml, mr, nx) Q := kJ_next d71_60 (kg_getr 4 1 rfl h (by decide))
theorem d71_63 : decode (mB 71) 63 = .ok (.aload_n 0, 1) := by decide +kernel
theorem s71_63 {l1 l2 l3 l4 : Option Value} {st : List Value} {x : Nat} {m : kMem} {Q : Option Value → kMem → Prop} : kJ 71 63 [some (.ref x), l1, l2, l3, l4] st m Q = kJ 71 64 [some (.ref x), l1, l2, l3, l4] (.ref x :: st) m Q := kJ_next d71_63 rfl
theorem d71_64 : decode (mB 71) 64 = .ok (.getfield 10, 3) := by decide +kernel
theorem s71_64 {l0 l1 l2 l3 l4 : Option Value} {st : List Value} {q : Nat} {mi : Nat → Nat → Int32} {ml : Nat → Nat → Int64} {mr : Nat → Nat → Option Nat} {nx : Nat} {Q : Option Value → kMem → Prop} (h : kIs nx q 4 = true) : kJ 71 64 [l0, l1, l2, l3, l4] (.ref q :: st) (mi, ml, mr, nx) Q = kJ 71 67 [l0, l1, l2, l3, l4] (va_rf (mr q 0) :: st) (mi, ml, mr, nx) Q := kJ_next d71_64 (kg_getr 4 0 rfl h (by decide))
theorem d71_67 : decode (mB 71) 67 = .ok (.invokevirtual 81, 3) := by decide +kernel
theorem s71_67 {l0 l1 l2 l3 l4 : Option Value} {v0 : Nat} {v1 : Nat} {m : kMem} {Q : Option Value → kMem → Prop} (h : kIs m.2.2.2 v1 1 = true) : kJ 71 67 [l0, l1, l2, l3, l4] [.ref v0, .ref v1] m Q = kJ 6 0 [some (.ref v1), some (.ref v0)] [] m (fun v m2 => kJ 71 70 [l0, l1, l2, l3, l4] (v.toList ++ []) m2 Q) := kJ_call d71_67 (kg_callv 6 1 rfl rfl rfl rfl (Nat.le_of_ble_eq_true rfl) (Nat.le_of_ble_eq_true rfl) (Nat.le_of_ble_eq_true rfl) h rfl)
theorem d71_70 : decode (mB 71) 70 = .ok (.aload_n 0, 1) := by decide +kernel
theorem s71_70 {l1 l2 l3 l4 : Option Value} {st : List Value} {x : Nat} {m : kMem} {Q : Option Value → kMem → Prop} : kJ 71 70 [some (.ref x), l1, l2, l3, l4] st m Q = kJ 71 71 [some (.ref x), l1, l2, l3, l4] (.ref x :: st) m Q := kJ_next d71_70 rfl
theorem d71_71 : decode (mB 71) 71 = .ok (.getfield 16, 3) := by decide +kernel
theorem s71_71 {l0 l1 l2 l3 l4 : Option Value} {st : List Value} {q : Nat} {mi : Nat → Nat → Int32} {ml : Nat → Nat → Int64} {mr : Nat → Nat → Option Nat} {nx : Nat} {Q : Option Value → kMem → Prop} (h : kIs nx q 4 = true) : kJ 71 71 [l0, l1, l2, l3, l4] (.ref q :: st) (mi, ml, mr, nx) Q = kJ 71 74 [l0, l1, l2, l3, l4] (va_rf (mr q 1) :: st) (mi, ml, mr, nx) Q := kJ_next d71_71 (kg_getr 4 1 rfl h (by decide))
theorem d71_74 : decode (mB 71) 74 = .ok (.getfield 133, 3) := by decide +kernel
theorem s71_74 {l0 l1 l2 l3 l4 : Option Value} {st : List Value} {q : Nat} {mi : Nat → Nat → Int32} {ml : Nat → Nat → Int64} {mr : Nat → Nat → Option Nat} {nx : Nat} {Q : Option Value → kMem → Prop} (h : kIs nx q 1 = true) : kJ 71 74 [l0, l1, l2, l3, l4] (.ref q :: st) (mi, ml, mr, nx) Q = kJ 71 77 [l0, l1, l2, l3, l4] (va_rf (mr q 7) :: st) (mi, ml, mr, nx) Q := kJ_next d71_74 (kg_getr 1 7 rfl h (by decide))
theorem d71_77 : decode (mB 71) 77 = .ok (.iload_n 1, 1) := by decide +kernel
theorem s71_77 {l0 l2 l3 l4 : Option Value} {st : List Value} {x : Int32} {m : kMem} {Q : Option Value → kMem → Prop} : kJ 71 77 [l0, some (.int x), l2, l3, l4] st m Q = kJ 71 78 [l0, some (.int x), l2, l3, l4] (.int x :: st) m Q := kJ_next d71_77 rfl
theorem d71_78 : decode (mB 71) 78 = .ok (.iload 4, 2) := by decide +kernel
theorem s71_78 {l0 l1 l2 l3 : Option Value} {st : List Value} {x : Int32} {m : kMem} {Q : Option Value → kMem → Prop} : kJ 71 78 [l0, l1, l2, l3, some (.int x)] st m Q = kJ 71 80 [l0, l1, l2, l3, some (.int x)] (.int x :: st) m Q := kJ_next d71_78 rfl
theorem d71_80 : decode (mB 71) 80 = .ok (.iastore, 1) := by decide +kernel
theorem s71_80 {l0 l1 l2 l3 l4 : Option Value} {st : List Value} {q : Nat} {i x : Int32} {mi : Nat → Nat → Int32} {ml : Nat → Nat → Int64} {mr : Nat → Nat → Option Nat} {nx : Nat} {Q : Option Value → kMem → Prop} (h : kIs nx q 10 = true) : kJ 71 80 [l0, l1, l2, l3, l4] (.int x :: .int i :: .ref q :: st) (mi, ml, mr, nx) Q = (vp_in i (kAl q) ∧ kJ 71 81 [l0, l1, l2, l3, l4] st (kup mi q i.toNatClampNeg x, ml, mr, nx) Q) := kg_astJ d71_80 rfl (kAr_of h)
theorem d71_81 : decode (mB 71) 81 = .ok (.aload_n 0, 1) := by decide +kernel
theorem s71_81 {l1 l2 l3 l4 : Option Value} {st : List Value} {x : Nat} {m : kMem} {Q : Option Value → kMem → Prop} : kJ 71 81 [some (.ref x), l1, l2, l3, l4] st m Q = kJ 71 82 [some (.ref x), l1, l2, l3, l4] (.ref x :: st) m Q := kJ_next d71_81 rfl
theorem d71_82 : decode (mB 71) 82 = .ok (.getfield 22, 3) := by decide +kernel
theorem s71_82 {l0 l1 l2 l3 l4 : Option Value} {st : List Value} {q : Nat} {mi : Nat → Nat → Int32} {ml : Nat → Nat → Int64} {mr : Nat → Nat → Option Nat} {nx : Nat} {Q : Option Value → kMem → Prop} (h : kIs nx q 4 = true) : kJ 71 82 [l0, l1, l2, l3, l4] (.ref q :: st) (mi, ml, mr, nx) Q = kJ 71 85 [l0, l1, l2, l3, l4] (va_rf (mr q 2) :: st) (mi, ml, mr, nx) Q := kJ_next d71_82 (kg_getr 4 2 rfl h (by decide))
theorem d71_85 : decode (mB 71) 85 = .ok (.iload 4, 2) := by decide +kernel
theorem s71_85 {l0 l1 l2 l3 : Option Value} {st : List Value} {x : Int32} {m : kMem} {Q : Option Value → kMem → Prop} : kJ 71 85 [l0, l1, l2, l3, some (.int x)] st m Q = kJ 71 87 [l0, l1, l2, l3, some (.int x)] (.int x :: st) m Q := kJ_next d71_85 rfl
theorem d71_87 : decode (mB 71) 87 = .ok (.aload_n 0, 1) := by decide +kernel
theorem s71_87 {l1 l2 l3 l4 : Option Value} {st : List Value} {x : Nat} {m : kMem} {Q : Option Value → kMem → Prop} : kJ 71 87 [some (.ref x), l1, l2, l3, l4] st m Q = kJ 71 88 [some (.ref x), l1, l2, l3, l4] (.ref x :: st) m Q := kJ_next d71_87 rfl
theorem d71_88 : decode (mB 71) 88 = .ok (.getfield 16, 3) := by decide +kernel
theorem s71_88 {l0 l1 l2 l3 l4 : Option Value} {st : List Value} {q : Nat} {mi : Nat → Nat → Int32} {ml : Nat → Nat → Int64} {mr : Nat → Nat → Option Nat} {nx : Nat} {Q : Option Value → kMem → Prop} (h : kIs nx q 4 = true) : kJ 71 88 [l0, l1, l2, l3, l4] (.ref q :: st) (mi, ml, mr, nx) Q = kJ 71 91 [l0, l1, l2, l3, l4] (va_rf (mr q 1) :: st) (mi, ml, mr, nx) Q := kJ_next d71_88 (kg_getr 4 1 rfl h (by decide))
theorem d71_91 : decode (mB 71) 91 = .ok (.iload_n 2, 1) := by decide +kernel
theorem s71_91 {l0 l1 l3 l4 : Option Value} {st : List Value} {x : Int32} {m : kMem} {Q : Option Value → kMem → Prop} : kJ 71 91 [l0, l1, some (.int x), l3, l4] st m Q = kJ 71 92 [l0, l1, some (.int x), l3, l4] (.int x :: st) m Q := kJ_next d71_91 rfl
theorem d71_92 : decode (mB 71) 92 = .ok (.invokevirtual 177, 3) := by decide +kernel
theorem s71_92 {l0 l1 l2 l3 l4 : Option Value} {v0 : Int32} {v1 : Nat} {v2 : Int32} {v3 : Nat} {m : kMem} {Q : Option Value → kMem → Prop} (h : kIs m.2.2.2 v1 1 = true) : kJ 71 92 [l0, l1, l2, l3, l4] [.int v0, .ref v1, .int v2, .ref v3] m Q = kJ 21 0 [some (.ref v1), some (.int v0)] [] m (fun v m2 => kJ 71 95 [l0, l1, l2, l3, l4] (v.toList ++ [.int v2, .ref v3]) m2 Q) := kJ_call d71_92 (kg_callv 21 1 rfl rfl rfl rfl (Nat.le_of_ble_eq_true rfl) (Nat.le_of_ble_eq_true rfl) (Nat.le_of_ble_eq_true rfl) h rfl)
theorem d71_95 : decode (mB 71) 95 = .ok (.invokevirtual 180, 3) := by decide +kernel
theorem s71_95 {l0 l1 l2 l3 l4 : Option Value} {v0 : Int32} {v1 : Int32} {v2 : Nat} {m : kMem} {Q : Option Value → kMem → Prop} (h : kIs m.2.2.2 v2 0 = true) : kJ 71 95 [l0, l1, l2, l3, l4] [.int v0, .int v1, .ref v2] m Q = kJ 2 0 [some (.ref v2), some (.int v1), some (.int v0)] [] m (fun v m2 => kJ 71 98 [l0, l1, l2, l3, l4] (v.toList ++ []) m2 Q) := kJ_call d71_95 (kg_callv 2 2 rfl rfl rfl rfl (Nat.le_of_ble_eq_true rfl) (Nat.le_of_ble_eq_true rfl) (Nat.le_of_ble_eq_true rfl) h rfl)
theorem d71_98 : decode (mB 71) 98 = .ok (.iinc 4 1, 3) := by decide +kernel
theorem s71_98 {l0 l1 l2 l3 : Option Value} {st : List Value} {x : Int32} {m : kMem} {Q : Option Value → kMem → Prop} (hp : kNL l3 = true) : kJ 71 98 [l0, l1, l2, l3, some (.int x)] st m Q = kJ 71 101 [l0, l1, l2, l3, some (.int (x + (nI 1)))] st m Q := kJ_next d71_98 (kg_inc rfl (Nat.le_of_ble_eq_true rfl) hp)
theorem d71_101 : decode (mB 71) 101 = .ok (.goto (-54), 3) := by decide +kernel
theorem s71_101 {l0 l1 l2 l3 l4 : Option Value} {st : List Value} {m : kMem} {Q : Option Value → kMem → Prop} : kJ 71 101 [l0, l1, l2, l3, l4] st m Q = kJ 71 47 [l0, l1, l2, l3, l4] st m Q := kJ_next d71_101 rfl
theorem d71_104 : decode (mB 71) 104 = .ok (.aload_n 0, 1) := by decide +kernel
theorem s71_104 {l1 l2 l3 l4 : Option Value} {st : List Value} {x : Nat} {m : kMem} {Q : Option Value → kMem → Prop} : kJ 71 104 [some (.ref x), l1, l2, l3, l4] st m Q = kJ 71 105 [some (.ref x), l1, l2, l3, l4] (.ref x :: st) m Q := kJ_next d71_104 rfl
theorem d71_105 : decode (mB 71) 105 = .ok (.getfield 22, 3) := by decide +kernel
theorem s71_105 {l0 l1 l2 l3 l4 : Option Value} {st : List Value} {q : Nat} {mi : Nat → Nat → Int32} {ml : Nat → Nat → Int64} {mr : Nat → Nat → Option Nat} {nx : Nat} {Q : Option Value → kMem → Prop} (h : kIs nx q 4 = true) : kJ 71 105 [l0, l1, l2, l3, l4] (.ref q :: st) (mi, ml, mr, nx) Q = kJ 71 108 [l0, l1, l2, l3, l4] (va_rf (mr q 2) :: st) (mi, ml, mr, nx) Q := kJ_next d71_105 (kg_getr 4 2 rfl h (by decide))
theorem d71_108 : decode (mB 71) 108 = .ok (.iload_n 3, 1) := by decide +kernel
theorem s71_108 {l0 l1 l2 l4 : Option Value} {st : List Value} {x : Int32} {m : kMem} {Q : Option Value → kMem → Prop} : kJ 71 108 [l0, l1, l2, some (.int x), l4] st m Q = kJ 71 109 [l0, l1, l2, some (.int x), l4] (.int x :: st) m Q := kJ_next d71_108 rfl
theorem d71_109 : decode (mB 71) 109 = .ok (.invokevirtual 184, 3) := by decide +kernel
theorem s71_109 {l0 l1 l2 l3 l4 : Option Value} {v0 : Int32} {v1 : Nat} {m : kMem} {Q : Option Value → kMem → Prop} (h : kIs m.2.2.2 v1 0 = true) : kJ 71 109 [l0, l1, l2, l3, l4] [.int v0, .ref v1] m Q = kJ 3 0 [some (.ref v1), some (.int v0)] [] m (fun v m2 => kJ 71 112 [l0, l1, l2, l3, l4] (v.toList ++ []) m2 Q) := kJ_call d71_109 (kg_callv 3 1 rfl rfl rfl rfl (Nat.le_of_ble_eq_true rfl) (Nat.le_of_ble_eq_true rfl) (Nat.le_of_ble_eq_true rfl) h rfl)
theorem d71_112 : decode (mB 71) 112 = .ok (.ireturn, 1) := by decide +kernel
theorem s71_112 {l0 l1 l2 l3 l4 : Option Value} {x : Int32} {m : kMem} {Q : Option Value → kMem → Prop} : kJ 71 112 [l0, l1, l2, l3, l4] [.int x] m Q = Q (some (.int x)) m := kJ_ret d71_112 rfl
theorem d72_0 : decode (mB 72) 0 = .ok (.iload_n 1, 1) := by decide +kernel
theorem s72_0 {l0 l2 l3 l4 : Option Value} {st : List Value} {x : Int32} {m : kMem} {Q : Option Value → kMem → Prop} : kJ 72 0 [l0, some (.int x), l2, l3, l4] st m Q = kJ 72 1 [l0, some (.int x), l2, l3, l4] (.int x :: st) m Q := kJ_next d72_0 rfl
theorem d72_1 : decode (mB 72) 1 = .ok (.iload_n 2, 1) := by decide +kernel
theorem s72_1 {l0 l1 l3 l4 : Option Value} {st : List Value} {x : Int32} {m : kMem} {Q : Option Value → kMem → Prop} : kJ 72 1 [l0, l1, some (.int x), l3, l4] st m Q = kJ 72 2 [l0, l1, some (.int x), l3, l4] (.int x :: st) m Q := kJ_next d72_1 rfl
theorem d72_2 : decode (mB 72) 2 = .ok (.invokestatic 170, 3) := by decide +kernel
theorem s72_2 {l0 l1 l2 l3 l4 : Option Value} {v0 : Int32} {v1 : Int32} {m : kMem} {Q : Option Value → kMem → Prop} : kJ 72 2 [l0, l1, l2, l3, l4] [.int v0, .int v1] m Q = kJ 91 0 [some (.int v1), some (.int v0)] [] m (fun v m2 => kJ 72 5 [l0, l1, l2, l3, l4] (v.toList ++ []) m2 Q) := kJ_call d72_2 (kg_calls 91 2 rfl rfl (Nat.le_of_ble_eq_true rfl) (Nat.le_of_ble_eq_true rfl) (Nat.le_of_ble_eq_true rfl) (Nat.le_of_ble_eq_true rfl))
theorem d72_5 : decode (mB 72) 5 = .ok (.ifCond .ne 5, 3) := by decide +kernel
theorem s72_5 {l0 l1 l2 l3 l4 : Option Value} {st : List Value} {a : Int32} {m : kMem} {Q : Option Value → kMem → Prop} : kJ 72 5 [l0, l1, l2, l3, l4] (.int a :: st) m Q = (if a = 0 then kJ 72 8 [l0, l1, l2, l3, l4] st m Q else kJ 72 10 [l0, l1, l2, l3, l4] st m Q) := kJ_if d72_5 rfl (fun h => kJ_next d72_5 h) (fun h => kJ_next d72_5 h)
theorem d72_8 : decode (mB 72) 8 = .ok (.iconst (-1), 1) := by decide +kernel
theorem s72_8 {l0 l1 l2 l3 l4 : Option Value} {st : List Value} {m : kMem} {Q : Option Value → kMem → Prop} : kJ 72 8 [l0, l1, l2, l3, l4] st m Q = kJ 72 9 [l0, l1, l2, l3, l4] (.int (-1) :: st) m Q := kJ_next d72_8 rfl
theorem d72_9 : decode (mB 72) 9 = .ok (.ireturn, 1) := by decide +kernel
theorem s72_9 {l0 l1 l2 l3 l4 : Option Value} {x : Int32} {m : kMem} {Q : Option Value → kMem → Prop} : kJ 72 9 [l0, l1, l2, l3, l4] [.int x] m Q = Q (some (.int x)) m := kJ_ret d72_9 rfl
theorem d72_10 : decode (mB 72) 10 = .ok (.aload_n 0, 1) := by decide +kernel
theorem s72_10 {l1 l2 l3 l4 : Option Value} {st : List Value} {x : Nat} {m : kMem} {Q : Option Value → kMem → Prop} : kJ 72 10 [some (.ref x), l1, l2, l3, l4] st m Q = kJ 72 11 [some (.ref x), l1, l2, l3, l4] (.ref x :: st) m Q := kJ_next d72_10 rfl
theorem d72_11 : decode (mB 72) 11 = .ok (.getfield 22, 3) := by decide +kernel
theorem s72_11 {l0 l1 l2 l3 l4 : Option Value} {st : List Value} {q : Nat} {mi : Nat → Nat → Int32} {ml : Nat → Nat → Int64} {mr : Nat → Nat → Option Nat} {nx : Nat} {Q : Option Value → kMem → Prop} (h : kIs nx q 4 = true) : kJ 72 11 [l0, l1, l2, l3, l4] (.ref q :: st) (mi, ml, mr, nx) Q = kJ 72 14 [l0, l1, l2, l3, l4] (va_rf (mr q 2) :: st) (mi, ml, mr, nx) Q := kJ_next d72_11 (kg_getr 4 2 rfl h (by decide))
theorem d72_14 : decode (mB 72) 14 = .ok (.aload_n 0, 1) := by decide +kernel
theorem s72_14 {l1 l2 l3 l4 : Option Value} {st : List Value} {x : Nat} {m : kMem} {Q : Option Value → kMem → Prop} : kJ 72 14 [some (.ref x), l1, l2, l3, l4] st m Q = kJ 72 15 [some (.ref x), l1, l2, l3, l4] (.ref x :: st) m Q := kJ_next d72_14 rfl
theorem d72_15 : decode (mB 72) 15 = .ok (.iload_n 1, 1) := by decide +kernel
theorem s72_15 {l0 l2 l3 l4 : Option Value} {st : List Value} {x : Int32} {m : kMem} {Q : Option Value → kMem → Prop} : kJ 72 15 [l0, some (.int x), l2, l3, l4] st m Q = kJ 72 16 [l0, some (.int x), l2, l3, l4] (.int x :: st) m Q := kJ_next d72_15 rfl
theorem d72_16 : decode (mB 72) 16 = .ok (.invokevirtual 186, 3) := by decide +kernel
theorem s72_16 {l0 l1 l2 l3 l4 : Option Value} {v0 : Int32} {v1 : Nat} {v2 : Nat} {m : kMem} {Q : Option Value → kMem → Prop} (h : kIs m.2.2.2 v1 4 = true) : kJ 72 16 [l0, l1, l2, l3, l4] [.int v0, .ref v1, .ref v2] m Q = kJ 95 0 [some (.ref v1), some (.int v0)] [] m (fun v m2 => kJ 72 19 [l0, l1, l2, l3, l4] (v.toList ++ [.ref v2]) m2 Q) := kJ_call d72_16 (kg_callv 95 1 rfl rfl rfl rfl (Nat.le_of_ble_eq_true rfl) (Nat.le_of_ble_eq_true rfl) (Nat.le_of_ble_eq_true rfl) h rfl)
theorem d72_19 : decode (mB 72) 19 = .ok (.invokevirtual 174, 3) := by decide +kernel
theorem s72_19 {l0 l1 l2 l3 l4 : Option Value} {v0 : Int32} {v1 : Nat} {m : kMem} {Q : Option Value → kMem → Prop} (h : kIs m.2.2.2 v1 0 = true) : kJ 72 19 [l0, l1, l2, l3, l4] [.int v0, .ref v1] m Q = kJ 1 0 [some (.ref v1), some (.int v0)] [] m (fun v m2 => kJ 72 22 [l0, l1, l2, l3, l4] (v.toList ++ []) m2 Q) := kJ_call d72_19 (kg_callv 1 1 rfl rfl rfl rfl (Nat.le_of_ble_eq_true rfl) (Nat.le_of_ble_eq_true rfl) (Nat.le_of_ble_eq_true rfl) h rfl)
theorem d72_22 : decode (mB 72) 22 = .ok (.iconst 0, 1) := by decide +kernel
theorem s72_22 {l0 l1 l2 l3 l4 : Option Value} {st : List Value} {m : kMem} {Q : Option Value → kMem → Prop} : kJ 72 22 [l0, l1, l2, l3, l4] st m Q = kJ 72 23 [l0, l1, l2, l3, l4] (.int (nI 0) :: st) m Q := kJ_next d72_22 rfl
theorem d72_23 : decode (mB 72) 23 = .ok (.istore_n 3, 1) := by decide +kernel
theorem s72_23 {l0 l1 l2 l3 l4 : Option Value} {st : List Value} {x : Int32} {m : kMem} {Q : Option Value → kMem → Prop} (hp : kNL l2 = true) : kJ 72 23 [l0, l1, l2, l3, l4] (.int x :: st) m Q = kJ 72 24 [l0, l1, l2, some (.int x), l4] st m Q := kJ_next d72_23 (kg_sti (Nat.le_of_ble_eq_true rfl) hp)
theorem d72_24 : decode (mB 72) 24 = .ok (.iload_n 3, 1) := by decide +kernel
theorem s72_24 {l0 l1 l2 l4 : Option Value} {st : List Value} {x : Int32} {m : kMem} {Q : Option Value → kMem → Prop} : kJ 72 24 [l0, l1, l2, some (.int x), l4] st m Q = kJ 72 25 [l0, l1, l2, some (.int x), l4] (.int x :: st) m Q := kJ_next d72_24 rfl
theorem d72_25 : decode (mB 72) 25 = .ok (.aload_n 0, 1) := by decide +kernel
theorem s72_25 {l1 l2 l3 l4 : Option Value} {st : List Value} {x : Nat} {m : kMem} {Q : Option Value → kMem → Prop} : kJ 72 25 [some (.ref x), l1, l2, l3, l4] st m Q = kJ 72 26 [some (.ref x), l1, l2, l3, l4] (.ref x :: st) m Q := kJ_next d72_25 rfl
theorem d72_26 : decode (mB 72) 26 = .ok (.getfield 10, 3) := by decide +kernel
theorem s72_26 {l0 l1 l2 l3 l4 : Option Value} {st : List Value} {q : Nat} {mi : Nat → Nat → Int32} {ml : Nat → Nat → Int64} {mr : Nat → Nat → Option Nat} {nx : Nat} {Q : Option Value → kMem → Prop} (h : kIs nx q 4 = true) : kJ 72 26 [l0, l1, l2, l3, l4] (.ref q :: st) (mi, ml, mr, nx) Q = kJ 72 29 [l0, l1, l2, l3, l4] (va_rf (mr q 0) :: st) (mi, ml, mr, nx) Q := kJ_next d72_26 (kg_getr 4 0 rfl h (by decide))
theorem d72_29 : decode (mB 72) 29 = .ok (.getfield 88, 3) := by decide +kernel
theorem s72_29 {l0 l1 l2 l3 l4 : Option Value} {st : List Value} {q : Nat} {mi : Nat → Nat → Int32} {ml : Nat → Nat → Int64} {mr : Nat → Nat → Option Nat} {nx : Nat} {Q : Option Value → kMem → Prop} (h : kIs nx q 1 = true) : kJ 72 29 [l0, l1, l2, l3, l4] (.ref q :: st) (mi, ml, mr, nx) Q = kJ 72 32 [l0, l1, l2, l3, l4] (.int (mi q 0) :: st) (mi, ml, mr, nx) Q := kJ_next d72_29 (kg_geti 1 0 rfl h (by decide))
theorem d72_32 : decode (mB 72) 32 = .ok (.if_icmp .ge 103, 3) := by decide +kernel
theorem s72_32 {l0 l1 l2 l3 l4 : Option Value} {st : List Value} {a b : Int32} {m : kMem} {Q : Option Value → kMem → Prop} : kJ 72 32 [l0, l1, l2, l3, l4] (.int b :: .int a :: st) m Q = (if b ≤ a then kJ 72 135 [l0, l1, l2, l3, l4] st m Q else kJ 72 35 [l0, l1, l2, l3, l4] st m Q) := kJ_if d72_32 rfl (fun h => kJ_next d72_32 h) (fun h => kJ_next d72_32 h)
theorem d72_35 : decode (mB 72) 35 = .ok (.iload_n 3, 1) := by decide +kernel
theorem s72_35 {l0 l1 l2 l4 : Option Value} {st : List Value} {x : Int32} {m : kMem} {Q : Option Value → kMem → Prop} : kJ 72 35 [l0, l1, l2, some (.int x), l4] st m Q = kJ 72 36 [l0, l1, l2, some (.int x), l4] (.int x :: st) m Q := kJ_next d72_35 rfl
theorem d72_36 : decode (mB 72) 36 = .ok (.iconst 1, 1) := by decide +kernel
theorem s72_36 {l0 l1 l2 l3 l4 : Option Value} {st : List Value} {m : kMem} {Q : Option Value → kMem → Prop} : kJ 72 36 [l0, l1, l2, l3, l4] st m Q = kJ 72 37 [l0, l1, l2, l3, l4] (.int (nI 1) :: st) m Q := kJ_next d72_36 rfl
theorem d72_37 : decode (mB 72) 37 = .ok (.iadd, 1) := by decide +kernel
theorem s72_37 {l0 l1 l2 l3 l4 : Option Value} {st : List Value} {a b : Int32} {m : kMem} {Q : Option Value → kMem → Prop} : kJ 72 37 [l0, l1, l2, l3, l4] (.int b :: .int a :: st) m Q = kJ 72 38 [l0, l1, l2, l3, l4] (.int (a + b) :: st) m Q := kJ_next d72_37 rfl
theorem d72_38 : decode (mB 72) 38 = .ok (.istore 4, 2) := by decide +kernel
theorem s72_38 {l0 l1 l2 l3 l4 : Option Value} {st : List Value} {x : Int32} {m : kMem} {Q : Option Value → kMem → Prop} (hp : kNL l3 = true) : kJ 72 38 [l0, l1, l2, l3, l4] (.int x :: st) m Q = kJ 72 40 [l0, l1, l2, l3, some (.int x)] st m Q := kJ_next d72_38 (kg_sti (Nat.le_of_ble_eq_true rfl) hp)
theorem d72_40 : decode (mB 72) 40 = .ok (.iload 4, 2) := by decide +kernel
theorem s72_40 {l0 l1 l2 l3 : Option Value} {st : List Value} {x : Int32} {m : kMem} {Q : Option Value → kMem → Prop} : kJ 72 40 [l0, l1, l2, l3, some (.int x)] st m Q = kJ 72 42 [l0, l1, l2, l3, some (.int x)] (.int x :: st) m Q := kJ_next d72_40 rfl
theorem d72_42 : decode (mB 72) 42 = .ok (.aload_n 0, 1) := by decide +kernel
theorem s72_42 {l1 l2 l3 l4 : Option Value} {st : List Value} {x : Nat} {m : kMem} {Q : Option Value → kMem → Prop} : kJ 72 42 [some (.ref x), l1, l2, l3, l4] st m Q = kJ 72 43 [some (.ref x), l1, l2, l3, l4] (.ref x :: st) m Q := kJ_next d72_42 rfl
theorem d72_43 : decode (mB 72) 43 = .ok (.getfield 10, 3) := by decide +kernel
theorem s72_43 {l0 l1 l2 l3 l4 : Option Value} {st : List Value} {q : Nat} {mi : Nat → Nat → Int32} {ml : Nat → Nat → Int64} {mr : Nat → Nat → Option Nat} {nx : Nat} {Q : Option Value → kMem → Prop} (h : kIs nx q 4 = true) : kJ 72 43 [l0, l1, l2, l3, l4] (.ref q :: st) (mi, ml, mr, nx) Q = kJ 72 46 [l0, l1, l2, l3, l4] (va_rf (mr q 0) :: st) (mi, ml, mr, nx) Q := kJ_next d72_43 (kg_getr 4 0 rfl h (by decide))
theorem d72_46 : decode (mB 72) 46 = .ok (.getfield 88, 3) := by decide +kernel
theorem s72_46 {l0 l1 l2 l3 l4 : Option Value} {st : List Value} {q : Nat} {mi : Nat → Nat → Int32} {ml : Nat → Nat → Int64} {mr : Nat → Nat → Option Nat} {nx : Nat} {Q : Option Value → kMem → Prop} (h : kIs nx q 1 = true) : kJ 72 46 [l0, l1, l2, l3, l4] (.ref q :: st) (mi, ml, mr, nx) Q = kJ 72 49 [l0, l1, l2, l3, l4] (.int (mi q 0) :: st) (mi, ml, mr, nx) Q := kJ_next d72_46 (kg_geti 1 0 rfl h (by decide))
theorem d72_49 : decode (mB 72) 49 = .ok (.if_icmp .ge 80, 3) := by decide +kernel
theorem s72_49 {l0 l1 l2 l3 l4 : Option Value} {st : List Value} {a b : Int32} {m : kMem} {Q : Option Value → kMem → Prop} : kJ 72 49 [l0, l1, l2, l3, l4] (.int b :: .int a :: st) m Q = (if b ≤ a then kJ 72 129 [l0, l1, l2, l3, l4] st m Q else kJ 72 52 [l0, l1, l2, l3, l4] st m Q) := kJ_if d72_49 rfl (fun h => kJ_next d72_49 h) (fun h => kJ_next d72_49 h)
theorem d72_52 : decode (mB 72) 52 = .ok (.aload_n 0, 1) := by decide +kernel
theorem s72_52 {l1 l2 l3 l4 : Option Value} {st : List Value} {x : Nat} {m : kMem} {Q : Option Value → kMem → Prop} : kJ 72 52 [some (.ref x), l1, l2, l3, l4] st m Q = kJ 72 53 [some (.ref x), l1, l2, l3, l4] (.ref x :: st) m Q := kJ_next d72_52 rfl
theorem d72_53 : decode (mB 72) 53 = .ok (.getfield 16, 3) := by decide +kernel
theorem s72_53 {l0 l1 l2 l3 l4 : Option Value} {st : List Value} {q : Nat} {mi : Nat → Nat → Int32} {ml : Nat → Nat → Int64} {mr : Nat → Nat → Option Nat} {nx : Nat} {Q : Option Value → kMem → Prop} (h : kIs nx q 4 = true) : kJ 72 53 [l0, l1, l2, l3, l4] (.ref q :: st) (mi, ml, mr, nx) Q = kJ 72 56 [l0, l1, l2, l3, l4] (va_rf (mr q 1) :: st) (mi, ml, mr, nx) Q := kJ_next d72_53 (kg_getr 4 1 rfl h (by decide))
theorem d72_56 : decode (mB 72) 56 = .ok (.aload_n 0, 1) := by decide +kernel
theorem s72_56 {l1 l2 l3 l4 : Option Value} {st : List Value} {x : Nat} {m : kMem} {Q : Option Value → kMem → Prop} : kJ 72 56 [some (.ref x), l1, l2, l3, l4] st m Q = kJ 72 57 [some (.ref x), l1, l2, l3, l4] (.ref x :: st) m Q := kJ_next d72_56 rfl
theorem d72_57 : decode (mB 72) 57 = .ok (.getfield 10, 3) := by decide +kernel
theorem s72_57 {l0 l1 l2 l3 l4 : Option Value} {st : List Value} {q : Nat} {mi : Nat → Nat → Int32} {ml : Nat → Nat → Int64} {mr : Nat → Nat → Option Nat} {nx : Nat} {Q : Option Value → kMem → Prop} (h : kIs nx q 4 = true) : kJ 72 57 [l0, l1, l2, l3, l4] (.ref q :: st) (mi, ml, mr, nx) Q = kJ 72 60 [l0, l1, l2, l3, l4] (va_rf (mr q 0) :: st) (mi, ml, mr, nx) Q := kJ_next d72_57 (kg_getr 4 0 rfl h (by decide))
theorem d72_60 : decode (mB 72) 60 = .ok (.invokevirtual 81, 3) := by decide +kernel
theorem s72_60 {l0 l1 l2 l3 l4 : Option Value} {v0 : Nat} {v1 : Nat} {m : kMem} {Q : Option Value → kMem → Prop} (h : kIs m.2.2.2 v1 1 = true) : kJ 72 60 [l0, l1, l2, l3, l4] [.ref v0, .ref v1] m Q = kJ 6 0 [some (.ref v1), some (.ref v0)] [] m (fun v m2 => kJ 72 63 [l0, l1, l2, l3, l4] (v.toList ++ []) m2 Q) := kJ_call d72_60 (kg_callv 6 1 rfl rfl rfl rfl (Nat.le_of_ble_eq_true rfl) (Nat.le_of_ble_eq_true rfl) (Nat.le_of_ble_eq_true rfl) h rfl)
theorem d72_63 : decode (mB 72) 63 = .ok (.aload_n 0, 1) := by decide +kernel
theorem s72_63 {l1 l2 l3 l4 : Option Value} {st : List Value} {x : Nat} {m : kMem} {Q : Option Value → kMem → Prop} : kJ 72 63 [some (.ref x), l1, l2, l3, l4] st m Q = kJ 72 64 [some (.ref x), l1, l2, l3, l4] (.ref x :: st) m Q := kJ_next d72_63 rfl
theorem d72_64 : decode (mB 72) 64 = .ok (.getfield 16, 3) := by decide +kernel
theorem s72_64 {l0 l1 l2 l3 l4 : Option Value} {st : List Value} {q : Nat} {mi : Nat → Nat → Int32} {ml : Nat → Nat → Int64} {mr : Nat → Nat → Option Nat} {nx : Nat} {Q : Option Value → kMem → Prop} (h : kIs nx q 4 = true) : kJ 72 64 [l0, l1, l2, l3, l4] (.ref q :: st) (mi, ml, mr, nx) Q = kJ 72 67 [l0, l1, l2, l3, l4] (va_rf (mr q 1) :: st) (mi, ml, mr, nx) Q := kJ_next d72_64 (kg_getr 4 1 rfl h (by decide))
theorem d72_67 : decode (mB 72) 67 = .ok (.getfield 115, 3) := by decide +kernel
theorem s72_67 {l0 l1 l2 l3 l4 : Option Value} {st : List Value} {q : Nat} {mi : Nat → Nat → Int32} {ml : Nat → Nat → Int64} {mr : Nat → Nat → Option Nat} {nx : Nat} {Q : Option Value → kMem → Prop} (h : kIs nx q 1 = true) : kJ 72 67 [l0, l1, l2, l3, l4] (.ref q :: st) (mi, ml, mr, nx) Q = kJ 72 70 [l0, l1, l2, l3, l4] (va_rf (mr q 2) :: st) (mi, ml, mr, nx) Q := kJ_next d72_67 (kg_getr 1 2 rfl h (by decide))
theorem d72_70 : decode (mB 72) 70 = .ok (.iload_n 3, 1) := by decide +kernel
theorem s72_70 {l0 l1 l2 l4 : Option Value} {st : List Value} {x : Int32} {m : kMem} {Q : Option Value → kMem → Prop} : kJ 72 70 [l0, l1, l2, some (.int x), l4] st m Q = kJ 72 71 [l0, l1, l2, some (.int x), l4] (.int x :: st) m Q := kJ_next d72_70 rfl
theorem d72_71 : decode (mB 72) 71 = .ok (.aload_n 0, 1) := by decide +kernel
theorem s72_71 {l1 l2 l3 l4 : Option Value} {st : List Value} {x : Nat} {m : kMem} {Q : Option Value → kMem → Prop} : kJ 72 71 [some (.ref x), l1, l2, l3, l4] st m Q = kJ 72 72 [some (.ref x), l1, l2, l3, l4] (.ref x :: st) m Q := kJ_next d72_71 rfl
theorem d72_72 : decode (mB 72) 72 = .ok (.getfield 10, 3) := by decide +kernel
theorem s72_72 {l0 l1 l2 l3 l4 : Option Value} {st : List Value} {q : Nat} {mi : Nat → Nat → Int32} {ml : Nat → Nat → Int64} {mr : Nat → Nat → Option Nat} {nx : Nat} {Q : Option Value → kMem → Prop} (h : kIs nx q 4 = true) : kJ 72 72 [l0, l1, l2, l3, l4] (.ref q :: st) (mi, ml, mr, nx) Q = kJ 72 75 [l0, l1, l2, l3, l4] (va_rf (mr q 0) :: st) (mi, ml, mr, nx) Q := kJ_next d72_72 (kg_getr 4 0 rfl h (by decide))
theorem d72_75 : decode (mB 72) 75 = .ok (.getfield 115, 3) := by decide +kernel
theorem s72_75 {l0 l1 l2 l3 l4 : Option Value} {st : List Value} {q : Nat} {mi : Nat → Nat → Int32} {ml : Nat → Nat → Int64} {mr : Nat → Nat → Option Nat} {nx : Nat} {Q : Option Value → kMem → Prop} (h : kIs nx q 1 = true) : kJ 72 75 [l0, l1, l2, l3, l4] (.ref q :: st) (mi, ml, mr, nx) Q = kJ 72 78 [l0, l1, l2, l3, l4] (va_rf (mr q 2) :: st) (mi, ml, mr, nx) Q := kJ_next d72_75 (kg_getr 1 2 rfl h (by decide))
theorem d72_78 : decode (mB 72) 78 = .ok (.iload 4, 2) := by decide +kernel
theorem s72_78 {l0 l1 l2 l3 : Option Value} {st : List Value} {x : Int32} {m : kMem} {Q : Option Value → kMem → Prop} : kJ 72 78 [l0, l1, l2, l3, some (.int x)] st m Q = kJ 72 80 [l0, l1, l2, l3, some (.int x)] (.int x :: st) m Q := kJ_next d72_78 rfl
theorem d72_80 : decode (mB 72) 80 = .ok (.iaload, 1) := by decide +kernel
theorem s72_80 {l0 l1 l2 l3 l4 : Option Value} {st : List Value} {q : Nat} {i : Int32} {mi : Nat → Nat → Int32} {ml : Nat → Nat → Int64} {mr : Nat → Nat → Option Nat} {nx : Nat} {Q : Option Value → kMem → Prop} (h : kIs nx q 10 = true) : kJ 72 80 [l0, l1, l2, l3, l4] (.int i :: .ref q :: st) (mi, ml, mr, nx) Q = (vp_in i (kAl q) ∧ kJ 72 81 [l0, l1, l2, l3, l4] (.int (mi q i.toNatClampNeg) :: st) (mi, ml, mr, nx) Q) := kg_aldJ d72_80 rfl (kAr_of h)
theorem d72_81 : decode (mB 72) 81 = .ok (.iastore, 1) := by decide +kernel
theorem s72_81 {l0 l1 l2 l3 l4 : Option Value} {st : List Value} {q : Nat} {i x : Int32} {mi : Nat → Nat → Int32} {ml : Nat → Nat → Int64} {mr : Nat → Nat → Option Nat} {nx : Nat} {Q : Option Value → kMem → Prop} (h : kIs nx q 10 = true) : kJ 72 81 [l0, l1, l2, l3, l4] (.int x :: .int i :: .ref q :: st) (mi, ml, mr, nx) Q = (vp_in i (kAl q) ∧ kJ 72 82 [l0, l1, l2, l3, l4] st (kup mi q i.toNatClampNeg x, ml, mr, nx) Q) := kg_astJ d72_81 rfl (kAr_of h)
theorem d72_82 : decode (mB 72) 82 = .ok (.aload_n 0, 1) := by decide +kernel
theorem s72_82 {l1 l2 l3 l4 : Option Value} {st : List Value} {x : Nat} {m : kMem} {Q : Option Value → kMem → Prop} : kJ 72 82 [some (.ref x), l1, l2, l3, l4] st m Q = kJ 72 83 [some (.ref x), l1, l2, l3, l4] (.ref x :: st) m Q := kJ_next d72_82 rfl
theorem d72_83 : decode (mB 72) 83 = .ok (.getfield 16, 3) := by decide +kernel
theorem s72_83 {l0 l1 l2 l3 l4 : Option Value} {st : List Value} {q : Nat} {mi : Nat → Nat → Int32} {ml : Nat → Nat → Int64} {mr : Nat → Nat → Option Nat} {nx : Nat} {Q : Option Value → kMem → Prop} (h : kIs nx q 4 = true) : kJ 72 83 [l0, l1, l2, l3, l4] (.ref q :: st) (mi, ml, mr, nx) Q = kJ 72 86 [l0, l1, l2, l3, l4] (va_rf (mr q 1) :: st) (mi, ml, mr, nx) Q := kJ_next d72_83 (kg_getr 4 1 rfl h (by decide))
theorem d72_86 : decode (mB 72) 86 = .ok (.getfield 115, 3) := by decide +kernel
theorem s72_86 {l0 l1 l2 l3 l4 : Option Value} {st : List Value} {q : Nat} {mi : Nat → Nat → Int32} {ml : Nat → Nat → Int64} {mr : Nat → Nat → Option Nat} {nx : Nat} {Q : Option Value → kMem → Prop} (h : kIs nx q 1 = true) : kJ 72 86 [l0, l1, l2, l3, l4] (.ref q :: st) (mi, ml, mr, nx) Q = kJ 72 89 [l0, l1, l2, l3, l4] (va_rf (mr q 2) :: st) (mi, ml, mr, nx) Q := kJ_next d72_86 (kg_getr 1 2 rfl h (by decide))
theorem d72_89 : decode (mB 72) 89 = .ok (.iload 4, 2) := by decide +kernel
theorem s72_89 {l0 l1 l2 l3 : Option Value} {st : List Value} {x : Int32} {m : kMem} {Q : Option Value → kMem → Prop} : kJ 72 89 [l0, l1, l2, l3, some (.int x)] st m Q = kJ 72 91 [l0, l1, l2, l3, some (.int x)] (.int x :: st) m Q := kJ_next d72_89 rfl
theorem d72_91 : decode (mB 72) 91 = .ok (.aload_n 0, 1) := by decide +kernel
theorem s72_91 {l1 l2 l3 l4 : Option Value} {st : List Value} {x : Nat} {m : kMem} {Q : Option Value → kMem → Prop} : kJ 72 91 [some (.ref x), l1, l2, l3, l4] st m Q = kJ 72 92 [some (.ref x), l1, l2, l3, l4] (.ref x :: st) m Q := kJ_next d72_91 rfl
theorem d72_92 : decode (mB 72) 92 = .ok (.getfield 10, 3) := by decide +kernel
theorem s72_92 {l0 l1 l2 l3 l4 : Option Value} {st : List Value} {q : Nat} {mi : Nat → Nat → Int32} {ml : Nat → Nat → Int64} {mr : Nat → Nat → Option Nat} {nx : Nat} {Q : Option Value → kMem → Prop} (h : kIs nx q 4 = true) : kJ 72 92 [l0, l1, l2, l3, l4] (.ref q :: st) (mi, ml, mr, nx) Q = kJ 72 95 [l0, l1, l2, l3, l4] (va_rf (mr q 0) :: st) (mi, ml, mr, nx) Q := kJ_next d72_92 (kg_getr 4 0 rfl h (by decide))
theorem d72_95 : decode (mB 72) 95 = .ok (.getfield 115, 3) := by decide +kernel
theorem s72_95 {l0 l1 l2 l3 l4 : Option Value} {st : List Value} {q : Nat} {mi : Nat → Nat → Int32} {ml : Nat → Nat → Int64} {mr : Nat → Nat → Option Nat} {nx : Nat} {Q : Option Value → kMem → Prop} (h : kIs nx q 1 = true) : kJ 72 95 [l0, l1, l2, l3, l4] (.ref q :: st) (mi, ml, mr, nx) Q = kJ 72 98 [l0, l1, l2, l3, l4] (va_rf (mr q 2) :: st) (mi, ml, mr, nx) Q := kJ_next d72_95 (kg_getr 1 2 rfl h (by decide))
theorem d72_98 : decode (mB 72) 98 = .ok (.iload_n 3, 1) := by decide +kernel
theorem s72_98 {l0 l1 l2 l4 : Option Value} {st : List Value} {x : Int32} {m : kMem} {Q : Option Value → kMem → Prop} : kJ 72 98 [l0, l1, l2, some (.int x), l4] st m Q = kJ 72 99 [l0, l1, l2, some (.int x), l4] (.int x :: st) m Q := kJ_next d72_98 rfl
theorem d72_99 : decode (mB 72) 99 = .ok (.iaload, 1) := by decide +kernel
theorem s72_99 {l0 l1 l2 l3 l4 : Option Value} {st : List Value} {q : Nat} {i : Int32} {mi : Nat → Nat → Int32} {ml : Nat → Nat → Int64} {mr : Nat → Nat → Option Nat} {nx : Nat} {Q : Option Value → kMem → Prop} (h : kIs nx q 10 = true) : kJ 72 99 [l0, l1, l2, l3, l4] (.int i :: .ref q :: st) (mi, ml, mr, nx) Q = (vp_in i (kAl q) ∧ kJ 72 100 [l0, l1, l2, l3, l4] (.int (mi q i.toNatClampNeg) :: st) (mi, ml, mr, nx) Q) := kg_aldJ d72_99 rfl (kAr_of h)
theorem d72_100 : decode (mB 72) 100 = .ok (.iastore, 1) := by decide +kernel
theorem s72_100 {l0 l1 l2 l3 l4 : Option Value} {st : List Value} {q : Nat} {i x : Int32} {mi : Nat → Nat → Int32} {ml : Nat → Nat → Int64} {mr : Nat → Nat → Option Nat} {nx : Nat} {Q : Option Value → kMem → Prop} (h : kIs nx q 10 = true) : kJ 72 100 [l0, l1, l2, l3, l4] (.int x :: .int i :: .ref q :: st) (mi, ml, mr, nx) Q = (vp_in i (kAl q) ∧ kJ 72 101 [l0, l1, l2, l3, l4] st (kup mi q i.toNatClampNeg x, ml, mr, nx) Q) := kg_astJ d72_100 rfl (kAr_of h)
theorem d72_101 : decode (mB 72) 101 = .ok (.aload_n 0, 1) := by decide +kernel
theorem s72_101 {l1 l2 l3 l4 : Option Value} {st : List Value} {x : Nat} {m : kMem} {Q : Option Value → kMem → Prop} : kJ 72 101 [some (.ref x), l1, l2, l3, l4] st m Q = kJ 72 102 [some (.ref x), l1, l2, l3, l4] (.ref x :: st) m Q := kJ_next d72_101 rfl
theorem d72_102 : decode (mB 72) 102 = .ok (.getfield 22, 3) := by decide +kernel
theorem s72_102 {l0 l1 l2 l3 l4 : Option Value} {st : List Value} {q : Nat} {mi : Nat → Nat → Int32} {ml : Nat → Nat → Int64} {mr : Nat → Nat → Option Nat} {nx : Nat} {Q : Option Value → kMem → Prop} (h : kIs nx q 4 = true) : kJ 72 102 [l0, l1, l2, l3, l4] (.ref q :: st) (mi, ml, mr, nx) Q = kJ 72 105 [l0, l1, l2, l3, l4] (va_rf (mr q 2) :: st) (mi, ml, mr, nx) Q := kJ_next d72_102 (kg_getr 4 2 rfl h (by decide))
theorem d72_105 : decode (mB 72) 105 = .ok (.bipush 10, 2) := by decide +kernel
theorem s72_105 {l0 l1 l2 l3 l4 : Option Value} {st : List Value} {m : kMem} {Q : Option Value → kMem → Prop} : kJ 72 105 [l0, l1, l2, l3, l4] st m Q = kJ 72 107 [l0, l1, l2, l3, l4] (.int (nI 10) :: st) m Q := kJ_next d72_105 rfl
theorem d72_107 : decode (mB 72) 107 = .ok (.iload_n 3, 1) := by decide +kernel
theorem s72_107 {l0 l1 l2 l4 : Option Value} {st : List Value} {x : Int32} {m : kMem} {Q : Option Value → kMem → Prop} : kJ 72 107 [l0, l1, l2, some (.int x), l4] st m Q = kJ 72 108 [l0, l1, l2, some (.int x), l4] (.int x :: st) m Q := kJ_next d72_107 rfl
theorem d72_108 : decode (mB 72) 108 = .ok (.imul, 1) := by decide +kernel
theorem s72_108 {l0 l1 l2 l3 l4 : Option Value} {st : List Value} {a b : Int32} {m : kMem} {Q : Option Value → kMem → Prop} : kJ 72 108 [l0, l1, l2, l3, l4] (.int b :: .int a :: st) m Q = kJ 72 109 [l0, l1, l2, l3, l4] (.int (a * b) :: st) m Q := kJ_next d72_108 rfl
theorem d72_109 : decode (mB 72) 109 = .ok (.iload 4, 2) := by decide +kernel
theorem s72_109 {l0 l1 l2 l3 : Option Value} {st : List Value} {x : Int32} {m : kMem} {Q : Option Value → kMem → Prop} : kJ 72 109 [l0, l1, l2, l3, some (.int x)] st m Q = kJ 72 111 [l0, l1, l2, l3, some (.int x)] (.int x :: st) m Q := kJ_next d72_109 rfl
theorem d72_111 : decode (mB 72) 111 = .ok (.iadd, 1) := by decide +kernel
theorem s72_111 {l0 l1 l2 l3 l4 : Option Value} {st : List Value} {a b : Int32} {m : kMem} {Q : Option Value → kMem → Prop} : kJ 72 111 [l0, l1, l2, l3, l4] (.int b :: .int a :: st) m Q = kJ 72 112 [l0, l1, l2, l3, l4] (.int (a + b) :: st) m Q := kJ_next d72_111 rfl
theorem d72_112 : decode (mB 72) 112 = .ok (.aload_n 0, 1) := by decide +kernel
theorem s72_112 {l1 l2 l3 l4 : Option Value} {st : List Value} {x : Nat} {m : kMem} {Q : Option Value → kMem → Prop} : kJ 72 112 [some (.ref x), l1, l2, l3, l4] st m Q = kJ 72 113 [some (.ref x), l1, l2, l3, l4] (.ref x :: st) m Q := kJ_next d72_112 rfl
theorem d72_113 : decode (mB 72) 113 = .ok (.getfield 16, 3) := by decide +kernel
theorem s72_113 {l0 l1 l2 l3 l4 : Option Value} {st : List Value} {q : Nat} {mi : Nat → Nat → Int32} {ml : Nat → Nat → Int64} {mr : Nat → Nat → Option Nat} {nx : Nat} {Q : Option Value → kMem → Prop} (h : kIs nx q 4 = true) : kJ 72 113 [l0, l1, l2, l3, l4] (.ref q :: st) (mi, ml, mr, nx) Q = kJ 72 116 [l0, l1, l2, l3, l4] (va_rf (mr q 1) :: st) (mi, ml, mr, nx) Q := kJ_next d72_113 (kg_getr 4 1 rfl h (by decide))
theorem d72_116 : decode (mB 72) 116 = .ok (.iload_n 1, 1) := by decide +kernel
theorem s72_116 {l0 l2 l3 l4 : Option Value} {st : List Value} {x : Int32} {m : kMem} {Q : Option Value → kMem → Prop} : kJ 72 116 [l0, some (.int x), l2, l3, l4] st m Q = kJ 72 117 [l0, some (.int x), l2, l3, l4] (.int x :: st) m Q := kJ_next d72_116 rfl
theorem d72_117 : decode (mB 72) 117 = .ok (.invokevirtual 177, 3) := by decide +kernel
theorem s72_117 {l0 l1 l2 l3 l4 : Option Value} {v0 : Int32} {v1 : Nat} {v2 : Int32} {v3 : Nat} {m : kMem} {Q : Option Value → kMem → Prop} (h : kIs m.2.2.2 v1 1 = true) : kJ 72 117 [l0, l1, l2, l3, l4] [.int v0, .ref v1, .int v2, .ref v3] m Q = kJ 21 0 [some (.ref v1), some (.int v0)] [] m (fun v m2 => kJ 72 120 [l0, l1, l2, l3, l4] (v.toList ++ [.int v2, .ref v3]) m2 Q) := kJ_call d72_117 (kg_callv 21 1 rfl rfl rfl rfl (Nat.le_of_ble_eq_true rfl) (Nat.le_of_ble_eq_true rfl) (Nat.le_of_ble_eq_true rfl) h rfl)
theorem d72_120 : decode (mB 72) 120 = .ok (.invokevirtual 180, 3) := by decide +kernel
theorem s72_120 {l0 l1 l2 l3 l4 : Option Value} {v0 : Int32} {v1 : Int32} {v2 : Nat} {m : kMem} {Q : Option Value → kMem → Prop} (h : kIs m.2.2.2 v2 0 = true) : kJ 72 120 [l0, l1, l2, l3, l4] [.int v0, .int v1, .ref v2] m Q = kJ 2 0 [some (.ref v2), some (.int v1), some (.int v0)] [] m (fun v m2 => kJ 72 123 [l0, l1, l2, l3, l4] (v.toList ++ []) m2 Q) := kJ_call d72_120 (kg_callv 2 2 rfl rfl rfl rfl (Nat.le_of_ble_eq_true rfl) (Nat.le_of_ble_eq_true rfl) (Nat.le_of_ble_eq_true rfl) h rfl)
theorem d72_123 : decode (mB 72) 123 = .ok (.iinc 4 1, 3) := by decide +kernel
theorem s72_123 {l0 l1 l2 l3 : Option Value} {st : List Value} {x : Int32} {m : kMem} {Q : Option Value → kMem → Prop} (hp : kNL l3 = true) : kJ 72 123 [l0, l1, l2, l3, some (.int x)] st m Q = kJ 72 126 [l0, l1, l2, l3, some (.int (x + (nI 1)))] st m Q := kJ_next d72_123 (kg_inc rfl (Nat.le_of_ble_eq_true rfl) hp)
theorem d72_126 : decode (mB 72) 126 = .ok (.goto (-86), 3) := by decide +kernel
theorem s72_126 {l0 l1 l2 l3 l4 : Option Value} {st : List Value} {m : kMem} {Q : Option Value → kMem → Prop} : kJ 72 126 [l0, l1, l2, l3, l4] st m Q = kJ 72 40 [l0, l1, l2, l3, l4] st m Q := kJ_next d72_126 rfl
theorem d72_129 : decode (mB 72) 129 = .ok (.iinc 3 1, 3) := by decide +kernel
theorem s72_129 {l0 l1 l2 l4 : Option Value} {st : List Value} {x : Int32} {m : kMem} {Q : Option Value → kMem → Prop} (hp : kNL l2 = true) : kJ 72 129 [l0, l1, l2, some (.int x), l4] st m Q = kJ 72 132 [l0, l1, l2, some (.int (x + (nI 1))), l4] st m Q := kJ_next d72_129 (kg_inc rfl (Nat.le_of_ble_eq_true rfl) hp)
theorem d72_132 : decode (mB 72) 132 = .ok (.goto (-108), 3) := by decide +kernel
theorem s72_132 {l0 l1 l2 l3 l4 : Option Value} {st : List Value} {m : kMem} {Q : Option Value → kMem → Prop} : kJ 72 132 [l0, l1, l2, l3, l4] st m Q = kJ 72 24 [l0, l1, l2, l3, l4] st m Q := kJ_next d72_132 rfl
theorem d72_135 : decode (mB 72) 135 = .ok (.aload_n 0, 1) := by decide +kernel
theorem s72_135 {l1 l2 l3 l4 : Option Value} {st : List Value} {x : Nat} {m : kMem} {Q : Option Value → kMem → Prop} : kJ 72 135 [some (.ref x), l1, l2, l3, l4] st m Q = kJ 72 136 [some (.ref x), l1, l2, l3, l4] (.ref x :: st) m Q := kJ_next d72_135 rfl
theorem d72_136 : decode (mB 72) 136 = .ok (.getfield 22, 3) := by decide +kernel
theorem s72_136 {l0 l1 l2 l3 l4 : Option Value} {st : List Value} {q : Nat} {mi : Nat → Nat → Int32} {ml : Nat → Nat → Int64} {mr : Nat → Nat → Option Nat} {nx : Nat} {Q : Option Value → kMem → Prop} (h : kIs nx q 4 = true) : kJ 72 136 [l0, l1, l2, l3, l4] (.ref q :: st) (mi, ml, mr, nx) Q = kJ 72 139 [l0, l1, l2, l3, l4] (va_rf (mr q 2) :: st) (mi, ml, mr, nx) Q := kJ_next d72_136 (kg_getr 4 2 rfl h (by decide))
theorem d72_139 : decode (mB 72) 139 = .ok (.iload_n 2, 1) := by decide +kernel
theorem s72_139 {l0 l1 l3 l4 : Option Value} {st : List Value} {x : Int32} {m : kMem} {Q : Option Value → kMem → Prop} : kJ 72 139 [l0, l1, some (.int x), l3, l4] st m Q = kJ 72 140 [l0, l1, some (.int x), l3, l4] (.int x :: st) m Q := kJ_next d72_139 rfl
theorem d72_140 : decode (mB 72) 140 = .ok (.invokevirtual 184, 3) := by decide +kernel
theorem s72_140 {l0 l1 l2 l3 l4 : Option Value} {v0 : Int32} {v1 : Nat} {m : kMem} {Q : Option Value → kMem → Prop} (h : kIs m.2.2.2 v1 0 = true) : kJ 72 140 [l0, l1, l2, l3, l4] [.int v0, .ref v1] m Q = kJ 3 0 [some (.ref v1), some (.int v0)] [] m (fun v m2 => kJ 72 143 [l0, l1, l2, l3, l4] (v.toList ++ []) m2 Q) := kJ_call d72_140 (kg_callv 3 1 rfl rfl rfl rfl (Nat.le_of_ble_eq_true rfl) (Nat.le_of_ble_eq_true rfl) (Nat.le_of_ble_eq_true rfl) h rfl)
theorem d72_143 : decode (mB 72) 143 = .ok (.ireturn, 1) := by decide +kernel
theorem s72_143 {l0 l1 l2 l3 l4 : Option Value} {x : Int32} {m : kMem} {Q : Option Value → kMem → Prop} : kJ 72 143 [l0, l1, l2, l3, l4] [.int x] m Q = Q (some (.int x)) m := kJ_ret d72_143 rfl
theorem d73_0 : decode (mB 73) 0 = .ok (.iload_n 1, 1) := by decide +kernel
theorem s73_0 {l0 l2 l3 : Option Value} {st : List Value} {x : Int32} {m : kMem} {Q : Option Value → kMem → Prop} : kJ 73 0 [l0, some (.int x), l2, l3] st m Q = kJ 73 1 [l0, some (.int x), l2, l3] (.int x :: st) m Q := kJ_next d73_0 rfl
theorem d73_1 : decode (mB 73) 1 = .ok (.iload_n 2, 1) := by decide +kernel
theorem s73_1 {l0 l1 l3 : Option Value} {st : List Value} {x : Int32} {m : kMem} {Q : Option Value → kMem → Prop} : kJ 73 1 [l0, l1, some (.int x), l3] st m Q = kJ 73 2 [l0, l1, some (.int x), l3] (.int x :: st) m Q := kJ_next d73_1 rfl
theorem d73_2 : decode (mB 73) 2 = .ok (.invokestatic 170, 3) := by decide +kernel
theorem s73_2 {l0 l1 l2 l3 : Option Value} {v0 : Int32} {v1 : Int32} {m : kMem} {Q : Option Value → kMem → Prop} : kJ 73 2 [l0, l1, l2, l3] [.int v0, .int v1] m Q = kJ 91 0 [some (.int v1), some (.int v0)] [] m (fun v m2 => kJ 73 5 [l0, l1, l2, l3] (v.toList ++ []) m2 Q) := kJ_call d73_2 (kg_calls 91 2 rfl rfl (Nat.le_of_ble_eq_true rfl) (Nat.le_of_ble_eq_true rfl) (Nat.le_of_ble_eq_true rfl) (Nat.le_of_ble_eq_true rfl))
theorem d73_5 : decode (mB 73) 5 = .ok (.ifCond .ne 5, 3) := by decide +kernel
theorem s73_5 {l0 l1 l2 l3 : Option Value} {st : List Value} {a : Int32} {m : kMem} {Q : Option Value → kMem → Prop} : kJ 73 5 [l0, l1, l2, l3] (.int a :: st) m Q = (if a = 0 then kJ 73 8 [l0, l1, l2, l3] st m Q else kJ 73 10 [l0, l1, l2, l3] st m Q) := kJ_if d73_5 rfl (fun h => kJ_next d73_5 h) (fun h => kJ_next d73_5 h)
theorem d73_8 : decode (mB 73) 8 = .ok (.iconst (-1), 1) := by decide +kernel
theorem s73_8 {l0 l1 l2 l3 : Option Value} {st : List Value} {m : kMem} {Q : Option Value → kMem → Prop} : kJ 73 8 [l0, l1, l2, l3] st m Q = kJ 73 9 [l0, l1, l2, l3] (.int (-1) :: st) m Q := kJ_next d73_8 rfl
theorem d73_9 : decode (mB 73) 9 = .ok (.ireturn, 1) := by decide +kernel
theorem s73_9 {l0 l1 l2 l3 : Option Value} {x : Int32} {m : kMem} {Q : Option Value → kMem → Prop} : kJ 73 9 [l0, l1, l2, l3] [.int x] m Q = Q (some (.int x)) m := kJ_ret d73_9 rfl
theorem d73_10 : decode (mB 73) 10 = .ok (.aload_n 0, 1) := by decide +kernel
theorem s73_10 {l1 l2 l3 : Option Value} {st : List Value} {x : Nat} {m : kMem} {Q : Option Value → kMem → Prop} : kJ 73 10 [some (.ref x), l1, l2, l3] st m Q = kJ 73 11 [some (.ref x), l1, l2, l3] (.ref x :: st) m Q := kJ_next d73_10 rfl
theorem d73_11 : decode (mB 73) 11 = .ok (.getfield 22, 3) := by decide +kernel
theorem s73_11 {l0 l1 l2 l3 : Option Value} {st : List Value} {q : Nat} {mi : Nat → Nat → Int32} {ml : Nat → Nat → Int64} {mr : Nat → Nat → Option Nat} {nx : Nat} {Q : Option Value → kMem → Prop} (h : kIs nx q 4 = true) : kJ 73 11 [l0, l1, l2, l3] (.ref q :: st) (mi, ml, mr, nx) Q = kJ 73 14 [l0, l1, l2, l3] (va_rf (mr q 2) :: st) (mi, ml, mr, nx) Q := kJ_next d73_11 (kg_getr 4 2 rfl h (by decide))
theorem d73_14 : decode (mB 73) 14 = .ok (.aload_n 0, 1) := by decide +kernel
theorem s73_14 {l1 l2 l3 : Option Value} {st : List Value} {x : Nat} {m : kMem} {Q : Option Value → kMem → Prop} : kJ 73 14 [some (.ref x), l1, l2, l3] st m Q = kJ 73 15 [some (.ref x), l1, l2, l3] (.ref x :: st) m Q := kJ_next d73_14 rfl
theorem d73_15 : decode (mB 73) 15 = .ok (.iload_n 1, 1) := by decide +kernel
theorem s73_15 {l0 l2 l3 : Option Value} {st : List Value} {x : Int32} {m : kMem} {Q : Option Value → kMem → Prop} : kJ 73 15 [l0, some (.int x), l2, l3] st m Q = kJ 73 16 [l0, some (.int x), l2, l3] (.int x :: st) m Q := kJ_next d73_15 rfl
theorem d73_16 : decode (mB 73) 16 = .ok (.invokevirtual 186, 3) := by decide +kernel
theorem s73_16 {l0 l1 l2 l3 : Option Value} {v0 : Int32} {v1 : Nat} {v2 : Nat} {m : kMem} {Q : Option Value → kMem → Prop} (h : kIs m.2.2.2 v1 4 = true) : kJ 73 16 [l0, l1, l2, l3] [.int v0, .ref v1, .ref v2] m Q = kJ 95 0 [some (.ref v1), some (.int v0)] [] m (fun v m2 => kJ 73 19 [l0, l1, l2, l3] (v.toList ++ [.ref v2]) m2 Q) := kJ_call d73_16 (kg_callv 95 1 rfl rfl rfl rfl (Nat.le_of_ble_eq_true rfl) (Nat.le_of_ble_eq_true rfl) (Nat.le_of_ble_eq_true rfl) h rfl)
theorem d73_19 : decode (mB 73) 19 = .ok (.invokevirtual 174, 3) := by decide +kernel
theorem s73_19 {l0 l1 l2 l3 : Option Value} {v0 : Int32} {v1 : Nat} {m : kMem} {Q : Option Value → kMem → Prop} (h : kIs m.2.2.2 v1 0 = true) : kJ 73 19 [l0, l1, l2, l3] [.int v0, .ref v1] m Q = kJ 1 0 [some (.ref v1), some (.int v0)] [] m (fun v m2 => kJ 73 22 [l0, l1, l2, l3] (v.toList ++ []) m2 Q) := kJ_call d73_19 (kg_callv 1 1 rfl rfl rfl rfl (Nat.le_of_ble_eq_true rfl) (Nat.le_of_ble_eq_true rfl) (Nat.le_of_ble_eq_true rfl) h rfl)
theorem d73_22 : decode (mB 73) 22 = .ok (.iconst 0, 1) := by decide +kernel
theorem s73_22 {l0 l1 l2 l3 : Option Value} {st : List Value} {m : kMem} {Q : Option Value → kMem → Prop} : kJ 73 22 [l0, l1, l2, l3] st m Q = kJ 73 23 [l0, l1, l2, l3] (.int (nI 0) :: st) m Q := kJ_next d73_22 rfl
theorem d73_23 : decode (mB 73) 23 = .ok (.istore_n 3, 1) := by decide +kernel
theorem s73_23 {l0 l1 l2 l3 : Option Value} {st : List Value} {x : Int32} {m : kMem} {Q : Option Value → kMem → Prop} (hp : kNL l2 = true) : kJ 73 23 [l0, l1, l2, l3] (.int x :: st) m Q = kJ 73 24 [l0, l1, l2, some (.int x)] st m Q := kJ_next d73_23 (kg_sti (Nat.le_of_ble_eq_true rfl) hp)
theorem d73_24 : decode (mB 73) 24 = .ok (.iload_n 3, 1) := by decide +kernel
theorem s73_24 {l0 l1 l2 : Option Value} {st : List Value} {x : Int32} {m : kMem} {Q : Option Value → kMem → Prop} : kJ 73 24 [l0, l1, l2, some (.int x)] st m Q = kJ 73 25 [l0, l1, l2, some (.int x)] (.int x :: st) m Q := kJ_next d73_24 rfl
theorem d73_25 : decode (mB 73) 25 = .ok (.aload_n 0, 1) := by decide +kernel
theorem s73_25 {l1 l2 l3 : Option Value} {st : List Value} {x : Nat} {m : kMem} {Q : Option Value → kMem → Prop} : kJ 73 25 [some (.ref x), l1, l2, l3] st m Q = kJ 73 26 [some (.ref x), l1, l2, l3] (.ref x :: st) m Q := kJ_next d73_25 rfl
theorem d73_26 : decode (mB 73) 26 = .ok (.getfield 10, 3) := by decide +kernel
theorem s73_26 {l0 l1 l2 l3 : Option Value} {st : List Value} {q : Nat} {mi : Nat → Nat → Int32} {ml : Nat → Nat → Int64} {mr : Nat → Nat → Option Nat} {nx : Nat} {Q : Option Value → kMem → Prop} (h : kIs nx q 4 = true) : kJ 73 26 [l0, l1, l2, l3] (.ref q :: st) (mi, ml, mr, nx) Q = kJ 73 29 [l0, l1, l2, l3] (va_rf (mr q 0) :: st) (mi, ml, mr, nx) Q := kJ_next d73_26 (kg_getr 4 0 rfl h (by decide))
theorem d73_29 : decode (mB 73) 29 = .ok (.getfield 91, 3) := by decide +kernel
theorem s73_29 {l0 l1 l2 l3 : Option Value} {st : List Value} {q : Nat} {mi : Nat → Nat → Int32} {ml : Nat → Nat → Int64} {mr : Nat → Nat → Option Nat} {nx : Nat} {Q : Option Value → kMem → Prop} (h : kIs nx q 1 = true) : kJ 73 29 [l0, l1, l2, l3] (.ref q :: st) (mi, ml, mr, nx) Q = kJ 73 32 [l0, l1, l2, l3] (.int (mi q 4) :: st) (mi, ml, mr, nx) Q := kJ_next d73_29 (kg_geti 1 4 rfl h (by decide))
theorem d73_32 : decode (mB 73) 32 = .ok (.if_icmp .ge 57, 3) := by decide +kernel
theorem s73_32 {l0 l1 l2 l3 : Option Value} {st : List Value} {a b : Int32} {m : kMem} {Q : Option Value → kMem → Prop} : kJ 73 32 [l0, l1, l2, l3] (.int b :: .int a :: st) m Q = (if b ≤ a then kJ 73 89 [l0, l1, l2, l3] st m Q else kJ 73 35 [l0, l1, l2, l3] st m Q) := kJ_if d73_32 rfl (fun h => kJ_next d73_32 h) (fun h => kJ_next d73_32 h)
theorem d73_35 : decode (mB 73) 35 = .ok (.aload_n 0, 1) := by decide +kernel
theorem s73_35 {l1 l2 l3 : Option Value} {st : List Value} {x : Nat} {m : kMem} {Q : Option Value → kMem → Prop} : kJ 73 35 [some (.ref x), l1, l2, l3] st m Q = kJ 73 36 [some (.ref x), l1, l2, l3] (.ref x :: st) m Q := kJ_next d73_35 rfl
theorem d73_36 : decode (mB 73) 36 = .ok (.getfield 10, 3) := by decide +kernel
theorem s73_36 {l0 l1 l2 l3 : Option Value} {st : List Value} {q : Nat} {mi : Nat → Nat → Int32} {ml : Nat → Nat → Int64} {mr : Nat → Nat → Option Nat} {nx : Nat} {Q : Option Value → kMem → Prop} (h : kIs nx q 4 = true) : kJ 73 36 [l0, l1, l2, l3] (.ref q :: st) (mi, ml, mr, nx) Q = kJ 73 39 [l0, l1, l2, l3] (va_rf (mr q 0) :: st) (mi, ml, mr, nx) Q := kJ_next d73_36 (kg_getr 4 0 rfl h (by decide))
theorem d73_39 : decode (mB 73) 39 = .ok (.iload_n 3, 1) := by decide +kernel
theorem s73_39 {l0 l1 l2 : Option Value} {st : List Value} {x : Int32} {m : kMem} {Q : Option Value → kMem → Prop} : kJ 73 39 [l0, l1, l2, some (.int x)] st m Q = kJ 73 40 [l0, l1, l2, some (.int x)] (.int x :: st) m Q := kJ_next d73_39 rfl
theorem d73_40 : decode (mB 73) 40 = .ok (.invokevirtual 153, 3) := by decide +kernel
theorem s73_40 {l0 l1 l2 l3 : Option Value} {v0 : Int32} {v1 : Nat} {m : kMem} {Q : Option Value → kMem → Prop} (h : kIs m.2.2.2 v1 1 = true) : kJ 73 40 [l0, l1, l2, l3] [.int v0, .ref v1] m Q = kJ 9 0 [some (.ref v1), some (.int v0)] [] m (fun v m2 => kJ 73 43 [l0, l1, l2, l3] (v.toList ++ []) m2 Q) := kJ_call d73_40 (kg_callv 9 1 rfl rfl rfl rfl (Nat.le_of_ble_eq_true rfl) (Nat.le_of_ble_eq_true rfl) (Nat.le_of_ble_eq_true rfl) h rfl)
theorem d73_43 : decode (mB 73) 43 = .ok (.ifCond .eq 40, 3) := by decide +kernel
theorem s73_43 {l0 l1 l2 l3 : Option Value} {st : List Value} {a : Int32} {m : kMem} {Q : Option Value → kMem → Prop} : kJ 73 43 [l0, l1, l2, l3] (.int a :: st) m Q = (if a = 0 then kJ 73 83 [l0, l1, l2, l3] st m Q else kJ 73 46 [l0, l1, l2, l3] st m Q) := kJ_if d73_43 rfl (fun h => kJ_next d73_43 h) (fun h => kJ_next d73_43 h)
theorem d73_46 : decode (mB 73) 46 = .ok (.aload_n 0, 1) := by decide +kernel
theorem s73_46 {l1 l2 l3 : Option Value} {st : List Value} {x : Nat} {m : kMem} {Q : Option Value → kMem → Prop} : kJ 73 46 [some (.ref x), l1, l2, l3] st m Q = kJ 73 47 [some (.ref x), l1, l2, l3] (.ref x :: st) m Q := kJ_next d73_46 rfl
theorem d73_47 : decode (mB 73) 47 = .ok (.getfield 16, 3) := by decide +kernel
theorem s73_47 {l0 l1 l2 l3 : Option Value} {st : List Value} {q : Nat} {mi : Nat → Nat → Int32} {ml : Nat → Nat → Int64} {mr : Nat → Nat → Option Nat} {nx : Nat} {Q : Option Value → kMem → Prop} (h : kIs nx q 4 = true) : kJ 73 47 [l0, l1, l2, l3] (.ref q :: st) (mi, ml, mr, nx) Q = kJ 73 50 [l0, l1, l2, l3] (va_rf (mr q 1) :: st) (mi, ml, mr, nx) Q := kJ_next d73_47 (kg_getr 4 1 rfl h (by decide))
theorem d73_50 : decode (mB 73) 50 = .ok (.aload_n 0, 1) := by decide +kernel
theorem s73_50 {l1 l2 l3 : Option Value} {st : List Value} {x : Nat} {m : kMem} {Q : Option Value → kMem → Prop} : kJ 73 50 [some (.ref x), l1, l2, l3] st m Q = kJ 73 51 [some (.ref x), l1, l2, l3] (.ref x :: st) m Q := kJ_next d73_50 rfl
theorem d73_51 : decode (mB 73) 51 = .ok (.getfield 10, 3) := by decide +kernel
theorem s73_51 {l0 l1 l2 l3 : Option Value} {st : List Value} {q : Nat} {mi : Nat → Nat → Int32} {ml : Nat → Nat → Int64} {mr : Nat → Nat → Option Nat} {nx : Nat} {Q : Option Value → kMem → Prop} (h : kIs nx q 4 = true) : kJ 73 51 [l0, l1, l2, l3] (.ref q :: st) (mi, ml, mr, nx) Q = kJ 73 54 [l0, l1, l2, l3] (va_rf (mr q 0) :: st) (mi, ml, mr, nx) Q := kJ_next d73_51 (kg_getr 4 0 rfl h (by decide))
theorem d73_54 : decode (mB 73) 54 = .ok (.invokevirtual 81, 3) := by decide +kernel
theorem s73_54 {l0 l1 l2 l3 : Option Value} {v0 : Nat} {v1 : Nat} {m : kMem} {Q : Option Value → kMem → Prop} (h : kIs m.2.2.2 v1 1 = true) : kJ 73 54 [l0, l1, l2, l3] [.ref v0, .ref v1] m Q = kJ 6 0 [some (.ref v1), some (.ref v0)] [] m (fun v m2 => kJ 73 57 [l0, l1, l2, l3] (v.toList ++ []) m2 Q) := kJ_call d73_54 (kg_callv 6 1 rfl rfl rfl rfl (Nat.le_of_ble_eq_true rfl) (Nat.le_of_ble_eq_true rfl) (Nat.le_of_ble_eq_true rfl) h rfl)
theorem d73_57 : decode (mB 73) 57 = .ok (.aload_n 0, 1) := by decide +kernel
theorem s73_57 {l1 l2 l3 : Option Value} {st : List Value} {x : Nat} {m : kMem} {Q : Option Value → kMem → Prop} : kJ 73 57 [some (.ref x), l1, l2, l3] st m Q = kJ 73 58 [some (.ref x), l1, l2, l3] (.ref x :: st) m Q := kJ_next d73_57 rfl
theorem d73_58 : decode (mB 73) 58 = .ok (.getfield 16, 3) := by decide +kernel
theorem s73_58 {l0 l1 l2 l3 : Option Value} {st : List Value} {q : Nat} {mi : Nat → Nat → Int32} {ml : Nat → Nat → Int64} {mr : Nat → Nat → Option Nat} {nx : Nat} {Q : Option Value → kMem → Prop} (h : kIs nx q 4 = true) : kJ 73 58 [l0, l1, l2, l3] (.ref q :: st) (mi, ml, mr, nx) Q = kJ 73 61 [l0, l1, l2, l3] (va_rf (mr q 1) :: st) (mi, ml, mr, nx) Q := kJ_next d73_58 (kg_getr 4 1 rfl h (by decide))
theorem d73_61 : decode (mB 73) 61 = .ok (.getfield 142, 3) := by decide +kernel
theorem s73_61 {l0 l1 l2 l3 : Option Value} {st : List Value} {q : Nat} {mi : Nat → Nat → Int32} {ml : Nat → Nat → Int64} {mr : Nat → Nat → Option Nat} {nx : Nat} {Q : Option Value → kMem → Prop} (h : kIs nx q 1 = true) : kJ 73 61 [l0, l1, l2, l3] (.ref q :: st) (mi, ml, mr, nx) Q = kJ 73 64 [l0, l1, l2, l3] (va_rf (mr q 10) :: st) (mi, ml, mr, nx) Q := kJ_next d73_61 (kg_getr 1 10 rfl h (by decide))
theorem d73_64 : decode (mB 73) 64 = .ok (.iload_n 3, 1) := by decide +kernel
theorem s73_64 {l0 l1 l2 : Option Value} {st : List Value} {x : Int32} {m : kMem} {Q : Option Value → kMem → Prop} : kJ 73 64 [l0, l1, l2, some (.int x)] st m Q = kJ 73 65 [l0, l1, l2, some (.int x)] (.int x :: st) m Q := kJ_next d73_64 rfl
theorem d73_65 : decode (mB 73) 65 = .ok (.iconst 3, 1) := by decide +kernel
theorem s73_65 {l0 l1 l2 l3 : Option Value} {st : List Value} {m : kMem} {Q : Option Value → kMem → Prop} : kJ 73 65 [l0, l1, l2, l3] st m Q = kJ 73 66 [l0, l1, l2, l3] (.int (nI 3) :: st) m Q := kJ_next d73_65 rfl
theorem d73_66 : decode (mB 73) 66 = .ok (.iastore, 1) := by decide +kernel
theorem s73_66 {l0 l1 l2 l3 : Option Value} {st : List Value} {q : Nat} {i x : Int32} {mi : Nat → Nat → Int32} {ml : Nat → Nat → Int64} {mr : Nat → Nat → Option Nat} {nx : Nat} {Q : Option Value → kMem → Prop} (h : kIs nx q 10 = true) : kJ 73 66 [l0, l1, l2, l3] (.int x :: .int i :: .ref q :: st) (mi, ml, mr, nx) Q = (vp_in i (kAl q) ∧ kJ 73 67 [l0, l1, l2, l3] st (kup mi q i.toNatClampNeg x, ml, mr, nx) Q) := kg_astJ d73_66 rfl (kAr_of h)
theorem d73_67 : decode (mB 73) 67 = .ok (.aload_n 0, 1) := by decide +kernel
theorem s73_67 {l1 l2 l3 : Option Value} {st : List Value} {x : Nat} {m : kMem} {Q : Option Value → kMem → Prop} : kJ 73 67 [some (.ref x), l1, l2, l3] st m Q = kJ 73 68 [some (.ref x), l1, l2, l3] (.ref x :: st) m Q := kJ_next d73_67 rfl
theorem d73_68 : decode (mB 73) 68 = .ok (.getfield 22, 3) := by decide +kernel
theorem s73_68 {l0 l1 l2 l3 : Option Value} {st : List Value} {q : Nat} {mi : Nat → Nat → Int32} {ml : Nat → Nat → Int64} {mr : Nat → Nat → Option Nat} {nx : Nat} {Q : Option Value → kMem → Prop} (h : kIs nx q 4 = true) : kJ 73 68 [l0, l1, l2, l3] (.ref q :: st) (mi, ml, mr, nx) Q = kJ 73 71 [l0, l1, l2, l3] (va_rf (mr q 2) :: st) (mi, ml, mr, nx) Q := kJ_next d73_68 (kg_getr 4 2 rfl h (by decide))
theorem d73_71 : decode (mB 73) 71 = .ok (.iload_n 3, 1) := by decide +kernel
theorem s73_71 {l0 l1 l2 : Option Value} {st : List Value} {x : Int32} {m : kMem} {Q : Option Value → kMem → Prop} : kJ 73 71 [l0, l1, l2, some (.int x)] st m Q = kJ 73 72 [l0, l1, l2, some (.int x)] (.int x :: st) m Q := kJ_next d73_71 rfl
theorem d73_72 : decode (mB 73) 72 = .ok (.aload_n 0, 1) := by decide +kernel
theorem s73_72 {l1 l2 l3 : Option Value} {st : List Value} {x : Nat} {m : kMem} {Q : Option Value → kMem → Prop} : kJ 73 72 [some (.ref x), l1, l2, l3] st m Q = kJ 73 73 [some (.ref x), l1, l2, l3] (.ref x :: st) m Q := kJ_next d73_72 rfl
theorem d73_73 : decode (mB 73) 73 = .ok (.getfield 16, 3) := by decide +kernel
theorem s73_73 {l0 l1 l2 l3 : Option Value} {st : List Value} {q : Nat} {mi : Nat → Nat → Int32} {ml : Nat → Nat → Int64} {mr : Nat → Nat → Option Nat} {nx : Nat} {Q : Option Value → kMem → Prop} (h : kIs nx q 4 = true) : kJ 73 73 [l0, l1, l2, l3] (.ref q :: st) (mi, ml, mr, nx) Q = kJ 73 76 [l0, l1, l2, l3] (va_rf (mr q 1) :: st) (mi, ml, mr, nx) Q := kJ_next d73_73 (kg_getr 4 1 rfl h (by decide))
theorem d73_76 : decode (mB 73) 76 = .ok (.iload_n 1, 1) := by decide +kernel
theorem s73_76 {l0 l2 l3 : Option Value} {st : List Value} {x : Int32} {m : kMem} {Q : Option Value → kMem → Prop} : kJ 73 76 [l0, some (.int x), l2, l3] st m Q = kJ 73 77 [l0, some (.int x), l2, l3] (.int x :: st) m Q := kJ_next d73_76 rfl
theorem d73_77 : decode (mB 73) 77 = .ok (.invokevirtual 177, 3) := by decide +kernel
theorem s73_77 {l0 l1 l2 l3 : Option Value} {v0 : Int32} {v1 : Nat} {v2 : Int32} {v3 : Nat} {m : kMem} {Q : Option Value → kMem → Prop} (h : kIs m.2.2.2 v1 1 = true) : kJ 73 77 [l0, l1, l2, l3] [.int v0, .ref v1, .int v2, .ref v3] m Q = kJ 21 0 [some (.ref v1), some (.int v0)] [] m (fun v m2 => kJ 73 80 [l0, l1, l2, l3] (v.toList ++ [.int v2, .ref v3]) m2 Q) := kJ_call d73_77 (kg_callv 21 1 rfl rfl rfl rfl (Nat.le_of_ble_eq_true rfl) (Nat.le_of_ble_eq_true rfl) (Nat.le_of_ble_eq_true rfl) h rfl)
theorem d73_80 : decode (mB 73) 80 = .ok (.invokevirtual 180, 3) := by decide +kernel
theorem s73_80 {l0 l1 l2 l3 : Option Value} {v0 : Int32} {v1 : Int32} {v2 : Nat} {m : kMem} {Q : Option Value → kMem → Prop} (h : kIs m.2.2.2 v2 0 = true) : kJ 73 80 [l0, l1, l2, l3] [.int v0, .int v1, .ref v2] m Q = kJ 2 0 [some (.ref v2), some (.int v1), some (.int v0)] [] m (fun v m2 => kJ 73 83 [l0, l1, l2, l3] (v.toList ++ []) m2 Q) := kJ_call d73_80 (kg_callv 2 2 rfl rfl rfl rfl (Nat.le_of_ble_eq_true rfl) (Nat.le_of_ble_eq_true rfl) (Nat.le_of_ble_eq_true rfl) h rfl)
theorem d73_83 : decode (mB 73) 83 = .ok (.iinc 3 1, 3) := by decide +kernel
theorem s73_83 {l0 l1 l2 : Option Value} {st : List Value} {x : Int32} {m : kMem} {Q : Option Value → kMem → Prop} (hp : kNL l2 = true) : kJ 73 83 [l0, l1, l2, some (.int x)] st m Q = kJ 73 86 [l0, l1, l2, some (.int (x + (nI 1)))] st m Q := kJ_next d73_83 (kg_inc rfl (Nat.le_of_ble_eq_true rfl) hp)
theorem d73_86 : decode (mB 73) 86 = .ok (.goto (-62), 3) := by decide +kernel
theorem s73_86 {l0 l1 l2 l3 : Option Value} {st : List Value} {m : kMem} {Q : Option Value → kMem → Prop} : kJ 73 86 [l0, l1, l2, l3] st m Q = kJ 73 24 [l0, l1, l2, l3] st m Q := kJ_next d73_86 rfl
theorem d73_89 : decode (mB 73) 89 = .ok (.aload_n 0, 1) := by decide +kernel
theorem s73_89 {l1 l2 l3 : Option Value} {st : List Value} {x : Nat} {m : kMem} {Q : Option Value → kMem → Prop} : kJ 73 89 [some (.ref x), l1, l2, l3] st m Q = kJ 73 90 [some (.ref x), l1, l2, l3] (.ref x :: st) m Q := kJ_next d73_89 rfl
theorem d73_90 : decode (mB 73) 90 = .ok (.getfield 22, 3) := by decide +kernel
theorem s73_90 {l0 l1 l2 l3 : Option Value} {st : List Value} {q : Nat} {mi : Nat → Nat → Int32} {ml : Nat → Nat → Int64} {mr : Nat → Nat → Option Nat} {nx : Nat} {Q : Option Value → kMem → Prop} (h : kIs nx q 4 = true) : kJ 73 90 [l0, l1, l2, l3] (.ref q :: st) (mi, ml, mr, nx) Q = kJ 73 93 [l0, l1, l2, l3] (va_rf (mr q 2) :: st) (mi, ml, mr, nx) Q := kJ_next d73_90 (kg_getr 4 2 rfl h (by decide))
theorem d73_93 : decode (mB 73) 93 = .ok (.iload_n 2, 1) := by decide +kernel
theorem s73_93 {l0 l1 l3 : Option Value} {st : List Value} {x : Int32} {m : kMem} {Q : Option Value → kMem → Prop} : kJ 73 93 [l0, l1, some (.int x), l3] st m Q = kJ 73 94 [l0, l1, some (.int x), l3] (.int x :: st) m Q := kJ_next d73_93 rfl
theorem d73_94 : decode (mB 73) 94 = .ok (.invokevirtual 184, 3) := by decide +kernel
theorem s73_94 {l0 l1 l2 l3 : Option Value} {v0 : Int32} {v1 : Nat} {m : kMem} {Q : Option Value → kMem → Prop} (h : kIs m.2.2.2 v1 0 = true) : kJ 73 94 [l0, l1, l2, l3] [.int v0, .ref v1] m Q = kJ 3 0 [some (.ref v1), some (.int v0)] [] m (fun v m2 => kJ 73 97 [l0, l1, l2, l3] (v.toList ++ []) m2 Q) := kJ_call d73_94 (kg_callv 3 1 rfl rfl rfl rfl (Nat.le_of_ble_eq_true rfl) (Nat.le_of_ble_eq_true rfl) (Nat.le_of_ble_eq_true rfl) h rfl)
theorem d73_97 : decode (mB 73) 97 = .ok (.ireturn, 1) := by decide +kernel
theorem s73_97 {l0 l1 l2 l3 : Option Value} {x : Int32} {m : kMem} {Q : Option Value → kMem → Prop} : kJ 73 97 [l0, l1, l2, l3] [.int x] m Q = Q (some (.int x)) m := kJ_ret d73_97 rfl
