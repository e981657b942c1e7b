theorem d35_0 : decode (mB 35) 0 = .ok (.aload_n 0, 1) := by decide +kernel
theorem s35_0 {st : List Value} {x : Nat} {m : kMem} {Q : Option Value → kMem → Prop} : kJ 35 0 [some (.ref x)] st m Q = kJ 35 1 [some (.ref x)] (.ref x :: st) m Q := kJ_next d35_0 rfl
theorem d35_1 : decode (mB 35) 1 = .ok (.invokespecial 3, 3) := by decide +kernel
theorem s35_1 {l0 : Option Value}  {q : Nat} {m : kMem} {Q : Option Value → kMem → Prop} : kJ 35 1 [l0] [.ref q] m Q = kJ 35 4 [l0] [] m Q := kJ_next d35_1 (kg_obj rfl rfl (Nat.le_of_ble_eq_true rfl))
theorem d35_4 : decode (mB 35) 4 = .ok (.aload_n 0, 1) := by decide +kernel
theorem s35_4 {st : List Value} {x : Nat} {m : kMem} {Q : Option Value → kMem → Prop} : kJ 35 4 [some (.ref x)] st m Q = kJ 35 5 [some (.ref x)] (.ref x :: st) m Q := kJ_next d35_4 rfl
theorem d35_5 : decode (mB 35) 5 = .ok (.sipush 160, 3) := by decide +kernel
theorem s35_5 {l0 : Option Value} {st : List Value} {m : kMem} {Q : Option Value → kMem → Prop} : kJ 35 5 [l0] st m Q = kJ 35 8 [l0] (.int (nI 160) :: st) m Q := kJ_next d35_5 rfl
theorem d35_8 : decode (mB 35) 8 = .ok (.newarray .int, 2) := by decide +kernel
theorem s35_8 {l0 : Option Value} {st : List Value} {n : Int32} {mi : Nat → Nat → Int32} {ml : Nat → Nat → Int64} {mr : Nat → Nat → Option Nat} {nx : Nat} {Q : Option Value → kMem → Prop} (h : nx < 95) (h2 : kAt nx = (10, n.toNatClampNeg)) (h3 : ¬ n < 0) (h4 : n.toNatClampNeg ≤ 2000) : kJ 35 8 [l0] (.int n :: st) (mi, ml, mr, nx) Q = kJ 35 10 [l0] (.ref nx :: st) (kRow mi nx (fun _ => 0), kRow ml nx (fun _ => 0), kRow mr nx (fun _ => none), nx + 1) Q := kJ_next d35_8 (kg_newa h h2 h3 h4)
theorem d35_10 : decode (mB 35) 10 = .ok (.putfield 9, 3) := by decide +kernel
theorem s35_10 {l0 : Option Value} {st : List Value} {q : Nat} {x : Nat} {mi : Nat → Nat → Int32} {ml : Nat → Nat → Int64} {mr : Nat → Nat → Option Nat} {nx : Nat} {Q : Option Value → kMem → Prop} (h : kIs nx q 3 = true) (hx : x < 1000) : kJ 35 10 [l0] (.ref x :: .ref q :: st) (mi, ml, mr, nx) Q = kJ 35 13 [l0] st (mi, ml, kupR mr q 0 (some x), nx) Q := kJ_next d35_10 (kg_putr 3 0 rfl h (by decide) (by decide) rfl rfl hx)
theorem d35_13 : decode (mB 35) 13 = .ok (.aload_n 0, 1) := by decide +kernel
theorem s35_13 {st : List Value} {x : Nat} {m : kMem} {Q : Option Value → kMem → Prop} : kJ 35 13 [some (.ref x)] st m Q = kJ 35 14 [some (.ref x)] (.ref x :: st) m Q := kJ_next d35_13 rfl
theorem d35_14 : decode (mB 35) 14 = .ok (.new 15, 3) := by decide +kernel
theorem s35_14 {l0 : Option Value} {st : List Value} {mi : Nat → Nat → Int32} {ml : Nat → Nat → Int64} {mr : Nat → Nat → Option Nat} {nx : Nat} {Q : Option Value → kMem → Prop} (h : nx < 95) (h2 : (kAt nx).1 = 1) : kJ 35 14 [l0] st (mi, ml, mr, nx) Q = kJ 35 17 [l0] (.ref nx :: st) (kRow mi nx (fun _ => 0), kRow ml nx (fun _ => 0), kRow mr nx (fun _ => none), nx + 1) Q := kJ_next d35_14 (kg_new 1 rfl h h2 (by decide))
theorem d35_17 : decode (mB 35) 17 = .ok (.dup, 1) := by decide +kernel
theorem s35_17 {l0 : Option Value} {st : List Value} {a : Nat} {m : kMem} {Q : Option Value → kMem → Prop} : kJ 35 17 [l0] (.ref a :: st) m Q = kJ 35 18 [l0] (.ref a :: .ref a :: st) m Q := kJ_next d35_17 rfl
theorem d35_18 : decode (mB 35) 18 = .ok (.invokespecial 17, 3) := by decide +kernel
theorem s35_18 {l0 : Option Value} {v0 : Nat} {v1 : Nat} {v2 : Nat} {m : kMem} {Q : Option Value → kMem → Prop} (h : kIs m.2.2.2 v0 1 = true) : kJ 35 18 [l0] [.ref v0, .ref v1, .ref v2] m Q = kJ 4 0 [some (.ref v0)] [] m (fun v m2 => kJ 35 21 [l0] (v.toList ++ [.ref v1, .ref v2]) m2 Q) := kJ_call d35_18 (kg_spec 4 0 rfl rfl rfl rfl (Nat.le_of_ble_eq_true rfl) (Nat.le_of_ble_eq_true rfl) (Nat.le_of_ble_eq_true rfl) h rfl)
theorem d35_21 : decode (mB 35) 21 = .ok (.putfield 18, 3) := by decide +kernel
theorem s35_21 {l0 : Option Value} {st : List Value} {q : Nat} {x : Nat} {mi : Nat → Nat → Int32} {ml : Nat → Nat → Int64} {mr : Nat → Nat → Option Nat} {nx : Nat} {Q : Option Value → kMem → Prop} (h : kIs nx q 3 = true) (hx : x < 1000) : kJ 35 21 [l0] (.ref x :: .ref q :: st) (mi, ml, mr, nx) Q = kJ 35 24 [l0] st (mi, ml, kupR mr q 2 (some x), nx) Q := kJ_next d35_21 (kg_putr 3 2 rfl h (by decide) (by decide) rfl rfl hx)
theorem d35_24 : decode (mB 35) 24 = .ok (.aload_n 0, 1) := by decide +kernel
theorem s35_24 {st : List Value} {x : Nat} {m : kMem} {Q : Option Value → kMem → Prop} : kJ 35 24 [some (.ref x)] st m Q = kJ 35 25 [some (.ref x)] (.ref x :: st) m Q := kJ_next d35_24 rfl
theorem d35_25 : decode (mB 35) 25 = .ok (.iconst 4, 1) := by decide +kernel
theorem s35_25 {l0 : Option Value} {st : List Value} {m : kMem} {Q : Option Value → kMem → Prop} : kJ 35 25 [l0] st m Q = kJ 35 26 [l0] (.int (nI 4) :: st) m Q := kJ_next d35_25 rfl
theorem d35_26 : decode (mB 35) 26 = .ok (.newarray .int, 2) := by decide +kernel
theorem s35_26 {l0 : Option Value} {st : List Value} {n : Int32} {mi : Nat → Nat → Int32} {ml : Nat → Nat → Int64} {mr : Nat → Nat → Option Nat} {nx : Nat} {Q : Option Value → kMem → Prop} (h : nx < 95) (h2 : kAt nx = (10, n.toNatClampNeg)) (h3 : ¬ n < 0) (h4 : n.toNatClampNeg ≤ 2000) : kJ 35 26 [l0] (.int n :: st) (mi, ml, mr, nx) Q = kJ 35 28 [l0] (.ref nx :: st) (kRow mi nx (fun _ => 0), kRow ml nx (fun _ => 0), kRow mr nx (fun _ => none), nx + 1) Q := kJ_next d35_26 (kg_newa h h2 h3 h4)
theorem d35_28 : decode (mB 35) 28 = .ok (.putfield 22, 3) := by decide +kernel
theorem s35_28 {l0 : Option Value} {st : List Value} {q : Nat} {x : Nat} {mi : Nat → Nat → Int32} {ml : Nat → Nat → Int64} {mr : Nat → Nat → Option Nat} {nx : Nat} {Q : Option Value → kMem → Prop} (h : kIs nx q 3 = true) (hx : x < 1000) : kJ 35 28 [l0] (.ref x :: .ref q :: st) (mi, ml, mr, nx) Q = kJ 35 31 [l0] st (mi, ml, kupR mr q 11 (some x), nx) Q := kJ_next d35_28 (kg_putr 3 11 rfl h (by decide) (by decide) rfl rfl hx)
theorem d35_31 : decode (mB 35) 31 = .ok (.return_, 1) := by decide +kernel
theorem s35_31 {l0 : Option Value} {m : kMem} {Q : Option Value → kMem → Prop} : kJ 35 31 [l0] [] m Q = Q none m := kJ_ret d35_31 rfl
theorem d36_0 : decode (mB 36) 0 = .ok (.aload_n 0, 1) := by decide +kernel
theorem s36_0 {l1 : Option Value} {st : List Value} {x : Nat} {m : kMem} {Q : Option Value → kMem → Prop} : kJ 36 0 [some (.ref x), l1] st m Q = kJ 36 1 [some (.ref x), l1] (.ref x :: st) m Q := kJ_next d36_0 rfl
theorem d36_1 : decode (mB 36) 1 = .ok (.getfield 18, 3) := by decide +kernel
theorem s36_1 {l0 l1 : Option Value} {st : List Value} {q : Nat} {mi : Nat → Nat → Int32} {ml : Nat → Nat → Int64} {mr : Nat → Nat → Option Nat} {nx : Nat} {Q : Option Value → kMem → Prop} (h : kIs nx q 3 = true) : kJ 36 1 [l0, l1] (.ref q :: st) (mi, ml, mr, nx) Q = kJ 36 4 [l0, l1] (va_rf (mr q 2) :: st) (mi, ml, mr, nx) Q := kJ_next d36_1 (kg_getr 3 2 rfl h (by decide))
theorem d36_4 : decode (mB 36) 4 = .ok (.invokevirtual 25, 3) := by decide +kernel
theorem s36_4 {l0 l1 : Option Value} {v0 : Nat} {m : kMem} {Q : Option Value → kMem → Prop} (h : kIs m.2.2.2 v0 1 = true) : kJ 36 4 [l0, l1] [.ref v0] m Q = kJ 5 0 [some (.ref v0)] [] m (fun v m2 => kJ 36 7 [l0, l1] (v.toList ++ []) m2 Q) := kJ_call d36_4 (kg_callv 5 0 rfl rfl rfl rfl (Nat.le_of_ble_eq_true rfl) (Nat.le_of_ble_eq_true rfl) (Nat.le_of_ble_eq_true rfl) h rfl)
theorem d36_7 : decode (mB 36) 7 = .ok (.aload_n 0, 1) := by decide +kernel
theorem s36_7 {l1 : Option Value} {st : List Value} {x : Nat} {m : kMem} {Q : Option Value → kMem → Prop} : kJ 36 7 [some (.ref x), l1] st m Q = kJ 36 8 [some (.ref x), l1] (.ref x :: st) m Q := kJ_next d36_7 rfl
theorem d36_8 : decode (mB 36) 8 = .ok (.iconst 0, 1) := by decide +kernel
theorem s36_8 {l0 l1 : Option Value} {st : List Value} {m : kMem} {Q : Option Value → kMem → Prop} : kJ 36 8 [l0, l1] st m Q = kJ 36 9 [l0, l1] (.int (nI 0) :: st) m Q := kJ_next d36_8 rfl
theorem d36_9 : decode (mB 36) 9 = .ok (.putfield 28, 3) := by decide +kernel
theorem s36_9 {l0 l1 : Option Value} {st : List Value} {q : Nat} {x : Int32} {mi : Nat → Nat → Int32} {ml : Nat → Nat → Int64} {mr : Nat → Nat → Option Nat} {nx : Nat} {Q : Option Value → kMem → Prop} (h : kIs nx q 3 = true) : kJ 36 9 [l0, l1] (.int x :: .ref q :: st) (mi, ml, mr, nx) Q = kJ 36 12 [l0, l1] st (kup mi q 3 x, ml, mr, nx) Q := kJ_next d36_9 (kg_puti 3 3 rfl h (by decide) (Or.inl (by decide)))
theorem d36_12 : decode (mB 36) 12 = .ok (.aload_n 0, 1) := by decide +kernel
theorem s36_12 {l1 : Option Value} {st : List Value} {x : Nat} {m : kMem} {Q : Option Value → kMem → Prop} : kJ 36 12 [some (.ref x), l1] st m Q = kJ 36 13 [some (.ref x), l1] (.ref x :: st) m Q := kJ_next d36_12 rfl
theorem d36_13 : decode (mB 36) 13 = .ok (.iconst 0, 1) := by decide +kernel
theorem s36_13 {l0 l1 : Option Value} {st : List Value} {m : kMem} {Q : Option Value → kMem → Prop} : kJ 36 13 [l0, l1] st m Q = kJ 36 14 [l0, l1] (.int (nI 0) :: st) m Q := kJ_next d36_13 rfl
theorem d36_14 : decode (mB 36) 14 = .ok (.putfield 32, 3) := by decide +kernel
theorem s36_14 {l0 l1 : Option Value} {st : List Value} {q : Nat} {x : Int32} {mi : Nat → Nat → Int32} {ml : Nat → Nat → Int64} {mr : Nat → Nat → Option Nat} {nx : Nat} {Q : Option Value → kMem → Prop} (h : kIs nx q 3 = true) : kJ 36 14 [l0, l1] (.int x :: .ref q :: st) (mi, ml, mr, nx) Q = kJ 36 17 [l0, l1] st (kup mi q 4 x, ml, mr, nx) Q := kJ_next d36_14 (kg_puti 3 4 rfl h (by decide) (Or.inl (by decide)))
theorem d36_17 : decode (mB 36) 17 = .ok (.aload_n 0, 1) := by decide +kernel
theorem s36_17 {l1 : Option Value} {st : List Value} {x : Nat} {m : kMem} {Q : Option Value → kMem → Prop} : kJ 36 17 [some (.ref x), l1] st m Q = kJ 36 18 [some (.ref x), l1] (.ref x :: st) m Q := kJ_next d36_17 rfl
theorem d36_18 : decode (mB 36) 18 = .ok (.iconst 0, 1) := by decide +kernel
theorem s36_18 {l0 l1 : Option Value} {st : List Value} {m : kMem} {Q : Option Value → kMem → Prop} : kJ 36 18 [l0, l1] st m Q = kJ 36 19 [l0, l1] (.int (nI 0) :: st) m Q := kJ_next d36_18 rfl
theorem d36_19 : decode (mB 36) 19 = .ok (.putfield 35, 3) := by decide +kernel
theorem s36_19 {l0 l1 : Option Value} {st : List Value} {q : Nat} {x : Int32} {mi : Nat → Nat → Int32} {ml : Nat → Nat → Int64} {mr : Nat → Nat → Option Nat} {nx : Nat} {Q : Option Value → kMem → Prop} (h : kIs nx q 3 = true) : kJ 36 19 [l0, l1] (.int x :: .ref q :: st) (mi, ml, mr, nx) Q = kJ 36 22 [l0, l1] st (kup mi q 5 x, ml, mr, nx) Q := kJ_next d36_19 (kg_puti 3 5 rfl h (by decide) (Or.inl (by decide)))
theorem d36_22 : decode (mB 36) 22 = .ok (.aload_n 0, 1) := by decide +kernel
theorem s36_22 {l1 : Option Value} {st : List Value} {x : Nat} {m : kMem} {Q : Option Value → kMem → Prop} : kJ 36 22 [some (.ref x), l1] st m Q = kJ 36 23 [some (.ref x), l1] (.ref x :: st) m Q := kJ_next d36_22 rfl
theorem d36_23 : decode (mB 36) 23 = .ok (.iconst 0, 1) := by decide +kernel
theorem s36_23 {l0 l1 : Option Value} {st : List Value} {m : kMem} {Q : Option Value → kMem → Prop} : kJ 36 23 [l0, l1] st m Q = kJ 36 24 [l0, l1] (.int (nI 0) :: st) m Q := kJ_next d36_23 rfl
theorem d36_24 : decode (mB 36) 24 = .ok (.putfield 38, 3) := by decide +kernel
theorem s36_24 {l0 l1 : Option Value} {st : List Value} {q : Nat} {x : Int32} {mi : Nat → Nat → Int32} {ml : Nat → Nat → Int64} {mr : Nat → Nat → Option Nat} {nx : Nat} {Q : Option Value → kMem → Prop} (h : kIs nx q 3 = true) : kJ 36 24 [l0, l1] (.int x :: .ref q :: st) (mi, ml, mr, nx) Q = kJ 36 27 [l0, l1] st (kup mi q 6 x, ml, mr, nx) Q := kJ_next d36_24 (kg_puti 3 6 rfl h (by decide) (Or.inl (by decide)))
theorem d36_27 : decode (mB 36) 27 = .ok (.aload_n 0, 1) := by decide +kernel
theorem s36_27 {l1 : Option Value} {st : List Value} {x : Nat} {m : kMem} {Q : Option Value → kMem → Prop} : kJ 36 27 [some (.ref x), l1] st m Q = kJ 36 28 [some (.ref x), l1] (.ref x :: st) m Q := kJ_next d36_27 rfl
theorem d36_28 : decode (mB 36) 28 = .ok (.iconst 0, 1) := by decide +kernel
theorem s36_28 {l0 l1 : Option Value} {st : List Value} {m : kMem} {Q : Option Value → kMem → Prop} : kJ 36 28 [l0, l1] st m Q = kJ 36 29 [l0, l1] (.int (nI 0) :: st) m Q := kJ_next d36_28 rfl
theorem d36_29 : decode (mB 36) 29 = .ok (.putfield 41, 3) := by decide +kernel
theorem s36_29 {l0 l1 : Option Value} {st : List Value} {q : Nat} {x : Int32} {mi : Nat → Nat → Int32} {ml : Nat → Nat → Int64} {mr : Nat → Nat → Option Nat} {nx : Nat} {Q : Option Value → kMem → Prop} (h : kIs nx q 3 = true) (hx : x = 0 ∨ x = 1) : kJ 36 29 [l0, l1] (.int x :: .ref q :: st) (mi, ml, mr, nx) Q = kJ 36 32 [l0, l1] st (kup mi q 10 x, ml, mr, nx) Q := kJ_next d36_29 (kg_puti 3 10 rfl h (by decide) (Or.inr ⟨by decide, hx⟩))
theorem d36_32 : decode (mB 36) 32 = .ok (.aload_n 0, 1) := by decide +kernel
theorem s36_32 {l1 : Option Value} {st : List Value} {x : Nat} {m : kMem} {Q : Option Value → kMem → Prop} : kJ 36 32 [some (.ref x), l1] st m Q = kJ 36 33 [some (.ref x), l1] (.ref x :: st) m Q := kJ_next d36_32 rfl
theorem d36_33 : decode (mB 36) 33 = .ok (.invokevirtual 45, 3) := by decide +kernel
theorem s36_33 {l0 l1 : Option Value} {v0 : Nat} {m : kMem} {Q : Option Value → kMem → Prop} (h : kIs m.2.2.2 v0 3 = true) : kJ 36 33 [l0, l1] [.ref v0] m Q = kJ 44 0 [some (.ref v0)] [] m (fun v m2 => kJ 36 36 [l0, l1] (v.toList ++ []) m2 Q) := kJ_call d36_33 (kg_callv 44 0 rfl rfl rfl rfl (Nat.le_of_ble_eq_true rfl) (Nat.le_of_ble_eq_true rfl) (Nat.le_of_ble_eq_true rfl) h rfl)
theorem d36_36 : decode (mB 36) 36 = .ok (.iconst 0, 1) := by decide +kernel
theorem s36_36 {l0 l1 : Option Value} {st : List Value} {m : kMem} {Q : Option Value → kMem → Prop} : kJ 36 36 [l0, l1] st m Q = kJ 36 37 [l0, l1] (.int (nI 0) :: st) m Q := kJ_next d36_36 rfl
theorem d36_37 : decode (mB 36) 37 = .ok (.istore_n 1, 1) := by decide +kernel
theorem s36_37 {l0 l1 : Option Value} {st : List Value} {x : Int32} {m : kMem} {Q : Option Value → kMem → Prop} (hp : kNL l0 = true) : kJ 36 37 [l0, l1] (.int x :: st) m Q = kJ 36 38 [l0, some (.int x)] st m Q := kJ_next d36_37 (kg_sti (Nat.le_of_ble_eq_true rfl) hp)
theorem d36_38 : decode (mB 36) 38 = .ok (.iload_n 1, 1) := by decide +kernel
theorem s36_38 {l0 : Option Value} {st : List Value} {x : Int32} {m : kMem} {Q : Option Value → kMem → Prop} : kJ 36 38 [l0, some (.int x)] st m Q = kJ 36 39 [l0, some (.int x)] (.int x :: st) m Q := kJ_next d36_38 rfl
theorem d36_39 : decode (mB 36) 39 = .ok (.sipush 160, 3) := by decide +kernel
theorem s36_39 {l0 l1 : Option Value} {st : List Value} {m : kMem} {Q : Option Value → kMem → Prop} : kJ 36 39 [l0, l1] st m Q = kJ 36 42 [l0, l1] (.int (nI 160) :: st) m Q := kJ_next d36_39 rfl
theorem d36_42 : decode (mB 36) 42 = .ok (.if_icmp .gt 27, 3) := by decide +kernel
theorem s36_42 {l0 l1 : Option Value} {st : List Value} {a b : Int32} {m : kMem} {Q : Option Value → kMem → Prop} : kJ 36 42 [l0, l1] (.int b :: .int a :: st) m Q = (if b < a then kJ 36 69 [l0, l1] st m Q else kJ 36 45 [l0, l1] st m Q) := kJ_if d36_42 rfl (fun h => kJ_next d36_42 h) (fun h => kJ_next d36_42 h)
theorem d36_45 : decode (mB 36) 45 = .ok (.aload_n 0, 1) := by decide +kernel
theorem s36_45 {l1 : Option Value} {st : List Value} {x : Nat} {m : kMem} {Q : Option Value → kMem → Prop} : kJ 36 45 [some (.ref x), l1] st m Q = kJ 36 46 [some (.ref x), l1] (.ref x :: st) m Q := kJ_next d36_45 rfl
theorem d36_46 : decode (mB 36) 46 = .ok (.getfield 32, 3) := by decide +kernel
theorem s36_46 {l0 l1 : Option Value} {st : List Value} {q : Nat} {mi : Nat → Nat → Int32} {ml : Nat → Nat → Int64} {mr : Nat → Nat → Option Nat} {nx : Nat} {Q : Option Value → kMem → Prop} (h : kIs nx q 3 = true) : kJ 36 46 [l0, l1] (.ref q :: st) (mi, ml, mr, nx) Q = kJ 36 49 [l0, l1] (.int (mi q 4) :: st) (mi, ml, mr, nx) Q := kJ_next d36_46 (kg_geti 3 4 rfl h (by decide))
theorem d36_49 : decode (mB 36) 49 = .ok (.ifCond .ne 20, 3) := by decide +kernel
theorem s36_49 {l0 l1 : Option Value} {st : List Value} {a : Int32} {m : kMem} {Q : Option Value → kMem → Prop} : kJ 36 49 [l0, l1] (.int a :: st) m Q = (if a = 0 then kJ 36 52 [l0, l1] st m Q else kJ 36 69 [l0, l1] st m Q) := kJ_if d36_49 rfl (fun h => kJ_next d36_49 h) (fun h => kJ_next d36_49 h)
theorem d36_52 : decode (mB 36) 52 = .ok (.aload_n 0, 1) := by decide +kernel
theorem s36_52 {l1 : Option Value} {st : List Value} {x : Nat} {m : kMem} {Q : Option Value → kMem → Prop} : kJ 36 52 [some (.ref x), l1] st m Q = kJ 36 53 [some (.ref x), l1] (.ref x :: st) m Q := kJ_next d36_52 rfl
theorem d36_53 : decode (mB 36) 53 = .ok (.getfield 48, 3) := by decide +kernel
theorem s36_53 {l0 l1 : Option Value} {st : List Value} {q : Nat} {mi : Nat → Nat → Int32} {ml : Nat → Nat → Int64} {mr : Nat → Nat → Option Nat} {nx : Nat} {Q : Option Value → kMem → Prop} (h : kIs nx q 3 = true) : kJ 36 53 [l0, l1] (.ref q :: st) (mi, ml, mr, nx) Q = kJ 36 56 [l0, l1] (.int (mi q 7) :: st) (mi, ml, mr, nx) Q := kJ_next d36_53 (kg_geti 3 7 rfl h (by decide))
theorem d36_56 : decode (mB 36) 56 = .ok (.ifCond .eq 13, 3) := by decide +kernel
theorem s36_56 {l0 l1 : Option Value} {st : List Value} {a : Int32} {m : kMem} {Q : Option Value → kMem → Prop} : kJ 36 56 [l0, l1] (.int a :: st) m Q = (if a = 0 then kJ 36 69 [l0, l1] st m Q else kJ 36 59 [l0, l1] st m Q) := kJ_if d36_56 rfl (fun h => kJ_next d36_56 h) (fun h => kJ_next d36_56 h)
theorem d36_59 : decode (mB 36) 59 = .ok (.aload_n 0, 1) := by decide +kernel
theorem s36_59 {l1 : Option Value} {st : List Value} {x : Nat} {m : kMem} {Q : Option Value → kMem → Prop} : kJ 36 59 [some (.ref x), l1] st m Q = kJ 36 60 [some (.ref x), l1] (.ref x :: st) m Q := kJ_next d36_59 rfl
theorem d36_60 : decode (mB 36) 60 = .ok (.invokevirtual 51, 3) := by decide +kernel
theorem s36_60 {l0 l1 : Option Value} {v0 : Nat} {m : kMem} {Q : Option Value → kMem → Prop} (h : kIs m.2.2.2 v0 3 = true) : kJ 36 60 [l0, l1] [.ref v0] m Q = kJ 38 0 [some (.ref v0), none, none, none] [] m (fun v m2 => kJ 36 63 [l0, l1] (v.toList ++ []) m2 Q) := kJ_call d36_60 (kg_callv 38 0 rfl rfl rfl rfl (Nat.le_of_ble_eq_true rfl) (Nat.le_of_ble_eq_true rfl) (Nat.le_of_ble_eq_true rfl) h rfl)
theorem d36_63 : decode (mB 36) 63 = .ok (.iinc 1 1, 3) := by decide +kernel
theorem s36_63 {l0 : Option Value} {st : List Value} {x : Int32} {m : kMem} {Q : Option Value → kMem → Prop} (hp : kNL l0 = true) : kJ 36 63 [l0, some (.int x)] st m Q = kJ 36 66 [l0, some (.int (x + (nI 1)))] st m Q := kJ_next d36_63 (kg_inc rfl (Nat.le_of_ble_eq_true rfl) hp)
theorem d36_66 : decode (mB 36) 66 = .ok (.goto (-28), 3) := by decide +kernel
theorem s36_66 {l0 l1 : Option Value} {st : List Value} {m : kMem} {Q : Option Value → kMem → Prop} : kJ 36 66 [l0, l1] st m Q = kJ 36 38 [l0, l1] st m Q := kJ_next d36_66 rfl
theorem d36_69 : decode (mB 36) 69 = .ok (.aload_n 0, 1) := by decide +kernel
theorem s36_69 {l1 : Option Value} {st : List Value} {x : Nat} {m : kMem} {Q : Option Value → kMem → Prop} : kJ 36 69 [some (.ref x), l1] st m Q = kJ 36 70 [some (.ref x), l1] (.ref x :: st) m Q := kJ_next d36_69 rfl
theorem d36_70 : decode (mB 36) 70 = .ok (.getfield 32, 3) := by decide +kernel
theorem s36_70 {l0 l1 : Option Value} {st : List Value} {q : Nat} {mi : Nat → Nat → Int32} {ml : Nat → Nat → Int64} {mr : Nat → Nat → Option Nat} {nx : Nat} {Q : Option Value → kMem → Prop} (h : kIs nx q 3 = true) : kJ 36 70 [l0, l1] (.ref q :: st) (mi, ml, mr, nx) Q = kJ 36 73 [l0, l1] (.int (mi q 4) :: st) (mi, ml, mr, nx) Q := kJ_next d36_70 (kg_geti 3 4 rfl h (by decide))
theorem d36_73 : decode (mB 36) 73 = .ok (.ifCond .ne 7, 3) := by decide +kernel
theorem s36_73 {l0 l1 : Option Value} {st : List Value} {a : Int32} {m : kMem} {Q : Option Value → kMem → Prop} : kJ 36 73 [l0, l1] (.int a :: st) m Q = (if a = 0 then kJ 36 76 [l0, l1] st m Q else kJ 36 80 [l0, l1] st m Q) := kJ_if d36_73 rfl (fun h => kJ_next d36_73 h) (fun h => kJ_next d36_73 h)
theorem d36_76 : decode (mB 36) 76 = .ok (.aload_n 0, 1) := by decide +kernel
theorem s36_76 {l1 : Option Value} {st : List Value} {x : Nat} {m : kMem} {Q : Option Value → kMem → Prop} : kJ 36 76 [some (.ref x), l1] st m Q = kJ 36 77 [some (.ref x), l1] (.ref x :: st) m Q := kJ_next d36_76 rfl
theorem d36_77 : decode (mB 36) 77 = .ok (.invokevirtual 54, 3) := by decide +kernel
theorem s36_77 {l0 l1 : Option Value} {v0 : Nat} {m : kMem} {Q : Option Value → kMem → Prop} (h : kIs m.2.2.2 v0 3 = true) : kJ 36 77 [l0, l1] [.ref v0] m Q = kJ 43 0 [some (.ref v0), none] [] m (fun v m2 => kJ 36 80 [l0, l1] (v.toList ++ []) m2 Q) := kJ_call d36_77 (kg_callv 43 0 rfl rfl rfl rfl (Nat.le_of_ble_eq_true rfl) (Nat.le_of_ble_eq_true rfl) (Nat.le_of_ble_eq_true rfl) h rfl)
theorem d36_80 : decode (mB 36) 80 = .ok (.return_, 1) := by decide +kernel
theorem s36_80 {l0 l1 : Option Value} {m : kMem} {Q : Option Value → kMem → Prop} : kJ 36 80 [l0, l1] [] m Q = Q none m := kJ_ret d36_80 rfl
theorem d37_0 : decode (mB 37) 0 = .ok (.aload_n 0, 1) := by decide +kernel
theorem s37_0 {l1 l2 : Option Value} {st : List Value} {x : Nat} {m : kMem} {Q : Option Value → kMem → Prop} : kJ 37 0 [some (.ref x), l1, l2] st m Q = kJ 37 1 [some (.ref x), l1, l2] (.ref x :: st) m Q := kJ_next d37_0 rfl
theorem d37_1 : decode (mB 37) 1 = .ok (.iload_n 1, 1) := by decide +kernel
theorem s37_1 {l0 l2 : Option Value} {st : List Value} {x : Int32} {m : kMem} {Q : Option Value → kMem → Prop} : kJ 37 1 [l0, some (.int x), l2] st m Q = kJ 37 2 [l0, some (.int x), l2] (.int x :: st) m Q := kJ_next d37_1 rfl
theorem d37_2 : decode (mB 37) 2 = .ok (.putfield 32, 3) := by decide +kernel
theorem s37_2 {l0 l1 l2 : Option Value} {st : List Value} {q : Nat} {x : Int32} {mi : Nat → Nat → Int32} {ml : Nat → Nat → Int64} {mr : Nat → Nat → Option Nat} {nx : Nat} {Q : Option Value → kMem → Prop} (h : kIs nx q 3 = true) : kJ 37 2 [l0, l1, l2] (.int x :: .ref q :: st) (mi, ml, mr, nx) Q = kJ 37 5 [l0, l1, l2] st (kup mi q 4 x, ml, mr, nx) Q := kJ_next d37_2 (kg_puti 3 4 rfl h (by decide) (Or.inl (by decide)))
theorem d37_5 : decode (mB 37) 5 = .ok (.aload_n 0, 1) := by decide +kernel
theorem s37_5 {l1 l2 : Option Value} {st : List Value} {x : Nat} {m : kMem} {Q : Option Value → kMem → Prop} : kJ 37 5 [some (.ref x), l1, l2] st m Q = kJ 37 6 [some (.ref x), l1, l2] (.ref x :: st) m Q := kJ_next d37_5 rfl
theorem d37_6 : decode (mB 37) 6 = .ok (.iload_n 2, 1) := by decide +kernel
theorem s37_6 {l0 l1 : Option Value} {st : List Value} {x : Int32} {m : kMem} {Q : Option Value → kMem → Prop} : kJ 37 6 [l0, l1, some (.int x)] st m Q = kJ 37 7 [l0, l1, some (.int x)] (.int x :: st) m Q := kJ_next d37_6 rfl
theorem d37_7 : decode (mB 37) 7 = .ok (.putfield 35, 3) := by decide +kernel
theorem s37_7 {l0 l1 l2 : Option Value} {st : List Value} {q : Nat} {x : Int32} {mi : Nat → Nat → Int32} {ml : Nat → Nat → Int64} {mr : Nat → Nat → Option Nat} {nx : Nat} {Q : Option Value → kMem → Prop} (h : kIs nx q 3 = true) : kJ 37 7 [l0, l1, l2] (.int x :: .ref q :: st) (mi, ml, mr, nx) Q = kJ 37 10 [l0, l1, l2] st (kup mi q 5 x, ml, mr, nx) Q := kJ_next d37_7 (kg_puti 3 5 rfl h (by decide) (Or.inl (by decide)))
theorem d37_10 : decode (mB 37) 10 = .ok (.return_, 1) := by decide +kernel
theorem s37_10 {l0 l1 l2 : Option Value} {m : kMem} {Q : Option Value → kMem → Prop} : kJ 37 10 [l0, l1, l2] [] m Q = Q none m := kJ_ret d37_10 rfl
theorem d38_0 : decode (mB 38) 0 = .ok (.aload_n 0, 1) := by decide +kernel
theorem s38_0 {l1 l2 l3 : Option Value} {st : List Value} {x : Nat} {m : kMem} {Q : Option Value → kMem → Prop} : kJ 38 0 [some (.ref x), l1, l2, l3] st m Q = kJ 38 1 [some (.ref x), l1, l2, l3] (.ref x :: st) m Q := kJ_next d38_0 rfl
theorem d38_1 : decode (mB 38) 1 = .ok (.getfield 48, 3) := by decide +kernel
theorem s38_1 {l0 l1 l2 l3 : Option Value} {st : List Value} {q : Nat} {mi : Nat → Nat → Int32} {ml : Nat → Nat → Int64} {mr : Nat → Nat → Option Nat} {nx : Nat} {Q : Option Value → kMem → Prop} (h : kIs nx q 3 = true) : kJ 38 1 [l0, l1, l2, l3] (.ref q :: st) (mi, ml, mr, nx) Q = kJ 38 4 [l0, l1, l2, l3] (.int (mi q 7) :: st) (mi, ml, mr, nx) Q := kJ_next d38_1 (kg_geti 3 7 rfl h (by decide))
theorem d38_4 : decode (mB 38) 4 = .ok (.iconst 1, 1) := by decide +kernel
theorem s38_4 {l0 l1 l2 l3 : Option Value} {st : List Value} {m : kMem} {Q : Option Value → kMem → Prop} : kJ 38 4 [l0, l1, l2, l3] st m Q = kJ 38 5 [l0, l1, l2, l3] (.int (nI 1) :: st) m Q := kJ_next d38_4 rfl
theorem d38_5 : decode (mB 38) 5 = .ok (.if_icmp .ne 10, 3) := by decide +kernel
theorem s38_5 {l0 l1 l2 l3 : Option Value} {st : List Value} {a b : Int32} {m : kMem} {Q : Option Value → kMem → Prop} : kJ 38 5 [l0, l1, l2, l3] (.int b :: .int a :: st) m Q = (if a = b then kJ 38 8 [l0, l1, l2, l3] st m Q else kJ 38 15 [l0, l1, l2, l3] st m Q) := kJ_if d38_5 rfl (fun h => kJ_next d38_5 h) (fun h => kJ_next d38_5 h)
theorem d38_8 : decode (mB 38) 8 = .ok (.aload_n 0, 1) := by decide +kernel
theorem s38_8 {l1 l2 l3 : Option Value} {st : List Value} {x : Nat} {m : kMem} {Q : Option Value → kMem → Prop} : kJ 38 8 [some (.ref x), l1, l2, l3] st m Q = kJ 38 9 [some (.ref x), l1, l2, l3] (.ref x :: st) m Q := kJ_next d38_8 rfl
theorem d38_9 : decode (mB 38) 9 = .ok (.invokevirtual 57, 3) := by decide +kernel
theorem s38_9 {l0 l1 l2 l3 : Option Value} {v0 : Nat} {m : kMem} {Q : Option Value → kMem → Prop} (h : kIs m.2.2.2 v0 3 = true) : kJ 38 9 [l0, l1, l2, l3] [.ref v0] m Q = kJ 48 0 [some (.ref v0), none] [] m (fun v m2 => kJ 38 12 [l0, l1, l2, l3] (v.toList ++ []) m2 Q) := kJ_call d38_9 (kg_callv 48 0 rfl rfl rfl rfl (Nat.le_of_ble_eq_true rfl) (Nat.le_of_ble_eq_true rfl) (Nat.le_of_ble_eq_true rfl) h rfl)
theorem d38_12 : decode (mB 38) 12 = .ok (.goto 5, 3) := by decide +kernel
theorem s38_12 {l0 l1 l2 l3 : Option Value} {st : List Value} {m : kMem} {Q : Option Value → kMem → Prop} : kJ 38 12 [l0, l1, l2, l3] st m Q = kJ 38 17 [l0, l1, l2, l3] st m Q := kJ_next d38_12 rfl
theorem d38_15 : decode (mB 38) 15 = .ok (.bipush 6, 2) := by decide +kernel
theorem s38_15 {l0 l1 l2 l3 : Option Value} {st : List Value} {m : kMem} {Q : Option Value → kMem → Prop} : kJ 38 15 [l0, l1, l2, l3] st m Q = kJ 38 17 [l0, l1, l2, l3] (.int (nI 6) :: st) m Q := kJ_next d38_15 rfl
theorem d38_17 : decode (mB 38) 17 = .ok (.istore_n 1, 1) := by decide +kernel
theorem s38_17 {l0 l1 l2 l3 : Option Value} {st : List Value} {x : Int32} {m : kMem} {Q : Option Value → kMem → Prop} (hp : kNL l0 = true) : kJ 38 17 [l0, l1, l2, l3] (.int x :: st) m Q = kJ 38 18 [l0, some (.int x), l2, l3] st m Q := kJ_next d38_17 (kg_sti (Nat.le_of_ble_eq_true rfl) hp)
theorem d38_18 : decode (mB 38) 18 = .ok (.aload_n 0, 1) := by decide +kernel
theorem s38_18 {l1 l2 l3 : Option Value} {st : List Value} {x : Nat} {m : kMem} {Q : Option Value → kMem → Prop} : kJ 38 18 [some (.ref x), l1, l2, l3] st m Q = kJ 38 19 [some (.ref x), l1, l2, l3] (.ref x :: st) m Q := kJ_next d38_18 rfl
theorem d38_19 : decode (mB 38) 19 = .ok (.iload_n 1, 1) := by decide +kernel
theorem s38_19 {l0 l2 l3 : Option Value} {st : List Value} {x : Int32} {m : kMem} {Q : Option Value → kMem → Prop} : kJ 38 19 [l0, some (.int x), l2, l3] st m Q = kJ 38 20 [l0, some (.int x), l2, l3] (.int x :: st) m Q := kJ_next d38_19 rfl
theorem d38_20 : decode (mB 38) 20 = .ok (.invokevirtual 61, 3) := by decide +kernel
theorem s38_20 {l0 l1 l2 l3 : Option Value} {v0 : Int32} {v1 : Nat} {m : kMem} {Q : Option Value → kMem → Prop} (h : kIs m.2.2.2 v1 3 = true) : kJ 38 20 [l0, l1, l2, l3] [.int v0, .ref v1] m Q = kJ 39 0 [some (.ref v1), some (.int v0)] [] m (fun v m2 => kJ 38 23 [l0, l1, l2, l3] (v.toList ++ []) m2 Q) := kJ_call d38_20 (kg_callv 39 1 rfl rfl rfl rfl (Nat.le_of_ble_eq_true rfl) (Nat.le_of_ble_eq_true rfl) (Nat.le_of_ble_eq_true rfl) h rfl)
theorem d38_23 : decode (mB 38) 23 = .ok (.iload_n 1, 1) := by decide +kernel
theorem s38_23 {l0 l2 l3 : Option Value} {st : List Value} {x : Int32} {m : kMem} {Q : Option Value → kMem → Prop} : kJ 38 23 [l0, some (.int x), l2, l3] st m Q = kJ 38 24 [l0, some (.int x), l2, l3] (.int x :: st) m Q := kJ_next d38_23 rfl
theorem d38_24 : decode (mB 38) 24 = .ok (.iconst 4, 1) := by decide +kernel
theorem s38_24 {l0 l1 l2 l3 : Option Value} {st : List Value} {m : kMem} {Q : Option Value → kMem → Prop} : kJ 38 24 [l0, l1, l2, l3] st m Q = kJ 38 25 [l0, l1, l2, l3] (.int (nI 4) :: st) m Q := kJ_next d38_24 rfl
theorem d38_25 : decode (mB 38) 25 = .ok (.if_icmp .ne 7, 3) := by decide +kernel
theorem s38_25 {l0 l1 l2 l3 : Option Value} {st : List Value} {a b : Int32} {m : kMem} {Q : Option Value → kMem → Prop} : kJ 38 25 [l0, l1, l2, l3] (.int b :: .int a :: st) m Q = (if a = b then kJ 38 28 [l0, l1, l2, l3] st m Q else kJ 38 32 [l0, l1, l2, l3] st m Q) := kJ_if d38_25 rfl (fun h => kJ_next d38_25 h) (fun h => kJ_next d38_25 h)
theorem d38_28 : decode (mB 38) 28 = .ok (.iconst 4, 1) := by decide +kernel
theorem s38_28 {l0 l1 l2 l3 : Option Value} {st : List Value} {m : kMem} {Q : Option Value → kMem → Prop} : kJ 38 28 [l0, l1, l2, l3] st m Q = kJ 38 29 [l0, l1, l2, l3] (.int (nI 4) :: st) m Q := kJ_next d38_28 rfl
theorem d38_29 : decode (mB 38) 29 = .ok (.goto 13, 3) := by decide +kernel
theorem s38_29 {l0 l1 l2 l3 : Option Value} {st : List Value} {m : kMem} {Q : Option Value → kMem → Prop} : kJ 38 29 [l0, l1, l2, l3] st m Q = kJ 38 42 [l0, l1, l2, l3] st m Q := kJ_next d38_29 rfl
theorem d38_32 : decode (mB 38) 32 = .ok (.iload_n 1, 1) := by decide +kernel
theorem s38_32 {l0 l2 l3 : Option Value} {st : List Value} {x : Int32} {m : kMem} {Q : Option Value → kMem → Prop} : kJ 38 32 [l0, some (.int x), l2, l3] st m Q = kJ 38 33 [l0, some (.int x), l2, l3] (.int x :: st) m Q := kJ_next d38_32 rfl
theorem d38_33 : decode (mB 38) 33 = .ok (.iconst 5, 1) := by decide +kernel
theorem s38_33 {l0 l1 l2 l3 : Option Value} {st : List Value} {m : kMem} {Q : Option Value → kMem → Prop} : kJ 38 33 [l0, l1, l2, l3] st m Q = kJ 38 34 [l0, l1, l2, l3] (.int (nI 5) :: st) m Q := kJ_next d38_33 rfl
theorem d38_34 : decode (mB 38) 34 = .ok (.if_icmp .ne 7, 3) := by decide +kernel
theorem s38_34 {l0 l1 l2 l3 : Option Value} {st : List Value} {a b : Int32} {m : kMem} {Q : Option Value → kMem → Prop} : kJ 38 34 [l0, l1, l2, l3] (.int b :: .int a :: st) m Q = (if a = b then kJ 38 37 [l0, l1, l2, l3] st m Q else kJ 38 41 [l0, l1, l2, l3] st m Q) := kJ_if d38_34 rfl (fun h => kJ_next d38_34 h) (fun h => kJ_next d38_34 h)
theorem d38_37 : decode (mB 38) 37 = .ok (.iconst 1, 1) := by decide +kernel
theorem s38_37 {l0 l1 l2 l3 : Option Value} {st : List Value} {m : kMem} {Q : Option Value → kMem → Prop} : kJ 38 37 [l0, l1, l2, l3] st m Q = kJ 38 38 [l0, l1, l2, l3] (.int (nI 1) :: st) m Q := kJ_next d38_37 rfl
theorem d38_38 : decode (mB 38) 38 = .ok (.goto 4, 3) := by decide +kernel
theorem s38_38 {l0 l1 l2 l3 : Option Value} {st : List Value} {m : kMem} {Q : Option Value → kMem → Prop} : kJ 38 38 [l0, l1, l2, l3] st m Q = kJ 38 42 [l0, l1, l2, l3] st m Q := kJ_next d38_38 rfl
theorem d38_41 : decode (mB 38) 41 = .ok (.iconst 2, 1) := by decide +kernel
theorem s38_41 {l0 l1 l2 l3 : Option Value} {st : List Value} {m : kMem} {Q : Option Value → kMem → Prop} : kJ 38 41 [l0, l1, l2, l3] st m Q = kJ 38 42 [l0, l1, l2, l3] (.int (nI 2) :: st) m Q := kJ_next d38_41 rfl
theorem d38_42 : decode (mB 38) 42 = .ok (.istore_n 2, 1) := by decide +kernel
theorem s38_42 {l0 l1 l2 l3 : Option Value} {st : List Value} {x : Int32} {m : kMem} {Q : Option Value → kMem → Prop} (hp : kNL l1 = true) : kJ 38 42 [l0, l1, l2, l3] (.int x :: st) m Q = kJ 38 43 [l0, l1, some (.int x), l3] st m Q := kJ_next d38_42 (kg_sti (Nat.le_of_ble_eq_true rfl) hp)
theorem d38_43 : decode (mB 38) 43 = .ok (.iconst 0, 1) := by decide +kernel
theorem s38_43 {l0 l1 l2 l3 : Option Value} {st : List Value} {m : kMem} {Q : Option Value → kMem → Prop} : kJ 38 43 [l0, l1, l2, l3] st m Q = kJ 38 44 [l0, l1, l2, l3] (.int (nI 0) :: st) m Q := kJ_next d38_43 rfl
theorem d38_44 : decode (mB 38) 44 = .ok (.istore_n 3, 1) := by decide +kernel
theorem s38_44 {l0 l1 l2 l3 : Option Value} {st : List Value} {x : Int32} {m : kMem} {Q : Option Value → kMem → Prop} (hp : kNL l2 = true) : kJ 38 44 [l0, l1, l2, l3] (.int x :: st) m Q = kJ 38 45 [l0, l1, l2, some (.int x)] st m Q := kJ_next d38_44 (kg_sti (Nat.le_of_ble_eq_true rfl) hp)
theorem d38_45 : decode (mB 38) 45 = .ok (.iload_n 3, 1) := by decide +kernel
theorem s38_45 {l0 l1 l2 : Option Value} {st : List Value} {x : Int32} {m : kMem} {Q : Option Value → kMem → Prop} : kJ 38 45 [l0, l1, l2, some (.int x)] st m Q = kJ 38 46 [l0, l1, l2, some (.int x)] (.int x :: st) m Q := kJ_next d38_45 rfl
theorem d38_46 : decode (mB 38) 46 = .ok (.iload_n 2, 1) := by decide +kernel
theorem s38_46 {l0 l1 l3 : Option Value} {st : List Value} {x : Int32} {m : kMem} {Q : Option Value → kMem → Prop} : kJ 38 46 [l0, l1, some (.int x), l3] st m Q = kJ 38 47 [l0, l1, some (.int x), l3] (.int x :: st) m Q := kJ_next d38_46 rfl
theorem d38_47 : decode (mB 38) 47 = .ok (.if_icmp .ge 22, 3) := by decide +kernel
theorem s38_47 {l0 l1 l2 l3 : Option Value} {st : List Value} {a b : Int32} {m : kMem} {Q : Option Value → kMem → Prop} : kJ 38 47 [l0, l1, l2, l3] (.int b :: .int a :: st) m Q = (if b ≤ a then kJ 38 69 [l0, l1, l2, l3] st m Q else kJ 38 50 [l0, l1, l2, l3] st m Q) := kJ_if d38_47 rfl (fun h => kJ_next d38_47 h) (fun h => kJ_next d38_47 h)
theorem d38_50 : decode (mB 38) 50 = .ok (.aload_n 0, 1) := by decide +kernel
theorem s38_50 {l1 l2 l3 : Option Value} {st : List Value} {x : Nat} {m : kMem} {Q : Option Value → kMem → Prop} : kJ 38 50 [some (.ref x), l1, l2, l3] st m Q = kJ 38 51 [some (.ref x), l1, l2, l3] (.ref x :: st) m Q := kJ_next d38_50 rfl
theorem d38_51 : decode (mB 38) 51 = .ok (.getfield 32, 3) := by decide +kernel
theorem s38_51 {l0 l1 l2 l3 : Option Value} {st : List Value} {q : Nat} {mi : Nat → Nat → Int32} {ml : Nat → Nat → Int64} {mr : Nat → Nat → Option Nat} {nx : Nat} {Q : Option Value → kMem → Prop} (h : kIs nx q 3 = true) : kJ 38 51 [l0, l1, l2, l3] (.ref q :: st) (mi, ml, mr, nx) Q = kJ 38 54 [l0, l1, l2, l3] (.int (mi q 4) :: st) (mi, ml, mr, nx) Q := kJ_next d38_51 (kg_geti 3 4 rfl h (by decide))
theorem d38_54 : decode (mB 38) 54 = .ok (.ifCond .ne 15, 3) := by decide +kernel
theorem s38_54 {l0 l1 l2 l3 : Option Value} {st : List Value} {a : Int32} {m : kMem} {Q : Option Value → kMem → Prop} : kJ 38 54 [l0, l1, l2, l3] (.int a :: st) m Q = (if a = 0 then kJ 38 57 [l0, l1, l2, l3] st m Q else kJ 38 69 [l0, l1, l2, l3] st m Q) := kJ_if d38_54 rfl (fun h => kJ_next d38_54 h) (fun h => kJ_next d38_54 h)
theorem d38_57 : decode (mB 38) 57 = .ok (.aload_n 0, 1) := by decide +kernel
theorem s38_57 {l1 l2 l3 : Option Value} {st : List Value} {x : Nat} {m : kMem} {Q : Option Value → kMem → Prop} : kJ 38 57 [some (.ref x), l1, l2, l3] st m Q = kJ 38 58 [some (.ref x), l1, l2, l3] (.ref x :: st) m Q := kJ_next d38_57 rfl
theorem d38_58 : decode (mB 38) 58 = .ok (.iload_n 1, 1) := by decide +kernel
theorem s38_58 {l0 l2 l3 : Option Value} {st : List Value} {x : Int32} {m : kMem} {Q : Option Value → kMem → Prop} : kJ 38 58 [l0, some (.int x), l2, l3] st m Q = kJ 38 59 [l0, some (.int x), l2, l3] (.int x :: st) m Q := kJ_next d38_58 rfl
theorem d38_59 : decode (mB 38) 59 = .ok (.iload_n 3, 1) := by decide +kernel
theorem s38_59 {l0 l1 l2 : Option Value} {st : List Value} {x : Int32} {m : kMem} {Q : Option Value → kMem → Prop} : kJ 38 59 [l0, l1, l2, some (.int x)] st m Q = kJ 38 60 [l0, l1, l2, some (.int x)] (.int x :: st) m Q := kJ_next d38_59 rfl
theorem d38_60 : decode (mB 38) 60 = .ok (.invokevirtual 65, 3) := by decide +kernel
theorem s38_60 {l0 l1 l2 l3 : Option Value} {v0 : Int32} {v1 : Int32} {v2 : Nat} {m : kMem} {Q : Option Value → kMem → Prop} (h : kIs m.2.2.2 v2 3 = true) : kJ 38 60 [l0, l1, l2, l3] [.int v0, .int v1, .ref v2] m Q = kJ 40 0 [some (.ref v2), some (.int v1), some (.int v0)] [] m (fun v m2 => kJ 38 63 [l0, l1, l2, l3] (v.toList ++ []) m2 Q) := kJ_call d38_60 (kg_callv 40 2 rfl rfl rfl rfl (Nat.le_of_ble_eq_true rfl) (Nat.le_of_ble_eq_true rfl) (Nat.le_of_ble_eq_true rfl) h rfl)
theorem d38_63 : decode (mB 38) 63 = .ok (.iinc 3 1, 3) := by decide +kernel
theorem s38_63 {l0 l1 l2 : Option Value} {st : List Value} {x : Int32} {m : kMem} {Q : Option Value → kMem → Prop} (hp : kNL l2 = true) : kJ 38 63 [l0, l1, l2, some (.int x)] st m Q = kJ 38 66 [l0, l1, l2, some (.int (x + (nI 1)))] st m Q := kJ_next d38_63 (kg_inc rfl (Nat.le_of_ble_eq_true rfl) hp)
theorem d38_66 : decode (mB 38) 66 = .ok (.goto (-21), 3) := by decide +kernel
theorem s38_66 {l0 l1 l2 l3 : Option Value} {st : List Value} {m : kMem} {Q : Option Value → kMem → Prop} : kJ 38 66 [l0, l1, l2, l3] st m Q = kJ 38 45 [l0, l1, l2, l3] st m Q := kJ_next d38_66 rfl
theorem d38_69 : decode (mB 38) 69 = .ok (.aload_n 0, 1) := by decide +kernel
theorem s38_69 {l1 l2 l3 : Option Value} {st : List Value} {x : Nat} {m : kMem} {Q : Option Value → kMem → Prop} : kJ 38 69 [some (.ref x), l1, l2, l3] st m Q = kJ 38 70 [some (.ref x), l1, l2, l3] (.ref x :: st) m Q := kJ_next d38_69 rfl
theorem d38_70 : decode (mB 38) 70 = .ok (.getfield 32, 3) := by decide +kernel
theorem s38_70 {l0 l1 l2 l3 : Option Value} {st : List Value} {q : Nat} {mi : Nat → Nat → Int32} {ml : Nat → Nat → Int64} {mr : Nat → Nat → Option Nat} {nx : Nat} {Q : Option Value → kMem → Prop} (h : kIs nx q 3 = true) : kJ 38 70 [l0, l1, l2, l3] (.ref q :: st) (mi, ml, mr, nx) Q = kJ 38 73 [l0, l1, l2, l3] (.int (mi q 4) :: st) (mi, ml, mr, nx) Q := kJ_next d38_70 (kg_geti 3 4 rfl h (by decide))
theorem d38_73 : decode (mB 38) 73 = .ok (.ifCond .ne 7, 3) := by decide +kernel
theorem s38_73 {l0 l1 l2 l3 : Option Value} {st : List Value} {a : Int32} {m : kMem} {Q : Option Value → kMem → Prop} : kJ 38 73 [l0, l1, l2, l3] (.int a :: st) m Q = (if a = 0 then kJ 38 76 [l0, l1, l2, l3] st m Q else kJ 38 80 [l0, l1, l2, l3] st m Q) := kJ_if d38_73 rfl (fun h => kJ_next d38_73 h) (fun h => kJ_next d38_73 h)
theorem d38_76 : decode (mB 38) 76 = .ok (.aload_n 0, 1) := by decide +kernel
theorem s38_76 {l1 l2 l3 : Option Value} {st : List Value} {x : Nat} {m : kMem} {Q : Option Value → kMem → Prop} : kJ 38 76 [some (.ref x), l1, l2, l3] st m Q = kJ 38 77 [some (.ref x), l1, l2, l3] (.ref x :: st) m Q := kJ_next d38_76 rfl
theorem d38_77 : decode (mB 38) 77 = .ok (.invokevirtual 45, 3) := by decide +kernel
theorem s38_77 {l0 l1 l2 l3 : Option Value} {v0 : Nat} {m : kMem} {Q : Option Value → kMem → Prop} (h : kIs m.2.2.2 v0 3 = true) : kJ 38 77 [l0, l1, l2, l3] [.ref v0] m Q = kJ 44 0 [some (.ref v0)] [] m (fun v m2 => kJ 38 80 [l0, l1, l2, l3] (v.toList ++ []) m2 Q) := kJ_call d38_77 (kg_callv 44 0 rfl rfl rfl rfl (Nat.le_of_ble_eq_true rfl) (Nat.le_of_ble_eq_true rfl) (Nat.le_of_ble_eq_true rfl) h rfl)
theorem d38_80 : decode (mB 38) 80 = .ok (.aload_n 0, 1) := by decide +kernel
theorem s38_80 {l1 l2 l3 : Option Value} {st : List Value} {x : Nat} {m : kMem} {Q : Option Value → kMem → Prop} : kJ 38 80 [some (.ref x), l1, l2, l3] st m Q = kJ 38 81 [some (.ref x), l1, l2, l3] (.ref x :: st) m Q := kJ_next d38_80 rfl
theorem d38_81 : decode (mB 38) 81 = .ok (.getfield 32, 3) := by decide +kernel
theorem s38_81 {l0 l1 l2 l3 : Option Value} {st : List Value} {q : Nat} {mi : Nat → Nat → Int32} {ml : Nat → Nat → Int64} {mr : Nat → Nat → Option Nat} {nx : Nat} {Q : Option Value → kMem → Prop} (h : kIs nx q 3 = true) : kJ 38 81 [l0, l1, l2, l3] (.ref q :: st) (mi, ml, mr, nx) Q = kJ 38 84 [l0, l1, l2, l3] (.int (mi q 4) :: st) (mi, ml, mr, nx) Q := kJ_next d38_81 (kg_geti 3 4 rfl h (by decide))
theorem d38_84 : decode (mB 38) 84 = .ok (.ifCond .ne 20, 3) := by decide +kernel
theorem s38_84 {l0 l1 l2 l3 : Option Value} {st : List Value} {a : Int32} {m : kMem} {Q : Option Value → kMem → Prop} : kJ 38 84 [l0, l1, l2, l3] (.int a :: st) m Q = (if a = 0 then kJ 38 87 [l0, l1, l2, l3] st m Q else kJ 38 104 [l0, l1, l2, l3] st m Q) := kJ_if d38_84 rfl (fun h => kJ_next d38_84 h) (fun h => kJ_next d38_84 h)
theorem d38_87 : decode (mB 38) 87 = .ok (.aload_n 0, 1) := by decide +kernel
theorem s38_87 {l1 l2 l3 : Option Value} {st : List Value} {x : Nat} {m : kMem} {Q : Option Value → kMem → Prop} : kJ 38 87 [some (.ref x), l1, l2, l3] st m Q = kJ 38 88 [some (.ref x), l1, l2, l3] (.ref x :: st) m Q := kJ_next d38_87 rfl
theorem d38_88 : decode (mB 38) 88 = .ok (.getfield 48, 3) := by decide +kernel
theorem s38_88 {l0 l1 l2 l3 : Option Value} {st : List Value} {q : Nat} {mi : Nat → Nat → Int32} {ml : Nat → Nat → Int64} {mr : Nat → Nat → Option Nat} {nx : Nat} {Q : Option Value → kMem → Prop} (h : kIs nx q 3 = true) : kJ 38 88 [l0, l1, l2, l3] (.ref q :: st) (mi, ml, mr, nx) Q = kJ 38 91 [l0, l1, l2, l3] (.int (mi q 7) :: st) (mi, ml, mr, nx) Q := kJ_next d38_88 (kg_geti 3 7 rfl h (by decide))
theorem d38_91 : decode (mB 38) 91 = .ok (.iconst 3, 1) := by decide +kernel
theorem s38_91 {l0 l1 l2 l3 : Option Value} {st : List Value} {m : kMem} {Q : Option Value → kMem → Prop} : kJ 38 91 [l0, l1, l2, l3] st m Q = kJ 38 92 [l0, l1, l2, l3] (.int (nI 3) :: st) m Q := kJ_next d38_91 rfl
theorem d38_92 : decode (mB 38) 92 = .ok (.if_icmp .eq 12, 3) := by decide +kernel
theorem s38_92 {l0 l1 l2 l3 : Option Value} {st : List Value} {a b : Int32} {m : kMem} {Q : Option Value → kMem → Prop} : kJ 38 92 [l0, l1, l2, l3] (.int b :: .int a :: st) m Q = (if a = b then kJ 38 104 [l0, l1, l2, l3] st m Q else kJ 38 95 [l0, l1, l2, l3] st m Q) := kJ_if d38_92 rfl (fun h => kJ_next d38_92 h) (fun h => kJ_next d38_92 h)
theorem d38_95 : decode (mB 38) 95 = .ok (.aload_n 0, 1) := by decide +kernel
theorem s38_95 {l1 l2 l3 : Option Value} {st : List Value} {x : Nat} {m : kMem} {Q : Option Value → kMem → Prop} : kJ 38 95 [some (.ref x), l1, l2, l3] st m Q = kJ 38 96 [some (.ref x), l1, l2, l3] (.ref x :: st) m Q := kJ_next d38_95 rfl
theorem d38_96 : decode (mB 38) 96 = .ok (.iconst 2, 1) := by decide +kernel
theorem s38_96 {l0 l1 l2 l3 : Option Value} {st : List Value} {m : kMem} {Q : Option Value → kMem → Prop} : kJ 38 96 [l0, l1, l2, l3] st m Q = kJ 38 97 [l0, l1, l2, l3] (.int (nI 2) :: st) m Q := kJ_next d38_96 rfl
theorem d38_97 : decode (mB 38) 97 = .ok (.aload_n 0, 1) := by decide +kernel
theorem s38_97 {l1 l2 l3 : Option Value} {st : List Value} {x : Nat} {m : kMem} {Q : Option Value → kMem → Prop} : kJ 38 97 [some (.ref x), l1, l2, l3] st m Q = kJ 38 98 [some (.ref x), l1, l2, l3] (.ref x :: st) m Q := kJ_next d38_97 rfl
theorem d38_98 : decode (mB 38) 98 = .ok (.getfield 69, 3) := by decide +kernel
theorem s38_98 {l0 l1 l2 l3 : Option Value} {st : List Value} {q : Nat} {mi : Nat → Nat → Int32} {ml : Nat → Nat → Int64} {mr : Nat → Nat → Option Nat} {nx : Nat} {Q : Option Value → kMem → Prop} (h : kIs nx q 3 = true) : kJ 38 98 [l0, l1, l2, l3] (.ref q :: st) (mi, ml, mr, nx) Q = kJ 38 101 [l0, l1, l2, l3] (.int (mi q 8) :: st) (mi, ml, mr, nx) Q := kJ_next d38_98 (kg_geti 3 8 rfl h (by decide))
theorem d38_101 : decode (mB 38) 101 = .ok (.invokevirtual 72, 3) := by decide +kernel
theorem s38_101 {l0 l1 l2 l3 : Option Value} {v0 : Int32} {v1 : Int32} {v2 : Nat} {m : kMem} {Q : Option Value → kMem → Prop} (h : kIs m.2.2.2 v2 3 = true) : kJ 38 101 [l0, l1, l2, l3] [.int v0, .int v1, .ref v2] m Q = kJ 37 0 [some (.ref v2), some (.int v1), some (.int v0)] [] m (fun v m2 => kJ 38 104 [l0, l1, l2, l3] (v.toList ++ []) m2 Q) := kJ_call d38_101 (kg_callv 37 2 rfl rfl rfl rfl (Nat.le_of_ble_eq_true rfl) (Nat.le_of_ble_eq_true rfl) (Nat.le_of_ble_eq_true rfl) h rfl)
theorem d38_104 : decode (mB 38) 104 = .ok (.aload_n 0, 1) := by decide +kernel
theorem s38_104 {l1 l2 l3 : Option Value} {st : List Value} {x : Nat} {m : kMem} {Q : Option Value → kMem → Prop} : kJ 38 104 [some (.ref x), l1, l2, l3] st m Q = kJ 38 105 [some (.ref x), l1, l2, l3] (.ref x :: st) m Q := kJ_next d38_104 rfl
theorem d38_105 : decode (mB 38) 105 = .ok (.getfield 32, 3) := by decide +kernel
theorem s38_105 {l0 l1 l2 l3 : Option Value} {st : List Value} {q : Nat} {mi : Nat → Nat → Int32} {ml : Nat → Nat → Int64} {mr : Nat → Nat → Option Nat} {nx : Nat} {Q : Option Value → kMem → Prop} (h : kIs nx q 3 = true) : kJ 38 105 [l0, l1, l2, l3] (.ref q :: st) (mi, ml, mr, nx) Q = kJ 38 108 [l0, l1, l2, l3] (.int (mi q 4) :: st) (mi, ml, mr, nx) Q := kJ_next d38_105 (kg_geti 3 4 rfl h (by decide))
theorem d38_108 : decode (mB 38) 108 = .ok (.ifCond .ne 12, 3) := by decide +kernel
theorem s38_108 {l0 l1 l2 l3 : Option Value} {st : List Value} {a : Int32} {m : kMem} {Q : Option Value → kMem → Prop} : kJ 38 108 [l0, l1, l2, l3] (.int a :: st) m Q = (if a = 0 then kJ 38 111 [l0, l1, l2, l3] st m Q else kJ 38 120 [l0, l1, l2, l3] st m Q) := kJ_if d38_108 rfl (fun h => kJ_next d38_108 h) (fun h => kJ_next d38_108 h)
theorem d38_111 : decode (mB 38) 111 = .ok (.aload_n 0, 1) := by decide +kernel
theorem s38_111 {l1 l2 l3 : Option Value} {st : List Value} {x : Nat} {m : kMem} {Q : Option Value → kMem → Prop} : kJ 38 111 [some (.ref x), l1, l2, l3] st m Q = kJ 38 112 [some (.ref x), l1, l2, l3] (.ref x :: st) m Q := kJ_next d38_111 rfl
theorem d38_112 : decode (mB 38) 112 = .ok (.iload_n 1, 1) := by decide +kernel
theorem s38_112 {l0 l2 l3 : Option Value} {st : List Value} {x : Int32} {m : kMem} {Q : Option Value → kMem → Prop} : kJ 38 112 [l0, some (.int x), l2, l3] st m Q = kJ 38 113 [l0, some (.int x), l2, l3] (.int x :: st) m Q := kJ_next d38_112 rfl
theorem d38_113 : decode (mB 38) 113 = .ok (.invokevirtual 75, 3) := by decide +kernel
theorem s38_113 {l0 l1 l2 l3 : Option Value} {v0 : Int32} {v1 : Nat} {m : kMem} {Q : Option Value → kMem → Prop} (h : kIs m.2.2.2 v1 3 = true) : kJ 38 113 [l0, l1, l2, l3] [.int v0, .ref v1] m Q = kJ 42 0 [some (.ref v1), some (.int v0)] [] m (fun v m2 => kJ 38 116 [l0, l1, l2, l3] (v.toList ++ []) m2 Q) := kJ_call d38_113 (kg_callv 42 1 rfl rfl rfl rfl (Nat.le_of_ble_eq_true rfl) (Nat.le_of_ble_eq_true rfl) (Nat.le_of_ble_eq_true rfl) h rfl)
theorem d38_116 : decode (mB 38) 116 = .ok (.aload_n 0, 1) := by decide +kernel
theorem s38_116 {l1 l2 l3 : Option Value} {st : List Value} {x : Nat} {m : kMem} {Q : Option Value → kMem → Prop} : kJ 38 116 [some (.ref x), l1, l2, l3] st m Q = kJ 38 117 [some (.ref x), l1, l2, l3] (.ref x :: st) m Q := kJ_next d38_116 rfl
theorem d38_117 : decode (mB 38) 117 = .ok (.invokevirtual 45, 3) := by decide +kernel
theorem s38_117 {l0 l1 l2 l3 : Option Value} {v0 : Nat} {m : kMem} {Q : Option Value → kMem → Prop} (h : kIs m.2.2.2 v0 3 = true) : kJ 38 117 [l0, l1, l2, l3] [.ref v0] m Q = kJ 44 0 [some (.ref v0)] [] m (fun v m2 => kJ 38 120 [l0, l1, l2, l3] (v.toList ++ []) m2 Q) := kJ_call d38_117 (kg_callv 44 0 rfl rfl rfl rfl (Nat.le_of_ble_eq_true rfl) (Nat.le_of_ble_eq_true rfl) (Nat.le_of_ble_eq_true rfl) h rfl)
theorem d38_120 : decode (mB 38) 120 = .ok (.return_, 1) := by decide +kernel
theorem s38_120 {l0 l1 l2 l3 : Option Value} {m : kMem} {Q : Option Value → kMem → Prop} : kJ 38 120 [l0, l1, l2, l3] [] m Q = Q none m := kJ_ret d38_120 rfl
theorem d39_0 : decode (mB 39) 0 = .ok (.iload_n 1, 1) := by decide +kernel
theorem s39_0 {l0 : Option Value} {st : List Value} {x : Int32} {m : kMem} {Q : Option Value → kMem → Prop} : kJ 39 0 [l0, some (.int x)] st m Q = kJ 39 1 [l0, some (.int x)] (.int x :: st) m Q := kJ_next d39_0 rfl
theorem d39_1 : decode (mB 39) 1 = .ok (.bipush 6, 2) := by decide +kernel
theorem s39_1 {l0 l1 : Option Value} {st : List Value} {m : kMem} {Q : Option Value → kMem → Prop} : kJ 39 1 [l0, l1] st m Q = kJ 39 3 [l0, l1] (.int (nI 6) :: st) m Q := kJ_next d39_1 rfl
theorem d39_3 : decode (mB 39) 3 = .ok (.if_icmp .ne 15, 3) := by decide +kernel
theorem s39_3 {l0 l1 : Option Value} {st : List Value} {a b : Int32} {m : kMem} {Q : Option Value → kMem → Prop} : kJ 39 3 [l0, l1] (.int b :: .int a :: st) m Q = (if a = b then kJ 39 6 [l0, l1] st m Q else kJ 39 18 [l0, l1] st m Q) := kJ_if d39_3 rfl (fun h => kJ_next d39_3 h) (fun h => kJ_next d39_3 h)
theorem d39_6 : decode (mB 39) 6 = .ok (.aload_n 0, 1) := by decide +kernel
theorem s39_6 {l1 : Option Value} {st : List Value} {x : Nat} {m : kMem} {Q : Option Value → kMem → Prop} : kJ 39 6 [some (.ref x), l1] st m Q = kJ 39 7 [some (.ref x), l1] (.ref x :: st) m Q := kJ_next d39_6 rfl
theorem d39_7 : decode (mB 39) 7 = .ok (.iconst 2, 1) := by decide +kernel
theorem s39_7 {l0 l1 : Option Value} {st : List Value} {m : kMem} {Q : Option Value → kMem → Prop} : kJ 39 7 [l0, l1] st m Q = kJ 39 8 [l0, l1] (.int (nI 2) :: st) m Q := kJ_next d39_7 rfl
theorem d39_8 : decode (mB 39) 8 = .ok (.aload_n 0, 1) := by decide +kernel
theorem s39_8 {l1 : Option Value} {st : List Value} {x : Nat} {m : kMem} {Q : Option Value → kMem → Prop} : kJ 39 8 [some (.ref x), l1] st m Q = kJ 39 9 [some (.ref x), l1] (.ref x :: st) m Q := kJ_next d39_8 rfl
theorem d39_9 : decode (mB 39) 9 = .ok (.getfield 69, 3) := by decide +kernel
theorem s39_9 {l0 l1 : Option Value} {st : List Value} {q : Nat} {mi : Nat → Nat → Int32} {ml : Nat → Nat → Int64} {mr : Nat → Nat → Option Nat} {nx : Nat} {Q : Option Value → kMem → Prop} (h : kIs nx q 3 = true) : kJ 39 9 [l0, l1] (.ref q :: st) (mi, ml, mr, nx) Q = kJ 39 12 [l0, l1] (.int (mi q 8) :: st) (mi, ml, mr, nx) Q := kJ_next d39_9 (kg_geti 3 8 rfl h (by decide))
theorem d39_12 : decode (mB 39) 12 = .ok (.invokevirtual 72, 3) := by decide +kernel
theorem s39_12 {l0 l1 : Option Value} {v0 : Int32} {v1 : Int32} {v2 : Nat} {m : kMem} {Q : Option Value → kMem → Prop} (h : kIs m.2.2.2 v2 3 = true) : kJ 39 12 [l0, l1] [.int v0, .int v1, .ref v2] m Q = kJ 37 0 [some (.ref v2), some (.int v1), some (.int v0)] [] m (fun v m2 => kJ 39 15 [l0, l1] (v.toList ++ []) m2 Q) := kJ_call d39_12 (kg_callv 37 2 rfl rfl rfl rfl (Nat.le_of_ble_eq_true rfl) (Nat.le_of_ble_eq_true rfl) (Nat.le_of_ble_eq_true rfl) h rfl)
theorem d39_15 : decode (mB 39) 15 = .ok (.goto 81, 3) := by decide +kernel
theorem s39_15 {l0 l1 : Option Value} {st : List Value} {m : kMem} {Q : Option Value → kMem → Prop} : kJ 39 15 [l0, l1] st m Q = kJ 39 96 [l0, l1] st m Q := kJ_next d39_15 rfl
theorem d39_18 : decode (mB 39) 18 = .ok (.iload_n 1, 1) := by decide +kernel
theorem s39_18 {l0 : Option Value} {st : List Value} {x : Int32} {m : kMem} {Q : Option Value → kMem → Prop} : kJ 39 18 [l0, some (.int x)] st m Q = kJ 39 19 [l0, some (.int x)] (.int x :: st) m Q := kJ_next d39_18 rfl
theorem d39_19 : decode (mB 39) 19 = .ok (.iconst 5, 1) := by decide +kernel
theorem s39_19 {l0 l1 : Option Value} {st : List Value} {m : kMem} {Q : Option Value → kMem → Prop} : kJ 39 19 [l0, l1] st m Q = kJ 39 20 [l0, l1] (.int (nI 5) :: st) m Q := kJ_next d39_19 rfl
theorem d39_20 : decode (mB 39) 20 = .ok (.if_icmp .ne 22, 3) := by decide +kernel
theorem s39_20 {l0 l1 : Option Value} {st : List Value} {a b : Int32} {m : kMem} {Q : Option Value → kMem → Prop} : kJ 39 20 [l0, l1] (.int b :: .int a :: st) m Q = (if a = b then kJ 39 23 [l0, l1] st m Q else kJ 39 42 [l0, l1] st m Q) := kJ_if d39_20 rfl (fun h => kJ_next d39_20 h) (fun h => kJ_next d39_20 h)
theorem d39_23 : decode (mB 39) 23 = .ok (.aload_n 0, 1) := by decide +kernel
theorem s39_23 {l1 : Option Value} {st : List Value} {x : Nat} {m : kMem} {Q : Option Value → kMem → Prop} : kJ 39 23 [some (.ref x), l1] st m Q = kJ 39 24 [some (.ref x), l1] (.ref x :: st) m Q := kJ_next d39_23 rfl
theorem d39_24 : decode (mB 39) 24 = .ok (.getfield 41, 3) := by decide +kernel
theorem s39_24 {l0 l1 : Option Value} {st : List Value} {q : Nat} {mi : Nat → Nat → Int32} {ml : Nat → Nat → Int64} {mr : Nat → Nat → Option Nat} {nx : Nat} {Q : Option Value → kMem → Prop} (h : kIs nx q 3 = true) : kJ 39 24 [l0, l1] (.ref q :: st) (mi, ml, mr, nx) Q = kJ 39 27 [l0, l1] (.int (mi q 10) :: st) (mi, ml, mr, nx) Q := kJ_next d39_24 (kg_geti 3 10 rfl h (by decide))
theorem d39_27 : decode (mB 39) 27 = .ok (.ifCond .eq 15, 3) := by decide +kernel
theorem s39_27 {l0 l1 : Option Value} {st : List Value} {a : Int32} {m : kMem} {Q : Option Value → kMem → Prop} : kJ 39 27 [l0, l1] (.int a :: st) m Q = (if a = 0 then kJ 39 42 [l0, l1] st m Q else kJ 39 30 [l0, l1] st m Q) := kJ_if d39_27 rfl (fun h => kJ_next d39_27 h) (fun h => kJ_next d39_27 h)
theorem d39_30 : decode (mB 39) 30 = .ok (.aload_n 0, 1) := by decide +kernel
theorem s39_30 {l1 : Option Value} {st : List Value} {x : Nat} {m : kMem} {Q : Option Value → kMem → Prop} : kJ 39 30 [some (.ref x), l1] st m Q = kJ 39 31 [some (.ref x), l1] (.ref x :: st) m Q := kJ_next d39_30 rfl
theorem d39_31 : decode (mB 39) 31 = .ok (.iconst 4, 1) := by decide +kernel
theorem s39_31 {l0 l1 : Option Value} {st : List Value} {m : kMem} {Q : Option Value → kMem → Prop} : kJ 39 31 [l0, l1] st m Q = kJ 39 32 [l0, l1] (.int (nI 4) :: st) m Q := kJ_next d39_31 rfl
theorem d39_32 : decode (mB 39) 32 = .ok (.aload_n 0, 1) := by decide +kernel
theorem s39_32 {l1 : Option Value} {st : List Value} {x : Nat} {m : kMem} {Q : Option Value → kMem → Prop} : kJ 39 32 [some (.ref x), l1] st m Q = kJ 39 33 [some (.ref x), l1] (.ref x :: st) m Q := kJ_next d39_32 rfl
theorem d39_33 : decode (mB 39) 33 = .ok (.getfield 69, 3) := by decide +kernel
theorem s39_33 {l0 l1 : Option Value} {st : List Value} {q : Nat} {mi : Nat → Nat → Int32} {ml : Nat → Nat → Int64} {mr : Nat → Nat → Option Nat} {nx : Nat} {Q : Option Value → kMem → Prop} (h : kIs nx q 3 = true) : kJ 39 33 [l0, l1] (.ref q :: st) (mi, ml, mr, nx) Q = kJ 39 36 [l0, l1] (.int (mi q 8) :: st) (mi, ml, mr, nx) Q := kJ_next d39_33 (kg_geti 3 8 rfl h (by decide))
theorem d39_36 : decode (mB 39) 36 = .ok (.invokevirtual 72, 3) := by decide +kernel
theorem s39_36 {l0 l1 : Option Value} {v0 : Int32} {v1 : Int32} {v2 : Nat} {m : kMem} {Q : Option Value → kMem → Prop} (h : kIs m.2.2.2 v2 3 = true) : kJ 39 36 [l0, l1] [.int v0, .int v1, .ref v2] m Q = kJ 37 0 [some (.ref v2), some (.int v1), some (.int v0)] [] m (fun v m2 => kJ 39 39 [l0, l1] (v.toList ++ []) m2 Q) := kJ_call d39_36 (kg_callv 37 2 rfl rfl rfl rfl (Nat.le_of_ble_eq_true rfl) (Nat.le_of_ble_eq_true rfl) (Nat.le_of_ble_eq_true rfl) h rfl)
theorem d39_39 : decode (mB 39) 39 = .ok (.goto 57, 3) := by decide +kernel
theorem s39_39 {l0 l1 : Option Value} {st : List Value} {m : kMem} {Q : Option Value → kMem → Prop} : kJ 39 39 [l0, l1] st m Q = kJ 39 96 [l0, l1] st m Q := kJ_next d39_39 rfl
theorem d39_42 : decode (mB 39) 42 = .ok (.iload_n 1, 1) := by decide +kernel
theorem s39_42 {l0 : Option Value} {st : List Value} {x : Int32} {m : kMem} {Q : Option Value → kMem → Prop} : kJ 39 42 [l0, some (.int x)] st m Q = kJ 39 43 [l0, some (.int x)] (.int x :: st) m Q := kJ_next d39_42 rfl
theorem d39_43 : decode (mB 39) 43 = .ok (.iconst 4, 1) := by decide +kernel
theorem s39_43 {l0 l1 : Option Value} {st : List Value} {m : kMem} {Q : Option Value → kMem → Prop} : kJ 39 43 [l0, l1] st m Q = kJ 39 44 [l0, l1] (.int (nI 4) :: st) m Q := kJ_next d39_43 rfl
theorem d39_44 : decode (mB 39) 44 = .ok (.if_icmp .ne 27, 3) := by decide +kernel
theorem s39_44 {l0 l1 : Option Value} {st : List Value} {a b : Int32} {m : kMem} {Q : Option Value → kMem → Prop} : kJ 39 44 [l0, l1] (.int b :: .int a :: st) m Q = (if a = b then kJ 39 47 [l0, l1] st m Q else kJ 39 71 [l0, l1] st m Q) := kJ_if d39_44 rfl (fun h => kJ_next d39_44 h) (fun h => kJ_next d39_44 h)
theorem d39_47 : decode (mB 39) 47 = .ok (.aload_n 0, 1) := by decide +kernel
theorem s39_47 {l1 : Option Value} {st : List Value} {x : Nat} {m : kMem} {Q : Option Value → kMem → Prop} : kJ 39 47 [some (.ref x), l1] st m Q = kJ 39 48 [some (.ref x), l1] (.ref x :: st) m Q := kJ_next d39_47 rfl
theorem d39_48 : decode (mB 39) 48 = .ok (.getfield 18, 3) := by decide +kernel
theorem s39_48 {l0 l1 : Option Value} {st : List Value} {q : Nat} {mi : Nat → Nat → Int32} {ml : Nat → Nat → Int64} {mr : Nat → Nat → Option Nat} {nx : Nat} {Q : Option Value → kMem → Prop} (h : kIs nx q 3 = true) : kJ 39 48 [l0, l1] (.ref q :: st) (mi, ml, mr, nx) Q = kJ 39 51 [l0, l1] (va_rf (mr q 2) :: st) (mi, ml, mr, nx) Q := kJ_next d39_48 (kg_getr 3 2 rfl h (by decide))
theorem d39_51 : decode (mB 39) 51 = .ok (.getfield 78, 3) := by decide +kernel
theorem s39_51 {l0 l1 : Option Value} {st : List Value} {q : Nat} {mi : Nat → Nat → Int32} {ml : Nat → Nat → Int64} {mr : Nat → Nat → Option Nat} {nx : Nat} {Q : Option Value → kMem → Prop} (h : kIs nx q 1 = true) : kJ 39 51 [l0, l1] (.ref q :: st) (mi, ml, mr, nx) Q = kJ 39 54 [l0, l1] (.int (mi q 4) :: st) (mi, ml, mr, nx) Q := kJ_next d39_51 (kg_geti 1 4 rfl h (by decide))
theorem d39_54 : decode (mB 39) 54 = .ok (.bipush 6, 2) := by decide +kernel
theorem s39_54 {l0 l1 : Option Value} {st : List Value} {m : kMem} {Q : Option Value → kMem → Prop} : kJ 39 54 [l0, l1] st m Q = kJ 39 56 [l0, l1] (.int (nI 6) :: st) m Q := kJ_next d39_54 rfl
theorem d39_56 : decode (mB 39) 56 = .ok (.if_icmp .lt 15, 3) := by decide +kernel
theorem s39_56 {l0 l1 : Option Value} {st : List Value} {a b : Int32} {m : kMem} {Q : Option Value → kMem → Prop} : kJ 39 56 [l0, l1] (.int b :: .int a :: st) m Q = (if a < b then kJ 39 71 [l0, l1] st m Q else kJ 39 59 [l0, l1] st m Q) := kJ_if d39_56 rfl (fun h => kJ_next d39_56 h) (fun h => kJ_next d39_56 h)
theorem d39_59 : decode (mB 39) 59 = .ok (.aload_n 0, 1) := by decide +kernel
theorem s39_59 {l1 : Option Value} {st : List Value} {x : Nat} {m : kMem} {Q : Option Value → kMem → Prop} : kJ 39 59 [some (.ref x), l1] st m Q = kJ 39 60 [some (.ref x), l1] (.ref x :: st) m Q := kJ_next d39_59 rfl
theorem d39_60 : decode (mB 39) 60 = .ok (.iconst 5, 1) := by decide +kernel
theorem s39_60 {l0 l1 : Option Value} {st : List Value} {m : kMem} {Q : Option Value → kMem → Prop} : kJ 39 60 [l0, l1] st m Q = kJ 39 61 [l0, l1] (.int (nI 5) :: st) m Q := kJ_next d39_60 rfl
theorem d39_61 : decode (mB 39) 61 = .ok (.aload_n 0, 1) := by decide +kernel
theorem s39_61 {l1 : Option Value} {st : List Value} {x : Nat} {m : kMem} {Q : Option Value → kMem → Prop} : kJ 39 61 [some (.ref x), l1] st m Q = kJ 39 62 [some (.ref x), l1] (.ref x :: st) m Q := kJ_next d39_61 rfl
theorem d39_62 : decode (mB 39) 62 = .ok (.getfield 69, 3) := by decide +kernel
theorem s39_62 {l0 l1 : Option Value} {st : List Value} {q : Nat} {mi : Nat → Nat → Int32} {ml : Nat → Nat → Int64} {mr : Nat → Nat → Option Nat} {nx : Nat} {Q : Option Value → kMem → Prop} (h : kIs nx q 3 = true) : kJ 39 62 [l0, l1] (.ref q :: st) (mi, ml, mr, nx) Q = kJ 39 65 [l0, l1] (.int (mi q 8) :: st) (mi, ml, mr, nx) Q := kJ_next d39_62 (kg_geti 3 8 rfl h (by decide))
theorem d39_65 : decode (mB 39) 65 = .ok (.invokevirtual 72, 3) := by decide +kernel
theorem s39_65 {l0 l1 : Option Value} {v0 : Int32} {v1 : Int32} {v2 : Nat} {m : kMem} {Q : Option Value → kMem → Prop} (h : kIs m.2.2.2 v2 3 = true) : kJ 39 65 [l0, l1] [.int v0, .int v1, .ref v2] m Q = kJ 37 0 [some (.ref v2), some (.int v1), some (.int v0)] [] m (fun v m2 => kJ 39 68 [l0, l1] (v.toList ++ []) m2 Q) := kJ_call d39_65 (kg_callv 37 2 rfl rfl rfl rfl (Nat.le_of_ble_eq_true rfl) (Nat.le_of_ble_eq_true rfl) (Nat.le_of_ble_eq_true rfl) h rfl)
theorem d39_68 : decode (mB 39) 68 = .ok (.goto 28, 3) := by decide +kernel
theorem s39_68 {l0 l1 : Option Value} {st : List Value} {m : kMem} {Q : Option Value → kMem → Prop} : kJ 39 68 [l0, l1] st m Q = kJ 39 96 [l0, l1] st m Q := kJ_next d39_68 rfl
theorem d39_71 : decode (mB 39) 71 = .ok (.iload_n 1, 1) := by decide +kernel
theorem s39_71 {l0 : Option Value} {st : List Value} {x : Int32} {m : kMem} {Q : Option Value → kMem → Prop} : kJ 39 71 [l0, some (.int x)] st m Q = kJ 39 72 [l0, some (.int x)] (.int x :: st) m Q := kJ_next d39_71 rfl
theorem d39_72 : decode (mB 39) 72 = .ok (.iconst 4, 1) := by decide +kernel
theorem s39_72 {l0 l1 : Option Value} {st : List Value} {m : kMem} {Q : Option Value → kMem → Prop} : kJ 39 72 [l0, l1] st m Q = kJ 39 73 [l0, l1] (.int (nI 4) :: st) m Q := kJ_next d39_72 rfl
theorem d39_73 : decode (mB 39) 73 = .ok (.if_icmp .ge 23, 3) := by decide +kernel
theorem s39_73 {l0 l1 : Option Value} {st : List Value} {a b : Int32} {m : kMem} {Q : Option Value → kMem → Prop} : kJ 39 73 [l0, l1] (.int b :: .int a :: st) m Q = (if b ≤ a then kJ 39 96 [l0, l1] st m Q else kJ 39 76 [l0, l1] st m Q) := kJ_if d39_73 rfl (fun h => kJ_next d39_73 h) (fun h => kJ_next d39_73 h)
theorem d39_76 : decode (mB 39) 76 = .ok (.aload_n 0, 1) := by decide +kernel
theorem s39_76 {l1 : Option Value} {st : List Value} {x : Nat} {m : kMem} {Q : Option Value → kMem → Prop} : kJ 39 76 [some (.ref x), l1] st m Q = kJ 39 77 [some (.ref x), l1] (.ref x :: st) m Q := kJ_next d39_76 rfl
theorem d39_77 : decode (mB 39) 77 = .ok (.getfield 18, 3) := by decide +kernel
theorem s39_77 {l0 l1 : Option Value} {st : List Value} {q : Nat} {mi : Nat → Nat → Int32} {ml : Nat → Nat → Int64} {mr : Nat → Nat → Option Nat} {nx : Nat} {Q : Option Value → kMem → Prop} (h : kIs nx q 3 = true) : kJ 39 77 [l0, l1] (.ref q :: st) (mi, ml, mr, nx) Q = kJ 39 80 [l0, l1] (va_rf (mr q 2) :: st) (mi, ml, mr, nx) Q := kJ_next d39_77 (kg_getr 3 2 rfl h (by decide))
theorem d39_80 : decode (mB 39) 80 = .ok (.getfield 81, 3) := by decide +kernel
theorem s39_80 {l0 l1 : Option Value} {st : List Value} {q : Nat} {mi : Nat → Nat → Int32} {ml : Nat → Nat → Int64} {mr : Nat → Nat → Option Nat} {nx : Nat} {Q : Option Value → kMem → Prop} (h : kIs nx q 1 = true) : kJ 39 80 [l0, l1] (.ref q :: st) (mi, ml, mr, nx) Q = kJ 39 83 [l0, l1] (.int (mi q 0) :: st) (mi, ml, mr, nx) Q := kJ_next d39_80 (kg_geti 1 0 rfl h (by decide))
theorem d39_83 : decode (mB 39) 83 = .ok (.iconst 5, 1) := by decide +kernel
theorem s39_83 {l0 l1 : Option Value} {st : List Value} {m : kMem} {Q : Option Value → kMem → Prop} : kJ 39 83 [l0, l1] st m Q = kJ 39 84 [l0, l1] (.int (nI 5) :: st) m Q := kJ_next d39_83 rfl
theorem d39_84 : decode (mB 39) 84 = .ok (.if_icmp .lt 12, 3) := by decide +kernel
theorem s39_84 {l0 l1 : Option Value} {st : List Value} {a b : Int32} {m : kMem} {Q : Option Value → kMem → Prop} : kJ 39 84 [l0, l1] (.int b :: .int a :: st) m Q = (if a < b then kJ 39 96 [l0, l1] st m Q else kJ 39 87 [l0, l1] st m Q) := kJ_if d39_84 rfl (fun h => kJ_next d39_84 h) (fun h => kJ_next d39_84 h)
theorem d39_87 : decode (mB 39) 87 = .ok (.aload_n 0, 1) := by decide +kernel
theorem s39_87 {l1 : Option Value} {st : List Value} {x : Nat} {m : kMem} {Q : Option Value → kMem → Prop} : kJ 39 87 [some (.ref x), l1] st m Q = kJ 39 88 [some (.ref x), l1] (.ref x :: st) m Q := kJ_next d39_87 rfl
theorem d39_88 : decode (mB 39) 88 = .ok (.iconst 5, 1) := by decide +kernel
theorem s39_88 {l0 l1 : Option Value} {st : List Value} {m : kMem} {Q : Option Value → kMem → Prop} : kJ 39 88 [l0, l1] st m Q = kJ 39 89 [l0, l1] (.int (nI 5) :: st) m Q := kJ_next d39_88 rfl
theorem d39_89 : decode (mB 39) 89 = .ok (.aload_n 0, 1) := by decide +kernel
theorem s39_89 {l1 : Option Value} {st : List Value} {x : Nat} {m : kMem} {Q : Option Value → kMem → Prop} : kJ 39 89 [some (.ref x), l1] st m Q = kJ 39 90 [some (.ref x), l1] (.ref x :: st) m Q := kJ_next d39_89 rfl
theorem d39_90 : decode (mB 39) 90 = .ok (.getfield 69, 3) := by decide +kernel
theorem s39_90 {l0 l1 : Option Value} {st : List Value} {q : Nat} {mi : Nat → Nat → Int32} {ml : Nat → Nat → Int64} {mr : Nat → Nat → Option Nat} {nx : Nat} {Q : Option Value → kMem → Prop} (h : kIs nx q 3 = true) : kJ 39 90 [l0, l1] (.ref q :: st) (mi, ml, mr, nx) Q = kJ 39 93 [l0, l1] (.int (mi q 8) :: st) (mi, ml, mr, nx) Q := kJ_next d39_90 (kg_geti 3 8 rfl h (by decide))
theorem d39_93 : decode (mB 39) 93 = .ok (.invokevirtual 72, 3) := by decide +kernel
theorem s39_93 {l0 l1 : Option Value} {v0 : Int32} {v1 : Int32} {v2 : Nat} {m : kMem} {Q : Option Value → kMem → Prop} (h : kIs m.2.2.2 v2 3 = true) : kJ 39 93 [l0, l1] [.int v0, .int v1, .ref v2] m Q = kJ 37 0 [some (.ref v2), some (.int v1), some (.int v0)] [] m (fun v m2 => kJ 39 96 [l0, l1] (v.toList ++ []) m2 Q) := kJ_call d39_93 (kg_callv 37 2 rfl rfl rfl rfl (Nat.le_of_ble_eq_true rfl) (Nat.le_of_ble_eq_true rfl) (Nat.le_of_ble_eq_true rfl) h rfl)
theorem d39_96 : decode (mB 39) 96 = .ok (.return_, 1) := by decide +kernel
theorem s39_96 {l0 l1 : Option Value} {m : kMem} {Q : Option Value → kMem → Prop} : kJ 39 96 [l0, l1] [] m Q = Q none m := kJ_ret d39_96 rfl
theorem d40_0 : decode (mB 40) 0 = .ok (.aload_n 0, 1) := by decide +kernel
theorem s40_0 {l1 l2 : Option Value} {st : List Value} {x : Nat} {m : kMem} {Q : Option Value → kMem → Prop} : kJ 40 0 [some (.ref x), l1, l2] st m Q = kJ 40 1 [some (.ref x), l1, l2] (.ref x :: st) m Q := kJ_next d40_0 rfl
theorem d40_1 : decode (mB 40) 1 = .ok (.invokevirtual 45, 3) := by decide +kernel
theorem s40_1 {l0 l1 l2 : Option Value} {v0 : Nat} {m : kMem} {Q : Option Value → kMem → Prop} (h : kIs m.2.2.2 v0 3 = true) : kJ 40 1 [l0, l1, l2] [.ref v0] m Q = kJ 44 0 [some (.ref v0)] [] m (fun v m2 => kJ 40 4 [l0, l1, l2] (v.toList ++ []) m2 Q) := kJ_call d40_1 (kg_callv 44 0 rfl rfl rfl rfl (Nat.le_of_ble_eq_true rfl) (Nat.le_of_ble_eq_true rfl) (Nat.le_of_ble_eq_true rfl) h rfl)
theorem d40_4 : decode (mB 40) 4 = .ok (.aload_n 0, 1) := by decide +kernel
theorem s40_4 {l1 l2 : Option Value} {st : List Value} {x : Nat} {m : kMem} {Q : Option Value → kMem → Prop} : kJ 40 4 [some (.ref x), l1, l2] st m Q = kJ 40 5 [some (.ref x), l1, l2] (.ref x :: st) m Q := kJ_next d40_4 rfl
theorem d40_5 : decode (mB 40) 5 = .ok (.getfield 32, 3) := by decide +kernel
theorem s40_5 {l0 l1 l2 : Option Value} {st : List Value} {q : Nat} {mi : Nat → Nat → Int32} {ml : Nat → Nat → Int64} {mr : Nat → Nat → Option Nat} {nx : Nat} {Q : Option Value → kMem → Prop} (h : kIs nx q 3 = true) : kJ 40 5 [l0, l1, l2] (.ref q :: st) (mi, ml, mr, nx) Q = kJ 40 8 [l0, l1, l2] (.int (mi q 4) :: st) (mi, ml, mr, nx) Q := kJ_next d40_5 (kg_geti 3 4 rfl h (by decide))
theorem d40_8 : decode (mB 40) 8 = .ok (.ifCond .eq 4, 3) := by decide +kernel
theorem s40_8 {l0 l1 l2 : Option Value} {st : List Value} {a : Int32} {m : kMem} {Q : Option Value → kMem → Prop} : kJ 40 8 [l0, l1, l2] (.int a :: st) m Q = (if a = 0 then kJ 40 12 [l0, l1, l2] st m Q else kJ 40 11 [l0, l1, l2] st m Q) := kJ_if d40_8 rfl (fun h => kJ_next d40_8 h) (fun h => kJ_next d40_8 h)
theorem d40_11 : decode (mB 40) 11 = .ok (.return_, 1) := by decide +kernel
theorem s40_11 {l0 l1 l2 : Option Value} {m : kMem} {Q : Option Value → kMem → Prop} : kJ 40 11 [l0, l1, l2] [] m Q = Q none m := kJ_ret d40_11 rfl
theorem d40_12 : decode (mB 40) 12 = .ok (.aload_n 0, 1) := by decide +kernel
theorem s40_12 {l1 l2 : Option Value} {st : List Value} {x : Nat} {m : kMem} {Q : Option Value → kMem → Prop} : kJ 40 12 [some (.ref x), l1, l2] st m Q = kJ 40 13 [some (.ref x), l1, l2] (.ref x :: st) m Q := kJ_next d40_12 rfl
theorem d40_13 : decode (mB 40) 13 = .ok (.getfield 48, 3) := by decide +kernel
theorem s40_13 {l0 l1 l2 : Option Value} {st : List Value} {q : Nat} {mi : Nat → Nat → Int32} {ml : Nat → Nat → Int64} {mr : Nat → Nat → Option Nat} {nx : Nat} {Q : Option Value → kMem → Prop} (h : kIs nx q 3 = true) : kJ 40 13 [l0, l1, l2] (.ref q :: st) (mi, ml, mr, nx) Q = kJ 40 16 [l0, l1, l2] (.int (mi q 7) :: st) (mi, ml, mr, nx) Q := kJ_next d40_13 (kg_geti 3 7 rfl h (by decide))
theorem d40_16 : decode (mB 40) 16 = .ok (.iconst 2, 1) := by decide +kernel
theorem s40_16 {l0 l1 l2 : Option Value} {st : List Value} {m : kMem} {Q : Option Value → kMem → Prop} : kJ 40 16 [l0, l1, l2] st m Q = kJ 40 17 [l0, l1, l2] (.int (nI 2) :: st) m Q := kJ_next d40_16 rfl
theorem d40_17 : decode (mB 40) 17 = .ok (.if_icmp .eq 15, 3) := by decide +kernel
theorem s40_17 {l0 l1 l2 : Option Value} {st : List Value} {a b : Int32} {m : kMem} {Q : Option Value → kMem → Prop} : kJ 40 17 [l0, l1, l2] (.int b :: .int a :: st) m Q = (if a = b then kJ 40 32 [l0, l1, l2] st m Q else kJ 40 20 [l0, l1, l2] st m Q) := kJ_if d40_17 rfl (fun h => kJ_next d40_17 h) (fun h => kJ_next d40_17 h)
theorem d40_20 : decode (mB 40) 20 = .ok (.aload_n 0, 1) := by decide +kernel
theorem s40_20 {l1 l2 : Option Value} {st : List Value} {x : Nat} {m : kMem} {Q : Option Value → kMem → Prop} : kJ 40 20 [some (.ref x), l1, l2] st m Q = kJ 40 21 [some (.ref x), l1, l2] (.ref x :: st) m Q := kJ_next d40_20 rfl
theorem d40_21 : decode (mB 40) 21 = .ok (.iconst 2, 1) := by decide +kernel
theorem s40_21 {l0 l1 l2 : Option Value} {st : List Value} {m : kMem} {Q : Option Value → kMem → Prop} : kJ 40 21 [l0, l1, l2] st m Q = kJ 40 22 [l0, l1, l2] (.int (nI 2) :: st) m Q := kJ_next d40_21 rfl
theorem d40_22 : decode (mB 40) 22 = .ok (.aload_n 0, 1) := by decide +kernel
theorem s40_22 {l1 l2 : Option Value} {st : List Value} {x : Nat} {m : kMem} {Q : Option Value → kMem → Prop} : kJ 40 22 [some (.ref x), l1, l2] st m Q = kJ 40 23 [some (.ref x), l1, l2] (.ref x :: st) m Q := kJ_next d40_22 rfl
theorem d40_23 : decode (mB 40) 23 = .ok (.getfield 69, 3) := by decide +kernel
theorem s40_23 {l0 l1 l2 : Option Value} {st : List Value} {q : Nat} {mi : Nat → Nat → Int32} {ml : Nat → Nat → Int64} {mr : Nat → Nat → Option Nat} {nx : Nat} {Q : Option Value → kMem → Prop} (h : kIs nx q 3 = true) : kJ 40 23 [l0, l1, l2] (.ref q :: st) (mi, ml, mr, nx) Q = kJ 40 26 [l0, l1, l2] (.int (mi q 8) :: st) (mi, ml, mr, nx) Q := kJ_next d40_23 (kg_geti 3 8 rfl h (by decide))
theorem d40_26 : decode (mB 40) 26 = .ok (.invokevirtual 72, 3) := by decide +kernel
theorem s40_26 {l0 l1 l2 : Option Value} {v0 : Int32} {v1 : Int32} {v2 : Nat} {m : kMem} {Q : Option Value → kMem → Prop} (h : kIs m.2.2.2 v2 3 = true) : kJ 40 26 [l0, l1, l2] [.int v0, .int v1, .ref v2] m Q = kJ 37 0 [some (.ref v2), some (.int v1), some (.int v0)] [] m (fun v m2 => kJ 40 29 [l0, l1, l2] (v.toList ++ []) m2 Q) := kJ_call d40_26 (kg_callv 37 2 rfl rfl rfl rfl (Nat.le_of_ble_eq_true rfl) (Nat.le_of_ble_eq_true rfl) (Nat.le_of_ble_eq_true rfl) h rfl)
theorem d40_29 : decode (mB 40) 29 = .ok (.goto 50, 3) := by decide +kernel
theorem s40_29 {l0 l1 l2 : Option Value} {st : List Value} {m : kMem} {Q : Option Value → kMem → Prop} : kJ 40 29 [l0, l1, l2] st m Q = kJ 40 79 [l0, l1, l2] st m Q := kJ_next d40_29 rfl
theorem d40_32 : decode (mB 40) 32 = .ok (.aload_n 0, 1) := by decide +kernel
theorem s40_32 {l1 l2 : Option Value} {st : List Value} {x : Nat} {m : kMem} {Q : Option Value → kMem → Prop} : kJ 40 32 [some (.ref x), l1, l2] st m Q = kJ 40 33 [some (.ref x), l1, l2] (.ref x :: st) m Q := kJ_next d40_32 rfl
theorem d40_33 : decode (mB 40) 33 = .ok (.getfield 84, 3) := by decide +kernel
theorem s40_33 {l0 l1 l2 : Option Value} {st : List Value} {q : Nat} {mi : Nat → Nat → Int32} {ml : Nat → Nat → Int64} {mr : Nat → Nat → Option Nat} {nx : Nat} {Q : Option Value → kMem → Prop} (h : kIs nx q 3 = true) : kJ 40 33 [l0, l1, l2] (.ref q :: st) (mi, ml, mr, nx) Q = kJ 40 36 [l0, l1, l2] (.int (mi q 9) :: st) (mi, ml, mr, nx) Q := kJ_next d40_33 (kg_geti 3 9 rfl h (by decide))
theorem d40_36 : decode (mB 40) 36 = .ok (.iload_n 1, 1) := by decide +kernel
theorem s40_36 {l0 l2 : Option Value} {st : List Value} {x : Int32} {m : kMem} {Q : Option Value → kMem → Prop} : kJ 40 36 [l0, some (.int x), l2] st m Q = kJ 40 37 [l0, some (.int x), l2] (.int x :: st) m Q := kJ_next d40_36 rfl
theorem d40_37 : decode (mB 40) 37 = .ok (.iconst 5, 1) := by decide +kernel
theorem s40_37 {l0 l1 l2 : Option Value} {st : List Value} {m : kMem} {Q : Option Value → kMem → Prop} : kJ 40 37 [l0, l1, l2] st m Q = kJ 40 38 [l0, l1, l2] (.int (nI 5) :: st) m Q := kJ_next d40_37 rfl
theorem d40_38 : decode (mB 40) 38 = .ok (.if_icmp .ne 7, 3) := by decide +kernel
theorem s40_38 {l0 l1 l2 : Option Value} {st : List Value} {a b : Int32} {m : kMem} {Q : Option Value → kMem → Prop} : kJ 40 38 [l0, l1, l2] (.int b :: .int a :: st) m Q = (if a = b then kJ 40 41 [l0, l1, l2] st m Q else kJ 40 45 [l0, l1, l2] st m Q) := kJ_if d40_38 rfl (fun h => kJ_next d40_38 h) (fun h => kJ_next d40_38 h)
theorem d40_41 : decode (mB 40) 41 = .ok (.iconst 1, 1) := by decide +kernel
theorem s40_41 {l0 l1 l2 : Option Value} {st : List Value} {m : kMem} {Q : Option Value → kMem → Prop} : kJ 40 41 [l0, l1, l2] st m Q = kJ 40 42 [l0, l1, l2] (.int (nI 1) :: st) m Q := kJ_next d40_41 rfl
theorem d40_42 : decode (mB 40) 42 = .ok (.goto 4, 3) := by decide +kernel
theorem s40_42 {l0 l1 l2 : Option Value} {st : List Value} {m : kMem} {Q : Option Value → kMem → Prop} : kJ 40 42 [l0, l1, l2] st m Q = kJ 40 46 [l0, l1, l2] st m Q := kJ_next d40_42 rfl
theorem d40_45 : decode (mB 40) 45 = .ok (.iconst 0, 1) := by decide +kernel
theorem s40_45 {l0 l1 l2 : Option Value} {st : List Value} {m : kMem} {Q : Option Value → kMem → Prop} : kJ 40 45 [l0, l1, l2] st m Q = kJ 40 46 [l0, l1, l2] (.int (nI 0) :: st) m Q := kJ_next d40_45 rfl
theorem d40_46 : decode (mB 40) 46 = .ok (.iload_n 1, 1) := by decide +kernel
theorem s40_46 {l0 l2 : Option Value} {st : List Value} {x : Int32} {m : kMem} {Q : Option Value → kMem → Prop} : kJ 40 46 [l0, some (.int x), l2] st m Q = kJ 40 47 [l0, some (.int x), l2] (.int x :: st) m Q := kJ_next d40_46 rfl
theorem d40_47 : decode (mB 40) 47 = .ok (.iload_n 2, 1) := by decide +kernel
theorem s40_47 {l0 l1 : Option Value} {st : List Value} {x : Int32} {m : kMem} {Q : Option Value → kMem → Prop} : kJ 40 47 [l0, l1, some (.int x)] st m Q = kJ 40 48 [l0, l1, some (.int x)] (.int x :: st) m Q := kJ_next d40_47 rfl
theorem d40_48 : decode (mB 40) 48 = .ok (.invokestatic 87, 3) := by decide +kernel
theorem s40_48 {l0 l1 l2 : Option Value} {v0 : Int32} {v1 : Int32} {v2 : Int32} {v3 : Int32} {m : kMem} {Q : Option Value → kMem → Prop} : kJ 40 48 [l0, l1, l2] [.int v0, .int v1, .int v2, .int v3] m Q = kJ 41 0 [some (.int v1), some (.int v0)] [] m (fun v m2 => kJ 40 51 [l0, l1, l2] (v.toList ++ [.int v2, .int v3]) m2 Q) := kJ_call d40_48 (kg_calls 41 2 rfl rfl (Nat.le_of_ble_eq_true rfl) (Nat.le_of_ble_eq_true rfl) (Nat.le_of_ble_eq_true rfl) (Nat.le_of_ble_eq_true rfl))
theorem d40_51 : decode (mB 40) 51 = .ok (.invokestatic 91, 3) := by decide +kernel
theorem s40_51 {l0 l1 l2 : Option Value} {v0 : Int32} {v1 : Int32} {v2 : Int32} {m : kMem} {Q : Option Value → kMem → Prop} : kJ 40 51 [l0, l1, l2] [.int v0, .int v1, .int v2] m Q = kJ 90 0 [some (.int v2), some (.int v1), some (.int v0)] [] m (fun v m2 => kJ 40 54 [l0, l1, l2] (v.toList ++ []) m2 Q) := kJ_call d40_51 (kg_calls 90 3 rfl rfl (Nat.le_of_ble_eq_true rfl) (Nat.le_of_ble_eq_true rfl) (Nat.le_of_ble_eq_true rfl) (Nat.le_of_ble_eq_true rfl))
theorem d40_54 : decode (mB 40) 54 = .ok (.ifCond .ne 15, 3) := by decide +kernel
theorem s40_54 {l0 l1 l2 : Option Value} {st : List Value} {a : Int32} {m : kMem} {Q : Option Value → kMem → Prop} : kJ 40 54 [l0, l1, l2] (.int a :: st) m Q = (if a = 0 then kJ 40 57 [l0, l1, l2] st m Q else kJ 40 69 [l0, l1, l2] st m Q) := kJ_if d40_54 rfl (fun h => kJ_next d40_54 h) (fun h => kJ_next d40_54 h)
theorem d40_57 : decode (mB 40) 57 = .ok (.aload_n 0, 1) := by decide +kernel
theorem s40_57 {l1 l2 : Option Value} {st : List Value} {x : Nat} {m : kMem} {Q : Option Value → kMem → Prop} : kJ 40 57 [some (.ref x), l1, l2] st m Q = kJ 40 58 [some (.ref x), l1, l2] (.ref x :: st) m Q := kJ_next d40_57 rfl
theorem d40_58 : decode (mB 40) 58 = .ok (.iconst 3, 1) := by decide +kernel
theorem s40_58 {l0 l1 l2 : Option Value} {st : List Value} {m : kMem} {Q : Option Value → kMem → Prop} : kJ 40 58 [l0, l1, l2] st m Q = kJ 40 59 [l0, l1, l2] (.int (nI 3) :: st) m Q := kJ_next d40_58 rfl
theorem d40_59 : decode (mB 40) 59 = .ok (.aload_n 0, 1) := by decide +kernel
theorem s40_59 {l1 l2 : Option Value} {st : List Value} {x : Nat} {m : kMem} {Q : Option Value → kMem → Prop} : kJ 40 59 [some (.ref x), l1, l2] st m Q = kJ 40 60 [some (.ref x), l1, l2] (.ref x :: st) m Q := kJ_next d40_59 rfl
theorem d40_60 : decode (mB 40) 60 = .ok (.getfield 69, 3) := by decide +kernel
theorem s40_60 {l0 l1 l2 : Option Value} {st : List Value} {q : Nat} {mi : Nat → Nat → Int32} {ml : Nat → Nat → Int64} {mr : Nat → Nat → Option Nat} {nx : Nat} {Q : Option Value → kMem → Prop} (h : kIs nx q 3 = true) : kJ 40 60 [l0, l1, l2] (.ref q :: st) (mi, ml, mr, nx) Q = kJ 40 63 [l0, l1, l2] (.int (mi q 8) :: st) (mi, ml, mr, nx) Q := kJ_next d40_60 (kg_geti 3 8 rfl h (by decide))
theorem d40_63 : decode (mB 40) 63 = .ok (.invokevirtual 72, 3) := by decide +kernel
theorem s40_63 {l0 l1 l2 : Option Value} {v0 : Int32} {v1 : Int32} {v2 : Nat} {m : kMem} {Q : Option Value → kMem → Prop} (h : kIs m.2.2.2 v2 3 = true) : kJ 40 63 [l0, l1, l2] [.int v0, .int v1, .ref v2] m Q = kJ 37 0 [some (.ref v2), some (.int v1), some (.int v0)] [] m (fun v m2 => kJ 40 66 [l0, l1, l2] (v.toList ++ []) m2 Q) := kJ_call d40_63 (kg_callv 37 2 rfl rfl rfl rfl (Nat.le_of_ble_eq_true rfl) (Nat.le_of_ble_eq_true rfl) (Nat.le_of_ble_eq_true rfl) h rfl)
theorem d40_66 : decode (mB 40) 66 = .ok (.goto 13, 3) := by decide +kernel
theorem s40_66 {l0 l1 l2 : Option Value} {st : List Value} {m : kMem} {Q : Option Value → kMem → Prop} : kJ 40 66 [l0, l1, l2] st m Q = kJ 40 79 [l0, l1, l2] st m Q := kJ_next d40_66 rfl
theorem d40_69 : decode (mB 40) 69 = .ok (.aload_n 0, 1) := by decide +kernel
theorem s40_69 {l1 l2 : Option Value} {st : List Value} {x : Nat} {m : kMem} {Q : Option Value → kMem → Prop} : kJ 40 69 [some (.ref x), l1, l2] st m Q = kJ 40 70 [some (.ref x), l1, l2] (.ref x :: st) m Q := kJ_next d40_69 rfl
theorem d40_70 : decode (mB 40) 70 = .ok (.getfield 22, 3) := by decide +kernel
theorem s40_70 {l0 l1 l2 : Option Value} {st : List Value} {q : Nat} {mi : Nat → Nat → Int32} {ml : Nat → Nat → Int64} {mr : Nat → Nat → Option Nat} {nx : Nat} {Q : Option Value → kMem → Prop} (h : kIs nx q 3 = true) : kJ 40 70 [l0, l1, l2] (.ref q :: st) (mi, ml, mr, nx) Q = kJ 40 73 [l0, l1, l2] (va_rf (mr q 11) :: st) (mi, ml, mr, nx) Q := kJ_next d40_70 (kg_getr 3 11 rfl h (by decide))
theorem d40_73 : decode (mB 40) 73 = .ok (.iload_n 2, 1) := by decide +kernel
theorem s40_73 {l0 l1 : Option Value} {st : List Value} {x : Int32} {m : kMem} {Q : Option Value → kMem → Prop} : kJ 40 73 [l0, l1, some (.int x)] st m Q = kJ 40 74 [l0, l1, some (.int x)] (.int x :: st) m Q := kJ_next d40_73 rfl
theorem d40_74 : decode (mB 40) 74 = .ok (.aload_n 0, 1) := by decide +kernel
theorem s40_74 {l1 l2 : Option Value} {st : List Value} {x : Nat} {m : kMem} {Q : Option Value → kMem → Prop} : kJ 40 74 [some (.ref x), l1, l2] st m Q = kJ 40 75 [some (.ref x), l1, l2] (.ref x :: st) m Q := kJ_next d40_74 rfl
theorem d40_75 : decode (mB 40) 75 = .ok (.getfield 84, 3) := by decide +kernel
theorem s40_75 {l0 l1 l2 : Option Value} {st : List Value} {q : Nat} {mi : Nat → Nat → Int32} {ml : Nat → Nat → Int64} {mr : Nat → Nat → Option Nat} {nx : Nat} {Q : Option Value → kMem → Prop} (h : kIs nx q 3 = true) : kJ 40 75 [l0, l1, l2] (.ref q :: st) (mi, ml, mr, nx) Q = kJ 40 78 [l0, l1, l2] (.int (mi q 9) :: st) (mi, ml, mr, nx) Q := kJ_next d40_75 (kg_geti 3 9 rfl h (by decide))
theorem d40_78 : decode (mB 40) 78 = .ok (.iastore, 1) := by decide +kernel
theorem s40_78 {l0 l1 l2 : Option Value} {st : List Value} {q : Nat} {i x : Int32} {mi : Nat → Nat → Int32} {ml : Nat → Nat → Int64} {mr : Nat → Nat → Option Nat} {nx : Nat} {Q : Option Value → kMem → Prop} (h : kIs nx q 10 = true) : kJ 40 78 [l0, l1, l2] (.int x :: .int i :: .ref q :: st) (mi, ml, mr, nx) Q = (vp_in i (kAl q) ∧ kJ 40 79 [l0, l1, l2] st (kup mi q i.toNatClampNeg x, ml, mr, nx) Q) := kg_astJ d40_78 rfl (kAr_of h)
theorem d40_79 : decode (mB 40) 79 = .ok (.return_, 1) := by decide +kernel
theorem s40_79 {l0 l1 l2 : Option Value} {m : kMem} {Q : Option Value → kMem → Prop} : kJ 40 79 [l0, l1, l2] [] m Q = Q none m := kJ_ret d40_79 rfl
theorem d41_0 : decode (mB 41) 0 = .ok (.iload_n 0, 1) := by decide +kernel
theorem s41_0 {l1 : Option Value} {st : List Value} {x : Int32} {m : kMem} {Q : Option Value → kMem → Prop} : kJ 41 0 [some (.int x), l1] st m Q = kJ 41 1 [some (.int x), l1] (.int x :: st) m Q := kJ_next d41_0 rfl
theorem d41_1 : decode (mB 41) 1 = .ok (.iconst 5, 1) := by decide +kernel
theorem s41_1 {l0 l1 : Option Value} {st : List Value} {m : kMem} {Q : Option Value → kMem → Prop} : kJ 41 1 [l0, l1] st m Q = kJ 41 2 [l0, l1] (.int (nI 5) :: st) m Q := kJ_next d41_1 rfl
theorem d41_2 : decode (mB 41) 2 = .ok (.if_icmp .ne 5, 3) := by decide +kernel
theorem s41_2 {l0 l1 : Option Value} {st : List Value} {a b : Int32} {m : kMem} {Q : Option Value → kMem → Prop} : kJ 41 2 [l0, l1] (.int b :: .int a :: st) m Q = (if a = b then kJ 41 5 [l0, l1] st m Q else kJ 41 7 [l0, l1] st m Q) := kJ_if d41_2 rfl (fun h => kJ_next d41_2 h) (fun h => kJ_next d41_2 h)
theorem d41_5 : decode (mB 41) 5 = .ok (.iconst 4, 1) := by decide +kernel
theorem s41_5 {l0 l1 : Option Value} {st : List Value} {m : kMem} {Q : Option Value → kMem → Prop} : kJ 41 5 [l0, l1] st m Q = kJ 41 6 [l0, l1] (.int (nI 4) :: st) m Q := kJ_next d41_5 rfl
theorem d41_6 : decode (mB 41) 6 = .ok (.ireturn, 1) := by decide +kernel
theorem s41_6 {l0 l1 : Option Value} {x : Int32} {m : kMem} {Q : Option Value → kMem → Prop} : kJ 41 6 [l0, l1] [.int x] m Q = Q (some (.int x)) m := kJ_ret d41_6 rfl
theorem d41_7 : decode (mB 41) 7 = .ok (.iload_n 0, 1) := by decide +kernel
theorem s41_7 {l1 : Option Value} {st : List Value} {x : Int32} {m : kMem} {Q : Option Value → kMem → Prop} : kJ 41 7 [some (.int x), l1] st m Q = kJ 41 8 [some (.int x), l1] (.int x :: st) m Q := kJ_next d41_7 rfl
theorem d41_8 : decode (mB 41) 8 = .ok (.iconst 4, 1) := by decide +kernel
theorem s41_8 {l0 l1 : Option Value} {st : List Value} {m : kMem} {Q : Option Value → kMem → Prop} : kJ 41 8 [l0, l1] st m Q = kJ 41 9 [l0, l1] (.int (nI 4) :: st) m Q := kJ_next d41_8 rfl
theorem d41_9 : decode (mB 41) 9 = .ok (.if_icmp .ne 15, 3) := by decide +kernel
theorem s41_9 {l0 l1 : Option Value} {st : List Value} {a b : Int32} {m : kMem} {Q : Option Value → kMem → Prop} : kJ 41 9 [l0, l1] (.int b :: .int a :: st) m Q = (if a = b then kJ 41 12 [l0, l1] st m Q else kJ 41 24 [l0, l1] st m Q) := kJ_if d41_9 rfl (fun h => kJ_next d41_9 h) (fun h => kJ_next d41_9 h)
theorem d41_12 : decode (mB 41) 12 = .ok (.iload_n 1, 1) := by decide +kernel
theorem s41_12 {l0 : Option Value} {st : List Value} {x : Int32} {m : kMem} {Q : Option Value → kMem → Prop} : kJ 41 12 [l0, some (.int x)] st m Q = kJ 41 13 [l0, some (.int x)] (.int x :: st) m Q := kJ_next d41_12 rfl
theorem d41_13 : decode (mB 41) 13 = .ok (.iconst 3, 1) := by decide +kernel
theorem s41_13 {l0 l1 : Option Value} {st : List Value} {m : kMem} {Q : Option Value → kMem → Prop} : kJ 41 13 [l0, l1] st m Q = kJ 41 14 [l0, l1] (.int (nI 3) :: st) m Q := kJ_next d41_13 rfl
theorem d41_14 : decode (mB 41) 14 = .ok (.if_icmp .ge 7, 3) := by decide +kernel
theorem s41_14 {l0 l1 : Option Value} {st : List Value} {a b : Int32} {m : kMem} {Q : Option Value → kMem → Prop} : kJ 41 14 [l0, l1] (.int b :: .int a :: st) m Q = (if b ≤ a then kJ 41 21 [l0, l1] st m Q else kJ 41 17 [l0, l1] st m Q) := kJ_if d41_14 rfl (fun h => kJ_next d41_14 h) (fun h => kJ_next d41_14 h)
theorem d41_17 : decode (mB 41) 17 = .ok (.iconst 4, 1) := by decide +kernel
theorem s41_17 {l0 l1 : Option Value} {st : List Value} {m : kMem} {Q : Option Value → kMem → Prop} : kJ 41 17 [l0, l1] st m Q = kJ 41 18 [l0, l1] (.int (nI 4) :: st) m Q := kJ_next d41_17 rfl
theorem d41_18 : decode (mB 41) 18 = .ok (.goto 5, 3) := by decide +kernel
theorem s41_18 {l0 l1 : Option Value} {st : List Value} {m : kMem} {Q : Option Value → kMem → Prop} : kJ 41 18 [l0, l1] st m Q = kJ 41 23 [l0, l1] st m Q := kJ_next d41_18 rfl
theorem d41_21 : decode (mB 41) 21 = .ok (.bipush 18, 2) := by decide +kernel
theorem s41_21 {l0 l1 : Option Value} {st : List Value} {m : kMem} {Q : Option Value → kMem → Prop} : kJ 41 21 [l0, l1] st m Q = kJ 41 23 [l0, l1] (.int (nI 18) :: st) m Q := kJ_next d41_21 rfl
theorem d41_23 : decode (mB 41) 23 = .ok (.ireturn, 1) := by decide +kernel
theorem s41_23 {l0 l1 : Option Value} {x : Int32} {m : kMem} {Q : Option Value → kMem → Prop} : kJ 41 23 [l0, l1] [.int x] m Q = Q (some (.int x)) m := kJ_ret d41_23 rfl
theorem d41_24 : decode (mB 41) 24 = .ok (.iload_n 1, 1) := by decide +kernel
theorem s41_24 {l0 : Option Value} {st : List Value} {x : Int32} {m : kMem} {Q : Option Value → kMem → Prop} : kJ 41 24 [l0, some (.int x)] st m Q = kJ 41 25 [l0, some (.int x)] (.int x :: st) m Q := kJ_next d41_24 rfl
theorem d41_25 : decode (mB 41) 25 = .ok (.ifCond .ne 8, 3) := by decide +kernel
theorem s41_25 {l0 l1 : Option Value} {st : List Value} {a : Int32} {m : kMem} {Q : Option Value → kMem → Prop} : kJ 41 25 [l0, l1] (.int a :: st) m Q = (if a = 0 then kJ 41 28 [l0, l1] st m Q else kJ 41 33 [l0, l1] st m Q) := kJ_if d41_25 rfl (fun h => kJ_next d41_25 h) (fun h => kJ_next d41_25 h)
theorem d41_28 : decode (mB 41) 28 = .ok (.bipush 9, 2) := by decide +kernel
theorem s41_28 {l0 l1 : Option Value} {st : List Value} {m : kMem} {Q : Option Value → kMem → Prop} : kJ 41 28 [l0, l1] st m Q = kJ 41 30 [l0, l1] (.int (nI 9) :: st) m Q := kJ_next d41_28 rfl
theorem d41_30 : decode (mB 41) 30 = .ok (.goto 5, 3) := by decide +kernel
theorem s41_30 {l0 l1 : Option Value} {st : List Value} {m : kMem} {Q : Option Value → kMem → Prop} : kJ 41 30 [l0, l1] st m Q = kJ 41 35 [l0, l1] st m Q := kJ_next d41_30 rfl
theorem d41_33 : decode (mB 41) 33 = .ok (.bipush 20, 2) := by decide +kernel
theorem s41_33 {l0 l1 : Option Value} {st : List Value} {m : kMem} {Q : Option Value → kMem → Prop} : kJ 41 33 [l0, l1] st m Q = kJ 41 35 [l0, l1] (.int (nI 20) :: st) m Q := kJ_next d41_33 rfl
theorem d41_35 : decode (mB 41) 35 = .ok (.ireturn, 1) := by decide +kernel
theorem s41_35 {l0 l1 : Option Value} {x : Int32} {m : kMem} {Q : Option Value → kMem → Prop} : kJ 41 35 [l0, l1] [.int x] m Q = Q (some (.int x)) m := kJ_ret d41_35 rfl
theorem d42_0 : decode (mB 42) 0 = .ok (.aload_n 0, 1) := by decide +kernel
theorem s42_0 {l1 : Option Value} {st : List Value} {x : Nat} {m : kMem} {Q : Option Value → kMem → Prop} : kJ 42 0 [some (.ref x), l1] st m Q = kJ 42 1 [some (.ref x), l1] (.ref x :: st) m Q := kJ_next d42_0 rfl
theorem d42_1 : decode (mB 42) 1 = .ok (.dup, 1) := by decide +kernel
theorem s42_1 {l0 l1 : Option Value} {st : List Value} {a : Nat} {m : kMem} {Q : Option Value → kMem → Prop} : kJ 42 1 [l0, l1] (.ref a :: st) m Q = kJ 42 2 [l0, l1] (.ref a :: .ref a :: st) m Q := kJ_next d42_1 rfl
theorem d42_2 : decode (mB 42) 2 = .ok (.getfield 28, 3) := by decide +kernel
theorem s42_2 {l0 l1 : Option Value} {st : List Value} {q : Nat} {mi : Nat → Nat → Int32} {ml : Nat → Nat → Int64} {mr : Nat → Nat → Option Nat} {nx : Nat} {Q : Option Value → kMem → Prop} (h : kIs nx q 3 = true) : kJ 42 2 [l0, l1] (.ref q :: st) (mi, ml, mr, nx) Q = kJ 42 5 [l0, l1] (.int (mi q 3) :: st) (mi, ml, mr, nx) Q := kJ_next d42_2 (kg_geti 3 3 rfl h (by decide))
theorem d42_5 : decode (mB 42) 5 = .ok (.iconst 1, 1) := by decide +kernel
theorem s42_5 {l0 l1 : Option Value} {st : List Value} {m : kMem} {Q : Option Value → kMem → Prop} : kJ 42 5 [l0, l1] st m Q = kJ 42 6 [l0, l1] (.int (nI 1) :: st) m Q := kJ_next d42_5 rfl
theorem d42_6 : decode (mB 42) 6 = .ok (.iadd, 1) := by decide +kernel
theorem s42_6 {l0 l1 : Option Value} {st : List Value} {a b : Int32} {m : kMem} {Q : Option Value → kMem → Prop} : kJ 42 6 [l0, l1] (.int b :: .int a :: st) m Q = kJ 42 7 [l0, l1] (.int (a + b) :: st) m Q := kJ_next d42_6 rfl
theorem d42_7 : decode (mB 42) 7 = .ok (.putfield 28, 3) := by decide +kernel
theorem s42_7 {l0 l1 : Option Value} {st : List Value} {q : Nat} {x : Int32} {mi : Nat → Nat → Int32} {ml : Nat → Nat → Int64} {mr : Nat → Nat → Option Nat} {nx : Nat} {Q : Option Value → kMem → Prop} (h : kIs nx q 3 = true) : kJ 42 7 [l0, l1] (.int x :: .ref q :: st) (mi, ml, mr, nx) Q = kJ 42 10 [l0, l1] st (kup mi q 3 x, ml, mr, nx) Q := kJ_next d42_7 (kg_puti 3 3 rfl h (by decide) (Or.inl (by decide)))
theorem d42_10 : decode (mB 42) 10 = .ok (.iload_n 1, 1) := by decide +kernel
theorem s42_10 {l0 : Option Value} {st : List Value} {x : Int32} {m : kMem} {Q : Option Value → kMem → Prop} : kJ 42 10 [l0, some (.int x)] st m Q = kJ 42 11 [l0, some (.int x)] (.int x :: st) m Q := kJ_next d42_10 rfl
theorem d42_11 : decode (mB 42) 11 = .ok (.iconst 5, 1) := by decide +kernel
theorem s42_11 {l0 l1 : Option Value} {st : List Value} {m : kMem} {Q : Option Value → kMem → Prop} : kJ 42 11 [l0, l1] st m Q = kJ 42 12 [l0, l1] (.int (nI 5) :: st) m Q := kJ_next d42_11 rfl
theorem d42_12 : decode (mB 42) 12 = .ok (.if_icmp .ne 24, 3) := by decide +kernel
theorem s42_12 {l0 l1 : Option Value} {st : List Value} {a b : Int32} {m : kMem} {Q : Option Value → kMem → Prop} : kJ 42 12 [l0, l1] (.int b :: .int a :: st) m Q = (if a = b then kJ 42 15 [l0, l1] st m Q else kJ 42 36 [l0, l1] st m Q) := kJ_if d42_12 rfl (fun h => kJ_next d42_12 h) (fun h => kJ_next d42_12 h)
theorem d42_15 : decode (mB 42) 15 = .ok (.aload_n 0, 1) := by decide +kernel
theorem s42_15 {l1 : Option Value} {st : List Value} {x : Nat} {m : kMem} {Q : Option Value → kMem → Prop} : kJ 42 15 [some (.ref x), l1] st m Q = kJ 42 16 [some (.ref x), l1] (.ref x :: st) m Q := kJ_next d42_15 rfl
theorem d42_16 : decode (mB 42) 16 = .ok (.getfield 18, 3) := by decide +kernel
theorem s42_16 {l0 l1 : Option Value} {st : List Value} {q : Nat} {mi : Nat → Nat → Int32} {ml : Nat → Nat → Int64} {mr : Nat → Nat → Option Nat} {nx : Nat} {Q : Option Value → kMem → Prop} (h : kIs nx q 3 = true) : kJ 42 16 [l0, l1] (.ref q :: st) (mi, ml, mr, nx) Q = kJ 42 19 [l0, l1] (va_rf (mr q 2) :: st) (mi, ml, mr, nx) Q := kJ_next d42_16 (kg_getr 3 2 rfl h (by decide))
theorem d42_19 : decode (mB 42) 19 = .ok (.aload_n 0, 1) := by decide +kernel
theorem s42_19 {l1 : Option Value} {st : List Value} {x : Nat} {m : kMem} {Q : Option Value → kMem → Prop} : kJ 42 19 [some (.ref x), l1] st m Q = kJ 42 20 [some (.ref x), l1] (.ref x :: st) m Q := kJ_next d42_19 rfl
theorem d42_20 : decode (mB 42) 20 = .ok (.getfield 22, 3) := by decide +kernel
theorem s42_20 {l0 l1 : Option Value} {st : List Value} {q : Nat} {mi : Nat → Nat → Int32} {ml : Nat → Nat → Int64} {mr : Nat → Nat → Option Nat} {nx : Nat} {Q : Option Value → kMem → Prop} (h : kIs nx q 3 = true) : kJ 42 20 [l0, l1] (.ref q :: st) (mi, ml, mr, nx) Q = kJ 42 23 [l0, l1] (va_rf (mr q 11) :: st) (mi, ml, mr, nx) Q := kJ_next d42_20 (kg_getr 3 11 rfl h (by decide))
theorem d42_23 : decode (mB 42) 23 = .ok (.iconst 0, 1) := by decide +kernel
theorem s42_23 {l0 l1 : Option Value} {st : List Value} {m : kMem} {Q : Option Value → kMem → Prop} : kJ 42 23 [l0, l1] st m Q = kJ 42 24 [l0, l1] (.int (nI 0) :: st) m Q := kJ_next d42_23 rfl
theorem d42_24 : decode (mB 42) 24 = .ok (.iaload, 1) := by decide +kernel
theorem s42_24 {l0 l1 : Option Value} {st : List Value} {q : Nat} {i : Int32} {mi : Nat → Nat → Int32} {ml : Nat → Nat → Int64} {mr : Nat → Nat → Option Nat} {nx : Nat} {Q : Option Value → kMem → Prop} (h : kIs nx q 10 = true) : kJ 42 24 [l0, l1] (.int i :: .ref q :: st) (mi, ml, mr, nx) Q = (vp_in i (kAl q) ∧ kJ 42 25 [l0, l1] (.int (mi q i.toNatClampNeg) :: st) (mi, ml, mr, nx) Q) := kg_aldJ d42_24 rfl (kAr_of h)
theorem d42_25 : decode (mB 42) 25 = .ok (.putfield 95, 3) := by decide +kernel
theorem s42_25 {l0 l1 : Option Value} {st : List Value} {q : Nat} {x : Int32} {mi : Nat → Nat → Int32} {ml : Nat → Nat → Int64} {mr : Nat → Nat → Option Nat} {nx : Nat} {Q : Option Value → kMem → Prop} (h : kIs nx q 1 = true) : kJ 42 25 [l0, l1] (.int x :: .ref q :: st) (mi, ml, mr, nx) Q = kJ 42 28 [l0, l1] st (kup mi q 11 x, ml, mr, nx) Q := kJ_next d42_25 (kg_puti 1 11 rfl h (by decide) (Or.inl (by decide)))
theorem d42_28 : decode (mB 42) 28 = .ok (.aload_n 0, 1) := by decide +kernel
theorem s42_28 {l1 : Option Value} {st : List Value} {x : Nat} {m : kMem} {Q : Option Value → kMem → Prop} : kJ 42 28 [some (.ref x), l1] st m Q = kJ 42 29 [some (.ref x), l1] (.ref x :: st) m Q := kJ_next d42_28 rfl
theorem d42_29 : decode (mB 42) 29 = .ok (.iconst 1, 1) := by decide +kernel
theorem s42_29 {l0 l1 : Option Value} {st : List Value} {m : kMem} {Q : Option Value → kMem → Prop} : kJ 42 29 [l0, l1] st m Q = kJ 42 30 [l0, l1] (.int (nI 1) :: st) m Q := kJ_next d42_29 rfl
theorem d42_30 : decode (mB 42) 30 = .ok (.putfield 41, 3) := by decide +kernel
theorem s42_30 {l0 l1 : Option Value} {st : List Value} {q : Nat} {x : Int32} {mi : Nat → Nat → Int32} {ml : Nat → Nat → Int64} {mr : Nat → Nat → Option Nat} {nx : Nat} {Q : Option Value → kMem → Prop} (h : kIs nx q 3 = true) (hx : x = 0 ∨ x = 1) : kJ 42 30 [l0, l1] (.int x :: .ref q :: st) (mi, ml, mr, nx) Q = kJ 42 33 [l0, l1] st (kup mi q 10 x, ml, mr, nx) Q := kJ_next d42_30 (kg_puti 3 10 rfl h (by decide) (Or.inr ⟨by decide, hx⟩))
theorem d42_33 : decode (mB 42) 33 = .ok (.goto 62, 3) := by decide +kernel
theorem s42_33 {l0 l1 : Option Value} {st : List Value} {m : kMem} {Q : Option Value → kMem → Prop} : kJ 42 33 [l0, l1] st m Q = kJ 42 95 [l0, l1] st m Q := kJ_next d42_33 rfl
theorem d42_36 : decode (mB 42) 36 = .ok (.iload_n 1, 1) := by decide +kernel
theorem s42_36 {l0 : Option Value} {st : List Value} {x : Int32} {m : kMem} {Q : Option Value → kMem → Prop} : kJ 42 36 [l0, some (.int x)] st m Q = kJ 42 37 [l0, some (.int x)] (.int x :: st) m Q := kJ_next d42_36 rfl
theorem d42_37 : decode (mB 42) 37 = .ok (.iconst 4, 1) := by decide +kernel
theorem s42_37 {l0 l1 : Option Value} {st : List Value} {m : kMem} {Q : Option Value → kMem → Prop} : kJ 42 37 [l0, l1] st m Q = kJ 42 38 [l0, l1] (.int (nI 4) :: st) m Q := kJ_next d42_37 rfl
theorem d42_38 : decode (mB 42) 38 = .ok (.if_icmp .ne 37, 3) := by decide +kernel
theorem s42_38 {l0 l1 : Option Value} {st : List Value} {a b : Int32} {m : kMem} {Q : Option Value → kMem → Prop} : kJ 42 38 [l0, l1] (.int b :: .int a :: st) m Q = (if a = b then kJ 42 41 [l0, l1] st m Q else kJ 42 75 [l0, l1] st m Q) := kJ_if d42_38 rfl (fun h => kJ_next d42_38 h) (fun h => kJ_next d42_38 h)
theorem d42_41 : decode (mB 42) 41 = .ok (.aload_n 0, 1) := by decide +kernel
theorem s42_41 {l1 : Option Value} {st : List Value} {x : Nat} {m : kMem} {Q : Option Value → kMem → Prop} : kJ 42 41 [some (.ref x), l1] st m Q = kJ 42 42 [some (.ref x), l1] (.ref x :: st) m Q := kJ_next d42_41 rfl
theorem d42_42 : decode (mB 42) 42 = .ok (.getfield 18, 3) := by decide +kernel
theorem s42_42 {l0 l1 : Option Value} {st : List Value} {q : Nat} {mi : Nat → Nat → Int32} {ml : Nat → Nat → Int64} {mr : Nat → Nat → Option Nat} {nx : Nat} {Q : Option Value → kMem → Prop} (h : kIs nx q 3 = true) : kJ 42 42 [l0, l1] (.ref q :: st) (mi, ml, mr, nx) Q = kJ 42 45 [l0, l1] (va_rf (mr q 2) :: st) (mi, ml, mr, nx) Q := kJ_next d42_42 (kg_getr 3 2 rfl h (by decide))
theorem d42_45 : decode (mB 42) 45 = .ok (.aload_n 0, 1) := by decide +kernel
theorem s42_45 {l1 : Option Value} {st : List Value} {x : Nat} {m : kMem} {Q : Option Value → kMem → Prop} : kJ 42 45 [some (.ref x), l1] st m Q = kJ 42 46 [some (.ref x), l1] (.ref x :: st) m Q := kJ_next d42_45 rfl
theorem d42_46 : decode (mB 42) 46 = .ok (.getfield 22, 3) := by decide +kernel
theorem s42_46 {l0 l1 : Option Value} {st : List Value} {q : Nat} {mi : Nat → Nat → Int32} {ml : Nat → Nat → Int64} {mr : Nat → Nat → Option Nat} {nx : Nat} {Q : Option Value → kMem → Prop} (h : kIs nx q 3 = true) : kJ 42 46 [l0, l1] (.ref q :: st) (mi, ml, mr, nx) Q = kJ 42 49 [l0, l1] (va_rf (mr q 11) :: st) (mi, ml, mr, nx) Q := kJ_next d42_46 (kg_getr 3 11 rfl h (by decide))
theorem d42_49 : decode (mB 42) 49 = .ok (.iconst 0, 1) := by decide +kernel
theorem s42_49 {l0 l1 : Option Value} {st : List Value} {m : kMem} {Q : Option Value → kMem → Prop} : kJ 42 49 [l0, l1] st m Q = kJ 42 50 [l0, l1] (.int (nI 0) :: st) m Q := kJ_next d42_49 rfl
theorem d42_50 : decode (mB 42) 50 = .ok (.iaload, 1) := by decide +kernel
theorem s42_50 {l0 l1 : Option Value} {st : List Value} {q : Nat} {i : Int32} {mi : Nat → Nat → Int32} {ml : Nat → Nat → Int64} {mr : Nat → Nat → Option Nat} {nx : Nat} {Q : Option Value → kMem → Prop} (h : kIs nx q 10 = true) : kJ 42 50 [l0, l1] (.int i :: .ref q :: st) (mi, ml, mr, nx) Q = (vp_in i (kAl q) ∧ kJ 42 51 [l0, l1] (.int (mi q i.toNatClampNeg) :: st) (mi, ml, mr, nx) Q) := kg_aldJ d42_50 rfl (kAr_of h)
theorem d42_51 : decode (mB 42) 51 = .ok (.aload_n 0, 1) := by decide +kernel
theorem s42_51 {l1 : Option Value} {st : List Value} {x : Nat} {m : kMem} {Q : Option Value → kMem → Prop} : kJ 42 51 [some (.ref x), l1] st m Q = kJ 42 52 [some (.ref x), l1] (.ref x :: st) m Q := kJ_next d42_51 rfl
theorem d42_52 : decode (mB 42) 52 = .ok (.getfield 22, 3) := by decide +kernel
theorem s42_52 {l0 l1 : Option Value} {st : List Value} {q : Nat} {mi : Nat → Nat → Int32} {ml : Nat → Nat → Int64} {mr : Nat → Nat → Option Nat} {nx : Nat} {Q : Option Value → kMem → Prop} (h : kIs nx q 3 = true) : kJ 42 52 [l0, l1] (.ref q :: st) (mi, ml, mr, nx) Q = kJ 42 55 [l0, l1] (va_rf (mr q 11) :: st) (mi, ml, mr, nx) Q := kJ_next d42_52 (kg_getr 3 11 rfl h (by decide))
theorem d42_55 : decode (mB 42) 55 = .ok (.iconst 1, 1) := by decide +kernel
theorem s42_55 {l0 l1 : Option Value} {st : List Value} {m : kMem} {Q : Option Value → kMem → Prop} : kJ 42 55 [l0, l1] st m Q = kJ 42 56 [l0, l1] (.int (nI 1) :: st) m Q := kJ_next d42_55 rfl
theorem d42_56 : decode (mB 42) 56 = .ok (.iaload, 1) := by decide +kernel
theorem s42_56 {l0 l1 : Option Value} {st : List Value} {q : Nat} {i : Int32} {mi : Nat → Nat → Int32} {ml : Nat → Nat → Int64} {mr : Nat → Nat → Option Nat} {nx : Nat} {Q : Option Value → kMem → Prop} (h : kIs nx q 10 = true) : kJ 42 56 [l0, l1] (.int i :: .ref q :: st) (mi, ml, mr, nx) Q = (vp_in i (kAl q) ∧ kJ 42 57 [l0, l1] (.int (mi q i.toNatClampNeg) :: st) (mi, ml, mr, nx) Q) := kg_aldJ d42_56 rfl (kAr_of h)
theorem d42_57 : decode (mB 42) 57 = .ok (.aload_n 0, 1) := by decide +kernel
theorem s42_57 {l1 : Option Value} {st : List Value} {x : Nat} {m : kMem} {Q : Option Value → kMem → Prop} : kJ 42 57 [some (.ref x), l1] st m Q = kJ 42 58 [some (.ref x), l1] (.ref x :: st) m Q := kJ_next d42_57 rfl
theorem d42_58 : decode (mB 42) 58 = .ok (.getfield 22, 3) := by decide +kernel
theorem s42_58 {l0 l1 : Option Value} {st : List Value} {q : Nat} {mi : Nat → Nat → Int32} {ml : Nat → Nat → Int64} {mr : Nat → Nat → Option Nat} {nx : Nat} {Q : Option Value → kMem → Prop} (h : kIs nx q 3 = true) : kJ 42 58 [l0, l1] (.ref q :: st) (mi, ml, mr, nx) Q = kJ 42 61 [l0, l1] (va_rf (mr q 11) :: st) (mi, ml, mr, nx) Q := kJ_next d42_58 (kg_getr 3 11 rfl h (by decide))
theorem d42_61 : decode (mB 42) 61 = .ok (.iconst 2, 1) := by decide +kernel
theorem s42_61 {l0 l1 : Option Value} {st : List Value} {m : kMem} {Q : Option Value → kMem → Prop} : kJ 42 61 [l0, l1] st m Q = kJ 42 62 [l0, l1] (.int (nI 2) :: st) m Q := kJ_next d42_61 rfl
theorem d42_62 : decode (mB 42) 62 = .ok (.iaload, 1) := by decide +kernel
theorem s42_62 {l0 l1 : Option Value} {st : List Value} {q : Nat} {i : Int32} {mi : Nat → Nat → Int32} {ml : Nat → Nat → Int64} {mr : Nat → Nat → Option Nat} {nx : Nat} {Q : Option Value → kMem → Prop} (h : kIs nx q 10 = true) : kJ 42 62 [l0, l1] (.int i :: .ref q :: st) (mi, ml, mr, nx) Q = (vp_in i (kAl q) ∧ kJ 42 63 [l0, l1] (.int (mi q i.toNatClampNeg) :: st) (mi, ml, mr, nx) Q) := kg_aldJ d42_62 rfl (kAr_of h)
theorem d42_63 : decode (mB 42) 63 = .ok (.aload_n 0, 1) := by decide +kernel
theorem s42_63 {l1 : Option Value} {st : List Value} {x : Nat} {m : kMem} {Q : Option Value → kMem → Prop} : kJ 42 63 [some (.ref x), l1] st m Q = kJ 42 64 [some (.ref x), l1] (.ref x :: st) m Q := kJ_next d42_63 rfl
theorem d42_64 : decode (mB 42) 64 = .ok (.getfield 22, 3) := by decide +kernel
theorem s42_64 {l0 l1 : Option Value} {st : List Value} {q : Nat} {mi : Nat → Nat → Int32} {ml : Nat → Nat → Int64} {mr : Nat → Nat → Option Nat} {nx : Nat} {Q : Option Value → kMem → Prop} (h : kIs nx q 3 = true) : kJ 42 64 [l0, l1] (.ref q :: st) (mi, ml, mr, nx) Q = kJ 42 67 [l0, l1] (va_rf (mr q 11) :: st) (mi, ml, mr, nx) Q := kJ_next d42_64 (kg_getr 3 11 rfl h (by decide))
theorem d42_67 : decode (mB 42) 67 = .ok (.iconst 3, 1) := by decide +kernel
theorem s42_67 {l0 l1 : Option Value} {st : List Value} {m : kMem} {Q : Option Value → kMem → Prop} : kJ 42 67 [l0, l1] st m Q = kJ 42 68 [l0, l1] (.int (nI 3) :: st) m Q := kJ_next d42_67 rfl
theorem d42_68 : decode (mB 42) 68 = .ok (.iaload, 1) := by decide +kernel
theorem s42_68 {l0 l1 : Option Value} {st : List Value} {q : Nat} {i : Int32} {mi : Nat → Nat → Int32} {ml : Nat → Nat → Int64} {mr : Nat → Nat → Option Nat} {nx : Nat} {Q : Option Value → kMem → Prop} (h : kIs nx q 10 = true) : kJ 42 68 [l0, l1] (.int i :: .ref q :: st) (mi, ml, mr, nx) Q = (vp_in i (kAl q) ∧ kJ 42 69 [l0, l1] (.int (mi q i.toNatClampNeg) :: st) (mi, ml, mr, nx) Q) := kg_aldJ d42_68 rfl (kAr_of h)
theorem d42_69 : decode (mB 42) 69 = .ok (.invokevirtual 98, 3) := by decide +kernel
theorem s42_69 {l0 l1 : Option Value} {v0 : Int32} {v1 : Int32} {v2 : Int32} {v3 : Int32} {v4 : Nat} {m : kMem} {Q : Option Value → kMem → Prop} (h : kIs m.2.2.2 v4 1 = true) : kJ 42 69 [l0, l1] [.int v0, .int v1, .int v2, .int v3, .ref v4] m Q = kJ 12 0 [some (.ref v4), some (.int v3), some (.int v2), some (.int v1), some (.int v0)] [] m (fun v m2 => kJ 42 72 [l0, l1] (v.toList ++ []) m2 Q) := kJ_call d42_69 (kg_callv 12 4 rfl rfl rfl rfl (Nat.le_of_ble_eq_true rfl) (Nat.le_of_ble_eq_true rfl) (Nat.le_of_ble_eq_true rfl) h rfl)
theorem d42_72 : decode (mB 42) 72 = .ok (.goto 23, 3) := by decide +kernel
theorem s42_72 {l0 l1 : Option Value} {st : List Value} {m : kMem} {Q : Option Value → kMem → Prop} : kJ 42 72 [l0, l1] st m Q = kJ 42 95 [l0, l1] st m Q := kJ_next d42_72 rfl
theorem d42_75 : decode (mB 42) 75 = .ok (.aload_n 0, 1) := by decide +kernel
theorem s42_75 {l1 : Option Value} {st : List Value} {x : Nat} {m : kMem} {Q : Option Value → kMem → Prop} : kJ 42 75 [some (.ref x), l1] st m Q = kJ 42 76 [some (.ref x), l1] (.ref x :: st) m Q := kJ_next d42_75 rfl
theorem d42_76 : decode (mB 42) 76 = .ok (.getfield 18, 3) := by decide +kernel
theorem s42_76 {l0 l1 : Option Value} {st : List Value} {q : Nat} {mi : Nat → Nat → Int32} {ml : Nat → Nat → Int64} {mr : Nat → Nat → Option Nat} {nx : Nat} {Q : Option Value → kMem → Prop} (h : kIs nx q 3 = true) : kJ 42 76 [l0, l1] (.ref q :: st) (mi, ml, mr, nx) Q = kJ 42 79 [l0, l1] (va_rf (mr q 2) :: st) (mi, ml, mr, nx) Q := kJ_next d42_76 (kg_getr 3 2 rfl h (by decide))
theorem d42_79 : decode (mB 42) 79 = .ok (.iload_n 1, 1) := by decide +kernel
theorem s42_79 {l0 : Option Value} {st : List Value} {x : Int32} {m : kMem} {Q : Option Value → kMem → Prop} : kJ 42 79 [l0, some (.int x)] st m Q = kJ 42 80 [l0, some (.int x)] (.int x :: st) m Q := kJ_next d42_79 rfl
theorem d42_80 : decode (mB 42) 80 = .ok (.aload_n 0, 1) := by decide +kernel
theorem s42_80 {l1 : Option Value} {st : List Value} {x : Nat} {m : kMem} {Q : Option Value → kMem → Prop} : kJ 42 80 [some (.ref x), l1] st m Q = kJ 42 81 [some (.ref x), l1] (.ref x :: st) m Q := kJ_next d42_80 rfl
theorem d42_81 : decode (mB 42) 81 = .ok (.getfield 22, 3) := by decide +kernel
theorem s42_81 {l0 l1 : Option Value} {st : List Value} {q : Nat} {mi : Nat → Nat → Int32} {ml : Nat → Nat → Int64} {mr : Nat → Nat → Option Nat} {nx : Nat} {Q : Option Value → kMem → Prop} (h : kIs nx q 3 = true) : kJ 42 81 [l0, l1] (.ref q :: st) (mi, ml, mr, nx) Q = kJ 42 84 [l0, l1] (va_rf (mr q 11) :: st) (mi, ml, mr, nx) Q := kJ_next d42_81 (kg_getr 3 11 rfl h (by decide))
theorem d42_84 : decode (mB 42) 84 = .ok (.iconst 0, 1) := by decide +kernel
theorem s42_84 {l0 l1 : Option Value} {st : List Value} {m : kMem} {Q : Option Value → kMem → Prop} : kJ 42 84 [l0, l1] st m Q = kJ 42 85 [l0, l1] (.int (nI 0) :: st) m Q := kJ_next d42_84 rfl
theorem d42_85 : decode (mB 42) 85 = .ok (.iaload, 1) := by decide +kernel
theorem s42_85 {l0 l1 : Option Value} {st : List Value} {q : Nat} {i : Int32} {mi : Nat → Nat → Int32} {ml : Nat → Nat → Int64} {mr : Nat → Nat → Option Nat} {nx : Nat} {Q : Option Value → kMem → Prop} (h : kIs nx q 10 = true) : kJ 42 85 [l0, l1] (.int i :: .ref q :: st) (mi, ml, mr, nx) Q = (vp_in i (kAl q) ∧ kJ 42 86 [l0, l1] (.int (mi q i.toNatClampNeg) :: st) (mi, ml, mr, nx) Q) := kg_aldJ d42_85 rfl (kAr_of h)
theorem d42_86 : decode (mB 42) 86 = .ok (.aload_n 0, 1) := by decide +kernel
theorem s42_86 {l1 : Option Value} {st : List Value} {x : Nat} {m : kMem} {Q : Option Value → kMem → Prop} : kJ 42 86 [some (.ref x), l1] st m Q = kJ 42 87 [some (.ref x), l1] (.ref x :: st) m Q := kJ_next d42_86 rfl
theorem d42_87 : decode (mB 42) 87 = .ok (.getfield 22, 3) := by decide +kernel
theorem s42_87 {l0 l1 : Option Value} {st : List Value} {q : Nat} {mi : Nat → Nat → Int32} {ml : Nat → Nat → Int64} {mr : Nat → Nat → Option Nat} {nx : Nat} {Q : Option Value → kMem → Prop} (h : kIs nx q 3 = true) : kJ 42 87 [l0, l1] (.ref q :: st) (mi, ml, mr, nx) Q = kJ 42 90 [l0, l1] (va_rf (mr q 11) :: st) (mi, ml, mr, nx) Q := kJ_next d42_87 (kg_getr 3 11 rfl h (by decide))
theorem d42_90 : decode (mB 42) 90 = .ok (.iconst 1, 1) := by decide +kernel
theorem s42_90 {l0 l1 : Option Value} {st : List Value} {m : kMem} {Q : Option Value → kMem → Prop} : kJ 42 90 [l0, l1] st m Q = kJ 42 91 [l0, l1] (.int (nI 1) :: st) m Q := kJ_next d42_90 rfl
theorem d42_91 : decode (mB 42) 91 = .ok (.iaload, 1) := by decide +kernel
theorem s42_91 {l0 l1 : Option Value} {st : List Value} {q : Nat} {i : Int32} {mi : Nat → Nat → Int32} {ml : Nat → Nat → Int64} {mr : Nat → Nat → Option Nat} {nx : Nat} {Q : Option Value → kMem → Prop} (h : kIs nx q 10 = true) : kJ 42 91 [l0, l1] (.int i :: .ref q :: st) (mi, ml, mr, nx) Q = (vp_in i (kAl q) ∧ kJ 42 92 [l0, l1] (.int (mi q i.toNatClampNeg) :: st) (mi, ml, mr, nx) Q) := kg_aldJ d42_91 rfl (kAr_of h)
theorem d42_92 : decode (mB 42) 92 = .ok (.invokevirtual 102, 3) := by decide +kernel
theorem s42_92 {l0 l1 : Option Value} {v0 : Int32} {v1 : Int32} {v2 : Int32} {v3 : Nat} {m : kMem} {Q : Option Value → kMem → Prop} (h : kIs m.2.2.2 v3 1 = true) : kJ 42 92 [l0, l1] [.int v0, .int v1, .int v2, .ref v3] m Q = kJ 11 0 [some (.ref v3), some (.int v2), some (.int v1), some (.int v0)] [] m (fun v m2 => kJ 42 95 [l0, l1] (v.toList ++ []) m2 Q) := kJ_call d42_92 (kg_callv 11 3 rfl rfl rfl rfl (Nat.le_of_ble_eq_true rfl) (Nat.le_of_ble_eq_true rfl) (Nat.le_of_ble_eq_true rfl) h rfl)
theorem d42_95 : decode (mB 42) 95 = .ok (.return_, 1) := by decide +kernel
theorem s42_95 {l0 l1 : Option Value} {m : kMem} {Q : Option Value → kMem → Prop} : kJ 42 95 [l0, l1] [] m Q = Q none m := kJ_ret d42_95 rfl
theorem d43_0 : decode (mB 43) 0 = .ok (.iconst 0, 1) := by decide +kernel
theorem s43_0 {l0 l1 : Option Value} {st : List Value} {m : kMem} {Q : Option Value → kMem → Prop} : kJ 43 0 [l0, l1] st m Q = kJ 43 1 [l0, l1] (.int (nI 0) :: st) m Q := kJ_next d43_0 rfl
theorem d43_1 : decode (mB 43) 1 = .ok (.istore_n 1, 1) := by decide +kernel
theorem s43_1 {l0 l1 : Option Value} {st : List Value} {x : Int32} {m : kMem} {Q : Option Value → kMem → Prop} (hp : kNL l0 = true) : kJ 43 1 [l0, l1] (.int x :: st) m Q = kJ 43 2 [l0, some (.int x)] st m Q := kJ_next d43_1 (kg_sti (Nat.le_of_ble_eq_true rfl) hp)
theorem d43_2 : decode (mB 43) 2 = .ok (.iload_n 1, 1) := by decide +kernel
theorem s43_2 {l0 : Option Value} {st : List Value} {x : Int32} {m : kMem} {Q : Option Value → kMem → Prop} : kJ 43 2 [l0, some (.int x)] st m Q = kJ 43 3 [l0, some (.int x)] (.int x :: st) m Q := kJ_next d43_2 rfl
theorem d43_3 : decode (mB 43) 3 = .ok (.aload_n 0, 1) := by decide +kernel
theorem s43_3 {l1 : Option Value} {st : List Value} {x : Nat} {m : kMem} {Q : Option Value → kMem → Prop} : kJ 43 3 [some (.ref x), l1] st m Q = kJ 43 4 [some (.ref x), l1] (.ref x :: st) m Q := kJ_next d43_3 rfl
theorem d43_4 : decode (mB 43) 4 = .ok (.getfield 18, 3) := by decide +kernel
theorem s43_4 {l0 l1 : Option Value} {st : List Value} {q : Nat} {mi : Nat → Nat → Int32} {ml : Nat → Nat → Int64} {mr : Nat → Nat → Option Nat} {nx : Nat} {Q : Option Value → kMem → Prop} (h : kIs nx q 3 = true) : kJ 43 4 [l0, l1] (.ref q :: st) (mi, ml, mr, nx) Q = kJ 43 7 [l0, l1] (va_rf (mr q 2) :: st) (mi, ml, mr, nx) Q := kJ_next d43_4 (kg_getr 3 2 rfl h (by decide))
theorem d43_7 : decode (mB 43) 7 = .ok (.getfield 78, 3) := by decide +kernel
theorem s43_7 {l0 l1 : Option Value} {st : List Value} {q : Nat} {mi : Nat → Nat → Int32} {ml : Nat → Nat → Int64} {mr : Nat → Nat → Option Nat} {nx : Nat} {Q : Option Value → kMem → Prop} (h : kIs nx q 1 = true) : kJ 43 7 [l0, l1] (.ref q :: st) (mi, ml, mr, nx) Q = kJ 43 10 [l0, l1] (.int (mi q 4) :: st) (mi, ml, mr, nx) Q := kJ_next d43_7 (kg_geti 1 4 rfl h (by decide))
theorem d43_10 : decode (mB 43) 10 = .ok (.if_icmp .ge 94, 3) := by decide +kernel
theorem s43_10 {l0 l1 : Option Value} {st : List Value} {a b : Int32} {m : kMem} {Q : Option Value → kMem → Prop} : kJ 43 10 [l0, l1] (.int b :: .int a :: st) m Q = (if b ≤ a then kJ 43 104 [l0, l1] st m Q else kJ 43 13 [l0, l1] st m Q) := kJ_if d43_10 rfl (fun h => kJ_next d43_10 h) (fun h => kJ_next d43_10 h)
theorem d43_13 : decode (mB 43) 13 = .ok (.aload_n 0, 1) := by decide +kernel
theorem s43_13 {l1 : Option Value} {st : List Value} {x : Nat} {m : kMem} {Q : Option Value → kMem → Prop} : kJ 43 13 [some (.ref x), l1] st m Q = kJ 43 14 [some (.ref x), l1] (.ref x :: st) m Q := kJ_next d43_13 rfl
theorem d43_14 : decode (mB 43) 14 = .ok (.getfield 18, 3) := by decide +kernel
theorem s43_14 {l0 l1 : Option Value} {st : List Value} {q : Nat} {mi : Nat → Nat → Int32} {ml : Nat → Nat → Int64} {mr : Nat → Nat → Option Nat} {nx : Nat} {Q : Option Value → kMem → Prop} (h : kIs nx q 3 = true) : kJ 43 14 [l0, l1] (.ref q :: st) (mi, ml, mr, nx) Q = kJ 43 17 [l0, l1] (va_rf (mr q 2) :: st) (mi, ml, mr, nx) Q := kJ_next d43_14 (kg_getr 3 2 rfl h (by decide))
theorem d43_17 : decode (mB 43) 17 = .ok (.aload_n 0, 1) := by decide +kernel
theorem s43_17 {l1 : Option Value} {st : List Value} {x : Nat} {m : kMem} {Q : Option Value → kMem → Prop} : kJ 43 17 [some (.ref x), l1] st m Q = kJ 43 18 [some (.ref x), l1] (.ref x :: st) m Q := kJ_next d43_17 rfl
theorem d43_18 : decode (mB 43) 18 = .ok (.getfield 18, 3) := by decide +kernel
theorem s43_18 {l0 l1 : Option Value} {st : List Value} {q : Nat} {mi : Nat → Nat → Int32} {ml : Nat → Nat → Int64} {mr : Nat → Nat → Option Nat} {nx : Nat} {Q : Option Value → kMem → Prop} (h : kIs nx q 3 = true) : kJ 43 18 [l0, l1] (.ref q :: st) (mi, ml, mr, nx) Q = kJ 43 21 [l0, l1] (va_rf (mr q 2) :: st) (mi, ml, mr, nx) Q := kJ_next d43_18 (kg_getr 3 2 rfl h (by decide))
theorem d43_21 : decode (mB 43) 21 = .ok (.getfield 106, 3) := by decide +kernel
theorem s43_21 {l0 l1 : Option Value} {st : List Value} {q : Nat} {mi : Nat → Nat → Int32} {ml : Nat → Nat → Int64} {mr : Nat → Nat → Option Nat} {nx : Nat} {Q : Option Value → kMem → Prop} (h : kIs nx q 1 = true) : kJ 43 21 [l0, l1] (.ref q :: st) (mi, ml, mr, nx) Q = kJ 43 24 [l0, l1] (va_rf (mr q 5) :: st) (mi, ml, mr, nx) Q := kJ_next d43_21 (kg_getr 1 5 rfl h (by decide))
theorem d43_24 : decode (mB 43) 24 = .ok (.iload_n 1, 1) := by decide +kernel
theorem s43_24 {l0 : Option Value} {st : List Value} {x : Int32} {m : kMem} {Q : Option Value → kMem → Prop} : kJ 43 24 [l0, some (.int x)] st m Q = kJ 43 25 [l0, some (.int x)] (.int x :: st) m Q := kJ_next d43_24 rfl
theorem d43_25 : decode (mB 43) 25 = .ok (.iaload, 1) := by decide +kernel
theorem s43_25 {l0 l1 : Option Value} {st : List Value} {q : Nat} {i : Int32} {mi : Nat → Nat → Int32} {ml : Nat → Nat → Int64} {mr : Nat → Nat → Option Nat} {nx : Nat} {Q : Option Value → kMem → Prop} (h : kIs nx q 10 = true) : kJ 43 25 [l0, l1] (.int i :: .ref q :: st) (mi, ml, mr, nx) Q = (vp_in i (kAl q) ∧ kJ 43 26 [l0, l1] (.int (mi q i.toNatClampNeg) :: st) (mi, ml, mr, nx) Q) := kg_aldJ d43_25 rfl (kAr_of h)
theorem d43_26 : decode (mB 43) 26 = .ok (.invokevirtual 109, 3) := by decide +kernel
theorem s43_26 {l0 l1 : Option Value} {v0 : Int32} {v1 : Nat} {m : kMem} {Q : Option Value → kMem → Prop} (h : kIs m.2.2.2 v1 1 = true) : kJ 43 26 [l0, l1] [.int v0, .ref v1] m Q = kJ 7 0 [some (.ref v1), some (.int v0)] [] m (fun v m2 => kJ 43 29 [l0, l1] (v.toList ++ []) m2 Q) := kJ_call d43_26 (kg_callv 7 1 rfl rfl rfl rfl (Nat.le_of_ble_eq_true rfl) (Nat.le_of_ble_eq_true rfl) (Nat.le_of_ble_eq_true rfl) h rfl)
theorem d43_29 : decode (mB 43) 29 = .ok (.ifCond .eq 41, 3) := by decide +kernel
theorem s43_29 {l0 l1 : Option Value} {st : List Value} {a : Int32} {m : kMem} {Q : Option Value → kMem → Prop} : kJ 43 29 [l0, l1] (.int a :: st) m Q = (if a = 0 then kJ 43 70 [l0, l1] st m Q else kJ 43 32 [l0, l1] st m Q) := kJ_if d43_29 rfl (fun h => kJ_next d43_29 h) (fun h => kJ_next d43_29 h)
theorem d43_32 : decode (mB 43) 32 = .ok (.aload_n 0, 1) := by decide +kernel
theorem s43_32 {l1 : Option Value} {st : List Value} {x : Nat} {m : kMem} {Q : Option Value → kMem → Prop} : kJ 43 32 [some (.ref x), l1] st m Q = kJ 43 33 [some (.ref x), l1] (.ref x :: st) m Q := kJ_next d43_32 rfl
theorem d43_33 : decode (mB 43) 33 = .ok (.getfield 18, 3) := by decide +kernel
theorem s43_33 {l0 l1 : Option Value} {st : List Value} {q : Nat} {mi : Nat → Nat → Int32} {ml : Nat → Nat → Int64} {mr : Nat → Nat → Option Nat} {nx : Nat} {Q : Option Value → kMem → Prop} (h : kIs nx q 3 = true) : kJ 43 33 [l0, l1] (.ref q :: st) (mi, ml, mr, nx) Q = kJ 43 36 [l0, l1] (va_rf (mr q 2) :: st) (mi, ml, mr, nx) Q := kJ_next d43_33 (kg_getr 3 2 rfl h (by decide))
theorem d43_36 : decode (mB 43) 36 = .ok (.aload_n 0, 1) := by decide +kernel
theorem s43_36 {l1 : Option Value} {st : List Value} {x : Nat} {m : kMem} {Q : Option Value → kMem → Prop} : kJ 43 36 [some (.ref x), l1] st m Q = kJ 43 37 [some (.ref x), l1] (.ref x :: st) m Q := kJ_next d43_36 rfl
theorem d43_37 : decode (mB 43) 37 = .ok (.getfield 18, 3) := by decide +kernel
theorem s43_37 {l0 l1 : Option Value} {st : List Value} {q : Nat} {mi : Nat → Nat → Int32} {ml : Nat → Nat → Int64} {mr : Nat → Nat → Option Nat} {nx : Nat} {Q : Option Value → kMem → Prop} (h : kIs nx q 3 = true) : kJ 43 37 [l0, l1] (.ref q :: st) (mi, ml, mr, nx) Q = kJ 43 40 [l0, l1] (va_rf (mr q 2) :: st) (mi, ml, mr, nx) Q := kJ_next d43_37 (kg_getr 3 2 rfl h (by decide))
theorem d43_40 : decode (mB 43) 40 = .ok (.getfield 113, 3) := by decide +kernel
theorem s43_40 {l0 l1 : Option Value} {st : List Value} {q : Nat} {mi : Nat → Nat → Int32} {ml : Nat → Nat → Int64} {mr : Nat → Nat → Option Nat} {nx : Nat} {Q : Option Value → kMem → Prop} (h : kIs nx q 1 = true) : kJ 43 40 [l0, l1] (.ref q :: st) (mi, ml, mr, nx) Q = kJ 43 43 [l0, l1] (va_rf (mr q 6) :: st) (mi, ml, mr, nx) Q := kJ_next d43_40 (kg_getr 1 6 rfl h (by decide))
theorem d43_43 : decode (mB 43) 43 = .ok (.iload_n 1, 1) := by decide +kernel
theorem s43_43 {l0 : Option Value} {st : List Value} {x : Int32} {m : kMem} {Q : Option Value → kMem → Prop} : kJ 43 43 [l0, some (.int x)] st m Q = kJ 43 44 [l0, some (.int x)] (.int x :: st) m Q := kJ_next d43_43 rfl
theorem d43_44 : decode (mB 43) 44 = .ok (.iaload, 1) := by decide +kernel
theorem s43_44 {l0 l1 : Option Value} {st : List Value} {q : Nat} {i : Int32} {mi : Nat → Nat → Int32} {ml : Nat → Nat → Int64} {mr : Nat → Nat → Option Nat} {nx : Nat} {Q : Option Value → kMem → Prop} (h : kIs nx q 10 = true) : kJ 43 44 [l0, l1] (.int i :: .ref q :: st) (mi, ml, mr, nx) Q = (vp_in i (kAl q) ∧ kJ 43 45 [l0, l1] (.int (mi q i.toNatClampNeg) :: st) (mi, ml, mr, nx) Q) := kg_aldJ d43_44 rfl (kAr_of h)
theorem d43_45 : decode (mB 43) 45 = .ok (.invokevirtual 109, 3) := by decide +kernel
theorem s43_45 {l0 l1 : Option Value} {v0 : Int32} {v1 : Nat} {m : kMem} {Q : Option Value → kMem → Prop} (h : kIs m.2.2.2 v1 1 = true) : kJ 43 45 [l0, l1] [.int v0, .ref v1] m Q = kJ 7 0 [some (.ref v1), some (.int v0)] [] m (fun v m2 => kJ 43 48 [l0, l1] (v.toList ++ []) m2 Q) := kJ_call d43_45 (kg_callv 7 1 rfl rfl rfl rfl (Nat.le_of_ble_eq_true rfl) (Nat.le_of_ble_eq_true rfl) (Nat.le_of_ble_eq_true rfl) h rfl)
theorem d43_48 : decode (mB 43) 48 = .ok (.ifCond .eq 22, 3) := by decide +kernel
theorem s43_48 {l0 l1 : Option Value} {st : List Value} {a : Int32} {m : kMem} {Q : Option Value → kMem → Prop} : kJ 43 48 [l0, l1] (.int a :: st) m Q = (if a = 0 then kJ 43 70 [l0, l1] st m Q else kJ 43 51 [l0, l1] st m Q) := kJ_if d43_48 rfl (fun h => kJ_next d43_48 h) (fun h => kJ_next d43_48 h)
theorem d43_51 : decode (mB 43) 51 = .ok (.aload_n 0, 1) := by decide +kernel
theorem s43_51 {l1 : Option Value} {st : List Value} {x : Nat} {m : kMem} {Q : Option Value → kMem → Prop} : kJ 43 51 [some (.ref x), l1] st m Q = kJ 43 52 [some (.ref x), l1] (.ref x :: st) m Q := kJ_next d43_51 rfl
theorem d43_52 : decode (mB 43) 52 = .ok (.getfield 18, 3) := by decide +kernel
theorem s43_52 {l0 l1 : Option Value} {st : List Value} {q : Nat} {mi : Nat → Nat → Int32} {ml : Nat → Nat → Int64} {mr : Nat → Nat → Option Nat} {nx : Nat} {Q : Option Value → kMem → Prop} (h : kIs nx q 3 = true) : kJ 43 52 [l0, l1] (.ref q :: st) (mi, ml, mr, nx) Q = kJ 43 55 [l0, l1] (va_rf (mr q 2) :: st) (mi, ml, mr, nx) Q := kJ_next d43_52 (kg_getr 3 2 rfl h (by decide))
theorem d43_55 : decode (mB 43) 55 = .ok (.aload_n 0, 1) := by decide +kernel
theorem s43_55 {l1 : Option Value} {st : List Value} {x : Nat} {m : kMem} {Q : Option Value → kMem → Prop} : kJ 43 55 [some (.ref x), l1] st m Q = kJ 43 56 [some (.ref x), l1] (.ref x :: st) m Q := kJ_next d43_55 rfl
theorem d43_56 : decode (mB 43) 56 = .ok (.getfield 18, 3) := by decide +kernel
theorem s43_56 {l0 l1 : Option Value} {st : List Value} {q : Nat} {mi : Nat → Nat → Int32} {ml : Nat → Nat → Int64} {mr : Nat → Nat → Option Nat} {nx : Nat} {Q : Option Value → kMem → Prop} (h : kIs nx q 3 = true) : kJ 43 56 [l0, l1] (.ref q :: st) (mi, ml, mr, nx) Q = kJ 43 59 [l0, l1] (va_rf (mr q 2) :: st) (mi, ml, mr, nx) Q := kJ_next d43_56 (kg_getr 3 2 rfl h (by decide))
theorem d43_59 : decode (mB 43) 59 = .ok (.getfield 116, 3) := by decide +kernel
theorem s43_59 {l0 l1 : Option Value} {st : List Value} {q : Nat} {mi : Nat → Nat → Int32} {ml : Nat → Nat → Int64} {mr : Nat → Nat → Option Nat} {nx : Nat} {Q : Option Value → kMem → Prop} (h : kIs nx q 1 = true) : kJ 43 59 [l0, l1] (.ref q :: st) (mi, ml, mr, nx) Q = kJ 43 62 [l0, l1] (va_rf (mr q 7) :: st) (mi, ml, mr, nx) Q := kJ_next d43_59 (kg_getr 1 7 rfl h (by decide))
theorem d43_62 : decode (mB 43) 62 = .ok (.iload_n 1, 1) := by decide +kernel
theorem s43_62 {l0 : Option Value} {st : List Value} {x : Int32} {m : kMem} {Q : Option Value → kMem → Prop} : kJ 43 62 [l0, some (.int x)] st m Q = kJ 43 63 [l0, some (.int x)] (.int x :: st) m Q := kJ_next d43_62 rfl
theorem d43_63 : decode (mB 43) 63 = .ok (.iaload, 1) := by decide +kernel
theorem s43_63 {l0 l1 : Option Value} {st : List Value} {q : Nat} {i : Int32} {mi : Nat → Nat → Int32} {ml : Nat → Nat → Int64} {mr : Nat → Nat → Option Nat} {nx : Nat} {Q : Option Value → kMem → Prop} (h : kIs nx q 10 = true) : kJ 43 63 [l0, l1] (.int i :: .ref q :: st) (mi, ml, mr, nx) Q = (vp_in i (kAl q) ∧ kJ 43 64 [l0, l1] (.int (mi q i.toNatClampNeg) :: st) (mi, ml, mr, nx) Q) := kg_aldJ d43_63 rfl (kAr_of h)
theorem d43_64 : decode (mB 43) 64 = .ok (.invokevirtual 109, 3) := by decide +kernel
theorem s43_64 {l0 l1 : Option Value} {v0 : Int32} {v1 : Nat} {m : kMem} {Q : Option Value → kMem → Prop} (h : kIs m.2.2.2 v1 1 = true) : kJ 43 64 [l0, l1] [.int v0, .ref v1] m Q = kJ 7 0 [some (.ref v1), some (.int v0)] [] m (fun v m2 => kJ 43 67 [l0, l1] (v.toList ++ []) m2 Q) := kJ_call d43_64 (kg_callv 7 1 rfl rfl rfl rfl (Nat.le_of_ble_eq_true rfl) (Nat.le_of_ble_eq_true rfl) (Nat.le_of_ble_eq_true rfl) h rfl)
theorem d43_67 : decode (mB 43) 67 = .ok (.ifCond .ne 14, 3) := by decide +kernel
theorem s43_67 {l0 l1 : Option Value} {st : List Value} {a : Int32} {m : kMem} {Q : Option Value → kMem → Prop} : kJ 43 67 [l0, l1] (.int a :: st) m Q = (if a = 0 then kJ 43 70 [l0, l1] st m Q else kJ 43 81 [l0, l1] st m Q) := kJ_if d43_67 rfl (fun h => kJ_next d43_67 h) (fun h => kJ_next d43_67 h)
theorem d43_70 : decode (mB 43) 70 = .ok (.aload_n 0, 1) := by decide +kernel
theorem s43_70 {l1 : Option Value} {st : List Value} {x : Nat} {m : kMem} {Q : Option Value → kMem → Prop} : kJ 43 70 [some (.ref x), l1] st m Q = kJ 43 71 [some (.ref x), l1] (.ref x :: st) m Q := kJ_next d43_70 rfl
theorem d43_71 : decode (mB 43) 71 = .ok (.bipush 6, 2) := by decide +kernel
theorem s43_71 {l0 l1 : Option Value} {st : List Value} {m : kMem} {Q : Option Value → kMem → Prop} : kJ 43 71 [l0, l1] st m Q = kJ 43 73 [l0, l1] (.int (nI 6) :: st) m Q := kJ_next d43_71 rfl
theorem d43_73 : decode (mB 43) 73 = .ok (.aload_n 0, 1) := by decide +kernel
theorem s43_73 {l1 : Option Value} {st : List Value} {x : Nat} {m : kMem} {Q : Option Value → kMem → Prop} : kJ 43 73 [some (.ref x), l1] st m Q = kJ 43 74 [some (.ref x), l1] (.ref x :: st) m Q := kJ_next d43_73 rfl
theorem d43_74 : decode (mB 43) 74 = .ok (.getfield 119, 3) := by decide +kernel
theorem s43_74 {l0 l1 : Option Value} {st : List Value} {q : Nat} {mi : Nat → Nat → Int32} {ml : Nat → Nat → Int64} {mr : Nat → Nat → Option Nat} {nx : Nat} {Q : Option Value → kMem → Prop} (h : kIs nx q 3 = true) : kJ 43 74 [l0, l1] (.ref q :: st) (mi, ml, mr, nx) Q = kJ 43 77 [l0, l1] (.int (mi q 1) :: st) (mi, ml, mr, nx) Q := kJ_next d43_74 (kg_geti 3 1 rfl h (by decide))
theorem d43_77 : decode (mB 43) 77 = .ok (.invokevirtual 72, 3) := by decide +kernel
theorem s43_77 {l0 l1 : Option Value} {v0 : Int32} {v1 : Int32} {v2 : Nat} {m : kMem} {Q : Option Value → kMem → Prop} (h : kIs m.2.2.2 v2 3 = true) : kJ 43 77 [l0, l1] [.int v0, .int v1, .ref v2] m Q = kJ 37 0 [some (.ref v2), some (.int v1), some (.int v0)] [] m (fun v m2 => kJ 43 80 [l0, l1] (v.toList ++ []) m2 Q) := kJ_call d43_77 (kg_callv 37 2 rfl rfl rfl rfl (Nat.le_of_ble_eq_true rfl) (Nat.le_of_ble_eq_true rfl) (Nat.le_of_ble_eq_true rfl) h rfl)
theorem d43_80 : decode (mB 43) 80 = .ok (.return_, 1) := by decide +kernel
theorem s43_80 {l0 l1 : Option Value} {m : kMem} {Q : Option Value → kMem → Prop} : kJ 43 80 [l0, l1] [] m Q = Q none m := kJ_ret d43_80 rfl
theorem d43_81 : decode (mB 43) 81 = .ok (.aload_n 0, 1) := by decide +kernel
theorem s43_81 {l1 : Option Value} {st : List Value} {x : Nat} {m : kMem} {Q : Option Value → kMem → Prop} : kJ 43 81 [some (.ref x), l1] st m Q = kJ 43 82 [some (.ref x), l1] (.ref x :: st) m Q := kJ_next d43_81 rfl
theorem d43_82 : decode (mB 43) 82 = .ok (.getfield 18, 3) := by decide +kernel
theorem s43_82 {l0 l1 : Option Value} {st : List Value} {q : Nat} {mi : Nat → Nat → Int32} {ml : Nat → Nat → Int64} {mr : Nat → Nat → Option Nat} {nx : Nat} {Q : Option Value → kMem → Prop} (h : kIs nx q 3 = true) : kJ 43 82 [l0, l1] (.ref q :: st) (mi, ml, mr, nx) Q = kJ 43 85 [l0, l1] (va_rf (mr q 2) :: st) (mi, ml, mr, nx) Q := kJ_next d43_82 (kg_getr 3 2 rfl h (by decide))
theorem d43_85 : decode (mB 43) 85 = .ok (.iload_n 1, 1) := by decide +kernel
theorem s43_85 {l0 : Option Value} {st : List Value} {x : Int32} {m : kMem} {Q : Option Value → kMem → Prop} : kJ 43 85 [l0, some (.int x)] st m Q = kJ 43 86 [l0, some (.int x)] (.int x :: st) m Q := kJ_next d43_85 rfl
theorem d43_86 : decode (mB 43) 86 = .ok (.aload_n 0, 1) := by decide +kernel
theorem s43_86 {l1 : Option Value} {st : List Value} {x : Nat} {m : kMem} {Q : Option Value → kMem → Prop} : kJ 43 86 [some (.ref x), l1] st m Q = kJ 43 87 [some (.ref x), l1] (.ref x :: st) m Q := kJ_next d43_86 rfl
theorem d43_87 : decode (mB 43) 87 = .ok (.getfield 18, 3) := by decide +kernel
theorem s43_87 {l0 l1 : Option Value} {st : List Value} {q : Nat} {mi : Nat → Nat → Int32} {ml : Nat → Nat → Int64} {mr : Nat → Nat → Option Nat} {nx : Nat} {Q : Option Value → kMem → Prop} (h : kIs nx q 3 = true) : kJ 43 87 [l0, l1] (.ref q :: st) (mi, ml, mr, nx) Q = kJ 43 90 [l0, l1] (va_rf (mr q 2) :: st) (mi, ml, mr, nx) Q := kJ_next d43_87 (kg_getr 3 2 rfl h (by decide))
theorem d43_90 : decode (mB 43) 90 = .ok (.getfield 122, 3) := by decide +kernel
theorem s43_90 {l0 l1 : Option Value} {st : List Value} {q : Nat} {mi : Nat → Nat → Int32} {ml : Nat → Nat → Int64} {mr : Nat → Nat → Option Nat} {nx : Nat} {Q : Option Value → kMem → Prop} (h : kIs nx q 1 = true) : kJ 43 90 [l0, l1] (.ref q :: st) (mi, ml, mr, nx) Q = kJ 43 93 [l0, l1] (va_rf (mr q 8) :: st) (mi, ml, mr, nx) Q := kJ_next d43_90 (kg_getr 1 8 rfl h (by decide))
theorem d43_93 : decode (mB 43) 93 = .ok (.iload_n 1, 1) := by decide +kernel
theorem s43_93 {l0 : Option Value} {st : List Value} {x : Int32} {m : kMem} {Q : Option Value → kMem → Prop} : kJ 43 93 [l0, some (.int x)] st m Q = kJ 43 94 [l0, some (.int x)] (.int x :: st) m Q := kJ_next d43_93 rfl
theorem d43_94 : decode (mB 43) 94 = .ok (.iaload, 1) := by decide +kernel
theorem s43_94 {l0 l1 : Option Value} {st : List Value} {q : Nat} {i : Int32} {mi : Nat → Nat → Int32} {ml : Nat → Nat → Int64} {mr : Nat → Nat → Option Nat} {nx : Nat} {Q : Option Value → kMem → Prop} (h : kIs nx q 10 = true) : kJ 43 94 [l0, l1] (.int i :: .ref q :: st) (mi, ml, mr, nx) Q = (vp_in i (kAl q) ∧ kJ 43 95 [l0, l1] (.int (mi q i.toNatClampNeg) :: st) (mi, ml, mr, nx) Q) := kg_aldJ d43_94 rfl (kAr_of h)
theorem d43_95 : decode (mB 43) 95 = .ok (.invokevirtual 125, 3) := by decide +kernel
theorem s43_95 {l0 l1 : Option Value} {v0 : Int32} {v1 : Int32} {v2 : Nat} {m : kMem} {Q : Option Value → kMem → Prop} (h : kIs m.2.2.2 v2 1 = true) : kJ 43 95 [l0, l1] [.int v0, .int v1, .ref v2] m Q = kJ 13 0 [some (.ref v2), some (.int v1), some (.int v0)] [] m (fun v m2 => kJ 43 98 [l0, l1] (v.toList ++ []) m2 Q) := kJ_call d43_95 (kg_callv 13 2 rfl rfl rfl rfl (Nat.le_of_ble_eq_true rfl) (Nat.le_of_ble_eq_true rfl) (Nat.le_of_ble_eq_true rfl) h rfl)
theorem d43_98 : decode (mB 43) 98 = .ok (.iinc 1 1, 3) := by decide +kernel
theorem s43_98 {l0 : Option Value} {st : List Value} {x : Int32} {m : kMem} {Q : Option Value → kMem → Prop} (hp : kNL l0 = true) : kJ 43 98 [l0, some (.int x)] st m Q = kJ 43 101 [l0, some (.int (x + (nI 1)))] st m Q := kJ_next d43_98 (kg_inc rfl (Nat.le_of_ble_eq_true rfl) hp)
theorem d43_101 : decode (mB 43) 101 = .ok (.goto (-99), 3) := by decide +kernel
theorem s43_101 {l0 l1 : Option Value} {st : List Value} {m : kMem} {Q : Option Value → kMem → Prop} : kJ 43 101 [l0, l1] st m Q = kJ 43 2 [l0, l1] st m Q := kJ_next d43_101 rfl
theorem d43_104 : decode (mB 43) 104 = .ok (.return_, 1) := by decide +kernel
theorem s43_104 {l0 l1 : Option Value} {m : kMem} {Q : Option Value → kMem → Prop} : kJ 43 104 [l0, l1] [] m Q = Q none m := kJ_ret d43_104 rfl
theorem d44_0 : decode (mB 44) 0 = .ok (.aload_n 0, 1) := by decide +kernel
theorem s44_0 {st : List Value} {x : Nat} {m : kMem} {Q : Option Value → kMem → Prop} : kJ 44 0 [some (.ref x)] st m Q = kJ 44 1 [some (.ref x)] (.ref x :: st) m Q := kJ_next d44_0 rfl
theorem d44_1 : decode (mB 44) 1 = .ok (.getfield 38, 3) := by decide +kernel
theorem s44_1 {l0 : Option Value} {st : List Value} {q : Nat} {mi : Nat → Nat → Int32} {ml : Nat → Nat → Int64} {mr : Nat → Nat → Option Nat} {nx : Nat} {Q : Option Value → kMem → Prop} (h : kIs nx q 3 = true) : kJ 44 1 [l0] (.ref q :: st) (mi, ml, mr, nx) Q = kJ 44 4 [l0] (.int (mi q 6) :: st) (mi, ml, mr, nx) Q := kJ_next d44_1 (kg_geti 3 6 rfl h (by decide))
theorem d44_4 : decode (mB 44) 4 = .ok (.aload_n 0, 1) := by decide +kernel
theorem s44_4 {st : List Value} {x : Nat} {m : kMem} {Q : Option Value → kMem → Prop} : kJ 44 4 [some (.ref x)] st m Q = kJ 44 5 [some (.ref x)] (.ref x :: st) m Q := kJ_next d44_4 rfl
theorem d44_5 : decode (mB 44) 5 = .ok (.getfield 119, 3) := by decide +kernel
theorem s44_5 {l0 : Option Value} {st : List Value} {q : Nat} {mi : Nat → Nat → Int32} {ml : Nat → Nat → Int64} {mr : Nat → Nat → Option Nat} {nx : Nat} {Q : Option Value → kMem → Prop} (h : kIs nx q 3 = true) : kJ 44 5 [l0] (.ref q :: st) (mi, ml, mr, nx) Q = kJ 44 8 [l0] (.int (mi q 1) :: st) (mi, ml, mr, nx) Q := kJ_next d44_5 (kg_geti 3 1 rfl h (by decide))
theorem d44_8 : decode (mB 44) 8 = .ok (.if_icmp .ge 30, 3) := by decide +kernel
theorem s44_8 {l0 : Option Value} {st : List Value} {a b : Int32} {m : kMem} {Q : Option Value → kMem → Prop} : kJ 44 8 [l0] (.int b :: .int a :: st) m Q = (if b ≤ a then kJ 44 38 [l0] st m Q else kJ 44 11 [l0] st m Q) := kJ_if d44_8 rfl (fun h => kJ_next d44_8 h) (fun h => kJ_next d44_8 h)
theorem d44_11 : decode (mB 44) 11 = .ok (.aload_n 0, 1) := by decide +kernel
theorem s44_11 {st : List Value} {x : Nat} {m : kMem} {Q : Option Value → kMem → Prop} : kJ 44 11 [some (.ref x)] st m Q = kJ 44 12 [some (.ref x)] (.ref x :: st) m Q := kJ_next d44_11 rfl
theorem d44_12 : decode (mB 44) 12 = .ok (.getfield 9, 3) := by decide +kernel
theorem s44_12 {l0 : Option Value} {st : List Value} {q : Nat} {mi : Nat → Nat → Int32} {ml : Nat → Nat → Int64} {mr : Nat → Nat → Option Nat} {nx : Nat} {Q : Option Value → kMem → Prop} (h : kIs nx q 3 = true) : kJ 44 12 [l0] (.ref q :: st) (mi, ml, mr, nx) Q = kJ 44 15 [l0] (va_rf (mr q 0) :: st) (mi, ml, mr, nx) Q := kJ_next d44_12 (kg_getr 3 0 rfl h (by decide))
theorem d44_15 : decode (mB 44) 15 = .ok (.aload_n 0, 1) := by decide +kernel
theorem s44_15 {st : List Value} {x : Nat} {m : kMem} {Q : Option Value → kMem → Prop} : kJ 44 15 [some (.ref x)] st m Q = kJ 44 16 [some (.ref x)] (.ref x :: st) m Q := kJ_next d44_15 rfl
theorem d44_16 : decode (mB 44) 16 = .ok (.getfield 38, 3) := by decide +kernel
theorem s44_16 {l0 : Option Value} {st : List Value} {q : Nat} {mi : Nat → Nat → Int32} {ml : Nat → Nat → Int64} {mr : Nat → Nat → Option Nat} {nx : Nat} {Q : Option Value → kMem → Prop} (h : kIs nx q 3 = true) : kJ 44 16 [l0] (.ref q :: st) (mi, ml, mr, nx) Q = kJ 44 19 [l0] (.int (mi q 6) :: st) (mi, ml, mr, nx) Q := kJ_next d44_16 (kg_geti 3 6 rfl h (by decide))
theorem d44_19 : decode (mB 44) 19 = .ok (.iaload, 1) := by decide +kernel
theorem s44_19 {l0 : Option Value} {st : List Value} {q : Nat} {i : Int32} {mi : Nat → Nat → Int32} {ml : Nat → Nat → Int64} {mr : Nat → Nat → Option Nat} {nx : Nat} {Q : Option Value → kMem → Prop} (h : kIs nx q 10 = true) : kJ 44 19 [l0] (.int i :: .ref q :: st) (mi, ml, mr, nx) Q = (vp_in i (kAl q) ∧ kJ 44 20 [l0] (.int (mi q i.toNatClampNeg) :: st) (mi, ml, mr, nx) Q) := kg_aldJ d44_19 rfl (kAr_of h)
theorem d44_20 : decode (mB 44) 20 = .ok (.bipush 32, 2) := by decide +kernel
theorem s44_20 {l0 : Option Value} {st : List Value} {m : kMem} {Q : Option Value → kMem → Prop} : kJ 44 20 [l0] st m Q = kJ 44 22 [l0] (.int (nI 32) :: st) m Q := kJ_next d44_20 rfl
theorem d44_22 : decode (mB 44) 22 = .ok (.if_icmp .ne 16, 3) := by decide +kernel
theorem s44_22 {l0 : Option Value} {st : List Value} {a b : Int32} {m : kMem} {Q : Option Value → kMem → Prop} : kJ 44 22 [l0] (.int b :: .int a :: st) m Q = (if a = b then kJ 44 25 [l0] st m Q else kJ 44 38 [l0] st m Q) := kJ_if d44_22 rfl (fun h => kJ_next d44_22 h) (fun h => kJ_next d44_22 h)
theorem d44_25 : decode (mB 44) 25 = .ok (.aload_n 0, 1) := by decide +kernel
theorem s44_25 {st : List Value} {x : Nat} {m : kMem} {Q : Option Value → kMem → Prop} : kJ 44 25 [some (.ref x)] st m Q = kJ 44 26 [some (.ref x)] (.ref x :: st) m Q := kJ_next d44_25 rfl
theorem d44_26 : decode (mB 44) 26 = .ok (.dup, 1) := by decide +kernel
theorem s44_26 {l0 : Option Value} {st : List Value} {a : Nat} {m : kMem} {Q : Option Value → kMem → Prop} : kJ 44 26 [l0] (.ref a :: st) m Q = kJ 44 27 [l0] (.ref a :: .ref a :: st) m Q := kJ_next d44_26 rfl
theorem d44_27 : decode (mB 44) 27 = .ok (.getfield 38, 3) := by decide +kernel
theorem s44_27 {l0 : Option Value} {st : List Value} {q : Nat} {mi : Nat → Nat → Int32} {ml : Nat → Nat → Int64} {mr : Nat → Nat → Option Nat} {nx : Nat} {Q : Option Value → kMem → Prop} (h : kIs nx q 3 = true) : kJ 44 27 [l0] (.ref q :: st) (mi, ml, mr, nx) Q = kJ 44 30 [l0] (.int (mi q 6) :: st) (mi, ml, mr, nx) Q := kJ_next d44_27 (kg_geti 3 6 rfl h (by decide))
theorem d44_30 : decode (mB 44) 30 = .ok (.iconst 1, 1) := by decide +kernel
theorem s44_30 {l0 : Option Value} {st : List Value} {m : kMem} {Q : Option Value → kMem → Prop} : kJ 44 30 [l0] st m Q = kJ 44 31 [l0] (.int (nI 1) :: st) m Q := kJ_next d44_30 rfl
theorem d44_31 : decode (mB 44) 31 = .ok (.iadd, 1) := by decide +kernel
theorem s44_31 {l0 : Option Value} {st : List Value} {a b : Int32} {m : kMem} {Q : Option Value → kMem → Prop} : kJ 44 31 [l0] (.int b :: .int a :: st) m Q = kJ 44 32 [l0] (.int (a + b) :: st) m Q := kJ_next d44_31 rfl
theorem d44_32 : decode (mB 44) 32 = .ok (.putfield 38, 3) := by decide +kernel
theorem s44_32 {l0 : Option Value} {st : List Value} {q : Nat} {x : Int32} {mi : Nat → Nat → Int32} {ml : Nat → Nat → Int64} {mr : Nat → Nat → Option Nat} {nx : Nat} {Q : Option Value → kMem → Prop} (h : kIs nx q 3 = true) : kJ 44 32 [l0] (.int x :: .ref q :: st) (mi, ml, mr, nx) Q = kJ 44 35 [l0] st (kup mi q 6 x, ml, mr, nx) Q := kJ_next d44_32 (kg_puti 3 6 rfl h (by decide) (Or.inl (by decide)))
theorem d44_35 : decode (mB 44) 35 = .ok (.goto (-35), 3) := by decide +kernel
theorem s44_35 {l0 : Option Value} {st : List Value} {m : kMem} {Q : Option Value → kMem → Prop} : kJ 44 35 [l0] st m Q = kJ 44 0 [l0] st m Q := kJ_next d44_35 rfl
theorem d44_38 : decode (mB 44) 38 = .ok (.aload_n 0, 1) := by decide +kernel
theorem s44_38 {st : List Value} {x : Nat} {m : kMem} {Q : Option Value → kMem → Prop} : kJ 44 38 [some (.ref x)] st m Q = kJ 44 39 [some (.ref x)] (.ref x :: st) m Q := kJ_next d44_38 rfl
theorem d44_39 : decode (mB 44) 39 = .ok (.aload_n 0, 1) := by decide +kernel
theorem s44_39 {st : List Value} {x : Nat} {m : kMem} {Q : Option Value → kMem → Prop} : kJ 44 39 [some (.ref x)] st m Q = kJ 44 40 [some (.ref x)] (.ref x :: st) m Q := kJ_next d44_39 rfl
theorem d44_40 : decode (mB 44) 40 = .ok (.getfield 38, 3) := by decide +kernel
theorem s44_40 {l0 : Option Value} {st : List Value} {q : Nat} {mi : Nat → Nat → Int32} {ml : Nat → Nat → Int64} {mr : Nat → Nat → Option Nat} {nx : Nat} {Q : Option Value → kMem → Prop} (h : kIs nx q 3 = true) : kJ 44 40 [l0] (.ref q :: st) (mi, ml, mr, nx) Q = kJ 44 43 [l0] (.int (mi q 6) :: st) (mi, ml, mr, nx) Q := kJ_next d44_40 (kg_geti 3 6 rfl h (by decide))
theorem d44_43 : decode (mB 44) 43 = .ok (.putfield 69, 3) := by decide +kernel
theorem s44_43 {l0 : Option Value} {st : List Value} {q : Nat} {x : Int32} {mi : Nat → Nat → Int32} {ml : Nat → Nat → Int64} {mr : Nat → Nat → Option Nat} {nx : Nat} {Q : Option Value → kMem → Prop} (h : kIs nx q 3 = true) : kJ 44 43 [l0] (.int x :: .ref q :: st) (mi, ml, mr, nx) Q = kJ 44 46 [l0] st (kup mi q 8 x, ml, mr, nx) Q := kJ_next d44_43 (kg_puti 3 8 rfl h (by decide) (Or.inl (by decide)))
theorem d44_46 : decode (mB 44) 46 = .ok (.aload_n 0, 1) := by decide +kernel
theorem s44_46 {st : List Value} {x : Nat} {m : kMem} {Q : Option Value → kMem → Prop} : kJ 44 46 [some (.ref x)] st m Q = kJ 44 47 [some (.ref x)] (.ref x :: st) m Q := kJ_next d44_46 rfl
theorem d44_47 : decode (mB 44) 47 = .ok (.getfield 38, 3) := by decide +kernel
theorem s44_47 {l0 : Option Value} {st : List Value} {q : Nat} {mi : Nat → Nat → Int32} {ml : Nat → Nat → Int64} {mr : Nat → Nat → Option Nat} {nx : Nat} {Q : Option Value → kMem → Prop} (h : kIs nx q 3 = true) : kJ 44 47 [l0] (.ref q :: st) (mi, ml, mr, nx) Q = kJ 44 50 [l0] (.int (mi q 6) :: st) (mi, ml, mr, nx) Q := kJ_next d44_47 (kg_geti 3 6 rfl h (by decide))
theorem d44_50 : decode (mB 44) 50 = .ok (.aload_n 0, 1) := by decide +kernel
theorem s44_50 {st : List Value} {x : Nat} {m : kMem} {Q : Option Value → kMem → Prop} : kJ 44 50 [some (.ref x)] st m Q = kJ 44 51 [some (.ref x)] (.ref x :: st) m Q := kJ_next d44_50 rfl
theorem d44_51 : decode (mB 44) 51 = .ok (.getfield 119, 3) := by decide +kernel
theorem s44_51 {l0 : Option Value} {st : List Value} {q : Nat} {mi : Nat → Nat → Int32} {ml : Nat → Nat → Int64} {mr : Nat → Nat → Option Nat} {nx : Nat} {Q : Option Value → kMem → Prop} (h : kIs nx q 3 = true) : kJ 44 51 [l0] (.ref q :: st) (mi, ml, mr, nx) Q = kJ 44 54 [l0] (.int (mi q 1) :: st) (mi, ml, mr, nx) Q := kJ_next d44_51 (kg_geti 3 1 rfl h (by decide))
theorem d44_54 : decode (mB 44) 54 = .ok (.if_icmp .lt 11, 3) := by decide +kernel
theorem s44_54 {l0 : Option Value} {st : List Value} {a b : Int32} {m : kMem} {Q : Option Value → kMem → Prop} : kJ 44 54 [l0] (.int b :: .int a :: st) m Q = (if a < b then kJ 44 65 [l0] st m Q else kJ 44 57 [l0] st m Q) := kJ_if d44_54 rfl (fun h => kJ_next d44_54 h) (fun h => kJ_next d44_54 h)
theorem d44_57 : decode (mB 44) 57 = .ok (.aload_n 0, 1) := by decide +kernel
theorem s44_57 {st : List Value} {x : Nat} {m : kMem} {Q : Option Value → kMem → Prop} : kJ 44 57 [some (.ref x)] st m Q = kJ 44 58 [some (.ref x)] (.ref x :: st) m Q := kJ_next d44_57 rfl
theorem d44_58 : decode (mB 44) 58 = .ok (.iconst 0, 1) := by decide +kernel
theorem s44_58 {l0 : Option Value} {st : List Value} {m : kMem} {Q : Option Value → kMem → Prop} : kJ 44 58 [l0] st m Q = kJ 44 59 [l0] (.int (nI 0) :: st) m Q := kJ_next d44_58 rfl
theorem d44_59 : decode (mB 44) 59 = .ok (.putfield 48, 3) := by decide +kernel
theorem s44_59 {l0 : Option Value} {st : List Value} {q : Nat} {x : Int32} {mi : Nat → Nat → Int32} {ml : Nat → Nat → Int64} {mr : Nat → Nat → Option Nat} {nx : Nat} {Q : Option Value → kMem → Prop} (h : kIs nx q 3 = true) : kJ 44 59 [l0] (.int x :: .ref q :: st) (mi, ml, mr, nx) Q = kJ 44 62 [l0] st (kup mi q 7 x, ml, mr, nx) Q := kJ_next d44_59 (kg_puti 3 7 rfl h (by decide) (Or.inl (by decide)))
theorem d44_62 : decode (mB 44) 62 = .ok (.goto 110, 3) := by decide +kernel
theorem s44_62 {l0 : Option Value} {st : List Value} {m : kMem} {Q : Option Value → kMem → Prop} : kJ 44 62 [l0] st m Q = kJ 44 172 [l0] st m Q := kJ_next d44_62 rfl
theorem d44_65 : decode (mB 44) 65 = .ok (.aload_n 0, 1) := by decide +kernel
theorem s44_65 {st : List Value} {x : Nat} {m : kMem} {Q : Option Value → kMem → Prop} : kJ 44 65 [some (.ref x)] st m Q = kJ 44 66 [some (.ref x)] (.ref x :: st) m Q := kJ_next d44_65 rfl
theorem d44_66 : decode (mB 44) 66 = .ok (.aload_n 0, 1) := by decide +kernel
theorem s44_66 {st : List Value} {x : Nat} {m : kMem} {Q : Option Value → kMem → Prop} : kJ 44 66 [some (.ref x)] st m Q = kJ 44 67 [some (.ref x)] (.ref x :: st) m Q := kJ_next d44_66 rfl
theorem d44_67 : decode (mB 44) 67 = .ok (.getfield 38, 3) := by decide +kernel
theorem s44_67 {l0 : Option Value} {st : List Value} {q : Nat} {mi : Nat → Nat → Int32} {ml : Nat → Nat → Int64} {mr : Nat → Nat → Option Nat} {nx : Nat} {Q : Option Value → kMem → Prop} (h : kIs nx q 3 = true) : kJ 44 67 [l0] (.ref q :: st) (mi, ml, mr, nx) Q = kJ 44 70 [l0] (.int (mi q 6) :: st) (mi, ml, mr, nx) Q := kJ_next d44_67 (kg_geti 3 6 rfl h (by decide))
theorem d44_70 : decode (mB 44) 70 = .ok (.bipush 97, 2) := by decide +kernel
theorem s44_70 {l0 : Option Value} {st : List Value} {m : kMem} {Q : Option Value → kMem → Prop} : kJ 44 70 [l0] st m Q = kJ 44 72 [l0] (.int (nI 97) :: st) m Q := kJ_next d44_70 rfl
theorem d44_72 : decode (mB 44) 72 = .ok (.bipush 122, 2) := by decide +kernel
theorem s44_72 {l0 : Option Value} {st : List Value} {m : kMem} {Q : Option Value → kMem → Prop} : kJ 44 72 [l0] st m Q = kJ 44 74 [l0] (.int (nI 122) :: st) m Q := kJ_next d44_72 rfl
theorem d44_74 : decode (mB 44) 74 = .ok (.invokevirtual 128, 3) := by decide +kernel
theorem s44_74 {l0 : Option Value} {v0 : Int32} {v1 : Int32} {v2 : Int32} {v3 : Nat} {m : kMem} {Q : Option Value → kMem → Prop} (h : kIs m.2.2.2 v3 3 = true) : kJ 44 74 [l0] [.int v0, .int v1, .int v2, .ref v3] m Q = kJ 45 0 [some (.ref v3), some (.int v2), some (.int v1), some (.int v0)] [] m (fun v m2 => kJ 44 77 [l0] (v.toList ++ []) m2 Q) := kJ_call d44_74 (kg_callv 45 3 rfl rfl rfl rfl (Nat.le_of_ble_eq_true rfl) (Nat.le_of_ble_eq_true rfl) (Nat.le_of_ble_eq_true rfl) h rfl)
theorem d44_77 : decode (mB 44) 77 = .ok (.ifCond .eq 19, 3) := by decide +kernel
theorem s44_77 {l0 : Option Value} {st : List Value} {a : Int32} {m : kMem} {Q : Option Value → kMem → Prop} : kJ 44 77 [l0] (.int a :: st) m Q = (if a = 0 then kJ 44 96 [l0] st m Q else kJ 44 80 [l0] st m Q) := kJ_if d44_77 rfl (fun h => kJ_next d44_77 h) (fun h => kJ_next d44_77 h)
theorem d44_80 : decode (mB 44) 80 = .ok (.aload_n 0, 1) := by decide +kernel
theorem s44_80 {st : List Value} {x : Nat} {m : kMem} {Q : Option Value → kMem → Prop} : kJ 44 80 [some (.ref x)] st m Q = kJ 44 81 [some (.ref x)] (.ref x :: st) m Q := kJ_next d44_80 rfl
theorem d44_81 : decode (mB 44) 81 = .ok (.iconst 1, 1) := by decide +kernel
theorem s44_81 {l0 : Option Value} {st : List Value} {m : kMem} {Q : Option Value → kMem → Prop} : kJ 44 81 [l0] st m Q = kJ 44 82 [l0] (.int (nI 1) :: st) m Q := kJ_next d44_81 rfl
theorem d44_82 : decode (mB 44) 82 = .ok (.putfield 48, 3) := by decide +kernel
theorem s44_82 {l0 : Option Value} {st : List Value} {q : Nat} {x : Int32} {mi : Nat → Nat → Int32} {ml : Nat → Nat → Int64} {mr : Nat → Nat → Option Nat} {nx : Nat} {Q : Option Value → kMem → Prop} (h : kIs nx q 3 = true) : kJ 44 82 [l0] (.int x :: .ref q :: st) (mi, ml, mr, nx) Q = kJ 44 85 [l0] st (kup mi q 7 x, ml, mr, nx) Q := kJ_next d44_82 (kg_puti 3 7 rfl h (by decide) (Or.inl (by decide)))
theorem d44_85 : decode (mB 44) 85 = .ok (.aload_n 0, 1) := by decide +kernel
theorem s44_85 {st : List Value} {x : Nat} {m : kMem} {Q : Option Value → kMem → Prop} : kJ 44 85 [some (.ref x)] st m Q = kJ 44 86 [some (.ref x)] (.ref x :: st) m Q := kJ_next d44_85 rfl
theorem d44_86 : decode (mB 44) 86 = .ok (.bipush 97, 2) := by decide +kernel
theorem s44_86 {l0 : Option Value} {st : List Value} {m : kMem} {Q : Option Value → kMem → Prop} : kJ 44 86 [l0] st m Q = kJ 44 88 [l0] (.int (nI 97) :: st) m Q := kJ_next d44_86 rfl
theorem d44_88 : decode (mB 44) 88 = .ok (.bipush 122, 2) := by decide +kernel
theorem s44_88 {l0 : Option Value} {st : List Value} {m : kMem} {Q : Option Value → kMem → Prop} : kJ 44 88 [l0] st m Q = kJ 44 90 [l0] (.int (nI 122) :: st) m Q := kJ_next d44_88 rfl
theorem d44_90 : decode (mB 44) 90 = .ok (.invokevirtual 132, 3) := by decide +kernel
theorem s44_90 {l0 : Option Value} {v0 : Int32} {v1 : Int32} {v2 : Nat} {m : kMem} {Q : Option Value → kMem → Prop} (h : kIs m.2.2.2 v2 3 = true) : kJ 44 90 [l0] [.int v0, .int v1, .ref v2] m Q = kJ 46 0 [some (.ref v2), some (.int v1), some (.int v0)] [] m (fun v m2 => kJ 44 93 [l0] (v.toList ++ []) m2 Q) := kJ_call d44_90 (kg_callv 46 2 rfl rfl rfl rfl (Nat.le_of_ble_eq_true rfl) (Nat.le_of_ble_eq_true rfl) (Nat.le_of_ble_eq_true rfl) h rfl)
theorem d44_93 : decode (mB 44) 93 = .ok (.goto 79, 3) := by decide +kernel
theorem s44_93 {l0 : Option Value} {st : List Value} {m : kMem} {Q : Option Value → kMem → Prop} : kJ 44 93 [l0] st m Q = kJ 44 172 [l0] st m Q := kJ_next d44_93 rfl
theorem d44_96 : decode (mB 44) 96 = .ok (.aload_n 0, 1) := by decide +kernel
theorem s44_96 {st : List Value} {x : Nat} {m : kMem} {Q : Option Value → kMem → Prop} : kJ 44 96 [some (.ref x)] st m Q = kJ 44 97 [some (.ref x)] (.ref x :: st) m Q := kJ_next d44_96 rfl
theorem d44_97 : decode (mB 44) 97 = .ok (.aload_n 0, 1) := by decide +kernel
theorem s44_97 {st : List Value} {x : Nat} {m : kMem} {Q : Option Value → kMem → Prop} : kJ 44 97 [some (.ref x)] st m Q = kJ 44 98 [some (.ref x)] (.ref x :: st) m Q := kJ_next d44_97 rfl
theorem d44_98 : decode (mB 44) 98 = .ok (.getfield 38, 3) := by decide +kernel
theorem s44_98 {l0 : Option Value} {st : List Value} {q : Nat} {mi : Nat → Nat → Int32} {ml : Nat → Nat → Int64} {mr : Nat → Nat → Option Nat} {nx : Nat} {Q : Option Value → kMem → Prop} (h : kIs nx q 3 = true) : kJ 44 98 [l0] (.ref q :: st) (mi, ml, mr, nx) Q = kJ 44 101 [l0] (.int (mi q 6) :: st) (mi, ml, mr, nx) Q := kJ_next d44_98 (kg_geti 3 6 rfl h (by decide))
theorem d44_101 : decode (mB 44) 101 = .ok (.bipush 48, 2) := by decide +kernel
theorem s44_101 {l0 : Option Value} {st : List Value} {m : kMem} {Q : Option Value → kMem → Prop} : kJ 44 101 [l0] st m Q = kJ 44 103 [l0] (.int (nI 48) :: st) m Q := kJ_next d44_101 rfl
theorem d44_103 : decode (mB 44) 103 = .ok (.bipush 57, 2) := by decide +kernel
theorem s44_103 {l0 : Option Value} {st : List Value} {m : kMem} {Q : Option Value → kMem → Prop} : kJ 44 103 [l0] st m Q = kJ 44 105 [l0] (.int (nI 57) :: st) m Q := kJ_next d44_103 rfl
theorem d44_105 : decode (mB 44) 105 = .ok (.invokevirtual 128, 3) := by decide +kernel
theorem s44_105 {l0 : Option Value} {v0 : Int32} {v1 : Int32} {v2 : Int32} {v3 : Nat} {m : kMem} {Q : Option Value → kMem → Prop} (h : kIs m.2.2.2 v3 3 = true) : kJ 44 105 [l0] [.int v0, .int v1, .int v2, .ref v3] m Q = kJ 45 0 [some (.ref v3), some (.int v2), some (.int v1), some (.int v0)] [] m (fun v m2 => kJ 44 108 [l0] (v.toList ++ []) m2 Q) := kJ_call d44_105 (kg_callv 45 3 rfl rfl rfl rfl (Nat.le_of_ble_eq_true rfl) (Nat.le_of_ble_eq_true rfl) (Nat.le_of_ble_eq_true rfl) h rfl)
theorem d44_108 : decode (mB 44) 108 = .ok (.ifCond .eq 23, 3) := by decide +kernel
theorem s44_108 {l0 : Option Value} {st : List Value} {a : Int32} {m : kMem} {Q : Option Value → kMem → Prop} : kJ 44 108 [l0] (.int a :: st) m Q = (if a = 0 then kJ 44 131 [l0] st m Q else kJ 44 111 [l0] st m Q) := kJ_if d44_108 rfl (fun h => kJ_next d44_108 h) (fun h => kJ_next d44_108 h)
theorem d44_111 : decode (mB 44) 111 = .ok (.aload_n 0, 1) := by decide +kernel
theorem s44_111 {st : List Value} {x : Nat} {m : kMem} {Q : Option Value → kMem → Prop} : kJ 44 111 [some (.ref x)] st m Q = kJ 44 112 [some (.ref x)] (.ref x :: st) m Q := kJ_next d44_111 rfl
theorem d44_112 : decode (mB 44) 112 = .ok (.iconst 2, 1) := by decide +kernel
theorem s44_112 {l0 : Option Value} {st : List Value} {m : kMem} {Q : Option Value → kMem → Prop} : kJ 44 112 [l0] st m Q = kJ 44 113 [l0] (.int (nI 2) :: st) m Q := kJ_next d44_112 rfl
theorem d44_113 : decode (mB 44) 113 = .ok (.putfield 48, 3) := by decide +kernel
theorem s44_113 {l0 : Option Value} {st : List Value} {q : Nat} {x : Int32} {mi : Nat → Nat → Int32} {ml : Nat → Nat → Int64} {mr : Nat → Nat → Option Nat} {nx : Nat} {Q : Option Value → kMem → Prop} (h : kIs nx q 3 = true) : kJ 44 113 [l0] (.int x :: .ref q :: st) (mi, ml, mr, nx) Q = kJ 44 116 [l0] st (kup mi q 7 x, ml, mr, nx) Q := kJ_next d44_113 (kg_puti 3 7 rfl h (by decide) (Or.inl (by decide)))
theorem d44_116 : decode (mB 44) 116 = .ok (.aload_n 0, 1) := by decide +kernel
theorem s44_116 {st : List Value} {x : Nat} {m : kMem} {Q : Option Value → kMem → Prop} : kJ 44 116 [some (.ref x)] st m Q = kJ 44 117 [some (.ref x)] (.ref x :: st) m Q := kJ_next d44_116 rfl
theorem d44_117 : decode (mB 44) 117 = .ok (.bipush 48, 2) := by decide +kernel
theorem s44_117 {l0 : Option Value} {st : List Value} {m : kMem} {Q : Option Value → kMem → Prop} : kJ 44 117 [l0] st m Q = kJ 44 119 [l0] (.int (nI 48) :: st) m Q := kJ_next d44_117 rfl
theorem d44_119 : decode (mB 44) 119 = .ok (.bipush 57, 2) := by decide +kernel
theorem s44_119 {l0 : Option Value} {st : List Value} {m : kMem} {Q : Option Value → kMem → Prop} : kJ 44 119 [l0] st m Q = kJ 44 121 [l0] (.int (nI 57) :: st) m Q := kJ_next d44_119 rfl
theorem d44_121 : decode (mB 44) 121 = .ok (.invokevirtual 132, 3) := by decide +kernel
theorem s44_121 {l0 : Option Value} {v0 : Int32} {v1 : Int32} {v2 : Nat} {m : kMem} {Q : Option Value → kMem → Prop} (h : kIs m.2.2.2 v2 3 = true) : kJ 44 121 [l0] [.int v0, .int v1, .ref v2] m Q = kJ 46 0 [some (.ref v2), some (.int v1), some (.int v0)] [] m (fun v m2 => kJ 44 124 [l0] (v.toList ++ []) m2 Q) := kJ_call d44_121 (kg_callv 46 2 rfl rfl rfl rfl (Nat.le_of_ble_eq_true rfl) (Nat.le_of_ble_eq_true rfl) (Nat.le_of_ble_eq_true rfl) h rfl)
theorem d44_124 : decode (mB 44) 124 = .ok (.aload_n 0, 1) := by decide +kernel
theorem s44_124 {st : List Value} {x : Nat} {m : kMem} {Q : Option Value → kMem → Prop} : kJ 44 124 [some (.ref x)] st m Q = kJ 44 125 [some (.ref x)] (.ref x :: st) m Q := kJ_next d44_124 rfl
theorem d44_125 : decode (mB 44) 125 = .ok (.invokevirtual 136, 3) := by decide +kernel
theorem s44_125 {l0 : Option Value} {v0 : Nat} {m : kMem} {Q : Option Value → kMem → Prop} (h : kIs m.2.2.2 v0 3 = true) : kJ 44 125 [l0] [.ref v0] m Q = kJ 47 0 [some (.ref v0), none] [] m (fun v m2 => kJ 44 128 [l0] (v.toList ++ []) m2 Q) := kJ_call d44_125 (kg_callv 47 0 rfl rfl rfl rfl (Nat.le_of_ble_eq_true rfl) (Nat.le_of_ble_eq_true rfl) (Nat.le_of_ble_eq_true rfl) h rfl)
theorem d44_128 : decode (mB 44) 128 = .ok (.goto 44, 3) := by decide +kernel
theorem s44_128 {l0 : Option Value} {st : List Value} {m : kMem} {Q : Option Value → kMem → Prop} : kJ 44 128 [l0] st m Q = kJ 44 172 [l0] st m Q := kJ_next d44_128 rfl
theorem d44_131 : decode (mB 44) 131 = .ok (.aload_n 0, 1) := by decide +kernel
theorem s44_131 {st : List Value} {x : Nat} {m : kMem} {Q : Option Value → kMem → Prop} : kJ 44 131 [some (.ref x)] st m Q = kJ 44 132 [some (.ref x)] (.ref x :: st) m Q := kJ_next d44_131 rfl
theorem d44_132 : decode (mB 44) 132 = .ok (.getfield 9, 3) := by decide +kernel
theorem s44_132 {l0 : Option Value} {st : List Value} {q : Nat} {mi : Nat → Nat → Int32} {ml : Nat → Nat → Int64} {mr : Nat → Nat → Option Nat} {nx : Nat} {Q : Option Value → kMem → Prop} (h : kIs nx q 3 = true) : kJ 44 132 [l0] (.ref q :: st) (mi, ml, mr, nx) Q = kJ 44 135 [l0] (va_rf (mr q 0) :: st) (mi, ml, mr, nx) Q := kJ_next d44_132 (kg_getr 3 0 rfl h (by decide))
theorem d44_135 : decode (mB 44) 135 = .ok (.aload_n 0, 1) := by decide +kernel
theorem s44_135 {st : List Value} {x : Nat} {m : kMem} {Q : Option Value → kMem → Prop} : kJ 44 135 [some (.ref x)] st m Q = kJ 44 136 [some (.ref x)] (.ref x :: st) m Q := kJ_next d44_135 rfl
theorem d44_136 : decode (mB 44) 136 = .ok (.getfield 38, 3) := by decide +kernel
theorem s44_136 {l0 : Option Value} {st : List Value} {q : Nat} {mi : Nat → Nat → Int32} {ml : Nat → Nat → Int64} {mr : Nat → Nat → Option Nat} {nx : Nat} {Q : Option Value → kMem → Prop} (h : kIs nx q 3 = true) : kJ 44 136 [l0] (.ref q :: st) (mi, ml, mr, nx) Q = kJ 44 139 [l0] (.int (mi q 6) :: st) (mi, ml, mr, nx) Q := kJ_next d44_136 (kg_geti 3 6 rfl h (by decide))
theorem d44_139 : decode (mB 44) 139 = .ok (.iaload, 1) := by decide +kernel
theorem s44_139 {l0 : Option Value} {st : List Value} {q : Nat} {i : Int32} {mi : Nat → Nat → Int32} {ml : Nat → Nat → Int64} {mr : Nat → Nat → Option Nat} {nx : Nat} {Q : Option Value → kMem → Prop} (h : kIs nx q 10 = true) : kJ 44 139 [l0] (.int i :: .ref q :: st) (mi, ml, mr, nx) Q = (vp_in i (kAl q) ∧ kJ 44 140 [l0] (.int (mi q i.toNatClampNeg) :: st) (mi, ml, mr, nx) Q) := kg_aldJ d44_139 rfl (kAr_of h)
theorem d44_140 : decode (mB 44) 140 = .ok (.bipush 59, 2) := by decide +kernel
theorem s44_140 {l0 : Option Value} {st : List Value} {m : kMem} {Q : Option Value → kMem → Prop} : kJ 44 140 [l0] st m Q = kJ 44 142 [l0] (.int (nI 59) :: st) m Q := kJ_next d44_140 rfl
theorem d44_142 : decode (mB 44) 142 = .ok (.if_icmp .ne 21, 3) := by decide +kernel
theorem s44_142 {l0 : Option Value} {st : List Value} {a b : Int32} {m : kMem} {Q : Option Value → kMem → Prop} : kJ 44 142 [l0] (.int b :: .int a :: st) m Q = (if a = b then kJ 44 145 [l0] st m Q else kJ 44 163 [l0] st m Q) := kJ_if d44_142 rfl (fun h => kJ_next d44_142 h) (fun h => kJ_next d44_142 h)
theorem d44_145 : decode (mB 44) 145 = .ok (.aload_n 0, 1) := by decide +kernel
theorem s44_145 {st : List Value} {x : Nat} {m : kMem} {Q : Option Value → kMem → Prop} : kJ 44 145 [some (.ref x)] st m Q = kJ 44 146 [some (.ref x)] (.ref x :: st) m Q := kJ_next d44_145 rfl
theorem d44_146 : decode (mB 44) 146 = .ok (.iconst 3, 1) := by decide +kernel
theorem s44_146 {l0 : Option Value} {st : List Value} {m : kMem} {Q : Option Value → kMem → Prop} : kJ 44 146 [l0] st m Q = kJ 44 147 [l0] (.int (nI 3) :: st) m Q := kJ_next d44_146 rfl
theorem d44_147 : decode (mB 44) 147 = .ok (.putfield 48, 3) := by decide +kernel
theorem s44_147 {l0 : Option Value} {st : List Value} {q : Nat} {x : Int32} {mi : Nat → Nat → Int32} {ml : Nat → Nat → Int64} {mr : Nat → Nat → Option Nat} {nx : Nat} {Q : Option Value → kMem → Prop} (h : kIs nx q 3 = true) : kJ 44 147 [l0] (.int x :: .ref q :: st) (mi, ml, mr, nx) Q = kJ 44 150 [l0] st (kup mi q 7 x, ml, mr, nx) Q := kJ_next d44_147 (kg_puti 3 7 rfl h (by decide) (Or.inl (by decide)))
theorem d44_150 : decode (mB 44) 150 = .ok (.aload_n 0, 1) := by decide +kernel
theorem s44_150 {st : List Value} {x : Nat} {m : kMem} {Q : Option Value → kMem → Prop} : kJ 44 150 [some (.ref x)] st m Q = kJ 44 151 [some (.ref x)] (.ref x :: st) m Q := kJ_next d44_150 rfl
theorem d44_151 : decode (mB 44) 151 = .ok (.dup, 1) := by decide +kernel
theorem s44_151 {l0 : Option Value} {st : List Value} {a : Nat} {m : kMem} {Q : Option Value → kMem → Prop} : kJ 44 151 [l0] (.ref a :: st) m Q = kJ 44 152 [l0] (.ref a :: .ref a :: st) m Q := kJ_next d44_151 rfl
theorem d44_152 : decode (mB 44) 152 = .ok (.getfield 38, 3) := by decide +kernel
theorem s44_152 {l0 : Option Value} {st : List Value} {q : Nat} {mi : Nat → Nat → Int32} {ml : Nat → Nat → Int64} {mr : Nat → Nat → Option Nat} {nx : Nat} {Q : Option Value → kMem → Prop} (h : kIs nx q 3 = true) : kJ 44 152 [l0] (.ref q :: st) (mi, ml, mr, nx) Q = kJ 44 155 [l0] (.int (mi q 6) :: st) (mi, ml, mr, nx) Q := kJ_next d44_152 (kg_geti 3 6 rfl h (by decide))
theorem d44_155 : decode (mB 44) 155 = .ok (.iconst 1, 1) := by decide +kernel
theorem s44_155 {l0 : Option Value} {st : List Value} {m : kMem} {Q : Option Value → kMem → Prop} : kJ 44 155 [l0] st m Q = kJ 44 156 [l0] (.int (nI 1) :: st) m Q := kJ_next d44_155 rfl
theorem d44_156 : decode (mB 44) 156 = .ok (.iadd, 1) := by decide +kernel
theorem s44_156 {l0 : Option Value} {st : List Value} {a b : Int32} {m : kMem} {Q : Option Value → kMem → Prop} : kJ 44 156 [l0] (.int b :: .int a :: st) m Q = kJ 44 157 [l0] (.int (a + b) :: st) m Q := kJ_next d44_156 rfl
theorem d44_157 : decode (mB 44) 157 = .ok (.putfield 38, 3) := by decide +kernel
theorem s44_157 {l0 : Option Value} {st : List Value} {q : Nat} {x : Int32} {mi : Nat → Nat → Int32} {ml : Nat → Nat → Int64} {mr : Nat → Nat → Option Nat} {nx : Nat} {Q : Option Value → kMem → Prop} (h : kIs nx q 3 = true) : kJ 44 157 [l0] (.int x :: .ref q :: st) (mi, ml, mr, nx) Q = kJ 44 160 [l0] st (kup mi q 6 x, ml, mr, nx) Q := kJ_next d44_157 (kg_puti 3 6 rfl h (by decide) (Or.inl (by decide)))
theorem d44_160 : decode (mB 44) 160 = .ok (.goto 12, 3) := by decide +kernel
theorem s44_160 {l0 : Option Value} {st : List Value} {m : kMem} {Q : Option Value → kMem → Prop} : kJ 44 160 [l0] st m Q = kJ 44 172 [l0] st m Q := kJ_next d44_160 rfl
theorem d44_163 : decode (mB 44) 163 = .ok (.aload_n 0, 1) := by decide +kernel
theorem s44_163 {st : List Value} {x : Nat} {m : kMem} {Q : Option Value → kMem → Prop} : kJ 44 163 [some (.ref x)] st m Q = kJ 44 164 [some (.ref x)] (.ref x :: st) m Q := kJ_next d44_163 rfl
theorem d44_164 : decode (mB 44) 164 = .ok (.iconst 1, 1) := by decide +kernel
theorem s44_164 {l0 : Option Value} {st : List Value} {m : kMem} {Q : Option Value → kMem → Prop} : kJ 44 164 [l0] st m Q = kJ 44 165 [l0] (.int (nI 1) :: st) m Q := kJ_next d44_164 rfl
theorem d44_165 : decode (mB 44) 165 = .ok (.aload_n 0, 1) := by decide +kernel
theorem s44_165 {st : List Value} {x : Nat} {m : kMem} {Q : Option Value → kMem → Prop} : kJ 44 165 [some (.ref x)] st m Q = kJ 44 166 [some (.ref x)] (.ref x :: st) m Q := kJ_next d44_165 rfl
theorem d44_166 : decode (mB 44) 166 = .ok (.getfield 69, 3) := by decide +kernel
theorem s44_166 {l0 : Option Value} {st : List Value} {q : Nat} {mi : Nat → Nat → Int32} {ml : Nat → Nat → Int64} {mr : Nat → Nat → Option Nat} {nx : Nat} {Q : Option Value → kMem → Prop} (h : kIs nx q 3 = true) : kJ 44 166 [l0] (.ref q :: st) (mi, ml, mr, nx) Q = kJ 44 169 [l0] (.int (mi q 8) :: st) (mi, ml, mr, nx) Q := kJ_next d44_166 (kg_geti 3 8 rfl h (by decide))
theorem d44_169 : decode (mB 44) 169 = .ok (.invokevirtual 72, 3) := by decide +kernel
theorem s44_169 {l0 : Option Value} {v0 : Int32} {v1 : Int32} {v2 : Nat} {m : kMem} {Q : Option Value → kMem → Prop} (h : kIs m.2.2.2 v2 3 = true) : kJ 44 169 [l0] [.int v0, .int v1, .ref v2] m Q = kJ 37 0 [some (.ref v2), some (.int v1), some (.int v0)] [] m (fun v m2 => kJ 44 172 [l0] (v.toList ++ []) m2 Q) := kJ_call d44_169 (kg_callv 37 2 rfl rfl rfl rfl (Nat.le_of_ble_eq_true rfl) (Nat.le_of_ble_eq_true rfl) (Nat.le_of_ble_eq_true rfl) h rfl)
theorem d44_172 : decode (mB 44) 172 = .ok (.return_, 1) := by decide +kernel
theorem s44_172 {l0 : Option Value} {m : kMem} {Q : Option Value → kMem → Prop} : kJ 44 172 [l0] [] m Q = Q none m := kJ_ret d44_172 rfl
theorem d45_0 : decode (mB 45) 0 = .ok (.aload_n 0, 1) := by decide +kernel
theorem s45_0 {l1 l2 l3 : Option Value} {st : List Value} {x : Nat} {m : kMem} {Q : Option Value → kMem → Prop} : kJ 45 0 [some (.ref x), l1, l2, l3] st m Q = kJ 45 1 [some (.ref x), l1, l2, l3] (.ref x :: st) m Q := kJ_next d45_0 rfl
theorem d45_1 : decode (mB 45) 1 = .ok (.getfield 9, 3) := by decide +kernel
theorem s45_1 {l0 l1 l2 l3 : Option Value} {st : List Value} {q : Nat} {mi : Nat → Nat → Int32} {ml : Nat → Nat → Int64} {mr : Nat → Nat → Option Nat} {nx : Nat} {Q : Option Value → kMem → Prop} (h : kIs nx q 3 = true) : kJ 45 1 [l0, l1, l2, l3] (.ref q :: st) (mi, ml, mr, nx) Q = kJ 45 4 [l0, l1, l2, l3] (va_rf (mr q 0) :: st) (mi, ml, mr, nx) Q := kJ_next d45_1 (kg_getr 3 0 rfl h (by decide))
theorem d45_4 : decode (mB 45) 4 = .ok (.iload_n 1, 1) := by decide +kernel
theorem s45_4 {l0 l2 l3 : Option Value} {st : List Value} {x : Int32} {m : kMem} {Q : Option Value → kMem → Prop} : kJ 45 4 [l0, some (.int x), l2, l3] st m Q = kJ 45 5 [l0, some (.int x), l2, l3] (.int x :: st) m Q := kJ_next d45_4 rfl
theorem d45_5 : decode (mB 45) 5 = .ok (.iaload, 1) := by decide +kernel
theorem s45_5 {l0 l1 l2 l3 : Option Value} {st : List Value} {q : Nat} {i : Int32} {mi : Nat → Nat → Int32} {ml : Nat → Nat → Int64} {mr : Nat → Nat → Option Nat} {nx : Nat} {Q : Option Value → kMem → Prop} (h : kIs nx q 10 = true) : kJ 45 5 [l0, l1, l2, l3] (.int i :: .ref q :: st) (mi, ml, mr, nx) Q = (vp_in i (kAl q) ∧ kJ 45 6 [l0, l1, l2, l3] (.int (mi q i.toNatClampNeg) :: st) (mi, ml, mr, nx) Q) := kg_aldJ d45_5 rfl (kAr_of h)
theorem d45_6 : decode (mB 45) 6 = .ok (.iload_n 2, 1) := by decide +kernel
theorem s45_6 {l0 l1 l3 : Option Value} {st : List Value} {x : Int32} {m : kMem} {Q : Option Value → kMem → Prop} : kJ 45 6 [l0, l1, some (.int x), l3] st m Q = kJ 45 7 [l0, l1, some (.int x), l3] (.int x :: st) m Q := kJ_next d45_6 rfl
theorem d45_7 : decode (mB 45) 7 = .ok (.iload_n 3, 1) := by decide +kernel
theorem s45_7 {l0 l1 l2 : Option Value} {st : List Value} {x : Int32} {m : kMem} {Q : Option Value → kMem → Prop} : kJ 45 7 [l0, l1, l2, some (.int x)] st m Q = kJ 45 8 [l0, l1, l2, some (.int x)] (.int x :: st) m Q := kJ_next d45_7 rfl
theorem d45_8 : decode (mB 45) 8 = .ok (.invokestatic 91, 3) := by decide +kernel
theorem s45_8 {l0 l1 l2 l3 : Option Value} {v0 : Int32} {v1 : Int32} {v2 : Int32} {m : kMem} {Q : Option Value → kMem → Prop} : kJ 45 8 [l0, l1, l2, l3] [.int v0, .int v1, .int v2] m Q = kJ 90 0 [some (.int v2), some (.int v1), some (.int v0)] [] m (fun v m2 => kJ 45 11 [l0, l1, l2, l3] (v.toList ++ []) m2 Q) := kJ_call d45_8 (kg_calls 90 3 rfl rfl (Nat.le_of_ble_eq_true rfl) (Nat.le_of_ble_eq_true rfl) (Nat.le_of_ble_eq_true rfl) (Nat.le_of_ble_eq_true rfl))
theorem d45_11 : decode (mB 45) 11 = .ok (.ireturn, 1) := by decide +kernel
theorem s45_11 {l0 l1 l2 l3 : Option Value} {x : Int32} {m : kMem} {Q : Option Value → kMem → Prop} (hx : x = 0 ∨ x = 1) : kJ 45 11 [l0, l1, l2, l3] [.int x] m Q = Q (some (.int x)) m := kJ_ret d45_11 (kg_retz (by decide) hx)
theorem d46_0 : decode (mB 46) 0 = .ok (.aload_n 0, 1) := by decide +kernel
theorem s46_0 {l1 l2 : Option Value} {st : List Value} {x : Nat} {m : kMem} {Q : Option Value → kMem → Prop} : kJ 46 0 [some (.ref x), l1, l2] st m Q = kJ 46 1 [some (.ref x), l1, l2] (.ref x :: st) m Q := kJ_next d46_0 rfl
theorem d46_1 : decode (mB 46) 1 = .ok (.getfield 38, 3) := by decide +kernel
theorem s46_1 {l0 l1 l2 : Option Value} {st : List Value} {q : Nat} {mi : Nat → Nat → Int32} {ml : Nat → Nat → Int64} {mr : Nat → Nat → Option Nat} {nx : Nat} {Q : Option Value → kMem → Prop} (h : kIs nx q 3 = true) : kJ 46 1 [l0, l1, l2] (.ref q :: st) (mi, ml, mr, nx) Q = kJ 46 4 [l0, l1, l2] (.int (mi q 6) :: st) (mi, ml, mr, nx) Q := kJ_next d46_1 (kg_geti 3 6 rfl h (by decide))
theorem d46_4 : decode (mB 46) 4 = .ok (.aload_n 0, 1) := by decide +kernel
theorem s46_4 {l1 l2 : Option Value} {st : List Value} {x : Nat} {m : kMem} {Q : Option Value → kMem → Prop} : kJ 46 4 [some (.ref x), l1, l2] st m Q = kJ 46 5 [some (.ref x), l1, l2] (.ref x :: st) m Q := kJ_next d46_4 rfl
theorem d46_5 : decode (mB 46) 5 = .ok (.getfield 119, 3) := by decide +kernel
theorem s46_5 {l0 l1 l2 : Option Value} {st : List Value} {q : Nat} {mi : Nat → Nat → Int32} {ml : Nat → Nat → Int64} {mr : Nat → Nat → Option Nat} {nx : Nat} {Q : Option Value → kMem → Prop} (h : kIs nx q 3 = true) : kJ 46 5 [l0, l1, l2] (.ref q :: st) (mi, ml, mr, nx) Q = kJ 46 8 [l0, l1, l2] (.int (mi q 1) :: st) (mi, ml, mr, nx) Q := kJ_next d46_5 (kg_geti 3 1 rfl h (by decide))
theorem d46_8 : decode (mB 46) 8 = .ok (.if_icmp .ge 29, 3) := by decide +kernel
theorem s46_8 {l0 l1 l2 : Option Value} {st : List Value} {a b : Int32} {m : kMem} {Q : Option Value → kMem → Prop} : kJ 46 8 [l0, l1, l2] (.int b :: .int a :: st) m Q = (if b ≤ a then kJ 46 37 [l0, l1, l2] st m Q else kJ 46 11 [l0, l1, l2] st m Q) := kJ_if d46_8 rfl (fun h => kJ_next d46_8 h) (fun h => kJ_next d46_8 h)
theorem d46_11 : decode (mB 46) 11 = .ok (.aload_n 0, 1) := by decide +kernel
theorem s46_11 {l1 l2 : Option Value} {st : List Value} {x : Nat} {m : kMem} {Q : Option Value → kMem → Prop} : kJ 46 11 [some (.ref x), l1, l2] st m Q = kJ 46 12 [some (.ref x), l1, l2] (.ref x :: st) m Q := kJ_next d46_11 rfl
theorem d46_12 : decode (mB 46) 12 = .ok (.aload_n 0, 1) := by decide +kernel
theorem s46_12 {l1 l2 : Option Value} {st : List Value} {x : Nat} {m : kMem} {Q : Option Value → kMem → Prop} : kJ 46 12 [some (.ref x), l1, l2] st m Q = kJ 46 13 [some (.ref x), l1, l2] (.ref x :: st) m Q := kJ_next d46_12 rfl
theorem d46_13 : decode (mB 46) 13 = .ok (.getfield 38, 3) := by decide +kernel
theorem s46_13 {l0 l1 l2 : Option Value} {st : List Value} {q : Nat} {mi : Nat → Nat → Int32} {ml : Nat → Nat → Int64} {mr : Nat → Nat → Option Nat} {nx : Nat} {Q : Option Value → kMem → Prop} (h : kIs nx q 3 = true) : kJ 46 13 [l0, l1, l2] (.ref q :: st) (mi, ml, mr, nx) Q = kJ 46 16 [l0, l1, l2] (.int (mi q 6) :: st) (mi, ml, mr, nx) Q := kJ_next d46_13 (kg_geti 3 6 rfl h (by decide))
theorem d46_16 : decode (mB 46) 16 = .ok (.iload_n 1, 1) := by decide +kernel
theorem s46_16 {l0 l2 : Option Value} {st : List Value} {x : Int32} {m : kMem} {Q : Option Value → kMem → Prop} : kJ 46 16 [l0, some (.int x), l2] st m Q = kJ 46 17 [l0, some (.int x), l2] (.int x :: st) m Q := kJ_next d46_16 rfl
theorem d46_17 : decode (mB 46) 17 = .ok (.iload_n 2, 1) := by decide +kernel
theorem s46_17 {l0 l1 : Option Value} {st : List Value} {x : Int32} {m : kMem} {Q : Option Value → kMem → Prop} : kJ 46 17 [l0, l1, some (.int x)] st m Q = kJ 46 18 [l0, l1, some (.int x)] (.int x :: st) m Q := kJ_next d46_17 rfl
theorem d46_18 : decode (mB 46) 18 = .ok (.invokevirtual 128, 3) := by decide +kernel
theorem s46_18 {l0 l1 l2 : Option Value} {v0 : Int32} {v1 : Int32} {v2 : Int32} {v3 : Nat} {m : kMem} {Q : Option Value → kMem → Prop} (h : kIs m.2.2.2 v3 3 = true) : kJ 46 18 [l0, l1, l2] [.int v0, .int v1, .int v2, .ref v3] m Q = kJ 45 0 [some (.ref v3), some (.int v2), some (.int v1), some (.int v0)] [] m (fun v m2 => kJ 46 21 [l0, l1, l2] (v.toList ++ []) m2 Q) := kJ_call d46_18 (kg_callv 45 3 rfl rfl rfl rfl (Nat.le_of_ble_eq_true rfl) (Nat.le_of_ble_eq_true rfl) (Nat.le_of_ble_eq_true rfl) h rfl)
theorem d46_21 : decode (mB 46) 21 = .ok (.ifCond .eq 16, 3) := by decide +kernel
theorem s46_21 {l0 l1 l2 : Option Value} {st : List Value} {a : Int32} {m : kMem} {Q : Option Value → kMem → Prop} : kJ 46 21 [l0, l1, l2] (.int a :: st) m Q = (if a = 0 then kJ 46 37 [l0, l1, l2] st m Q else kJ 46 24 [l0, l1, l2] st m Q) := kJ_if d46_21 rfl (fun h => kJ_next d46_21 h) (fun h => kJ_next d46_21 h)
theorem d46_24 : decode (mB 46) 24 = .ok (.aload_n 0, 1) := by decide +kernel
theorem s46_24 {l1 l2 : Option Value} {st : List Value} {x : Nat} {m : kMem} {Q : Option Value → kMem → Prop} : kJ 46 24 [some (.ref x), l1, l2] st m Q = kJ 46 25 [some (.ref x), l1, l2] (.ref x :: st) m Q := kJ_next d46_24 rfl
theorem d46_25 : decode (mB 46) 25 = .ok (.dup, 1) := by decide +kernel
theorem s46_25 {l0 l1 l2 : Option Value} {st : List Value} {a : Nat} {m : kMem} {Q : Option Value → kMem → Prop} : kJ 46 25 [l0, l1, l2] (.ref a :: st) m Q = kJ 46 26 [l0, l1, l2] (.ref a :: .ref a :: st) m Q := kJ_next d46_25 rfl
theorem d46_26 : decode (mB 46) 26 = .ok (.getfield 38, 3) := by decide +kernel
theorem s46_26 {l0 l1 l2 : Option Value} {st : List Value} {q : Nat} {mi : Nat → Nat → Int32} {ml : Nat → Nat → Int64} {mr : Nat → Nat → Option Nat} {nx : Nat} {Q : Option Value → kMem → Prop} (h : kIs nx q 3 = true) : kJ 46 26 [l0, l1, l2] (.ref q :: st) (mi, ml, mr, nx) Q = kJ 46 29 [l0, l1, l2] (.int (mi q 6) :: st) (mi, ml, mr, nx) Q := kJ_next d46_26 (kg_geti 3 6 rfl h (by decide))
theorem d46_29 : decode (mB 46) 29 = .ok (.iconst 1, 1) := by decide +kernel
theorem s46_29 {l0 l1 l2 : Option Value} {st : List Value} {m : kMem} {Q : Option Value → kMem → Prop} : kJ 46 29 [l0, l1, l2] st m Q = kJ 46 30 [l0, l1, l2] (.int (nI 1) :: st) m Q := kJ_next d46_29 rfl
theorem d46_30 : decode (mB 46) 30 = .ok (.iadd, 1) := by decide +kernel
theorem s46_30 {l0 l1 l2 : Option Value} {st : List Value} {a b : Int32} {m : kMem} {Q : Option Value → kMem → Prop} : kJ 46 30 [l0, l1, l2] (.int b :: .int a :: st) m Q = kJ 46 31 [l0, l1, l2] (.int (a + b) :: st) m Q := kJ_next d46_30 rfl
theorem d46_31 : decode (mB 46) 31 = .ok (.putfield 38, 3) := by decide +kernel
theorem s46_31 {l0 l1 l2 : Option Value} {st : List Value} {q : Nat} {x : Int32} {mi : Nat → Nat → Int32} {ml : Nat → Nat → Int64} {mr : Nat → Nat → Option Nat} {nx : Nat} {Q : Option Value → kMem → Prop} (h : kIs nx q 3 = true) : kJ 46 31 [l0, l1, l2] (.int x :: .ref q :: st) (mi, ml, mr, nx) Q = kJ 46 34 [l0, l1, l2] st (kup mi q 6 x, ml, mr, nx) Q := kJ_next d46_31 (kg_puti 3 6 rfl h (by decide) (Or.inl (by decide)))
theorem d46_34 : decode (mB 46) 34 = .ok (.goto (-34), 3) := by decide +kernel
theorem s46_34 {l0 l1 l2 : Option Value} {st : List Value} {m : kMem} {Q : Option Value → kMem → Prop} : kJ 46 34 [l0, l1, l2] st m Q = kJ 46 0 [l0, l1, l2] st m Q := kJ_next d46_34 rfl
theorem d46_37 : decode (mB 46) 37 = .ok (.return_, 1) := by decide +kernel
theorem s46_37 {l0 l1 l2 : Option Value} {m : kMem} {Q : Option Value → kMem → Prop} : kJ 46 37 [l0, l1, l2] [] m Q = Q none m := kJ_ret d46_37 rfl
theorem d47_0 : decode (mB 47) 0 = .ok (.aload_n 0, 1) := by decide +kernel
theorem s47_0 {l1 : Option Value} {st : List Value} {x : Nat} {m : kMem} {Q : Option Value → kMem → Prop} : kJ 47 0 [some (.ref x), l1] st m Q = kJ 47 1 [some (.ref x), l1] (.ref x :: st) m Q := kJ_next d47_0 rfl
theorem d47_1 : decode (mB 47) 1 = .ok (.getfield 38, 3) := by decide +kernel
theorem s47_1 {l0 l1 : Option Value} {st : List Value} {q : Nat} {mi : Nat → Nat → Int32} {ml : Nat → Nat → Int64} {mr : Nat → Nat → Option Nat} {nx : Nat} {Q : Option Value → kMem → Prop} (h : kIs nx q 3 = true) : kJ 47 1 [l0, l1] (.ref q :: st) (mi, ml, mr, nx) Q = kJ 47 4 [l0, l1] (.int (mi q 6) :: st) (mi, ml, mr, nx) Q := kJ_next d47_1 (kg_geti 3 6 rfl h (by decide))
theorem d47_4 : decode (mB 47) 4 = .ok (.aload_n 0, 1) := by decide +kernel
theorem s47_4 {l1 : Option Value} {st : List Value} {x : Nat} {m : kMem} {Q : Option Value → kMem → Prop} : kJ 47 4 [some (.ref x), l1] st m Q = kJ 47 5 [some (.ref x), l1] (.ref x :: st) m Q := kJ_next d47_4 rfl
theorem d47_5 : decode (mB 47) 5 = .ok (.getfield 69, 3) := by decide +kernel
theorem s47_5 {l0 l1 : Option Value} {st : List Value} {q : Nat} {mi : Nat → Nat → Int32} {ml : Nat → Nat → Int64} {mr : Nat → Nat → Option Nat} {nx : Nat} {Q : Option Value → kMem → Prop} (h : kIs nx q 3 = true) : kJ 47 5 [l0, l1] (.ref q :: st) (mi, ml, mr, nx) Q = kJ 47 8 [l0, l1] (.int (mi q 8) :: st) (mi, ml, mr, nx) Q := kJ_next d47_5 (kg_geti 3 8 rfl h (by decide))
theorem d47_8 : decode (mB 47) 8 = .ok (.isub, 1) := by decide +kernel
theorem s47_8 {l0 l1 : Option Value} {st : List Value} {a b : Int32} {m : kMem} {Q : Option Value → kMem → Prop} : kJ 47 8 [l0, l1] (.int b :: .int a :: st) m Q = kJ 47 9 [l0, l1] (.int (a - b) :: st) m Q := kJ_next d47_8 rfl
theorem d47_9 : decode (mB 47) 9 = .ok (.iconst 2, 1) := by decide +kernel
theorem s47_9 {l0 l1 : Option Value} {st : List Value} {m : kMem} {Q : Option Value → kMem → Prop} : kJ 47 9 [l0, l1] st m Q = kJ 47 10 [l0, l1] (.int (nI 2) :: st) m Q := kJ_next d47_9 rfl
theorem d47_10 : decode (mB 47) 10 = .ok (.if_icmp .le 13, 3) := by decide +kernel
theorem s47_10 {l0 l1 : Option Value} {st : List Value} {a b : Int32} {m : kMem} {Q : Option Value → kMem → Prop} : kJ 47 10 [l0, l1] (.int b :: .int a :: st) m Q = (if a ≤ b then kJ 47 23 [l0, l1] st m Q else kJ 47 13 [l0, l1] st m Q) := kJ_if d47_10 rfl (fun h => kJ_next d47_10 h) (fun h => kJ_next d47_10 h)
theorem d47_13 : decode (mB 47) 13 = .ok (.aload_n 0, 1) := by decide +kernel
theorem s47_13 {l1 : Option Value} {st : List Value} {x : Nat} {m : kMem} {Q : Option Value → kMem → Prop} : kJ 47 13 [some (.ref x), l1] st m Q = kJ 47 14 [some (.ref x), l1] (.ref x :: st) m Q := kJ_next d47_13 rfl
theorem d47_14 : decode (mB 47) 14 = .ok (.iconst 1, 1) := by decide +kernel
theorem s47_14 {l0 l1 : Option Value} {st : List Value} {m : kMem} {Q : Option Value → kMem → Prop} : kJ 47 14 [l0, l1] st m Q = kJ 47 15 [l0, l1] (.int (nI 1) :: st) m Q := kJ_next d47_14 rfl
theorem d47_15 : decode (mB 47) 15 = .ok (.aload_n 0, 1) := by decide +kernel
theorem s47_15 {l1 : Option Value} {st : List Value} {x : Nat} {m : kMem} {Q : Option Value → kMem → Prop} : kJ 47 15 [some (.ref x), l1] st m Q = kJ 47 16 [some (.ref x), l1] (.ref x :: st) m Q := kJ_next d47_15 rfl
theorem d47_16 : decode (mB 47) 16 = .ok (.getfield 69, 3) := by decide +kernel
theorem s47_16 {l0 l1 : Option Value} {st : List Value} {q : Nat} {mi : Nat → Nat → Int32} {ml : Nat → Nat → Int64} {mr : Nat → Nat → Option Nat} {nx : Nat} {Q : Option Value → kMem → Prop} (h : kIs nx q 3 = true) : kJ 47 16 [l0, l1] (.ref q :: st) (mi, ml, mr, nx) Q = kJ 47 19 [l0, l1] (.int (mi q 8) :: st) (mi, ml, mr, nx) Q := kJ_next d47_16 (kg_geti 3 8 rfl h (by decide))
theorem d47_19 : decode (mB 47) 19 = .ok (.invokevirtual 72, 3) := by decide +kernel
theorem s47_19 {l0 l1 : Option Value} {v0 : Int32} {v1 : Int32} {v2 : Nat} {m : kMem} {Q : Option Value → kMem → Prop} (h : kIs m.2.2.2 v2 3 = true) : kJ 47 19 [l0, l1] [.int v0, .int v1, .ref v2] m Q = kJ 37 0 [some (.ref v2), some (.int v1), some (.int v0)] [] m (fun v m2 => kJ 47 22 [l0, l1] (v.toList ++ []) m2 Q) := kJ_call d47_19 (kg_callv 37 2 rfl rfl rfl rfl (Nat.le_of_ble_eq_true rfl) (Nat.le_of_ble_eq_true rfl) (Nat.le_of_ble_eq_true rfl) h rfl)
theorem d47_22 : decode (mB 47) 22 = .ok (.return_, 1) := by decide +kernel
theorem s47_22 {l0 l1 : Option Value} {m : kMem} {Q : Option Value → kMem → Prop} : kJ 47 22 [l0, l1] [] m Q = Q none m := kJ_ret d47_22 rfl
theorem d47_23 : decode (mB 47) 23 = .ok (.aload_n 0, 1) := by decide +kernel
theorem s47_23 {l1 : Option Value} {st : List Value} {x : Nat} {m : kMem} {Q : Option Value → kMem → Prop} : kJ 47 23 [some (.ref x), l1] st m Q = kJ 47 24 [some (.ref x), l1] (.ref x :: st) m Q := kJ_next d47_23 rfl
theorem d47_24 : decode (mB 47) 24 = .ok (.iconst 0, 1) := by decide +kernel
theorem s47_24 {l0 l1 : Option Value} {st : List Value} {m : kMem} {Q : Option Value → kMem → Prop} : kJ 47 24 [l0, l1] st m Q = kJ 47 25 [l0, l1] (.int (nI 0) :: st) m Q := kJ_next d47_24 rfl
theorem d47_25 : decode (mB 47) 25 = .ok (.putfield 84, 3) := by decide +kernel
theorem s47_25 {l0 l1 : Option Value} {st : List Value} {q : Nat} {x : Int32} {mi : Nat → Nat → Int32} {ml : Nat → Nat → Int64} {mr : Nat → Nat → Option Nat} {nx : Nat} {Q : Option Value → kMem → Prop} (h : kIs nx q 3 = true) : kJ 47 25 [l0, l1] (.int x :: .ref q :: st) (mi, ml, mr, nx) Q = kJ 47 28 [l0, l1] st (kup mi q 9 x, ml, mr, nx) Q := kJ_next d47_25 (kg_puti 3 9 rfl h (by decide) (Or.inl (by decide)))
theorem d47_28 : decode (mB 47) 28 = .ok (.aload_n 0, 1) := by decide +kernel
theorem s47_28 {l1 : Option Value} {st : List Value} {x : Nat} {m : kMem} {Q : Option Value → kMem → Prop} : kJ 47 28 [some (.ref x), l1] st m Q = kJ 47 29 [some (.ref x), l1] (.ref x :: st) m Q := kJ_next d47_28 rfl
theorem d47_29 : decode (mB 47) 29 = .ok (.getfield 69, 3) := by decide +kernel
theorem s47_29 {l0 l1 : Option Value} {st : List Value} {q : Nat} {mi : Nat → Nat → Int32} {ml : Nat → Nat → Int64} {mr : Nat → Nat → Option Nat} {nx : Nat} {Q : Option Value → kMem → Prop} (h : kIs nx q 3 = true) : kJ 47 29 [l0, l1] (.ref q :: st) (mi, ml, mr, nx) Q = kJ 47 32 [l0, l1] (.int (mi q 8) :: st) (mi, ml, mr, nx) Q := kJ_next d47_29 (kg_geti 3 8 rfl h (by decide))
theorem d47_32 : decode (mB 47) 32 = .ok (.istore_n 1, 1) := by decide +kernel
theorem s47_32 {l0 l1 : Option Value} {st : List Value} {x : Int32} {m : kMem} {Q : Option Value → kMem → Prop} (hp : kNL l0 = true) : kJ 47 32 [l0, l1] (.int x :: st) m Q = kJ 47 33 [l0, some (.int x)] st m Q := kJ_next d47_32 (kg_sti (Nat.le_of_ble_eq_true rfl) hp)
theorem d47_33 : decode (mB 47) 33 = .ok (.iload_n 1, 1) := by decide +kernel
theorem s47_33 {l0 : Option Value} {st : List Value} {x : Int32} {m : kMem} {Q : Option Value → kMem → Prop} : kJ 47 33 [l0, some (.int x)] st m Q = kJ 47 34 [l0, some (.int x)] (.int x :: st) m Q := kJ_next d47_33 rfl
theorem d47_34 : decode (mB 47) 34 = .ok (.aload_n 0, 1) := by decide +kernel
theorem s47_34 {l1 : Option Value} {st : List Value} {x : Nat} {m : kMem} {Q : Option Value → kMem → Prop} : kJ 47 34 [some (.ref x), l1] st m Q = kJ 47 35 [some (.ref x), l1] (.ref x :: st) m Q := kJ_next d47_34 rfl
theorem d47_35 : decode (mB 47) 35 = .ok (.getfield 38, 3) := by decide +kernel
theorem s47_35 {l0 l1 : Option Value} {st : List Value} {q : Nat} {mi : Nat → Nat → Int32} {ml : Nat → Nat → Int64} {mr : Nat → Nat → Option Nat} {nx : Nat} {Q : Option Value → kMem → Prop} (h : kIs nx q 3 = true) : kJ 47 35 [l0, l1] (.ref q :: st) (mi, ml, mr, nx) Q = kJ 47 38 [l0, l1] (.int (mi q 6) :: st) (mi, ml, mr, nx) Q := kJ_next d47_35 (kg_geti 3 6 rfl h (by decide))
theorem d47_38 : decode (mB 47) 38 = .ok (.if_icmp .ge 30, 3) := by decide +kernel
theorem s47_38 {l0 l1 : Option Value} {st : List Value} {a b : Int32} {m : kMem} {Q : Option Value → kMem → Prop} : kJ 47 38 [l0, l1] (.int b :: .int a :: st) m Q = (if b ≤ a then kJ 47 68 [l0, l1] st m Q else kJ 47 41 [l0, l1] st m Q) := kJ_if d47_38 rfl (fun h => kJ_next d47_38 h) (fun h => kJ_next d47_38 h)
theorem d47_41 : decode (mB 47) 41 = .ok (.aload_n 0, 1) := by decide +kernel
theorem s47_41 {l1 : Option Value} {st : List Value} {x : Nat} {m : kMem} {Q : Option Value → kMem → Prop} : kJ 47 41 [some (.ref x), l1] st m Q = kJ 47 42 [some (.ref x), l1] (.ref x :: st) m Q := kJ_next d47_41 rfl
theorem d47_42 : decode (mB 47) 42 = .ok (.bipush 10, 2) := by decide +kernel
theorem s47_42 {l0 l1 : Option Value} {st : List Value} {m : kMem} {Q : Option Value → kMem → Prop} : kJ 47 42 [l0, l1] st m Q = kJ 47 44 [l0, l1] (.int (nI 10) :: st) m Q := kJ_next d47_42 rfl
theorem d47_44 : decode (mB 47) 44 = .ok (.aload_n 0, 1) := by decide +kernel
theorem s47_44 {l1 : Option Value} {st : List Value} {x : Nat} {m : kMem} {Q : Option Value → kMem → Prop} : kJ 47 44 [some (.ref x), l1] st m Q = kJ 47 45 [some (.ref x), l1] (.ref x :: st) m Q := kJ_next d47_44 rfl
theorem d47_45 : decode (mB 47) 45 = .ok (.getfield 84, 3) := by decide +kernel
theorem s47_45 {l0 l1 : Option Value} {st : List Value} {q : Nat} {mi : Nat → Nat → Int32} {ml : Nat → Nat → Int64} {mr : Nat → Nat → Option Nat} {nx : Nat} {Q : Option Value → kMem → Prop} (h : kIs nx q 3 = true) : kJ 47 45 [l0, l1] (.ref q :: st) (mi, ml, mr, nx) Q = kJ 47 48 [l0, l1] (.int (mi q 9) :: st) (mi, ml, mr, nx) Q := kJ_next d47_45 (kg_geti 3 9 rfl h (by decide))
theorem d47_48 : decode (mB 47) 48 = .ok (.imul, 1) := by decide +kernel
theorem s47_48 {l0 l1 : Option Value} {st : List Value} {a b : Int32} {m : kMem} {Q : Option Value → kMem → Prop} : kJ 47 48 [l0, l1] (.int b :: .int a :: st) m Q = kJ 47 49 [l0, l1] (.int (a * b) :: st) m Q := kJ_next d47_48 rfl
theorem d47_49 : decode (mB 47) 49 = .ok (.aload_n 0, 1) := by decide +kernel
theorem s47_49 {l1 : Option Value} {st : List Value} {x : Nat} {m : kMem} {Q : Option Value → kMem → Prop} : kJ 47 49 [some (.ref x), l1] st m Q = kJ 47 50 [some (.ref x), l1] (.ref x :: st) m Q := kJ_next d47_49 rfl
theorem d47_50 : decode (mB 47) 50 = .ok (.getfield 9, 3) := by decide +kernel
theorem s47_50 {l0 l1 : Option Value} {st : List Value} {q : Nat} {mi : Nat → Nat → Int32} {ml : Nat → Nat → Int64} {mr : Nat → Nat → Option Nat} {nx : Nat} {Q : Option Value → kMem → Prop} (h : kIs nx q 3 = true) : kJ 47 50 [l0, l1] (.ref q :: st) (mi, ml, mr, nx) Q = kJ 47 53 [l0, l1] (va_rf (mr q 0) :: st) (mi, ml, mr, nx) Q := kJ_next d47_50 (kg_getr 3 0 rfl h (by decide))
theorem d47_53 : decode (mB 47) 53 = .ok (.iload_n 1, 1) := by decide +kernel
theorem s47_53 {l0 : Option Value} {st : List Value} {x : Int32} {m : kMem} {Q : Option Value → kMem → Prop} : kJ 47 53 [l0, some (.int x)] st m Q = kJ 47 54 [l0, some (.int x)] (.int x :: st) m Q := kJ_next d47_53 rfl
theorem d47_54 : decode (mB 47) 54 = .ok (.iaload, 1) := by decide +kernel
theorem s47_54 {l0 l1 : Option Value} {st : List Value} {q : Nat} {i : Int32} {mi : Nat → Nat → Int32} {ml : Nat → Nat → Int64} {mr : Nat → Nat → Option Nat} {nx : Nat} {Q : Option Value → kMem → Prop} (h : kIs nx q 10 = true) : kJ 47 54 [l0, l1] (.int i :: .ref q :: st) (mi, ml, mr, nx) Q = (vp_in i (kAl q) ∧ kJ 47 55 [l0, l1] (.int (mi q i.toNatClampNeg) :: st) (mi, ml, mr, nx) Q) := kg_aldJ d47_54 rfl (kAr_of h)
theorem d47_55 : decode (mB 47) 55 = .ok (.iadd, 1) := by decide +kernel
theorem s47_55 {l0 l1 : Option Value} {st : List Value} {a b : Int32} {m : kMem} {Q : Option Value → kMem → Prop} : kJ 47 55 [l0, l1] (.int b :: .int a :: st) m Q = kJ 47 56 [l0, l1] (.int (a + b) :: st) m Q := kJ_next d47_55 rfl
theorem d47_56 : decode (mB 47) 56 = .ok (.bipush 48, 2) := by decide +kernel
theorem s47_56 {l0 l1 : Option Value} {st : List Value} {m : kMem} {Q : Option Value → kMem → Prop} : kJ 47 56 [l0, l1] st m Q = kJ 47 58 [l0, l1] (.int (nI 48) :: st) m Q := kJ_next d47_56 rfl
theorem d47_58 : decode (mB 47) 58 = .ok (.isub, 1) := by decide +kernel
theorem s47_58 {l0 l1 : Option Value} {st : List Value} {a b : Int32} {m : kMem} {Q : Option Value → kMem → Prop} : kJ 47 58 [l0, l1] (.int b :: .int a :: st) m Q = kJ 47 59 [l0, l1] (.int (a - b) :: st) m Q := kJ_next d47_58 rfl
theorem d47_59 : decode (mB 47) 59 = .ok (.putfield 84, 3) := by decide +kernel
theorem s47_59 {l0 l1 : Option Value} {st : List Value} {q : Nat} {x : Int32} {mi : Nat → Nat → Int32} {ml : Nat → Nat → Int64} {mr : Nat → Nat → Option Nat} {nx : Nat} {Q : Option Value → kMem → Prop} (h : kIs nx q 3 = true) : kJ 47 59 [l0, l1] (.int x :: .ref q :: st) (mi, ml, mr, nx) Q = kJ 47 62 [l0, l1] st (kup mi q 9 x, ml, mr, nx) Q := kJ_next d47_59 (kg_puti 3 9 rfl h (by decide) (Or.inl (by decide)))
theorem d47_62 : decode (mB 47) 62 = .ok (.iinc 1 1, 3) := by decide +kernel
theorem s47_62 {l0 : Option Value} {st : List Value} {x : Int32} {m : kMem} {Q : Option Value → kMem → Prop} (hp : kNL l0 = true) : kJ 47 62 [l0, some (.int x)] st m Q = kJ 47 65 [l0, some (.int (x + (nI 1)))] st m Q := kJ_next d47_62 (kg_inc rfl (Nat.le_of_ble_eq_true rfl) hp)
theorem d47_65 : decode (mB 47) 65 = .ok (.goto (-32), 3) := by decide +kernel
theorem s47_65 {l0 l1 : Option Value} {st : List Value} {m : kMem} {Q : Option Value → kMem → Prop} : kJ 47 65 [l0, l1] st m Q = kJ 47 33 [l0, l1] st m Q := kJ_next d47_65 rfl
theorem d47_68 : decode (mB 47) 68 = .ok (.return_, 1) := by decide +kernel
theorem s47_68 {l0 l1 : Option Value} {m : kMem} {Q : Option Value → kMem → Prop} : kJ 47 68 [l0, l1] [] m Q = Q none m := kJ_ret d47_68 rfl
theorem d48_0 : decode (mB 48) 0 = .ok (.iconst 0, 1) := by decide +kernel
theorem s48_0 {l0 l1 : Option Value} {st : List Value} {m : kMem} {Q : Option Value → kMem → Prop} : kJ 48 0 [l0, l1] st m Q = kJ 48 1 [l0, l1] (.int (nI 0) :: st) m Q := kJ_next d48_0 rfl
theorem d48_1 : decode (mB 48) 1 = .ok (.istore_n 1, 1) := by decide +kernel
theorem s48_1 {l0 l1 : Option Value} {st : List Value} {x : Int32} {m : kMem} {Q : Option Value → kMem → Prop} (hp : kNL l0 = true) : kJ 48 1 [l0, l1] (.int x :: st) m Q = kJ 48 2 [l0, some (.int x)] st m Q := kJ_next d48_1 (kg_sti (Nat.le_of_ble_eq_true rfl) hp)
theorem d48_2 : decode (mB 48) 2 = .ok (.iload_n 1, 1) := by decide +kernel
theorem s48_2 {l0 : Option Value} {st : List Value} {x : Int32} {m : kMem} {Q : Option Value → kMem → Prop} : kJ 48 2 [l0, some (.int x)] st m Q = kJ 48 3 [l0, some (.int x)] (.int x :: st) m Q := kJ_next d48_2 rfl
theorem d48_3 : decode (mB 48) 3 = .ok (.bipush 6, 2) := by decide +kernel
theorem s48_3 {l0 l1 : Option Value} {st : List Value} {m : kMem} {Q : Option Value → kMem → Prop} : kJ 48 3 [l0, l1] st m Q = kJ 48 5 [l0, l1] (.int (nI 6) :: st) m Q := kJ_next d48_3 rfl
theorem d48_5 : decode (mB 48) 5 = .ok (.if_icmp .ge 22, 3) := by decide +kernel
theorem s48_5 {l0 l1 : Option Value} {st : List Value} {a b : Int32} {m : kMem} {Q : Option Value → kMem → Prop} : kJ 48 5 [l0, l1] (.int b :: .int a :: st) m Q = (if b ≤ a then kJ 48 27 [l0, l1] st m Q else kJ 48 8 [l0, l1] st m Q) := kJ_if d48_5 rfl (fun h => kJ_next d48_5 h) (fun h => kJ_next d48_5 h)
theorem d48_8 : decode (mB 48) 8 = .ok (.aload_n 0, 1) := by decide +kernel
theorem s48_8 {l1 : Option Value} {st : List Value} {x : Nat} {m : kMem} {Q : Option Value → kMem → Prop} : kJ 48 8 [some (.ref x), l1] st m Q = kJ 48 9 [some (.ref x), l1] (.ref x :: st) m Q := kJ_next d48_8 rfl
theorem d48_9 : decode (mB 48) 9 = .ok (.iload_n 1, 1) := by decide +kernel
theorem s48_9 {l0 : Option Value} {st : List Value} {x : Int32} {m : kMem} {Q : Option Value → kMem → Prop} : kJ 48 9 [l0, some (.int x)] st m Q = kJ 48 10 [l0, some (.int x)] (.int x :: st) m Q := kJ_next d48_9 rfl
theorem d48_10 : decode (mB 48) 10 = .ok (.invokestatic 139, 3) := by decide +kernel
theorem s48_10 {l0 l1 : Option Value} {v0 : Int32} {v1 : Nat} {m : kMem} {Q : Option Value → kMem → Prop} : kJ 48 10 [l0, l1] [.int v0, .ref v1] m Q = kJ 49 0 [some (.int v0)] [] m (fun v m2 => kJ 48 13 [l0, l1] (v.toList ++ [.ref v1]) m2 Q) := kJ_call d48_10 (kg_calls 49 1 rfl rfl (Nat.le_of_ble_eq_true rfl) (Nat.le_of_ble_eq_true rfl) (Nat.le_of_ble_eq_true rfl) (Nat.le_of_ble_eq_true rfl))
theorem d48_13 : decode (mB 48) 13 = .ok (.invokevirtual 143, 3) := by decide +kernel
theorem s48_13 {l0 l1 : Option Value} {v0 : Nat} {v1 : Nat} {m : kMem} {Q : Option Value → kMem → Prop} (h : kIs m.2.2.2 v1 3 = true) : kJ 48 13 [l0, l1] [.ref v0, .ref v1] m Q = kJ 50 0 [some (.ref v1), some (.ref v0), none] [] m (fun v m2 => kJ 48 16 [l0, l1] (v.toList ++ []) m2 Q) := kJ_call d48_13 (kg_callv 50 1 rfl rfl rfl rfl (Nat.le_of_ble_eq_true rfl) (Nat.le_of_ble_eq_true rfl) (Nat.le_of_ble_eq_true rfl) h rfl)
theorem d48_16 : decode (mB 48) 16 = .ok (.ifCond .eq 5, 3) := by decide +kernel
theorem s48_16 {l0 l1 : Option Value} {st : List Value} {a : Int32} {m : kMem} {Q : Option Value → kMem → Prop} : kJ 48 16 [l0, l1] (.int a :: st) m Q = (if a = 0 then kJ 48 21 [l0, l1] st m Q else kJ 48 19 [l0, l1] st m Q) := kJ_if d48_16 rfl (fun h => kJ_next d48_16 h) (fun h => kJ_next d48_16 h)
theorem d48_19 : decode (mB 48) 19 = .ok (.iload_n 1, 1) := by decide +kernel
theorem s48_19 {l0 : Option Value} {st : List Value} {x : Int32} {m : kMem} {Q : Option Value → kMem → Prop} : kJ 48 19 [l0, some (.int x)] st m Q = kJ 48 20 [l0, some (.int x)] (.int x :: st) m Q := kJ_next d48_19 rfl
theorem d48_20 : decode (mB 48) 20 = .ok (.ireturn, 1) := by decide +kernel
theorem s48_20 {l0 l1 : Option Value} {x : Int32} {m : kMem} {Q : Option Value → kMem → Prop} : kJ 48 20 [l0, l1] [.int x] m Q = Q (some (.int x)) m := kJ_ret d48_20 rfl
theorem d48_21 : decode (mB 48) 21 = .ok (.iinc 1 1, 3) := by decide +kernel
theorem s48_21 {l0 : Option Value} {st : List Value} {x : Int32} {m : kMem} {Q : Option Value → kMem → Prop} (hp : kNL l0 = true) : kJ 48 21 [l0, some (.int x)] st m Q = kJ 48 24 [l0, some (.int (x + (nI 1)))] st m Q := kJ_next d48_21 (kg_inc rfl (Nat.le_of_ble_eq_true rfl) hp)
theorem d48_24 : decode (mB 48) 24 = .ok (.goto (-22), 3) := by decide +kernel
theorem s48_24 {l0 l1 : Option Value} {st : List Value} {m : kMem} {Q : Option Value → kMem → Prop} : kJ 48 24 [l0, l1] st m Q = kJ 48 2 [l0, l1] st m Q := kJ_next d48_24 rfl
theorem d48_27 : decode (mB 48) 27 = .ok (.bipush 6, 2) := by decide +kernel
theorem s48_27 {l0 l1 : Option Value} {st : List Value} {m : kMem} {Q : Option Value → kMem → Prop} : kJ 48 27 [l0, l1] st m Q = kJ 48 29 [l0, l1] (.int (nI 6) :: st) m Q := kJ_next d48_27 rfl
theorem d48_29 : decode (mB 48) 29 = .ok (.ireturn, 1) := by decide +kernel
theorem s48_29 {l0 l1 : Option Value} {x : Int32} {m : kMem} {Q : Option Value → kMem → Prop} : kJ 48 29 [l0, l1] [.int x] m Q = Q (some (.int x)) m := kJ_ret d48_29 rfl
theorem d49_0 : decode (mB 49) 0 = .ok (.iload_n 0, 1) := by decide +kernel
theorem s49_0 {st : List Value} {x : Int32} {m : kMem} {Q : Option Value → kMem → Prop} : kJ 49 0 [some (.int x)] st m Q = kJ 49 1 [some (.int x)] (.int x :: st) m Q := kJ_next d49_0 rfl
theorem d49_1 : decode (mB 49) 1 = .ok (.tableswitch 50 0 4 #[35, 38, 41, 44, 47], 35) := by decide +kernel
theorem s49_1 {l0 : Option Value} {st : List Value} {a : Int32} {m : kMem} {Q : Option Value → kMem → Prop} : kJ 49 1 [l0] (.int a :: st) m Q = (if a = (nI 0) then kJ 49 36 [l0] st m Q else if a = (nI 1) then kJ 49 39 [l0] st m Q else if a = (nI 2) then kJ 49 42 [l0] st m Q else if a = (nI 3) then kJ 49 45 [l0] st m Q else if a = (nI 4) then kJ 49 48 [l0] st m Q else kJ 49 51 [l0] st m Q) := by
  by_cases h0 : a = nI 0
  · subst h0; exact kJ_next d49_1 rfl
  rw [if_neg h0]
  by_cases h1 : a = nI 1
  · subst h1; exact kJ_next d49_1 rfl
  rw [if_neg h1]
  by_cases h2 : a = nI 2
  · subst h2; exact kJ_next d49_1 rfl
  rw [if_neg h2]
  by_cases h3 : a = nI 3
  · subst h3; exact kJ_next d49_1 rfl
  rw [if_neg h3]
  by_cases h4 : a = nI 4
  · subst h4; exact kJ_next d49_1 rfl
  rw [if_neg h4]
  have hz : ∀ j, j < 0 → a ≠ nI j := fun j hj => absurd hj (Nat.not_lt_zero j)
  refine kJ_next d49_1 (if_pos (c := a.toInt < 0 ∨ (4 : Int) < a.toInt) ?_)
  have hr := kg_rng (a := a) (n := 4) (by decide) (fun j hj => by
    rcases Nat.lt_or_ge j 0 with hl | hl
    · exact hz j hl
    · have hj2 : j = 0 ∨ j = 1 ∨ j = 2 ∨ j = 3 ∨ j = 4 := by omega
      rcases hj2 with rfl | rfl | rfl | rfl | rfl
      · exact h0
      · exact h1
      · exact h2
      · exact h3
      · exact h4
    )
  omega
theorem d49_36 : decode (mB 49) 36 = .ok (.ldc 147, 2) := by decide +kernel
theorem s49_36 {l0 : Option Value} {st : List Value} {m : kMem} {Q : Option Value → kMem → Prop} : kJ 49 36 [l0] st m Q = kJ 49 38 [l0] (.ref 1000 :: st) m Q := kJ_next d49_36 rfl
theorem d49_38 : decode (mB 49) 38 = .ok (.areturn, 1) := by decide +kernel
theorem s49_38 {l0 : Option Value} {x : Nat} {m : kMem} {Q : Option Value → kMem → Prop} : kJ 49 38 [l0] [.ref x] m Q = Q (some (.ref x)) m := kJ_ret d49_38 rfl
theorem d49_39 : decode (mB 49) 39 = .ok (.ldc 149, 2) := by decide +kernel
theorem s49_39 {l0 : Option Value} {st : List Value} {m : kMem} {Q : Option Value → kMem → Prop} : kJ 49 39 [l0] st m Q = kJ 49 41 [l0] (.ref 1001 :: st) m Q := kJ_next d49_39 rfl
theorem d49_41 : decode (mB 49) 41 = .ok (.areturn, 1) := by decide +kernel
theorem s49_41 {l0 : Option Value} {x : Nat} {m : kMem} {Q : Option Value → kMem → Prop} : kJ 49 41 [l0] [.ref x] m Q = Q (some (.ref x)) m := kJ_ret d49_41 rfl
theorem d49_42 : decode (mB 49) 42 = .ok (.ldc 151, 2) := by decide +kernel
theorem s49_42 {l0 : Option Value} {st : List Value} {m : kMem} {Q : Option Value → kMem → Prop} : kJ 49 42 [l0] st m Q = kJ 49 44 [l0] (.ref 1002 :: st) m Q := kJ_next d49_42 rfl
theorem d49_44 : decode (mB 49) 44 = .ok (.areturn, 1) := by decide +kernel
theorem s49_44 {l0 : Option Value} {x : Nat} {m : kMem} {Q : Option Value → kMem → Prop} : kJ 49 44 [l0] [.ref x] m Q = Q (some (.ref x)) m := kJ_ret d49_44 rfl
theorem d49_45 : decode (mB 49) 45 = .ok (.ldc 153, 2) := by decide +kernel
theorem s49_45 {l0 : Option Value} {st : List Value} {m : kMem} {Q : Option Value → kMem → Prop} : kJ 49 45 [l0] st m Q = kJ 49 47 [l0] (.ref 1003 :: st) m Q := kJ_next d49_45 rfl
theorem d49_47 : decode (mB 49) 47 = .ok (.areturn, 1) := by decide +kernel
theorem s49_47 {l0 : Option Value} {x : Nat} {m : kMem} {Q : Option Value → kMem → Prop} : kJ 49 47 [l0] [.ref x] m Q = Q (some (.ref x)) m := kJ_ret d49_47 rfl
theorem d49_48 : decode (mB 49) 48 = .ok (.ldc 155, 2) := by decide +kernel
theorem s49_48 {l0 : Option Value} {st : List Value} {m : kMem} {Q : Option Value → kMem → Prop} : kJ 49 48 [l0] st m Q = kJ 49 50 [l0] (.ref 1004 :: st) m Q := kJ_next d49_48 rfl
theorem d49_50 : decode (mB 49) 50 = .ok (.areturn, 1) := by decide +kernel
theorem s49_50 {l0 : Option Value} {x : Nat} {m : kMem} {Q : Option Value → kMem → Prop} : kJ 49 50 [l0] [.ref x] m Q = Q (some (.ref x)) m := kJ_ret d49_50 rfl
theorem d49_51 : decode (mB 49) 51 = .ok (.ldc 157, 2) := by decide +kernel
theorem s49_51 {l0 : Option Value} {st : List Value} {m : kMem} {Q : Option Value → kMem → Prop} : kJ 49 51 [l0] st m Q = kJ 49 53 [l0] (.ref 1005 :: st) m Q := kJ_next d49_51 rfl
theorem d49_53 : decode (mB 49) 53 = .ok (.areturn, 1) := by decide +kernel
theorem s49_53 {l0 : Option Value} {x : Nat} {m : kMem} {Q : Option Value → kMem → Prop} : kJ 49 53 [l0] [.ref x] m Q = Q (some (.ref x)) m := kJ_ret d49_53 rfl
theorem d50_0 : decode (mB 50) 0 = .ok (.aload_n 0, 1) := by decide +kernel
theorem s50_0 {l1 l2 : Option Value} {st : List Value} {x : Nat} {m : kMem} {Q : Option Value → kMem → Prop} : kJ 50 0 [some (.ref x), l1, l2] st m Q = kJ 50 1 [some (.ref x), l1, l2] (.ref x :: st) m Q := kJ_next d50_0 rfl
theorem d50_1 : decode (mB 50) 1 = .ok (.getfield 38, 3) := by decide +kernel
theorem s50_1 {l0 l1 l2 : Option Value} {st : List Value} {q : Nat} {mi : Nat → Nat → Int32} {ml : Nat → Nat → Int64} {mr : Nat → Nat → Option Nat} {nx : Nat} {Q : Option Value → kMem → Prop} (h : kIs nx q 3 = true) : kJ 50 1 [l0, l1, l2] (.ref q :: st) (mi, ml, mr, nx) Q = kJ 50 4 [l0, l1, l2] (.int (mi q 6) :: st) (mi, ml, mr, nx) Q := kJ_next d50_1 (kg_geti 3 6 rfl h (by decide))
theorem d50_4 : decode (mB 50) 4 = .ok (.aload_n 0, 1) := by decide +kernel
theorem s50_4 {l1 l2 : Option Value} {st : List Value} {x : Nat} {m : kMem} {Q : Option Value → kMem → Prop} : kJ 50 4 [some (.ref x), l1, l2] st m Q = kJ 50 5 [some (.ref x), l1, l2] (.ref x :: st) m Q := kJ_next d50_4 rfl
theorem d50_5 : decode (mB 50) 5 = .ok (.getfield 69, 3) := by decide +kernel
theorem s50_5 {l0 l1 l2 : Option Value} {st : List Value} {q : Nat} {mi : Nat → Nat → Int32} {ml : Nat → Nat → Int64} {mr : Nat → Nat → Option Nat} {nx : Nat} {Q : Option Value → kMem → Prop} (h : kIs nx q 3 = true) : kJ 50 5 [l0, l1, l2] (.ref q :: st) (mi, ml, mr, nx) Q = kJ 50 8 [l0, l1, l2] (.int (mi q 8) :: st) (mi, ml, mr, nx) Q := kJ_next d50_5 (kg_geti 3 8 rfl h (by decide))
theorem d50_8 : decode (mB 50) 8 = .ok (.isub, 1) := by decide +kernel
theorem s50_8 {l0 l1 l2 : Option Value} {st : List Value} {a b : Int32} {m : kMem} {Q : Option Value → kMem → Prop} : kJ 50 8 [l0, l1, l2] (.int b :: .int a :: st) m Q = kJ 50 9 [l0, l1, l2] (.int (a - b) :: st) m Q := kJ_next d50_8 rfl
theorem d50_9 : decode (mB 50) 9 = .ok (.aload_n 1, 1) := by decide +kernel
theorem s50_9 {l0 l2 : Option Value} {st : List Value} {x : Nat} {m : kMem} {Q : Option Value → kMem → Prop} : kJ 50 9 [l0, some (.ref x), l2] st m Q = kJ 50 10 [l0, some (.ref x), l2] (.ref x :: st) m Q := kJ_next d50_9 rfl
theorem d50_10 : decode (mB 50) 10 = .ok (.invokevirtual 159, 3) := by decide +kernel
theorem s50_10 {l0 l1 l2 : Option Value} {v0 : Int32} {q : Nat} {m : kMem} {Q : Option Value → kMem → Prop} (h : 1000 ≤ q ∧ q < 1006) : kJ 50 10 [l0, l1, l2] [.ref q, .int v0] m Q = kJ 50 13 [l0, l1, l2] [.int (nI (kTx (q - 1000)).length), .int v0] m Q := kJ_next d50_10 (kg_len rfl rfl h (Nat.le_of_ble_eq_true rfl))
theorem d50_13 : decode (mB 50) 13 = .ok (.if_icmp .eq 5, 3) := by decide +kernel
theorem s50_13 {l0 l1 l2 : Option Value} {st : List Value} {a b : Int32} {m : kMem} {Q : Option Value → kMem → Prop} : kJ 50 13 [l0, l1, l2] (.int b :: .int a :: st) m Q = (if a = b then kJ 50 18 [l0, l1, l2] st m Q else kJ 50 16 [l0, l1, l2] st m Q) := kJ_if d50_13 rfl (fun h => kJ_next d50_13 h) (fun h => kJ_next d50_13 h)
theorem d50_16 : decode (mB 50) 16 = .ok (.iconst 0, 1) := by decide +kernel
theorem s50_16 {l0 l1 l2 : Option Value} {st : List Value} {m : kMem} {Q : Option Value → kMem → Prop} : kJ 50 16 [l0, l1, l2] st m Q = kJ 50 17 [l0, l1, l2] (.int (nI 0) :: st) m Q := kJ_next d50_16 rfl
theorem d50_17 : decode (mB 50) 17 = .ok (.ireturn, 1) := by decide +kernel
theorem s50_17 {l0 l1 l2 : Option Value} {x : Int32} {m : kMem} {Q : Option Value → kMem → Prop} (hx : x = 0 ∨ x = 1) : kJ 50 17 [l0, l1, l2] [.int x] m Q = Q (some (.int x)) m := kJ_ret d50_17 (kg_retz (by decide) hx)
theorem d50_18 : decode (mB 50) 18 = .ok (.iconst 0, 1) := by decide +kernel
theorem s50_18 {l0 l1 l2 : Option Value} {st : List Value} {m : kMem} {Q : Option Value → kMem → Prop} : kJ 50 18 [l0, l1, l2] st m Q = kJ 50 19 [l0, l1, l2] (.int (nI 0) :: st) m Q := kJ_next d50_18 rfl
theorem d50_19 : decode (mB 50) 19 = .ok (.istore_n 2, 1) := by decide +kernel
theorem s50_19 {l0 l1 l2 : Option Value} {st : List Value} {x : Int32} {m : kMem} {Q : Option Value → kMem → Prop} (hp : kNL l1 = true) : kJ 50 19 [l0, l1, l2] (.int x :: st) m Q = kJ 50 20 [l0, l1, some (.int x)] st m Q := kJ_next d50_19 (kg_sti (Nat.le_of_ble_eq_true rfl) hp)
theorem d50_20 : decode (mB 50) 20 = .ok (.iload_n 2, 1) := by decide +kernel
theorem s50_20 {l0 l1 : Option Value} {st : List Value} {x : Int32} {m : kMem} {Q : Option Value → kMem → Prop} : kJ 50 20 [l0, l1, some (.int x)] st m Q = kJ 50 21 [l0, l1, some (.int x)] (.int x :: st) m Q := kJ_next d50_20 rfl
theorem d50_21 : decode (mB 50) 21 = .ok (.aload_n 1, 1) := by decide +kernel
theorem s50_21 {l0 l2 : Option Value} {st : List Value} {x : Nat} {m : kMem} {Q : Option Value → kMem → Prop} : kJ 50 21 [l0, some (.ref x), l2] st m Q = kJ 50 22 [l0, some (.ref x), l2] (.ref x :: st) m Q := kJ_next d50_21 rfl
theorem d50_22 : decode (mB 50) 22 = .ok (.invokevirtual 159, 3) := by decide +kernel
theorem s50_22 {l0 l1 l2 : Option Value} {v0 : Int32} {q : Nat} {m : kMem} {Q : Option Value → kMem → Prop} (h : 1000 ≤ q ∧ q < 1006) : kJ 50 22 [l0, l1, l2] [.ref q, .int v0] m Q = kJ 50 25 [l0, l1, l2] [.int (nI (kTx (q - 1000)).length), .int v0] m Q := kJ_next d50_22 (kg_len rfl rfl h (Nat.le_of_ble_eq_true rfl))
theorem d50_25 : decode (mB 50) 25 = .ok (.if_icmp .ge 30, 3) := by decide +kernel
theorem s50_25 {l0 l1 l2 : Option Value} {st : List Value} {a b : Int32} {m : kMem} {Q : Option Value → kMem → Prop} : kJ 50 25 [l0, l1, l2] (.int b :: .int a :: st) m Q = (if b ≤ a then kJ 50 55 [l0, l1, l2] st m Q else kJ 50 28 [l0, l1, l2] st m Q) := kJ_if d50_25 rfl (fun h => kJ_next d50_25 h) (fun h => kJ_next d50_25 h)
theorem d50_28 : decode (mB 50) 28 = .ok (.aload_n 0, 1) := by decide +kernel
theorem s50_28 {l1 l2 : Option Value} {st : List Value} {x : Nat} {m : kMem} {Q : Option Value → kMem → Prop} : kJ 50 28 [some (.ref x), l1, l2] st m Q = kJ 50 29 [some (.ref x), l1, l2] (.ref x :: st) m Q := kJ_next d50_28 rfl
theorem d50_29 : decode (mB 50) 29 = .ok (.getfield 9, 3) := by decide +kernel
theorem s50_29 {l0 l1 l2 : Option Value} {st : List Value} {q : Nat} {mi : Nat → Nat → Int32} {ml : Nat → Nat → Int64} {mr : Nat → Nat → Option Nat} {nx : Nat} {Q : Option Value → kMem → Prop} (h : kIs nx q 3 = true) : kJ 50 29 [l0, l1, l2] (.ref q :: st) (mi, ml, mr, nx) Q = kJ 50 32 [l0, l1, l2] (va_rf (mr q 0) :: st) (mi, ml, mr, nx) Q := kJ_next d50_29 (kg_getr 3 0 rfl h (by decide))
theorem d50_32 : decode (mB 50) 32 = .ok (.aload_n 0, 1) := by decide +kernel
theorem s50_32 {l1 l2 : Option Value} {st : List Value} {x : Nat} {m : kMem} {Q : Option Value → kMem → Prop} : kJ 50 32 [some (.ref x), l1, l2] st m Q = kJ 50 33 [some (.ref x), l1, l2] (.ref x :: st) m Q := kJ_next d50_32 rfl
theorem d50_33 : decode (mB 50) 33 = .ok (.getfield 69, 3) := by decide +kernel
theorem s50_33 {l0 l1 l2 : Option Value} {st : List Value} {q : Nat} {mi : Nat → Nat → Int32} {ml : Nat → Nat → Int64} {mr : Nat → Nat → Option Nat} {nx : Nat} {Q : Option Value → kMem → Prop} (h : kIs nx q 3 = true) : kJ 50 33 [l0, l1, l2] (.ref q :: st) (mi, ml, mr, nx) Q = kJ 50 36 [l0, l1, l2] (.int (mi q 8) :: st) (mi, ml, mr, nx) Q := kJ_next d50_33 (kg_geti 3 8 rfl h (by decide))
theorem d50_36 : decode (mB 50) 36 = .ok (.iload_n 2, 1) := by decide +kernel
theorem s50_36 {l0 l1 : Option Value} {st : List Value} {x : Int32} {m : kMem} {Q : Option Value → kMem → Prop} : kJ 50 36 [l0, l1, some (.int x)] st m Q = kJ 50 37 [l0, l1, some (.int x)] (.int x :: st) m Q := kJ_next d50_36 rfl
theorem d50_37 : decode (mB 50) 37 = .ok (.iadd, 1) := by decide +kernel
theorem s50_37 {l0 l1 l2 : Option Value} {st : List Value} {a b : Int32} {m : kMem} {Q : Option Value → kMem → Prop} : kJ 50 37 [l0, l1, l2] (.int b :: .int a :: st) m Q = kJ 50 38 [l0, l1, l2] (.int (a + b) :: st) m Q := kJ_next d50_37 rfl
theorem d50_38 : decode (mB 50) 38 = .ok (.iaload, 1) := by decide +kernel
theorem s50_38 {l0 l1 l2 : Option Value} {st : List Value} {q : Nat} {i : Int32} {mi : Nat → Nat → Int32} {ml : Nat → Nat → Int64} {mr : Nat → Nat → Option Nat} {nx : Nat} {Q : Option Value → kMem → Prop} (h : kIs nx q 10 = true) : kJ 50 38 [l0, l1, l2] (.int i :: .ref q :: st) (mi, ml, mr, nx) Q = (vp_in i (kAl q) ∧ kJ 50 39 [l0, l1, l2] (.int (mi q i.toNatClampNeg) :: st) (mi, ml, mr, nx) Q) := kg_aldJ d50_38 rfl (kAr_of h)
theorem d50_39 : decode (mB 50) 39 = .ok (.aload_n 1, 1) := by decide +kernel
theorem s50_39 {l0 l2 : Option Value} {st : List Value} {x : Nat} {m : kMem} {Q : Option Value → kMem → Prop} : kJ 50 39 [l0, some (.ref x), l2] st m Q = kJ 50 40 [l0, some (.ref x), l2] (.ref x :: st) m Q := kJ_next d50_39 rfl
theorem d50_40 : decode (mB 50) 40 = .ok (.iload_n 2, 1) := by decide +kernel
theorem s50_40 {l0 l1 : Option Value} {st : List Value} {x : Int32} {m : kMem} {Q : Option Value → kMem → Prop} : kJ 50 40 [l0, l1, some (.int x)] st m Q = kJ 50 41 [l0, l1, some (.int x)] (.int x :: st) m Q := kJ_next d50_40 rfl
theorem d50_41 : decode (mB 50) 41 = .ok (.invokevirtual 163, 3) := by decide +kernel
theorem s50_41 {l0 l1 l2 : Option Value} {v0 : Int32} {q : Nat} {i : Int32} {m : kMem} {Q : Option Value → kMem → Prop} (h : 1000 ≤ q ∧ q < 1006) (hi : vp_in i (kTx (q - 1000)).length) : kJ 50 41 [l0, l1, l2] [.int i, .ref q, .int v0] m Q = kJ 50 44 [l0, l1, l2] [.int ((kTx (q - 1000)).getD i.toNatClampNeg 0), .int v0] m Q := kJ_next d50_41 (kg_chr rfl rfl h hi (Nat.le_of_ble_eq_true rfl))
theorem d50_44 : decode (mB 50) 44 = .ok (.if_icmp .eq 5, 3) := by decide +kernel
theorem s50_44 {l0 l1 l2 : Option Value} {st : List Value} {a b : Int32} {m : kMem} {Q : Option Value → kMem → Prop} : kJ 50 44 [l0, l1, l2] (.int b :: .int a :: st) m Q = (if a = b then kJ 50 49 [l0, l1, l2] st m Q else kJ 50 47 [l0, l1, l2] st m Q) := kJ_if d50_44 rfl (fun h => kJ_next d50_44 h) (fun h => kJ_next d50_44 h)
theorem d50_47 : decode (mB 50) 47 = .ok (.iconst 0, 1) := by decide +kernel
theorem s50_47 {l0 l1 l2 : Option Value} {st : List Value} {m : kMem} {Q : Option Value → kMem → Prop} : kJ 50 47 [l0, l1, l2] st m Q = kJ 50 48 [l0, l1, l2] (.int (nI 0) :: st) m Q := kJ_next d50_47 rfl
theorem d50_48 : decode (mB 50) 48 = .ok (.ireturn, 1) := by decide +kernel
theorem s50_48 {l0 l1 l2 : Option Value} {x : Int32} {m : kMem} {Q : Option Value → kMem → Prop} (hx : x = 0 ∨ x = 1) : kJ 50 48 [l0, l1, l2] [.int x] m Q = Q (some (.int x)) m := kJ_ret d50_48 (kg_retz (by decide) hx)
theorem d50_49 : decode (mB 50) 49 = .ok (.iinc 2 1, 3) := by decide +kernel
theorem s50_49 {l0 l1 : Option Value} {st : List Value} {x : Int32} {m : kMem} {Q : Option Value → kMem → Prop} (hp : kNL l1 = true) : kJ 50 49 [l0, l1, some (.int x)] st m Q = kJ 50 52 [l0, l1, some (.int (x + (nI 1)))] st m Q := kJ_next d50_49 (kg_inc rfl (Nat.le_of_ble_eq_true rfl) hp)
theorem d50_52 : decode (mB 50) 52 = .ok (.goto (-32), 3) := by decide +kernel
theorem s50_52 {l0 l1 l2 : Option Value} {st : List Value} {m : kMem} {Q : Option Value → kMem → Prop} : kJ 50 52 [l0, l1, l2] st m Q = kJ 50 20 [l0, l1, l2] st m Q := kJ_next d50_52 rfl
theorem d50_55 : decode (mB 50) 55 = .ok (.iconst 1, 1) := by decide +kernel
theorem s50_55 {l0 l1 l2 : Option Value} {st : List Value} {m : kMem} {Q : Option Value → kMem → Prop} : kJ 50 55 [l0, l1, l2] st m Q = kJ 50 56 [l0, l1, l2] (.int (nI 1) :: st) m Q := kJ_next d50_55 rfl
theorem d50_56 : decode (mB 50) 56 = .ok (.ireturn, 1) := by decide +kernel
theorem s50_56 {l0 l1 l2 : Option Value} {x : Int32} {m : kMem} {Q : Option Value → kMem → Prop} (hx : x = 0 ∨ x = 1) : kJ 50 56 [l0, l1, l2] [.int x] m Q = Q (some (.int x)) m := kJ_ret d50_56 (kg_retz (by decide) hx)
