theorem d74_0 : decode (mB 74) 0 = .ok (.aload_n 0, 1) := by decide +kernel
theorem s74_0 {l1 l2 l3 l4 : Option Value} {st : List Value} {x : Nat} {m : kMem} {Q : Option Value → kMem → Prop} : kJ 74 0 [some (.ref x), l1, l2, l3, l4] st m Q = kJ 74 1 [some (.ref x), l1, l2, l3, l4] (.ref x :: st) m Q := kJ_next d74_0 rfl
theorem d74_1 : decode (mB 74) 1 = .ok (.getfield 10, 3) := by decide +kernel
theorem s74_1 {l0 l1 l2 l3 l4 : Option Value} {st : List Value} {q : Nat} {mi : Nat → Nat → Int32} {ml : Nat → Nat → Int64} {mr : Nat → Nat → Option Nat} {nx : Nat} {Q : Option Value → kMem → Prop} (h : kIs nx q 4 = true) : kJ 74 1 [l0, l1, l2, l3, l4] (.ref q :: st) (mi, ml, mr, nx) Q = kJ 74 4 [l0, l1, l2, l3, l4] (va_rf (mr q 0) :: st) (mi, ml, mr, nx) Q := kJ_next d74_1 (kg_getr 4 0 rfl h (by decide))
theorem d74_4 : decode (mB 74) 4 = .ok (.iload_n 1, 1) := by decide +kernel
theorem s74_4 {l0 l2 l3 l4 : Option Value} {st : List Value} {x : Int32} {m : kMem} {Q : Option Value → kMem → Prop} : kJ 74 4 [l0, some (.int x), l2, l3, l4] st m Q = kJ 74 5 [l0, some (.int x), l2, l3, l4] (.int x :: st) m Q := kJ_next d74_4 rfl
theorem d74_5 : decode (mB 74) 5 = .ok (.invokevirtual 108, 3) := by decide +kernel
theorem s74_5 {l0 l1 l2 l3 l4 : Option Value} {v0 : Int32} {v1 : Nat} {m : kMem} {Q : Option Value → kMem → Prop} (h : kIs m.2.2.2 v1 1 = true) : kJ 74 5 [l0, l1, l2, l3, l4] [.int v0, .ref v1] m Q = kJ 7 0 [some (.ref v1), some (.int v0)] [] m (fun v m2 => kJ 74 8 [l0, l1, l2, l3, l4] (v.toList ++ []) m2 Q) := kJ_call d74_5 (kg_callv 7 1 rfl rfl rfl rfl (Nat.le_of_ble_eq_true rfl) (Nat.le_of_ble_eq_true rfl) (Nat.le_of_ble_eq_true rfl) h rfl)
theorem d74_8 : decode (mB 74) 8 = .ok (.ifCond .eq 11, 3) := by decide +kernel
theorem s74_8 {l0 l1 l2 l3 l4 : Option Value} {st : List Value} {a : Int32} {m : kMem} {Q : Option Value → kMem → Prop} : kJ 74 8 [l0, l1, l2, l3, l4] (.int a :: st) m Q = (if a = 0 then kJ 74 19 [l0, l1, l2, l3, l4] st m Q else kJ 74 11 [l0, l1, l2, l3, l4] st m Q) := kJ_if d74_8 rfl (fun h => kJ_next d74_8 h) (fun h => kJ_next d74_8 h)
theorem d74_11 : decode (mB 74) 11 = .ok (.iload_n 2, 1) := by decide +kernel
theorem s74_11 {l0 l1 l3 l4 : Option Value} {st : List Value} {x : Int32} {m : kMem} {Q : Option Value → kMem → Prop} : kJ 74 11 [l0, l1, some (.int x), l3, l4] st m Q = kJ 74 12 [l0, l1, some (.int x), l3, l4] (.int x :: st) m Q := kJ_next d74_11 rfl
theorem d74_12 : decode (mB 74) 12 = .ok (.iload_n 3, 1) := by decide +kernel
theorem s74_12 {l0 l1 l2 l4 : Option Value} {st : List Value} {x : Int32} {m : kMem} {Q : Option Value → kMem → Prop} : kJ 74 12 [l0, l1, l2, some (.int x), l4] st m Q = kJ 74 13 [l0, l1, l2, some (.int x), l4] (.int x :: st) m Q := kJ_next d74_12 rfl
theorem d74_13 : decode (mB 74) 13 = .ok (.invokestatic 170, 3) := by decide +kernel
theorem s74_13 {l0 l1 l2 l3 l4 : Option Value} {v0 : Int32} {v1 : Int32} {m : kMem} {Q : Option Value → kMem → Prop} : kJ 74 13 [l0, l1, l2, l3, l4] [.int v0, .int v1] m Q = kJ 91 0 [some (.int v1), some (.int v0)] [] m (fun v m2 => kJ 74 16 [l0, l1, l2, l3, l4] (v.toList ++ []) m2 Q) := kJ_call d74_13 (kg_calls 91 2 rfl rfl (Nat.le_of_ble_eq_true rfl) (Nat.le_of_ble_eq_true rfl) (Nat.le_of_ble_eq_true rfl) (Nat.le_of_ble_eq_true rfl))
theorem d74_16 : decode (mB 74) 16 = .ok (.ifCond .ne 5, 3) := by decide +kernel
theorem s74_16 {l0 l1 l2 l3 l4 : Option Value} {st : List Value} {a : Int32} {m : kMem} {Q : Option Value → kMem → Prop} : kJ 74 16 [l0, l1, l2, l3, l4] (.int a :: st) m Q = (if a = 0 then kJ 74 19 [l0, l1, l2, l3, l4] st m Q else kJ 74 21 [l0, l1, l2, l3, l4] st m Q) := kJ_if d74_16 rfl (fun h => kJ_next d74_16 h) (fun h => kJ_next d74_16 h)
theorem d74_19 : decode (mB 74) 19 = .ok (.iconst (-1), 1) := by decide +kernel
theorem s74_19 {l0 l1 l2 l3 l4 : Option Value} {st : List Value} {m : kMem} {Q : Option Value → kMem → Prop} : kJ 74 19 [l0, l1, l2, l3, l4] st m Q = kJ 74 20 [l0, l1, l2, l3, l4] (.int (-1) :: st) m Q := kJ_next d74_19 rfl
theorem d74_20 : decode (mB 74) 20 = .ok (.ireturn, 1) := by decide +kernel
theorem s74_20 {l0 l1 l2 l3 l4 : Option Value} {x : Int32} {m : kMem} {Q : Option Value → kMem → Prop} : kJ 74 20 [l0, l1, l2, l3, l4] [.int x] m Q = Q (some (.int x)) m := kJ_ret d74_20 rfl
theorem d74_21 : decode (mB 74) 21 = .ok (.aload_n 0, 1) := by decide +kernel
theorem s74_21 {l1 l2 l3 l4 : Option Value} {st : List Value} {x : Nat} {m : kMem} {Q : Option Value → kMem → Prop} : kJ 74 21 [some (.ref x), l1, l2, l3, l4] st m Q = kJ 74 22 [some (.ref x), l1, l2, l3, l4] (.ref x :: st) m Q := kJ_next d74_21 rfl
theorem d74_22 : decode (mB 74) 22 = .ok (.getfield 22, 3) := by decide +kernel
theorem s74_22 {l0 l1 l2 l3 l4 : Option Value} {st : List Value} {q : Nat} {mi : Nat → Nat → Int32} {ml : Nat → Nat → Int64} {mr : Nat → Nat → Option Nat} {nx : Nat} {Q : Option Value → kMem → Prop} (h : kIs nx q 4 = true) : kJ 74 22 [l0, l1, l2, l3, l4] (.ref q :: st) (mi, ml, mr, nx) Q = kJ 74 25 [l0, l1, l2, l3, l4] (va_rf (mr q 2) :: st) (mi, ml, mr, nx) Q := kJ_next d74_22 (kg_getr 4 2 rfl h (by decide))
theorem d74_25 : decode (mB 74) 25 = .ok (.iconst (-1), 1) := by decide +kernel
theorem s74_25 {l0 l1 l2 l3 l4 : Option Value} {st : List Value} {m : kMem} {Q : Option Value → kMem → Prop} : kJ 74 25 [l0, l1, l2, l3, l4] st m Q = kJ 74 26 [l0, l1, l2, l3, l4] (.int (-1) :: st) m Q := kJ_next d74_25 rfl
theorem d74_26 : decode (mB 74) 26 = .ok (.invokevirtual 174, 3) := by decide +kernel
theorem s74_26 {l0 l1 l2 l3 l4 : Option Value} {v0 : Int32} {v1 : Nat} {m : kMem} {Q : Option Value → kMem → Prop} (h : kIs m.2.2.2 v1 0 = true) : kJ 74 26 [l0, l1, l2, l3, l4] [.int v0, .ref v1] m Q = kJ 1 0 [some (.ref v1), some (.int v0)] [] m (fun v m2 => kJ 74 29 [l0, l1, l2, l3, l4] (v.toList ++ []) m2 Q) := kJ_call d74_26 (kg_callv 1 1 rfl rfl rfl rfl (Nat.le_of_ble_eq_true rfl) (Nat.le_of_ble_eq_true rfl) (Nat.le_of_ble_eq_true rfl) h rfl)
theorem d74_29 : decode (mB 74) 29 = .ok (.iconst 0, 1) := by decide +kernel
theorem s74_29 {l0 l1 l2 l3 l4 : Option Value} {st : List Value} {m : kMem} {Q : Option Value → kMem → Prop} : kJ 74 29 [l0, l1, l2, l3, l4] st m Q = kJ 74 30 [l0, l1, l2, l3, l4] (.int (nI 0) :: st) m Q := kJ_next d74_29 rfl
theorem d74_30 : decode (mB 74) 30 = .ok (.istore 4, 2) := by decide +kernel
theorem s74_30 {l0 l1 l2 l3 l4 : Option Value} {st : List Value} {x : Int32} {m : kMem} {Q : Option Value → kMem → Prop} (hp : kNL l3 = true) : kJ 74 30 [l0, l1, l2, l3, l4] (.int x :: st) m Q = kJ 74 32 [l0, l1, l2, l3, some (.int x)] st m Q := kJ_next d74_30 (kg_sti (Nat.le_of_ble_eq_true rfl) hp)
theorem d74_32 : decode (mB 74) 32 = .ok (.iload 4, 2) := by decide +kernel
theorem s74_32 {l0 l1 l2 l3 : Option Value} {st : List Value} {x : Int32} {m : kMem} {Q : Option Value → kMem → Prop} : kJ 74 32 [l0, l1, l2, l3, some (.int x)] st m Q = kJ 74 34 [l0, l1, l2, l3, some (.int x)] (.int x :: st) m Q := kJ_next d74_32 rfl
theorem d74_34 : decode (mB 74) 34 = .ok (.iconst 4, 1) := by decide +kernel
theorem s74_34 {l0 l1 l2 l3 l4 : Option Value} {st : List Value} {m : kMem} {Q : Option Value → kMem → Prop} : kJ 74 34 [l0, l1, l2, l3, l4] st m Q = kJ 74 35 [l0, l1, l2, l3, l4] (.int (nI 4) :: st) m Q := kJ_next d74_34 rfl
theorem d74_35 : decode (mB 74) 35 = .ok (.if_icmp .ge 48, 3) := by decide +kernel
theorem s74_35 {l0 l1 l2 l3 l4 : Option Value} {st : List Value} {a b : Int32} {m : kMem} {Q : Option Value → kMem → Prop} : kJ 74 35 [l0, l1, l2, l3, l4] (.int b :: .int a :: st) m Q = (if b ≤ a then kJ 74 83 [l0, l1, l2, l3, l4] st m Q else kJ 74 38 [l0, l1, l2, l3, l4] st m Q) := kJ_if d74_35 rfl (fun h => kJ_next d74_35 h) (fun h => kJ_next d74_35 h)
theorem d74_38 : decode (mB 74) 38 = .ok (.aload_n 0, 1) := by decide +kernel
theorem s74_38 {l1 l2 l3 l4 : Option Value} {st : List Value} {x : Nat} {m : kMem} {Q : Option Value → kMem → Prop} : kJ 74 38 [some (.ref x), l1, l2, l3, l4] st m Q = kJ 74 39 [some (.ref x), l1, l2, l3, l4] (.ref x :: st) m Q := kJ_next d74_38 rfl
theorem d74_39 : decode (mB 74) 39 = .ok (.getfield 16, 3) := by decide +kernel
theorem s74_39 {l0 l1 l2 l3 l4 : Option Value} {st : List Value} {q : Nat} {mi : Nat → Nat → Int32} {ml : Nat → Nat → Int64} {mr : Nat → Nat → Option Nat} {nx : Nat} {Q : Option Value → kMem → Prop} (h : kIs nx q 4 = true) : kJ 74 39 [l0, l1, l2, l3, l4] (.ref q :: st) (mi, ml, mr, nx) Q = kJ 74 42 [l0, l1, l2, l3, l4] (va_rf (mr q 1) :: st) (mi, ml, mr, nx) Q := kJ_next d74_39 (kg_getr 4 1 rfl h (by decide))
theorem d74_42 : decode (mB 74) 42 = .ok (.aload_n 0, 1) := by decide +kernel
theorem s74_42 {l1 l2 l3 l4 : Option Value} {st : List Value} {x : Nat} {m : kMem} {Q : Option Value → kMem → Prop} : kJ 74 42 [some (.ref x), l1, l2, l3, l4] st m Q = kJ 74 43 [some (.ref x), l1, l2, l3, l4] (.ref x :: st) m Q := kJ_next d74_42 rfl
theorem d74_43 : decode (mB 74) 43 = .ok (.getfield 10, 3) := by decide +kernel
theorem s74_43 {l0 l1 l2 l3 l4 : Option Value} {st : List Value} {q : Nat} {mi : Nat → Nat → Int32} {ml : Nat → Nat → Int64} {mr : Nat → Nat → Option Nat} {nx : Nat} {Q : Option Value → kMem → Prop} (h : kIs nx q 4 = true) : kJ 74 43 [l0, l1, l2, l3, l4] (.ref q :: st) (mi, ml, mr, nx) Q = kJ 74 46 [l0, l1, l2, l3, l4] (va_rf (mr q 0) :: st) (mi, ml, mr, nx) Q := kJ_next d74_43 (kg_getr 4 0 rfl h (by decide))
theorem d74_46 : decode (mB 74) 46 = .ok (.invokevirtual 81, 3) := by decide +kernel
theorem s74_46 {l0 l1 l2 l3 l4 : Option Value} {v0 : Nat} {v1 : Nat} {m : kMem} {Q : Option Value → kMem → Prop} (h : kIs m.2.2.2 v1 1 = true) : kJ 74 46 [l0, l1, l2, l3, l4] [.ref v0, .ref v1] m Q = kJ 6 0 [some (.ref v1), some (.ref v0)] [] m (fun v m2 => kJ 74 49 [l0, l1, l2, l3, l4] (v.toList ++ []) m2 Q) := kJ_call d74_46 (kg_callv 6 1 rfl rfl rfl rfl (Nat.le_of_ble_eq_true rfl) (Nat.le_of_ble_eq_true rfl) (Nat.le_of_ble_eq_true rfl) h rfl)
theorem d74_49 : decode (mB 74) 49 = .ok (.aload_n 0, 1) := by decide +kernel
theorem s74_49 {l1 l2 l3 l4 : Option Value} {st : List Value} {x : Nat} {m : kMem} {Q : Option Value → kMem → Prop} : kJ 74 49 [some (.ref x), l1, l2, l3, l4] st m Q = kJ 74 50 [some (.ref x), l1, l2, l3, l4] (.ref x :: st) m Q := kJ_next d74_49 rfl
theorem d74_50 : decode (mB 74) 50 = .ok (.getfield 16, 3) := by decide +kernel
theorem s74_50 {l0 l1 l2 l3 l4 : Option Value} {st : List Value} {q : Nat} {mi : Nat → Nat → Int32} {ml : Nat → Nat → Int64} {mr : Nat → Nat → Option Nat} {nx : Nat} {Q : Option Value → kMem → Prop} (h : kIs nx q 4 = true) : kJ 74 50 [l0, l1, l2, l3, l4] (.ref q :: st) (mi, ml, mr, nx) Q = kJ 74 53 [l0, l1, l2, l3, l4] (va_rf (mr q 1) :: st) (mi, ml, mr, nx) Q := kJ_next d74_50 (kg_getr 4 1 rfl h (by decide))
theorem d74_53 : decode (mB 74) 53 = .ok (.getfield 112, 3) := by decide +kernel
theorem s74_53 {l0 l1 l2 l3 l4 : Option Value} {st : List Value} {q : Nat} {mi : Nat → Nat → Int32} {ml : Nat → Nat → Int64} {mr : Nat → Nat → Option Nat} {nx : Nat} {Q : Option Value → kMem → Prop} (h : kIs nx q 1 = true) : kJ 74 53 [l0, l1, l2, l3, l4] (.ref q :: st) (mi, ml, mr, nx) Q = kJ 74 56 [l0, l1, l2, l3, l4] (va_rf (mr q 1) :: st) (mi, ml, mr, nx) Q := kJ_next d74_53 (kg_getr 1 1 rfl h (by decide))
theorem d74_56 : decode (mB 74) 56 = .ok (.iload_n 1, 1) := by decide +kernel
theorem s74_56 {l0 l2 l3 l4 : Option Value} {st : List Value} {x : Int32} {m : kMem} {Q : Option Value → kMem → Prop} : kJ 74 56 [l0, some (.int x), l2, l3, l4] st m Q = kJ 74 57 [l0, some (.int x), l2, l3, l4] (.int x :: st) m Q := kJ_next d74_56 rfl
theorem d74_57 : decode (mB 74) 57 = .ok (.iload 4, 2) := by decide +kernel
theorem s74_57 {l0 l1 l2 l3 : Option Value} {st : List Value} {x : Int32} {m : kMem} {Q : Option Value → kMem → Prop} : kJ 74 57 [l0, l1, l2, l3, some (.int x)] st m Q = kJ 74 59 [l0, l1, l2, l3, some (.int x)] (.int x :: st) m Q := kJ_next d74_57 rfl
theorem d74_59 : decode (mB 74) 59 = .ok (.iastore, 1) := by decide +kernel
theorem s74_59 {l0 l1 l2 l3 l4 : Option Value} {st : List Value} {q : Nat} {i x : Int32} {mi : Nat → Nat → Int32} {ml : Nat → Nat → Int64} {mr : Nat → Nat → Option Nat} {nx : Nat} {Q : Option Value → kMem → Prop} (h : kIs nx q 10 = true) : kJ 74 59 [l0, l1, l2, l3, l4] (.int x :: .int i :: .ref q :: st) (mi, ml, mr, nx) Q = (vp_in i (kAl q) ∧ kJ 74 60 [l0, l1, l2, l3, l4] st (kup mi q i.toNatClampNeg x, ml, mr, nx) Q) := kg_astJ d74_59 rfl (kAr_of h)
theorem d74_60 : decode (mB 74) 60 = .ok (.aload_n 0, 1) := by decide +kernel
theorem s74_60 {l1 l2 l3 l4 : Option Value} {st : List Value} {x : Nat} {m : kMem} {Q : Option Value → kMem → Prop} : kJ 74 60 [some (.ref x), l1, l2, l3, l4] st m Q = kJ 74 61 [some (.ref x), l1, l2, l3, l4] (.ref x :: st) m Q := kJ_next d74_60 rfl
theorem d74_61 : decode (mB 74) 61 = .ok (.getfield 22, 3) := by decide +kernel
theorem s74_61 {l0 l1 l2 l3 l4 : Option Value} {st : List Value} {q : Nat} {mi : Nat → Nat → Int32} {ml : Nat → Nat → Int64} {mr : Nat → Nat → Option Nat} {nx : Nat} {Q : Option Value → kMem → Prop} (h : kIs nx q 4 = true) : kJ 74 61 [l0, l1, l2, l3, l4] (.ref q :: st) (mi, ml, mr, nx) Q = kJ 74 64 [l0, l1, l2, l3, l4] (va_rf (mr q 2) :: st) (mi, ml, mr, nx) Q := kJ_next d74_61 (kg_getr 4 2 rfl h (by decide))
theorem d74_64 : decode (mB 74) 64 = .ok (.iload 4, 2) := by decide +kernel
theorem s74_64 {l0 l1 l2 l3 : Option Value} {st : List Value} {x : Int32} {m : kMem} {Q : Option Value → kMem → Prop} : kJ 74 64 [l0, l1, l2, l3, some (.int x)] st m Q = kJ 74 66 [l0, l1, l2, l3, some (.int x)] (.int x :: st) m Q := kJ_next d74_64 rfl
theorem d74_66 : decode (mB 74) 66 = .ok (.aload_n 0, 1) := by decide +kernel
theorem s74_66 {l1 l2 l3 l4 : Option Value} {st : List Value} {x : Nat} {m : kMem} {Q : Option Value → kMem → Prop} : kJ 74 66 [some (.ref x), l1, l2, l3, l4] st m Q = kJ 74 67 [some (.ref x), l1, l2, l3, l4] (.ref x :: st) m Q := kJ_next d74_66 rfl
theorem d74_67 : decode (mB 74) 67 = .ok (.getfield 16, 3) := by decide +kernel
theorem s74_67 {l0 l1 l2 l3 l4 : Option Value} {st : List Value} {q : Nat} {mi : Nat → Nat → Int32} {ml : Nat → Nat → Int64} {mr : Nat → Nat → Option Nat} {nx : Nat} {Q : Option Value → kMem → Prop} (h : kIs nx q 4 = true) : kJ 74 67 [l0, l1, l2, l3, l4] (.ref q :: st) (mi, ml, mr, nx) Q = kJ 74 70 [l0, l1, l2, l3, l4] (va_rf (mr q 1) :: st) (mi, ml, mr, nx) Q := kJ_next d74_67 (kg_getr 4 1 rfl h (by decide))
theorem d74_70 : decode (mB 74) 70 = .ok (.iload_n 2, 1) := by decide +kernel
theorem s74_70 {l0 l1 l3 l4 : Option Value} {st : List Value} {x : Int32} {m : kMem} {Q : Option Value → kMem → Prop} : kJ 74 70 [l0, l1, some (.int x), l3, l4] st m Q = kJ 74 71 [l0, l1, some (.int x), l3, l4] (.int x :: st) m Q := kJ_next d74_70 rfl
theorem d74_71 : decode (mB 74) 71 = .ok (.invokevirtual 177, 3) := by decide +kernel
theorem s74_71 {l0 l1 l2 l3 l4 : Option Value} {v0 : Int32} {v1 : Nat} {v2 : Int32} {v3 : Nat} {m : kMem} {Q : Option Value → kMem → Prop} (h : kIs m.2.2.2 v1 1 = true) : kJ 74 71 [l0, l1, l2, l3, l4] [.int v0, .ref v1, .int v2, .ref v3] m Q = kJ 21 0 [some (.ref v1), some (.int v0)] [] m (fun v m2 => kJ 74 74 [l0, l1, l2, l3, l4] (v.toList ++ [.int v2, .ref v3]) m2 Q) := kJ_call d74_71 (kg_callv 21 1 rfl rfl rfl rfl (Nat.le_of_ble_eq_true rfl) (Nat.le_of_ble_eq_true rfl) (Nat.le_of_ble_eq_true rfl) h rfl)
theorem d74_74 : decode (mB 74) 74 = .ok (.invokevirtual 180, 3) := by decide +kernel
theorem s74_74 {l0 l1 l2 l3 l4 : Option Value} {v0 : Int32} {v1 : Int32} {v2 : Nat} {m : kMem} {Q : Option Value → kMem → Prop} (h : kIs m.2.2.2 v2 0 = true) : kJ 74 74 [l0, l1, l2, l3, l4] [.int v0, .int v1, .ref v2] m Q = kJ 2 0 [some (.ref v2), some (.int v1), some (.int v0)] [] m (fun v m2 => kJ 74 77 [l0, l1, l2, l3, l4] (v.toList ++ []) m2 Q) := kJ_call d74_74 (kg_callv 2 2 rfl rfl rfl rfl (Nat.le_of_ble_eq_true rfl) (Nat.le_of_ble_eq_true rfl) (Nat.le_of_ble_eq_true rfl) h rfl)
theorem d74_77 : decode (mB 74) 77 = .ok (.iinc 4 1, 3) := by decide +kernel
theorem s74_77 {l0 l1 l2 l3 : Option Value} {st : List Value} {x : Int32} {m : kMem} {Q : Option Value → kMem → Prop} (hp : kNL l3 = true) : kJ 74 77 [l0, l1, l2, l3, some (.int x)] st m Q = kJ 74 80 [l0, l1, l2, l3, some (.int (x + (nI 1)))] st m Q := kJ_next d74_77 (kg_inc rfl (Nat.le_of_ble_eq_true rfl) hp)
theorem d74_80 : decode (mB 74) 80 = .ok (.goto (-48), 3) := by decide +kernel
theorem s74_80 {l0 l1 l2 l3 l4 : Option Value} {st : List Value} {m : kMem} {Q : Option Value → kMem → Prop} : kJ 74 80 [l0, l1, l2, l3, l4] st m Q = kJ 74 32 [l0, l1, l2, l3, l4] st m Q := kJ_next d74_80 rfl
theorem d74_83 : decode (mB 74) 83 = .ok (.aload_n 0, 1) := by decide +kernel
theorem s74_83 {l1 l2 l3 l4 : Option Value} {st : List Value} {x : Nat} {m : kMem} {Q : Option Value → kMem → Prop} : kJ 74 83 [some (.ref x), l1, l2, l3, l4] st m Q = kJ 74 84 [some (.ref x), l1, l2, l3, l4] (.ref x :: st) m Q := kJ_next d74_83 rfl
theorem d74_84 : decode (mB 74) 84 = .ok (.getfield 22, 3) := by decide +kernel
theorem s74_84 {l0 l1 l2 l3 l4 : Option Value} {st : List Value} {q : Nat} {mi : Nat → Nat → Int32} {ml : Nat → Nat → Int64} {mr : Nat → Nat → Option Nat} {nx : Nat} {Q : Option Value → kMem → Prop} (h : kIs nx q 4 = true) : kJ 74 84 [l0, l1, l2, l3, l4] (.ref q :: st) (mi, ml, mr, nx) Q = kJ 74 87 [l0, l1, l2, l3, l4] (va_rf (mr q 2) :: st) (mi, ml, mr, nx) Q := kJ_next d74_84 (kg_getr 4 2 rfl h (by decide))
theorem d74_87 : decode (mB 74) 87 = .ok (.iload_n 3, 1) := by decide +kernel
theorem s74_87 {l0 l1 l2 l4 : Option Value} {st : List Value} {x : Int32} {m : kMem} {Q : Option Value → kMem → Prop} : kJ 74 87 [l0, l1, l2, some (.int x), l4] st m Q = kJ 74 88 [l0, l1, l2, some (.int x), l4] (.int x :: st) m Q := kJ_next d74_87 rfl
theorem d74_88 : decode (mB 74) 88 = .ok (.invokevirtual 184, 3) := by decide +kernel
theorem s74_88 {l0 l1 l2 l3 l4 : Option Value} {v0 : Int32} {v1 : Nat} {m : kMem} {Q : Option Value → kMem → Prop} (h : kIs m.2.2.2 v1 0 = true) : kJ 74 88 [l0, l1, l2, l3, l4] [.int v0, .ref v1] m Q = kJ 3 0 [some (.ref v1), some (.int v0)] [] m (fun v m2 => kJ 74 91 [l0, l1, l2, l3, l4] (v.toList ++ []) m2 Q) := kJ_call d74_88 (kg_callv 3 1 rfl rfl rfl rfl (Nat.le_of_ble_eq_true rfl) (Nat.le_of_ble_eq_true rfl) (Nat.le_of_ble_eq_true rfl) h rfl)
theorem d74_91 : decode (mB 74) 91 = .ok (.ireturn, 1) := by decide +kernel
theorem s74_91 {l0 l1 l2 l3 l4 : Option Value} {x : Int32} {m : kMem} {Q : Option Value → kMem → Prop} : kJ 74 91 [l0, l1, l2, l3, l4] [.int x] m Q = Q (some (.int x)) m := kJ_ret d74_91 rfl
theorem d75_0 : decode (mB 75) 0 = .ok (.aload_n 0, 1) := by decide +kernel
theorem s75_0 {l1 l2 l3 l4 l5 l6 l7 : Option Value} {st : List Value} {x : Nat} {m : kMem} {Q : Option Value → kMem → Prop} : kJ 75 0 [some (.ref x), l1, l2, l3, l4, l5, l6, l7] st m Q = kJ 75 1 [some (.ref x), l1, l2, l3, l4, l5, l6, l7] (.ref x :: st) m Q := kJ_next d75_0 rfl
theorem d75_1 : decode (mB 75) 1 = .ok (.getfield 10, 3) := by decide +kernel
theorem s75_1 {l0 l1 l2 l3 l4 l5 l6 l7 : Option Value} {st : List Value} {q : Nat} {mi : Nat → Nat → Int32} {ml : Nat → Nat → Int64} {mr : Nat → Nat → Option Nat} {nx : Nat} {Q : Option Value → kMem → Prop} (h : kIs nx q 4 = true) : kJ 75 1 [l0, l1, l2, l3, l4, l5, l6, l7] (.ref q :: st) (mi, ml, mr, nx) Q = kJ 75 4 [l0, l1, l2, l3, l4, l5, l6, l7] (va_rf (mr q 0) :: st) (mi, ml, mr, nx) Q := kJ_next d75_1 (kg_getr 4 0 rfl h (by decide))
theorem d75_4 : decode (mB 75) 4 = .ok (.iload_n 2, 1) := by decide +kernel
theorem s75_4 {l0 l1 l3 l4 l5 l6 l7 : Option Value} {st : List Value} {x : Int32} {m : kMem} {Q : Option Value → kMem → Prop} : kJ 75 4 [l0, l1, some (.int x), l3, l4, l5, l6, l7] st m Q = kJ 75 5 [l0, l1, some (.int x), l3, l4, l5, l6, l7] (.int x :: st) m Q := kJ_next d75_4 rfl
theorem d75_5 : decode (mB 75) 5 = .ok (.invokevirtual 124, 3) := by decide +kernel
theorem s75_5 {l0 l1 l2 l3 l4 l5 l6 l7 : Option Value} {v0 : Int32} {v1 : Nat} {m : kMem} {Q : Option Value → kMem → Prop} (h : kIs m.2.2.2 v1 1 = true) : kJ 75 5 [l0, l1, l2, l3, l4, l5, l6, l7] [.int v0, .ref v1] m Q = kJ 8 0 [some (.ref v1), some (.int v0)] [] m (fun v m2 => kJ 75 8 [l0, l1, l2, l3, l4, l5, l6, l7] (v.toList ++ []) m2 Q) := kJ_call d75_5 (kg_callv 8 1 rfl rfl rfl rfl (Nat.le_of_ble_eq_true rfl) (Nat.le_of_ble_eq_true rfl) (Nat.le_of_ble_eq_true rfl) h rfl)
theorem d75_8 : decode (mB 75) 8 = .ok (.ifCond .eq 13, 3) := by decide +kernel
theorem s75_8 {l0 l1 l2 l3 l4 l5 l6 l7 : Option Value} {st : List Value} {a : Int32} {m : kMem} {Q : Option Value → kMem → Prop} : kJ 75 8 [l0, l1, l2, l3, l4, l5, l6, l7] (.int a :: st) m Q = (if a = 0 then kJ 75 21 [l0, l1, l2, l3, l4, l5, l6, l7] st m Q else kJ 75 11 [l0, l1, l2, l3, l4, l5, l6, l7] st m Q) := kJ_if d75_8 rfl (fun h => kJ_next d75_8 h) (fun h => kJ_next d75_8 h)
theorem d75_11 : decode (mB 75) 11 = .ok (.iload_n 1, 1) := by decide +kernel
theorem s75_11 {l0 l2 l3 l4 l5 l6 l7 : Option Value} {st : List Value} {x : Int32} {m : kMem} {Q : Option Value → kMem → Prop} : kJ 75 11 [l0, some (.int x), l2, l3, l4, l5, l6, l7] st m Q = kJ 75 12 [l0, some (.int x), l2, l3, l4, l5, l6, l7] (.int x :: st) m Q := kJ_next d75_11 rfl
theorem d75_12 : decode (mB 75) 12 = .ok (.iload_n 3, 1) := by decide +kernel
theorem s75_12 {l0 l1 l2 l4 l5 l6 l7 : Option Value} {st : List Value} {x : Int32} {m : kMem} {Q : Option Value → kMem → Prop} : kJ 75 12 [l0, l1, l2, some (.int x), l4, l5, l6, l7] st m Q = kJ 75 13 [l0, l1, l2, some (.int x), l4, l5, l6, l7] (.int x :: st) m Q := kJ_next d75_12 rfl
theorem d75_13 : decode (mB 75) 13 = .ok (.iload 4, 2) := by decide +kernel
theorem s75_13 {l0 l1 l2 l3 l5 l6 l7 : Option Value} {st : List Value} {x : Int32} {m : kMem} {Q : Option Value → kMem → Prop} : kJ 75 13 [l0, l1, l2, l3, some (.int x), l5, l6, l7] st m Q = kJ 75 15 [l0, l1, l2, l3, some (.int x), l5, l6, l7] (.int x :: st) m Q := kJ_next d75_13 rfl
theorem d75_15 : decode (mB 75) 15 = .ok (.invokestatic 189, 3) := by decide +kernel
theorem s75_15 {l0 l1 l2 l3 l4 l5 l6 l7 : Option Value} {v0 : Int32} {v1 : Int32} {v2 : Int32} {m : kMem} {Q : Option Value → kMem → Prop} : kJ 75 15 [l0, l1, l2, l3, l4, l5, l6, l7] [.int v0, .int v1, .int v2] m Q = kJ 92 0 [some (.int v2), some (.int v1), some (.int v0)] [] m (fun v m2 => kJ 75 18 [l0, l1, l2, l3, l4, l5, l6, l7] (v.toList ++ []) m2 Q) := kJ_call d75_15 (kg_calls 92 3 rfl rfl (Nat.le_of_ble_eq_true rfl) (Nat.le_of_ble_eq_true rfl) (Nat.le_of_ble_eq_true rfl) (Nat.le_of_ble_eq_true rfl))
theorem d75_18 : decode (mB 75) 18 = .ok (.ifCond .ne 7, 3) := by decide +kernel
theorem s75_18 {l0 l1 l2 l3 l4 l5 l6 l7 : Option Value} {st : List Value} {a : Int32} {m : kMem} {Q : Option Value → kMem → Prop} : kJ 75 18 [l0, l1, l2, l3, l4, l5, l6, l7] (.int a :: st) m Q = (if a = 0 then kJ 75 21 [l0, l1, l2, l3, l4, l5, l6, l7] st m Q else kJ 75 25 [l0, l1, l2, l3, l4, l5, l6, l7] st m Q) := kJ_if d75_18 rfl (fun h => kJ_next d75_18 h) (fun h => kJ_next d75_18 h)
theorem d75_21 : decode (mB 75) 21 = .ok (.ldc2_w 192, 3) := by decide +kernel
theorem s75_21 {l0 l1 l2 l3 l4 l5 l6 l7 : Option Value} {st : List Value} {m : kMem} {Q : Option Value → kMem → Prop} : kJ 75 21 [l0, l1, l2, l3, l4, l5, l6, l7] st m Q = kJ 75 24 [l0, l1, l2, l3, l4, l5, l6, l7] (.long (-1) :: st) m Q := kJ_next d75_21 rfl
theorem d75_24 : decode (mB 75) 24 = .ok (.lreturn, 1) := by decide +kernel
theorem s75_24 {l0 l1 l2 l3 l4 l5 l6 l7 : Option Value} {x : Int64} {m : kMem} {Q : Option Value → kMem → Prop} : kJ 75 24 [l0, l1, l2, l3, l4, l5, l6, l7] [.long x] m Q = Q (some (.long x)) m := kJ_ret d75_24 rfl
theorem d75_25 : decode (mB 75) 25 = .ok (.aload_n 0, 1) := by decide +kernel
theorem s75_25 {l1 l2 l3 l4 l5 l6 l7 : Option Value} {st : List Value} {x : Nat} {m : kMem} {Q : Option Value → kMem → Prop} : kJ 75 25 [some (.ref x), l1, l2, l3, l4, l5, l6, l7] st m Q = kJ 75 26 [some (.ref x), l1, l2, l3, l4, l5, l6, l7] (.ref x :: st) m Q := kJ_next d75_25 rfl
theorem d75_26 : decode (mB 75) 26 = .ok (.getfield 16, 3) := by decide +kernel
theorem s75_26 {l0 l1 l2 l3 l4 l5 l6 l7 : Option Value} {st : List Value} {q : Nat} {mi : Nat → Nat → Int32} {ml : Nat → Nat → Int64} {mr : Nat → Nat → Option Nat} {nx : Nat} {Q : Option Value → kMem → Prop} (h : kIs nx q 4 = true) : kJ 75 26 [l0, l1, l2, l3, l4, l5, l6, l7] (.ref q :: st) (mi, ml, mr, nx) Q = kJ 75 29 [l0, l1, l2, l3, l4, l5, l6, l7] (va_rf (mr q 1) :: st) (mi, ml, mr, nx) Q := kJ_next d75_26 (kg_getr 4 1 rfl h (by decide))
theorem d75_29 : decode (mB 75) 29 = .ok (.aload_n 0, 1) := by decide +kernel
theorem s75_29 {l1 l2 l3 l4 l5 l6 l7 : Option Value} {st : List Value} {x : Nat} {m : kMem} {Q : Option Value → kMem → Prop} : kJ 75 29 [some (.ref x), l1, l2, l3, l4, l5, l6, l7] st m Q = kJ 75 30 [some (.ref x), l1, l2, l3, l4, l5, l6, l7] (.ref x :: st) m Q := kJ_next d75_29 rfl
theorem d75_30 : decode (mB 75) 30 = .ok (.getfield 10, 3) := by decide +kernel
theorem s75_30 {l0 l1 l2 l3 l4 l5 l6 l7 : Option Value} {st : List Value} {q : Nat} {mi : Nat → Nat → Int32} {ml : Nat → Nat → Int64} {mr : Nat → Nat → Option Nat} {nx : Nat} {Q : Option Value → kMem → Prop} (h : kIs nx q 4 = true) : kJ 75 30 [l0, l1, l2, l3, l4, l5, l6, l7] (.ref q :: st) (mi, ml, mr, nx) Q = kJ 75 33 [l0, l1, l2, l3, l4, l5, l6, l7] (va_rf (mr q 0) :: st) (mi, ml, mr, nx) Q := kJ_next d75_30 (kg_getr 4 0 rfl h (by decide))
theorem d75_33 : decode (mB 75) 33 = .ok (.invokevirtual 81, 3) := by decide +kernel
theorem s75_33 {l0 l1 l2 l3 l4 l5 l6 l7 : Option Value} {v0 : Nat} {v1 : Nat} {m : kMem} {Q : Option Value → kMem → Prop} (h : kIs m.2.2.2 v1 1 = true) : kJ 75 33 [l0, l1, l2, l3, l4, l5, l6, l7] [.ref v0, .ref v1] m Q = kJ 6 0 [some (.ref v1), some (.ref v0)] [] m (fun v m2 => kJ 75 36 [l0, l1, l2, l3, l4, l5, l6, l7] (v.toList ++ []) m2 Q) := kJ_call d75_33 (kg_callv 6 1 rfl rfl rfl rfl (Nat.le_of_ble_eq_true rfl) (Nat.le_of_ble_eq_true rfl) (Nat.le_of_ble_eq_true rfl) h rfl)
theorem d75_36 : decode (mB 75) 36 = .ok (.lconst 0, 1) := by decide +kernel
theorem s75_36 {l0 l1 l2 l3 l4 l5 l6 l7 : Option Value} {st : List Value} {m : kMem} {Q : Option Value → kMem → Prop} : kJ 75 36 [l0, l1, l2, l3, l4, l5, l6, l7] st m Q = kJ 75 37 [l0, l1, l2, l3, l4, l5, l6, l7] (.long 0 :: st) m Q := kJ_next d75_36 rfl
theorem d75_37 : decode (mB 75) 37 = .ok (.lstore 5, 2) := by decide +kernel
theorem s75_37 {l0 l1 l2 l3 l4 l5 l6 l7 : Option Value} {st : List Value} {x : Int64} {m : kMem} {Q : Option Value → kMem → Prop} (hp : kNL l4 = true) : kJ 75 37 [l0, l1, l2, l3, l4, l5, l6, l7] (.long x :: st) m Q = kJ 75 39 [l0, l1, l2, l3, l4, some (.long x), none, l7] st m Q := kJ_next d75_37 (kg_stl (Nat.le_of_ble_eq_true rfl) hp)
theorem d75_39 : decode (mB 75) 39 = .ok (.iconst 0, 1) := by decide +kernel
theorem s75_39 {l0 l1 l2 l3 l4 l5 l6 l7 : Option Value} {st : List Value} {m : kMem} {Q : Option Value → kMem → Prop} : kJ 75 39 [l0, l1, l2, l3, l4, l5, l6, l7] st m Q = kJ 75 40 [l0, l1, l2, l3, l4, l5, l6, l7] (.int (nI 0) :: st) m Q := kJ_next d75_39 rfl
theorem d75_40 : decode (mB 75) 40 = .ok (.istore 7, 2) := by decide +kernel
theorem s75_40 {l0 l1 l2 l3 l4 l5 l6 l7 : Option Value} {st : List Value} {x : Int32} {m : kMem} {Q : Option Value → kMem → Prop} (hp : kNL l6 = true) : kJ 75 40 [l0, l1, l2, l3, l4, l5, l6, l7] (.int x :: st) m Q = kJ 75 42 [l0, l1, l2, l3, l4, l5, l6, some (.int x)] st m Q := kJ_next d75_40 (kg_sti (Nat.le_of_ble_eq_true rfl) hp)
theorem d75_42 : decode (mB 75) 42 = .ok (.iload 7, 2) := by decide +kernel
theorem s75_42 {l0 l1 l2 l3 l4 l5 l6 : Option Value} {st : List Value} {x : Int32} {m : kMem} {Q : Option Value → kMem → Prop} : kJ 75 42 [l0, l1, l2, l3, l4, l5, l6, some (.int x)] st m Q = kJ 75 44 [l0, l1, l2, l3, l4, l5, l6, some (.int x)] (.int x :: st) m Q := kJ_next d75_42 rfl
theorem d75_44 : decode (mB 75) 44 = .ok (.iload_n 3, 1) := by decide +kernel
theorem s75_44 {l0 l1 l2 l4 l5 l6 l7 : Option Value} {st : List Value} {x : Int32} {m : kMem} {Q : Option Value → kMem → Prop} : kJ 75 44 [l0, l1, l2, some (.int x), l4, l5, l6, l7] st m Q = kJ 75 45 [l0, l1, l2, some (.int x), l4, l5, l6, l7] (.int x :: st) m Q := kJ_next d75_44 rfl
theorem d75_45 : decode (mB 75) 45 = .ok (.if_icmp .gt 42, 3) := by decide +kernel
theorem s75_45 {l0 l1 l2 l3 l4 l5 l6 l7 : Option Value} {st : List Value} {a b : Int32} {m : kMem} {Q : Option Value → kMem → Prop} : kJ 75 45 [l0, l1, l2, l3, l4, l5, l6, l7] (.int b :: .int a :: st) m Q = (if b < a then kJ 75 87 [l0, l1, l2, l3, l4, l5, l6, l7] st m Q else kJ 75 48 [l0, l1, l2, l3, l4, l5, l6, l7] st m Q) := kJ_if d75_45 rfl (fun h => kJ_next d75_45 h) (fun h => kJ_next d75_45 h)
theorem d75_48 : decode (mB 75) 48 = .ok (.aload_n 0, 1) := by decide +kernel
theorem s75_48 {l1 l2 l3 l4 l5 l6 l7 : Option Value} {st : List Value} {x : Nat} {m : kMem} {Q : Option Value → kMem → Prop} : kJ 75 48 [some (.ref x), l1, l2, l3, l4, l5, l6, l7] st m Q = kJ 75 49 [some (.ref x), l1, l2, l3, l4, l5, l6, l7] (.ref x :: st) m Q := kJ_next d75_48 rfl
theorem d75_49 : decode (mB 75) 49 = .ok (.getfield 16, 3) := by decide +kernel
theorem s75_49 {l0 l1 l2 l3 l4 l5 l6 l7 : Option Value} {st : List Value} {q : Nat} {mi : Nat → Nat → Int32} {ml : Nat → Nat → Int64} {mr : Nat → Nat → Option Nat} {nx : Nat} {Q : Option Value → kMem → Prop} (h : kIs nx q 4 = true) : kJ 75 49 [l0, l1, l2, l3, l4, l5, l6, l7] (.ref q :: st) (mi, ml, mr, nx) Q = kJ 75 52 [l0, l1, l2, l3, l4, l5, l6, l7] (va_rf (mr q 1) :: st) (mi, ml, mr, nx) Q := kJ_next d75_49 (kg_getr 4 1 rfl h (by decide))
theorem d75_52 : decode (mB 75) 52 = .ok (.getfield 142, 3) := by decide +kernel
theorem s75_52 {l0 l1 l2 l3 l4 l5 l6 l7 : Option Value} {st : List Value} {q : Nat} {mi : Nat → Nat → Int32} {ml : Nat → Nat → Int64} {mr : Nat → Nat → Option Nat} {nx : Nat} {Q : Option Value → kMem → Prop} (h : kIs nx q 1 = true) : kJ 75 52 [l0, l1, l2, l3, l4, l5, l6, l7] (.ref q :: st) (mi, ml, mr, nx) Q = kJ 75 55 [l0, l1, l2, l3, l4, l5, l6, l7] (va_rf (mr q 10) :: st) (mi, ml, mr, nx) Q := kJ_next d75_52 (kg_getr 1 10 rfl h (by decide))
theorem d75_55 : decode (mB 75) 55 = .ok (.iload_n 2, 1) := by decide +kernel
theorem s75_55 {l0 l1 l3 l4 l5 l6 l7 : Option Value} {st : List Value} {x : Int32} {m : kMem} {Q : Option Value → kMem → Prop} : kJ 75 55 [l0, l1, some (.int x), l3, l4, l5, l6, l7] st m Q = kJ 75 56 [l0, l1, some (.int x), l3, l4, l5, l6, l7] (.int x :: st) m Q := kJ_next d75_55 rfl
theorem d75_56 : decode (mB 75) 56 = .ok (.iaload, 1) := by decide +kernel
theorem s75_56 {l0 l1 l2 l3 l4 l5 l6 l7 : Option Value} {st : List Value} {q : Nat} {i : Int32} {mi : Nat → Nat → Int32} {ml : Nat → Nat → Int64} {mr : Nat → Nat → Option Nat} {nx : Nat} {Q : Option Value → kMem → Prop} (h : kIs nx q 10 = true) : kJ 75 56 [l0, l1, l2, l3, l4, l5, l6, l7] (.int i :: .ref q :: st) (mi, ml, mr, nx) Q = (vp_in i (kAl q) ∧ kJ 75 57 [l0, l1, l2, l3, l4, l5, l6, l7] (.int (mi q i.toNatClampNeg) :: st) (mi, ml, mr, nx) Q) := kg_aldJ d75_56 rfl (kAr_of h)
theorem d75_57 : decode (mB 75) 57 = .ok (.iconst 2, 1) := by decide +kernel
theorem s75_57 {l0 l1 l2 l3 l4 l5 l6 l7 : Option Value} {st : List Value} {m : kMem} {Q : Option Value → kMem → Prop} : kJ 75 57 [l0, l1, l2, l3, l4, l5, l6, l7] st m Q = kJ 75 58 [l0, l1, l2, l3, l4, l5, l6, l7] (.int (nI 2) :: st) m Q := kJ_next d75_57 rfl
theorem d75_58 : decode (mB 75) 58 = .ok (.if_icmp .ne 15, 3) := by decide +kernel
theorem s75_58 {l0 l1 l2 l3 l4 l5 l6 l7 : Option Value} {st : List Value} {a b : Int32} {m : kMem} {Q : Option Value → kMem → Prop} : kJ 75 58 [l0, l1, l2, l3, l4, l5, l6, l7] (.int b :: .int a :: st) m Q = (if a = b then kJ 75 61 [l0, l1, l2, l3, l4, l5, l6, l7] st m Q else kJ 75 73 [l0, l1, l2, l3, l4, l5, l6, l7] st m Q) := kJ_if d75_58 rfl (fun h => kJ_next d75_58 h) (fun h => kJ_next d75_58 h)
theorem d75_61 : decode (mB 75) 61 = .ok (.lload 5, 2) := by decide +kernel
theorem s75_61 {l0 l1 l2 l3 l4 l6 l7 : Option Value} {st : List Value} {x : Int64} {m : kMem} {Q : Option Value → kMem → Prop} : kJ 75 61 [l0, l1, l2, l3, l4, some (.long x), l6, l7] st m Q = kJ 75 63 [l0, l1, l2, l3, l4, some (.long x), l6, l7] (.long x :: st) m Q := kJ_next d75_61 rfl
theorem d75_63 : decode (mB 75) 63 = .ok (.iload_n 1, 1) := by decide +kernel
theorem s75_63 {l0 l2 l3 l4 l5 l6 l7 : Option Value} {st : List Value} {x : Int32} {m : kMem} {Q : Option Value → kMem → Prop} : kJ 75 63 [l0, some (.int x), l2, l3, l4, l5, l6, l7] st m Q = kJ 75 64 [l0, some (.int x), l2, l3, l4, l5, l6, l7] (.int x :: st) m Q := kJ_next d75_63 rfl
theorem d75_64 : decode (mB 75) 64 = .ok (.iload_n 3, 1) := by decide +kernel
theorem s75_64 {l0 l1 l2 l4 l5 l6 l7 : Option Value} {st : List Value} {x : Int32} {m : kMem} {Q : Option Value → kMem → Prop} : kJ 75 64 [l0, l1, l2, some (.int x), l4, l5, l6, l7] st m Q = kJ 75 65 [l0, l1, l2, some (.int x), l4, l5, l6, l7] (.int x :: st) m Q := kJ_next d75_64 rfl
theorem d75_65 : decode (mB 75) 65 = .ok (.iload 7, 2) := by decide +kernel
theorem s75_65 {l0 l1 l2 l3 l4 l5 l6 : Option Value} {st : List Value} {x : Int32} {m : kMem} {Q : Option Value → kMem → Prop} : kJ 75 65 [l0, l1, l2, l3, l4, l5, l6, some (.int x)] st m Q = kJ 75 67 [l0, l1, l2, l3, l4, l5, l6, some (.int x)] (.int x :: st) m Q := kJ_next d75_65 rfl
theorem d75_67 : decode (mB 75) 67 = .ok (.invokestatic 194, 3) := by decide +kernel
theorem s75_67 {l0 l1 l2 l3 l4 l5 l6 l7 : Option Value} {v0 : Int32} {v1 : Int32} {v2 : Int32} {v3 : Int64} {m : kMem} {Q : Option Value → kMem → Prop} : kJ 75 67 [l0, l1, l2, l3, l4, l5, l6, l7] [.int v0, .int v1, .int v2, .long v3] m Q = kJ 100 0 [some (.int v2), some (.int v1), some (.int v0), none, none, none] [] m (fun v m2 => kJ 75 70 [l0, l1, l2, l3, l4, l5, l6, l7] (v.toList ++ [.long v3]) m2 Q) := kJ_call d75_67 (kg_calls 100 3 rfl rfl (Nat.le_of_ble_eq_true rfl) (Nat.le_of_ble_eq_true rfl) (Nat.le_of_ble_eq_true rfl) (Nat.le_of_ble_eq_true rfl))
theorem d75_70 : decode (mB 75) 70 = .ok (.ladd, 1) := by decide +kernel
theorem s75_70 {l0 l1 l2 l3 l4 l5 l6 l7 : Option Value} {st : List Value} {a b : Int64} {m : kMem} {Q : Option Value → kMem → Prop} : kJ 75 70 [l0, l1, l2, l3, l4, l5, l6, l7] (.long b :: .long a :: st) m Q = kJ 75 71 [l0, l1, l2, l3, l4, l5, l6, l7] (.long (a + b) :: st) m Q := kJ_next d75_70 rfl
theorem d75_71 : decode (mB 75) 71 = .ok (.lstore 5, 2) := by decide +kernel
theorem s75_71 {l0 l1 l2 l3 l4 l5 l6 l7 : Option Value} {st : List Value} {x : Int64} {m : kMem} {Q : Option Value → kMem → Prop} (hp : kNL l4 = true) : kJ 75 71 [l0, l1, l2, l3, l4, l5, l6, l7] (.long x :: st) m Q = kJ 75 73 [l0, l1, l2, l3, l4, some (.long x), none, l7] st m Q := kJ_next d75_71 (kg_stl (Nat.le_of_ble_eq_true rfl) hp)
theorem d75_73 : decode (mB 75) 73 = .ok (.aload_n 0, 1) := by decide +kernel
theorem s75_73 {l1 l2 l3 l4 l5 l6 l7 : Option Value} {st : List Value} {x : Nat} {m : kMem} {Q : Option Value → kMem → Prop} : kJ 75 73 [some (.ref x), l1, l2, l3, l4, l5, l6, l7] st m Q = kJ 75 74 [some (.ref x), l1, l2, l3, l4, l5, l6, l7] (.ref x :: st) m Q := kJ_next d75_73 rfl
theorem d75_74 : decode (mB 75) 74 = .ok (.getfield 16, 3) := by decide +kernel
theorem s75_74 {l0 l1 l2 l3 l4 l5 l6 l7 : Option Value} {st : List Value} {q : Nat} {mi : Nat → Nat → Int32} {ml : Nat → Nat → Int64} {mr : Nat → Nat → Option Nat} {nx : Nat} {Q : Option Value → kMem → Prop} (h : kIs nx q 4 = true) : kJ 75 74 [l0, l1, l2, l3, l4, l5, l6, l7] (.ref q :: st) (mi, ml, mr, nx) Q = kJ 75 77 [l0, l1, l2, l3, l4, l5, l6, l7] (va_rf (mr q 1) :: st) (mi, ml, mr, nx) Q := kJ_next d75_74 (kg_getr 4 1 rfl h (by decide))
theorem d75_77 : decode (mB 75) 77 = .ok (.iconst 1, 1) := by decide +kernel
theorem s75_77 {l0 l1 l2 l3 l4 l5 l6 l7 : Option Value} {st : List Value} {m : kMem} {Q : Option Value → kMem → Prop} : kJ 75 77 [l0, l1, l2, l3, l4, l5, l6, l7] st m Q = kJ 75 78 [l0, l1, l2, l3, l4, l5, l6, l7] (.int (nI 1) :: st) m Q := kJ_next d75_77 rfl
theorem d75_78 : decode (mB 75) 78 = .ok (.invokevirtual 163, 3) := by decide +kernel
theorem s75_78 {l0 l1 l2 l3 l4 l5 l6 l7 : Option Value} {v0 : Int32} {v1 : Nat} {m : kMem} {Q : Option Value → kMem → Prop} (h : kIs m.2.2.2 v1 1 = true) : kJ 75 78 [l0, l1, l2, l3, l4, l5, l6, l7] [.int v0, .ref v1] m Q = kJ 20 0 [some (.ref v1), some (.int v0), none] [] m (fun v m2 => kJ 75 81 [l0, l1, l2, l3, l4, l5, l6, l7] (v.toList ++ []) m2 Q) := kJ_call d75_78 (kg_callv 20 1 rfl rfl rfl rfl (Nat.le_of_ble_eq_true rfl) (Nat.le_of_ble_eq_true rfl) (Nat.le_of_ble_eq_true rfl) h rfl)
theorem d75_81 : decode (mB 75) 81 = .ok (.iinc 7 1, 3) := by decide +kernel
theorem s75_81 {l0 l1 l2 l3 l4 l5 l6 : Option Value} {st : List Value} {x : Int32} {m : kMem} {Q : Option Value → kMem → Prop} (hp : kNL l6 = true) : kJ 75 81 [l0, l1, l2, l3, l4, l5, l6, some (.int x)] st m Q = kJ 75 84 [l0, l1, l2, l3, l4, l5, l6, some (.int (x + (nI 1)))] st m Q := kJ_next d75_81 (kg_inc rfl (Nat.le_of_ble_eq_true rfl) hp)
theorem d75_84 : decode (mB 75) 84 = .ok (.goto (-42), 3) := by decide +kernel
theorem s75_84 {l0 l1 l2 l3 l4 l5 l6 l7 : Option Value} {st : List Value} {m : kMem} {Q : Option Value → kMem → Prop} : kJ 75 84 [l0, l1, l2, l3, l4, l5, l6, l7] st m Q = kJ 75 42 [l0, l1, l2, l3, l4, l5, l6, l7] st m Q := kJ_next d75_84 rfl
theorem d75_87 : decode (mB 75) 87 = .ok (.lload 5, 2) := by decide +kernel
theorem s75_87 {l0 l1 l2 l3 l4 l6 l7 : Option Value} {st : List Value} {x : Int64} {m : kMem} {Q : Option Value → kMem → Prop} : kJ 75 87 [l0, l1, l2, l3, l4, some (.long x), l6, l7] st m Q = kJ 75 89 [l0, l1, l2, l3, l4, some (.long x), l6, l7] (.long x :: st) m Q := kJ_next d75_87 rfl
theorem d75_89 : decode (mB 75) 89 = .ok (.ldc2_w 198, 3) := by decide +kernel
theorem s75_89 {l0 l1 l2 l3 l4 l5 l6 l7 : Option Value} {st : List Value} {m : kMem} {Q : Option Value → kMem → Prop} : kJ 75 89 [l0, l1, l2, l3, l4, l5, l6, l7] st m Q = kJ 75 92 [l0, l1, l2, l3, l4, l5, l6, l7] (.long (10) :: st) m Q := kJ_next d75_89 rfl
theorem d75_92 : decode (mB 75) 92 = .ok (.iload_n 3, 1) := by decide +kernel
theorem s75_92 {l0 l1 l2 l4 l5 l6 l7 : Option Value} {st : List Value} {x : Int32} {m : kMem} {Q : Option Value → kMem → Prop} : kJ 75 92 [l0, l1, l2, some (.int x), l4, l5, l6, l7] st m Q = kJ 75 93 [l0, l1, l2, some (.int x), l4, l5, l6, l7] (.int x :: st) m Q := kJ_next d75_92 rfl
theorem d75_93 : decode (mB 75) 93 = .ok (.invokestatic 200, 3) := by decide +kernel
theorem s75_93 {l0 l1 l2 l3 l4 l5 l6 l7 : Option Value} {v0 : Int32} {v1 : Int64} {v2 : Int64} {m : kMem} {Q : Option Value → kMem → Prop} : kJ 75 93 [l0, l1, l2, l3, l4, l5, l6, l7] [.int v0, .long v1, .long v2] m Q = kJ 99 0 [some (.long v1), none, some (.int v0), none, none, none] [] m (fun v m2 => kJ 75 96 [l0, l1, l2, l3, l4, l5, l6, l7] (v.toList ++ [.long v2]) m2 Q) := kJ_call d75_93 (kg_calls 99 2 rfl rfl (Nat.le_of_ble_eq_true rfl) (Nat.le_of_ble_eq_true rfl) (Nat.le_of_ble_eq_true rfl) (Nat.le_of_ble_eq_true rfl))
theorem d75_96 : decode (mB 75) 96 = .ok (.iload 4, 2) := by decide +kernel
theorem s75_96 {l0 l1 l2 l3 l5 l6 l7 : Option Value} {st : List Value} {x : Int32} {m : kMem} {Q : Option Value → kMem → Prop} : kJ 75 96 [l0, l1, l2, l3, some (.int x), l5, l6, l7] st m Q = kJ 75 98 [l0, l1, l2, l3, some (.int x), l5, l6, l7] (.int x :: st) m Q := kJ_next d75_96 rfl
theorem d75_98 : decode (mB 75) 98 = .ok (.invokestatic 204, 3) := by decide +kernel
theorem s75_98 {l0 l1 l2 l3 l4 l5 l6 l7 : Option Value} {v0 : Int32} {v1 : Int64} {v2 : Int64} {m : kMem} {Q : Option Value → kMem → Prop} : kJ 75 98 [l0, l1, l2, l3, l4, l5, l6, l7] [.int v0, .long v1, .long v2] m Q = kJ 101 0 [some (.long v2), none, some (.long v1), none, some (.int v0), none, none] [] m (fun v m2 => kJ 75 101 [l0, l1, l2, l3, l4, l5, l6, l7] (v.toList ++ []) m2 Q) := kJ_call d75_98 (kg_calls 101 3 rfl rfl (Nat.le_of_ble_eq_true rfl) (Nat.le_of_ble_eq_true rfl) (Nat.le_of_ble_eq_true rfl) (Nat.le_of_ble_eq_true rfl))
theorem d75_101 : decode (mB 75) 101 = .ok (.lreturn, 1) := by decide +kernel
theorem s75_101 {l0 l1 l2 l3 l4 l5 l6 l7 : Option Value} {x : Int64} {m : kMem} {Q : Option Value → kMem → Prop} : kJ 75 101 [l0, l1, l2, l3, l4, l5, l6, l7] [.long x] m Q = Q (some (.long x)) m := kJ_ret d75_101 rfl
theorem d76_0 : decode (mB 76) 0 = .ok (.iload_n 1, 1) := by decide +kernel
theorem s76_0 {l0 l2 l3 l4 l5 l6 : Option Value} {st : List Value} {x : Int32} {m : kMem} {Q : Option Value → kMem → Prop} : kJ 76 0 [l0, some (.int x), l2, l3, l4, l5, l6] st m Q = kJ 76 1 [l0, some (.int x), l2, l3, l4, l5, l6] (.int x :: st) m Q := kJ_next d76_0 rfl
theorem d76_1 : decode (mB 76) 1 = .ok (.iload_n 2, 1) := by decide +kernel
theorem s76_1 {l0 l1 l3 l4 l5 l6 : Option Value} {st : List Value} {x : Int32} {m : kMem} {Q : Option Value → kMem → Prop} : kJ 76 1 [l0, l1, some (.int x), l3, l4, l5, l6] st m Q = kJ 76 2 [l0, l1, some (.int x), l3, l4, l5, l6] (.int x :: st) m Q := kJ_next d76_1 rfl
theorem d76_2 : decode (mB 76) 2 = .ok (.iload_n 3, 1) := by decide +kernel
theorem s76_2 {l0 l1 l2 l4 l5 l6 : Option Value} {st : List Value} {x : Int32} {m : kMem} {Q : Option Value → kMem → Prop} : kJ 76 2 [l0, l1, l2, some (.int x), l4, l5, l6] st m Q = kJ 76 3 [l0, l1, l2, some (.int x), l4, l5, l6] (.int x :: st) m Q := kJ_next d76_2 rfl
theorem d76_3 : decode (mB 76) 3 = .ok (.invokestatic 189, 3) := by decide +kernel
theorem s76_3 {l0 l1 l2 l3 l4 l5 l6 : Option Value} {v0 : Int32} {v1 : Int32} {v2 : Int32} {m : kMem} {Q : Option Value → kMem → Prop} : kJ 76 3 [l0, l1, l2, l3, l4, l5, l6] [.int v0, .int v1, .int v2] m Q = kJ 92 0 [some (.int v2), some (.int v1), some (.int v0)] [] m (fun v m2 => kJ 76 6 [l0, l1, l2, l3, l4, l5, l6] (v.toList ++ []) m2 Q) := kJ_call d76_3 (kg_calls 92 3 rfl rfl (Nat.le_of_ble_eq_true rfl) (Nat.le_of_ble_eq_true rfl) (Nat.le_of_ble_eq_true rfl) (Nat.le_of_ble_eq_true rfl))
theorem d76_6 : decode (mB 76) 6 = .ok (.ifCond .ne 7, 3) := by decide +kernel
theorem s76_6 {l0 l1 l2 l3 l4 l5 l6 : Option Value} {st : List Value} {a : Int32} {m : kMem} {Q : Option Value → kMem → Prop} : kJ 76 6 [l0, l1, l2, l3, l4, l5, l6] (.int a :: st) m Q = (if a = 0 then kJ 76 9 [l0, l1, l2, l3, l4, l5, l6] st m Q else kJ 76 13 [l0, l1, l2, l3, l4, l5, l6] st m Q) := kJ_if d76_6 rfl (fun h => kJ_next d76_6 h) (fun h => kJ_next d76_6 h)
theorem d76_9 : decode (mB 76) 9 = .ok (.ldc2_w 192, 3) := by decide +kernel
theorem s76_9 {l0 l1 l2 l3 l4 l5 l6 : Option Value} {st : List Value} {m : kMem} {Q : Option Value → kMem → Prop} : kJ 76 9 [l0, l1, l2, l3, l4, l5, l6] st m Q = kJ 76 12 [l0, l1, l2, l3, l4, l5, l6] (.long (-1) :: st) m Q := kJ_next d76_9 rfl
theorem d76_12 : decode (mB 76) 12 = .ok (.lreturn, 1) := by decide +kernel
theorem s76_12 {l0 l1 l2 l3 l4 l5 l6 : Option Value} {x : Int64} {m : kMem} {Q : Option Value → kMem → Prop} : kJ 76 12 [l0, l1, l2, l3, l4, l5, l6] [.long x] m Q = Q (some (.long x)) m := kJ_ret d76_12 rfl
theorem d76_13 : decode (mB 76) 13 = .ok (.aload_n 0, 1) := by decide +kernel
theorem s76_13 {l1 l2 l3 l4 l5 l6 : Option Value} {st : List Value} {x : Nat} {m : kMem} {Q : Option Value → kMem → Prop} : kJ 76 13 [some (.ref x), l1, l2, l3, l4, l5, l6] st m Q = kJ 76 14 [some (.ref x), l1, l2, l3, l4, l5, l6] (.ref x :: st) m Q := kJ_next d76_13 rfl
theorem d76_14 : decode (mB 76) 14 = .ok (.getfield 16, 3) := by decide +kernel
theorem s76_14 {l0 l1 l2 l3 l4 l5 l6 : Option Value} {st : List Value} {q : Nat} {mi : Nat → Nat → Int32} {ml : Nat → Nat → Int64} {mr : Nat → Nat → Option Nat} {nx : Nat} {Q : Option Value → kMem → Prop} (h : kIs nx q 4 = true) : kJ 76 14 [l0, l1, l2, l3, l4, l5, l6] (.ref q :: st) (mi, ml, mr, nx) Q = kJ 76 17 [l0, l1, l2, l3, l4, l5, l6] (va_rf (mr q 1) :: st) (mi, ml, mr, nx) Q := kJ_next d76_14 (kg_getr 4 1 rfl h (by decide))
theorem d76_17 : decode (mB 76) 17 = .ok (.aload_n 0, 1) := by decide +kernel
theorem s76_17 {l1 l2 l3 l4 l5 l6 : Option Value} {st : List Value} {x : Nat} {m : kMem} {Q : Option Value → kMem → Prop} : kJ 76 17 [some (.ref x), l1, l2, l3, l4, l5, l6] st m Q = kJ 76 18 [some (.ref x), l1, l2, l3, l4, l5, l6] (.ref x :: st) m Q := kJ_next d76_17 rfl
theorem d76_18 : decode (mB 76) 18 = .ok (.getfield 10, 3) := by decide +kernel
theorem s76_18 {l0 l1 l2 l3 l4 l5 l6 : Option Value} {st : List Value} {q : Nat} {mi : Nat → Nat → Int32} {ml : Nat → Nat → Int64} {mr : Nat → Nat → Option Nat} {nx : Nat} {Q : Option Value → kMem → Prop} (h : kIs nx q 4 = true) : kJ 76 18 [l0, l1, l2, l3, l4, l5, l6] (.ref q :: st) (mi, ml, mr, nx) Q = kJ 76 21 [l0, l1, l2, l3, l4, l5, l6] (va_rf (mr q 0) :: st) (mi, ml, mr, nx) Q := kJ_next d76_18 (kg_getr 4 0 rfl h (by decide))
theorem d76_21 : decode (mB 76) 21 = .ok (.invokevirtual 81, 3) := by decide +kernel
theorem s76_21 {l0 l1 l2 l3 l4 l5 l6 : Option Value} {v0 : Nat} {v1 : Nat} {m : kMem} {Q : Option Value → kMem → Prop} (h : kIs m.2.2.2 v1 1 = true) : kJ 76 21 [l0, l1, l2, l3, l4, l5, l6] [.ref v0, .ref v1] m Q = kJ 6 0 [some (.ref v1), some (.ref v0)] [] m (fun v m2 => kJ 76 24 [l0, l1, l2, l3, l4, l5, l6] (v.toList ++ []) m2 Q) := kJ_call d76_21 (kg_callv 6 1 rfl rfl rfl rfl (Nat.le_of_ble_eq_true rfl) (Nat.le_of_ble_eq_true rfl) (Nat.le_of_ble_eq_true rfl) h rfl)
theorem d76_24 : decode (mB 76) 24 = .ok (.lconst 0, 1) := by decide +kernel
theorem s76_24 {l0 l1 l2 l3 l4 l5 l6 : Option Value} {st : List Value} {m : kMem} {Q : Option Value → kMem → Prop} : kJ 76 24 [l0, l1, l2, l3, l4, l5, l6] st m Q = kJ 76 25 [l0, l1, l2, l3, l4, l5, l6] (.long 0 :: st) m Q := kJ_next d76_24 rfl
theorem d76_25 : decode (mB 76) 25 = .ok (.lstore 4, 2) := by decide +kernel
theorem s76_25 {l0 l1 l2 l3 l4 l5 l6 : Option Value} {st : List Value} {x : Int64} {m : kMem} {Q : Option Value → kMem → Prop} (hp : kNL l3 = true) : kJ 76 25 [l0, l1, l2, l3, l4, l5, l6] (.long x :: st) m Q = kJ 76 27 [l0, l1, l2, l3, some (.long x), none, l6] st m Q := kJ_next d76_25 (kg_stl (Nat.le_of_ble_eq_true rfl) hp)
theorem d76_27 : decode (mB 76) 27 = .ok (.iconst 0, 1) := by decide +kernel
theorem s76_27 {l0 l1 l2 l3 l4 l5 l6 : Option Value} {st : List Value} {m : kMem} {Q : Option Value → kMem → Prop} : kJ 76 27 [l0, l1, l2, l3, l4, l5, l6] st m Q = kJ 76 28 [l0, l1, l2, l3, l4, l5, l6] (.int (nI 0) :: st) m Q := kJ_next d76_27 rfl
theorem d76_28 : decode (mB 76) 28 = .ok (.istore 6, 2) := by decide +kernel
theorem s76_28 {l0 l1 l2 l3 l4 l5 l6 : Option Value} {st : List Value} {x : Int32} {m : kMem} {Q : Option Value → kMem → Prop} (hp : kNL l5 = true) : kJ 76 28 [l0, l1, l2, l3, l4, l5, l6] (.int x :: st) m Q = kJ 76 30 [l0, l1, l2, l3, l4, l5, some (.int x)] st m Q := kJ_next d76_28 (kg_sti (Nat.le_of_ble_eq_true rfl) hp)
theorem d76_30 : decode (mB 76) 30 = .ok (.iload 6, 2) := by decide +kernel
theorem s76_30 {l0 l1 l2 l3 l4 l5 : Option Value} {st : List Value} {x : Int32} {m : kMem} {Q : Option Value → kMem → Prop} : kJ 76 30 [l0, l1, l2, l3, l4, l5, some (.int x)] st m Q = kJ 76 32 [l0, l1, l2, l3, l4, l5, some (.int x)] (.int x :: st) m Q := kJ_next d76_30 rfl
theorem d76_32 : decode (mB 76) 32 = .ok (.iload_n 2, 1) := by decide +kernel
theorem s76_32 {l0 l1 l3 l4 l5 l6 : Option Value} {st : List Value} {x : Int32} {m : kMem} {Q : Option Value → kMem → Prop} : kJ 76 32 [l0, l1, some (.int x), l3, l4, l5, l6] st m Q = kJ 76 33 [l0, l1, some (.int x), l3, l4, l5, l6] (.int x :: st) m Q := kJ_next d76_32 rfl
theorem d76_33 : decode (mB 76) 33 = .ok (.if_icmp .gt 38, 3) := by decide +kernel
theorem s76_33 {l0 l1 l2 l3 l4 l5 l6 : Option Value} {st : List Value} {a b : Int32} {m : kMem} {Q : Option Value → kMem → Prop} : kJ 76 33 [l0, l1, l2, l3, l4, l5, l6] (.int b :: .int a :: st) m Q = (if b < a then kJ 76 71 [l0, l1, l2, l3, l4, l5, l6] st m Q else kJ 76 36 [l0, l1, l2, l3, l4, l5, l6] st m Q) := kJ_if d76_33 rfl (fun h => kJ_next d76_33 h) (fun h => kJ_next d76_33 h)
theorem d76_36 : decode (mB 76) 36 = .ok (.lload 4, 2) := by decide +kernel
theorem s76_36 {l0 l1 l2 l3 l5 l6 : Option Value} {st : List Value} {x : Int64} {m : kMem} {Q : Option Value → kMem → Prop} : kJ 76 36 [l0, l1, l2, l3, some (.long x), l5, l6] st m Q = kJ 76 38 [l0, l1, l2, l3, some (.long x), l5, l6] (.long x :: st) m Q := kJ_next d76_36 rfl
theorem d76_38 : decode (mB 76) 38 = .ok (.iload_n 1, 1) := by decide +kernel
theorem s76_38 {l0 l2 l3 l4 l5 l6 : Option Value} {st : List Value} {x : Int32} {m : kMem} {Q : Option Value → kMem → Prop} : kJ 76 38 [l0, some (.int x), l2, l3, l4, l5, l6] st m Q = kJ 76 39 [l0, some (.int x), l2, l3, l4, l5, l6] (.int x :: st) m Q := kJ_next d76_38 rfl
theorem d76_39 : decode (mB 76) 39 = .ok (.iload_n 2, 1) := by decide +kernel
theorem s76_39 {l0 l1 l3 l4 l5 l6 : Option Value} {st : List Value} {x : Int32} {m : kMem} {Q : Option Value → kMem → Prop} : kJ 76 39 [l0, l1, some (.int x), l3, l4, l5, l6] st m Q = kJ 76 40 [l0, l1, some (.int x), l3, l4, l5, l6] (.int x :: st) m Q := kJ_next d76_39 rfl
theorem d76_40 : decode (mB 76) 40 = .ok (.iload 6, 2) := by decide +kernel
theorem s76_40 {l0 l1 l2 l3 l4 l5 : Option Value} {st : List Value} {x : Int32} {m : kMem} {Q : Option Value → kMem → Prop} : kJ 76 40 [l0, l1, l2, l3, l4, l5, some (.int x)] st m Q = kJ 76 42 [l0, l1, l2, l3, l4, l5, some (.int x)] (.int x :: st) m Q := kJ_next d76_40 rfl
theorem d76_42 : decode (mB 76) 42 = .ok (.invokestatic 194, 3) := by decide +kernel
theorem s76_42 {l0 l1 l2 l3 l4 l5 l6 : Option Value} {v0 : Int32} {v1 : Int32} {v2 : Int32} {v3 : Int64} {m : kMem} {Q : Option Value → kMem → Prop} : kJ 76 42 [l0, l1, l2, l3, l4, l5, l6] [.int v0, .int v1, .int v2, .long v3] m Q = kJ 100 0 [some (.int v2), some (.int v1), some (.int v0), none, none, none] [] m (fun v m2 => kJ 76 45 [l0, l1, l2, l3, l4, l5, l6] (v.toList ++ [.long v3]) m2 Q) := kJ_call d76_42 (kg_calls 100 3 rfl rfl (Nat.le_of_ble_eq_true rfl) (Nat.le_of_ble_eq_true rfl) (Nat.le_of_ble_eq_true rfl) (Nat.le_of_ble_eq_true rfl))
theorem d76_45 : decode (mB 76) 45 = .ok (.aload_n 0, 1) := by decide +kernel
theorem s76_45 {l1 l2 l3 l4 l5 l6 : Option Value} {st : List Value} {x : Nat} {m : kMem} {Q : Option Value → kMem → Prop} : kJ 76 45 [some (.ref x), l1, l2, l3, l4, l5, l6] st m Q = kJ 76 46 [some (.ref x), l1, l2, l3, l4, l5, l6] (.ref x :: st) m Q := kJ_next d76_45 rfl
theorem d76_46 : decode (mB 76) 46 = .ok (.getfield 16, 3) := by decide +kernel
theorem s76_46 {l0 l1 l2 l3 l4 l5 l6 : Option Value} {st : List Value} {q : Nat} {mi : Nat → Nat → Int32} {ml : Nat → Nat → Int64} {mr : Nat → Nat → Option Nat} {nx : Nat} {Q : Option Value → kMem → Prop} (h : kIs nx q 4 = true) : kJ 76 46 [l0, l1, l2, l3, l4, l5, l6] (.ref q :: st) (mi, ml, mr, nx) Q = kJ 76 49 [l0, l1, l2, l3, l4, l5, l6] (va_rf (mr q 1) :: st) (mi, ml, mr, nx) Q := kJ_next d76_46 (kg_getr 4 1 rfl h (by decide))
theorem d76_49 : decode (mB 76) 49 = .ok (.invokevirtual 100, 3) := by decide +kernel
theorem s76_49 {l0 l1 l2 l3 l4 l5 l6 : Option Value} {v0 : Nat} {v1 : Int64} {v2 : Int64} {m : kMem} {Q : Option Value → kMem → Prop} (h : kIs m.2.2.2 v0 1 = true) : kJ 76 49 [l0, l1, l2, l3, l4, l5, l6] [.ref v0, .long v1, .long v2] m Q = kJ 15 0 [some (.ref v0)] [] m (fun v m2 => kJ 76 52 [l0, l1, l2, l3, l4, l5, l6] (v.toList ++ [.long v1, .long v2]) m2 Q) := kJ_call d76_49 (kg_callv 15 0 rfl rfl rfl rfl (Nat.le_of_ble_eq_true rfl) (Nat.le_of_ble_eq_true rfl) (Nat.le_of_ble_eq_true rfl) h rfl)
theorem d76_52 : decode (mB 76) 52 = .ok (.i2l, 1) := by decide +kernel
theorem s76_52 {l0 l1 l2 l3 l4 l5 l6 : Option Value} {st : List Value} {a : Int32} {m : kMem} {Q : Option Value → kMem → Prop} : kJ 76 52 [l0, l1, l2, l3, l4, l5, l6] (.int a :: st) m Q = kJ 76 53 [l0, l1, l2, l3, l4, l5, l6] (.long a.toInt64 :: st) m Q := kJ_next d76_52 rfl
theorem d76_53 : decode (mB 76) 53 = .ok (.lmul, 1) := by decide +kernel
theorem s76_53 {l0 l1 l2 l3 l4 l5 l6 : Option Value} {st : List Value} {a b : Int64} {m : kMem} {Q : Option Value → kMem → Prop} : kJ 76 53 [l0, l1, l2, l3, l4, l5, l6] (.long b :: .long a :: st) m Q = kJ 76 54 [l0, l1, l2, l3, l4, l5, l6] (.long (a * b) :: st) m Q := kJ_next d76_53 rfl
theorem d76_54 : decode (mB 76) 54 = .ok (.ladd, 1) := by decide +kernel
theorem s76_54 {l0 l1 l2 l3 l4 l5 l6 : Option Value} {st : List Value} {a b : Int64} {m : kMem} {Q : Option Value → kMem → Prop} : kJ 76 54 [l0, l1, l2, l3, l4, l5, l6] (.long b :: .long a :: st) m Q = kJ 76 55 [l0, l1, l2, l3, l4, l5, l6] (.long (a + b) :: st) m Q := kJ_next d76_54 rfl
theorem d76_55 : decode (mB 76) 55 = .ok (.lstore 4, 2) := by decide +kernel
theorem s76_55 {l0 l1 l2 l3 l4 l5 l6 : Option Value} {st : List Value} {x : Int64} {m : kMem} {Q : Option Value → kMem → Prop} (hp : kNL l3 = true) : kJ 76 55 [l0, l1, l2, l3, l4, l5, l6] (.long x :: st) m Q = kJ 76 57 [l0, l1, l2, l3, some (.long x), none, l6] st m Q := kJ_next d76_55 (kg_stl (Nat.le_of_ble_eq_true rfl) hp)
theorem d76_57 : decode (mB 76) 57 = .ok (.aload_n 0, 1) := by decide +kernel
theorem s76_57 {l1 l2 l3 l4 l5 l6 : Option Value} {st : List Value} {x : Nat} {m : kMem} {Q : Option Value → kMem → Prop} : kJ 76 57 [some (.ref x), l1, l2, l3, l4, l5, l6] st m Q = kJ 76 58 [some (.ref x), l1, l2, l3, l4, l5, l6] (.ref x :: st) m Q := kJ_next d76_57 rfl
theorem d76_58 : decode (mB 76) 58 = .ok (.getfield 16, 3) := by decide +kernel
theorem s76_58 {l0 l1 l2 l3 l4 l5 l6 : Option Value} {st : List Value} {q : Nat} {mi : Nat → Nat → Int32} {ml : Nat → Nat → Int64} {mr : Nat → Nat → Option Nat} {nx : Nat} {Q : Option Value → kMem → Prop} (h : kIs nx q 4 = true) : kJ 76 58 [l0, l1, l2, l3, l4, l5, l6] (.ref q :: st) (mi, ml, mr, nx) Q = kJ 76 61 [l0, l1, l2, l3, l4, l5, l6] (va_rf (mr q 1) :: st) (mi, ml, mr, nx) Q := kJ_next d76_58 (kg_getr 4 1 rfl h (by decide))
theorem d76_61 : decode (mB 76) 61 = .ok (.iconst 1, 1) := by decide +kernel
theorem s76_61 {l0 l1 l2 l3 l4 l5 l6 : Option Value} {st : List Value} {m : kMem} {Q : Option Value → kMem → Prop} : kJ 76 61 [l0, l1, l2, l3, l4, l5, l6] st m Q = kJ 76 62 [l0, l1, l2, l3, l4, l5, l6] (.int (nI 1) :: st) m Q := kJ_next d76_61 rfl
theorem d76_62 : decode (mB 76) 62 = .ok (.invokevirtual 163, 3) := by decide +kernel
theorem s76_62 {l0 l1 l2 l3 l4 l5 l6 : Option Value} {v0 : Int32} {v1 : Nat} {m : kMem} {Q : Option Value → kMem → Prop} (h : kIs m.2.2.2 v1 1 = true) : kJ 76 62 [l0, l1, l2, l3, l4, l5, l6] [.int v0, .ref v1] m Q = kJ 20 0 [some (.ref v1), some (.int v0), none] [] m (fun v m2 => kJ 76 65 [l0, l1, l2, l3, l4, l5, l6] (v.toList ++ []) m2 Q) := kJ_call d76_62 (kg_callv 20 1 rfl rfl rfl rfl (Nat.le_of_ble_eq_true rfl) (Nat.le_of_ble_eq_true rfl) (Nat.le_of_ble_eq_true rfl) h rfl)
theorem d76_65 : decode (mB 76) 65 = .ok (.iinc 6 1, 3) := by decide +kernel
theorem s76_65 {l0 l1 l2 l3 l4 l5 : Option Value} {st : List Value} {x : Int32} {m : kMem} {Q : Option Value → kMem → Prop} (hp : kNL l5 = true) : kJ 76 65 [l0, l1, l2, l3, l4, l5, some (.int x)] st m Q = kJ 76 68 [l0, l1, l2, l3, l4, l5, some (.int (x + (nI 1)))] st m Q := kJ_next d76_65 (kg_inc rfl (Nat.le_of_ble_eq_true rfl) hp)
theorem d76_68 : decode (mB 76) 68 = .ok (.goto (-38), 3) := by decide +kernel
theorem s76_68 {l0 l1 l2 l3 l4 l5 l6 : Option Value} {st : List Value} {m : kMem} {Q : Option Value → kMem → Prop} : kJ 76 68 [l0, l1, l2, l3, l4, l5, l6] st m Q = kJ 76 30 [l0, l1, l2, l3, l4, l5, l6] st m Q := kJ_next d76_68 rfl
theorem d76_71 : decode (mB 76) 71 = .ok (.lload 4, 2) := by decide +kernel
theorem s76_71 {l0 l1 l2 l3 l5 l6 : Option Value} {st : List Value} {x : Int64} {m : kMem} {Q : Option Value → kMem → Prop} : kJ 76 71 [l0, l1, l2, l3, some (.long x), l5, l6] st m Q = kJ 76 73 [l0, l1, l2, l3, some (.long x), l5, l6] (.long x :: st) m Q := kJ_next d76_71 rfl
theorem d76_73 : decode (mB 76) 73 = .ok (.ldc2_w 198, 3) := by decide +kernel
theorem s76_73 {l0 l1 l2 l3 l4 l5 l6 : Option Value} {st : List Value} {m : kMem} {Q : Option Value → kMem → Prop} : kJ 76 73 [l0, l1, l2, l3, l4, l5, l6] st m Q = kJ 76 76 [l0, l1, l2, l3, l4, l5, l6] (.long (10) :: st) m Q := kJ_next d76_73 rfl
theorem d76_76 : decode (mB 76) 76 = .ok (.iload_n 2, 1) := by decide +kernel
theorem s76_76 {l0 l1 l3 l4 l5 l6 : Option Value} {st : List Value} {x : Int32} {m : kMem} {Q : Option Value → kMem → Prop} : kJ 76 76 [l0, l1, some (.int x), l3, l4, l5, l6] st m Q = kJ 76 77 [l0, l1, some (.int x), l3, l4, l5, l6] (.int x :: st) m Q := kJ_next d76_76 rfl
theorem d76_77 : decode (mB 76) 77 = .ok (.invokestatic 200, 3) := by decide +kernel
theorem s76_77 {l0 l1 l2 l3 l4 l5 l6 : Option Value} {v0 : Int32} {v1 : Int64} {v2 : Int64} {m : kMem} {Q : Option Value → kMem → Prop} : kJ 76 77 [l0, l1, l2, l3, l4, l5, l6] [.int v0, .long v1, .long v2] m Q = kJ 99 0 [some (.long v1), none, some (.int v0), none, none, none] [] m (fun v m2 => kJ 76 80 [l0, l1, l2, l3, l4, l5, l6] (v.toList ++ [.long v2]) m2 Q) := kJ_call d76_77 (kg_calls 99 2 rfl rfl (Nat.le_of_ble_eq_true rfl) (Nat.le_of_ble_eq_true rfl) (Nat.le_of_ble_eq_true rfl) (Nat.le_of_ble_eq_true rfl))
theorem d76_80 : decode (mB 76) 80 = .ok (.iload_n 3, 1) := by decide +kernel
theorem s76_80 {l0 l1 l2 l4 l5 l6 : Option Value} {st : List Value} {x : Int32} {m : kMem} {Q : Option Value → kMem → Prop} : kJ 76 80 [l0, l1, l2, some (.int x), l4, l5, l6] st m Q = kJ 76 81 [l0, l1, l2, some (.int x), l4, l5, l6] (.int x :: st) m Q := kJ_next d76_80 rfl
theorem d76_81 : decode (mB 76) 81 = .ok (.invokestatic 204, 3) := by decide +kernel
theorem s76_81 {l0 l1 l2 l3 l4 l5 l6 : Option Value} {v0 : Int32} {v1 : Int64} {v2 : Int64} {m : kMem} {Q : Option Value → kMem → Prop} : kJ 76 81 [l0, l1, l2, l3, l4, l5, l6] [.int v0, .long v1, .long v2] m Q = kJ 101 0 [some (.long v2), none, some (.long v1), none, some (.int v0), none, none] [] m (fun v m2 => kJ 76 84 [l0, l1, l2, l3, l4, l5, l6] (v.toList ++ []) m2 Q) := kJ_call d76_81 (kg_calls 101 3 rfl rfl (Nat.le_of_ble_eq_true rfl) (Nat.le_of_ble_eq_true rfl) (Nat.le_of_ble_eq_true rfl) (Nat.le_of_ble_eq_true rfl))
theorem d76_84 : decode (mB 76) 84 = .ok (.lreturn, 1) := by decide +kernel
theorem s76_84 {l0 l1 l2 l3 l4 l5 l6 : Option Value} {x : Int64} {m : kMem} {Q : Option Value → kMem → Prop} : kJ 76 84 [l0, l1, l2, l3, l4, l5, l6] [.long x] m Q = Q (some (.long x)) m := kJ_ret d76_84 rfl
theorem d77_0 : decode (mB 77) 0 = .ok (.iload_n 1, 1) := by decide +kernel
theorem s77_0 {l0 l2 l3 : Option Value} {st : List Value} {x : Int32} {m : kMem} {Q : Option Value → kMem → Prop} : kJ 77 0 [l0, some (.int x), l2, l3] st m Q = kJ 77 1 [l0, some (.int x), l2, l3] (.int x :: st) m Q := kJ_next d77_0 rfl
theorem d77_1 : decode (mB 77) 1 = .ok (.iconst 0, 1) := by decide +kernel
theorem s77_1 {l0 l1 l2 l3 : Option Value} {st : List Value} {m : kMem} {Q : Option Value → kMem → Prop} : kJ 77 1 [l0, l1, l2, l3] st m Q = kJ 77 2 [l0, l1, l2, l3] (.int (nI 0) :: st) m Q := kJ_next d77_1 rfl
theorem d77_2 : decode (mB 77) 2 = .ok (.bipush 20, 2) := by decide +kernel
theorem s77_2 {l0 l1 l2 l3 : Option Value} {st : List Value} {m : kMem} {Q : Option Value → kMem → Prop} : kJ 77 2 [l0, l1, l2, l3] st m Q = kJ 77 4 [l0, l1, l2, l3] (.int (nI 20) :: st) m Q := kJ_next d77_2 rfl
theorem d77_4 : decode (mB 77) 4 = .ok (.invokestatic 55, 3) := by decide +kernel
theorem s77_4 {l0 l1 l2 l3 : Option Value} {v0 : Int32} {v1 : Int32} {v2 : Int32} {m : kMem} {Q : Option Value → kMem → Prop} : kJ 77 4 [l0, l1, l2, l3] [.int v0, .int v1, .int v2] m Q = kJ 90 0 [some (.int v2), some (.int v1), some (.int v0)] [] m (fun v m2 => kJ 77 7 [l0, l1, l2, l3] (v.toList ++ []) m2 Q) := kJ_call d77_4 (kg_calls 90 3 rfl rfl (Nat.le_of_ble_eq_true rfl) (Nat.le_of_ble_eq_true rfl) (Nat.le_of_ble_eq_true rfl) (Nat.le_of_ble_eq_true rfl))
theorem d77_7 : decode (mB 77) 7 = .ok (.ifCond .eq 24, 3) := by decide +kernel
theorem s77_7 {l0 l1 l2 l3 : Option Value} {st : List Value} {a : Int32} {m : kMem} {Q : Option Value → kMem → Prop} : kJ 77 7 [l0, l1, l2, l3] (.int a :: st) m Q = (if a = 0 then kJ 77 31 [l0, l1, l2, l3] st m Q else kJ 77 10 [l0, l1, l2, l3] st m Q) := kJ_if d77_7 rfl (fun h => kJ_next d77_7 h) (fun h => kJ_next d77_7 h)
theorem d77_10 : decode (mB 77) 10 = .ok (.aload_n 0, 1) := by decide +kernel
theorem s77_10 {l1 l2 l3 : Option Value} {st : List Value} {x : Nat} {m : kMem} {Q : Option Value → kMem → Prop} : kJ 77 10 [some (.ref x), l1, l2, l3] st m Q = kJ 77 11 [some (.ref x), l1, l2, l3] (.ref x :: st) m Q := kJ_next d77_10 rfl
theorem d77_11 : decode (mB 77) 11 = .ok (.getfield 10, 3) := by decide +kernel
theorem s77_11 {l0 l1 l2 l3 : Option Value} {st : List Value} {q : Nat} {mi : Nat → Nat → Int32} {ml : Nat → Nat → Int64} {mr : Nat → Nat → Option Nat} {nx : Nat} {Q : Option Value → kMem → Prop} (h : kIs nx q 4 = true) : kJ 77 11 [l0, l1, l2, l3] (.ref q :: st) (mi, ml, mr, nx) Q = kJ 77 14 [l0, l1, l2, l3] (va_rf (mr q 0) :: st) (mi, ml, mr, nx) Q := kJ_next d77_11 (kg_getr 4 0 rfl h (by decide))
theorem d77_14 : decode (mB 77) 14 = .ok (.iload_n 2, 1) := by decide +kernel
theorem s77_14 {l0 l1 l3 : Option Value} {st : List Value} {x : Int32} {m : kMem} {Q : Option Value → kMem → Prop} : kJ 77 14 [l0, l1, some (.int x), l3] st m Q = kJ 77 15 [l0, l1, some (.int x), l3] (.int x :: st) m Q := kJ_next d77_14 rfl
theorem d77_15 : decode (mB 77) 15 = .ok (.invokevirtual 108, 3) := by decide +kernel
theorem s77_15 {l0 l1 l2 l3 : Option Value} {v0 : Int32} {v1 : Nat} {m : kMem} {Q : Option Value → kMem → Prop} (h : kIs m.2.2.2 v1 1 = true) : kJ 77 15 [l0, l1, l2, l3] [.int v0, .ref v1] m Q = kJ 7 0 [some (.ref v1), some (.int v0)] [] m (fun v m2 => kJ 77 18 [l0, l1, l2, l3] (v.toList ++ []) m2 Q) := kJ_call d77_15 (kg_callv 7 1 rfl rfl rfl rfl (Nat.le_of_ble_eq_true rfl) (Nat.le_of_ble_eq_true rfl) (Nat.le_of_ble_eq_true rfl) h rfl)
theorem d77_18 : decode (mB 77) 18 = .ok (.ifCond .eq 13, 3) := by decide +kernel
theorem s77_18 {l0 l1 l2 l3 : Option Value} {st : List Value} {a : Int32} {m : kMem} {Q : Option Value → kMem → Prop} : kJ 77 18 [l0, l1, l2, l3] (.int a :: st) m Q = (if a = 0 then kJ 77 31 [l0, l1, l2, l3] st m Q else kJ 77 21 [l0, l1, l2, l3] st m Q) := kJ_if d77_18 rfl (fun h => kJ_next d77_18 h) (fun h => kJ_next d77_18 h)
theorem d77_21 : decode (mB 77) 21 = .ok (.iload_n 3, 1) := by decide +kernel
theorem s77_21 {l0 l1 l2 : Option Value} {st : List Value} {x : Int32} {m : kMem} {Q : Option Value → kMem → Prop} : kJ 77 21 [l0, l1, l2, some (.int x)] st m Q = kJ 77 22 [l0, l1, l2, some (.int x)] (.int x :: st) m Q := kJ_next d77_21 rfl
theorem d77_22 : decode (mB 77) 22 = .ok (.iconst 0, 1) := by decide +kernel
theorem s77_22 {l0 l1 l2 l3 : Option Value} {st : List Value} {m : kMem} {Q : Option Value → kMem → Prop} : kJ 77 22 [l0, l1, l2, l3] st m Q = kJ 77 23 [l0, l1, l2, l3] (.int (nI 0) :: st) m Q := kJ_next d77_22 rfl
theorem d77_23 : decode (mB 77) 23 = .ok (.bipush 20, 2) := by decide +kernel
theorem s77_23 {l0 l1 l2 l3 : Option Value} {st : List Value} {m : kMem} {Q : Option Value → kMem → Prop} : kJ 77 23 [l0, l1, l2, l3] st m Q = kJ 77 25 [l0, l1, l2, l3] (.int (nI 20) :: st) m Q := kJ_next d77_23 rfl
theorem d77_25 : decode (mB 77) 25 = .ok (.invokestatic 55, 3) := by decide +kernel
theorem s77_25 {l0 l1 l2 l3 : Option Value} {v0 : Int32} {v1 : Int32} {v2 : Int32} {m : kMem} {Q : Option Value → kMem → Prop} : kJ 77 25 [l0, l1, l2, l3] [.int v0, .int v1, .int v2] m Q = kJ 90 0 [some (.int v2), some (.int v1), some (.int v0)] [] m (fun v m2 => kJ 77 28 [l0, l1, l2, l3] (v.toList ++ []) m2 Q) := kJ_call d77_25 (kg_calls 90 3 rfl rfl (Nat.le_of_ble_eq_true rfl) (Nat.le_of_ble_eq_true rfl) (Nat.le_of_ble_eq_true rfl) (Nat.le_of_ble_eq_true rfl))
theorem d77_28 : decode (mB 77) 28 = .ok (.ifCond .ne 5, 3) := by decide +kernel
theorem s77_28 {l0 l1 l2 l3 : Option Value} {st : List Value} {a : Int32} {m : kMem} {Q : Option Value → kMem → Prop} : kJ 77 28 [l0, l1, l2, l3] (.int a :: st) m Q = (if a = 0 then kJ 77 31 [l0, l1, l2, l3] st m Q else kJ 77 33 [l0, l1, l2, l3] st m Q) := kJ_if d77_28 rfl (fun h => kJ_next d77_28 h) (fun h => kJ_next d77_28 h)
theorem d77_31 : decode (mB 77) 31 = .ok (.iconst (-1), 1) := by decide +kernel
theorem s77_31 {l0 l1 l2 l3 : Option Value} {st : List Value} {m : kMem} {Q : Option Value → kMem → Prop} : kJ 77 31 [l0, l1, l2, l3] st m Q = kJ 77 32 [l0, l1, l2, l3] (.int (-1) :: st) m Q := kJ_next d77_31 rfl
theorem d77_32 : decode (mB 77) 32 = .ok (.ireturn, 1) := by decide +kernel
theorem s77_32 {l0 l1 l2 l3 : Option Value} {x : Int32} {m : kMem} {Q : Option Value → kMem → Prop} : kJ 77 32 [l0, l1, l2, l3] [.int x] m Q = Q (some (.int x)) m := kJ_ret d77_32 rfl
theorem d77_33 : decode (mB 77) 33 = .ok (.aload_n 0, 1) := by decide +kernel
theorem s77_33 {l1 l2 l3 : Option Value} {st : List Value} {x : Nat} {m : kMem} {Q : Option Value → kMem → Prop} : kJ 77 33 [some (.ref x), l1, l2, l3] st m Q = kJ 77 34 [some (.ref x), l1, l2, l3] (.ref x :: st) m Q := kJ_next d77_33 rfl
theorem d77_34 : decode (mB 77) 34 = .ok (.getfield 10, 3) := by decide +kernel
theorem s77_34 {l0 l1 l2 l3 : Option Value} {st : List Value} {q : Nat} {mi : Nat → Nat → Int32} {ml : Nat → Nat → Int64} {mr : Nat → Nat → Option Nat} {nx : Nat} {Q : Option Value → kMem → Prop} (h : kIs nx q 4 = true) : kJ 77 34 [l0, l1, l2, l3] (.ref q :: st) (mi, ml, mr, nx) Q = kJ 77 37 [l0, l1, l2, l3] (va_rf (mr q 0) :: st) (mi, ml, mr, nx) Q := kJ_next d77_34 (kg_getr 4 0 rfl h (by decide))
theorem d77_37 : decode (mB 77) 37 = .ok (.getfield 208, 3) := by decide +kernel
theorem s77_37 {l0 l1 l2 l3 : Option Value} {st : List Value} {q : Nat} {mi : Nat → Nat → Int32} {ml : Nat → Nat → Int64} {mr : Nat → Nat → Option Nat} {nx : Nat} {Q : Option Value → kMem → Prop} (h : kIs nx q 1 = true) : kJ 77 37 [l0, l1, l2, l3] (.ref q :: st) (mi, ml, mr, nx) Q = kJ 77 40 [l0, l1, l2, l3] (.int (mi q 13) :: st) (mi, ml, mr, nx) Q := kJ_next d77_37 (kg_geti 1 13 rfl h (by decide))
theorem d77_40 : decode (mB 77) 40 = .ok (.bipush 6, 2) := by decide +kernel
theorem s77_40 {l0 l1 l2 l3 : Option Value} {st : List Value} {m : kMem} {Q : Option Value → kMem → Prop} : kJ 77 40 [l0, l1, l2, l3] st m Q = kJ 77 42 [l0, l1, l2, l3] (.int (nI 6) :: st) m Q := kJ_next d77_40 rfl
theorem d77_42 : decode (mB 77) 42 = .ok (.if_icmp .lt 6, 3) := by decide +kernel
theorem s77_42 {l0 l1 l2 l3 : Option Value} {st : List Value} {a b : Int32} {m : kMem} {Q : Option Value → kMem → Prop} : kJ 77 42 [l0, l1, l2, l3] (.int b :: .int a :: st) m Q = (if a < b then kJ 77 48 [l0, l1, l2, l3] st m Q else kJ 77 45 [l0, l1, l2, l3] st m Q) := kJ_if d77_42 rfl (fun h => kJ_next d77_42 h) (fun h => kJ_next d77_42 h)
theorem d77_45 : decode (mB 77) 45 = .ok (.bipush (-3), 2) := by decide +kernel
theorem s77_45 {l0 l1 l2 l3 : Option Value} {st : List Value} {m : kMem} {Q : Option Value → kMem → Prop} : kJ 77 45 [l0, l1, l2, l3] st m Q = kJ 77 47 [l0, l1, l2, l3] (.int (-3) :: st) m Q := kJ_next d77_45 rfl
theorem d77_47 : decode (mB 77) 47 = .ok (.ireturn, 1) := by decide +kernel
theorem s77_47 {l0 l1 l2 l3 : Option Value} {x : Int32} {m : kMem} {Q : Option Value → kMem → Prop} : kJ 77 47 [l0, l1, l2, l3] [.int x] m Q = Q (some (.int x)) m := kJ_ret d77_47 rfl
theorem d77_48 : decode (mB 77) 48 = .ok (.aload_n 0, 1) := by decide +kernel
theorem s77_48 {l1 l2 l3 : Option Value} {st : List Value} {x : Nat} {m : kMem} {Q : Option Value → kMem → Prop} : kJ 77 48 [some (.ref x), l1, l2, l3] st m Q = kJ 77 49 [some (.ref x), l1, l2, l3] (.ref x :: st) m Q := kJ_next d77_48 rfl
theorem d77_49 : decode (mB 77) 49 = .ok (.getfield 10, 3) := by decide +kernel
theorem s77_49 {l0 l1 l2 l3 : Option Value} {st : List Value} {q : Nat} {mi : Nat → Nat → Int32} {ml : Nat → Nat → Int64} {mr : Nat → Nat → Option Nat} {nx : Nat} {Q : Option Value → kMem → Prop} (h : kIs nx q 4 = true) : kJ 77 49 [l0, l1, l2, l3] (.ref q :: st) (mi, ml, mr, nx) Q = kJ 77 52 [l0, l1, l2, l3] (va_rf (mr q 0) :: st) (mi, ml, mr, nx) Q := kJ_next d77_49 (kg_getr 4 0 rfl h (by decide))
theorem d77_52 : decode (mB 77) 52 = .ok (.iload_n 1, 1) := by decide +kernel
theorem s77_52 {l0 l2 l3 : Option Value} {st : List Value} {x : Int32} {m : kMem} {Q : Option Value → kMem → Prop} : kJ 77 52 [l0, some (.int x), l2, l3] st m Q = kJ 77 53 [l0, some (.int x), l2, l3] (.int x :: st) m Q := kJ_next d77_52 rfl
theorem d77_53 : decode (mB 77) 53 = .ok (.iload_n 2, 1) := by decide +kernel
theorem s77_53 {l0 l1 l3 : Option Value} {st : List Value} {x : Int32} {m : kMem} {Q : Option Value → kMem → Prop} : kJ 77 53 [l0, l1, some (.int x), l3] st m Q = kJ 77 54 [l0, l1, some (.int x), l3] (.int x :: st) m Q := kJ_next d77_53 rfl
theorem d77_54 : decode (mB 77) 54 = .ok (.iload_n 3, 1) := by decide +kernel
theorem s77_54 {l0 l1 l2 : Option Value} {st : List Value} {x : Int32} {m : kMem} {Q : Option Value → kMem → Prop} : kJ 77 54 [l0, l1, l2, some (.int x)] st m Q = kJ 77 55 [l0, l1, l2, some (.int x)] (.int x :: st) m Q := kJ_next d77_54 rfl
theorem d77_55 : decode (mB 77) 55 = .ok (.invokevirtual 211, 3) := by decide +kernel
theorem s77_55 {l0 l1 l2 l3 : Option Value} {v0 : Int32} {v1 : Int32} {v2 : Int32} {v3 : Nat} {m : kMem} {Q : Option Value → kMem → Prop} (h : kIs m.2.2.2 v3 1 = true) : kJ 77 55 [l0, l1, l2, l3] [.int v0, .int v1, .int v2, .ref v3] m Q = kJ 14 0 [some (.ref v3), some (.int v2), some (.int v1), some (.int v0)] [] m (fun v m2 => kJ 77 58 [l0, l1, l2, l3] (v.toList ++ []) m2 Q) := kJ_call d77_55 (kg_callv 14 3 rfl rfl rfl rfl (Nat.le_of_ble_eq_true rfl) (Nat.le_of_ble_eq_true rfl) (Nat.le_of_ble_eq_true rfl) h rfl)
theorem d77_58 : decode (mB 77) 58 = .ok (.aload_n 0, 1) := by decide +kernel
theorem s77_58 {l1 l2 l3 : Option Value} {st : List Value} {x : Nat} {m : kMem} {Q : Option Value → kMem → Prop} : kJ 77 58 [some (.ref x), l1, l2, l3] st m Q = kJ 77 59 [some (.ref x), l1, l2, l3] (.ref x :: st) m Q := kJ_next d77_58 rfl
theorem d77_59 : decode (mB 77) 59 = .ok (.getfield 10, 3) := by decide +kernel
theorem s77_59 {l0 l1 l2 l3 : Option Value} {st : List Value} {q : Nat} {mi : Nat → Nat → Int32} {ml : Nat → Nat → Int64} {mr : Nat → Nat → Option Nat} {nx : Nat} {Q : Option Value → kMem → Prop} (h : kIs nx q 4 = true) : kJ 77 59 [l0, l1, l2, l3] (.ref q :: st) (mi, ml, mr, nx) Q = kJ 77 62 [l0, l1, l2, l3] (va_rf (mr q 0) :: st) (mi, ml, mr, nx) Q := kJ_next d77_59 (kg_getr 4 0 rfl h (by decide))
theorem d77_62 : decode (mB 77) 62 = .ok (.getfield 208, 3) := by decide +kernel
theorem s77_62 {l0 l1 l2 l3 : Option Value} {st : List Value} {q : Nat} {mi : Nat → Nat → Int32} {ml : Nat → Nat → Int64} {mr : Nat → Nat → Option Nat} {nx : Nat} {Q : Option Value → kMem → Prop} (h : kIs nx q 1 = true) : kJ 77 62 [l0, l1, l2, l3] (.ref q :: st) (mi, ml, mr, nx) Q = kJ 77 65 [l0, l1, l2, l3] (.int (mi q 13) :: st) (mi, ml, mr, nx) Q := kJ_next d77_62 (kg_geti 1 13 rfl h (by decide))
theorem d77_65 : decode (mB 77) 65 = .ok (.ireturn, 1) := by decide +kernel
theorem s77_65 {l0 l1 l2 l3 : Option Value} {x : Int32} {m : kMem} {Q : Option Value → kMem → Prop} : kJ 77 65 [l0, l1, l2, l3] [.int x] m Q = Q (some (.int x)) m := kJ_ret d77_65 rfl
theorem d78_0 : decode (mB 78) 0 = .ok (.iload_n 1, 1) := by decide +kernel
theorem s78_0 {l0 l2 : Option Value} {st : List Value} {x : Int32} {m : kMem} {Q : Option Value → kMem → Prop} : kJ 78 0 [l0, some (.int x), l2] st m Q = kJ 78 1 [l0, some (.int x), l2] (.int x :: st) m Q := kJ_next d78_0 rfl
theorem d78_1 : decode (mB 78) 1 = .ok (.iconst 0, 1) := by decide +kernel
theorem s78_1 {l0 l1 l2 : Option Value} {st : List Value} {m : kMem} {Q : Option Value → kMem → Prop} : kJ 78 1 [l0, l1, l2] st m Q = kJ 78 2 [l0, l1, l2] (.int (nI 0) :: st) m Q := kJ_next d78_1 rfl
theorem d78_2 : decode (mB 78) 2 = .ok (.aload_n 0, 1) := by decide +kernel
theorem s78_2 {l1 l2 : Option Value} {st : List Value} {x : Nat} {m : kMem} {Q : Option Value → kMem → Prop} : kJ 78 2 [some (.ref x), l1, l2] st m Q = kJ 78 3 [some (.ref x), l1, l2] (.ref x :: st) m Q := kJ_next d78_2 rfl
theorem d78_3 : decode (mB 78) 3 = .ok (.getfield 10, 3) := by decide +kernel
theorem s78_3 {l0 l1 l2 : Option Value} {st : List Value} {q : Nat} {mi : Nat → Nat → Int32} {ml : Nat → Nat → Int64} {mr : Nat → Nat → Option Nat} {nx : Nat} {Q : Option Value → kMem → Prop} (h : kIs nx q 4 = true) : kJ 78 3 [l0, l1, l2] (.ref q :: st) (mi, ml, mr, nx) Q = kJ 78 6 [l0, l1, l2] (va_rf (mr q 0) :: st) (mi, ml, mr, nx) Q := kJ_next d78_3 (kg_getr 4 0 rfl h (by decide))
theorem d78_6 : decode (mB 78) 6 = .ok (.getfield 208, 3) := by decide +kernel
theorem s78_6 {l0 l1 l2 : Option Value} {st : List Value} {q : Nat} {mi : Nat → Nat → Int32} {ml : Nat → Nat → Int64} {mr : Nat → Nat → Option Nat} {nx : Nat} {Q : Option Value → kMem → Prop} (h : kIs nx q 1 = true) : kJ 78 6 [l0, l1, l2] (.ref q :: st) (mi, ml, mr, nx) Q = kJ 78 9 [l0, l1, l2] (.int (mi q 13) :: st) (mi, ml, mr, nx) Q := kJ_next d78_6 (kg_geti 1 13 rfl h (by decide))
theorem d78_9 : decode (mB 78) 9 = .ok (.invokestatic 55, 3) := by decide +kernel
theorem s78_9 {l0 l1 l2 : Option Value} {v0 : Int32} {v1 : Int32} {v2 : Int32} {m : kMem} {Q : Option Value → kMem → Prop} : kJ 78 9 [l0, l1, l2] [.int v0, .int v1, .int v2] m Q = kJ 90 0 [some (.int v2), some (.int v1), some (.int v0)] [] m (fun v m2 => kJ 78 12 [l0, l1, l2] (v.toList ++ []) m2 Q) := kJ_call d78_9 (kg_calls 90 3 rfl rfl (Nat.le_of_ble_eq_true rfl) (Nat.le_of_ble_eq_true rfl) (Nat.le_of_ble_eq_true rfl) (Nat.le_of_ble_eq_true rfl))
theorem d78_12 : decode (mB 78) 12 = .ok (.ifCond .ne 5, 3) := by decide +kernel
theorem s78_12 {l0 l1 l2 : Option Value} {st : List Value} {a : Int32} {m : kMem} {Q : Option Value → kMem → Prop} : kJ 78 12 [l0, l1, l2] (.int a :: st) m Q = (if a = 0 then kJ 78 15 [l0, l1, l2] st m Q else kJ 78 17 [l0, l1, l2] st m Q) := kJ_if d78_12 rfl (fun h => kJ_next d78_12 h) (fun h => kJ_next d78_12 h)
theorem d78_15 : decode (mB 78) 15 = .ok (.iconst (-1), 1) := by decide +kernel
theorem s78_15 {l0 l1 l2 : Option Value} {st : List Value} {m : kMem} {Q : Option Value → kMem → Prop} : kJ 78 15 [l0, l1, l2] st m Q = kJ 78 16 [l0, l1, l2] (.int (-1) :: st) m Q := kJ_next d78_15 rfl
theorem d78_16 : decode (mB 78) 16 = .ok (.ireturn, 1) := by decide +kernel
theorem s78_16 {l0 l1 l2 : Option Value} {x : Int32} {m : kMem} {Q : Option Value → kMem → Prop} : kJ 78 16 [l0, l1, l2] [.int x] m Q = Q (some (.int x)) m := kJ_ret d78_16 rfl
theorem d78_17 : decode (mB 78) 17 = .ok (.aload_n 0, 1) := by decide +kernel
theorem s78_17 {l1 l2 : Option Value} {st : List Value} {x : Nat} {m : kMem} {Q : Option Value → kMem → Prop} : kJ 78 17 [some (.ref x), l1, l2] st m Q = kJ 78 18 [some (.ref x), l1, l2] (.ref x :: st) m Q := kJ_next d78_17 rfl
theorem d78_18 : decode (mB 78) 18 = .ok (.getfield 10, 3) := by decide +kernel
theorem s78_18 {l0 l1 l2 : Option Value} {st : List Value} {q : Nat} {mi : Nat → Nat → Int32} {ml : Nat → Nat → Int64} {mr : Nat → Nat → Option Nat} {nx : Nat} {Q : Option Value → kMem → Prop} (h : kIs nx q 4 = true) : kJ 78 18 [l0, l1, l2] (.ref q :: st) (mi, ml, mr, nx) Q = kJ 78 21 [l0, l1, l2] (va_rf (mr q 0) :: st) (mi, ml, mr, nx) Q := kJ_next d78_18 (kg_getr 4 0 rfl h (by decide))
theorem d78_21 : decode (mB 78) 21 = .ok (.getfield 208, 3) := by decide +kernel
theorem s78_21 {l0 l1 l2 : Option Value} {st : List Value} {q : Nat} {mi : Nat → Nat → Int32} {ml : Nat → Nat → Int64} {mr : Nat → Nat → Option Nat} {nx : Nat} {Q : Option Value → kMem → Prop} (h : kIs nx q 1 = true) : kJ 78 21 [l0, l1, l2] (.ref q :: st) (mi, ml, mr, nx) Q = kJ 78 24 [l0, l1, l2] (.int (mi q 13) :: st) (mi, ml, mr, nx) Q := kJ_next d78_21 (kg_geti 1 13 rfl h (by decide))
theorem d78_24 : decode (mB 78) 24 = .ok (.istore_n 2, 1) := by decide +kernel
theorem s78_24 {l0 l1 l2 : Option Value} {st : List Value} {x : Int32} {m : kMem} {Q : Option Value → kMem → Prop} (hp : kNL l1 = true) : kJ 78 24 [l0, l1, l2] (.int x :: st) m Q = kJ 78 25 [l0, l1, some (.int x)] st m Q := kJ_next d78_24 (kg_sti (Nat.le_of_ble_eq_true rfl) hp)
theorem d78_25 : decode (mB 78) 25 = .ok (.aload_n 0, 1) := by decide +kernel
theorem s78_25 {l1 l2 : Option Value} {st : List Value} {x : Nat} {m : kMem} {Q : Option Value → kMem → Prop} : kJ 78 25 [some (.ref x), l1, l2] st m Q = kJ 78 26 [some (.ref x), l1, l2] (.ref x :: st) m Q := kJ_next d78_25 rfl
theorem d78_26 : decode (mB 78) 26 = .ok (.getfield 10, 3) := by decide +kernel
theorem s78_26 {l0 l1 l2 : Option Value} {st : List Value} {q : Nat} {mi : Nat → Nat → Int32} {ml : Nat → Nat → Int64} {mr : Nat → Nat → Option Nat} {nx : Nat} {Q : Option Value → kMem → Prop} (h : kIs nx q 4 = true) : kJ 78 26 [l0, l1, l2] (.ref q :: st) (mi, ml, mr, nx) Q = kJ 78 29 [l0, l1, l2] (va_rf (mr q 0) :: st) (mi, ml, mr, nx) Q := kJ_next d78_26 (kg_getr 4 0 rfl h (by decide))
theorem d78_29 : decode (mB 78) 29 = .ok (.iload_n 1, 1) := by decide +kernel
theorem s78_29 {l0 l2 : Option Value} {st : List Value} {x : Int32} {m : kMem} {Q : Option Value → kMem → Prop} : kJ 78 29 [l0, some (.int x), l2] st m Q = kJ 78 30 [l0, some (.int x), l2] (.int x :: st) m Q := kJ_next d78_29 rfl
theorem d78_30 : decode (mB 78) 30 = .ok (.putfield 208, 3) := by decide +kernel
theorem s78_30 {l0 l1 l2 : Option Value} {st : List Value} {q : Nat} {x : Int32} {mi : Nat → Nat → Int32} {ml : Nat → Nat → Int64} {mr : Nat → Nat → Option Nat} {nx : Nat} {Q : Option Value → kMem → Prop} (h : kIs nx q 1 = true) : kJ 78 30 [l0, l1, l2] (.int x :: .ref q :: st) (mi, ml, mr, nx) Q = kJ 78 33 [l0, l1, l2] st (kup mi q 13 x, ml, mr, nx) Q := kJ_next d78_30 (kg_puti 1 13 rfl h (by decide) (Or.inl (by decide)))
theorem d78_33 : decode (mB 78) 33 = .ok (.iload_n 2, 1) := by decide +kernel
theorem s78_33 {l0 l1 : Option Value} {st : List Value} {x : Int32} {m : kMem} {Q : Option Value → kMem → Prop} : kJ 78 33 [l0, l1, some (.int x)] st m Q = kJ 78 34 [l0, l1, some (.int x)] (.int x :: st) m Q := kJ_next d78_33 rfl
theorem d78_34 : decode (mB 78) 34 = .ok (.ireturn, 1) := by decide +kernel
theorem s78_34 {l0 l1 l2 : Option Value} {x : Int32} {m : kMem} {Q : Option Value → kMem → Prop} : kJ 78 34 [l0, l1, l2] [.int x] m Q = Q (some (.int x)) m := kJ_ret d78_34 rfl
theorem d79_0 : decode (mB 79) 0 = .ok (.aload_n 0, 1) := by decide +kernel
theorem s79_0 {l1 l2 l3 : Option Value} {st : List Value} {x : Nat} {m : kMem} {Q : Option Value → kMem → Prop} : kJ 79 0 [some (.ref x), l1, l2, l3] st m Q = kJ 79 1 [some (.ref x), l1, l2, l3] (.ref x :: st) m Q := kJ_next d79_0 rfl
theorem d79_1 : decode (mB 79) 1 = .ok (.getfield 10, 3) := by decide +kernel
theorem s79_1 {l0 l1 l2 l3 : Option Value} {st : List Value} {q : Nat} {mi : Nat → Nat → Int32} {ml : Nat → Nat → Int64} {mr : Nat → Nat → Option Nat} {nx : Nat} {Q : Option Value → kMem → Prop} (h : kIs nx q 4 = true) : kJ 79 1 [l0, l1, l2, l3] (.ref q :: st) (mi, ml, mr, nx) Q = kJ 79 4 [l0, l1, l2, l3] (va_rf (mr q 0) :: st) (mi, ml, mr, nx) Q := kJ_next d79_1 (kg_getr 4 0 rfl h (by decide))
theorem d79_4 : decode (mB 79) 4 = .ok (.iload_n 1, 1) := by decide +kernel
theorem s79_4 {l0 l2 l3 : Option Value} {st : List Value} {x : Int32} {m : kMem} {Q : Option Value → kMem → Prop} : kJ 79 4 [l0, some (.int x), l2, l3] st m Q = kJ 79 5 [l0, some (.int x), l2, l3] (.int x :: st) m Q := kJ_next d79_4 rfl
theorem d79_5 : decode (mB 79) 5 = .ok (.invokevirtual 108, 3) := by decide +kernel
theorem s79_5 {l0 l1 l2 l3 : Option Value} {v0 : Int32} {v1 : Nat} {m : kMem} {Q : Option Value → kMem → Prop} (h : kIs m.2.2.2 v1 1 = true) : kJ 79 5 [l0, l1, l2, l3] [.int v0, .ref v1] m Q = kJ 7 0 [some (.ref v1), some (.int v0)] [] m (fun v m2 => kJ 79 8 [l0, l1, l2, l3] (v.toList ++ []) m2 Q) := kJ_call d79_5 (kg_callv 7 1 rfl rfl rfl rfl (Nat.le_of_ble_eq_true rfl) (Nat.le_of_ble_eq_true rfl) (Nat.le_of_ble_eq_true rfl) h rfl)
theorem d79_8 : decode (mB 79) 8 = .ok (.ifCond .ne 5, 3) := by decide +kernel
theorem s79_8 {l0 l1 l2 l3 : Option Value} {st : List Value} {a : Int32} {m : kMem} {Q : Option Value → kMem → Prop} : kJ 79 8 [l0, l1, l2, l3] (.int a :: st) m Q = (if a = 0 then kJ 79 11 [l0, l1, l2, l3] st m Q else kJ 79 13 [l0, l1, l2, l3] st m Q) := kJ_if d79_8 rfl (fun h => kJ_next d79_8 h) (fun h => kJ_next d79_8 h)
theorem d79_11 : decode (mB 79) 11 = .ok (.iconst (-1), 1) := by decide +kernel
theorem s79_11 {l0 l1 l2 l3 : Option Value} {st : List Value} {m : kMem} {Q : Option Value → kMem → Prop} : kJ 79 11 [l0, l1, l2, l3] st m Q = kJ 79 12 [l0, l1, l2, l3] (.int (-1) :: st) m Q := kJ_next d79_11 rfl
theorem d79_12 : decode (mB 79) 12 = .ok (.ireturn, 1) := by decide +kernel
theorem s79_12 {l0 l1 l2 l3 : Option Value} {x : Int32} {m : kMem} {Q : Option Value → kMem → Prop} : kJ 79 12 [l0, l1, l2, l3] [.int x] m Q = Q (some (.int x)) m := kJ_ret d79_12 rfl
theorem d79_13 : decode (mB 79) 13 = .ok (.iconst 0, 1) := by decide +kernel
theorem s79_13 {l0 l1 l2 l3 : Option Value} {st : List Value} {m : kMem} {Q : Option Value → kMem → Prop} : kJ 79 13 [l0, l1, l2, l3] st m Q = kJ 79 14 [l0, l1, l2, l3] (.int (nI 0) :: st) m Q := kJ_next d79_13 rfl
theorem d79_14 : decode (mB 79) 14 = .ok (.istore_n 2, 1) := by decide +kernel
theorem s79_14 {l0 l1 l2 l3 : Option Value} {st : List Value} {x : Int32} {m : kMem} {Q : Option Value → kMem → Prop} (hp : kNL l1 = true) : kJ 79 14 [l0, l1, l2, l3] (.int x :: st) m Q = kJ 79 15 [l0, l1, some (.int x), l3] st m Q := kJ_next d79_14 (kg_sti (Nat.le_of_ble_eq_true rfl) hp)
theorem d79_15 : decode (mB 79) 15 = .ok (.iconst 0, 1) := by decide +kernel
theorem s79_15 {l0 l1 l2 l3 : Option Value} {st : List Value} {m : kMem} {Q : Option Value → kMem → Prop} : kJ 79 15 [l0, l1, l2, l3] st m Q = kJ 79 16 [l0, l1, l2, l3] (.int (nI 0) :: st) m Q := kJ_next d79_15 rfl
theorem d79_16 : decode (mB 79) 16 = .ok (.istore_n 3, 1) := by decide +kernel
theorem s79_16 {l0 l1 l2 l3 : Option Value} {st : List Value} {x : Int32} {m : kMem} {Q : Option Value → kMem → Prop} (hp : kNL l2 = true) : kJ 79 16 [l0, l1, l2, l3] (.int x :: st) m Q = kJ 79 17 [l0, l1, l2, some (.int x)] st m Q := kJ_next d79_16 (kg_sti (Nat.le_of_ble_eq_true rfl) hp)
theorem d79_17 : decode (mB 79) 17 = .ok (.iload_n 3, 1) := by decide +kernel
theorem s79_17 {l0 l1 l2 : Option Value} {st : List Value} {x : Int32} {m : kMem} {Q : Option Value → kMem → Prop} : kJ 79 17 [l0, l1, l2, some (.int x)] st m Q = kJ 79 18 [l0, l1, l2, some (.int x)] (.int x :: st) m Q := kJ_next d79_17 rfl
theorem d79_18 : decode (mB 79) 18 = .ok (.iconst 4, 1) := by decide +kernel
theorem s79_18 {l0 l1 l2 l3 : Option Value} {st : List Value} {m : kMem} {Q : Option Value → kMem → Prop} : kJ 79 18 [l0, l1, l2, l3] st m Q = kJ 79 19 [l0, l1, l2, l3] (.int (nI 4) :: st) m Q := kJ_next d79_18 rfl
theorem d79_19 : decode (mB 79) 19 = .ok (.if_icmp .ge 46, 3) := by decide +kernel
theorem s79_19 {l0 l1 l2 l3 : Option Value} {st : List Value} {a b : Int32} {m : kMem} {Q : Option Value → kMem → Prop} : kJ 79 19 [l0, l1, l2, l3] (.int b :: .int a :: st) m Q = (if b ≤ a then kJ 79 65 [l0, l1, l2, l3] st m Q else kJ 79 22 [l0, l1, l2, l3] st m Q) := kJ_if d79_19 rfl (fun h => kJ_next d79_19 h) (fun h => kJ_next d79_19 h)
theorem d79_22 : decode (mB 79) 22 = .ok (.aload_n 0, 1) := by decide +kernel
theorem s79_22 {l1 l2 l3 : Option Value} {st : List Value} {x : Nat} {m : kMem} {Q : Option Value → kMem → Prop} : kJ 79 22 [some (.ref x), l1, l2, l3] st m Q = kJ 79 23 [some (.ref x), l1, l2, l3] (.ref x :: st) m Q := kJ_next d79_22 rfl
theorem d79_23 : decode (mB 79) 23 = .ok (.getfield 16, 3) := by decide +kernel
theorem s79_23 {l0 l1 l2 l3 : Option Value} {st : List Value} {q : Nat} {mi : Nat → Nat → Int32} {ml : Nat → Nat → Int64} {mr : Nat → Nat → Option Nat} {nx : Nat} {Q : Option Value → kMem → Prop} (h : kIs nx q 4 = true) : kJ 79 23 [l0, l1, l2, l3] (.ref q :: st) (mi, ml, mr, nx) Q = kJ 79 26 [l0, l1, l2, l3] (va_rf (mr q 1) :: st) (mi, ml, mr, nx) Q := kJ_next d79_23 (kg_getr 4 1 rfl h (by decide))
theorem d79_26 : decode (mB 79) 26 = .ok (.aload_n 0, 1) := by decide +kernel
theorem s79_26 {l1 l2 l3 : Option Value} {st : List Value} {x : Nat} {m : kMem} {Q : Option Value → kMem → Prop} : kJ 79 26 [some (.ref x), l1, l2, l3] st m Q = kJ 79 27 [some (.ref x), l1, l2, l3] (.ref x :: st) m Q := kJ_next d79_26 rfl
theorem d79_27 : decode (mB 79) 27 = .ok (.getfield 10, 3) := by decide +kernel
theorem s79_27 {l0 l1 l2 l3 : Option Value} {st : List Value} {q : Nat} {mi : Nat → Nat → Int32} {ml : Nat → Nat → Int64} {mr : Nat → Nat → Option Nat} {nx : Nat} {Q : Option Value → kMem → Prop} (h : kIs nx q 4 = true) : kJ 79 27 [l0, l1, l2, l3] (.ref q :: st) (mi, ml, mr, nx) Q = kJ 79 30 [l0, l1, l2, l3] (va_rf (mr q 0) :: st) (mi, ml, mr, nx) Q := kJ_next d79_27 (kg_getr 4 0 rfl h (by decide))
theorem d79_30 : decode (mB 79) 30 = .ok (.invokevirtual 81, 3) := by decide +kernel
theorem s79_30 {l0 l1 l2 l3 : Option Value} {v0 : Nat} {v1 : Nat} {m : kMem} {Q : Option Value → kMem → Prop} (h : kIs m.2.2.2 v1 1 = true) : kJ 79 30 [l0, l1, l2, l3] [.ref v0, .ref v1] m Q = kJ 6 0 [some (.ref v1), some (.ref v0)] [] m (fun v m2 => kJ 79 33 [l0, l1, l2, l3] (v.toList ++ []) m2 Q) := kJ_call d79_30 (kg_callv 6 1 rfl rfl rfl rfl (Nat.le_of_ble_eq_true rfl) (Nat.le_of_ble_eq_true rfl) (Nat.le_of_ble_eq_true rfl) h rfl)
theorem d79_33 : decode (mB 79) 33 = .ok (.aload_n 0, 1) := by decide +kernel
theorem s79_33 {l1 l2 l3 : Option Value} {st : List Value} {x : Nat} {m : kMem} {Q : Option Value → kMem → Prop} : kJ 79 33 [some (.ref x), l1, l2, l3] st m Q = kJ 79 34 [some (.ref x), l1, l2, l3] (.ref x :: st) m Q := kJ_next d79_33 rfl
theorem d79_34 : decode (mB 79) 34 = .ok (.getfield 16, 3) := by decide +kernel
theorem s79_34 {l0 l1 l2 l3 : Option Value} {st : List Value} {q : Nat} {mi : Nat → Nat → Int32} {ml : Nat → Nat → Int64} {mr : Nat → Nat → Option Nat} {nx : Nat} {Q : Option Value → kMem → Prop} (h : kIs nx q 4 = true) : kJ 79 34 [l0, l1, l2, l3] (.ref q :: st) (mi, ml, mr, nx) Q = kJ 79 37 [l0, l1, l2, l3] (va_rf (mr q 1) :: st) (mi, ml, mr, nx) Q := kJ_next d79_34 (kg_getr 4 1 rfl h (by decide))
theorem d79_37 : decode (mB 79) 37 = .ok (.getfield 112, 3) := by decide +kernel
theorem s79_37 {l0 l1 l2 l3 : Option Value} {st : List Value} {q : Nat} {mi : Nat → Nat → Int32} {ml : Nat → Nat → Int64} {mr : Nat → Nat → Option Nat} {nx : Nat} {Q : Option Value → kMem → Prop} (h : kIs nx q 1 = true) : kJ 79 37 [l0, l1, l2, l3] (.ref q :: st) (mi, ml, mr, nx) Q = kJ 79 40 [l0, l1, l2, l3] (va_rf (mr q 1) :: st) (mi, ml, mr, nx) Q := kJ_next d79_37 (kg_getr 1 1 rfl h (by decide))
theorem d79_40 : decode (mB 79) 40 = .ok (.iload_n 1, 1) := by decide +kernel
theorem s79_40 {l0 l2 l3 : Option Value} {st : List Value} {x : Int32} {m : kMem} {Q : Option Value → kMem → Prop} : kJ 79 40 [l0, some (.int x), l2, l3] st m Q = kJ 79 41 [l0, some (.int x), l2, l3] (.int x :: st) m Q := kJ_next d79_40 rfl
theorem d79_41 : decode (mB 79) 41 = .ok (.iload_n 3, 1) := by decide +kernel
theorem s79_41 {l0 l1 l2 : Option Value} {st : List Value} {x : Int32} {m : kMem} {Q : Option Value → kMem → Prop} : kJ 79 41 [l0, l1, l2, some (.int x)] st m Q = kJ 79 42 [l0, l1, l2, some (.int x)] (.int x :: st) m Q := kJ_next d79_41 rfl
theorem d79_42 : decode (mB 79) 42 = .ok (.iastore, 1) := by decide +kernel
theorem s79_42 {l0 l1 l2 l3 : Option Value} {st : List Value} {q : Nat} {i x : Int32} {mi : Nat → Nat → Int32} {ml : Nat → Nat → Int64} {mr : Nat → Nat → Option Nat} {nx : Nat} {Q : Option Value → kMem → Prop} (h : kIs nx q 10 = true) : kJ 79 42 [l0, l1, l2, l3] (.int x :: .int i :: .ref q :: st) (mi, ml, mr, nx) Q = (vp_in i (kAl q) ∧ kJ 79 43 [l0, l1, l2, l3] st (kup mi q i.toNatClampNeg x, ml, mr, nx) Q) := kg_astJ d79_42 rfl (kAr_of h)
theorem d79_43 : decode (mB 79) 43 = .ok (.aload_n 0, 1) := by decide +kernel
theorem s79_43 {l1 l2 l3 : Option Value} {st : List Value} {x : Nat} {m : kMem} {Q : Option Value → kMem → Prop} : kJ 79 43 [some (.ref x), l1, l2, l3] st m Q = kJ 79 44 [some (.ref x), l1, l2, l3] (.ref x :: st) m Q := kJ_next d79_43 rfl
theorem d79_44 : decode (mB 79) 44 = .ok (.getfield 16, 3) := by decide +kernel
theorem s79_44 {l0 l1 l2 l3 : Option Value} {st : List Value} {q : Nat} {mi : Nat → Nat → Int32} {ml : Nat → Nat → Int64} {mr : Nat → Nat → Option Nat} {nx : Nat} {Q : Option Value → kMem → Prop} (h : kIs nx q 4 = true) : kJ 79 44 [l0, l1, l2, l3] (.ref q :: st) (mi, ml, mr, nx) Q = kJ 79 47 [l0, l1, l2, l3] (va_rf (mr q 1) :: st) (mi, ml, mr, nx) Q := kJ_next d79_44 (kg_getr 4 1 rfl h (by decide))
theorem d79_47 : decode (mB 79) 47 = .ok (.invokevirtual 215, 3) := by decide +kernel
theorem s79_47 {l0 l1 l2 l3 : Option Value} {v0 : Nat} {m : kMem} {Q : Option Value → kMem → Prop} (h : kIs m.2.2.2 v0 1 = true) : kJ 79 47 [l0, l1, l2, l3] [.ref v0] m Q = kJ 27 0 [some (.ref v0), none, none, none] [] m (fun v m2 => kJ 79 50 [l0, l1, l2, l3] (v.toList ++ []) m2 Q) := kJ_call d79_47 (kg_callv 27 0 rfl rfl rfl rfl (Nat.le_of_ble_eq_true rfl) (Nat.le_of_ble_eq_true rfl) (Nat.le_of_ble_eq_true rfl) h rfl)
theorem d79_50 : decode (mB 79) 50 = .ok (.ifCond .eq 9, 3) := by decide +kernel
theorem s79_50 {l0 l1 l2 l3 : Option Value} {st : List Value} {a : Int32} {m : kMem} {Q : Option Value → kMem → Prop} : kJ 79 50 [l0, l1, l2, l3] (.int a :: st) m Q = (if a = 0 then kJ 79 59 [l0, l1, l2, l3] st m Q else kJ 79 53 [l0, l1, l2, l3] st m Q) := kJ_if d79_50 rfl (fun h => kJ_next d79_50 h) (fun h => kJ_next d79_50 h)
theorem d79_53 : decode (mB 79) 53 = .ok (.iload_n 2, 1) := by decide +kernel
theorem s79_53 {l0 l1 l3 : Option Value} {st : List Value} {x : Int32} {m : kMem} {Q : Option Value → kMem → Prop} : kJ 79 53 [l0, l1, some (.int x), l3] st m Q = kJ 79 54 [l0, l1, some (.int x), l3] (.int x :: st) m Q := kJ_next d79_53 rfl
theorem d79_54 : decode (mB 79) 54 = .ok (.iconst 1, 1) := by decide +kernel
theorem s79_54 {l0 l1 l2 l3 : Option Value} {st : List Value} {m : kMem} {Q : Option Value → kMem → Prop} : kJ 79 54 [l0, l1, l2, l3] st m Q = kJ 79 55 [l0, l1, l2, l3] (.int (nI 1) :: st) m Q := kJ_next d79_54 rfl
theorem d79_55 : decode (mB 79) 55 = .ok (.iload_n 3, 1) := by decide +kernel
theorem s79_55 {l0 l1 l2 : Option Value} {st : List Value} {x : Int32} {m : kMem} {Q : Option Value → kMem → Prop} : kJ 79 55 [l0, l1, l2, some (.int x)] st m Q = kJ 79 56 [l0, l1, l2, some (.int x)] (.int x :: st) m Q := kJ_next d79_55 rfl
theorem d79_56 : decode (mB 79) 56 = .ok (.ishl, 1) := by decide +kernel
theorem s79_56 {l0 l1 l2 l3 : Option Value} {st : List Value} {a b : Int32} {m : kMem} {Q : Option Value → kMem → Prop} : kJ 79 56 [l0, l1, l2, l3] (.int b :: .int a :: st) m Q = kJ 79 57 [l0, l1, l2, l3] (.int (a <<< (b &&& 31)) :: st) m Q := kJ_next d79_56 rfl
theorem d79_57 : decode (mB 79) 57 = .ok (.ior, 1) := by decide +kernel
theorem s79_57 {l0 l1 l2 l3 : Option Value} {st : List Value} {a b : Int32} {m : kMem} {Q : Option Value → kMem → Prop} : kJ 79 57 [l0, l1, l2, l3] (.int b :: .int a :: st) m Q = kJ 79 58 [l0, l1, l2, l3] (.int (a ||| b) :: st) m Q := kJ_next d79_57 rfl
theorem d79_58 : decode (mB 79) 58 = .ok (.istore_n 2, 1) := by decide +kernel
theorem s79_58 {l0 l1 l2 l3 : Option Value} {st : List Value} {x : Int32} {m : kMem} {Q : Option Value → kMem → Prop} (hp : kNL l1 = true) : kJ 79 58 [l0, l1, l2, l3] (.int x :: st) m Q = kJ 79 59 [l0, l1, some (.int x), l3] st m Q := kJ_next d79_58 (kg_sti (Nat.le_of_ble_eq_true rfl) hp)
theorem d79_59 : decode (mB 79) 59 = .ok (.iinc 3 1, 3) := by decide +kernel
theorem s79_59 {l0 l1 l2 : Option Value} {st : List Value} {x : Int32} {m : kMem} {Q : Option Value → kMem → Prop} (hp : kNL l2 = true) : kJ 79 59 [l0, l1, l2, some (.int x)] st m Q = kJ 79 62 [l0, l1, l2, some (.int (x + (nI 1)))] st m Q := kJ_next d79_59 (kg_inc rfl (Nat.le_of_ble_eq_true rfl) hp)
theorem d79_62 : decode (mB 79) 62 = .ok (.goto (-45), 3) := by decide +kernel
theorem s79_62 {l0 l1 l2 l3 : Option Value} {st : List Value} {m : kMem} {Q : Option Value → kMem → Prop} : kJ 79 62 [l0, l1, l2, l3] st m Q = kJ 79 17 [l0, l1, l2, l3] st m Q := kJ_next d79_62 rfl
theorem d79_65 : decode (mB 79) 65 = .ok (.iload_n 2, 1) := by decide +kernel
theorem s79_65 {l0 l1 l3 : Option Value} {st : List Value} {x : Int32} {m : kMem} {Q : Option Value → kMem → Prop} : kJ 79 65 [l0, l1, some (.int x), l3] st m Q = kJ 79 66 [l0, l1, some (.int x), l3] (.int x :: st) m Q := kJ_next d79_65 rfl
theorem d79_66 : decode (mB 79) 66 = .ok (.ireturn, 1) := by decide +kernel
theorem s79_66 {l0 l1 l2 l3 : Option Value} {x : Int32} {m : kMem} {Q : Option Value → kMem → Prop} : kJ 79 66 [l0, l1, l2, l3] [.int x] m Q = Q (some (.int x)) m := kJ_ret d79_66 rfl
theorem d80_0 : decode (mB 80) 0 = .ok (.aload_n 0, 1) := by decide +kernel
theorem s80_0 {l1 l2 l3 : Option Value} {st : List Value} {x : Nat} {m : kMem} {Q : Option Value → kMem → Prop} : kJ 80 0 [some (.ref x), l1, l2, l3] st m Q = kJ 80 1 [some (.ref x), l1, l2, l3] (.ref x :: st) m Q := kJ_next d80_0 rfl
theorem d80_1 : decode (mB 80) 1 = .ok (.getfield 10, 3) := by decide +kernel
theorem s80_1 {l0 l1 l2 l3 : Option Value} {st : List Value} {q : Nat} {mi : Nat → Nat → Int32} {ml : Nat → Nat → Int64} {mr : Nat → Nat → Option Nat} {nx : Nat} {Q : Option Value → kMem → Prop} (h : kIs nx q 4 = true) : kJ 80 1 [l0, l1, l2, l3] (.ref q :: st) (mi, ml, mr, nx) Q = kJ 80 4 [l0, l1, l2, l3] (va_rf (mr q 0) :: st) (mi, ml, mr, nx) Q := kJ_next d80_1 (kg_getr 4 0 rfl h (by decide))
theorem d80_4 : decode (mB 80) 4 = .ok (.iload_n 1, 1) := by decide +kernel
theorem s80_4 {l0 l2 l3 : Option Value} {st : List Value} {x : Int32} {m : kMem} {Q : Option Value → kMem → Prop} : kJ 80 4 [l0, some (.int x), l2, l3] st m Q = kJ 80 5 [l0, some (.int x), l2, l3] (.int x :: st) m Q := kJ_next d80_4 rfl
theorem d80_5 : decode (mB 80) 5 = .ok (.invokevirtual 124, 3) := by decide +kernel
theorem s80_5 {l0 l1 l2 l3 : Option Value} {v0 : Int32} {v1 : Nat} {m : kMem} {Q : Option Value → kMem → Prop} (h : kIs m.2.2.2 v1 1 = true) : kJ 80 5 [l0, l1, l2, l3] [.int v0, .ref v1] m Q = kJ 8 0 [some (.ref v1), some (.int v0)] [] m (fun v m2 => kJ 80 8 [l0, l1, l2, l3] (v.toList ++ []) m2 Q) := kJ_call d80_5 (kg_callv 8 1 rfl rfl rfl rfl (Nat.le_of_ble_eq_true rfl) (Nat.le_of_ble_eq_true rfl) (Nat.le_of_ble_eq_true rfl) h rfl)
theorem d80_8 : decode (mB 80) 8 = .ok (.ifCond .ne 5, 3) := by decide +kernel
theorem s80_8 {l0 l1 l2 l3 : Option Value} {st : List Value} {a : Int32} {m : kMem} {Q : Option Value → kMem → Prop} : kJ 80 8 [l0, l1, l2, l3] (.int a :: st) m Q = (if a = 0 then kJ 80 11 [l0, l1, l2, l3] st m Q else kJ 80 13 [l0, l1, l2, l3] st m Q) := kJ_if d80_8 rfl (fun h => kJ_next d80_8 h) (fun h => kJ_next d80_8 h)
theorem d80_11 : decode (mB 80) 11 = .ok (.iconst (-1), 1) := by decide +kernel
theorem s80_11 {l0 l1 l2 l3 : Option Value} {st : List Value} {m : kMem} {Q : Option Value → kMem → Prop} : kJ 80 11 [l0, l1, l2, l3] st m Q = kJ 80 12 [l0, l1, l2, l3] (.int (-1) :: st) m Q := kJ_next d80_11 rfl
theorem d80_12 : decode (mB 80) 12 = .ok (.ireturn, 1) := by decide +kernel
theorem s80_12 {l0 l1 l2 l3 : Option Value} {x : Int32} {m : kMem} {Q : Option Value → kMem → Prop} : kJ 80 12 [l0, l1, l2, l3] [.int x] m Q = Q (some (.int x)) m := kJ_ret d80_12 rfl
theorem d80_13 : decode (mB 80) 13 = .ok (.aload_n 0, 1) := by decide +kernel
theorem s80_13 {l1 l2 l3 : Option Value} {st : List Value} {x : Nat} {m : kMem} {Q : Option Value → kMem → Prop} : kJ 80 13 [some (.ref x), l1, l2, l3] st m Q = kJ 80 14 [some (.ref x), l1, l2, l3] (.ref x :: st) m Q := kJ_next d80_13 rfl
theorem d80_14 : decode (mB 80) 14 = .ok (.getfield 10, 3) := by decide +kernel
theorem s80_14 {l0 l1 l2 l3 : Option Value} {st : List Value} {q : Nat} {mi : Nat → Nat → Int32} {ml : Nat → Nat → Int64} {mr : Nat → Nat → Option Nat} {nx : Nat} {Q : Option Value → kMem → Prop} (h : kIs nx q 4 = true) : kJ 80 14 [l0, l1, l2, l3] (.ref q :: st) (mi, ml, mr, nx) Q = kJ 80 17 [l0, l1, l2, l3] (va_rf (mr q 0) :: st) (mi, ml, mr, nx) Q := kJ_next d80_14 (kg_getr 4 0 rfl h (by decide))
theorem d80_17 : decode (mB 80) 17 = .ok (.iload_n 1, 1) := by decide +kernel
theorem s80_17 {l0 l2 l3 : Option Value} {st : List Value} {x : Int32} {m : kMem} {Q : Option Value → kMem → Prop} : kJ 80 17 [l0, some (.int x), l2, l3] st m Q = kJ 80 18 [l0, some (.int x), l2, l3] (.int x :: st) m Q := kJ_next d80_17 rfl
theorem d80_18 : decode (mB 80) 18 = .ok (.invokevirtual 153, 3) := by decide +kernel
theorem s80_18 {l0 l1 l2 l3 : Option Value} {v0 : Int32} {v1 : Nat} {m : kMem} {Q : Option Value → kMem → Prop} (h : kIs m.2.2.2 v1 1 = true) : kJ 80 18 [l0, l1, l2, l3] [.int v0, .ref v1] m Q = kJ 9 0 [some (.ref v1), some (.int v0)] [] m (fun v m2 => kJ 80 21 [l0, l1, l2, l3] (v.toList ++ []) m2 Q) := kJ_call d80_18 (kg_callv 9 1 rfl rfl rfl rfl (Nat.le_of_ble_eq_true rfl) (Nat.le_of_ble_eq_true rfl) (Nat.le_of_ble_eq_true rfl) h rfl)
theorem d80_21 : decode (mB 80) 21 = .ok (.ifCond .ne 6, 3) := by decide +kernel
theorem s80_21 {l0 l1 l2 l3 : Option Value} {st : List Value} {a : Int32} {m : kMem} {Q : Option Value → kMem → Prop} : kJ 80 21 [l0, l1, l2, l3] (.int a :: st) m Q = (if a = 0 then kJ 80 24 [l0, l1, l2, l3] st m Q else kJ 80 27 [l0, l1, l2, l3] st m Q) := kJ_if d80_21 rfl (fun h => kJ_next d80_21 h) (fun h => kJ_next d80_21 h)
theorem d80_24 : decode (mB 80) 24 = .ok (.bipush (-2), 2) := by decide +kernel
theorem s80_24 {l0 l1 l2 l3 : Option Value} {st : List Value} {m : kMem} {Q : Option Value → kMem → Prop} : kJ 80 24 [l0, l1, l2, l3] st m Q = kJ 80 26 [l0, l1, l2, l3] (.int (-2) :: st) m Q := kJ_next d80_24 rfl
theorem d80_26 : decode (mB 80) 26 = .ok (.ireturn, 1) := by decide +kernel
theorem s80_26 {l0 l1 l2 l3 : Option Value} {x : Int32} {m : kMem} {Q : Option Value → kMem → Prop} : kJ 80 26 [l0, l1, l2, l3] [.int x] m Q = Q (some (.int x)) m := kJ_ret d80_26 rfl
theorem d80_27 : decode (mB 80) 27 = .ok (.iconst 0, 1) := by decide +kernel
theorem s80_27 {l0 l1 l2 l3 : Option Value} {st : List Value} {m : kMem} {Q : Option Value → kMem → Prop} : kJ 80 27 [l0, l1, l2, l3] st m Q = kJ 80 28 [l0, l1, l2, l3] (.int (nI 0) :: st) m Q := kJ_next d80_27 rfl
theorem d80_28 : decode (mB 80) 28 = .ok (.istore_n 2, 1) := by decide +kernel
theorem s80_28 {l0 l1 l2 l3 : Option Value} {st : List Value} {x : Int32} {m : kMem} {Q : Option Value → kMem → Prop} (hp : kNL l1 = true) : kJ 80 28 [l0, l1, l2, l3] (.int x :: st) m Q = kJ 80 29 [l0, l1, some (.int x), l3] st m Q := kJ_next d80_28 (kg_sti (Nat.le_of_ble_eq_true rfl) hp)
theorem d80_29 : decode (mB 80) 29 = .ok (.iconst 0, 1) := by decide +kernel
theorem s80_29 {l0 l1 l2 l3 : Option Value} {st : List Value} {m : kMem} {Q : Option Value → kMem → Prop} : kJ 80 29 [l0, l1, l2, l3] st m Q = kJ 80 30 [l0, l1, l2, l3] (.int (nI 0) :: st) m Q := kJ_next d80_29 rfl
theorem d80_30 : decode (mB 80) 30 = .ok (.istore_n 3, 1) := by decide +kernel
theorem s80_30 {l0 l1 l2 l3 : Option Value} {st : List Value} {x : Int32} {m : kMem} {Q : Option Value → kMem → Prop} (hp : kNL l2 = true) : kJ 80 30 [l0, l1, l2, l3] (.int x :: st) m Q = kJ 80 31 [l0, l1, l2, some (.int x)] st m Q := kJ_next d80_30 (kg_sti (Nat.le_of_ble_eq_true rfl) hp)
theorem d80_31 : decode (mB 80) 31 = .ok (.iload_n 3, 1) := by decide +kernel
theorem s80_31 {l0 l1 l2 : Option Value} {st : List Value} {x : Int32} {m : kMem} {Q : Option Value → kMem → Prop} : kJ 80 31 [l0, l1, l2, some (.int x)] st m Q = kJ 80 32 [l0, l1, l2, some (.int x)] (.int x :: st) m Q := kJ_next d80_31 rfl
theorem d80_32 : decode (mB 80) 32 = .ok (.bipush 18, 2) := by decide +kernel
theorem s80_32 {l0 l1 l2 l3 : Option Value} {st : List Value} {m : kMem} {Q : Option Value → kMem → Prop} : kJ 80 32 [l0, l1, l2, l3] st m Q = kJ 80 34 [l0, l1, l2, l3] (.int (nI 18) :: st) m Q := kJ_next d80_32 rfl
theorem d80_34 : decode (mB 80) 34 = .ok (.if_icmp .gt 46, 3) := by decide +kernel
theorem s80_34 {l0 l1 l2 l3 : Option Value} {st : List Value} {a b : Int32} {m : kMem} {Q : Option Value → kMem → Prop} : kJ 80 34 [l0, l1, l2, l3] (.int b :: .int a :: st) m Q = (if b < a then kJ 80 80 [l0, l1, l2, l3] st m Q else kJ 80 37 [l0, l1, l2, l3] st m Q) := kJ_if d80_34 rfl (fun h => kJ_next d80_34 h) (fun h => kJ_next d80_34 h)
theorem d80_37 : decode (mB 80) 37 = .ok (.aload_n 0, 1) := by decide +kernel
theorem s80_37 {l1 l2 l3 : Option Value} {st : List Value} {x : Nat} {m : kMem} {Q : Option Value → kMem → Prop} : kJ 80 37 [some (.ref x), l1, l2, l3] st m Q = kJ 80 38 [some (.ref x), l1, l2, l3] (.ref x :: st) m Q := kJ_next d80_37 rfl
theorem d80_38 : decode (mB 80) 38 = .ok (.getfield 16, 3) := by decide +kernel
theorem s80_38 {l0 l1 l2 l3 : Option Value} {st : List Value} {q : Nat} {mi : Nat → Nat → Int32} {ml : Nat → Nat → Int64} {mr : Nat → Nat → Option Nat} {nx : Nat} {Q : Option Value → kMem → Prop} (h : kIs nx q 4 = true) : kJ 80 38 [l0, l1, l2, l3] (.ref q :: st) (mi, ml, mr, nx) Q = kJ 80 41 [l0, l1, l2, l3] (va_rf (mr q 1) :: st) (mi, ml, mr, nx) Q := kJ_next d80_38 (kg_getr 4 1 rfl h (by decide))
theorem d80_41 : decode (mB 80) 41 = .ok (.aload_n 0, 1) := by decide +kernel
theorem s80_41 {l1 l2 l3 : Option Value} {st : List Value} {x : Nat} {m : kMem} {Q : Option Value → kMem → Prop} : kJ 80 41 [some (.ref x), l1, l2, l3] st m Q = kJ 80 42 [some (.ref x), l1, l2, l3] (.ref x :: st) m Q := kJ_next d80_41 rfl
theorem d80_42 : decode (mB 80) 42 = .ok (.getfield 10, 3) := by decide +kernel
theorem s80_42 {l0 l1 l2 l3 : Option Value} {st : List Value} {q : Nat} {mi : Nat → Nat → Int32} {ml : Nat → Nat → Int64} {mr : Nat → Nat → Option Nat} {nx : Nat} {Q : Option Value → kMem → Prop} (h : kIs nx q 4 = true) : kJ 80 42 [l0, l1, l2, l3] (.ref q :: st) (mi, ml, mr, nx) Q = kJ 80 45 [l0, l1, l2, l3] (va_rf (mr q 0) :: st) (mi, ml, mr, nx) Q := kJ_next d80_42 (kg_getr 4 0 rfl h (by decide))
theorem d80_45 : decode (mB 80) 45 = .ok (.invokevirtual 81, 3) := by decide +kernel
theorem s80_45 {l0 l1 l2 l3 : Option Value} {v0 : Nat} {v1 : Nat} {m : kMem} {Q : Option Value → kMem → Prop} (h : kIs m.2.2.2 v1 1 = true) : kJ 80 45 [l0, l1, l2, l3] [.ref v0, .ref v1] m Q = kJ 6 0 [some (.ref v1), some (.ref v0)] [] m (fun v m2 => kJ 80 48 [l0, l1, l2, l3] (v.toList ++ []) m2 Q) := kJ_call d80_45 (kg_callv 6 1 rfl rfl rfl rfl (Nat.le_of_ble_eq_true rfl) (Nat.le_of_ble_eq_true rfl) (Nat.le_of_ble_eq_true rfl) h rfl)
theorem d80_48 : decode (mB 80) 48 = .ok (.aload_n 0, 1) := by decide +kernel
theorem s80_48 {l1 l2 l3 : Option Value} {st : List Value} {x : Nat} {m : kMem} {Q : Option Value → kMem → Prop} : kJ 80 48 [some (.ref x), l1, l2, l3] st m Q = kJ 80 49 [some (.ref x), l1, l2, l3] (.ref x :: st) m Q := kJ_next d80_48 rfl
theorem d80_49 : decode (mB 80) 49 = .ok (.getfield 16, 3) := by decide +kernel
theorem s80_49 {l0 l1 l2 l3 : Option Value} {st : List Value} {q : Nat} {mi : Nat → Nat → Int32} {ml : Nat → Nat → Int64} {mr : Nat → Nat → Option Nat} {nx : Nat} {Q : Option Value → kMem → Prop} (h : kIs nx q 4 = true) : kJ 80 49 [l0, l1, l2, l3] (.ref q :: st) (mi, ml, mr, nx) Q = kJ 80 52 [l0, l1, l2, l3] (va_rf (mr q 1) :: st) (mi, ml, mr, nx) Q := kJ_next d80_49 (kg_getr 4 1 rfl h (by decide))
theorem d80_52 : decode (mB 80) 52 = .ok (.getfield 136, 3) := by decide +kernel
theorem s80_52 {l0 l1 l2 l3 : Option Value} {st : List Value} {q : Nat} {mi : Nat → Nat → Int32} {ml : Nat → Nat → Int64} {mr : Nat → Nat → Option Nat} {nx : Nat} {Q : Option Value → kMem → Prop} (h : kIs nx q 1 = true) : kJ 80 52 [l0, l1, l2, l3] (.ref q :: st) (mi, ml, mr, nx) Q = kJ 80 55 [l0, l1, l2, l3] (va_rf (mr q 8) :: st) (mi, ml, mr, nx) Q := kJ_next d80_52 (kg_getr 1 8 rfl h (by decide))
theorem d80_55 : decode (mB 80) 55 = .ok (.iload_n 1, 1) := by decide +kernel
theorem s80_55 {l0 l2 l3 : Option Value} {st : List Value} {x : Int32} {m : kMem} {Q : Option Value → kMem → Prop} : kJ 80 55 [l0, some (.int x), l2, l3] st m Q = kJ 80 56 [l0, some (.int x), l2, l3] (.int x :: st) m Q := kJ_next d80_55 rfl
theorem d80_56 : decode (mB 80) 56 = .ok (.iload_n 3, 1) := by decide +kernel
theorem s80_56 {l0 l1 l2 : Option Value} {st : List Value} {x : Int32} {m : kMem} {Q : Option Value → kMem → Prop} : kJ 80 56 [l0, l1, l2, some (.int x)] st m Q = kJ 80 57 [l0, l1, l2, some (.int x)] (.int x :: st) m Q := kJ_next d80_56 rfl
theorem d80_57 : decode (mB 80) 57 = .ok (.iastore, 1) := by decide +kernel
theorem s80_57 {l0 l1 l2 l3 : Option Value} {st : List Value} {q : Nat} {i x : Int32} {mi : Nat → Nat → Int32} {ml : Nat → Nat → Int64} {mr : Nat → Nat → Option Nat} {nx : Nat} {Q : Option Value → kMem → Prop} (h : kIs nx q 10 = true) : kJ 80 57 [l0, l1, l2, l3] (.int x :: .int i :: .ref q :: st) (mi, ml, mr, nx) Q = (vp_in i (kAl q) ∧ kJ 80 58 [l0, l1, l2, l3] st (kup mi q i.toNatClampNeg x, ml, mr, nx) Q) := kg_astJ d80_57 rfl (kAr_of h)
theorem d80_58 : decode (mB 80) 58 = .ok (.aload_n 0, 1) := by decide +kernel
theorem s80_58 {l1 l2 l3 : Option Value} {st : List Value} {x : Nat} {m : kMem} {Q : Option Value → kMem → Prop} : kJ 80 58 [some (.ref x), l1, l2, l3] st m Q = kJ 80 59 [some (.ref x), l1, l2, l3] (.ref x :: st) m Q := kJ_next d80_58 rfl
theorem d80_59 : decode (mB 80) 59 = .ok (.getfield 16, 3) := by decide +kernel
theorem s80_59 {l0 l1 l2 l3 : Option Value} {st : List Value} {q : Nat} {mi : Nat → Nat → Int32} {ml : Nat → Nat → Int64} {mr : Nat → Nat → Option Nat} {nx : Nat} {Q : Option Value → kMem → Prop} (h : kIs nx q 4 = true) : kJ 80 59 [l0, l1, l2, l3] (.ref q :: st) (mi, ml, mr, nx) Q = kJ 80 62 [l0, l1, l2, l3] (va_rf (mr q 1) :: st) (mi, ml, mr, nx) Q := kJ_next d80_59 (kg_getr 4 1 rfl h (by decide))
theorem d80_62 : decode (mB 80) 62 = .ok (.invokevirtual 215, 3) := by decide +kernel
theorem s80_62 {l0 l1 l2 l3 : Option Value} {v0 : Nat} {m : kMem} {Q : Option Value → kMem → Prop} (h : kIs m.2.2.2 v0 1 = true) : kJ 80 62 [l0, l1, l2, l3] [.ref v0] m Q = kJ 27 0 [some (.ref v0), none, none, none] [] m (fun v m2 => kJ 80 65 [l0, l1, l2, l3] (v.toList ++ []) m2 Q) := kJ_call d80_62 (kg_callv 27 0 rfl rfl rfl rfl (Nat.le_of_ble_eq_true rfl) (Nat.le_of_ble_eq_true rfl) (Nat.le_of_ble_eq_true rfl) h rfl)
theorem d80_65 : decode (mB 80) 65 = .ok (.ifCond .eq 9, 3) := by decide +kernel
theorem s80_65 {l0 l1 l2 l3 : Option Value} {st : List Value} {a : Int32} {m : kMem} {Q : Option Value → kMem → Prop} : kJ 80 65 [l0, l1, l2, l3] (.int a :: st) m Q = (if a = 0 then kJ 80 74 [l0, l1, l2, l3] st m Q else kJ 80 68 [l0, l1, l2, l3] st m Q) := kJ_if d80_65 rfl (fun h => kJ_next d80_65 h) (fun h => kJ_next d80_65 h)
theorem d80_68 : decode (mB 80) 68 = .ok (.iload_n 2, 1) := by decide +kernel
theorem s80_68 {l0 l1 l3 : Option Value} {st : List Value} {x : Int32} {m : kMem} {Q : Option Value → kMem → Prop} : kJ 80 68 [l0, l1, some (.int x), l3] st m Q = kJ 80 69 [l0, l1, some (.int x), l3] (.int x :: st) m Q := kJ_next d80_68 rfl
theorem d80_69 : decode (mB 80) 69 = .ok (.iconst 1, 1) := by decide +kernel
theorem s80_69 {l0 l1 l2 l3 : Option Value} {st : List Value} {m : kMem} {Q : Option Value → kMem → Prop} : kJ 80 69 [l0, l1, l2, l3] st m Q = kJ 80 70 [l0, l1, l2, l3] (.int (nI 1) :: st) m Q := kJ_next d80_69 rfl
theorem d80_70 : decode (mB 80) 70 = .ok (.iload_n 3, 1) := by decide +kernel
theorem s80_70 {l0 l1 l2 : Option Value} {st : List Value} {x : Int32} {m : kMem} {Q : Option Value → kMem → Prop} : kJ 80 70 [l0, l1, l2, some (.int x)] st m Q = kJ 80 71 [l0, l1, l2, some (.int x)] (.int x :: st) m Q := kJ_next d80_70 rfl
theorem d80_71 : decode (mB 80) 71 = .ok (.ishl, 1) := by decide +kernel
theorem s80_71 {l0 l1 l2 l3 : Option Value} {st : List Value} {a b : Int32} {m : kMem} {Q : Option Value → kMem → Prop} : kJ 80 71 [l0, l1, l2, l3] (.int b :: .int a :: st) m Q = kJ 80 72 [l0, l1, l2, l3] (.int (a <<< (b &&& 31)) :: st) m Q := kJ_next d80_71 rfl
theorem d80_72 : decode (mB 80) 72 = .ok (.ior, 1) := by decide +kernel
theorem s80_72 {l0 l1 l2 l3 : Option Value} {st : List Value} {a b : Int32} {m : kMem} {Q : Option Value → kMem → Prop} : kJ 80 72 [l0, l1, l2, l3] (.int b :: .int a :: st) m Q = kJ 80 73 [l0, l1, l2, l3] (.int (a ||| b) :: st) m Q := kJ_next d80_72 rfl
theorem d80_73 : decode (mB 80) 73 = .ok (.istore_n 2, 1) := by decide +kernel
theorem s80_73 {l0 l1 l2 l3 : Option Value} {st : List Value} {x : Int32} {m : kMem} {Q : Option Value → kMem → Prop} (hp : kNL l1 = true) : kJ 80 73 [l0, l1, l2, l3] (.int x :: st) m Q = kJ 80 74 [l0, l1, some (.int x), l3] st m Q := kJ_next d80_73 (kg_sti (Nat.le_of_ble_eq_true rfl) hp)
theorem d80_74 : decode (mB 80) 74 = .ok (.iinc 3 1, 3) := by decide +kernel
theorem s80_74 {l0 l1 l2 : Option Value} {st : List Value} {x : Int32} {m : kMem} {Q : Option Value → kMem → Prop} (hp : kNL l2 = true) : kJ 80 74 [l0, l1, l2, some (.int x)] st m Q = kJ 80 77 [l0, l1, l2, some (.int (x + (nI 1)))] st m Q := kJ_next d80_74 (kg_inc rfl (Nat.le_of_ble_eq_true rfl) hp)
theorem d80_77 : decode (mB 80) 77 = .ok (.goto (-46), 3) := by decide +kernel
theorem s80_77 {l0 l1 l2 l3 : Option Value} {st : List Value} {m : kMem} {Q : Option Value → kMem → Prop} : kJ 80 77 [l0, l1, l2, l3] st m Q = kJ 80 31 [l0, l1, l2, l3] st m Q := kJ_next d80_77 rfl
theorem d80_80 : decode (mB 80) 80 = .ok (.iload_n 2, 1) := by decide +kernel
theorem s80_80 {l0 l1 l3 : Option Value} {st : List Value} {x : Int32} {m : kMem} {Q : Option Value → kMem → Prop} : kJ 80 80 [l0, l1, some (.int x), l3] st m Q = kJ 80 81 [l0, l1, some (.int x), l3] (.int x :: st) m Q := kJ_next d80_80 rfl
theorem d80_81 : decode (mB 80) 81 = .ok (.ireturn, 1) := by decide +kernel
theorem s80_81 {l0 l1 l2 l3 : Option Value} {x : Int32} {m : kMem} {Q : Option Value → kMem → Prop} : kJ 80 81 [l0, l1, l2, l3] [.int x] m Q = Q (some (.int x)) m := kJ_ret d80_81 rfl
theorem d81_0 : decode (mB 81) 0 = .ok (.aload_n 0, 1) := by decide +kernel
theorem s81_0 {l1 l2 l3 l4 l5 l6 l7 l8 : Option Value} {st : List Value} {x : Nat} {m : kMem} {Q : Option Value → kMem → Prop} : kJ 81 0 [some (.ref x), l1, l2, l3, l4, l5, l6, l7, l8] st m Q = kJ 81 1 [some (.ref x), l1, l2, l3, l4, l5, l6, l7, l8] (.ref x :: st) m Q := kJ_next d81_0 rfl
theorem d81_1 : decode (mB 81) 1 = .ok (.getfield 10, 3) := by decide +kernel
theorem s81_1 {l0 l1 l2 l3 l4 l5 l6 l7 l8 : Option Value} {st : List Value} {q : Nat} {mi : Nat → Nat → Int32} {ml : Nat → Nat → Int64} {mr : Nat → Nat → Option Nat} {nx : Nat} {Q : Option Value → kMem → Prop} (h : kIs nx q 4 = true) : kJ 81 1 [l0, l1, l2, l3, l4, l5, l6, l7, l8] (.ref q :: st) (mi, ml, mr, nx) Q = kJ 81 4 [l0, l1, l2, l3, l4, l5, l6, l7, l8] (va_rf (mr q 0) :: st) (mi, ml, mr, nx) Q := kJ_next d81_1 (kg_getr 4 0 rfl h (by decide))
theorem d81_4 : decode (mB 81) 4 = .ok (.iload_n 1, 1) := by decide +kernel
theorem s81_4 {l0 l2 l3 l4 l5 l6 l7 l8 : Option Value} {st : List Value} {x : Int32} {m : kMem} {Q : Option Value → kMem → Prop} : kJ 81 4 [l0, some (.int x), l2, l3, l4, l5, l6, l7, l8] st m Q = kJ 81 5 [l0, some (.int x), l2, l3, l4, l5, l6, l7, l8] (.int x :: st) m Q := kJ_next d81_4 rfl
theorem d81_5 : decode (mB 81) 5 = .ok (.invokevirtual 124, 3) := by decide +kernel
theorem s81_5 {l0 l1 l2 l3 l4 l5 l6 l7 l8 : Option Value} {v0 : Int32} {v1 : Nat} {m : kMem} {Q : Option Value → kMem → Prop} (h : kIs m.2.2.2 v1 1 = true) : kJ 81 5 [l0, l1, l2, l3, l4, l5, l6, l7, l8] [.int v0, .ref v1] m Q = kJ 8 0 [some (.ref v1), some (.int v0)] [] m (fun v m2 => kJ 81 8 [l0, l1, l2, l3, l4, l5, l6, l7, l8] (v.toList ++ []) m2 Q) := kJ_call d81_5 (kg_callv 8 1 rfl rfl rfl rfl (Nat.le_of_ble_eq_true rfl) (Nat.le_of_ble_eq_true rfl) (Nat.le_of_ble_eq_true rfl) h rfl)
theorem d81_8 : decode (mB 81) 8 = .ok (.ifCond .eq 12, 3) := by decide +kernel
theorem s81_8 {l0 l1 l2 l3 l4 l5 l6 l7 l8 : Option Value} {st : List Value} {a : Int32} {m : kMem} {Q : Option Value → kMem → Prop} : kJ 81 8 [l0, l1, l2, l3, l4, l5, l6, l7, l8] (.int a :: st) m Q = (if a = 0 then kJ 81 20 [l0, l1, l2, l3, l4, l5, l6, l7, l8] st m Q else kJ 81 11 [l0, l1, l2, l3, l4, l5, l6, l7, l8] st m Q) := kJ_if d81_8 rfl (fun h => kJ_next d81_8 h) (fun h => kJ_next d81_8 h)
theorem d81_11 : decode (mB 81) 11 = .ok (.iload_n 2, 1) := by decide +kernel
theorem s81_11 {l0 l1 l3 l4 l5 l6 l7 l8 : Option Value} {st : List Value} {x : Int32} {m : kMem} {Q : Option Value → kMem → Prop} : kJ 81 11 [l0, l1, some (.int x), l3, l4, l5, l6, l7, l8] st m Q = kJ 81 12 [l0, l1, some (.int x), l3, l4, l5, l6, l7, l8] (.int x :: st) m Q := kJ_next d81_11 rfl
theorem d81_12 : decode (mB 81) 12 = .ok (.iconst 0, 1) := by decide +kernel
theorem s81_12 {l0 l1 l2 l3 l4 l5 l6 l7 l8 : Option Value} {st : List Value} {m : kMem} {Q : Option Value → kMem → Prop} : kJ 81 12 [l0, l1, l2, l3, l4, l5, l6, l7, l8] st m Q = kJ 81 13 [l0, l1, l2, l3, l4, l5, l6, l7, l8] (.int (nI 0) :: st) m Q := kJ_next d81_12 rfl
theorem d81_13 : decode (mB 81) 13 = .ok (.iconst 1, 1) := by decide +kernel
theorem s81_13 {l0 l1 l2 l3 l4 l5 l6 l7 l8 : Option Value} {st : List Value} {m : kMem} {Q : Option Value → kMem → Prop} : kJ 81 13 [l0, l1, l2, l3, l4, l5, l6, l7, l8] st m Q = kJ 81 14 [l0, l1, l2, l3, l4, l5, l6, l7, l8] (.int (nI 1) :: st) m Q := kJ_next d81_13 rfl
theorem d81_14 : decode (mB 81) 14 = .ok (.invokestatic 55, 3) := by decide +kernel
theorem s81_14 {l0 l1 l2 l3 l4 l5 l6 l7 l8 : Option Value} {v0 : Int32} {v1 : Int32} {v2 : Int32} {m : kMem} {Q : Option Value → kMem → Prop} : kJ 81 14 [l0, l1, l2, l3, l4, l5, l6, l7, l8] [.int v0, .int v1, .int v2] m Q = kJ 90 0 [some (.int v2), some (.int v1), some (.int v0)] [] m (fun v m2 => kJ 81 17 [l0, l1, l2, l3, l4, l5, l6, l7, l8] (v.toList ++ []) m2 Q) := kJ_call d81_14 (kg_calls 90 3 rfl rfl (Nat.le_of_ble_eq_true rfl) (Nat.le_of_ble_eq_true rfl) (Nat.le_of_ble_eq_true rfl) (Nat.le_of_ble_eq_true rfl))
theorem d81_17 : decode (mB 81) 17 = .ok (.ifCond .ne 5, 3) := by decide +kernel
theorem s81_17 {l0 l1 l2 l3 l4 l5 l6 l7 l8 : Option Value} {st : List Value} {a : Int32} {m : kMem} {Q : Option Value → kMem → Prop} : kJ 81 17 [l0, l1, l2, l3, l4, l5, l6, l7, l8] (.int a :: st) m Q = (if a = 0 then kJ 81 20 [l0, l1, l2, l3, l4, l5, l6, l7, l8] st m Q else kJ 81 22 [l0, l1, l2, l3, l4, l5, l6, l7, l8] st m Q) := kJ_if d81_17 rfl (fun h => kJ_next d81_17 h) (fun h => kJ_next d81_17 h)
theorem d81_20 : decode (mB 81) 20 = .ok (.iconst (-1), 1) := by decide +kernel
theorem s81_20 {l0 l1 l2 l3 l4 l5 l6 l7 l8 : Option Value} {st : List Value} {m : kMem} {Q : Option Value → kMem → Prop} : kJ 81 20 [l0, l1, l2, l3, l4, l5, l6, l7, l8] st m Q = kJ 81 21 [l0, l1, l2, l3, l4, l5, l6, l7, l8] (.int (-1) :: st) m Q := kJ_next d81_20 rfl
theorem d81_21 : decode (mB 81) 21 = .ok (.ireturn, 1) := by decide +kernel
theorem s81_21 {l0 l1 l2 l3 l4 l5 l6 l7 l8 : Option Value} {x : Int32} {m : kMem} {Q : Option Value → kMem → Prop} : kJ 81 21 [l0, l1, l2, l3, l4, l5, l6, l7, l8] [.int x] m Q = Q (some (.int x)) m := kJ_ret d81_21 rfl
theorem d81_22 : decode (mB 81) 22 = .ok (.aload_n 0, 1) := by decide +kernel
theorem s81_22 {l1 l2 l3 l4 l5 l6 l7 l8 : Option Value} {st : List Value} {x : Nat} {m : kMem} {Q : Option Value → kMem → Prop} : kJ 81 22 [some (.ref x), l1, l2, l3, l4, l5, l6, l7, l8] st m Q = kJ 81 23 [some (.ref x), l1, l2, l3, l4, l5, l6, l7, l8] (.ref x :: st) m Q := kJ_next d81_22 rfl
theorem d81_23 : decode (mB 81) 23 = .ok (.getfield 10, 3) := by decide +kernel
theorem s81_23 {l0 l1 l2 l3 l4 l5 l6 l7 l8 : Option Value} {st : List Value} {q : Nat} {mi : Nat → Nat → Int32} {ml : Nat → Nat → Int64} {mr : Nat → Nat → Option Nat} {nx : Nat} {Q : Option Value → kMem → Prop} (h : kIs nx q 4 = true) : kJ 81 23 [l0, l1, l2, l3, l4, l5, l6, l7, l8] (.ref q :: st) (mi, ml, mr, nx) Q = kJ 81 26 [l0, l1, l2, l3, l4, l5, l6, l7, l8] (va_rf (mr q 0) :: st) (mi, ml, mr, nx) Q := kJ_next d81_23 (kg_getr 4 0 rfl h (by decide))
theorem d81_26 : decode (mB 81) 26 = .ok (.iload_n 1, 1) := by decide +kernel
theorem s81_26 {l0 l2 l3 l4 l5 l6 l7 l8 : Option Value} {st : List Value} {x : Int32} {m : kMem} {Q : Option Value → kMem → Prop} : kJ 81 26 [l0, some (.int x), l2, l3, l4, l5, l6, l7, l8] st m Q = kJ 81 27 [l0, some (.int x), l2, l3, l4, l5, l6, l7, l8] (.int x :: st) m Q := kJ_next d81_26 rfl
theorem d81_27 : decode (mB 81) 27 = .ok (.invokevirtual 153, 3) := by decide +kernel
theorem s81_27 {l0 l1 l2 l3 l4 l5 l6 l7 l8 : Option Value} {v0 : Int32} {v1 : Nat} {m : kMem} {Q : Option Value → kMem → Prop} (h : kIs m.2.2.2 v1 1 = true) : kJ 81 27 [l0, l1, l2, l3, l4, l5, l6, l7, l8] [.int v0, .ref v1] m Q = kJ 9 0 [some (.ref v1), some (.int v0)] [] m (fun v m2 => kJ 81 30 [l0, l1, l2, l3, l4, l5, l6, l7, l8] (v.toList ++ []) m2 Q) := kJ_call d81_27 (kg_callv 9 1 rfl rfl rfl rfl (Nat.le_of_ble_eq_true rfl) (Nat.le_of_ble_eq_true rfl) (Nat.le_of_ble_eq_true rfl) h rfl)
theorem d81_30 : decode (mB 81) 30 = .ok (.ifCond .ne 6, 3) := by decide +kernel
theorem s81_30 {l0 l1 l2 l3 l4 l5 l6 l7 l8 : Option Value} {st : List Value} {a : Int32} {m : kMem} {Q : Option Value → kMem → Prop} : kJ 81 30 [l0, l1, l2, l3, l4, l5, l6, l7, l8] (.int a :: st) m Q = (if a = 0 then kJ 81 33 [l0, l1, l2, l3, l4, l5, l6, l7, l8] st m Q else kJ 81 36 [l0, l1, l2, l3, l4, l5, l6, l7, l8] st m Q) := kJ_if d81_30 rfl (fun h => kJ_next d81_30 h) (fun h => kJ_next d81_30 h)
theorem d81_33 : decode (mB 81) 33 = .ok (.bipush (-2), 2) := by decide +kernel
theorem s81_33 {l0 l1 l2 l3 l4 l5 l6 l7 l8 : Option Value} {st : List Value} {m : kMem} {Q : Option Value → kMem → Prop} : kJ 81 33 [l0, l1, l2, l3, l4, l5, l6, l7, l8] st m Q = kJ 81 35 [l0, l1, l2, l3, l4, l5, l6, l7, l8] (.int (-2) :: st) m Q := kJ_next d81_33 rfl
theorem d81_35 : decode (mB 81) 35 = .ok (.ireturn, 1) := by decide +kernel
theorem s81_35 {l0 l1 l2 l3 l4 l5 l6 l7 l8 : Option Value} {x : Int32} {m : kMem} {Q : Option Value → kMem → Prop} : kJ 81 35 [l0, l1, l2, l3, l4, l5, l6, l7, l8] [.int x] m Q = Q (some (.int x)) m := kJ_ret d81_35 rfl
theorem d81_36 : decode (mB 81) 36 = .ok (.aload_n 0, 1) := by decide +kernel
theorem s81_36 {l1 l2 l3 l4 l5 l6 l7 l8 : Option Value} {st : List Value} {x : Nat} {m : kMem} {Q : Option Value → kMem → Prop} : kJ 81 36 [some (.ref x), l1, l2, l3, l4, l5, l6, l7, l8] st m Q = kJ 81 37 [some (.ref x), l1, l2, l3, l4, l5, l6, l7, l8] (.ref x :: st) m Q := kJ_next d81_36 rfl
theorem d81_37 : decode (mB 81) 37 = .ok (.iload_n 1, 1) := by decide +kernel
theorem s81_37 {l0 l2 l3 l4 l5 l6 l7 l8 : Option Value} {st : List Value} {x : Int32} {m : kMem} {Q : Option Value → kMem → Prop} : kJ 81 37 [l0, some (.int x), l2, l3, l4, l5, l6, l7, l8] st m Q = kJ 81 38 [l0, some (.int x), l2, l3, l4, l5, l6, l7, l8] (.int x :: st) m Q := kJ_next d81_37 rfl
theorem d81_38 : decode (mB 81) 38 = .ok (.invokevirtual 219, 3) := by decide +kernel
theorem s81_38 {l0 l1 l2 l3 l4 l5 l6 l7 l8 : Option Value} {v0 : Int32} {v1 : Nat} {m : kMem} {Q : Option Value → kMem → Prop} (h : kIs m.2.2.2 v1 4 = true) : kJ 81 38 [l0, l1, l2, l3, l4, l5, l6, l7, l8] [.int v0, .ref v1] m Q = kJ 80 0 [some (.ref v1), some (.int v0), none, none] [] m (fun v m2 => kJ 81 41 [l0, l1, l2, l3, l4, l5, l6, l7, l8] (v.toList ++ []) m2 Q) := kJ_call d81_38 (kg_callv 80 1 rfl rfl rfl rfl (Nat.le_of_ble_eq_true rfl) (Nat.le_of_ble_eq_true rfl) (Nat.le_of_ble_eq_true rfl) h rfl)
theorem d81_41 : decode (mB 81) 41 = .ok (.istore_n 3, 1) := by decide +kernel
theorem s81_41 {l0 l1 l2 l3 l4 l5 l6 l7 l8 : Option Value} {st : List Value} {x : Int32} {m : kMem} {Q : Option Value → kMem → Prop} (hp : kNL l2 = true) : kJ 81 41 [l0, l1, l2, l3, l4, l5, l6, l7, l8] (.int x :: st) m Q = kJ 81 42 [l0, l1, l2, some (.int x), l4, l5, l6, l7, l8] st m Q := kJ_next d81_41 (kg_sti (Nat.le_of_ble_eq_true rfl) hp)
theorem d81_42 : decode (mB 81) 42 = .ok (.aload_n 0, 1) := by decide +kernel
theorem s81_42 {l1 l2 l3 l4 l5 l6 l7 l8 : Option Value} {st : List Value} {x : Nat} {m : kMem} {Q : Option Value → kMem → Prop} : kJ 81 42 [some (.ref x), l1, l2, l3, l4, l5, l6, l7, l8] st m Q = kJ 81 43 [some (.ref x), l1, l2, l3, l4, l5, l6, l7, l8] (.ref x :: st) m Q := kJ_next d81_42 rfl
theorem d81_43 : decode (mB 81) 43 = .ok (.iload_n 1, 1) := by decide +kernel
theorem s81_43 {l0 l2 l3 l4 l5 l6 l7 l8 : Option Value} {st : List Value} {x : Int32} {m : kMem} {Q : Option Value → kMem → Prop} : kJ 81 43 [l0, some (.int x), l2, l3, l4, l5, l6, l7, l8] st m Q = kJ 81 44 [l0, some (.int x), l2, l3, l4, l5, l6, l7, l8] (.int x :: st) m Q := kJ_next d81_43 rfl
theorem d81_44 : decode (mB 81) 44 = .ok (.iload_n 3, 1) := by decide +kernel
theorem s81_44 {l0 l1 l2 l4 l5 l6 l7 l8 : Option Value} {st : List Value} {x : Int32} {m : kMem} {Q : Option Value → kMem → Prop} : kJ 81 44 [l0, l1, l2, some (.int x), l4, l5, l6, l7, l8] st m Q = kJ 81 45 [l0, l1, l2, some (.int x), l4, l5, l6, l7, l8] (.int x :: st) m Q := kJ_next d81_44 rfl
theorem d81_45 : decode (mB 81) 45 = .ok (.invokevirtual 222, 3) := by decide +kernel
theorem s81_45 {l0 l1 l2 l3 l4 l5 l6 l7 l8 : Option Value} {v0 : Int32} {v1 : Int32} {v2 : Nat} {m : kMem} {Q : Option Value → kMem → Prop} (h : kIs m.2.2.2 v2 4 = true) : kJ 81 45 [l0, l1, l2, l3, l4, l5, l6, l7, l8] [.int v0, .int v1, .ref v2] m Q = kJ 104 0 [some (.ref v2), some (.int v1), some (.int v0), none, none] [] m (fun v m2 => kJ 81 48 [l0, l1, l2, l3, l4, l5, l6, l7, l8] (v.toList ++ []) m2 Q) := kJ_call d81_45 (kg_callv 104 2 rfl rfl rfl rfl (Nat.le_of_ble_eq_true rfl) (Nat.le_of_ble_eq_true rfl) (Nat.le_of_ble_eq_true rfl) h rfl)
theorem d81_48 : decode (mB 81) 48 = .ok (.bipush (-4), 2) := by decide +kernel
theorem s81_48 {l0 l1 l2 l3 l4 l5 l6 l7 l8 : Option Value} {st : List Value} {m : kMem} {Q : Option Value → kMem → Prop} : kJ 81 48 [l0, l1, l2, l3, l4, l5, l6, l7, l8] st m Q = kJ 81 50 [l0, l1, l2, l3, l4, l5, l6, l7, l8] (.int (-4) :: st) m Q := kJ_next d81_48 rfl
theorem d81_50 : decode (mB 81) 50 = .ok (.istore 4, 2) := by decide +kernel
theorem s81_50 {l0 l1 l2 l3 l4 l5 l6 l7 l8 : Option Value} {st : List Value} {x : Int32} {m : kMem} {Q : Option Value → kMem → Prop} (hp : kNL l3 = true) : kJ 81 50 [l0, l1, l2, l3, l4, l5, l6, l7, l8] (.int x :: st) m Q = kJ 81 52 [l0, l1, l2, l3, some (.int x), l5, l6, l7, l8] st m Q := kJ_next d81_50 (kg_sti (Nat.le_of_ble_eq_true rfl) hp)
theorem d81_52 : decode (mB 81) 52 = .ok (.iload_n 3, 1) := by decide +kernel
theorem s81_52 {l0 l1 l2 l4 l5 l6 l7 l8 : Option Value} {st : List Value} {x : Int32} {m : kMem} {Q : Option Value → kMem → Prop} : kJ 81 52 [l0, l1, l2, some (.int x), l4, l5, l6, l7, l8] st m Q = kJ 81 53 [l0, l1, l2, some (.int x), l4, l5, l6, l7, l8] (.int x :: st) m Q := kJ_next d81_52 rfl
theorem d81_53 : decode (mB 81) 53 = .ok (.invokestatic 225, 3) := by decide +kernel
theorem s81_53 {l0 l1 l2 l3 l4 l5 l6 l7 l8 : Option Value} {v0 : Int32} {m : kMem} {Q : Option Value → kMem → Prop} : kJ 81 53 [l0, l1, l2, l3, l4, l5, l6, l7, l8] [.int v0] m Q = kJ 198 0 [some (.int v0)] [] m (fun v m2 => kJ 81 56 [l0, l1, l2, l3, l4, l5, l6, l7, l8] (v.toList ++ []) m2 Q) := kJ_call d81_53 (kg_calls 198 1 rfl rfl (Nat.le_of_ble_eq_true rfl) (Nat.le_of_ble_eq_true rfl) (Nat.le_of_ble_eq_true rfl) (Nat.le_of_ble_eq_true rfl))
theorem d81_56 : decode (mB 81) 56 = .ok (.istore 5, 2) := by decide +kernel
theorem s81_56 {l0 l1 l2 l3 l4 l5 l6 l7 l8 : Option Value} {st : List Value} {x : Int32} {m : kMem} {Q : Option Value → kMem → Prop} (hp : kNL l4 = true) : kJ 81 56 [l0, l1, l2, l3, l4, l5, l6, l7, l8] (.int x :: st) m Q = kJ 81 58 [l0, l1, l2, l3, l4, some (.int x), l6, l7, l8] st m Q := kJ_next d81_56 (kg_sti (Nat.le_of_ble_eq_true rfl) hp)
theorem d81_58 : decode (mB 81) 58 = .ok (.iconst 0, 1) := by decide +kernel
theorem s81_58 {l0 l1 l2 l3 l4 l5 l6 l7 l8 : Option Value} {st : List Value} {m : kMem} {Q : Option Value → kMem → Prop} : kJ 81 58 [l0, l1, l2, l3, l4, l5, l6, l7, l8] st m Q = kJ 81 59 [l0, l1, l2, l3, l4, l5, l6, l7, l8] (.int (nI 0) :: st) m Q := kJ_next d81_58 rfl
theorem d81_59 : decode (mB 81) 59 = .ok (.istore 6, 2) := by decide +kernel
theorem s81_59 {l0 l1 l2 l3 l4 l5 l6 l7 l8 : Option Value} {st : List Value} {x : Int32} {m : kMem} {Q : Option Value → kMem → Prop} (hp : kNL l5 = true) : kJ 81 59 [l0, l1, l2, l3, l4, l5, l6, l7, l8] (.int x :: st) m Q = kJ 81 61 [l0, l1, l2, l3, l4, l5, some (.int x), l7, l8] st m Q := kJ_next d81_59 (kg_sti (Nat.le_of_ble_eq_true rfl) hp)
theorem d81_61 : decode (mB 81) 61 = .ok (.iload 6, 2) := by decide +kernel
theorem s81_61 {l0 l1 l2 l3 l4 l5 l7 l8 : Option Value} {st : List Value} {x : Int32} {m : kMem} {Q : Option Value → kMem → Prop} : kJ 81 61 [l0, l1, l2, l3, l4, l5, some (.int x), l7, l8] st m Q = kJ 81 63 [l0, l1, l2, l3, l4, l5, some (.int x), l7, l8] (.int x :: st) m Q := kJ_next d81_61 rfl
theorem d81_63 : decode (mB 81) 63 = .ok (.bipush 20, 2) := by decide +kernel
theorem s81_63 {l0 l1 l2 l3 l4 l5 l6 l7 l8 : Option Value} {st : List Value} {m : kMem} {Q : Option Value → kMem → Prop} : kJ 81 63 [l0, l1, l2, l3, l4, l5, l6, l7, l8] st m Q = kJ 81 65 [l0, l1, l2, l3, l4, l5, l6, l7, l8] (.int (nI 20) :: st) m Q := kJ_next d81_63 rfl
theorem d81_65 : decode (mB 81) 65 = .ok (.if_icmp .gt 62, 3) := by decide +kernel
theorem s81_65 {l0 l1 l2 l3 l4 l5 l6 l7 l8 : Option Value} {st : List Value} {a b : Int32} {m : kMem} {Q : Option Value → kMem → Prop} : kJ 81 65 [l0, l1, l2, l3, l4, l5, l6, l7, l8] (.int b :: .int a :: st) m Q = (if b < a then kJ 81 127 [l0, l1, l2, l3, l4, l5, l6, l7, l8] st m Q else kJ 81 68 [l0, l1, l2, l3, l4, l5, l6, l7, l8] st m Q) := kJ_if d81_65 rfl (fun h => kJ_next d81_65 h) (fun h => kJ_next d81_65 h)
theorem d81_68 : decode (mB 81) 68 = .ok (.iconst 0, 1) := by decide +kernel
theorem s81_68 {l0 l1 l2 l3 l4 l5 l6 l7 l8 : Option Value} {st : List Value} {m : kMem} {Q : Option Value → kMem → Prop} : kJ 81 68 [l0, l1, l2, l3, l4, l5, l6, l7, l8] st m Q = kJ 81 69 [l0, l1, l2, l3, l4, l5, l6, l7, l8] (.int (nI 0) :: st) m Q := kJ_next d81_68 rfl
theorem d81_69 : decode (mB 81) 69 = .ok (.istore 7, 2) := by decide +kernel
theorem s81_69 {l0 l1 l2 l3 l4 l5 l6 l7 l8 : Option Value} {st : List Value} {x : Int32} {m : kMem} {Q : Option Value → kMem → Prop} (hp : kNL l6 = true) : kJ 81 69 [l0, l1, l2, l3, l4, l5, l6, l7, l8] (.int x :: st) m Q = kJ 81 71 [l0, l1, l2, l3, l4, l5, l6, some (.int x), l8] st m Q := kJ_next d81_69 (kg_sti (Nat.le_of_ble_eq_true rfl) hp)
theorem d81_71 : decode (mB 81) 71 = .ok (.iload 7, 2) := by decide +kernel
theorem s81_71 {l0 l1 l2 l3 l4 l5 l6 l8 : Option Value} {st : List Value} {x : Int32} {m : kMem} {Q : Option Value → kMem → Prop} : kJ 81 71 [l0, l1, l2, l3, l4, l5, l6, some (.int x), l8] st m Q = kJ 81 73 [l0, l1, l2, l3, l4, l5, l6, some (.int x), l8] (.int x :: st) m Q := kJ_next d81_71 rfl
theorem d81_73 : decode (mB 81) 73 = .ok (.aload_n 0, 1) := by decide +kernel
theorem s81_73 {l1 l2 l3 l4 l5 l6 l7 l8 : Option Value} {st : List Value} {x : Nat} {m : kMem} {Q : Option Value → kMem → Prop} : kJ 81 73 [some (.ref x), l1, l2, l3, l4, l5, l6, l7, l8] st m Q = kJ 81 74 [some (.ref x), l1, l2, l3, l4, l5, l6, l7, l8] (.ref x :: st) m Q := kJ_next d81_73 rfl
theorem d81_74 : decode (mB 81) 74 = .ok (.getfield 10, 3) := by decide +kernel
theorem s81_74 {l0 l1 l2 l3 l4 l5 l6 l7 l8 : Option Value} {st : List Value} {q : Nat} {mi : Nat → Nat → Int32} {ml : Nat → Nat → Int64} {mr : Nat → Nat → Option Nat} {nx : Nat} {Q : Option Value → kMem → Prop} (h : kIs nx q 4 = true) : kJ 81 74 [l0, l1, l2, l3, l4, l5, l6, l7, l8] (.ref q :: st) (mi, ml, mr, nx) Q = kJ 81 77 [l0, l1, l2, l3, l4, l5, l6, l7, l8] (va_rf (mr q 0) :: st) (mi, ml, mr, nx) Q := kJ_next d81_74 (kg_getr 4 0 rfl h (by decide))
theorem d81_77 : decode (mB 81) 77 = .ok (.getfield 88, 3) := by decide +kernel
theorem s81_77 {l0 l1 l2 l3 l4 l5 l6 l7 l8 : Option Value} {st : List Value} {q : Nat} {mi : Nat → Nat → Int32} {ml : Nat → Nat → Int64} {mr : Nat → Nat → Option Nat} {nx : Nat} {Q : Option Value → kMem → Prop} (h : kIs nx q 1 = true) : kJ 81 77 [l0, l1, l2, l3, l4, l5, l6, l7, l8] (.ref q :: st) (mi, ml, mr, nx) Q = kJ 81 80 [l0, l1, l2, l3, l4, l5, l6, l7, l8] (.int (mi q 0) :: st) (mi, ml, mr, nx) Q := kJ_next d81_77 (kg_geti 1 0 rfl h (by decide))
theorem d81_80 : decode (mB 81) 80 = .ok (.if_icmp .ge 41, 3) := by decide +kernel
theorem s81_80 {l0 l1 l2 l3 l4 l5 l6 l7 l8 : Option Value} {st : List Value} {a b : Int32} {m : kMem} {Q : Option Value → kMem → Prop} : kJ 81 80 [l0, l1, l2, l3, l4, l5, l6, l7, l8] (.int b :: .int a :: st) m Q = (if b ≤ a then kJ 81 121 [l0, l1, l2, l3, l4, l5, l6, l7, l8] st m Q else kJ 81 83 [l0, l1, l2, l3, l4, l5, l6, l7, l8] st m Q) := kJ_if d81_80 rfl (fun h => kJ_next d81_80 h) (fun h => kJ_next d81_80 h)
theorem d81_83 : decode (mB 81) 83 = .ok (.aload_n 0, 1) := by decide +kernel
theorem s81_83 {l1 l2 l3 l4 l5 l6 l7 l8 : Option Value} {st : List Value} {x : Nat} {m : kMem} {Q : Option Value → kMem → Prop} : kJ 81 83 [some (.ref x), l1, l2, l3, l4, l5, l6, l7, l8] st m Q = kJ 81 84 [some (.ref x), l1, l2, l3, l4, l5, l6, l7, l8] (.ref x :: st) m Q := kJ_next d81_83 rfl
theorem d81_84 : decode (mB 81) 84 = .ok (.iload_n 3, 1) := by decide +kernel
theorem s81_84 {l0 l1 l2 l4 l5 l6 l7 l8 : Option Value} {st : List Value} {x : Int32} {m : kMem} {Q : Option Value → kMem → Prop} : kJ 81 84 [l0, l1, l2, some (.int x), l4, l5, l6, l7, l8] st m Q = kJ 81 85 [l0, l1, l2, some (.int x), l4, l5, l6, l7, l8] (.int x :: st) m Q := kJ_next d81_84 rfl
theorem d81_85 : decode (mB 81) 85 = .ok (.iload 6, 2) := by decide +kernel
theorem s81_85 {l0 l1 l2 l3 l4 l5 l7 l8 : Option Value} {st : List Value} {x : Int32} {m : kMem} {Q : Option Value → kMem → Prop} : kJ 81 85 [l0, l1, l2, l3, l4, l5, some (.int x), l7, l8] st m Q = kJ 81 87 [l0, l1, l2, l3, l4, l5, some (.int x), l7, l8] (.int x :: st) m Q := kJ_next d81_85 rfl
theorem d81_87 : decode (mB 81) 87 = .ok (.iload 7, 2) := by decide +kernel
theorem s81_87 {l0 l1 l2 l3 l4 l5 l6 l8 : Option Value} {st : List Value} {x : Int32} {m : kMem} {Q : Option Value → kMem → Prop} : kJ 81 87 [l0, l1, l2, l3, l4, l5, l6, some (.int x), l8] st m Q = kJ 81 89 [l0, l1, l2, l3, l4, l5, l6, some (.int x), l8] (.int x :: st) m Q := kJ_next d81_87 rfl
theorem d81_89 : decode (mB 81) 89 = .ok (.invokevirtual 230, 3) := by decide +kernel
theorem s81_89 {l0 l1 l2 l3 l4 l5 l6 l7 l8 : Option Value} {v0 : Int32} {v1 : Int32} {v2 : Int32} {v3 : Nat} {m : kMem} {Q : Option Value → kMem → Prop} (h : kIs m.2.2.2 v3 4 = true) : kJ 81 89 [l0, l1, l2, l3, l4, l5, l6, l7, l8] [.int v0, .int v1, .int v2, .ref v3] m Q = kJ 105 0 [some (.ref v3), some (.int v2), some (.int v1), some (.int v0), none, none, none] [] m (fun v m2 => kJ 81 92 [l0, l1, l2, l3, l4, l5, l6, l7, l8] (v.toList ++ []) m2 Q) := kJ_call d81_89 (kg_callv 105 3 rfl rfl rfl rfl (Nat.le_of_ble_eq_true rfl) (Nat.le_of_ble_eq_true rfl) (Nat.le_of_ble_eq_true rfl) h rfl)
theorem d81_92 : decode (mB 81) 92 = .ok (.istore 8, 2) := by decide +kernel
theorem s81_92 {l0 l1 l2 l3 l4 l5 l6 l7 l8 : Option Value} {st : List Value} {x : Int32} {m : kMem} {Q : Option Value → kMem → Prop} (hp : kNL l7 = true) : kJ 81 92 [l0, l1, l2, l3, l4, l5, l6, l7, l8] (.int x :: st) m Q = kJ 81 94 [l0, l1, l2, l3, l4, l5, l6, l7, some (.int x)] st m Q := kJ_next d81_92 (kg_sti (Nat.le_of_ble_eq_true rfl) hp)
theorem d81_94 : decode (mB 81) 94 = .ok (.iload 8, 2) := by decide +kernel
theorem s81_94 {l0 l1 l2 l3 l4 l5 l6 l7 : Option Value} {st : List Value} {x : Int32} {m : kMem} {Q : Option Value → kMem → Prop} : kJ 81 94 [l0, l1, l2, l3, l4, l5, l6, l7, some (.int x)] st m Q = kJ 81 96 [l0, l1, l2, l3, l4, l5, l6, l7, some (.int x)] (.int x :: st) m Q := kJ_next d81_94 rfl
theorem d81_96 : decode (mB 81) 96 = .ok (.iload 5, 2) := by decide +kernel
theorem s81_96 {l0 l1 l2 l3 l4 l6 l7 l8 : Option Value} {st : List Value} {x : Int32} {m : kMem} {Q : Option Value → kMem → Prop} : kJ 81 96 [l0, l1, l2, l3, l4, some (.int x), l6, l7, l8] st m Q = kJ 81 98 [l0, l1, l2, l3, l4, some (.int x), l6, l7, l8] (.int x :: st) m Q := kJ_next d81_96 rfl
theorem d81_98 : decode (mB 81) 98 = .ok (.if_icmp .ge 17, 3) := by decide +kernel
theorem s81_98 {l0 l1 l2 l3 l4 l5 l6 l7 l8 : Option Value} {st : List Value} {a b : Int32} {m : kMem} {Q : Option Value → kMem → Prop} : kJ 81 98 [l0, l1, l2, l3, l4, l5, l6, l7, l8] (.int b :: .int a :: st) m Q = (if b ≤ a then kJ 81 115 [l0, l1, l2, l3, l4, l5, l6, l7, l8] st m Q else kJ 81 101 [l0, l1, l2, l3, l4, l5, l6, l7, l8] st m Q) := kJ_if d81_98 rfl (fun h => kJ_next d81_98 h) (fun h => kJ_next d81_98 h)
theorem d81_101 : decode (mB 81) 101 = .ok (.bipush 10, 2) := by decide +kernel
theorem s81_101 {l0 l1 l2 l3 l4 l5 l6 l7 l8 : Option Value} {st : List Value} {m : kMem} {Q : Option Value → kMem → Prop} : kJ 81 101 [l0, l1, l2, l3, l4, l5, l6, l7, l8] st m Q = kJ 81 103 [l0, l1, l2, l3, l4, l5, l6, l7, l8] (.int (nI 10) :: st) m Q := kJ_next d81_101 rfl
theorem d81_103 : decode (mB 81) 103 = .ok (.iload 6, 2) := by decide +kernel
theorem s81_103 {l0 l1 l2 l3 l4 l5 l7 l8 : Option Value} {st : List Value} {x : Int32} {m : kMem} {Q : Option Value → kMem → Prop} : kJ 81 103 [l0, l1, l2, l3, l4, l5, some (.int x), l7, l8] st m Q = kJ 81 105 [l0, l1, l2, l3, l4, l5, some (.int x), l7, l8] (.int x :: st) m Q := kJ_next d81_103 rfl
theorem d81_105 : decode (mB 81) 105 = .ok (.imul, 1) := by decide +kernel
theorem s81_105 {l0 l1 l2 l3 l4 l5 l6 l7 l8 : Option Value} {st : List Value} {a b : Int32} {m : kMem} {Q : Option Value → kMem → Prop} : kJ 81 105 [l0, l1, l2, l3, l4, l5, l6, l7, l8] (.int b :: .int a :: st) m Q = kJ 81 106 [l0, l1, l2, l3, l4, l5, l6, l7, l8] (.int (a * b) :: st) m Q := kJ_next d81_105 rfl
theorem d81_106 : decode (mB 81) 106 = .ok (.iload 7, 2) := by decide +kernel
theorem s81_106 {l0 l1 l2 l3 l4 l5 l6 l8 : Option Value} {st : List Value} {x : Int32} {m : kMem} {Q : Option Value → kMem → Prop} : kJ 81 106 [l0, l1, l2, l3, l4, l5, l6, some (.int x), l8] st m Q = kJ 81 108 [l0, l1, l2, l3, l4, l5, l6, some (.int x), l8] (.int x :: st) m Q := kJ_next d81_106 rfl
theorem d81_108 : decode (mB 81) 108 = .ok (.iadd, 1) := by decide +kernel
theorem s81_108 {l0 l1 l2 l3 l4 l5 l6 l7 l8 : Option Value} {st : List Value} {a b : Int32} {m : kMem} {Q : Option Value → kMem → Prop} : kJ 81 108 [l0, l1, l2, l3, l4, l5, l6, l7, l8] (.int b :: .int a :: st) m Q = kJ 81 109 [l0, l1, l2, l3, l4, l5, l6, l7, l8] (.int (a + b) :: st) m Q := kJ_next d81_108 rfl
theorem d81_109 : decode (mB 81) 109 = .ok (.istore 4, 2) := by decide +kernel
theorem s81_109 {l0 l1 l2 l3 l4 l5 l6 l7 l8 : Option Value} {st : List Value} {x : Int32} {m : kMem} {Q : Option Value → kMem → Prop} (hp : kNL l3 = true) : kJ 81 109 [l0, l1, l2, l3, l4, l5, l6, l7, l8] (.int x :: st) m Q = kJ 81 111 [l0, l1, l2, l3, some (.int x), l5, l6, l7, l8] st m Q := kJ_next d81_109 (kg_sti (Nat.le_of_ble_eq_true rfl) hp)
theorem d81_111 : decode (mB 81) 111 = .ok (.iload 8, 2) := by decide +kernel
theorem s81_111 {l0 l1 l2 l3 l4 l5 l6 l7 : Option Value} {st : List Value} {x : Int32} {m : kMem} {Q : Option Value → kMem → Prop} : kJ 81 111 [l0, l1, l2, l3, l4, l5, l6, l7, some (.int x)] st m Q = kJ 81 113 [l0, l1, l2, l3, l4, l5, l6, l7, some (.int x)] (.int x :: st) m Q := kJ_next d81_111 rfl
theorem d81_113 : decode (mB 81) 113 = .ok (.istore 5, 2) := by decide +kernel
theorem s81_113 {l0 l1 l2 l3 l4 l5 l6 l7 l8 : Option Value} {st : List Value} {x : Int32} {m : kMem} {Q : Option Value → kMem → Prop} (hp : kNL l4 = true) : kJ 81 113 [l0, l1, l2, l3, l4, l5, l6, l7, l8] (.int x :: st) m Q = kJ 81 115 [l0, l1, l2, l3, l4, some (.int x), l6, l7, l8] st m Q := kJ_next d81_113 (kg_sti (Nat.le_of_ble_eq_true rfl) hp)
theorem d81_115 : decode (mB 81) 115 = .ok (.iinc 7 1, 3) := by decide +kernel
theorem s81_115 {l0 l1 l2 l3 l4 l5 l6 l8 : Option Value} {st : List Value} {x : Int32} {m : kMem} {Q : Option Value → kMem → Prop} (hp : kNL l6 = true) : kJ 81 115 [l0, l1, l2, l3, l4, l5, l6, some (.int x), l8] st m Q = kJ 81 118 [l0, l1, l2, l3, l4, l5, l6, some (.int (x + (nI 1))), l8] st m Q := kJ_next d81_115 (kg_inc rfl (Nat.le_of_ble_eq_true rfl) hp)
theorem d81_118 : decode (mB 81) 118 = .ok (.goto (-47), 3) := by decide +kernel
theorem s81_118 {l0 l1 l2 l3 l4 l5 l6 l7 l8 : Option Value} {st : List Value} {m : kMem} {Q : Option Value → kMem → Prop} : kJ 81 118 [l0, l1, l2, l3, l4, l5, l6, l7, l8] st m Q = kJ 81 71 [l0, l1, l2, l3, l4, l5, l6, l7, l8] st m Q := kJ_next d81_118 rfl
theorem d81_121 : decode (mB 81) 121 = .ok (.iinc 6 1, 3) := by decide +kernel
theorem s81_121 {l0 l1 l2 l3 l4 l5 l7 l8 : Option Value} {st : List Value} {x : Int32} {m : kMem} {Q : Option Value → kMem → Prop} (hp : kNL l5 = true) : kJ 81 121 [l0, l1, l2, l3, l4, l5, some (.int x), l7, l8] st m Q = kJ 81 124 [l0, l1, l2, l3, l4, l5, some (.int (x + (nI 1))), l7, l8] st m Q := kJ_next d81_121 (kg_inc rfl (Nat.le_of_ble_eq_true rfl) hp)
theorem d81_124 : decode (mB 81) 124 = .ok (.goto (-63), 3) := by decide +kernel
theorem s81_124 {l0 l1 l2 l3 l4 l5 l6 l7 l8 : Option Value} {st : List Value} {m : kMem} {Q : Option Value → kMem → Prop} : kJ 81 124 [l0, l1, l2, l3, l4, l5, l6, l7, l8] st m Q = kJ 81 61 [l0, l1, l2, l3, l4, l5, l6, l7, l8] st m Q := kJ_next d81_124 rfl
theorem d81_127 : decode (mB 81) 127 = .ok (.iload 4, 2) := by decide +kernel
theorem s81_127 {l0 l1 l2 l3 l5 l6 l7 l8 : Option Value} {st : List Value} {x : Int32} {m : kMem} {Q : Option Value → kMem → Prop} : kJ 81 127 [l0, l1, l2, l3, some (.int x), l5, l6, l7, l8] st m Q = kJ 81 129 [l0, l1, l2, l3, some (.int x), l5, l6, l7, l8] (.int x :: st) m Q := kJ_next d81_127 rfl
theorem d81_129 : decode (mB 81) 129 = .ok (.bipush (-4), 2) := by decide +kernel
theorem s81_129 {l0 l1 l2 l3 l4 l5 l6 l7 l8 : Option Value} {st : List Value} {m : kMem} {Q : Option Value → kMem → Prop} : kJ 81 129 [l0, l1, l2, l3, l4, l5, l6, l7, l8] st m Q = kJ 81 131 [l0, l1, l2, l3, l4, l5, l6, l7, l8] (.int (-4) :: st) m Q := kJ_next d81_129 rfl
theorem d81_131 : decode (mB 81) 131 = .ok (.if_icmp .eq 7, 3) := by decide +kernel
theorem s81_131 {l0 l1 l2 l3 l4 l5 l6 l7 l8 : Option Value} {st : List Value} {a b : Int32} {m : kMem} {Q : Option Value → kMem → Prop} : kJ 81 131 [l0, l1, l2, l3, l4, l5, l6, l7, l8] (.int b :: .int a :: st) m Q = (if a = b then kJ 81 138 [l0, l1, l2, l3, l4, l5, l6, l7, l8] st m Q else kJ 81 134 [l0, l1, l2, l3, l4, l5, l6, l7, l8] st m Q) := kJ_if d81_131 rfl (fun h => kJ_next d81_131 h) (fun h => kJ_next d81_131 h)
theorem d81_134 : decode (mB 81) 134 = .ok (.iload_n 2, 1) := by decide +kernel
theorem s81_134 {l0 l1 l3 l4 l5 l6 l7 l8 : Option Value} {st : List Value} {x : Int32} {m : kMem} {Q : Option Value → kMem → Prop} : kJ 81 134 [l0, l1, some (.int x), l3, l4, l5, l6, l7, l8] st m Q = kJ 81 135 [l0, l1, some (.int x), l3, l4, l5, l6, l7, l8] (.int x :: st) m Q := kJ_next d81_134 rfl
theorem d81_135 : decode (mB 81) 135 = .ok (.ifCond .ne 8, 3) := by decide +kernel
theorem s81_135 {l0 l1 l2 l3 l4 l5 l6 l7 l8 : Option Value} {st : List Value} {a : Int32} {m : kMem} {Q : Option Value → kMem → Prop} : kJ 81 135 [l0, l1, l2, l3, l4, l5, l6, l7, l8] (.int a :: st) m Q = (if a = 0 then kJ 81 138 [l0, l1, l2, l3, l4, l5, l6, l7, l8] st m Q else kJ 81 143 [l0, l1, l2, l3, l4, l5, l6, l7, l8] st m Q) := kJ_if d81_135 rfl (fun h => kJ_next d81_135 h) (fun h => kJ_next d81_135 h)
theorem d81_138 : decode (mB 81) 138 = .ok (.iload 4, 2) := by decide +kernel
theorem s81_138 {l0 l1 l2 l3 l5 l6 l7 l8 : Option Value} {st : List Value} {x : Int32} {m : kMem} {Q : Option Value → kMem → Prop} : kJ 81 138 [l0, l1, l2, l3, some (.int x), l5, l6, l7, l8] st m Q = kJ 81 140 [l0, l1, l2, l3, some (.int x), l5, l6, l7, l8] (.int x :: st) m Q := kJ_next d81_138 rfl
theorem d81_140 : decode (mB 81) 140 = .ok (.goto 5, 3) := by decide +kernel
theorem s81_140 {l0 l1 l2 l3 l4 l5 l6 l7 l8 : Option Value} {st : List Value} {m : kMem} {Q : Option Value → kMem → Prop} : kJ 81 140 [l0, l1, l2, l3, l4, l5, l6, l7, l8] st m Q = kJ 81 145 [l0, l1, l2, l3, l4, l5, l6, l7, l8] st m Q := kJ_next d81_140 rfl
theorem d81_143 : decode (mB 81) 143 = .ok (.iload 5, 2) := by decide +kernel
theorem s81_143 {l0 l1 l2 l3 l4 l6 l7 l8 : Option Value} {st : List Value} {x : Int32} {m : kMem} {Q : Option Value → kMem → Prop} : kJ 81 143 [l0, l1, l2, l3, l4, some (.int x), l6, l7, l8] st m Q = kJ 81 145 [l0, l1, l2, l3, l4, some (.int x), l6, l7, l8] (.int x :: st) m Q := kJ_next d81_143 rfl
theorem d81_145 : decode (mB 81) 145 = .ok (.ireturn, 1) := by decide +kernel
theorem s81_145 {l0 l1 l2 l3 l4 l5 l6 l7 l8 : Option Value} {x : Int32} {m : kMem} {Q : Option Value → kMem → Prop} : kJ 81 145 [l0, l1, l2, l3, l4, l5, l6, l7, l8] [.int x] m Q = Q (some (.int x)) m := kJ_ret d81_145 rfl
theorem d82_0 : decode (mB 82) 0 = .ok (.iload_n 2, 1) := by decide +kernel
theorem s82_0 {l0 l1 l3 l4 l5 l6 l7 l8 : Option Value} {st : List Value} {x : Int32} {m : kMem} {Q : Option Value → kMem → Prop} : kJ 82 0 [l0, l1, some (.int x), l3, l4, l5, l6, l7, l8] st m Q = kJ 82 1 [l0, l1, some (.int x), l3, l4, l5, l6, l7, l8] (.int x :: st) m Q := kJ_next d82_0 rfl
theorem d82_1 : decode (mB 82) 1 = .ok (.iconst 1, 1) := by decide +kernel
theorem s82_1 {l0 l1 l2 l3 l4 l5 l6 l7 l8 : Option Value} {st : List Value} {m : kMem} {Q : Option Value → kMem → Prop} : kJ 82 1 [l0, l1, l2, l3, l4, l5, l6, l7, l8] st m Q = kJ 82 2 [l0, l1, l2, l3, l4, l5, l6, l7, l8] (.int (nI 1) :: st) m Q := kJ_next d82_1 rfl
theorem d82_2 : decode (mB 82) 2 = .ok (.bipush 60, 2) := by decide +kernel
theorem s82_2 {l0 l1 l2 l3 l4 l5 l6 l7 l8 : Option Value} {st : List Value} {m : kMem} {Q : Option Value → kMem → Prop} : kJ 82 2 [l0, l1, l2, l3, l4, l5, l6, l7, l8] st m Q = kJ 82 4 [l0, l1, l2, l3, l4, l5, l6, l7, l8] (.int (nI 60) :: st) m Q := kJ_next d82_2 rfl
theorem d82_4 : decode (mB 82) 4 = .ok (.invokestatic 55, 3) := by decide +kernel
theorem s82_4 {l0 l1 l2 l3 l4 l5 l6 l7 l8 : Option Value} {v0 : Int32} {v1 : Int32} {v2 : Int32} {m : kMem} {Q : Option Value → kMem → Prop} : kJ 82 4 [l0, l1, l2, l3, l4, l5, l6, l7, l8] [.int v0, .int v1, .int v2] m Q = kJ 90 0 [some (.int v2), some (.int v1), some (.int v0)] [] m (fun v m2 => kJ 82 7 [l0, l1, l2, l3, l4, l5, l6, l7, l8] (v.toList ++ []) m2 Q) := kJ_call d82_4 (kg_calls 90 3 rfl rfl (Nat.le_of_ble_eq_true rfl) (Nat.le_of_ble_eq_true rfl) (Nat.le_of_ble_eq_true rfl) (Nat.le_of_ble_eq_true rfl))
theorem d82_7 : decode (mB 82) 7 = .ok (.ifCond .eq 12, 3) := by decide +kernel
theorem s82_7 {l0 l1 l2 l3 l4 l5 l6 l7 l8 : Option Value} {st : List Value} {a : Int32} {m : kMem} {Q : Option Value → kMem → Prop} : kJ 82 7 [l0, l1, l2, l3, l4, l5, l6, l7, l8] (.int a :: st) m Q = (if a = 0 then kJ 82 19 [l0, l1, l2, l3, l4, l5, l6, l7, l8] st m Q else kJ 82 10 [l0, l1, l2, l3, l4, l5, l6, l7, l8] st m Q) := kJ_if d82_7 rfl (fun h => kJ_next d82_7 h) (fun h => kJ_next d82_7 h)
theorem d82_10 : decode (mB 82) 10 = .ok (.iload_n 3, 1) := by decide +kernel
theorem s82_10 {l0 l1 l2 l4 l5 l6 l7 l8 : Option Value} {st : List Value} {x : Int32} {m : kMem} {Q : Option Value → kMem → Prop} : kJ 82 10 [l0, l1, l2, some (.int x), l4, l5, l6, l7, l8] st m Q = kJ 82 11 [l0, l1, l2, some (.int x), l4, l5, l6, l7, l8] (.int x :: st) m Q := kJ_next d82_10 rfl
theorem d82_11 : decode (mB 82) 11 = .ok (.iconst 0, 1) := by decide +kernel
theorem s82_11 {l0 l1 l2 l3 l4 l5 l6 l7 l8 : Option Value} {st : List Value} {m : kMem} {Q : Option Value → kMem → Prop} : kJ 82 11 [l0, l1, l2, l3, l4, l5, l6, l7, l8] st m Q = kJ 82 12 [l0, l1, l2, l3, l4, l5, l6, l7, l8] (.int (nI 0) :: st) m Q := kJ_next d82_11 rfl
theorem d82_12 : decode (mB 82) 12 = .ok (.iconst 1, 1) := by decide +kernel
theorem s82_12 {l0 l1 l2 l3 l4 l5 l6 l7 l8 : Option Value} {st : List Value} {m : kMem} {Q : Option Value → kMem → Prop} : kJ 82 12 [l0, l1, l2, l3, l4, l5, l6, l7, l8] st m Q = kJ 82 13 [l0, l1, l2, l3, l4, l5, l6, l7, l8] (.int (nI 1) :: st) m Q := kJ_next d82_12 rfl
theorem d82_13 : decode (mB 82) 13 = .ok (.invokestatic 55, 3) := by decide +kernel
theorem s82_13 {l0 l1 l2 l3 l4 l5 l6 l7 l8 : Option Value} {v0 : Int32} {v1 : Int32} {v2 : Int32} {m : kMem} {Q : Option Value → kMem → Prop} : kJ 82 13 [l0, l1, l2, l3, l4, l5, l6, l7, l8] [.int v0, .int v1, .int v2] m Q = kJ 90 0 [some (.int v2), some (.int v1), some (.int v0)] [] m (fun v m2 => kJ 82 16 [l0, l1, l2, l3, l4, l5, l6, l7, l8] (v.toList ++ []) m2 Q) := kJ_call d82_13 (kg_calls 90 3 rfl rfl (Nat.le_of_ble_eq_true rfl) (Nat.le_of_ble_eq_true rfl) (Nat.le_of_ble_eq_true rfl) (Nat.le_of_ble_eq_true rfl))
theorem d82_16 : decode (mB 82) 16 = .ok (.ifCond .ne 5, 3) := by decide +kernel
theorem s82_16 {l0 l1 l2 l3 l4 l5 l6 l7 l8 : Option Value} {st : List Value} {a : Int32} {m : kMem} {Q : Option Value → kMem → Prop} : kJ 82 16 [l0, l1, l2, l3, l4, l5, l6, l7, l8] (.int a :: st) m Q = (if a = 0 then kJ 82 19 [l0, l1, l2, l3, l4, l5, l6, l7, l8] st m Q else kJ 82 21 [l0, l1, l2, l3, l4, l5, l6, l7, l8] st m Q) := kJ_if d82_16 rfl (fun h => kJ_next d82_16 h) (fun h => kJ_next d82_16 h)
theorem d82_19 : decode (mB 82) 19 = .ok (.iconst (-1), 1) := by decide +kernel
theorem s82_19 {l0 l1 l2 l3 l4 l5 l6 l7 l8 : Option Value} {st : List Value} {m : kMem} {Q : Option Value → kMem → Prop} : kJ 82 19 [l0, l1, l2, l3, l4, l5, l6, l7, l8] st m Q = kJ 82 20 [l0, l1, l2, l3, l4, l5, l6, l7, l8] (.int (-1) :: st) m Q := kJ_next d82_19 rfl
theorem d82_20 : decode (mB 82) 20 = .ok (.ireturn, 1) := by decide +kernel
theorem s82_20 {l0 l1 l2 l3 l4 l5 l6 l7 l8 : Option Value} {x : Int32} {m : kMem} {Q : Option Value → kMem → Prop} : kJ 82 20 [l0, l1, l2, l3, l4, l5, l6, l7, l8] [.int x] m Q = Q (some (.int x)) m := kJ_ret d82_20 rfl
theorem d82_21 : decode (mB 82) 21 = .ok (.aload_n 0, 1) := by decide +kernel
theorem s82_21 {l1 l2 l3 l4 l5 l6 l7 l8 : Option Value} {st : List Value} {x : Nat} {m : kMem} {Q : Option Value → kMem → Prop} : kJ 82 21 [some (.ref x), l1, l2, l3, l4, l5, l6, l7, l8] st m Q = kJ 82 22 [some (.ref x), l1, l2, l3, l4, l5, l6, l7, l8] (.ref x :: st) m Q := kJ_next d82_21 rfl
theorem d82_22 : decode (mB 82) 22 = .ok (.getfield 10, 3) := by decide +kernel
theorem s82_22 {l0 l1 l2 l3 l4 l5 l6 l7 l8 : Option Value} {st : List Value} {q : Nat} {mi : Nat → Nat → Int32} {ml : Nat → Nat → Int64} {mr : Nat → Nat → Option Nat} {nx : Nat} {Q : Option Value → kMem → Prop} (h : kIs nx q 4 = true) : kJ 82 22 [l0, l1, l2, l3, l4, l5, l6, l7, l8] (.ref q :: st) (mi, ml, mr, nx) Q = kJ 82 25 [l0, l1, l2, l3, l4, l5, l6, l7, l8] (va_rf (mr q 0) :: st) (mi, ml, mr, nx) Q := kJ_next d82_22 (kg_getr 4 0 rfl h (by decide))
theorem d82_25 : decode (mB 82) 25 = .ok (.getfield 91, 3) := by decide +kernel
theorem s82_25 {l0 l1 l2 l3 l4 l5 l6 l7 l8 : Option Value} {st : List Value} {q : Nat} {mi : Nat → Nat → Int32} {ml : Nat → Nat → Int64} {mr : Nat → Nat → Option Nat} {nx : Nat} {Q : Option Value → kMem → Prop} (h : kIs nx q 1 = true) : kJ 82 25 [l0, l1, l2, l3, l4, l5, l6, l7, l8] (.ref q :: st) (mi, ml, mr, nx) Q = kJ 82 28 [l0, l1, l2, l3, l4, l5, l6, l7, l8] (.int (mi q 4) :: st) (mi, ml, mr, nx) Q := kJ_next d82_25 (kg_geti 1 4 rfl h (by decide))
theorem d82_28 : decode (mB 82) 28 = .ok (.ifCond .gt 6, 3) := by decide +kernel
theorem s82_28 {l0 l1 l2 l3 l4 l5 l6 l7 l8 : Option Value} {st : List Value} {a : Int32} {m : kMem} {Q : Option Value → kMem → Prop} : kJ 82 28 [l0, l1, l2, l3, l4, l5, l6, l7, l8] (.int a :: st) m Q = (if 0 < a then kJ 82 34 [l0, l1, l2, l3, l4, l5, l6, l7, l8] st m Q else kJ 82 31 [l0, l1, l2, l3, l4, l5, l6, l7, l8] st m Q) := kJ_if d82_28 rfl (fun h => kJ_next d82_28 h) (fun h => kJ_next d82_28 h)
theorem d82_31 : decode (mB 82) 31 = .ok (.bipush (-2), 2) := by decide +kernel
theorem s82_31 {l0 l1 l2 l3 l4 l5 l6 l7 l8 : Option Value} {st : List Value} {m : kMem} {Q : Option Value → kMem → Prop} : kJ 82 31 [l0, l1, l2, l3, l4, l5, l6, l7, l8] st m Q = kJ 82 33 [l0, l1, l2, l3, l4, l5, l6, l7, l8] (.int (-2) :: st) m Q := kJ_next d82_31 rfl
theorem d82_33 : decode (mB 82) 33 = .ok (.ireturn, 1) := by decide +kernel
theorem s82_33 {l0 l1 l2 l3 l4 l5 l6 l7 l8 : Option Value} {x : Int32} {m : kMem} {Q : Option Value → kMem → Prop} : kJ 82 33 [l0, l1, l2, l3, l4, l5, l6, l7, l8] [.int x] m Q = Q (some (.int x)) m := kJ_ret d82_33 rfl
theorem d82_34 : decode (mB 82) 34 = .ok (.aload_n 0, 1) := by decide +kernel
theorem s82_34 {l1 l2 l3 l4 l5 l6 l7 l8 : Option Value} {st : List Value} {x : Nat} {m : kMem} {Q : Option Value → kMem → Prop} : kJ 82 34 [some (.ref x), l1, l2, l3, l4, l5, l6, l7, l8] st m Q = kJ 82 35 [some (.ref x), l1, l2, l3, l4, l5, l6, l7, l8] (.ref x :: st) m Q := kJ_next d82_34 rfl
theorem d82_35 : decode (mB 82) 35 = .ok (.getfield 16, 3) := by decide +kernel
theorem s82_35 {l0 l1 l2 l3 l4 l5 l6 l7 l8 : Option Value} {st : List Value} {q : Nat} {mi : Nat → Nat → Int32} {ml : Nat → Nat → Int64} {mr : Nat → Nat → Option Nat} {nx : Nat} {Q : Option Value → kMem → Prop} (h : kIs nx q 4 = true) : kJ 82 35 [l0, l1, l2, l3, l4, l5, l6, l7, l8] (.ref q :: st) (mi, ml, mr, nx) Q = kJ 82 38 [l0, l1, l2, l3, l4, l5, l6, l7, l8] (va_rf (mr q 1) :: st) (mi, ml, mr, nx) Q := kJ_next d82_35 (kg_getr 4 1 rfl h (by decide))
theorem d82_38 : decode (mB 82) 38 = .ok (.aload_n 0, 1) := by decide +kernel
theorem s82_38 {l1 l2 l3 l4 l5 l6 l7 l8 : Option Value} {st : List Value} {x : Nat} {m : kMem} {Q : Option Value → kMem → Prop} : kJ 82 38 [some (.ref x), l1, l2, l3, l4, l5, l6, l7, l8] st m Q = kJ 82 39 [some (.ref x), l1, l2, l3, l4, l5, l6, l7, l8] (.ref x :: st) m Q := kJ_next d82_38 rfl
theorem d82_39 : decode (mB 82) 39 = .ok (.getfield 10, 3) := by decide +kernel
theorem s82_39 {l0 l1 l2 l3 l4 l5 l6 l7 l8 : Option Value} {st : List Value} {q : Nat} {mi : Nat → Nat → Int32} {ml : Nat → Nat → Int64} {mr : Nat → Nat → Option Nat} {nx : Nat} {Q : Option Value → kMem → Prop} (h : kIs nx q 4 = true) : kJ 82 39 [l0, l1, l2, l3, l4, l5, l6, l7, l8] (.ref q :: st) (mi, ml, mr, nx) Q = kJ 82 42 [l0, l1, l2, l3, l4, l5, l6, l7, l8] (va_rf (mr q 0) :: st) (mi, ml, mr, nx) Q := kJ_next d82_39 (kg_getr 4 0 rfl h (by decide))
theorem d82_42 : decode (mB 82) 42 = .ok (.invokevirtual 81, 3) := by decide +kernel
theorem s82_42 {l0 l1 l2 l3 l4 l5 l6 l7 l8 : Option Value} {v0 : Nat} {v1 : Nat} {m : kMem} {Q : Option Value → kMem → Prop} (h : kIs m.2.2.2 v1 1 = true) : kJ 82 42 [l0, l1, l2, l3, l4, l5, l6, l7, l8] [.ref v0, .ref v1] m Q = kJ 6 0 [some (.ref v1), some (.ref v0)] [] m (fun v m2 => kJ 82 45 [l0, l1, l2, l3, l4, l5, l6, l7, l8] (v.toList ++ []) m2 Q) := kJ_call d82_42 (kg_callv 6 1 rfl rfl rfl rfl (Nat.le_of_ble_eq_true rfl) (Nat.le_of_ble_eq_true rfl) (Nat.le_of_ble_eq_true rfl) h rfl)
theorem d82_45 : decode (mB 82) 45 = .ok (.iconst 0, 1) := by decide +kernel
theorem s82_45 {l0 l1 l2 l3 l4 l5 l6 l7 l8 : Option Value} {st : List Value} {m : kMem} {Q : Option Value → kMem → Prop} : kJ 82 45 [l0, l1, l2, l3, l4, l5, l6, l7, l8] st m Q = kJ 82 46 [l0, l1, l2, l3, l4, l5, l6, l7, l8] (.int (nI 0) :: st) m Q := kJ_next d82_45 rfl
theorem d82_46 : decode (mB 82) 46 = .ok (.istore 4, 2) := by decide +kernel
theorem s82_46 {l0 l1 l2 l3 l4 l5 l6 l7 l8 : Option Value} {st : List Value} {x : Int32} {m : kMem} {Q : Option Value → kMem → Prop} (hp : kNL l3 = true) : kJ 82 46 [l0, l1, l2, l3, l4, l5, l6, l7, l8] (.int x :: st) m Q = kJ 82 48 [l0, l1, l2, l3, some (.int x), l5, l6, l7, l8] st m Q := kJ_next d82_46 (kg_sti (Nat.le_of_ble_eq_true rfl) hp)
theorem d82_48 : decode (mB 82) 48 = .ok (.iload_n 1, 1) := by decide +kernel
theorem s82_48 {l0 l2 l3 l4 l5 l6 l7 l8 : Option Value} {st : List Value} {x : Int32} {m : kMem} {Q : Option Value → kMem → Prop} : kJ 82 48 [l0, some (.int x), l2, l3, l4, l5, l6, l7, l8] st m Q = kJ 82 49 [l0, some (.int x), l2, l3, l4, l5, l6, l7, l8] (.int x :: st) m Q := kJ_next d82_48 rfl
theorem d82_49 : decode (mB 82) 49 = .ok (.istore 5, 2) := by decide +kernel
theorem s82_49 {l0 l1 l2 l3 l4 l5 l6 l7 l8 : Option Value} {st : List Value} {x : Int32} {m : kMem} {Q : Option Value → kMem → Prop} (hp : kNL l4 = true) : kJ 82 49 [l0, l1, l2, l3, l4, l5, l6, l7, l8] (.int x :: st) m Q = kJ 82 51 [l0, l1, l2, l3, l4, some (.int x), l6, l7, l8] st m Q := kJ_next d82_49 (kg_sti (Nat.le_of_ble_eq_true rfl) hp)
theorem d82_51 : decode (mB 82) 51 = .ok (.iconst 0, 1) := by decide +kernel
theorem s82_51 {l0 l1 l2 l3 l4 l5 l6 l7 l8 : Option Value} {st : List Value} {m : kMem} {Q : Option Value → kMem → Prop} : kJ 82 51 [l0, l1, l2, l3, l4, l5, l6, l7, l8] st m Q = kJ 82 52 [l0, l1, l2, l3, l4, l5, l6, l7, l8] (.int (nI 0) :: st) m Q := kJ_next d82_51 rfl
theorem d82_52 : decode (mB 82) 52 = .ok (.istore 6, 2) := by decide +kernel
theorem s82_52 {l0 l1 l2 l3 l4 l5 l6 l7 l8 : Option Value} {st : List Value} {x : Int32} {m : kMem} {Q : Option Value → kMem → Prop} (hp : kNL l5 = true) : kJ 82 52 [l0, l1, l2, l3, l4, l5, l6, l7, l8] (.int x :: st) m Q = kJ 82 54 [l0, l1, l2, l3, l4, l5, some (.int x), l7, l8] st m Q := kJ_next d82_52 (kg_sti (Nat.le_of_ble_eq_true rfl) hp)
theorem d82_54 : decode (mB 82) 54 = .ok (.iload 6, 2) := by decide +kernel
theorem s82_54 {l0 l1 l2 l3 l4 l5 l7 l8 : Option Value} {st : List Value} {x : Int32} {m : kMem} {Q : Option Value → kMem → Prop} : kJ 82 54 [l0, l1, l2, l3, l4, l5, some (.int x), l7, l8] st m Q = kJ 82 56 [l0, l1, l2, l3, l4, l5, some (.int x), l7, l8] (.int x :: st) m Q := kJ_next d82_54 rfl
theorem d82_56 : decode (mB 82) 56 = .ok (.iload_n 2, 1) := by decide +kernel
theorem s82_56 {l0 l1 l3 l4 l5 l6 l7 l8 : Option Value} {st : List Value} {x : Int32} {m : kMem} {Q : Option Value → kMem → Prop} : kJ 82 56 [l0, l1, some (.int x), l3, l4, l5, l6, l7, l8] st m Q = kJ 82 57 [l0, l1, some (.int x), l3, l4, l5, l6, l7, l8] (.int x :: st) m Q := kJ_next d82_56 rfl
theorem d82_57 : decode (mB 82) 57 = .ok (.if_icmp .ge 88, 3) := by decide +kernel
theorem s82_57 {l0 l1 l2 l3 l4 l5 l6 l7 l8 : Option Value} {st : List Value} {a b : Int32} {m : kMem} {Q : Option Value → kMem → Prop} : kJ 82 57 [l0, l1, l2, l3, l4, l5, l6, l7, l8] (.int b :: .int a :: st) m Q = (if b ≤ a then kJ 82 145 [l0, l1, l2, l3, l4, l5, l6, l7, l8] st m Q else kJ 82 60 [l0, l1, l2, l3, l4, l5, l6, l7, l8] st m Q) := kJ_if d82_57 rfl (fun h => kJ_next d82_57 h) (fun h => kJ_next d82_57 h)
theorem d82_60 : decode (mB 82) 60 = .ok (.iload 5, 2) := by decide +kernel
theorem s82_60 {l0 l1 l2 l3 l4 l6 l7 l8 : Option Value} {st : List Value} {x : Int32} {m : kMem} {Q : Option Value → kMem → Prop} : kJ 82 60 [l0, l1, l2, l3, l4, some (.int x), l6, l7, l8] st m Q = kJ 82 62 [l0, l1, l2, l3, l4, some (.int x), l6, l7, l8] (.int x :: st) m Q := kJ_next d82_60 rfl
theorem d82_62 : decode (mB 82) 62 = .ok (.ldc 234, 2) := by decide +kernel
theorem s82_62 {l0 l1 l2 l3 l4 l5 l6 l7 l8 : Option Value} {st : List Value} {m : kMem} {Q : Option Value → kMem → Prop} : kJ 82 62 [l0, l1, l2, l3, l4, l5, l6, l7, l8] st m Q = kJ 82 64 [l0, l1, l2, l3, l4, l5, l6, l7, l8] (.int 1103515245 :: st) m Q := kJ_next d82_62 rfl
theorem d82_64 : decode (mB 82) 64 = .ok (.imul, 1) := by decide +kernel
theorem s82_64 {l0 l1 l2 l3 l4 l5 l6 l7 l8 : Option Value} {st : List Value} {a b : Int32} {m : kMem} {Q : Option Value → kMem → Prop} : kJ 82 64 [l0, l1, l2, l3, l4, l5, l6, l7, l8] (.int b :: .int a :: st) m Q = kJ 82 65 [l0, l1, l2, l3, l4, l5, l6, l7, l8] (.int (a * b) :: st) m Q := kJ_next d82_64 rfl
theorem d82_65 : decode (mB 82) 65 = .ok (.sipush 12345, 3) := by decide +kernel
theorem s82_65 {l0 l1 l2 l3 l4 l5 l6 l7 l8 : Option Value} {st : List Value} {m : kMem} {Q : Option Value → kMem → Prop} : kJ 82 65 [l0, l1, l2, l3, l4, l5, l6, l7, l8] st m Q = kJ 82 68 [l0, l1, l2, l3, l4, l5, l6, l7, l8] (.int (nI 12345) :: st) m Q := kJ_next d82_65 rfl
theorem d82_68 : decode (mB 82) 68 = .ok (.iadd, 1) := by decide +kernel
theorem s82_68 {l0 l1 l2 l3 l4 l5 l6 l7 l8 : Option Value} {st : List Value} {a b : Int32} {m : kMem} {Q : Option Value → kMem → Prop} : kJ 82 68 [l0, l1, l2, l3, l4, l5, l6, l7, l8] (.int b :: .int a :: st) m Q = kJ 82 69 [l0, l1, l2, l3, l4, l5, l6, l7, l8] (.int (a + b) :: st) m Q := kJ_next d82_68 rfl
theorem d82_69 : decode (mB 82) 69 = .ok (.istore 5, 2) := by decide +kernel
theorem s82_69 {l0 l1 l2 l3 l4 l5 l6 l7 l8 : Option Value} {st : List Value} {x : Int32} {m : kMem} {Q : Option Value → kMem → Prop} (hp : kNL l4 = true) : kJ 82 69 [l0, l1, l2, l3, l4, l5, l6, l7, l8] (.int x :: st) m Q = kJ 82 71 [l0, l1, l2, l3, l4, some (.int x), l6, l7, l8] st m Q := kJ_next d82_69 (kg_sti (Nat.le_of_ble_eq_true rfl) hp)
theorem d82_71 : decode (mB 82) 71 = .ok (.iload 5, 2) := by decide +kernel
theorem s82_71 {l0 l1 l2 l3 l4 l6 l7 l8 : Option Value} {st : List Value} {x : Int32} {m : kMem} {Q : Option Value → kMem → Prop} : kJ 82 71 [l0, l1, l2, l3, l4, some (.int x), l6, l7, l8] st m Q = kJ 82 73 [l0, l1, l2, l3, l4, some (.int x), l6, l7, l8] (.int x :: st) m Q := kJ_next d82_71 rfl
theorem d82_73 : decode (mB 82) 73 = .ok (.bipush 16, 2) := by decide +kernel
theorem s82_73 {l0 l1 l2 l3 l4 l5 l6 l7 l8 : Option Value} {st : List Value} {m : kMem} {Q : Option Value → kMem → Prop} : kJ 82 73 [l0, l1, l2, l3, l4, l5, l6, l7, l8] st m Q = kJ 82 75 [l0, l1, l2, l3, l4, l5, l6, l7, l8] (.int (nI 16) :: st) m Q := kJ_next d82_73 rfl
theorem d82_75 : decode (mB 82) 75 = .ok (.iushr, 1) := by decide +kernel
theorem s82_75 {l0 l1 l2 l3 l4 l5 l6 l7 l8 : Option Value} {st : List Value} {a b : Int32} {m : kMem} {Q : Option Value → kMem → Prop} : kJ 82 75 [l0, l1, l2, l3, l4, l5, l6, l7, l8] (.int b :: .int a :: st) m Q = kJ 82 76 [l0, l1, l2, l3, l4, l5, l6, l7, l8] (.int ((a.toUInt32 >>> (b.toUInt32 &&& Int32.toUInt32 31)).toInt32) :: st) m Q := kJ_next d82_75 rfl
theorem d82_76 : decode (mB 82) 76 = .ok (.sipush 32767, 3) := by decide +kernel
theorem s82_76 {l0 l1 l2 l3 l4 l5 l6 l7 l8 : Option Value} {st : List Value} {m : kMem} {Q : Option Value → kMem → Prop} : kJ 82 76 [l0, l1, l2, l3, l4, l5, l6, l7, l8] st m Q = kJ 82 79 [l0, l1, l2, l3, l4, l5, l6, l7, l8] (.int (nI 32767) :: st) m Q := kJ_next d82_76 rfl
theorem d82_79 : decode (mB 82) 79 = .ok (.iand, 1) := by decide +kernel
theorem s82_79 {l0 l1 l2 l3 l4 l5 l6 l7 l8 : Option Value} {st : List Value} {a b : Int32} {m : kMem} {Q : Option Value → kMem → Prop} : kJ 82 79 [l0, l1, l2, l3, l4, l5, l6, l7, l8] (.int b :: .int a :: st) m Q = kJ 82 80 [l0, l1, l2, l3, l4, l5, l6, l7, l8] (.int (a &&& b) :: st) m Q := kJ_next d82_79 rfl
theorem d82_80 : decode (mB 82) 80 = .ok (.istore 7, 2) := by decide +kernel
theorem s82_80 {l0 l1 l2 l3 l4 l5 l6 l7 l8 : Option Value} {st : List Value} {x : Int32} {m : kMem} {Q : Option Value → kMem → Prop} (hp : kNL l6 = true) : kJ 82 80 [l0, l1, l2, l3, l4, l5, l6, l7, l8] (.int x :: st) m Q = kJ 82 82 [l0, l1, l2, l3, l4, l5, l6, some (.int x), l8] st m Q := kJ_next d82_80 (kg_sti (Nat.le_of_ble_eq_true rfl) hp)
theorem d82_82 : decode (mB 82) 82 = .ok (.aload_n 0, 1) := by decide +kernel
theorem s82_82 {l1 l2 l3 l4 l5 l6 l7 l8 : Option Value} {st : List Value} {x : Nat} {m : kMem} {Q : Option Value → kMem → Prop} : kJ 82 82 [some (.ref x), l1, l2, l3, l4, l5, l6, l7, l8] st m Q = kJ 82 83 [some (.ref x), l1, l2, l3, l4, l5, l6, l7, l8] (.ref x :: st) m Q := kJ_next d82_82 rfl
theorem d82_83 : decode (mB 82) 83 = .ok (.getfield 16, 3) := by decide +kernel
theorem s82_83 {l0 l1 l2 l3 l4 l5 l6 l7 l8 : Option Value} {st : List Value} {q : Nat} {mi : Nat → Nat → Int32} {ml : Nat → Nat → Int64} {mr : Nat → Nat → Option Nat} {nx : Nat} {Q : Option Value → kMem → Prop} (h : kIs nx q 4 = true) : kJ 82 83 [l0, l1, l2, l3, l4, l5, l6, l7, l8] (.ref q :: st) (mi, ml, mr, nx) Q = kJ 82 86 [l0, l1, l2, l3, l4, l5, l6, l7, l8] (va_rf (mr q 1) :: st) (mi, ml, mr, nx) Q := kJ_next d82_83 (kg_getr 4 1 rfl h (by decide))
theorem d82_86 : decode (mB 82) 86 = .ok (.iload 7, 2) := by decide +kernel
theorem s82_86 {l0 l1 l2 l3 l4 l5 l6 l8 : Option Value} {st : List Value} {x : Int32} {m : kMem} {Q : Option Value → kMem → Prop} : kJ 82 86 [l0, l1, l2, l3, l4, l5, l6, some (.int x), l8] st m Q = kJ 82 88 [l0, l1, l2, l3, l4, l5, l6, some (.int x), l8] (.int x :: st) m Q := kJ_next d82_86 rfl
theorem d82_88 : decode (mB 82) 88 = .ok (.aload_n 0, 1) := by decide +kernel
theorem s82_88 {l1 l2 l3 l4 l5 l6 l7 l8 : Option Value} {st : List Value} {x : Nat} {m : kMem} {Q : Option Value → kMem → Prop} : kJ 82 88 [some (.ref x), l1, l2, l3, l4, l5, l6, l7, l8] st m Q = kJ 82 89 [some (.ref x), l1, l2, l3, l4, l5, l6, l7, l8] (.ref x :: st) m Q := kJ_next d82_88 rfl
theorem d82_89 : decode (mB 82) 89 = .ok (.getfield 10, 3) := by decide +kernel
theorem s82_89 {l0 l1 l2 l3 l4 l5 l6 l7 l8 : Option Value} {st : List Value} {q : Nat} {mi : Nat → Nat → Int32} {ml : Nat → Nat → Int64} {mr : Nat → Nat → Option Nat} {nx : Nat} {Q : Option Value → kMem → Prop} (h : kIs nx q 4 = true) : kJ 82 89 [l0, l1, l2, l3, l4, l5, l6, l7, l8] (.ref q :: st) (mi, ml, mr, nx) Q = kJ 82 92 [l0, l1, l2, l3, l4, l5, l6, l7, l8] (va_rf (mr q 0) :: st) (mi, ml, mr, nx) Q := kJ_next d82_89 (kg_getr 4 0 rfl h (by decide))
theorem d82_92 : decode (mB 82) 92 = .ok (.getfield 91, 3) := by decide +kernel
theorem s82_92 {l0 l1 l2 l3 l4 l5 l6 l7 l8 : Option Value} {st : List Value} {q : Nat} {mi : Nat → Nat → Int32} {ml : Nat → Nat → Int64} {mr : Nat → Nat → Option Nat} {nx : Nat} {Q : Option Value → kMem → Prop} (h : kIs nx q 1 = true) : kJ 82 92 [l0, l1, l2, l3, l4, l5, l6, l7, l8] (.ref q :: st) (mi, ml, mr, nx) Q = kJ 82 95 [l0, l1, l2, l3, l4, l5, l6, l7, l8] (.int (mi q 4) :: st) (mi, ml, mr, nx) Q := kJ_next d82_92 (kg_geti 1 4 rfl h (by decide))
theorem d82_95 : decode (mB 82) 95 = .ok (.irem, 1) := by decide +kernel
theorem s82_95 {l0 l1 l2 l3 l4 l5 l6 l7 l8 : Option Value} {st : List Value} {a b : Int32} {m : kMem} {Q : Option Value → kMem → Prop} (hb : ¬ b = 0) : kJ 82 95 [l0, l1, l2, l3, l4, l5, l6, l7, l8] (.int b :: .int a :: st) m Q = kJ 82 96 [l0, l1, l2, l3, l4, l5, l6, l7, l8] (.int (a - a / b * b) :: st) m Q := kJ_next d82_95 (kg_irem hb)
theorem d82_96 : decode (mB 82) 96 = .ok (.iload 7, 2) := by decide +kernel
theorem s82_96 {l0 l1 l2 l3 l4 l5 l6 l8 : Option Value} {st : List Value} {x : Int32} {m : kMem} {Q : Option Value → kMem → Prop} : kJ 82 96 [l0, l1, l2, l3, l4, l5, l6, some (.int x), l8] st m Q = kJ 82 98 [l0, l1, l2, l3, l4, l5, l6, some (.int x), l8] (.int x :: st) m Q := kJ_next d82_96 rfl
theorem d82_98 : decode (mB 82) 98 = .ok (.bipush 8, 2) := by decide +kernel
theorem s82_98 {l0 l1 l2 l3 l4 l5 l6 l7 l8 : Option Value} {st : List Value} {m : kMem} {Q : Option Value → kMem → Prop} : kJ 82 98 [l0, l1, l2, l3, l4, l5, l6, l7, l8] st m Q = kJ 82 100 [l0, l1, l2, l3, l4, l5, l6, l7, l8] (.int (nI 8) :: st) m Q := kJ_next d82_98 rfl
theorem d82_100 : decode (mB 82) 100 = .ok (.idiv, 1) := by decide +kernel
theorem s82_100 {l0 l1 l2 l3 l4 l5 l6 l7 l8 : Option Value} {st : List Value} {a b : Int32} {m : kMem} {Q : Option Value → kMem → Prop} (hb : ¬ b = 0) : kJ 82 100 [l0, l1, l2, l3, l4, l5, l6, l7, l8] (.int b :: .int a :: st) m Q = kJ 82 101 [l0, l1, l2, l3, l4, l5, l6, l7, l8] (.int (a / b) :: st) m Q := kJ_next d82_100 (kg_idiv hb)
theorem d82_101 : decode (mB 82) 101 = .ok (.bipush 19, 2) := by decide +kernel
theorem s82_101 {l0 l1 l2 l3 l4 l5 l6 l7 l8 : Option Value} {st : List Value} {m : kMem} {Q : Option Value → kMem → Prop} : kJ 82 101 [l0, l1, l2, l3, l4, l5, l6, l7, l8] st m Q = kJ 82 103 [l0, l1, l2, l3, l4, l5, l6, l7, l8] (.int (nI 19) :: st) m Q := kJ_next d82_101 rfl
theorem d82_103 : decode (mB 82) 103 = .ok (.irem, 1) := by decide +kernel
theorem s82_103 {l0 l1 l2 l3 l4 l5 l6 l7 l8 : Option Value} {st : List Value} {a b : Int32} {m : kMem} {Q : Option Value → kMem → Prop} (hb : ¬ b = 0) : kJ 82 103 [l0, l1, l2, l3, l4, l5, l6, l7, l8] (.int b :: .int a :: st) m Q = kJ 82 104 [l0, l1, l2, l3, l4, l5, l6, l7, l8] (.int (a - a / b * b) :: st) m Q := kJ_next d82_103 (kg_irem hb)
theorem d82_104 : decode (mB 82) 104 = .ok (.invokevirtual 235, 3) := by decide +kernel
theorem s82_104 {l0 l1 l2 l3 l4 l5 l6 l7 l8 : Option Value} {v0 : Int32} {v1 : Int32} {v2 : Nat} {m : kMem} {Q : Option Value → kMem → Prop} (h : kIs m.2.2.2 v2 1 = true) : kJ 82 104 [l0, l1, l2, l3, l4, l5, l6, l7, l8] [.int v0, .int v1, .ref v2] m Q = kJ 13 0 [some (.ref v2), some (.int v1), some (.int v0)] [] m (fun v m2 => kJ 82 107 [l0, l1, l2, l3, l4, l5, l6, l7, l8] (v.toList ++ []) m2 Q) := kJ_call d82_104 (kg_callv 13 2 rfl rfl rfl rfl (Nat.le_of_ble_eq_true rfl) (Nat.le_of_ble_eq_true rfl) (Nat.le_of_ble_eq_true rfl) h rfl)
theorem d82_107 : decode (mB 82) 107 = .ok (.aload_n 0, 1) := by decide +kernel
theorem s82_107 {l1 l2 l3 l4 l5 l6 l7 l8 : Option Value} {st : List Value} {x : Nat} {m : kMem} {Q : Option Value → kMem → Prop} : kJ 82 107 [some (.ref x), l1, l2, l3, l4, l5, l6, l7, l8] st m Q = kJ 82 108 [some (.ref x), l1, l2, l3, l4, l5, l6, l7, l8] (.ref x :: st) m Q := kJ_next d82_107 rfl
theorem d82_108 : decode (mB 82) 108 = .ok (.getfield 16, 3) := by decide +kernel
theorem s82_108 {l0 l1 l2 l3 l4 l5 l6 l7 l8 : Option Value} {st : List Value} {q : Nat} {mi : Nat → Nat → Int32} {ml : Nat → Nat → Int64} {mr : Nat → Nat → Option Nat} {nx : Nat} {Q : Option Value → kMem → Prop} (h : kIs nx q 4 = true) : kJ 82 108 [l0, l1, l2, l3, l4, l5, l6, l7, l8] (.ref q :: st) (mi, ml, mr, nx) Q = kJ 82 111 [l0, l1, l2, l3, l4, l5, l6, l7, l8] (va_rf (mr q 1) :: st) (mi, ml, mr, nx) Q := kJ_next d82_108 (kg_getr 4 1 rfl h (by decide))
theorem d82_111 : decode (mB 82) 111 = .ok (.invokevirtual 160, 3) := by decide +kernel
theorem s82_111 {l0 l1 l2 l3 l4 l5 l6 l7 l8 : Option Value} {v0 : Nat} {m : kMem} {Q : Option Value → kMem → Prop} (h : kIs m.2.2.2 v0 1 = true) : kJ 82 111 [l0, l1, l2, l3, l4, l5, l6, l7, l8] [.ref v0] m Q = kJ 18 0 [some (.ref v0)] [] m (fun v m2 => kJ 82 114 [l0, l1, l2, l3, l4, l5, l6, l7, l8] (v.toList ++ []) m2 Q) := kJ_call d82_111 (kg_callv 18 0 rfl rfl rfl rfl (Nat.le_of_ble_eq_true rfl) (Nat.le_of_ble_eq_true rfl) (Nat.le_of_ble_eq_true rfl) h rfl)
theorem d82_114 : decode (mB 82) 114 = .ok (.istore 8, 2) := by decide +kernel
theorem s82_114 {l0 l1 l2 l3 l4 l5 l6 l7 l8 : Option Value} {st : List Value} {x : Int32} {m : kMem} {Q : Option Value → kMem → Prop} (hp : kNL l7 = true) : kJ 82 114 [l0, l1, l2, l3, l4, l5, l6, l7, l8] (.int x :: st) m Q = kJ 82 116 [l0, l1, l2, l3, l4, l5, l6, l7, some (.int x)] st m Q := kJ_next d82_114 (kg_sti (Nat.le_of_ble_eq_true rfl) hp)
theorem d82_116 : decode (mB 82) 116 = .ok (.aload_n 0, 1) := by decide +kernel
theorem s82_116 {l1 l2 l3 l4 l5 l6 l7 l8 : Option Value} {st : List Value} {x : Nat} {m : kMem} {Q : Option Value → kMem → Prop} : kJ 82 116 [some (.ref x), l1, l2, l3, l4, l5, l6, l7, l8] st m Q = kJ 82 117 [some (.ref x), l1, l2, l3, l4, l5, l6, l7, l8] (.ref x :: st) m Q := kJ_next d82_116 rfl
theorem d82_117 : decode (mB 82) 117 = .ok (.getfield 16, 3) := by decide +kernel
theorem s82_117 {l0 l1 l2 l3 l4 l5 l6 l7 l8 : Option Value} {st : List Value} {q : Nat} {mi : Nat → Nat → Int32} {ml : Nat → Nat → Int64} {mr : Nat → Nat → Option Nat} {nx : Nat} {Q : Option Value → kMem → Prop} (h : kIs nx q 4 = true) : kJ 82 117 [l0, l1, l2, l3, l4, l5, l6, l7, l8] (.ref q :: st) (mi, ml, mr, nx) Q = kJ 82 120 [l0, l1, l2, l3, l4, l5, l6, l7, l8] (va_rf (mr q 1) :: st) (mi, ml, mr, nx) Q := kJ_next d82_117 (kg_getr 4 1 rfl h (by decide))
theorem d82_120 : decode (mB 82) 120 = .ok (.iconst 1, 1) := by decide +kernel
theorem s82_120 {l0 l1 l2 l3 l4 l5 l6 l7 l8 : Option Value} {st : List Value} {m : kMem} {Q : Option Value → kMem → Prop} : kJ 82 120 [l0, l1, l2, l3, l4, l5, l6, l7, l8] st m Q = kJ 82 121 [l0, l1, l2, l3, l4, l5, l6, l7, l8] (.int (nI 1) :: st) m Q := kJ_next d82_120 rfl
theorem d82_121 : decode (mB 82) 121 = .ok (.invokevirtual 163, 3) := by decide +kernel
theorem s82_121 {l0 l1 l2 l3 l4 l5 l6 l7 l8 : Option Value} {v0 : Int32} {v1 : Nat} {m : kMem} {Q : Option Value → kMem → Prop} (h : kIs m.2.2.2 v1 1 = true) : kJ 82 121 [l0, l1, l2, l3, l4, l5, l6, l7, l8] [.int v0, .ref v1] m Q = kJ 20 0 [some (.ref v1), some (.int v0), none] [] m (fun v m2 => kJ 82 124 [l0, l1, l2, l3, l4, l5, l6, l7, l8] (v.toList ++ []) m2 Q) := kJ_call d82_121 (kg_callv 20 1 rfl rfl rfl rfl (Nat.le_of_ble_eq_true rfl) (Nat.le_of_ble_eq_true rfl) (Nat.le_of_ble_eq_true rfl) h rfl)
theorem d82_124 : decode (mB 82) 124 = .ok (.iload 4, 2) := by decide +kernel
theorem s82_124 {l0 l1 l2 l3 l5 l6 l7 l8 : Option Value} {st : List Value} {x : Int32} {m : kMem} {Q : Option Value → kMem → Prop} : kJ 82 124 [l0, l1, l2, l3, some (.int x), l5, l6, l7, l8] st m Q = kJ 82 126 [l0, l1, l2, l3, some (.int x), l5, l6, l7, l8] (.int x :: st) m Q := kJ_next d82_124 rfl
theorem d82_126 : decode (mB 82) 126 = .ok (.aload_n 0, 1) := by decide +kernel
theorem s82_126 {l1 l2 l3 l4 l5 l6 l7 l8 : Option Value} {st : List Value} {x : Nat} {m : kMem} {Q : Option Value → kMem → Prop} : kJ 82 126 [some (.ref x), l1, l2, l3, l4, l5, l6, l7, l8] st m Q = kJ 82 127 [some (.ref x), l1, l2, l3, l4, l5, l6, l7, l8] (.ref x :: st) m Q := kJ_next d82_126 rfl
theorem d82_127 : decode (mB 82) 127 = .ok (.getfield 16, 3) := by decide +kernel
theorem s82_127 {l0 l1 l2 l3 l4 l5 l6 l7 l8 : Option Value} {st : List Value} {q : Nat} {mi : Nat → Nat → Int32} {ml : Nat → Nat → Int64} {mr : Nat → Nat → Option Nat} {nx : Nat} {Q : Option Value → kMem → Prop} (h : kIs nx q 4 = true) : kJ 82 127 [l0, l1, l2, l3, l4, l5, l6, l7, l8] (.ref q :: st) (mi, ml, mr, nx) Q = kJ 82 130 [l0, l1, l2, l3, l4, l5, l6, l7, l8] (va_rf (mr q 1) :: st) (mi, ml, mr, nx) Q := kJ_next d82_127 (kg_getr 4 1 rfl h (by decide))
theorem d82_130 : decode (mB 82) 130 = .ok (.invokevirtual 160, 3) := by decide +kernel
theorem s82_130 {l0 l1 l2 l3 l4 l5 l6 l7 l8 : Option Value} {v0 : Nat} {v1 : Int32} {m : kMem} {Q : Option Value → kMem → Prop} (h : kIs m.2.2.2 v0 1 = true) : kJ 82 130 [l0, l1, l2, l3, l4, l5, l6, l7, l8] [.ref v0, .int v1] m Q = kJ 18 0 [some (.ref v0)] [] m (fun v m2 => kJ 82 133 [l0, l1, l2, l3, l4, l5, l6, l7, l8] (v.toList ++ [.int v1]) m2 Q) := kJ_call d82_130 (kg_callv 18 0 rfl rfl rfl rfl (Nat.le_of_ble_eq_true rfl) (Nat.le_of_ble_eq_true rfl) (Nat.le_of_ble_eq_true rfl) h rfl)
theorem d82_133 : decode (mB 82) 133 = .ok (.iload 8, 2) := by decide +kernel
theorem s82_133 {l0 l1 l2 l3 l4 l5 l6 l7 : Option Value} {st : List Value} {x : Int32} {m : kMem} {Q : Option Value → kMem → Prop} : kJ 82 133 [l0, l1, l2, l3, l4, l5, l6, l7, some (.int x)] st m Q = kJ 82 135 [l0, l1, l2, l3, l4, l5, l6, l7, some (.int x)] (.int x :: st) m Q := kJ_next d82_133 rfl
theorem d82_135 : decode (mB 82) 135 = .ok (.isub, 1) := by decide +kernel
theorem s82_135 {l0 l1 l2 l3 l4 l5 l6 l7 l8 : Option Value} {st : List Value} {a b : Int32} {m : kMem} {Q : Option Value → kMem → Prop} : kJ 82 135 [l0, l1, l2, l3, l4, l5, l6, l7, l8] (.int b :: .int a :: st) m Q = kJ 82 136 [l0, l1, l2, l3, l4, l5, l6, l7, l8] (.int (a - b) :: st) m Q := kJ_next d82_135 rfl
theorem d82_136 : decode (mB 82) 136 = .ok (.iadd, 1) := by decide +kernel
theorem s82_136 {l0 l1 l2 l3 l4 l5 l6 l7 l8 : Option Value} {st : List Value} {a b : Int32} {m : kMem} {Q : Option Value → kMem → Prop} : kJ 82 136 [l0, l1, l2, l3, l4, l5, l6, l7, l8] (.int b :: .int a :: st) m Q = kJ 82 137 [l0, l1, l2, l3, l4, l5, l6, l7, l8] (.int (a + b) :: st) m Q := kJ_next d82_136 rfl
theorem d82_137 : decode (mB 82) 137 = .ok (.istore 4, 2) := by decide +kernel
theorem s82_137 {l0 l1 l2 l3 l4 l5 l6 l7 l8 : Option Value} {st : List Value} {x : Int32} {m : kMem} {Q : Option Value → kMem → Prop} (hp : kNL l3 = true) : kJ 82 137 [l0, l1, l2, l3, l4, l5, l6, l7, l8] (.int x :: st) m Q = kJ 82 139 [l0, l1, l2, l3, some (.int x), l5, l6, l7, l8] st m Q := kJ_next d82_137 (kg_sti (Nat.le_of_ble_eq_true rfl) hp)
theorem d82_139 : decode (mB 82) 139 = .ok (.iinc 6 1, 3) := by decide +kernel
theorem s82_139 {l0 l1 l2 l3 l4 l5 l7 l8 : Option Value} {st : List Value} {x : Int32} {m : kMem} {Q : Option Value → kMem → Prop} (hp : kNL l5 = true) : kJ 82 139 [l0, l1, l2, l3, l4, l5, some (.int x), l7, l8] st m Q = kJ 82 142 [l0, l1, l2, l3, l4, l5, some (.int (x + (nI 1))), l7, l8] st m Q := kJ_next d82_139 (kg_inc rfl (Nat.le_of_ble_eq_true rfl) hp)
theorem d82_142 : decode (mB 82) 142 = .ok (.goto (-88), 3) := by decide +kernel
theorem s82_142 {l0 l1 l2 l3 l4 l5 l6 l7 l8 : Option Value} {st : List Value} {m : kMem} {Q : Option Value → kMem → Prop} : kJ 82 142 [l0, l1, l2, l3, l4, l5, l6, l7, l8] st m Q = kJ 82 54 [l0, l1, l2, l3, l4, l5, l6, l7, l8] st m Q := kJ_next d82_142 rfl
theorem d82_145 : decode (mB 82) 145 = .ok (.iload_n 3, 1) := by decide +kernel
theorem s82_145 {l0 l1 l2 l4 l5 l6 l7 l8 : Option Value} {st : List Value} {x : Int32} {m : kMem} {Q : Option Value → kMem → Prop} : kJ 82 145 [l0, l1, l2, some (.int x), l4, l5, l6, l7, l8] st m Q = kJ 82 146 [l0, l1, l2, some (.int x), l4, l5, l6, l7, l8] (.int x :: st) m Q := kJ_next d82_145 rfl
theorem d82_146 : decode (mB 82) 146 = .ok (.ifCond .ne 13, 3) := by decide +kernel
theorem s82_146 {l0 l1 l2 l3 l4 l5 l6 l7 l8 : Option Value} {st : List Value} {a : Int32} {m : kMem} {Q : Option Value → kMem → Prop} : kJ 82 146 [l0, l1, l2, l3, l4, l5, l6, l7, l8] (.int a :: st) m Q = (if a = 0 then kJ 82 149 [l0, l1, l2, l3, l4, l5, l6, l7, l8] st m Q else kJ 82 159 [l0, l1, l2, l3, l4, l5, l6, l7, l8] st m Q) := kJ_if d82_146 rfl (fun h => kJ_next d82_146 h) (fun h => kJ_next d82_146 h)
theorem d82_149 : decode (mB 82) 149 = .ok (.aload_n 0, 1) := by decide +kernel
theorem s82_149 {l1 l2 l3 l4 l5 l6 l7 l8 : Option Value} {st : List Value} {x : Nat} {m : kMem} {Q : Option Value → kMem → Prop} : kJ 82 149 [some (.ref x), l1, l2, l3, l4, l5, l6, l7, l8] st m Q = kJ 82 150 [some (.ref x), l1, l2, l3, l4, l5, l6, l7, l8] (.ref x :: st) m Q := kJ_next d82_149 rfl
theorem d82_150 : decode (mB 82) 150 = .ok (.getfield 16, 3) := by decide +kernel
theorem s82_150 {l0 l1 l2 l3 l4 l5 l6 l7 l8 : Option Value} {st : List Value} {q : Nat} {mi : Nat → Nat → Int32} {ml : Nat → Nat → Int64} {mr : Nat → Nat → Option Nat} {nx : Nat} {Q : Option Value → kMem → Prop} (h : kIs nx q 4 = true) : kJ 82 150 [l0, l1, l2, l3, l4, l5, l6, l7, l8] (.ref q :: st) (mi, ml, mr, nx) Q = kJ 82 153 [l0, l1, l2, l3, l4, l5, l6, l7, l8] (va_rf (mr q 1) :: st) (mi, ml, mr, nx) Q := kJ_next d82_150 (kg_getr 4 1 rfl h (by decide))
theorem d82_153 : decode (mB 82) 153 = .ok (.invokevirtual 100, 3) := by decide +kernel
theorem s82_153 {l0 l1 l2 l3 l4 l5 l6 l7 l8 : Option Value} {v0 : Nat} {m : kMem} {Q : Option Value → kMem → Prop} (h : kIs m.2.2.2 v0 1 = true) : kJ 82 153 [l0, l1, l2, l3, l4, l5, l6, l7, l8] [.ref v0] m Q = kJ 15 0 [some (.ref v0)] [] m (fun v m2 => kJ 82 156 [l0, l1, l2, l3, l4, l5, l6, l7, l8] (v.toList ++ []) m2 Q) := kJ_call d82_153 (kg_callv 15 0 rfl rfl rfl rfl (Nat.le_of_ble_eq_true rfl) (Nat.le_of_ble_eq_true rfl) (Nat.le_of_ble_eq_true rfl) h rfl)
theorem d82_156 : decode (mB 82) 156 = .ok (.goto 5, 3) := by decide +kernel
theorem s82_156 {l0 l1 l2 l3 l4 l5 l6 l7 l8 : Option Value} {st : List Value} {m : kMem} {Q : Option Value → kMem → Prop} : kJ 82 156 [l0, l1, l2, l3, l4, l5, l6, l7, l8] st m Q = kJ 82 161 [l0, l1, l2, l3, l4, l5, l6, l7, l8] st m Q := kJ_next d82_156 rfl
theorem d82_159 : decode (mB 82) 159 = .ok (.iload 4, 2) := by decide +kernel
theorem s82_159 {l0 l1 l2 l3 l5 l6 l7 l8 : Option Value} {st : List Value} {x : Int32} {m : kMem} {Q : Option Value → kMem → Prop} : kJ 82 159 [l0, l1, l2, l3, some (.int x), l5, l6, l7, l8] st m Q = kJ 82 161 [l0, l1, l2, l3, some (.int x), l5, l6, l7, l8] (.int x :: st) m Q := kJ_next d82_159 rfl
theorem d82_161 : decode (mB 82) 161 = .ok (.ireturn, 1) := by decide +kernel
theorem s82_161 {l0 l1 l2 l3 l4 l5 l6 l7 l8 : Option Value} {x : Int32} {m : kMem} {Q : Option Value → kMem → Prop} : kJ 82 161 [l0, l1, l2, l3, l4, l5, l6, l7, l8] [.int x] m Q = Q (some (.int x)) m := kJ_ret d82_161 rfl
theorem d83_0 : decode (mB 83) 0 = .ok (.iload_n 1, 1) := by decide +kernel
theorem s83_0 {l0 l2 : Option Value} {st : List Value} {x : Int32} {m : kMem} {Q : Option Value → kMem → Prop} : kJ 83 0 [l0, some (.int x), l2] st m Q = kJ 83 1 [l0, some (.int x), l2] (.int x :: st) m Q := kJ_next d83_0 rfl
theorem d83_1 : decode (mB 83) 1 = .ok (.iconst 0, 1) := by decide +kernel
theorem s83_1 {l0 l1 l2 : Option Value} {st : List Value} {m : kMem} {Q : Option Value → kMem → Prop} : kJ 83 1 [l0, l1, l2] st m Q = kJ 83 2 [l0, l1, l2] (.int (nI 0) :: st) m Q := kJ_next d83_1 rfl
theorem d83_2 : decode (mB 83) 2 = .ok (.iconst 1, 1) := by decide +kernel
theorem s83_2 {l0 l1 l2 : Option Value} {st : List Value} {m : kMem} {Q : Option Value → kMem → Prop} : kJ 83 2 [l0, l1, l2] st m Q = kJ 83 3 [l0, l1, l2] (.int (nI 1) :: st) m Q := kJ_next d83_2 rfl
theorem d83_3 : decode (mB 83) 3 = .ok (.invokestatic 55, 3) := by decide +kernel
theorem s83_3 {l0 l1 l2 : Option Value} {v0 : Int32} {v1 : Int32} {v2 : Int32} {m : kMem} {Q : Option Value → kMem → Prop} : kJ 83 3 [l0, l1, l2] [.int v0, .int v1, .int v2] m Q = kJ 90 0 [some (.int v2), some (.int v1), some (.int v0)] [] m (fun v m2 => kJ 83 6 [l0, l1, l2] (v.toList ++ []) m2 Q) := kJ_call d83_3 (kg_calls 90 3 rfl rfl (Nat.le_of_ble_eq_true rfl) (Nat.le_of_ble_eq_true rfl) (Nat.le_of_ble_eq_true rfl) (Nat.le_of_ble_eq_true rfl))
theorem d83_6 : decode (mB 83) 6 = .ok (.ifCond .ne 5, 3) := by decide +kernel
theorem s83_6 {l0 l1 l2 : Option Value} {st : List Value} {a : Int32} {m : kMem} {Q : Option Value → kMem → Prop} : kJ 83 6 [l0, l1, l2] (.int a :: st) m Q = (if a = 0 then kJ 83 9 [l0, l1, l2] st m Q else kJ 83 11 [l0, l1, l2] st m Q) := kJ_if d83_6 rfl (fun h => kJ_next d83_6 h) (fun h => kJ_next d83_6 h)
theorem d83_9 : decode (mB 83) 9 = .ok (.iconst (-1), 1) := by decide +kernel
theorem s83_9 {l0 l1 l2 : Option Value} {st : List Value} {m : kMem} {Q : Option Value → kMem → Prop} : kJ 83 9 [l0, l1, l2] st m Q = kJ 83 10 [l0, l1, l2] (.int (-1) :: st) m Q := kJ_next d83_9 rfl
theorem d83_10 : decode (mB 83) 10 = .ok (.ireturn, 1) := by decide +kernel
theorem s83_10 {l0 l1 l2 : Option Value} {x : Int32} {m : kMem} {Q : Option Value → kMem → Prop} : kJ 83 10 [l0, l1, l2] [.int x] m Q = Q (some (.int x)) m := kJ_ret d83_10 rfl
theorem d83_11 : decode (mB 83) 11 = .ok (.aload_n 0, 1) := by decide +kernel
theorem s83_11 {l1 l2 : Option Value} {st : List Value} {x : Nat} {m : kMem} {Q : Option Value → kMem → Prop} : kJ 83 11 [some (.ref x), l1, l2] st m Q = kJ 83 12 [some (.ref x), l1, l2] (.ref x :: st) m Q := kJ_next d83_11 rfl
theorem d83_12 : decode (mB 83) 12 = .ok (.getfield 37, 3) := by decide +kernel
theorem s83_12 {l0 l1 l2 : Option Value} {st : List Value} {q : Nat} {mi : Nat → Nat → Int32} {ml : Nat → Nat → Int64} {mr : Nat → Nat → Option Nat} {nx : Nat} {Q : Option Value → kMem → Prop} (h : kIs nx q 4 = true) : kJ 83 12 [l0, l1, l2] (.ref q :: st) (mi, ml, mr, nx) Q = kJ 83 15 [l0, l1, l2] (va_rf (mr q 5) :: st) (mi, ml, mr, nx) Q := kJ_next d83_12 (kg_getr 4 5 rfl h (by decide))
theorem d83_15 : decode (mB 83) 15 = .ok (.iload_n 1, 1) := by decide +kernel
theorem s83_15 {l0 l2 : Option Value} {st : List Value} {x : Int32} {m : kMem} {Q : Option Value → kMem → Prop} : kJ 83 15 [l0, some (.int x), l2] st m Q = kJ 83 16 [l0, some (.int x), l2] (.int x :: st) m Q := kJ_next d83_15 rfl
theorem d83_16 : decode (mB 83) 16 = .ok (.baload, 1) := by decide +kernel
theorem s83_16 {l0 l1 l2 : Option Value} {st : List Value} {q : Nat} {i : Int32} {mi : Nat → Nat → Int32} {ml : Nat → Nat → Int64} {mr : Nat → Nat → Option Nat} {nx : Nat} {Q : Option Value → kMem → Prop} (h : kIs nx q 11 = true) : kJ 83 16 [l0, l1, l2] (.int i :: .ref q :: st) (mi, ml, mr, nx) Q = (vp_in i (kAl q) ∧ kJ 83 17 [l0, l1, l2] (.int (mi q i.toNatClampNeg) :: st) (mi, ml, mr, nx) Q) := kg_aldJ d83_16 rfl (kAr_of h)
theorem d83_17 : decode (mB 83) 17 = .ok (.ifCond .eq 7, 3) := by decide +kernel
theorem s83_17 {l0 l1 l2 : Option Value} {st : List Value} {a : Int32} {m : kMem} {Q : Option Value → kMem → Prop} : kJ 83 17 [l0, l1, l2] (.int a :: st) m Q = (if a = 0 then kJ 83 24 [l0, l1, l2] st m Q else kJ 83 20 [l0, l1, l2] st m Q) := kJ_if d83_17 rfl (fun h => kJ_next d83_17 h) (fun h => kJ_next d83_17 h)
theorem d83_20 : decode (mB 83) 20 = .ok (.iconst 1, 1) := by decide +kernel
theorem s83_20 {l0 l1 l2 : Option Value} {st : List Value} {m : kMem} {Q : Option Value → kMem → Prop} : kJ 83 20 [l0, l1, l2] st m Q = kJ 83 21 [l0, l1, l2] (.int (nI 1) :: st) m Q := kJ_next d83_20 rfl
theorem d83_21 : decode (mB 83) 21 = .ok (.goto 4, 3) := by decide +kernel
theorem s83_21 {l0 l1 l2 : Option Value} {st : List Value} {m : kMem} {Q : Option Value → kMem → Prop} : kJ 83 21 [l0, l1, l2] st m Q = kJ 83 25 [l0, l1, l2] st m Q := kJ_next d83_21 rfl
theorem d83_24 : decode (mB 83) 24 = .ok (.iconst 0, 1) := by decide +kernel
theorem s83_24 {l0 l1 l2 : Option Value} {st : List Value} {m : kMem} {Q : Option Value → kMem → Prop} : kJ 83 24 [l0, l1, l2] st m Q = kJ 83 25 [l0, l1, l2] (.int (nI 0) :: st) m Q := kJ_next d83_24 rfl
theorem d83_25 : decode (mB 83) 25 = .ok (.istore_n 2, 1) := by decide +kernel
theorem s83_25 {l0 l1 l2 : Option Value} {st : List Value} {x : Int32} {m : kMem} {Q : Option Value → kMem → Prop} (hp : kNL l1 = true) : kJ 83 25 [l0, l1, l2] (.int x :: st) m Q = kJ 83 26 [l0, l1, some (.int x)] st m Q := kJ_next d83_25 (kg_sti (Nat.le_of_ble_eq_true rfl) hp)
theorem d83_26 : decode (mB 83) 26 = .ok (.aload_n 0, 1) := by decide +kernel
theorem s83_26 {l1 l2 : Option Value} {st : List Value} {x : Nat} {m : kMem} {Q : Option Value → kMem → Prop} : kJ 83 26 [some (.ref x), l1, l2] st m Q = kJ 83 27 [some (.ref x), l1, l2] (.ref x :: st) m Q := kJ_next d83_26 rfl
theorem d83_27 : decode (mB 83) 27 = .ok (.getfield 33, 3) := by decide +kernel
theorem s83_27 {l0 l1 l2 : Option Value} {st : List Value} {q : Nat} {mi : Nat → Nat → Int32} {ml : Nat → Nat → Int64} {mr : Nat → Nat → Option Nat} {nx : Nat} {Q : Option Value → kMem → Prop} (h : kIs nx q 4 = true) : kJ 83 27 [l0, l1, l2] (.ref q :: st) (mi, ml, mr, nx) Q = kJ 83 30 [l0, l1, l2] (va_rf (mr q 4) :: st) (mi, ml, mr, nx) Q := kJ_next d83_27 (kg_getr 4 4 rfl h (by decide))
theorem d83_30 : decode (mB 83) 30 = .ok (.iload_n 1, 1) := by decide +kernel
theorem s83_30 {l0 l2 : Option Value} {st : List Value} {x : Int32} {m : kMem} {Q : Option Value → kMem → Prop} : kJ 83 30 [l0, some (.int x), l2] st m Q = kJ 83 31 [l0, some (.int x), l2] (.int x :: st) m Q := kJ_next d83_30 rfl
theorem d83_31 : decode (mB 83) 31 = .ok (.aaload, 1) := by decide +kernel
theorem s83_31 {l0 l1 l2 : Option Value} {st : List Value} {q : Nat} {i : Int32} {mi : Nat → Nat → Int32} {ml : Nat → Nat → Int64} {mr : Nat → Nat → Option Nat} {nx : Nat} {Q : Option Value → kMem → Prop} (h : kIs nx q 12 = true ∨ kIs nx q 13 = true) : kJ 83 31 [l0, l1, l2] (.int i :: .ref q :: st) (mi, ml, mr, nx) Q = (vp_in i (kAl q) ∧ kJ 83 32 [l0, l1, l2] (va_rf (mr q i.toNatClampNeg) :: st) (mi, ml, mr, nx) Q) := kg_aalJ d83_31 rfl (kAr_or h)
theorem d83_32 : decode (mB 83) 32 = .ok (.aload_n 0, 1) := by decide +kernel
theorem s83_32 {l1 l2 : Option Value} {st : List Value} {x : Nat} {m : kMem} {Q : Option Value → kMem → Prop} : kJ 83 32 [some (.ref x), l1, l2] st m Q = kJ 83 33 [some (.ref x), l1, l2] (.ref x :: st) m Q := kJ_next d83_32 rfl
theorem d83_33 : decode (mB 83) 33 = .ok (.getfield 10, 3) := by decide +kernel
theorem s83_33 {l0 l1 l2 : Option Value} {st : List Value} {q : Nat} {mi : Nat → Nat → Int32} {ml : Nat → Nat → Int64} {mr : Nat → Nat → Option Nat} {nx : Nat} {Q : Option Value → kMem → Prop} (h : kIs nx q 4 = true) : kJ 83 33 [l0, l1, l2] (.ref q :: st) (mi, ml, mr, nx) Q = kJ 83 36 [l0, l1, l2] (va_rf (mr q 0) :: st) (mi, ml, mr, nx) Q := kJ_next d83_33 (kg_getr 4 0 rfl h (by decide))
theorem d83_36 : decode (mB 83) 36 = .ok (.invokevirtual 81, 3) := by decide +kernel
theorem s83_36 {l0 l1 l2 : Option Value} {v0 : Nat} {v1 : Nat} {m : kMem} {Q : Option Value → kMem → Prop} (h : kIs m.2.2.2 v1 1 = true) : kJ 83 36 [l0, l1, l2] [.ref v0, .ref v1] m Q = kJ 6 0 [some (.ref v1), some (.ref v0)] [] m (fun v m2 => kJ 83 39 [l0, l1, l2] (v.toList ++ []) m2 Q) := kJ_call d83_36 (kg_callv 6 1 rfl rfl rfl rfl (Nat.le_of_ble_eq_true rfl) (Nat.le_of_ble_eq_true rfl) (Nat.le_of_ble_eq_true rfl) h rfl)
theorem d83_39 : decode (mB 83) 39 = .ok (.aload_n 0, 1) := by decide +kernel
theorem s83_39 {l1 l2 : Option Value} {st : List Value} {x : Nat} {m : kMem} {Q : Option Value → kMem → Prop} : kJ 83 39 [some (.ref x), l1, l2] st m Q = kJ 83 40 [some (.ref x), l1, l2] (.ref x :: st) m Q := kJ_next d83_39 rfl
theorem d83_40 : decode (mB 83) 40 = .ok (.getfield 37, 3) := by decide +kernel
theorem s83_40 {l0 l1 l2 : Option Value} {st : List Value} {q : Nat} {mi : Nat → Nat → Int32} {ml : Nat → Nat → Int64} {mr : Nat → Nat → Option Nat} {nx : Nat} {Q : Option Value → kMem → Prop} (h : kIs nx q 4 = true) : kJ 83 40 [l0, l1, l2] (.ref q :: st) (mi, ml, mr, nx) Q = kJ 83 43 [l0, l1, l2] (va_rf (mr q 5) :: st) (mi, ml, mr, nx) Q := kJ_next d83_40 (kg_getr 4 5 rfl h (by decide))
theorem d83_43 : decode (mB 83) 43 = .ok (.iload_n 1, 1) := by decide +kernel
theorem s83_43 {l0 l2 : Option Value} {st : List Value} {x : Int32} {m : kMem} {Q : Option Value → kMem → Prop} : kJ 83 43 [l0, some (.int x), l2] st m Q = kJ 83 44 [l0, some (.int x), l2] (.int x :: st) m Q := kJ_next d83_43 rfl
theorem d83_44 : decode (mB 83) 44 = .ok (.iconst 1, 1) := by decide +kernel
theorem s83_44 {l0 l1 l2 : Option Value} {st : List Value} {m : kMem} {Q : Option Value → kMem → Prop} : kJ 83 44 [l0, l1, l2] st m Q = kJ 83 45 [l0, l1, l2] (.int (nI 1) :: st) m Q := kJ_next d83_44 rfl
theorem d83_45 : decode (mB 83) 45 = .ok (.bastore, 1) := by decide +kernel
theorem s83_45 {l0 l1 l2 : Option Value} {st : List Value} {q : Nat} {i x : Int32} {mi : Nat → Nat → Int32} {ml : Nat → Nat → Int64} {mr : Nat → Nat → Option Nat} {nx : Nat} {Q : Option Value → kMem → Prop} (h : kIs nx q 11 = true) : kJ 83 45 [l0, l1, l2] (.int x :: .int i :: .ref q :: st) (mi, ml, mr, nx) Q = (vp_in i (kAl q) ∧ kJ 83 46 [l0, l1, l2] st (kup mi q i.toNatClampNeg (x &&& 1), ml, mr, nx) Q) := kg_astJ d83_45 rfl (kAr_of h)
theorem d83_46 : decode (mB 83) 46 = .ok (.iload_n 2, 1) := by decide +kernel
theorem s83_46 {l0 l1 : Option Value} {st : List Value} {x : Int32} {m : kMem} {Q : Option Value → kMem → Prop} : kJ 83 46 [l0, l1, some (.int x)] st m Q = kJ 83 47 [l0, l1, some (.int x)] (.int x :: st) m Q := kJ_next d83_46 rfl
theorem d83_47 : decode (mB 83) 47 = .ok (.ireturn, 1) := by decide +kernel
theorem s83_47 {l0 l1 l2 : Option Value} {x : Int32} {m : kMem} {Q : Option Value → kMem → Prop} : kJ 83 47 [l0, l1, l2] [.int x] m Q = Q (some (.int x)) m := kJ_ret d83_47 rfl
theorem d84_0 : decode (mB 84) 0 = .ok (.iload_n 1, 1) := by decide +kernel
theorem s84_0 {l0 : Option Value} {st : List Value} {x : Int32} {m : kMem} {Q : Option Value → kMem → Prop} : kJ 84 0 [l0, some (.int x)] st m Q = kJ 84 1 [l0, some (.int x)] (.int x :: st) m Q := kJ_next d84_0 rfl
theorem d84_1 : decode (mB 84) 1 = .ok (.iconst 0, 1) := by decide +kernel
theorem s84_1 {l0 l1 : Option Value} {st : List Value} {m : kMem} {Q : Option Value → kMem → Prop} : kJ 84 1 [l0, l1] st m Q = kJ 84 2 [l0, l1] (.int (nI 0) :: st) m Q := kJ_next d84_1 rfl
theorem d84_2 : decode (mB 84) 2 = .ok (.iconst 1, 1) := by decide +kernel
theorem s84_2 {l0 l1 : Option Value} {st : List Value} {m : kMem} {Q : Option Value → kMem → Prop} : kJ 84 2 [l0, l1] st m Q = kJ 84 3 [l0, l1] (.int (nI 1) :: st) m Q := kJ_next d84_2 rfl
theorem d84_3 : decode (mB 84) 3 = .ok (.invokestatic 55, 3) := by decide +kernel
theorem s84_3 {l0 l1 : Option Value} {v0 : Int32} {v1 : Int32} {v2 : Int32} {m : kMem} {Q : Option Value → kMem → Prop} : kJ 84 3 [l0, l1] [.int v0, .int v1, .int v2] m Q = kJ 90 0 [some (.int v2), some (.int v1), some (.int v0)] [] m (fun v m2 => kJ 84 6 [l0, l1] (v.toList ++ []) m2 Q) := kJ_call d84_3 (kg_calls 90 3 rfl rfl (Nat.le_of_ble_eq_true rfl) (Nat.le_of_ble_eq_true rfl) (Nat.le_of_ble_eq_true rfl) (Nat.le_of_ble_eq_true rfl))
theorem d84_6 : decode (mB 84) 6 = .ok (.ifCond .ne 5, 3) := by decide +kernel
theorem s84_6 {l0 l1 : Option Value} {st : List Value} {a : Int32} {m : kMem} {Q : Option Value → kMem → Prop} : kJ 84 6 [l0, l1] (.int a :: st) m Q = (if a = 0 then kJ 84 9 [l0, l1] st m Q else kJ 84 11 [l0, l1] st m Q) := kJ_if d84_6 rfl (fun h => kJ_next d84_6 h) (fun h => kJ_next d84_6 h)
theorem d84_9 : decode (mB 84) 9 = .ok (.iconst (-1), 1) := by decide +kernel
theorem s84_9 {l0 l1 : Option Value} {st : List Value} {m : kMem} {Q : Option Value → kMem → Prop} : kJ 84 9 [l0, l1] st m Q = kJ 84 10 [l0, l1] (.int (-1) :: st) m Q := kJ_next d84_9 rfl
theorem d84_10 : decode (mB 84) 10 = .ok (.ireturn, 1) := by decide +kernel
theorem s84_10 {l0 l1 : Option Value} {x : Int32} {m : kMem} {Q : Option Value → kMem → Prop} : kJ 84 10 [l0, l1] [.int x] m Q = Q (some (.int x)) m := kJ_ret d84_10 rfl
theorem d84_11 : decode (mB 84) 11 = .ok (.aload_n 0, 1) := by decide +kernel
theorem s84_11 {l1 : Option Value} {st : List Value} {x : Nat} {m : kMem} {Q : Option Value → kMem → Prop} : kJ 84 11 [some (.ref x), l1] st m Q = kJ 84 12 [some (.ref x), l1] (.ref x :: st) m Q := kJ_next d84_11 rfl
theorem d84_12 : decode (mB 84) 12 = .ok (.getfield 37, 3) := by decide +kernel
theorem s84_12 {l0 l1 : Option Value} {st : List Value} {q : Nat} {mi : Nat → Nat → Int32} {ml : Nat → Nat → Int64} {mr : Nat → Nat → Option Nat} {nx : Nat} {Q : Option Value → kMem → Prop} (h : kIs nx q 4 = true) : kJ 84 12 [l0, l1] (.ref q :: st) (mi, ml, mr, nx) Q = kJ 84 15 [l0, l1] (va_rf (mr q 5) :: st) (mi, ml, mr, nx) Q := kJ_next d84_12 (kg_getr 4 5 rfl h (by decide))
theorem d84_15 : decode (mB 84) 15 = .ok (.iload_n 1, 1) := by decide +kernel
theorem s84_15 {l0 : Option Value} {st : List Value} {x : Int32} {m : kMem} {Q : Option Value → kMem → Prop} : kJ 84 15 [l0, some (.int x)] st m Q = kJ 84 16 [l0, some (.int x)] (.int x :: st) m Q := kJ_next d84_15 rfl
theorem d84_16 : decode (mB 84) 16 = .ok (.baload, 1) := by decide +kernel
theorem s84_16 {l0 l1 : Option Value} {st : List Value} {q : Nat} {i : Int32} {mi : Nat → Nat → Int32} {ml : Nat → Nat → Int64} {mr : Nat → Nat → Option Nat} {nx : Nat} {Q : Option Value → kMem → Prop} (h : kIs nx q 11 = true) : kJ 84 16 [l0, l1] (.int i :: .ref q :: st) (mi, ml, mr, nx) Q = (vp_in i (kAl q) ∧ kJ 84 17 [l0, l1] (.int (mi q i.toNatClampNeg) :: st) (mi, ml, mr, nx) Q) := kg_aldJ d84_16 rfl (kAr_of h)
theorem d84_17 : decode (mB 84) 17 = .ok (.ifCond .ne 6, 3) := by decide +kernel
theorem s84_17 {l0 l1 : Option Value} {st : List Value} {a : Int32} {m : kMem} {Q : Option Value → kMem → Prop} : kJ 84 17 [l0, l1] (.int a :: st) m Q = (if a = 0 then kJ 84 20 [l0, l1] st m Q else kJ 84 23 [l0, l1] st m Q) := kJ_if d84_17 rfl (fun h => kJ_next d84_17 h) (fun h => kJ_next d84_17 h)
theorem d84_20 : decode (mB 84) 20 = .ok (.bipush (-2), 2) := by decide +kernel
theorem s84_20 {l0 l1 : Option Value} {st : List Value} {m : kMem} {Q : Option Value → kMem → Prop} : kJ 84 20 [l0, l1] st m Q = kJ 84 22 [l0, l1] (.int (-2) :: st) m Q := kJ_next d84_20 rfl
theorem d84_22 : decode (mB 84) 22 = .ok (.ireturn, 1) := by decide +kernel
theorem s84_22 {l0 l1 : Option Value} {x : Int32} {m : kMem} {Q : Option Value → kMem → Prop} : kJ 84 22 [l0, l1] [.int x] m Q = Q (some (.int x)) m := kJ_ret d84_22 rfl
theorem d84_23 : decode (mB 84) 23 = .ok (.aload_n 0, 1) := by decide +kernel
theorem s84_23 {l1 : Option Value} {st : List Value} {x : Nat} {m : kMem} {Q : Option Value → kMem → Prop} : kJ 84 23 [some (.ref x), l1] st m Q = kJ 84 24 [some (.ref x), l1] (.ref x :: st) m Q := kJ_next d84_23 rfl
theorem d84_24 : decode (mB 84) 24 = .ok (.getfield 10, 3) := by decide +kernel
theorem s84_24 {l0 l1 : Option Value} {st : List Value} {q : Nat} {mi : Nat → Nat → Int32} {ml : Nat → Nat → Int64} {mr : Nat → Nat → Option Nat} {nx : Nat} {Q : Option Value → kMem → Prop} (h : kIs nx q 4 = true) : kJ 84 24 [l0, l1] (.ref q :: st) (mi, ml, mr, nx) Q = kJ 84 27 [l0, l1] (va_rf (mr q 0) :: st) (mi, ml, mr, nx) Q := kJ_next d84_24 (kg_getr 4 0 rfl h (by decide))
theorem d84_27 : decode (mB 84) 27 = .ok (.aload_n 0, 1) := by decide +kernel
theorem s84_27 {l1 : Option Value} {st : List Value} {x : Nat} {m : kMem} {Q : Option Value → kMem → Prop} : kJ 84 27 [some (.ref x), l1] st m Q = kJ 84 28 [some (.ref x), l1] (.ref x :: st) m Q := kJ_next d84_27 rfl
theorem d84_28 : decode (mB 84) 28 = .ok (.getfield 33, 3) := by decide +kernel
theorem s84_28 {l0 l1 : Option Value} {st : List Value} {q : Nat} {mi : Nat → Nat → Int32} {ml : Nat → Nat → Int64} {mr : Nat → Nat → Option Nat} {nx : Nat} {Q : Option Value → kMem → Prop} (h : kIs nx q 4 = true) : kJ 84 28 [l0, l1] (.ref q :: st) (mi, ml, mr, nx) Q = kJ 84 31 [l0, l1] (va_rf (mr q 4) :: st) (mi, ml, mr, nx) Q := kJ_next d84_28 (kg_getr 4 4 rfl h (by decide))
theorem d84_31 : decode (mB 84) 31 = .ok (.iload_n 1, 1) := by decide +kernel
theorem s84_31 {l0 : Option Value} {st : List Value} {x : Int32} {m : kMem} {Q : Option Value → kMem → Prop} : kJ 84 31 [l0, some (.int x)] st m Q = kJ 84 32 [l0, some (.int x)] (.int x :: st) m Q := kJ_next d84_31 rfl
theorem d84_32 : decode (mB 84) 32 = .ok (.aaload, 1) := by decide +kernel
theorem s84_32 {l0 l1 : Option Value} {st : List Value} {q : Nat} {i : Int32} {mi : Nat → Nat → Int32} {ml : Nat → Nat → Int64} {mr : Nat → Nat → Option Nat} {nx : Nat} {Q : Option Value → kMem → Prop} (h : kIs nx q 12 = true ∨ kIs nx q 13 = true) : kJ 84 32 [l0, l1] (.int i :: .ref q :: st) (mi, ml, mr, nx) Q = (vp_in i (kAl q) ∧ kJ 84 33 [l0, l1] (va_rf (mr q i.toNatClampNeg) :: st) (mi, ml, mr, nx) Q) := kg_aalJ d84_32 rfl (kAr_or h)
theorem d84_33 : decode (mB 84) 33 = .ok (.invokevirtual 81, 3) := by decide +kernel
theorem s84_33 {l0 l1 : Option Value} {v0 : Nat} {v1 : Nat} {m : kMem} {Q : Option Value → kMem → Prop} (h : kIs m.2.2.2 v1 1 = true) : kJ 84 33 [l0, l1] [.ref v0, .ref v1] m Q = kJ 6 0 [some (.ref v1), some (.ref v0)] [] m (fun v m2 => kJ 84 36 [l0, l1] (v.toList ++ []) m2 Q) := kJ_call d84_33 (kg_callv 6 1 rfl rfl rfl rfl (Nat.le_of_ble_eq_true rfl) (Nat.le_of_ble_eq_true rfl) (Nat.le_of_ble_eq_true rfl) h rfl)
theorem d84_36 : decode (mB 84) 36 = .ok (.aload_n 0, 1) := by decide +kernel
theorem s84_36 {l1 : Option Value} {st : List Value} {x : Nat} {m : kMem} {Q : Option Value → kMem → Prop} : kJ 84 36 [some (.ref x), l1] st m Q = kJ 84 37 [some (.ref x), l1] (.ref x :: st) m Q := kJ_next d84_36 rfl
theorem d84_37 : decode (mB 84) 37 = .ok (.getfield 10, 3) := by decide +kernel
theorem s84_37 {l0 l1 : Option Value} {st : List Value} {q : Nat} {mi : Nat → Nat → Int32} {ml : Nat → Nat → Int64} {mr : Nat → Nat → Option Nat} {nx : Nat} {Q : Option Value → kMem → Prop} (h : kIs nx q 4 = true) : kJ 84 37 [l0, l1] (.ref q :: st) (mi, ml, mr, nx) Q = kJ 84 40 [l0, l1] (va_rf (mr q 0) :: st) (mi, ml, mr, nx) Q := kJ_next d84_37 (kg_getr 4 0 rfl h (by decide))
theorem d84_40 : decode (mB 84) 40 = .ok (.getfield 94, 3) := by decide +kernel
theorem s84_40 {l0 l1 : Option Value} {st : List Value} {q : Nat} {mi : Nat → Nat → Int32} {ml : Nat → Nat → Int64} {mr : Nat → Nat → Option Nat} {nx : Nat} {Q : Option Value → kMem → Prop} (h : kIs nx q 1 = true) : kJ 84 40 [l0, l1] (.ref q :: st) (mi, ml, mr, nx) Q = kJ 84 43 [l0, l1] (.int (mi q 12) :: st) (mi, ml, mr, nx) Q := kJ_next d84_40 (kg_geti 1 12 rfl h (by decide))
theorem d84_43 : decode (mB 84) 43 = .ok (.ireturn, 1) := by decide +kernel
theorem s84_43 {l0 l1 : Option Value} {x : Int32} {m : kMem} {Q : Option Value → kMem → Prop} : kJ 84 43 [l0, l1] [.int x] m Q = Q (some (.int x)) m := kJ_ret d84_43 rfl
theorem d85_0 : decode (mB 85) 0 = .ok (.iload_n 1, 1) := by decide +kernel
theorem s85_0 {l0 l2 l3 : Option Value} {st : List Value} {x : Int32} {m : kMem} {Q : Option Value → kMem → Prop} : kJ 85 0 [l0, some (.int x), l2, l3] st m Q = kJ 85 1 [l0, some (.int x), l2, l3] (.int x :: st) m Q := kJ_next d85_0 rfl
theorem d85_1 : decode (mB 85) 1 = .ok (.iconst 0, 1) := by decide +kernel
theorem s85_1 {l0 l1 l2 l3 : Option Value} {st : List Value} {m : kMem} {Q : Option Value → kMem → Prop} : kJ 85 1 [l0, l1, l2, l3] st m Q = kJ 85 2 [l0, l1, l2, l3] (.int (nI 0) :: st) m Q := kJ_next d85_1 rfl
theorem d85_2 : decode (mB 85) 2 = .ok (.iconst 3, 1) := by decide +kernel
theorem s85_2 {l0 l1 l2 l3 : Option Value} {st : List Value} {m : kMem} {Q : Option Value → kMem → Prop} : kJ 85 2 [l0, l1, l2, l3] st m Q = kJ 85 3 [l0, l1, l2, l3] (.int (nI 3) :: st) m Q := kJ_next d85_2 rfl
theorem d85_3 : decode (mB 85) 3 = .ok (.invokestatic 55, 3) := by decide +kernel
theorem s85_3 {l0 l1 l2 l3 : Option Value} {v0 : Int32} {v1 : Int32} {v2 : Int32} {m : kMem} {Q : Option Value → kMem → Prop} : kJ 85 3 [l0, l1, l2, l3] [.int v0, .int v1, .int v2] m Q = kJ 90 0 [some (.int v2), some (.int v1), some (.int v0)] [] m (fun v m2 => kJ 85 6 [l0, l1, l2, l3] (v.toList ++ []) m2 Q) := kJ_call d85_3 (kg_calls 90 3 rfl rfl (Nat.le_of_ble_eq_true rfl) (Nat.le_of_ble_eq_true rfl) (Nat.le_of_ble_eq_true rfl) (Nat.le_of_ble_eq_true rfl))
theorem d85_6 : decode (mB 85) 6 = .ok (.ifCond .eq 18, 3) := by decide +kernel
theorem s85_6 {l0 l1 l2 l3 : Option Value} {st : List Value} {a : Int32} {m : kMem} {Q : Option Value → kMem → Prop} : kJ 85 6 [l0, l1, l2, l3] (.int a :: st) m Q = (if a = 0 then kJ 85 24 [l0, l1, l2, l3] st m Q else kJ 85 9 [l0, l1, l2, l3] st m Q) := kJ_if d85_6 rfl (fun h => kJ_next d85_6 h) (fun h => kJ_next d85_6 h)
theorem d85_9 : decode (mB 85) 9 = .ok (.iload_n 2, 1) := by decide +kernel
theorem s85_9 {l0 l1 l3 : Option Value} {st : List Value} {x : Int32} {m : kMem} {Q : Option Value → kMem → Prop} : kJ 85 9 [l0, l1, some (.int x), l3] st m Q = kJ 85 10 [l0, l1, some (.int x), l3] (.int x :: st) m Q := kJ_next d85_9 rfl
theorem d85_10 : decode (mB 85) 10 = .ok (.iconst 0, 1) := by decide +kernel
theorem s85_10 {l0 l1 l2 l3 : Option Value} {st : List Value} {m : kMem} {Q : Option Value → kMem → Prop} : kJ 85 10 [l0, l1, l2, l3] st m Q = kJ 85 11 [l0, l1, l2, l3] (.int (nI 0) :: st) m Q := kJ_next d85_10 rfl
theorem d85_11 : decode (mB 85) 11 = .ok (.iconst 2, 1) := by decide +kernel
theorem s85_11 {l0 l1 l2 l3 : Option Value} {st : List Value} {m : kMem} {Q : Option Value → kMem → Prop} : kJ 85 11 [l0, l1, l2, l3] st m Q = kJ 85 12 [l0, l1, l2, l3] (.int (nI 2) :: st) m Q := kJ_next d85_11 rfl
theorem d85_12 : decode (mB 85) 12 = .ok (.invokestatic 55, 3) := by decide +kernel
theorem s85_12 {l0 l1 l2 l3 : Option Value} {v0 : Int32} {v1 : Int32} {v2 : Int32} {m : kMem} {Q : Option Value → kMem → Prop} : kJ 85 12 [l0, l1, l2, l3] [.int v0, .int v1, .int v2] m Q = kJ 90 0 [some (.int v2), some (.int v1), some (.int v0)] [] m (fun v m2 => kJ 85 15 [l0, l1, l2, l3] (v.toList ++ []) m2 Q) := kJ_call d85_12 (kg_calls 90 3 rfl rfl (Nat.le_of_ble_eq_true rfl) (Nat.le_of_ble_eq_true rfl) (Nat.le_of_ble_eq_true rfl) (Nat.le_of_ble_eq_true rfl))
theorem d85_15 : decode (mB 85) 15 = .ok (.ifCond .eq 9, 3) := by decide +kernel
theorem s85_15 {l0 l1 l2 l3 : Option Value} {st : List Value} {a : Int32} {m : kMem} {Q : Option Value → kMem → Prop} : kJ 85 15 [l0, l1, l2, l3] (.int a :: st) m Q = (if a = 0 then kJ 85 24 [l0, l1, l2, l3] st m Q else kJ 85 18 [l0, l1, l2, l3] st m Q) := kJ_if d85_15 rfl (fun h => kJ_next d85_15 h) (fun h => kJ_next d85_15 h)
theorem d85_18 : decode (mB 85) 18 = .ok (.iload_n 3, 1) := by decide +kernel
theorem s85_18 {l0 l1 l2 : Option Value} {st : List Value} {x : Int32} {m : kMem} {Q : Option Value → kMem → Prop} : kJ 85 18 [l0, l1, l2, some (.int x)] st m Q = kJ 85 19 [l0, l1, l2, some (.int x)] (.int x :: st) m Q := kJ_next d85_18 rfl
theorem d85_19 : decode (mB 85) 19 = .ok (.bipush 40, 2) := by decide +kernel
theorem s85_19 {l0 l1 l2 l3 : Option Value} {st : List Value} {m : kMem} {Q : Option Value → kMem → Prop} : kJ 85 19 [l0, l1, l2, l3] st m Q = kJ 85 21 [l0, l1, l2, l3] (.int (nI 40) :: st) m Q := kJ_next d85_19 rfl
theorem d85_21 : decode (mB 85) 21 = .ok (.if_icmp .le 5, 3) := by decide +kernel
theorem s85_21 {l0 l1 l2 l3 : Option Value} {st : List Value} {a b : Int32} {m : kMem} {Q : Option Value → kMem → Prop} : kJ 85 21 [l0, l1, l2, l3] (.int b :: .int a :: st) m Q = (if a ≤ b then kJ 85 26 [l0, l1, l2, l3] st m Q else kJ 85 24 [l0, l1, l2, l3] st m Q) := kJ_if d85_21 rfl (fun h => kJ_next d85_21 h) (fun h => kJ_next d85_21 h)
theorem d85_24 : decode (mB 85) 24 = .ok (.iconst (-1), 1) := by decide +kernel
theorem s85_24 {l0 l1 l2 l3 : Option Value} {st : List Value} {m : kMem} {Q : Option Value → kMem → Prop} : kJ 85 24 [l0, l1, l2, l3] st m Q = kJ 85 25 [l0, l1, l2, l3] (.int (-1) :: st) m Q := kJ_next d85_24 rfl
theorem d85_25 : decode (mB 85) 25 = .ok (.ireturn, 1) := by decide +kernel
theorem s85_25 {l0 l1 l2 l3 : Option Value} {x : Int32} {m : kMem} {Q : Option Value → kMem → Prop} : kJ 85 25 [l0, l1, l2, l3] [.int x] m Q = Q (some (.int x)) m := kJ_ret d85_25 rfl
theorem d85_26 : decode (mB 85) 26 = .ok (.iload_n 3, 1) := by decide +kernel
theorem s85_26 {l0 l1 l2 : Option Value} {st : List Value} {x : Int32} {m : kMem} {Q : Option Value → kMem → Prop} : kJ 85 26 [l0, l1, l2, some (.int x)] st m Q = kJ 85 27 [l0, l1, l2, some (.int x)] (.int x :: st) m Q := kJ_next d85_26 rfl
theorem d85_27 : decode (mB 85) 27 = .ok (.ifCond .ge 6, 3) := by decide +kernel
theorem s85_27 {l0 l1 l2 l3 : Option Value} {st : List Value} {a : Int32} {m : kMem} {Q : Option Value → kMem → Prop} : kJ 85 27 [l0, l1, l2, l3] (.int a :: st) m Q = (if 0 ≤ a then kJ 85 33 [l0, l1, l2, l3] st m Q else kJ 85 30 [l0, l1, l2, l3] st m Q) := kJ_if d85_27 rfl (fun h => kJ_next d85_27 h) (fun h => kJ_next d85_27 h)
theorem d85_30 : decode (mB 85) 30 = .ok (.bipush (-14), 2) := by decide +kernel
theorem s85_30 {l0 l1 l2 l3 : Option Value} {st : List Value} {m : kMem} {Q : Option Value → kMem → Prop} : kJ 85 30 [l0, l1, l2, l3] st m Q = kJ 85 32 [l0, l1, l2, l3] (.int (-14) :: st) m Q := kJ_next d85_30 rfl
theorem d85_32 : decode (mB 85) 32 = .ok (.ireturn, 1) := by decide +kernel
theorem s85_32 {l0 l1 l2 l3 : Option Value} {x : Int32} {m : kMem} {Q : Option Value → kMem → Prop} : kJ 85 32 [l0, l1, l2, l3] [.int x] m Q = Q (some (.int x)) m := kJ_ret d85_32 rfl
theorem d85_33 : decode (mB 85) 33 = .ok (.aload_n 0, 1) := by decide +kernel
theorem s85_33 {l1 l2 l3 : Option Value} {st : List Value} {x : Nat} {m : kMem} {Q : Option Value → kMem → Prop} : kJ 85 33 [some (.ref x), l1, l2, l3] st m Q = kJ 85 34 [some (.ref x), l1, l2, l3] (.ref x :: st) m Q := kJ_next d85_33 rfl
theorem d85_34 : decode (mB 85) 34 = .ok (.getfield 43, 3) := by decide +kernel
theorem s85_34 {l0 l1 l2 l3 : Option Value} {st : List Value} {q : Nat} {mi : Nat → Nat → Int32} {ml : Nat → Nat → Int64} {mr : Nat → Nat → Option Nat} {nx : Nat} {Q : Option Value → kMem → Prop} (h : kIs nx q 4 = true) : kJ 85 34 [l0, l1, l2, l3] (.ref q :: st) (mi, ml, mr, nx) Q = kJ 85 37 [l0, l1, l2, l3] (va_rf (mr q 6) :: st) (mi, ml, mr, nx) Q := kJ_next d85_34 (kg_getr 4 6 rfl h (by decide))
theorem d85_37 : decode (mB 85) 37 = .ok (.iload_n 1, 1) := by decide +kernel
theorem s85_37 {l0 l2 l3 : Option Value} {st : List Value} {x : Int32} {m : kMem} {Q : Option Value → kMem → Prop} : kJ 85 37 [l0, some (.int x), l2, l3] st m Q = kJ 85 38 [l0, some (.int x), l2, l3] (.int x :: st) m Q := kJ_next d85_37 rfl
theorem d85_38 : decode (mB 85) 38 = .ok (.aaload, 1) := by decide +kernel
theorem s85_38 {l0 l1 l2 l3 : Option Value} {st : List Value} {q : Nat} {i : Int32} {mi : Nat → Nat → Int32} {ml : Nat → Nat → Int64} {mr : Nat → Nat → Option Nat} {nx : Nat} {Q : Option Value → kMem → Prop} (h : kIs nx q 12 = true ∨ kIs nx q 13 = true) : kJ 85 38 [l0, l1, l2, l3] (.int i :: .ref q :: st) (mi, ml, mr, nx) Q = (vp_in i (kAl q) ∧ kJ 85 39 [l0, l1, l2, l3] (va_rf (mr q i.toNatClampNeg) :: st) (mi, ml, mr, nx) Q) := kg_aalJ d85_38 rfl (kAr_or h)
theorem d85_39 : decode (mB 85) 39 = .ok (.iload_n 2, 1) := by decide +kernel
theorem s85_39 {l0 l1 l3 : Option Value} {st : List Value} {x : Int32} {m : kMem} {Q : Option Value → kMem → Prop} : kJ 85 39 [l0, l1, some (.int x), l3] st m Q = kJ 85 40 [l0, l1, some (.int x), l3] (.int x :: st) m Q := kJ_next d85_39 rfl
theorem d85_40 : decode (mB 85) 40 = .ok (.iload_n 3, 1) := by decide +kernel
theorem s85_40 {l0 l1 l2 : Option Value} {st : List Value} {x : Int32} {m : kMem} {Q : Option Value → kMem → Prop} : kJ 85 40 [l0, l1, l2, some (.int x)] st m Q = kJ 85 41 [l0, l1, l2, some (.int x)] (.int x :: st) m Q := kJ_next d85_40 rfl
theorem d85_41 : decode (mB 85) 41 = .ok (.invokevirtual 238, 3) := by decide +kernel
theorem s85_41 {l0 l1 l2 l3 : Option Value} {v0 : Int32} {v1 : Int32} {v2 : Nat} {m : kMem} {Q : Option Value → kMem → Prop} (h : kIs m.2.2.2 v2 2 = true) : kJ 85 41 [l0, l1, l2, l3] [.int v0, .int v1, .ref v2] m Q = kJ 31 0 [some (.ref v2), some (.int v1), some (.int v0), none] [] m (fun v m2 => kJ 85 44 [l0, l1, l2, l3] (v.toList ++ []) m2 Q) := kJ_call d85_41 (kg_callv 31 2 rfl rfl rfl rfl (Nat.le_of_ble_eq_true rfl) (Nat.le_of_ble_eq_true rfl) (Nat.le_of_ble_eq_true rfl) h rfl)
theorem d85_44 : decode (mB 85) 44 = .ok (.iconst 1, 1) := by decide +kernel
theorem s85_44 {l0 l1 l2 l3 : Option Value} {st : List Value} {m : kMem} {Q : Option Value → kMem → Prop} : kJ 85 44 [l0, l1, l2, l3] st m Q = kJ 85 45 [l0, l1, l2, l3] (.int (nI 1) :: st) m Q := kJ_next d85_44 rfl
theorem d85_45 : decode (mB 85) 45 = .ok (.ireturn, 1) := by decide +kernel
theorem s85_45 {l0 l1 l2 l3 : Option Value} {x : Int32} {m : kMem} {Q : Option Value → kMem → Prop} : kJ 85 45 [l0, l1, l2, l3] [.int x] m Q = Q (some (.int x)) m := kJ_ret d85_45 rfl
theorem d86_0 : decode (mB 86) 0 = .ok (.iload_n 1, 1) := by decide +kernel
theorem s86_0 {l0 l2 l3 l4 : Option Value} {st : List Value} {x : Int32} {m : kMem} {Q : Option Value → kMem → Prop} : kJ 86 0 [l0, some (.int x), l2, l3, l4] st m Q = kJ 86 1 [l0, some (.int x), l2, l3, l4] (.int x :: st) m Q := kJ_next d86_0 rfl
theorem d86_1 : decode (mB 86) 1 = .ok (.iconst 0, 1) := by decide +kernel
theorem s86_1 {l0 l1 l2 l3 l4 : Option Value} {st : List Value} {m : kMem} {Q : Option Value → kMem → Prop} : kJ 86 1 [l0, l1, l2, l3, l4] st m Q = kJ 86 2 [l0, l1, l2, l3, l4] (.int (nI 0) :: st) m Q := kJ_next d86_1 rfl
theorem d86_2 : decode (mB 86) 2 = .ok (.iconst 3, 1) := by decide +kernel
theorem s86_2 {l0 l1 l2 l3 l4 : Option Value} {st : List Value} {m : kMem} {Q : Option Value → kMem → Prop} : kJ 86 2 [l0, l1, l2, l3, l4] st m Q = kJ 86 3 [l0, l1, l2, l3, l4] (.int (nI 3) :: st) m Q := kJ_next d86_2 rfl
theorem d86_3 : decode (mB 86) 3 = .ok (.invokestatic 55, 3) := by decide +kernel
theorem s86_3 {l0 l1 l2 l3 l4 : Option Value} {v0 : Int32} {v1 : Int32} {v2 : Int32} {m : kMem} {Q : Option Value → kMem → Prop} : kJ 86 3 [l0, l1, l2, l3, l4] [.int v0, .int v1, .int v2] m Q = kJ 90 0 [some (.int v2), some (.int v1), some (.int v0)] [] m (fun v m2 => kJ 86 6 [l0, l1, l2, l3, l4] (v.toList ++ []) m2 Q) := kJ_call d86_3 (kg_calls 90 3 rfl rfl (Nat.le_of_ble_eq_true rfl) (Nat.le_of_ble_eq_true rfl) (Nat.le_of_ble_eq_true rfl) (Nat.le_of_ble_eq_true rfl))
theorem d86_6 : decode (mB 86) 6 = .ok (.ifCond .ne 5, 3) := by decide +kernel
theorem s86_6 {l0 l1 l2 l3 l4 : Option Value} {st : List Value} {a : Int32} {m : kMem} {Q : Option Value → kMem → Prop} : kJ 86 6 [l0, l1, l2, l3, l4] (.int a :: st) m Q = (if a = 0 then kJ 86 9 [l0, l1, l2, l3, l4] st m Q else kJ 86 11 [l0, l1, l2, l3, l4] st m Q) := kJ_if d86_6 rfl (fun h => kJ_next d86_6 h) (fun h => kJ_next d86_6 h)
theorem d86_9 : decode (mB 86) 9 = .ok (.iconst (-1), 1) := by decide +kernel
theorem s86_9 {l0 l1 l2 l3 l4 : Option Value} {st : List Value} {m : kMem} {Q : Option Value → kMem → Prop} : kJ 86 9 [l0, l1, l2, l3, l4] st m Q = kJ 86 10 [l0, l1, l2, l3, l4] (.int (-1) :: st) m Q := kJ_next d86_9 rfl
theorem d86_10 : decode (mB 86) 10 = .ok (.ireturn, 1) := by decide +kernel
theorem s86_10 {l0 l1 l2 l3 l4 : Option Value} {x : Int32} {m : kMem} {Q : Option Value → kMem → Prop} : kJ 86 10 [l0, l1, l2, l3, l4] [.int x] m Q = Q (some (.int x)) m := kJ_ret d86_10 rfl
theorem d86_11 : decode (mB 86) 11 = .ok (.aload_n 0, 1) := by decide +kernel
theorem s86_11 {l1 l2 l3 l4 : Option Value} {st : List Value} {x : Nat} {m : kMem} {Q : Option Value → kMem → Prop} : kJ 86 11 [some (.ref x), l1, l2, l3, l4] st m Q = kJ 86 12 [some (.ref x), l1, l2, l3, l4] (.ref x :: st) m Q := kJ_next d86_11 rfl
theorem d86_12 : decode (mB 86) 12 = .ok (.getfield 43, 3) := by decide +kernel
theorem s86_12 {l0 l1 l2 l3 l4 : Option Value} {st : List Value} {q : Nat} {mi : Nat → Nat → Int32} {ml : Nat → Nat → Int64} {mr : Nat → Nat → Option Nat} {nx : Nat} {Q : Option Value → kMem → Prop} (h : kIs nx q 4 = true) : kJ 86 12 [l0, l1, l2, l3, l4] (.ref q :: st) (mi, ml, mr, nx) Q = kJ 86 15 [l0, l1, l2, l3, l4] (va_rf (mr q 6) :: st) (mi, ml, mr, nx) Q := kJ_next d86_12 (kg_getr 4 6 rfl h (by decide))
theorem d86_15 : decode (mB 86) 15 = .ok (.iload_n 1, 1) := by decide +kernel
theorem s86_15 {l0 l2 l3 l4 : Option Value} {st : List Value} {x : Int32} {m : kMem} {Q : Option Value → kMem → Prop} : kJ 86 15 [l0, some (.int x), l2, l3, l4] st m Q = kJ 86 16 [l0, some (.int x), l2, l3, l4] (.int x :: st) m Q := kJ_next d86_15 rfl
theorem d86_16 : decode (mB 86) 16 = .ok (.aaload, 1) := by decide +kernel
theorem s86_16 {l0 l1 l2 l3 l4 : Option Value} {st : List Value} {q : Nat} {i : Int32} {mi : Nat → Nat → Int32} {ml : Nat → Nat → Int64} {mr : Nat → Nat → Option Nat} {nx : Nat} {Q : Option Value → kMem → Prop} (h : kIs nx q 12 = true ∨ kIs nx q 13 = true) : kJ 86 16 [l0, l1, l2, l3, l4] (.int i :: .ref q :: st) (mi, ml, mr, nx) Q = (vp_in i (kAl q) ∧ kJ 86 17 [l0, l1, l2, l3, l4] (va_rf (mr q i.toNatClampNeg) :: st) (mi, ml, mr, nx) Q) := kg_aalJ d86_16 rfl (kAr_or h)
theorem d86_17 : decode (mB 86) 17 = .ok (.iload_n 2, 1) := by decide +kernel
theorem s86_17 {l0 l1 l3 l4 : Option Value} {st : List Value} {x : Int32} {m : kMem} {Q : Option Value → kMem → Prop} : kJ 86 17 [l0, l1, some (.int x), l3, l4] st m Q = kJ 86 18 [l0, l1, some (.int x), l3, l4] (.int x :: st) m Q := kJ_next d86_17 rfl
theorem d86_18 : decode (mB 86) 18 = .ok (.iconst 1, 1) := by decide +kernel
theorem s86_18 {l0 l1 l2 l3 l4 : Option Value} {st : List Value} {m : kMem} {Q : Option Value → kMem → Prop} : kJ 86 18 [l0, l1, l2, l3, l4] st m Q = kJ 86 19 [l0, l1, l2, l3, l4] (.int (nI 1) :: st) m Q := kJ_next d86_18 rfl
theorem d86_19 : decode (mB 86) 19 = .ok (.invokevirtual 241, 3) := by decide +kernel
theorem s86_19 {l0 l1 l2 l3 l4 : Option Value} {v0 : Int32} {v1 : Int32} {v2 : Nat} {m : kMem} {Q : Option Value → kMem → Prop} (h : kIs m.2.2.2 v2 2 = true) : kJ 86 19 [l0, l1, l2, l3, l4] [.int v0, .int v1, .ref v2] m Q = kJ 34 0 [some (.ref v2), some (.int v1), some (.int v0)] [] m (fun v m2 => kJ 86 22 [l0, l1, l2, l3, l4] (v.toList ++ []) m2 Q) := kJ_call d86_19 (kg_callv 34 2 rfl rfl rfl rfl (Nat.le_of_ble_eq_true rfl) (Nat.le_of_ble_eq_true rfl) (Nat.le_of_ble_eq_true rfl) h rfl)
theorem d86_22 : decode (mB 86) 22 = .ok (.istore 4, 2) := by decide +kernel
theorem s86_22 {l0 l1 l2 l3 l4 : Option Value} {st : List Value} {x : Int32} {m : kMem} {Q : Option Value → kMem → Prop} (hp : kNL l3 = true) : kJ 86 22 [l0, l1, l2, l3, l4] (.int x :: st) m Q = kJ 86 24 [l0, l1, l2, l3, some (.int x)] st m Q := kJ_next d86_22 (kg_sti (Nat.le_of_ble_eq_true rfl) hp)
theorem d86_24 : decode (mB 86) 24 = .ok (.iload 4, 2) := by decide +kernel
theorem s86_24 {l0 l1 l2 l3 : Option Value} {st : List Value} {x : Int32} {m : kMem} {Q : Option Value → kMem → Prop} : kJ 86 24 [l0, l1, l2, l3, some (.int x)] st m Q = kJ 86 26 [l0, l1, l2, l3, some (.int x)] (.int x :: st) m Q := kJ_next d86_24 rfl
theorem d86_26 : decode (mB 86) 26 = .ok (.ifCond .eq 9, 3) := by decide +kernel
theorem s86_26 {l0 l1 l2 l3 l4 : Option Value} {st : List Value} {a : Int32} {m : kMem} {Q : Option Value → kMem → Prop} : kJ 86 26 [l0, l1, l2, l3, l4] (.int a :: st) m Q = (if a = 0 then kJ 86 35 [l0, l1, l2, l3, l4] st m Q else kJ 86 29 [l0, l1, l2, l3, l4] st m Q) := kJ_if d86_26 rfl (fun h => kJ_next d86_26 h) (fun h => kJ_next d86_26 h)
theorem d86_29 : decode (mB 86) 29 = .ok (.bipush (-10), 2) := by decide +kernel
theorem s86_29 {l0 l1 l2 l3 l4 : Option Value} {st : List Value} {m : kMem} {Q : Option Value → kMem → Prop} : kJ 86 29 [l0, l1, l2, l3, l4] st m Q = kJ 86 31 [l0, l1, l2, l3, l4] (.int (-10) :: st) m Q := kJ_next d86_29 rfl
theorem d86_31 : decode (mB 86) 31 = .ok (.iload 4, 2) := by decide +kernel
theorem s86_31 {l0 l1 l2 l3 : Option Value} {st : List Value} {x : Int32} {m : kMem} {Q : Option Value → kMem → Prop} : kJ 86 31 [l0, l1, l2, l3, some (.int x)] st m Q = kJ 86 33 [l0, l1, l2, l3, some (.int x)] (.int x :: st) m Q := kJ_next d86_31 rfl
theorem d86_33 : decode (mB 86) 33 = .ok (.isub, 1) := by decide +kernel
theorem s86_33 {l0 l1 l2 l3 l4 : Option Value} {st : List Value} {a b : Int32} {m : kMem} {Q : Option Value → kMem → Prop} : kJ 86 33 [l0, l1, l2, l3, l4] (.int b :: .int a :: st) m Q = kJ 86 34 [l0, l1, l2, l3, l4] (.int (a - b) :: st) m Q := kJ_next d86_33 rfl
theorem d86_34 : decode (mB 86) 34 = .ok (.ireturn, 1) := by decide +kernel
theorem s86_34 {l0 l1 l2 l3 l4 : Option Value} {x : Int32} {m : kMem} {Q : Option Value → kMem → Prop} : kJ 86 34 [l0, l1, l2, l3, l4] [.int x] m Q = Q (some (.int x)) m := kJ_ret d86_34 rfl
theorem d86_35 : decode (mB 86) 35 = .ok (.aload_n 0, 1) := by decide +kernel
theorem s86_35 {l1 l2 l3 l4 : Option Value} {st : List Value} {x : Nat} {m : kMem} {Q : Option Value → kMem → Prop} : kJ 86 35 [some (.ref x), l1, l2, l3, l4] st m Q = kJ 86 36 [some (.ref x), l1, l2, l3, l4] (.ref x :: st) m Q := kJ_next d86_35 rfl
theorem d86_36 : decode (mB 86) 36 = .ok (.getfield 43, 3) := by decide +kernel
theorem s86_36 {l0 l1 l2 l3 l4 : Option Value} {st : List Value} {q : Nat} {mi : Nat → Nat → Int32} {ml : Nat → Nat → Int64} {mr : Nat → Nat → Option Nat} {nx : Nat} {Q : Option Value → kMem → Prop} (h : kIs nx q 4 = true) : kJ 86 36 [l0, l1, l2, l3, l4] (.ref q :: st) (mi, ml, mr, nx) Q = kJ 86 39 [l0, l1, l2, l3, l4] (va_rf (mr q 6) :: st) (mi, ml, mr, nx) Q := kJ_next d86_36 (kg_getr 4 6 rfl h (by decide))
theorem d86_39 : decode (mB 86) 39 = .ok (.iload_n 1, 1) := by decide +kernel
theorem s86_39 {l0 l2 l3 l4 : Option Value} {st : List Value} {x : Int32} {m : kMem} {Q : Option Value → kMem → Prop} : kJ 86 39 [l0, some (.int x), l2, l3, l4] st m Q = kJ 86 40 [l0, some (.int x), l2, l3, l4] (.int x :: st) m Q := kJ_next d86_39 rfl
theorem d86_40 : decode (mB 86) 40 = .ok (.aaload, 1) := by decide +kernel
theorem s86_40 {l0 l1 l2 l3 l4 : Option Value} {st : List Value} {q : Nat} {i : Int32} {mi : Nat → Nat → Int32} {ml : Nat → Nat → Int64} {mr : Nat → Nat → Option Nat} {nx : Nat} {Q : Option Value → kMem → Prop} (h : kIs nx q 12 = true ∨ kIs nx q 13 = true) : kJ 86 40 [l0, l1, l2, l3, l4] (.int i :: .ref q :: st) (mi, ml, mr, nx) Q = (vp_in i (kAl q) ∧ kJ 86 41 [l0, l1, l2, l3, l4] (va_rf (mr q i.toNatClampNeg) :: st) (mi, ml, mr, nx) Q) := kg_aalJ d86_40 rfl (kAr_or h)
theorem d86_41 : decode (mB 86) 41 = .ok (.iload_n 2, 1) := by decide +kernel
theorem s86_41 {l0 l1 l3 l4 : Option Value} {st : List Value} {x : Int32} {m : kMem} {Q : Option Value → kMem → Prop} : kJ 86 41 [l0, l1, some (.int x), l3, l4] st m Q = kJ 86 42 [l0, l1, some (.int x), l3, l4] (.int x :: st) m Q := kJ_next d86_41 rfl
theorem d86_42 : decode (mB 86) 42 = .ok (.iload_n 3, 1) := by decide +kernel
theorem s86_42 {l0 l1 l2 l4 : Option Value} {st : List Value} {x : Int32} {m : kMem} {Q : Option Value → kMem → Prop} : kJ 86 42 [l0, l1, l2, some (.int x), l4] st m Q = kJ 86 43 [l0, l1, l2, some (.int x), l4] (.int x :: st) m Q := kJ_next d86_42 rfl
theorem d86_43 : decode (mB 86) 43 = .ok (.invokevirtual 244, 3) := by decide +kernel
theorem s86_43 {l0 l1 l2 l3 l4 : Option Value} {v0 : Int32} {v1 : Int32} {v2 : Nat} {m : kMem} {Q : Option Value → kMem → Prop} (h : kIs m.2.2.2 v2 2 = true) : kJ 86 43 [l0, l1, l2, l3, l4] [.int v0, .int v1, .ref v2] m Q = kJ 32 0 [some (.ref v2), some (.int v1), some (.int v0)] [] m (fun v m2 => kJ 86 46 [l0, l1, l2, l3, l4] (v.toList ++ []) m2 Q) := kJ_call d86_43 (kg_callv 32 2 rfl rfl rfl rfl (Nat.le_of_ble_eq_true rfl) (Nat.le_of_ble_eq_true rfl) (Nat.le_of_ble_eq_true rfl) h rfl)
theorem d86_46 : decode (mB 86) 46 = .ok (.iconst 1, 1) := by decide +kernel
theorem s86_46 {l0 l1 l2 l3 l4 : Option Value} {st : List Value} {m : kMem} {Q : Option Value → kMem → Prop} : kJ 86 46 [l0, l1, l2, l3, l4] st m Q = kJ 86 47 [l0, l1, l2, l3, l4] (.int (nI 1) :: st) m Q := kJ_next d86_46 rfl
theorem d86_47 : decode (mB 86) 47 = .ok (.ireturn, 1) := by decide +kernel
theorem s86_47 {l0 l1 l2 l3 l4 : Option Value} {x : Int32} {m : kMem} {Q : Option Value → kMem → Prop} : kJ 86 47 [l0, l1, l2, l3, l4] [.int x] m Q = Q (some (.int x)) m := kJ_ret d86_47 rfl
theorem d87_0 : decode (mB 87) 0 = .ok (.iload_n 1, 1) := by decide +kernel
theorem s87_0 {l0 l2 l3 l4 l5 l6 l7 l8 l9 l10 l11 : Option Value} {st : List Value} {x : Int32} {m : kMem} {Q : Option Value → kMem → Prop} : kJ 87 0 [l0, some (.int x), l2, l3, l4, l5, l6, l7, l8, l9, l10, l11] st m Q = kJ 87 1 [l0, some (.int x), l2, l3, l4, l5, l6, l7, l8, l9, l10, l11] (.int x :: st) m Q := kJ_next d87_0 rfl
theorem d87_1 : decode (mB 87) 1 = .ok (.iconst 0, 1) := by decide +kernel
theorem s87_1 {l0 l1 l2 l3 l4 l5 l6 l7 l8 l9 l10 l11 : Option Value} {st : List Value} {m : kMem} {Q : Option Value → kMem → Prop} : kJ 87 1 [l0, l1, l2, l3, l4, l5, l6, l7, l8, l9, l10, l11] st m Q = kJ 87 2 [l0, l1, l2, l3, l4, l5, l6, l7, l8, l9, l10, l11] (.int (nI 0) :: st) m Q := kJ_next d87_1 rfl
theorem d87_2 : decode (mB 87) 2 = .ok (.iconst 3, 1) := by decide +kernel
theorem s87_2 {l0 l1 l2 l3 l4 l5 l6 l7 l8 l9 l10 l11 : Option Value} {st : List Value} {m : kMem} {Q : Option Value → kMem → Prop} : kJ 87 2 [l0, l1, l2, l3, l4, l5, l6, l7, l8, l9, l10, l11] st m Q = kJ 87 3 [l0, l1, l2, l3, l4, l5, l6, l7, l8, l9, l10, l11] (.int (nI 3) :: st) m Q := kJ_next d87_2 rfl
theorem d87_3 : decode (mB 87) 3 = .ok (.invokestatic 55, 3) := by decide +kernel
theorem s87_3 {l0 l1 l2 l3 l4 l5 l6 l7 l8 l9 l10 l11 : Option Value} {v0 : Int32} {v1 : Int32} {v2 : Int32} {m : kMem} {Q : Option Value → kMem → Prop} : kJ 87 3 [l0, l1, l2, l3, l4, l5, l6, l7, l8, l9, l10, l11] [.int v0, .int v1, .int v2] m Q = kJ 90 0 [some (.int v2), some (.int v1), some (.int v0)] [] m (fun v m2 => kJ 87 6 [l0, l1, l2, l3, l4, l5, l6, l7, l8, l9, l10, l11] (v.toList ++ []) m2 Q) := kJ_call d87_3 (kg_calls 90 3 rfl rfl (Nat.le_of_ble_eq_true rfl) (Nat.le_of_ble_eq_true rfl) (Nat.le_of_ble_eq_true rfl) (Nat.le_of_ble_eq_true rfl))
theorem d87_6 : decode (mB 87) 6 = .ok (.ifCond .eq 23, 3) := by decide +kernel
theorem s87_6 {l0 l1 l2 l3 l4 l5 l6 l7 l8 l9 l10 l11 : Option Value} {st : List Value} {a : Int32} {m : kMem} {Q : Option Value → kMem → Prop} : kJ 87 6 [l0, l1, l2, l3, l4, l5, l6, l7, l8, l9, l10, l11] (.int a :: st) m Q = (if a = 0 then kJ 87 29 [l0, l1, l2, l3, l4, l5, l6, l7, l8, l9, l10, l11] st m Q else kJ 87 9 [l0, l1, l2, l3, l4, l5, l6, l7, l8, l9, l10, l11] st m Q) := kJ_if d87_6 rfl (fun h => kJ_next d87_6 h) (fun h => kJ_next d87_6 h)
theorem d87_9 : decode (mB 87) 9 = .ok (.iload_n 2, 1) := by decide +kernel
theorem s87_9 {l0 l1 l3 l4 l5 l6 l7 l8 l9 l10 l11 : Option Value} {st : List Value} {x : Int32} {m : kMem} {Q : Option Value → kMem → Prop} : kJ 87 9 [l0, l1, some (.int x), l3, l4, l5, l6, l7, l8, l9, l10, l11] st m Q = kJ 87 10 [l0, l1, some (.int x), l3, l4, l5, l6, l7, l8, l9, l10, l11] (.int x :: st) m Q := kJ_next d87_9 rfl
theorem d87_10 : decode (mB 87) 10 = .ok (.iconst 0, 1) := by decide +kernel
theorem s87_10 {l0 l1 l2 l3 l4 l5 l6 l7 l8 l9 l10 l11 : Option Value} {st : List Value} {m : kMem} {Q : Option Value → kMem → Prop} : kJ 87 10 [l0, l1, l2, l3, l4, l5, l6, l7, l8, l9, l10, l11] st m Q = kJ 87 11 [l0, l1, l2, l3, l4, l5, l6, l7, l8, l9, l10, l11] (.int (nI 0) :: st) m Q := kJ_next d87_10 rfl
theorem d87_11 : decode (mB 87) 11 = .ok (.iconst 2, 1) := by decide +kernel
theorem s87_11 {l0 l1 l2 l3 l4 l5 l6 l7 l8 l9 l10 l11 : Option Value} {st : List Value} {m : kMem} {Q : Option Value → kMem → Prop} : kJ 87 11 [l0, l1, l2, l3, l4, l5, l6, l7, l8, l9, l10, l11] st m Q = kJ 87 12 [l0, l1, l2, l3, l4, l5, l6, l7, l8, l9, l10, l11] (.int (nI 2) :: st) m Q := kJ_next d87_11 rfl
theorem d87_12 : decode (mB 87) 12 = .ok (.invokestatic 55, 3) := by decide +kernel
theorem s87_12 {l0 l1 l2 l3 l4 l5 l6 l7 l8 l9 l10 l11 : Option Value} {v0 : Int32} {v1 : Int32} {v2 : Int32} {m : kMem} {Q : Option Value → kMem → Prop} : kJ 87 12 [l0, l1, l2, l3, l4, l5, l6, l7, l8, l9, l10, l11] [.int v0, .int v1, .int v2] m Q = kJ 90 0 [some (.int v2), some (.int v1), some (.int v0)] [] m (fun v m2 => kJ 87 15 [l0, l1, l2, l3, l4, l5, l6, l7, l8, l9, l10, l11] (v.toList ++ []) m2 Q) := kJ_call d87_12 (kg_calls 90 3 rfl rfl (Nat.le_of_ble_eq_true rfl) (Nat.le_of_ble_eq_true rfl) (Nat.le_of_ble_eq_true rfl) (Nat.le_of_ble_eq_true rfl))
theorem d87_15 : decode (mB 87) 15 = .ok (.ifCond .eq 14, 3) := by decide +kernel
theorem s87_15 {l0 l1 l2 l3 l4 l5 l6 l7 l8 l9 l10 l11 : Option Value} {st : List Value} {a : Int32} {m : kMem} {Q : Option Value → kMem → Prop} : kJ 87 15 [l0, l1, l2, l3, l4, l5, l6, l7, l8, l9, l10, l11] (.int a :: st) m Q = (if a = 0 then kJ 87 29 [l0, l1, l2, l3, l4, l5, l6, l7, l8, l9, l10, l11] st m Q else kJ 87 18 [l0, l1, l2, l3, l4, l5, l6, l7, l8, l9, l10, l11] st m Q) := kJ_if d87_15 rfl (fun h => kJ_next d87_15 h) (fun h => kJ_next d87_15 h)
theorem d87_18 : decode (mB 87) 18 = .ok (.iload 4, 2) := by decide +kernel
theorem s87_18 {l0 l1 l2 l3 l5 l6 l7 l8 l9 l10 l11 : Option Value} {st : List Value} {x : Int32} {m : kMem} {Q : Option Value → kMem → Prop} : kJ 87 18 [l0, l1, l2, l3, some (.int x), l5, l6, l7, l8, l9, l10, l11] st m Q = kJ 87 20 [l0, l1, l2, l3, some (.int x), l5, l6, l7, l8, l9, l10, l11] (.int x :: st) m Q := kJ_next d87_18 rfl
theorem d87_20 : decode (mB 87) 20 = .ok (.iconst 0, 1) := by decide +kernel
theorem s87_20 {l0 l1 l2 l3 l4 l5 l6 l7 l8 l9 l10 l11 : Option Value} {st : List Value} {m : kMem} {Q : Option Value → kMem → Prop} : kJ 87 20 [l0, l1, l2, l3, l4, l5, l6, l7, l8, l9, l10, l11] st m Q = kJ 87 21 [l0, l1, l2, l3, l4, l5, l6, l7, l8, l9, l10, l11] (.int (nI 0) :: st) m Q := kJ_next d87_20 rfl
theorem d87_21 : decode (mB 87) 21 = .ok (.bipush 10, 2) := by decide +kernel
theorem s87_21 {l0 l1 l2 l3 l4 l5 l6 l7 l8 l9 l10 l11 : Option Value} {st : List Value} {m : kMem} {Q : Option Value → kMem → Prop} : kJ 87 21 [l0, l1, l2, l3, l4, l5, l6, l7, l8, l9, l10, l11] st m Q = kJ 87 23 [l0, l1, l2, l3, l4, l5, l6, l7, l8, l9, l10, l11] (.int (nI 10) :: st) m Q := kJ_next d87_21 rfl
theorem d87_23 : decode (mB 87) 23 = .ok (.invokestatic 55, 3) := by decide +kernel
theorem s87_23 {l0 l1 l2 l3 l4 l5 l6 l7 l8 l9 l10 l11 : Option Value} {v0 : Int32} {v1 : Int32} {v2 : Int32} {m : kMem} {Q : Option Value → kMem → Prop} : kJ 87 23 [l0, l1, l2, l3, l4, l5, l6, l7, l8, l9, l10, l11] [.int v0, .int v1, .int v2] m Q = kJ 90 0 [some (.int v2), some (.int v1), some (.int v0)] [] m (fun v m2 => kJ 87 26 [l0, l1, l2, l3, l4, l5, l6, l7, l8, l9, l10, l11] (v.toList ++ []) m2 Q) := kJ_call d87_23 (kg_calls 90 3 rfl rfl (Nat.le_of_ble_eq_true rfl) (Nat.le_of_ble_eq_true rfl) (Nat.le_of_ble_eq_true rfl) (Nat.le_of_ble_eq_true rfl))
theorem d87_26 : decode (mB 87) 26 = .ok (.ifCond .ne 5, 3) := by decide +kernel
theorem s87_26 {l0 l1 l2 l3 l4 l5 l6 l7 l8 l9 l10 l11 : Option Value} {st : List Value} {a : Int32} {m : kMem} {Q : Option Value → kMem → Prop} : kJ 87 26 [l0, l1, l2, l3, l4, l5, l6, l7, l8, l9, l10, l11] (.int a :: st) m Q = (if a = 0 then kJ 87 29 [l0, l1, l2, l3, l4, l5, l6, l7, l8, l9, l10, l11] st m Q else kJ 87 31 [l0, l1, l2, l3, l4, l5, l6, l7, l8, l9, l10, l11] st m Q) := kJ_if d87_26 rfl (fun h => kJ_next d87_26 h) (fun h => kJ_next d87_26 h)
theorem d87_29 : decode (mB 87) 29 = .ok (.iconst (-1), 1) := by decide +kernel
theorem s87_29 {l0 l1 l2 l3 l4 l5 l6 l7 l8 l9 l10 l11 : Option Value} {st : List Value} {m : kMem} {Q : Option Value → kMem → Prop} : kJ 87 29 [l0, l1, l2, l3, l4, l5, l6, l7, l8, l9, l10, l11] st m Q = kJ 87 30 [l0, l1, l2, l3, l4, l5, l6, l7, l8, l9, l10, l11] (.int (-1) :: st) m Q := kJ_next d87_29 rfl
theorem d87_30 : decode (mB 87) 30 = .ok (.ireturn, 1) := by decide +kernel
theorem s87_30 {l0 l1 l2 l3 l4 l5 l6 l7 l8 l9 l10 l11 : Option Value} {x : Int32} {m : kMem} {Q : Option Value → kMem → Prop} : kJ 87 30 [l0, l1, l2, l3, l4, l5, l6, l7, l8, l9, l10, l11] [.int x] m Q = Q (some (.int x)) m := kJ_ret d87_30 rfl
theorem d87_31 : decode (mB 87) 31 = .ok (.aload_n 0, 1) := by decide +kernel
theorem s87_31 {l1 l2 l3 l4 l5 l6 l7 l8 l9 l10 l11 : Option Value} {st : List Value} {x : Nat} {m : kMem} {Q : Option Value → kMem → Prop} : kJ 87 31 [some (.ref x), l1, l2, l3, l4, l5, l6, l7, l8, l9, l10, l11] st m Q = kJ 87 32 [some (.ref x), l1, l2, l3, l4, l5, l6, l7, l8, l9, l10, l11] (.ref x :: st) m Q := kJ_next d87_31 rfl
theorem d87_32 : decode (mB 87) 32 = .ok (.getfield 43, 3) := by decide +kernel
theorem s87_32 {l0 l1 l2 l3 l4 l5 l6 l7 l8 l9 l10 l11 : Option Value} {st : List Value} {q : Nat} {mi : Nat → Nat → Int32} {ml : Nat → Nat → Int64} {mr : Nat → Nat → Option Nat} {nx : Nat} {Q : Option Value → kMem → Prop} (h : kIs nx q 4 = true) : kJ 87 32 [l0, l1, l2, l3, l4, l5, l6, l7, l8, l9, l10, l11] (.ref q :: st) (mi, ml, mr, nx) Q = kJ 87 35 [l0, l1, l2, l3, l4, l5, l6, l7, l8, l9, l10, l11] (va_rf (mr q 6) :: st) (mi, ml, mr, nx) Q := kJ_next d87_32 (kg_getr 4 6 rfl h (by decide))
theorem d87_35 : decode (mB 87) 35 = .ok (.iload_n 1, 1) := by decide +kernel
theorem s87_35 {l0 l2 l3 l4 l5 l6 l7 l8 l9 l10 l11 : Option Value} {st : List Value} {x : Int32} {m : kMem} {Q : Option Value → kMem → Prop} : kJ 87 35 [l0, some (.int x), l2, l3, l4, l5, l6, l7, l8, l9, l10, l11] st m Q = kJ 87 36 [l0, some (.int x), l2, l3, l4, l5, l6, l7, l8, l9, l10, l11] (.int x :: st) m Q := kJ_next d87_35 rfl
theorem d87_36 : decode (mB 87) 36 = .ok (.aaload, 1) := by decide +kernel
theorem s87_36 {l0 l1 l2 l3 l4 l5 l6 l7 l8 l9 l10 l11 : Option Value} {st : List Value} {q : Nat} {i : Int32} {mi : Nat → Nat → Int32} {ml : Nat → Nat → Int64} {mr : Nat → Nat → Option Nat} {nx : Nat} {Q : Option Value → kMem → Prop} (h : kIs nx q 12 = true ∨ kIs nx q 13 = true) : kJ 87 36 [l0, l1, l2, l3, l4, l5, l6, l7, l8, l9, l10, l11] (.int i :: .ref q :: st) (mi, ml, mr, nx) Q = (vp_in i (kAl q) ∧ kJ 87 37 [l0, l1, l2, l3, l4, l5, l6, l7, l8, l9, l10, l11] (va_rf (mr q i.toNatClampNeg) :: st) (mi, ml, mr, nx) Q) := kg_aalJ d87_36 rfl (kAr_or h)
theorem d87_37 : decode (mB 87) 37 = .ok (.astore 5, 2) := by decide +kernel
theorem s87_37 {l0 l1 l2 l3 l4 l5 l6 l7 l8 l9 l10 l11 : Option Value} {st : List Value} {x : Nat} {m : kMem} {Q : Option Value → kMem → Prop} (hp : kNL l4 = true) : kJ 87 37 [l0, l1, l2, l3, l4, l5, l6, l7, l8, l9, l10, l11] (.ref x :: st) m Q = kJ 87 39 [l0, l1, l2, l3, l4, some (.ref x), l6, l7, l8, l9, l10, l11] st m Q := kJ_next d87_37 (kg_sta (Nat.le_of_ble_eq_true rfl) hp)
theorem d87_39 : decode (mB 87) 39 = .ok (.aload_n 0, 1) := by decide +kernel
theorem s87_39 {l1 l2 l3 l4 l5 l6 l7 l8 l9 l10 l11 : Option Value} {st : List Value} {x : Nat} {m : kMem} {Q : Option Value → kMem → Prop} : kJ 87 39 [some (.ref x), l1, l2, l3, l4, l5, l6, l7, l8, l9, l10, l11] st m Q = kJ 87 40 [some (.ref x), l1, l2, l3, l4, l5, l6, l7, l8, l9, l10, l11] (.ref x :: st) m Q := kJ_next d87_39 rfl
theorem d87_40 : decode (mB 87) 40 = .ok (.getfield 10, 3) := by decide +kernel
theorem s87_40 {l0 l1 l2 l3 l4 l5 l6 l7 l8 l9 l10 l11 : Option Value} {st : List Value} {q : Nat} {mi : Nat → Nat → Int32} {ml : Nat → Nat → Int64} {mr : Nat → Nat → Option Nat} {nx : Nat} {Q : Option Value → kMem → Prop} (h : kIs nx q 4 = true) : kJ 87 40 [l0, l1, l2, l3, l4, l5, l6, l7, l8, l9, l10, l11] (.ref q :: st) (mi, ml, mr, nx) Q = kJ 87 43 [l0, l1, l2, l3, l4, l5, l6, l7, l8, l9, l10, l11] (va_rf (mr q 0) :: st) (mi, ml, mr, nx) Q := kJ_next d87_40 (kg_getr 4 0 rfl h (by decide))
theorem d87_43 : decode (mB 87) 43 = .ok (.getfield 91, 3) := by decide +kernel
theorem s87_43 {l0 l1 l2 l3 l4 l5 l6 l7 l8 l9 l10 l11 : Option Value} {st : List Value} {q : Nat} {mi : Nat → Nat → Int32} {ml : Nat → Nat → Int64} {mr : Nat → Nat → Option Nat} {nx : Nat} {Q : Option Value → kMem → Prop} (h : kIs nx q 1 = true) : kJ 87 43 [l0, l1, l2, l3, l4, l5, l6, l7, l8, l9, l10, l11] (.ref q :: st) (mi, ml, mr, nx) Q = kJ 87 46 [l0, l1, l2, l3, l4, l5, l6, l7, l8, l9, l10, l11] (.int (mi q 4) :: st) (mi, ml, mr, nx) Q := kJ_next d87_43 (kg_geti 1 4 rfl h (by decide))
theorem d87_46 : decode (mB 87) 46 = .ok (.istore 6, 2) := by decide +kernel
theorem s87_46 {l0 l1 l2 l3 l4 l5 l6 l7 l8 l9 l10 l11 : Option Value} {st : List Value} {x : Int32} {m : kMem} {Q : Option Value → kMem → Prop} (hp : kNL l5 = true) : kJ 87 46 [l0, l1, l2, l3, l4, l5, l6, l7, l8, l9, l10, l11] (.int x :: st) m Q = kJ 87 48 [l0, l1, l2, l3, l4, l5, some (.int x), l7, l8, l9, l10, l11] st m Q := kJ_next d87_46 (kg_sti (Nat.le_of_ble_eq_true rfl) hp)
theorem d87_48 : decode (mB 87) 48 = .ok (.iconst 0, 1) := by decide +kernel
theorem s87_48 {l0 l1 l2 l3 l4 l5 l6 l7 l8 l9 l10 l11 : Option Value} {st : List Value} {m : kMem} {Q : Option Value → kMem → Prop} : kJ 87 48 [l0, l1, l2, l3, l4, l5, l6, l7, l8, l9, l10, l11] st m Q = kJ 87 49 [l0, l1, l2, l3, l4, l5, l6, l7, l8, l9, l10, l11] (.int (nI 0) :: st) m Q := kJ_next d87_48 rfl
theorem d87_49 : decode (mB 87) 49 = .ok (.istore 7, 2) := by decide +kernel
theorem s87_49 {l0 l1 l2 l3 l4 l5 l6 l7 l8 l9 l10 l11 : Option Value} {st : List Value} {x : Int32} {m : kMem} {Q : Option Value → kMem → Prop} (hp : kNL l6 = true) : kJ 87 49 [l0, l1, l2, l3, l4, l5, l6, l7, l8, l9, l10, l11] (.int x :: st) m Q = kJ 87 51 [l0, l1, l2, l3, l4, l5, l6, some (.int x), l8, l9, l10, l11] st m Q := kJ_next d87_49 (kg_sti (Nat.le_of_ble_eq_true rfl) hp)
theorem d87_51 : decode (mB 87) 51 = .ok (.iconst 0, 1) := by decide +kernel
theorem s87_51 {l0 l1 l2 l3 l4 l5 l6 l7 l8 l9 l10 l11 : Option Value} {st : List Value} {m : kMem} {Q : Option Value → kMem → Prop} : kJ 87 51 [l0, l1, l2, l3, l4, l5, l6, l7, l8, l9, l10, l11] st m Q = kJ 87 52 [l0, l1, l2, l3, l4, l5, l6, l7, l8, l9, l10, l11] (.int (nI 0) :: st) m Q := kJ_next d87_51 rfl
theorem d87_52 : decode (mB 87) 52 = .ok (.istore 8, 2) := by decide +kernel
theorem s87_52 {l0 l1 l2 l3 l4 l5 l6 l7 l8 l9 l10 l11 : Option Value} {st : List Value} {x : Int32} {m : kMem} {Q : Option Value → kMem → Prop} (hp : kNL l7 = true) : kJ 87 52 [l0, l1, l2, l3, l4, l5, l6, l7, l8, l9, l10, l11] (.int x :: st) m Q = kJ 87 54 [l0, l1, l2, l3, l4, l5, l6, l7, some (.int x), l9, l10, l11] st m Q := kJ_next d87_52 (kg_sti (Nat.le_of_ble_eq_true rfl) hp)
theorem d87_54 : decode (mB 87) 54 = .ok (.iconst 0, 1) := by decide +kernel
theorem s87_54 {l0 l1 l2 l3 l4 l5 l6 l7 l8 l9 l10 l11 : Option Value} {st : List Value} {m : kMem} {Q : Option Value → kMem → Prop} : kJ 87 54 [l0, l1, l2, l3, l4, l5, l6, l7, l8, l9, l10, l11] st m Q = kJ 87 55 [l0, l1, l2, l3, l4, l5, l6, l7, l8, l9, l10, l11] (.int (nI 0) :: st) m Q := kJ_next d87_54 rfl
theorem d87_55 : decode (mB 87) 55 = .ok (.istore 9, 2) := by decide +kernel
theorem s87_55 {l0 l1 l2 l3 l4 l5 l6 l7 l8 l9 l10 l11 : Option Value} {st : List Value} {x : Int32} {m : kMem} {Q : Option Value → kMem → Prop} (hp : kNL l8 = true) : kJ 87 55 [l0, l1, l2, l3, l4, l5, l6, l7, l8, l9, l10, l11] (.int x :: st) m Q = kJ 87 57 [l0, l1, l2, l3, l4, l5, l6, l7, l8, some (.int x), l10, l11] st m Q := kJ_next d87_55 (kg_sti (Nat.le_of_ble_eq_true rfl) hp)
theorem d87_57 : decode (mB 87) 57 = .ok (.iload 9, 2) := by decide +kernel
theorem s87_57 {l0 l1 l2 l3 l4 l5 l6 l7 l8 l10 l11 : Option Value} {st : List Value} {x : Int32} {m : kMem} {Q : Option Value → kMem → Prop} : kJ 87 57 [l0, l1, l2, l3, l4, l5, l6, l7, l8, some (.int x), l10, l11] st m Q = kJ 87 59 [l0, l1, l2, l3, l4, l5, l6, l7, l8, some (.int x), l10, l11] (.int x :: st) m Q := kJ_next d87_57 rfl
theorem d87_59 : decode (mB 87) 59 = .ok (.iload 4, 2) := by decide +kernel
theorem s87_59 {l0 l1 l2 l3 l5 l6 l7 l8 l9 l10 l11 : Option Value} {st : List Value} {x : Int32} {m : kMem} {Q : Option Value → kMem → Prop} : kJ 87 59 [l0, l1, l2, l3, some (.int x), l5, l6, l7, l8, l9, l10, l11] st m Q = kJ 87 61 [l0, l1, l2, l3, some (.int x), l5, l6, l7, l8, l9, l10, l11] (.int x :: st) m Q := kJ_next d87_59 rfl
theorem d87_61 : decode (mB 87) 61 = .ok (.if_icmp .ge 104, 3) := by decide +kernel
theorem s87_61 {l0 l1 l2 l3 l4 l5 l6 l7 l8 l9 l10 l11 : Option Value} {st : List Value} {a b : Int32} {m : kMem} {Q : Option Value → kMem → Prop} : kJ 87 61 [l0, l1, l2, l3, l4, l5, l6, l7, l8, l9, l10, l11] (.int b :: .int a :: st) m Q = (if b ≤ a then kJ 87 165 [l0, l1, l2, l3, l4, l5, l6, l7, l8, l9, l10, l11] st m Q else kJ 87 64 [l0, l1, l2, l3, l4, l5, l6, l7, l8, l9, l10, l11] st m Q) := kJ_if d87_61 rfl (fun h => kJ_next d87_61 h) (fun h => kJ_next d87_61 h)
theorem d87_64 : decode (mB 87) 64 = .ok (.iload 8, 2) := by decide +kernel
theorem s87_64 {l0 l1 l2 l3 l4 l5 l6 l7 l9 l10 l11 : Option Value} {st : List Value} {x : Int32} {m : kMem} {Q : Option Value → kMem → Prop} : kJ 87 64 [l0, l1, l2, l3, l4, l5, l6, l7, some (.int x), l9, l10, l11] st m Q = kJ 87 66 [l0, l1, l2, l3, l4, l5, l6, l7, some (.int x), l9, l10, l11] (.int x :: st) m Q := kJ_next d87_64 rfl
theorem d87_66 : decode (mB 87) 66 = .ok (.ifCond .ne 99, 3) := by decide +kernel
theorem s87_66 {l0 l1 l2 l3 l4 l5 l6 l7 l8 l9 l10 l11 : Option Value} {st : List Value} {a : Int32} {m : kMem} {Q : Option Value → kMem → Prop} : kJ 87 66 [l0, l1, l2, l3, l4, l5, l6, l7, l8, l9, l10, l11] (.int a :: st) m Q = (if a = 0 then kJ 87 69 [l0, l1, l2, l3, l4, l5, l6, l7, l8, l9, l10, l11] st m Q else kJ 87 165 [l0, l1, l2, l3, l4, l5, l6, l7, l8, l9, l10, l11] st m Q) := kJ_if d87_66 rfl (fun h => kJ_next d87_66 h) (fun h => kJ_next d87_66 h)
theorem d87_69 : decode (mB 87) 69 = .ok (.iload_n 3, 1) := by decide +kernel
theorem s87_69 {l0 l1 l2 l4 l5 l6 l7 l8 l9 l10 l11 : Option Value} {st : List Value} {x : Int32} {m : kMem} {Q : Option Value → kMem → Prop} : kJ 87 69 [l0, l1, l2, some (.int x), l4, l5, l6, l7, l8, l9, l10, l11] st m Q = kJ 87 70 [l0, l1, l2, some (.int x), l4, l5, l6, l7, l8, l9, l10, l11] (.int x :: st) m Q := kJ_next d87_69 rfl
theorem d87_70 : decode (mB 87) 70 = .ok (.iconst 4, 1) := by decide +kernel
theorem s87_70 {l0 l1 l2 l3 l4 l5 l6 l7 l8 l9 l10 l11 : Option Value} {st : List Value} {m : kMem} {Q : Option Value → kMem → Prop} : kJ 87 70 [l0, l1, l2, l3, l4, l5, l6, l7, l8, l9, l10, l11] st m Q = kJ 87 71 [l0, l1, l2, l3, l4, l5, l6, l7, l8, l9, l10, l11] (.int (nI 4) :: st) m Q := kJ_next d87_70 rfl
theorem d87_71 : decode (mB 87) 71 = .ok (.iload 9, 2) := by decide +kernel
theorem s87_71 {l0 l1 l2 l3 l4 l5 l6 l7 l8 l10 l11 : Option Value} {st : List Value} {x : Int32} {m : kMem} {Q : Option Value → kMem → Prop} : kJ 87 71 [l0, l1, l2, l3, l4, l5, l6, l7, l8, some (.int x), l10, l11] st m Q = kJ 87 73 [l0, l1, l2, l3, l4, l5, l6, l7, l8, some (.int x), l10, l11] (.int x :: st) m Q := kJ_next d87_71 rfl
theorem d87_73 : decode (mB 87) 73 = .ok (.imul, 1) := by decide +kernel
theorem s87_73 {l0 l1 l2 l3 l4 l5 l6 l7 l8 l9 l10 l11 : Option Value} {st : List Value} {a b : Int32} {m : kMem} {Q : Option Value → kMem → Prop} : kJ 87 73 [l0, l1, l2, l3, l4, l5, l6, l7, l8, l9, l10, l11] (.int b :: .int a :: st) m Q = kJ 87 74 [l0, l1, l2, l3, l4, l5, l6, l7, l8, l9, l10, l11] (.int (a * b) :: st) m Q := kJ_next d87_73 rfl
theorem d87_74 : decode (mB 87) 74 = .ok (.iadd, 1) := by decide +kernel
theorem s87_74 {l0 l1 l2 l3 l4 l5 l6 l7 l8 l9 l10 l11 : Option Value} {st : List Value} {a b : Int32} {m : kMem} {Q : Option Value → kMem → Prop} : kJ 87 74 [l0, l1, l2, l3, l4, l5, l6, l7, l8, l9, l10, l11] (.int b :: .int a :: st) m Q = kJ 87 75 [l0, l1, l2, l3, l4, l5, l6, l7, l8, l9, l10, l11] (.int (a + b) :: st) m Q := kJ_next d87_74 rfl
theorem d87_75 : decode (mB 87) 75 = .ok (.istore 10, 2) := by decide +kernel
theorem s87_75 {l0 l1 l2 l3 l4 l5 l6 l7 l8 l9 l10 l11 : Option Value} {st : List Value} {x : Int32} {m : kMem} {Q : Option Value → kMem → Prop} (hp : kNL l9 = true) : kJ 87 75 [l0, l1, l2, l3, l4, l5, l6, l7, l8, l9, l10, l11] (.int x :: st) m Q = kJ 87 77 [l0, l1, l2, l3, l4, l5, l6, l7, l8, l9, some (.int x), l11] st m Q := kJ_next d87_75 (kg_sti (Nat.le_of_ble_eq_true rfl) hp)
theorem d87_77 : decode (mB 87) 77 = .ok (.aload 5, 2) := by decide +kernel
theorem s87_77 {l0 l1 l2 l3 l4 l6 l7 l8 l9 l10 l11 : Option Value} {st : List Value} {x : Nat} {m : kMem} {Q : Option Value → kMem → Prop} : kJ 87 77 [l0, l1, l2, l3, l4, some (.ref x), l6, l7, l8, l9, l10, l11] st m Q = kJ 87 79 [l0, l1, l2, l3, l4, some (.ref x), l6, l7, l8, l9, l10, l11] (.ref x :: st) m Q := kJ_next d87_77 rfl
theorem d87_79 : decode (mB 87) 79 = .ok (.iload_n 2, 1) := by decide +kernel
theorem s87_79 {l0 l1 l3 l4 l5 l6 l7 l8 l9 l10 l11 : Option Value} {st : List Value} {x : Int32} {m : kMem} {Q : Option Value → kMem → Prop} : kJ 87 79 [l0, l1, some (.int x), l3, l4, l5, l6, l7, l8, l9, l10, l11] st m Q = kJ 87 80 [l0, l1, some (.int x), l3, l4, l5, l6, l7, l8, l9, l10, l11] (.int x :: st) m Q := kJ_next d87_79 rfl
theorem d87_80 : decode (mB 87) 80 = .ok (.iload 10, 2) := by decide +kernel
theorem s87_80 {l0 l1 l2 l3 l4 l5 l6 l7 l8 l9 l11 : Option Value} {st : List Value} {x : Int32} {m : kMem} {Q : Option Value → kMem → Prop} : kJ 87 80 [l0, l1, l2, l3, l4, l5, l6, l7, l8, l9, some (.int x), l11] st m Q = kJ 87 82 [l0, l1, l2, l3, l4, l5, l6, l7, l8, l9, some (.int x), l11] (.int x :: st) m Q := kJ_next d87_80 rfl
theorem d87_82 : decode (mB 87) 82 = .ok (.invokevirtual 246, 3) := by decide +kernel
theorem s87_82 {l0 l1 l2 l3 l4 l5 l6 l7 l8 l9 l10 l11 : Option Value} {v0 : Int32} {v1 : Int32} {v2 : Nat} {m : kMem} {Q : Option Value → kMem → Prop} (h : kIs m.2.2.2 v2 2 = true) : kJ 87 82 [l0, l1, l2, l3, l4, l5, l6, l7, l8, l9, l10, l11] [.int v0, .int v1, .ref v2] m Q = kJ 33 0 [some (.ref v2), some (.int v1), some (.int v0)] [] m (fun v m2 => kJ 87 85 [l0, l1, l2, l3, l4, l5, l6, l7, l8, l9, l10, l11] (v.toList ++ []) m2 Q) := kJ_call d87_82 (kg_callv 33 2 rfl rfl rfl rfl (Nat.le_of_ble_eq_true rfl) (Nat.le_of_ble_eq_true rfl) (Nat.le_of_ble_eq_true rfl) h rfl)
theorem d87_85 : decode (mB 87) 85 = .ok (.istore 8, 2) := by decide +kernel
theorem s87_85 {l0 l1 l2 l3 l4 l5 l6 l7 l8 l9 l10 l11 : Option Value} {st : List Value} {x : Int32} {m : kMem} {Q : Option Value → kMem → Prop} (hp : kNL l7 = true) : kJ 87 85 [l0, l1, l2, l3, l4, l5, l6, l7, l8, l9, l10, l11] (.int x :: st) m Q = kJ 87 87 [l0, l1, l2, l3, l4, l5, l6, l7, some (.int x), l9, l10, l11] st m Q := kJ_next d87_85 (kg_sti (Nat.le_of_ble_eq_true rfl) hp)
theorem d87_87 : decode (mB 87) 87 = .ok (.iload 8, 2) := by decide +kernel
theorem s87_87 {l0 l1 l2 l3 l4 l5 l6 l7 l9 l10 l11 : Option Value} {st : List Value} {x : Int32} {m : kMem} {Q : Option Value → kMem → Prop} : kJ 87 87 [l0, l1, l2, l3, l4, l5, l6, l7, some (.int x), l9, l10, l11] st m Q = kJ 87 89 [l0, l1, l2, l3, l4, l5, l6, l7, some (.int x), l9, l10, l11] (.int x :: st) m Q := kJ_next d87_87 rfl
theorem d87_89 : decode (mB 87) 89 = .ok (.ifCond .ne 70, 3) := by decide +kernel
theorem s87_89 {l0 l1 l2 l3 l4 l5 l6 l7 l8 l9 l10 l11 : Option Value} {st : List Value} {a : Int32} {m : kMem} {Q : Option Value → kMem → Prop} : kJ 87 89 [l0, l1, l2, l3, l4, l5, l6, l7, l8, l9, l10, l11] (.int a :: st) m Q = (if a = 0 then kJ 87 92 [l0, l1, l2, l3, l4, l5, l6, l7, l8, l9, l10, l11] st m Q else kJ 87 159 [l0, l1, l2, l3, l4, l5, l6, l7, l8, l9, l10, l11] st m Q) := kJ_if d87_89 rfl (fun h => kJ_next d87_89 h) (fun h => kJ_next d87_89 h)
theorem d87_92 : decode (mB 87) 92 = .ok (.aload_n 0, 1) := by decide +kernel
theorem s87_92 {l1 l2 l3 l4 l5 l6 l7 l8 l9 l10 l11 : Option Value} {st : List Value} {x : Nat} {m : kMem} {Q : Option Value → kMem → Prop} : kJ 87 92 [some (.ref x), l1, l2, l3, l4, l5, l6, l7, l8, l9, l10, l11] st m Q = kJ 87 93 [some (.ref x), l1, l2, l3, l4, l5, l6, l7, l8, l9, l10, l11] (.ref x :: st) m Q := kJ_next d87_92 rfl
theorem d87_93 : decode (mB 87) 93 = .ok (.aload 5, 2) := by decide +kernel
theorem s87_93 {l0 l1 l2 l3 l4 l6 l7 l8 l9 l10 l11 : Option Value} {st : List Value} {x : Nat} {m : kMem} {Q : Option Value → kMem → Prop} : kJ 87 93 [l0, l1, l2, l3, l4, some (.ref x), l6, l7, l8, l9, l10, l11] st m Q = kJ 87 95 [l0, l1, l2, l3, l4, some (.ref x), l6, l7, l8, l9, l10, l11] (.ref x :: st) m Q := kJ_next d87_93 rfl
theorem d87_95 : decode (mB 87) 95 = .ok (.getfield 249, 3) := by decide +kernel
theorem s87_95 {l0 l1 l2 l3 l4 l5 l6 l7 l8 l9 l10 l11 : Option Value} {st : List Value} {q : Nat} {mi : Nat → Nat → Int32} {ml : Nat → Nat → Int64} {mr : Nat → Nat → Option Nat} {nx : Nat} {Q : Option Value → kMem → Prop} (h : kIs nx q 2 = true) : kJ 87 95 [l0, l1, l2, l3, l4, l5, l6, l7, l8, l9, l10, l11] (.ref q :: st) (mi, ml, mr, nx) Q = kJ 87 98 [l0, l1, l2, l3, l4, l5, l6, l7, l8, l9, l10, l11] (va_rf (mr q 1) :: st) (mi, ml, mr, nx) Q := kJ_next d87_95 (kg_getr 2 1 rfl h (by decide))
theorem d87_98 : decode (mB 87) 98 = .ok (.iload 10, 2) := by decide +kernel
theorem s87_98 {l0 l1 l2 l3 l4 l5 l6 l7 l8 l9 l11 : Option Value} {st : List Value} {x : Int32} {m : kMem} {Q : Option Value → kMem → Prop} : kJ 87 98 [l0, l1, l2, l3, l4, l5, l6, l7, l8, l9, some (.int x), l11] st m Q = kJ 87 100 [l0, l1, l2, l3, l4, l5, l6, l7, l8, l9, some (.int x), l11] (.int x :: st) m Q := kJ_next d87_98 rfl
theorem d87_100 : decode (mB 87) 100 = .ok (.iaload, 1) := by decide +kernel
theorem s87_100 {l0 l1 l2 l3 l4 l5 l6 l7 l8 l9 l10 l11 : Option Value} {st : List Value} {q : Nat} {i : Int32} {mi : Nat → Nat → Int32} {ml : Nat → Nat → Int64} {mr : Nat → Nat → Option Nat} {nx : Nat} {Q : Option Value → kMem → Prop} (h : kIs nx q 10 = true) : kJ 87 100 [l0, l1, l2, l3, l4, l5, l6, l7, l8, l9, l10, l11] (.int i :: .ref q :: st) (mi, ml, mr, nx) Q = (vp_in i (kAl q) ∧ kJ 87 101 [l0, l1, l2, l3, l4, l5, l6, l7, l8, l9, l10, l11] (.int (mi q i.toNatClampNeg) :: st) (mi, ml, mr, nx) Q) := kg_aldJ d87_100 rfl (kAr_of h)
theorem d87_101 : decode (mB 87) 101 = .ok (.aload 5, 2) := by decide +kernel
theorem s87_101 {l0 l1 l2 l3 l4 l6 l7 l8 l9 l10 l11 : Option Value} {st : List Value} {x : Nat} {m : kMem} {Q : Option Value → kMem → Prop} : kJ 87 101 [l0, l1, l2, l3, l4, some (.ref x), l6, l7, l8, l9, l10, l11] st m Q = kJ 87 103 [l0, l1, l2, l3, l4, some (.ref x), l6, l7, l8, l9, l10, l11] (.ref x :: st) m Q := kJ_next d87_101 rfl
theorem d87_103 : decode (mB 87) 103 = .ok (.getfield 249, 3) := by decide +kernel
theorem s87_103 {l0 l1 l2 l3 l4 l5 l6 l7 l8 l9 l10 l11 : Option Value} {st : List Value} {q : Nat} {mi : Nat → Nat → Int32} {ml : Nat → Nat → Int64} {mr : Nat → Nat → Option Nat} {nx : Nat} {Q : Option Value → kMem → Prop} (h : kIs nx q 2 = true) : kJ 87 103 [l0, l1, l2, l3, l4, l5, l6, l7, l8, l9, l10, l11] (.ref q :: st) (mi, ml, mr, nx) Q = kJ 87 106 [l0, l1, l2, l3, l4, l5, l6, l7, l8, l9, l10, l11] (va_rf (mr q 1) :: st) (mi, ml, mr, nx) Q := kJ_next d87_103 (kg_getr 2 1 rfl h (by decide))
theorem d87_106 : decode (mB 87) 106 = .ok (.iload 10, 2) := by decide +kernel
theorem s87_106 {l0 l1 l2 l3 l4 l5 l6 l7 l8 l9 l11 : Option Value} {st : List Value} {x : Int32} {m : kMem} {Q : Option Value → kMem → Prop} : kJ 87 106 [l0, l1, l2, l3, l4, l5, l6, l7, l8, l9, some (.int x), l11] st m Q = kJ 87 108 [l0, l1, l2, l3, l4, l5, l6, l7, l8, l9, some (.int x), l11] (.int x :: st) m Q := kJ_next d87_106 rfl
theorem d87_108 : decode (mB 87) 108 = .ok (.iconst 1, 1) := by decide +kernel
theorem s87_108 {l0 l1 l2 l3 l4 l5 l6 l7 l8 l9 l10 l11 : Option Value} {st : List Value} {m : kMem} {Q : Option Value → kMem → Prop} : kJ 87 108 [l0, l1, l2, l3, l4, l5, l6, l7, l8, l9, l10, l11] st m Q = kJ 87 109 [l0, l1, l2, l3, l4, l5, l6, l7, l8, l9, l10, l11] (.int (nI 1) :: st) m Q := kJ_next d87_108 rfl
theorem d87_109 : decode (mB 87) 109 = .ok (.iadd, 1) := by decide +kernel
theorem s87_109 {l0 l1 l2 l3 l4 l5 l6 l7 l8 l9 l10 l11 : Option Value} {st : List Value} {a b : Int32} {m : kMem} {Q : Option Value → kMem → Prop} : kJ 87 109 [l0, l1, l2, l3, l4, l5, l6, l7, l8, l9, l10, l11] (.int b :: .int a :: st) m Q = kJ 87 110 [l0, l1, l2, l3, l4, l5, l6, l7, l8, l9, l10, l11] (.int (a + b) :: st) m Q := kJ_next d87_109 rfl
theorem d87_110 : decode (mB 87) 110 = .ok (.iaload, 1) := by decide +kernel
theorem s87_110 {l0 l1 l2 l3 l4 l5 l6 l7 l8 l9 l10 l11 : Option Value} {st : List Value} {q : Nat} {i : Int32} {mi : Nat → Nat → Int32} {ml : Nat → Nat → Int64} {mr : Nat → Nat → Option Nat} {nx : Nat} {Q : Option Value → kMem → Prop} (h : kIs nx q 10 = true) : kJ 87 110 [l0, l1, l2, l3, l4, l5, l6, l7, l8, l9, l10, l11] (.int i :: .ref q :: st) (mi, ml, mr, nx) Q = (vp_in i (kAl q) ∧ kJ 87 111 [l0, l1, l2, l3, l4, l5, l6, l7, l8, l9, l10, l11] (.int (mi q i.toNatClampNeg) :: st) (mi, ml, mr, nx) Q) := kg_aldJ d87_110 rfl (kAr_of h)
theorem d87_111 : decode (mB 87) 111 = .ok (.aload 5, 2) := by decide +kernel
theorem s87_111 {l0 l1 l2 l3 l4 l6 l7 l8 l9 l10 l11 : Option Value} {st : List Value} {x : Nat} {m : kMem} {Q : Option Value → kMem → Prop} : kJ 87 111 [l0, l1, l2, l3, l4, some (.ref x), l6, l7, l8, l9, l10, l11] st m Q = kJ 87 113 [l0, l1, l2, l3, l4, some (.ref x), l6, l7, l8, l9, l10, l11] (.ref x :: st) m Q := kJ_next d87_111 rfl
theorem d87_113 : decode (mB 87) 113 = .ok (.getfield 249, 3) := by decide +kernel
theorem s87_113 {l0 l1 l2 l3 l4 l5 l6 l7 l8 l9 l10 l11 : Option Value} {st : List Value} {q : Nat} {mi : Nat → Nat → Int32} {ml : Nat → Nat → Int64} {mr : Nat → Nat → Option Nat} {nx : Nat} {Q : Option Value → kMem → Prop} (h : kIs nx q 2 = true) : kJ 87 113 [l0, l1, l2, l3, l4, l5, l6, l7, l8, l9, l10, l11] (.ref q :: st) (mi, ml, mr, nx) Q = kJ 87 116 [l0, l1, l2, l3, l4, l5, l6, l7, l8, l9, l10, l11] (va_rf (mr q 1) :: st) (mi, ml, mr, nx) Q := kJ_next d87_113 (kg_getr 2 1 rfl h (by decide))
theorem d87_116 : decode (mB 87) 116 = .ok (.iload 10, 2) := by decide +kernel
theorem s87_116 {l0 l1 l2 l3 l4 l5 l6 l7 l8 l9 l11 : Option Value} {st : List Value} {x : Int32} {m : kMem} {Q : Option Value → kMem → Prop} : kJ 87 116 [l0, l1, l2, l3, l4, l5, l6, l7, l8, l9, some (.int x), l11] st m Q = kJ 87 118 [l0, l1, l2, l3, l4, l5, l6, l7, l8, l9, some (.int x), l11] (.int x :: st) m Q := kJ_next d87_116 rfl
theorem d87_118 : decode (mB 87) 118 = .ok (.iconst 2, 1) := by decide +kernel
theorem s87_118 {l0 l1 l2 l3 l4 l5 l6 l7 l8 l9 l10 l11 : Option Value} {st : List Value} {m : kMem} {Q : Option Value → kMem → Prop} : kJ 87 118 [l0, l1, l2, l3, l4, l5, l6, l7, l8, l9, l10, l11] st m Q = kJ 87 119 [l0, l1, l2, l3, l4, l5, l6, l7, l8, l9, l10, l11] (.int (nI 2) :: st) m Q := kJ_next d87_118 rfl
theorem d87_119 : decode (mB 87) 119 = .ok (.iadd, 1) := by decide +kernel
theorem s87_119 {l0 l1 l2 l3 l4 l5 l6 l7 l8 l9 l10 l11 : Option Value} {st : List Value} {a b : Int32} {m : kMem} {Q : Option Value → kMem → Prop} : kJ 87 119 [l0, l1, l2, l3, l4, l5, l6, l7, l8, l9, l10, l11] (.int b :: .int a :: st) m Q = kJ 87 120 [l0, l1, l2, l3, l4, l5, l6, l7, l8, l9, l10, l11] (.int (a + b) :: st) m Q := kJ_next d87_119 rfl
theorem d87_120 : decode (mB 87) 120 = .ok (.iaload, 1) := by decide +kernel
theorem s87_120 {l0 l1 l2 l3 l4 l5 l6 l7 l8 l9 l10 l11 : Option Value} {st : List Value} {q : Nat} {i : Int32} {mi : Nat → Nat → Int32} {ml : Nat → Nat → Int64} {mr : Nat → Nat → Option Nat} {nx : Nat} {Q : Option Value → kMem → Prop} (h : kIs nx q 10 = true) : kJ 87 120 [l0, l1, l2, l3, l4, l5, l6, l7, l8, l9, l10, l11] (.int i :: .ref q :: st) (mi, ml, mr, nx) Q = (vp_in i (kAl q) ∧ kJ 87 121 [l0, l1, l2, l3, l4, l5, l6, l7, l8, l9, l10, l11] (.int (mi q i.toNatClampNeg) :: st) (mi, ml, mr, nx) Q) := kg_aldJ d87_120 rfl (kAr_of h)
theorem d87_121 : decode (mB 87) 121 = .ok (.aload 5, 2) := by decide +kernel
theorem s87_121 {l0 l1 l2 l3 l4 l6 l7 l8 l9 l10 l11 : Option Value} {st : List Value} {x : Nat} {m : kMem} {Q : Option Value → kMem → Prop} : kJ 87 121 [l0, l1, l2, l3, l4, some (.ref x), l6, l7, l8, l9, l10, l11] st m Q = kJ 87 123 [l0, l1, l2, l3, l4, some (.ref x), l6, l7, l8, l9, l10, l11] (.ref x :: st) m Q := kJ_next d87_121 rfl
theorem d87_123 : decode (mB 87) 123 = .ok (.getfield 249, 3) := by decide +kernel
theorem s87_123 {l0 l1 l2 l3 l4 l5 l6 l7 l8 l9 l10 l11 : Option Value} {st : List Value} {q : Nat} {mi : Nat → Nat → Int32} {ml : Nat → Nat → Int64} {mr : Nat → Nat → Option Nat} {nx : Nat} {Q : Option Value → kMem → Prop} (h : kIs nx q 2 = true) : kJ 87 123 [l0, l1, l2, l3, l4, l5, l6, l7, l8, l9, l10, l11] (.ref q :: st) (mi, ml, mr, nx) Q = kJ 87 126 [l0, l1, l2, l3, l4, l5, l6, l7, l8, l9, l10, l11] (va_rf (mr q 1) :: st) (mi, ml, mr, nx) Q := kJ_next d87_123 (kg_getr 2 1 rfl h (by decide))
theorem d87_126 : decode (mB 87) 126 = .ok (.iload 10, 2) := by decide +kernel
theorem s87_126 {l0 l1 l2 l3 l4 l5 l6 l7 l8 l9 l11 : Option Value} {st : List Value} {x : Int32} {m : kMem} {Q : Option Value → kMem → Prop} : kJ 87 126 [l0, l1, l2, l3, l4, l5, l6, l7, l8, l9, some (.int x), l11] st m Q = kJ 87 128 [l0, l1, l2, l3, l4, l5, l6, l7, l8, l9, some (.int x), l11] (.int x :: st) m Q := kJ_next d87_126 rfl
theorem d87_128 : decode (mB 87) 128 = .ok (.iconst 3, 1) := by decide +kernel
theorem s87_128 {l0 l1 l2 l3 l4 l5 l6 l7 l8 l9 l10 l11 : Option Value} {st : List Value} {m : kMem} {Q : Option Value → kMem → Prop} : kJ 87 128 [l0, l1, l2, l3, l4, l5, l6, l7, l8, l9, l10, l11] st m Q = kJ 87 129 [l0, l1, l2, l3, l4, l5, l6, l7, l8, l9, l10, l11] (.int (nI 3) :: st) m Q := kJ_next d87_128 rfl
theorem d87_129 : decode (mB 87) 129 = .ok (.iadd, 1) := by decide +kernel
theorem s87_129 {l0 l1 l2 l3 l4 l5 l6 l7 l8 l9 l10 l11 : Option Value} {st : List Value} {a b : Int32} {m : kMem} {Q : Option Value → kMem → Prop} : kJ 87 129 [l0, l1, l2, l3, l4, l5, l6, l7, l8, l9, l10, l11] (.int b :: .int a :: st) m Q = kJ 87 130 [l0, l1, l2, l3, l4, l5, l6, l7, l8, l9, l10, l11] (.int (a + b) :: st) m Q := kJ_next d87_129 rfl
theorem d87_130 : decode (mB 87) 130 = .ok (.iaload, 1) := by decide +kernel
theorem s87_130 {l0 l1 l2 l3 l4 l5 l6 l7 l8 l9 l10 l11 : Option Value} {st : List Value} {q : Nat} {i : Int32} {mi : Nat → Nat → Int32} {ml : Nat → Nat → Int64} {mr : Nat → Nat → Option Nat} {nx : Nat} {Q : Option Value → kMem → Prop} (h : kIs nx q 10 = true) : kJ 87 130 [l0, l1, l2, l3, l4, l5, l6, l7, l8, l9, l10, l11] (.int i :: .ref q :: st) (mi, ml, mr, nx) Q = (vp_in i (kAl q) ∧ kJ 87 131 [l0, l1, l2, l3, l4, l5, l6, l7, l8, l9, l10, l11] (.int (mi q i.toNatClampNeg) :: st) (mi, ml, mr, nx) Q) := kg_aldJ d87_130 rfl (kAr_of h)
theorem d87_131 : decode (mB 87) 131 = .ok (.invokevirtual 252, 3) := by decide +kernel
theorem s87_131 {l0 l1 l2 l3 l4 l5 l6 l7 l8 l9 l10 l11 : Option Value} {v0 : Int32} {v1 : Int32} {v2 : Int32} {v3 : Int32} {v4 : Nat} {m : kMem} {Q : Option Value → kMem → Prop} (h : kIs m.2.2.2 v4 4 = true) : kJ 87 131 [l0, l1, l2, l3, l4, l5, l6, l7, l8, l9, l10, l11] [.int v0, .int v1, .int v2, .int v3, .ref v4] m Q = kJ 63 0 [some (.ref v4), some (.int v3), some (.int v2), some (.int v1), some (.int v0)] [] m (fun v m2 => kJ 87 134 [l0, l1, l2, l3, l4, l5, l6, l7, l8, l9, l10, l11] (v.toList ++ []) m2 Q) := kJ_call d87_131 (kg_callv 63 4 rfl rfl rfl rfl (Nat.le_of_ble_eq_true rfl) (Nat.le_of_ble_eq_true rfl) (Nat.le_of_ble_eq_true rfl) h rfl)
theorem d87_134 : decode (mB 87) 134 = .ok (.istore 11, 2) := by decide +kernel
theorem s87_134 {l0 l1 l2 l3 l4 l5 l6 l7 l8 l9 l10 l11 : Option Value} {st : List Value} {x : Int32} {m : kMem} {Q : Option Value → kMem → Prop} (hp : kNL l10 = true) : kJ 87 134 [l0, l1, l2, l3, l4, l5, l6, l7, l8, l9, l10, l11] (.int x :: st) m Q = kJ 87 136 [l0, l1, l2, l3, l4, l5, l6, l7, l8, l9, l10, some (.int x)] st m Q := kJ_next d87_134 (kg_sti (Nat.le_of_ble_eq_true rfl) hp)
theorem d87_136 : decode (mB 87) 136 = .ok (.iload 11, 2) := by decide +kernel
theorem s87_136 {l0 l1 l2 l3 l4 l5 l6 l7 l8 l9 l10 : Option Value} {st : List Value} {x : Int32} {m : kMem} {Q : Option Value → kMem → Prop} : kJ 87 136 [l0, l1, l2, l3, l4, l5, l6, l7, l8, l9, l10, some (.int x)] st m Q = kJ 87 138 [l0, l1, l2, l3, l4, l5, l6, l7, l8, l9, l10, some (.int x)] (.int x :: st) m Q := kJ_next d87_136 rfl
theorem d87_138 : decode (mB 87) 138 = .ok (.ifCond .ge 18, 3) := by decide +kernel
theorem s87_138 {l0 l1 l2 l3 l4 l5 l6 l7 l8 l9 l10 l11 : Option Value} {st : List Value} {a : Int32} {m : kMem} {Q : Option Value → kMem → Prop} : kJ 87 138 [l0, l1, l2, l3, l4, l5, l6, l7, l8, l9, l10, l11] (.int a :: st) m Q = (if 0 ≤ a then kJ 87 156 [l0, l1, l2, l3, l4, l5, l6, l7, l8, l9, l10, l11] st m Q else kJ 87 141 [l0, l1, l2, l3, l4, l5, l6, l7, l8, l9, l10, l11] st m Q) := kJ_if d87_138 rfl (fun h => kJ_next d87_138 h) (fun h => kJ_next d87_138 h)
theorem d87_141 : decode (mB 87) 141 = .ok (.aload_n 0, 1) := by decide +kernel
theorem s87_141 {l1 l2 l3 l4 l5 l6 l7 l8 l9 l10 l11 : Option Value} {st : List Value} {x : Nat} {m : kMem} {Q : Option Value → kMem → Prop} : kJ 87 141 [some (.ref x), l1, l2, l3, l4, l5, l6, l7, l8, l9, l10, l11] st m Q = kJ 87 142 [some (.ref x), l1, l2, l3, l4, l5, l6, l7, l8, l9, l10, l11] (.ref x :: st) m Q := kJ_next d87_141 rfl
theorem d87_142 : decode (mB 87) 142 = .ok (.getfield 10, 3) := by decide +kernel
theorem s87_142 {l0 l1 l2 l3 l4 l5 l6 l7 l8 l9 l10 l11 : Option Value} {st : List Value} {q : Nat} {mi : Nat → Nat → Int32} {ml : Nat → Nat → Int64} {mr : Nat → Nat → Option Nat} {nx : Nat} {Q : Option Value → kMem → Prop} (h : kIs nx q 4 = true) : kJ 87 142 [l0, l1, l2, l3, l4, l5, l6, l7, l8, l9, l10, l11] (.ref q :: st) (mi, ml, mr, nx) Q = kJ 87 145 [l0, l1, l2, l3, l4, l5, l6, l7, l8, l9, l10, l11] (va_rf (mr q 0) :: st) (mi, ml, mr, nx) Q := kJ_next d87_142 (kg_getr 4 0 rfl h (by decide))
theorem d87_145 : decode (mB 87) 145 = .ok (.iload 6, 2) := by decide +kernel
theorem s87_145 {l0 l1 l2 l3 l4 l5 l7 l8 l9 l10 l11 : Option Value} {st : List Value} {x : Int32} {m : kMem} {Q : Option Value → kMem → Prop} : kJ 87 145 [l0, l1, l2, l3, l4, l5, some (.int x), l7, l8, l9, l10, l11] st m Q = kJ 87 147 [l0, l1, l2, l3, l4, l5, some (.int x), l7, l8, l9, l10, l11] (.int x :: st) m Q := kJ_next d87_145 rfl
theorem d87_147 : decode (mB 87) 147 = .ok (.putfield 91, 3) := by decide +kernel
theorem s87_147 {l0 l1 l2 l3 l4 l5 l6 l7 l8 l9 l10 l11 : Option Value} {st : List Value} {q : Nat} {x : Int32} {mi : Nat → Nat → Int32} {ml : Nat → Nat → Int64} {mr : Nat → Nat → Option Nat} {nx : Nat} {Q : Option Value → kMem → Prop} (h : kIs nx q 1 = true) : kJ 87 147 [l0, l1, l2, l3, l4, l5, l6, l7, l8, l9, l10, l11] (.int x :: .ref q :: st) (mi, ml, mr, nx) Q = kJ 87 150 [l0, l1, l2, l3, l4, l5, l6, l7, l8, l9, l10, l11] st (kup mi q 4 x, ml, mr, nx) Q := kJ_next d87_147 (kg_puti 1 4 rfl h (by decide) (Or.inl (by decide)))
theorem d87_150 : decode (mB 87) 150 = .ok (.bipush (-20), 2) := by decide +kernel
theorem s87_150 {l0 l1 l2 l3 l4 l5 l6 l7 l8 l9 l10 l11 : Option Value} {st : List Value} {m : kMem} {Q : Option Value → kMem → Prop} : kJ 87 150 [l0, l1, l2, l3, l4, l5, l6, l7, l8, l9, l10, l11] st m Q = kJ 87 152 [l0, l1, l2, l3, l4, l5, l6, l7, l8, l9, l10, l11] (.int (-20) :: st) m Q := kJ_next d87_150 rfl
theorem d87_152 : decode (mB 87) 152 = .ok (.iload 9, 2) := by decide +kernel
theorem s87_152 {l0 l1 l2 l3 l4 l5 l6 l7 l8 l10 l11 : Option Value} {st : List Value} {x : Int32} {m : kMem} {Q : Option Value → kMem → Prop} : kJ 87 152 [l0, l1, l2, l3, l4, l5, l6, l7, l8, some (.int x), l10, l11] st m Q = kJ 87 154 [l0, l1, l2, l3, l4, l5, l6, l7, l8, some (.int x), l10, l11] (.int x :: st) m Q := kJ_next d87_152 rfl
theorem d87_154 : decode (mB 87) 154 = .ok (.isub, 1) := by decide +kernel
theorem s87_154 {l0 l1 l2 l3 l4 l5 l6 l7 l8 l9 l10 l11 : Option Value} {st : List Value} {a b : Int32} {m : kMem} {Q : Option Value → kMem → Prop} : kJ 87 154 [l0, l1, l2, l3, l4, l5, l6, l7, l8, l9, l10, l11] (.int b :: .int a :: st) m Q = kJ 87 155 [l0, l1, l2, l3, l4, l5, l6, l7, l8, l9, l10, l11] (.int (a - b) :: st) m Q := kJ_next d87_154 rfl
theorem d87_155 : decode (mB 87) 155 = .ok (.ireturn, 1) := by decide +kernel
theorem s87_155 {l0 l1 l2 l3 l4 l5 l6 l7 l8 l9 l10 l11 : Option Value} {x : Int32} {m : kMem} {Q : Option Value → kMem → Prop} : kJ 87 155 [l0, l1, l2, l3, l4, l5, l6, l7, l8, l9, l10, l11] [.int x] m Q = Q (some (.int x)) m := kJ_ret d87_155 rfl
theorem d87_156 : decode (mB 87) 156 = .ok (.iinc 7 1, 3) := by decide +kernel
theorem s87_156 {l0 l1 l2 l3 l4 l5 l6 l8 l9 l10 l11 : Option Value} {st : List Value} {x : Int32} {m : kMem} {Q : Option Value → kMem → Prop} (hp : kNL l6 = true) : kJ 87 156 [l0, l1, l2, l3, l4, l5, l6, some (.int x), l8, l9, l10, l11] st m Q = kJ 87 159 [l0, l1, l2, l3, l4, l5, l6, some (.int (x + (nI 1))), l8, l9, l10, l11] st m Q := kJ_next d87_156 (kg_inc rfl (Nat.le_of_ble_eq_true rfl) hp)
theorem d87_159 : decode (mB 87) 159 = .ok (.iinc 9 1, 3) := by decide +kernel
theorem s87_159 {l0 l1 l2 l3 l4 l5 l6 l7 l8 l10 l11 : Option Value} {st : List Value} {x : Int32} {m : kMem} {Q : Option Value → kMem → Prop} (hp : kNL l8 = true) : kJ 87 159 [l0, l1, l2, l3, l4, l5, l6, l7, l8, some (.int x), l10, l11] st m Q = kJ 87 162 [l0, l1, l2, l3, l4, l5, l6, l7, l8, some (.int (x + (nI 1))), l10, l11] st m Q := kJ_next d87_159 (kg_inc rfl (Nat.le_of_ble_eq_true rfl) hp)
theorem d87_162 : decode (mB 87) 162 = .ok (.goto (-105), 3) := by decide +kernel
theorem s87_162 {l0 l1 l2 l3 l4 l5 l6 l7 l8 l9 l10 l11 : Option Value} {st : List Value} {m : kMem} {Q : Option Value → kMem → Prop} : kJ 87 162 [l0, l1, l2, l3, l4, l5, l6, l7, l8, l9, l10, l11] st m Q = kJ 87 57 [l0, l1, l2, l3, l4, l5, l6, l7, l8, l9, l10, l11] st m Q := kJ_next d87_162 rfl
theorem d87_165 : decode (mB 87) 165 = .ok (.aload_n 0, 1) := by decide +kernel
theorem s87_165 {l1 l2 l3 l4 l5 l6 l7 l8 l9 l10 l11 : Option Value} {st : List Value} {x : Nat} {m : kMem} {Q : Option Value → kMem → Prop} : kJ 87 165 [some (.ref x), l1, l2, l3, l4, l5, l6, l7, l8, l9, l10, l11] st m Q = kJ 87 166 [some (.ref x), l1, l2, l3, l4, l5, l6, l7, l8, l9, l10, l11] (.ref x :: st) m Q := kJ_next d87_165 rfl
theorem d87_166 : decode (mB 87) 166 = .ok (.iload 8, 2) := by decide +kernel
theorem s87_166 {l0 l1 l2 l3 l4 l5 l6 l7 l9 l10 l11 : Option Value} {st : List Value} {x : Int32} {m : kMem} {Q : Option Value → kMem → Prop} : kJ 87 166 [l0, l1, l2, l3, l4, l5, l6, l7, some (.int x), l9, l10, l11] st m Q = kJ 87 168 [l0, l1, l2, l3, l4, l5, l6, l7, some (.int x), l9, l10, l11] (.int x :: st) m Q := kJ_next d87_166 rfl
theorem d87_168 : decode (mB 87) 168 = .ok (.putfield 256, 3) := by decide +kernel
theorem s87_168 {l0 l1 l2 l3 l4 l5 l6 l7 l8 l9 l10 l11 : Option Value} {st : List Value} {q : Nat} {x : Int32} {mi : Nat → Nat → Int32} {ml : Nat → Nat → Int64} {mr : Nat → Nat → Option Nat} {nx : Nat} {Q : Option Value → kMem → Prop} (h : kIs nx q 4 = true) : kJ 87 168 [l0, l1, l2, l3, l4, l5, l6, l7, l8, l9, l10, l11] (.int x :: .ref q :: st) (mi, ml, mr, nx) Q = kJ 87 171 [l0, l1, l2, l3, l4, l5, l6, l7, l8, l9, l10, l11] st (kup mi q 10 x, ml, mr, nx) Q := kJ_next d87_168 (kg_puti 4 10 rfl h (by decide) (Or.inl (by decide)))
theorem d87_171 : decode (mB 87) 171 = .ok (.iload 7, 2) := by decide +kernel
theorem s87_171 {l0 l1 l2 l3 l4 l5 l6 l8 l9 l10 l11 : Option Value} {st : List Value} {x : Int32} {m : kMem} {Q : Option Value → kMem → Prop} : kJ 87 171 [l0, l1, l2, l3, l4, l5, l6, some (.int x), l8, l9, l10, l11] st m Q = kJ 87 173 [l0, l1, l2, l3, l4, l5, l6, some (.int x), l8, l9, l10, l11] (.int x :: st) m Q := kJ_next d87_171 rfl
theorem d87_173 : decode (mB 87) 173 = .ok (.ireturn, 1) := by decide +kernel
theorem s87_173 {l0 l1 l2 l3 l4 l5 l6 l7 l8 l9 l10 l11 : Option Value} {x : Int32} {m : kMem} {Q : Option Value → kMem → Prop} : kJ 87 173 [l0, l1, l2, l3, l4, l5, l6, l7, l8, l9, l10, l11] [.int x] m Q = Q (some (.int x)) m := kJ_ret d87_173 rfl
theorem d88_0 : decode (mB 88) 0 = .ok (.aload_n 0, 1) := by decide +kernel
theorem s88_0 {st : List Value} {x : Nat} {m : kMem} {Q : Option Value → kMem → Prop} : kJ 88 0 [some (.ref x)] st m Q = kJ 88 1 [some (.ref x)] (.ref x :: st) m Q := kJ_next d88_0 rfl
theorem d88_1 : decode (mB 88) 1 = .ok (.getfield 256, 3) := by decide +kernel
theorem s88_1 {l0 : Option Value} {st : List Value} {q : Nat} {mi : Nat → Nat → Int32} {ml : Nat → Nat → Int64} {mr : Nat → Nat → Option Nat} {nx : Nat} {Q : Option Value → kMem → Prop} (h : kIs nx q 4 = true) : kJ 88 1 [l0] (.ref q :: st) (mi, ml, mr, nx) Q = kJ 88 4 [l0] (.int (mi q 10) :: st) (mi, ml, mr, nx) Q := kJ_next d88_1 (kg_geti 4 10 rfl h (by decide))
theorem d88_4 : decode (mB 88) 4 = .ok (.ireturn, 1) := by decide +kernel
theorem s88_4 {l0 : Option Value} {x : Int32} {m : kMem} {Q : Option Value → kMem → Prop} : kJ 88 4 [l0] [.int x] m Q = Q (some (.int x)) m := kJ_ret d88_4 rfl
theorem d89_0 : decode (mB 89) 0 = .ok (.iload_n 1, 1) := by decide +kernel
theorem s89_0 {l0 : Option Value} {st : List Value} {x : Int32} {m : kMem} {Q : Option Value → kMem → Prop} : kJ 89 0 [l0, some (.int x)] st m Q = kJ 89 1 [l0, some (.int x)] (.int x :: st) m Q := kJ_next d89_0 rfl
theorem d89_1 : decode (mB 89) 1 = .ok (.tableswitch 148 0 5 #[39, 47, 77, 85, 112, 130], 39) := by decide +kernel
theorem s89_1 {l0 l1 : Option Value} {st : List Value} {a : Int32} {m : kMem} {Q : Option Value → kMem → Prop} : kJ 89 1 [l0, l1] (.int a :: st) m Q = (if a = (nI 0) then kJ 89 40 [l0, l1] st m Q else if a = (nI 1) then kJ 89 48 [l0, l1] st m Q else if a = (nI 2) then kJ 89 78 [l0, l1] st m Q else if a = (nI 3) then kJ 89 86 [l0, l1] st m Q else if a = (nI 4) then kJ 89 113 [l0, l1] st m Q else if a = (nI 5) then kJ 89 131 [l0, l1] st m Q else kJ 89 149 [l0, l1] st m Q) := by
  by_cases h0 : a = nI 0
  · subst h0; exact kJ_next d89_1 rfl
  rw [if_neg h0]
  by_cases h1 : a = nI 1
  · subst h1; exact kJ_next d89_1 rfl
  rw [if_neg h1]
  by_cases h2 : a = nI 2
  · subst h2; exact kJ_next d89_1 rfl
  rw [if_neg h2]
  by_cases h3 : a = nI 3
  · subst h3; exact kJ_next d89_1 rfl
  rw [if_neg h3]
  by_cases h4 : a = nI 4
  · subst h4; exact kJ_next d89_1 rfl
  rw [if_neg h4]
  by_cases h5 : a = nI 5
  · subst h5; exact kJ_next d89_1 rfl
  rw [if_neg h5]
  have hz : ∀ j, j < 0 → a ≠ nI j := fun j hj => absurd hj (Nat.not_lt_zero j)
  refine kJ_next d89_1 (if_pos (c := a.toInt < 0 ∨ (5 : Int) < a.toInt) ?_)
  have hr := kg_rng (a := a) (n := 5) (by decide) (fun j hj => by
    rcases Nat.lt_or_ge j 0 with hl | hl
    · exact hz j hl
    · have hj2 : j = 0 ∨ j = 1 ∨ j = 2 ∨ j = 3 ∨ j = 4 ∨ j = 5 := by omega
      rcases hj2 with rfl | rfl | rfl | rfl | rfl | rfl
      · exact h0
      · exact h1
      · exact h2
      · exact h3
      · exact h4
      · exact h5
    )
  omega
theorem d89_40 : decode (mB 89) 40 = .ok (.aload_n 0, 1) := by decide +kernel
theorem s89_40 {l1 : Option Value} {st : List Value} {x : Nat} {m : kMem} {Q : Option Value → kMem → Prop} : kJ 89 40 [some (.ref x), l1] st m Q = kJ 89 41 [some (.ref x), l1] (.ref x :: st) m Q := kJ_next d89_40 rfl
theorem d89_41 : decode (mB 89) 41 = .ok (.getfield 10, 3) := by decide +kernel
theorem s89_41 {l0 l1 : Option Value} {st : List Value} {q : Nat} {mi : Nat → Nat → Int32} {ml : Nat → Nat → Int64} {mr : Nat → Nat → Option Nat} {nx : Nat} {Q : Option Value → kMem → Prop} (h : kIs nx q 4 = true) : kJ 89 41 [l0, l1] (.ref q :: st) (mi, ml, mr, nx) Q = kJ 89 44 [l0, l1] (va_rf (mr q 0) :: st) (mi, ml, mr, nx) Q := kJ_next d89_41 (kg_getr 4 0 rfl h (by decide))
theorem d89_44 : decode (mB 89) 44 = .ok (.getfield 208, 3) := by decide +kernel
theorem s89_44 {l0 l1 : Option Value} {st : List Value} {q : Nat} {mi : Nat → Nat → Int32} {ml : Nat → Nat → Int64} {mr : Nat → Nat → Option Nat} {nx : Nat} {Q : Option Value → kMem → Prop} (h : kIs nx q 1 = true) : kJ 89 44 [l0, l1] (.ref q :: st) (mi, ml, mr, nx) Q = kJ 89 47 [l0, l1] (.int (mi q 13) :: st) (mi, ml, mr, nx) Q := kJ_next d89_44 (kg_geti 1 13 rfl h (by decide))
theorem d89_47 : decode (mB 89) 47 = .ok (.ireturn, 1) := by decide +kernel
theorem s89_47 {l0 l1 : Option Value} {x : Int32} {m : kMem} {Q : Option Value → kMem → Prop} : kJ 89 47 [l0, l1] [.int x] m Q = Q (some (.int x)) m := kJ_ret d89_47 rfl
theorem d89_48 : decode (mB 89) 48 = .ok (.aload_n 0, 1) := by decide +kernel
theorem s89_48 {l1 : Option Value} {st : List Value} {x : Nat} {m : kMem} {Q : Option Value → kMem → Prop} : kJ 89 48 [some (.ref x), l1] st m Q = kJ 89 49 [some (.ref x), l1] (.ref x :: st) m Q := kJ_next d89_48 rfl
theorem d89_49 : decode (mB 89) 49 = .ok (.getfield 37, 3) := by decide +kernel
theorem s89_49 {l0 l1 : Option Value} {st : List Value} {q : Nat} {mi : Nat → Nat → Int32} {ml : Nat → Nat → Int64} {mr : Nat → Nat → Option Nat} {nx : Nat} {Q : Option Value → kMem → Prop} (h : kIs nx q 4 = true) : kJ 89 49 [l0, l1] (.ref q :: st) (mi, ml, mr, nx) Q = kJ 89 52 [l0, l1] (va_rf (mr q 5) :: st) (mi, ml, mr, nx) Q := kJ_next d89_49 (kg_getr 4 5 rfl h (by decide))
theorem d89_52 : decode (mB 89) 52 = .ok (.iconst 0, 1) := by decide +kernel
theorem s89_52 {l0 l1 : Option Value} {st : List Value} {m : kMem} {Q : Option Value → kMem → Prop} : kJ 89 52 [l0, l1] st m Q = kJ 89 53 [l0, l1] (.int (nI 0) :: st) m Q := kJ_next d89_52 rfl
theorem d89_53 : decode (mB 89) 53 = .ok (.baload, 1) := by decide +kernel
theorem s89_53 {l0 l1 : Option Value} {st : List Value} {q : Nat} {i : Int32} {mi : Nat → Nat → Int32} {ml : Nat → Nat → Int64} {mr : Nat → Nat → Option Nat} {nx : Nat} {Q : Option Value → kMem → Prop} (h : kIs nx q 11 = true) : kJ 89 53 [l0, l1] (.int i :: .ref q :: st) (mi, ml, mr, nx) Q = (vp_in i (kAl q) ∧ kJ 89 54 [l0, l1] (.int (mi q i.toNatClampNeg) :: st) (mi, ml, mr, nx) Q) := kg_aldJ d89_53 rfl (kAr_of h)
theorem d89_54 : decode (mB 89) 54 = .ok (.ifCond .eq 7, 3) := by decide +kernel
theorem s89_54 {l0 l1 : Option Value} {st : List Value} {a : Int32} {m : kMem} {Q : Option Value → kMem → Prop} : kJ 89 54 [l0, l1] (.int a :: st) m Q = (if a = 0 then kJ 89 61 [l0, l1] st m Q else kJ 89 57 [l0, l1] st m Q) := kJ_if d89_54 rfl (fun h => kJ_next d89_54 h) (fun h => kJ_next d89_54 h)
theorem d89_57 : decode (mB 89) 57 = .ok (.iconst 1, 1) := by decide +kernel
theorem s89_57 {l0 l1 : Option Value} {st : List Value} {m : kMem} {Q : Option Value → kMem → Prop} : kJ 89 57 [l0, l1] st m Q = kJ 89 58 [l0, l1] (.int (nI 1) :: st) m Q := kJ_next d89_57 rfl
theorem d89_58 : decode (mB 89) 58 = .ok (.goto 4, 3) := by decide +kernel
theorem s89_58 {l0 l1 : Option Value} {st : List Value} {m : kMem} {Q : Option Value → kMem → Prop} : kJ 89 58 [l0, l1] st m Q = kJ 89 62 [l0, l1] st m Q := kJ_next d89_58 rfl
theorem d89_61 : decode (mB 89) 61 = .ok (.iconst 0, 1) := by decide +kernel
theorem s89_61 {l0 l1 : Option Value} {st : List Value} {m : kMem} {Q : Option Value → kMem → Prop} : kJ 89 61 [l0, l1] st m Q = kJ 89 62 [l0, l1] (.int (nI 0) :: st) m Q := kJ_next d89_61 rfl
theorem d89_62 : decode (mB 89) 62 = .ok (.aload_n 0, 1) := by decide +kernel
theorem s89_62 {l1 : Option Value} {st : List Value} {x : Nat} {m : kMem} {Q : Option Value → kMem → Prop} : kJ 89 62 [some (.ref x), l1] st m Q = kJ 89 63 [some (.ref x), l1] (.ref x :: st) m Q := kJ_next d89_62 rfl
theorem d89_63 : decode (mB 89) 63 = .ok (.getfield 37, 3) := by decide +kernel
theorem s89_63 {l0 l1 : Option Value} {st : List Value} {q : Nat} {mi : Nat → Nat → Int32} {ml : Nat → Nat → Int64} {mr : Nat → Nat → Option Nat} {nx : Nat} {Q : Option Value → kMem → Prop} (h : kIs nx q 4 = true) : kJ 89 63 [l0, l1] (.ref q :: st) (mi, ml, mr, nx) Q = kJ 89 66 [l0, l1] (va_rf (mr q 5) :: st) (mi, ml, mr, nx) Q := kJ_next d89_63 (kg_getr 4 5 rfl h (by decide))
theorem d89_66 : decode (mB 89) 66 = .ok (.iconst 1, 1) := by decide +kernel
theorem s89_66 {l0 l1 : Option Value} {st : List Value} {m : kMem} {Q : Option Value → kMem → Prop} : kJ 89 66 [l0, l1] st m Q = kJ 89 67 [l0, l1] (.int (nI 1) :: st) m Q := kJ_next d89_66 rfl
theorem d89_67 : decode (mB 89) 67 = .ok (.baload, 1) := by decide +kernel
theorem s89_67 {l0 l1 : Option Value} {st : List Value} {q : Nat} {i : Int32} {mi : Nat → Nat → Int32} {ml : Nat → Nat → Int64} {mr : Nat → Nat → Option Nat} {nx : Nat} {Q : Option Value → kMem → Prop} (h : kIs nx q 11 = true) : kJ 89 67 [l0, l1] (.int i :: .ref q :: st) (mi, ml, mr, nx) Q = (vp_in i (kAl q) ∧ kJ 89 68 [l0, l1] (.int (mi q i.toNatClampNeg) :: st) (mi, ml, mr, nx) Q) := kg_aldJ d89_67 rfl (kAr_of h)
theorem d89_68 : decode (mB 89) 68 = .ok (.ifCond .eq 7, 3) := by decide +kernel
theorem s89_68 {l0 l1 : Option Value} {st : List Value} {a : Int32} {m : kMem} {Q : Option Value → kMem → Prop} : kJ 89 68 [l0, l1] (.int a :: st) m Q = (if a = 0 then kJ 89 75 [l0, l1] st m Q else kJ 89 71 [l0, l1] st m Q) := kJ_if d89_68 rfl (fun h => kJ_next d89_68 h) (fun h => kJ_next d89_68 h)
theorem d89_71 : decode (mB 89) 71 = .ok (.iconst 1, 1) := by decide +kernel
theorem s89_71 {l0 l1 : Option Value} {st : List Value} {m : kMem} {Q : Option Value → kMem → Prop} : kJ 89 71 [l0, l1] st m Q = kJ 89 72 [l0, l1] (.int (nI 1) :: st) m Q := kJ_next d89_71 rfl
theorem d89_72 : decode (mB 89) 72 = .ok (.goto 4, 3) := by decide +kernel
theorem s89_72 {l0 l1 : Option Value} {st : List Value} {m : kMem} {Q : Option Value → kMem → Prop} : kJ 89 72 [l0, l1] st m Q = kJ 89 76 [l0, l1] st m Q := kJ_next d89_72 rfl
theorem d89_75 : decode (mB 89) 75 = .ok (.iconst 0, 1) := by decide +kernel
theorem s89_75 {l0 l1 : Option Value} {st : List Value} {m : kMem} {Q : Option Value → kMem → Prop} : kJ 89 75 [l0, l1] st m Q = kJ 89 76 [l0, l1] (.int (nI 0) :: st) m Q := kJ_next d89_75 rfl
theorem d89_76 : decode (mB 89) 76 = .ok (.iadd, 1) := by decide +kernel
theorem s89_76 {l0 l1 : Option Value} {st : List Value} {a b : Int32} {m : kMem} {Q : Option Value → kMem → Prop} : kJ 89 76 [l0, l1] (.int b :: .int a :: st) m Q = kJ 89 77 [l0, l1] (.int (a + b) :: st) m Q := kJ_next d89_76 rfl
theorem d89_77 : decode (mB 89) 77 = .ok (.ireturn, 1) := by decide +kernel
theorem s89_77 {l0 l1 : Option Value} {x : Int32} {m : kMem} {Q : Option Value → kMem → Prop} : kJ 89 77 [l0, l1] [.int x] m Q = Q (some (.int x)) m := kJ_ret d89_77 rfl
theorem d89_78 : decode (mB 89) 78 = .ok (.aload_n 0, 1) := by decide +kernel
theorem s89_78 {l1 : Option Value} {st : List Value} {x : Nat} {m : kMem} {Q : Option Value → kMem → Prop} : kJ 89 78 [some (.ref x), l1] st m Q = kJ 89 79 [some (.ref x), l1] (.ref x :: st) m Q := kJ_next d89_78 rfl
theorem d89_79 : decode (mB 89) 79 = .ok (.getfield 29, 3) := by decide +kernel
theorem s89_79 {l0 l1 : Option Value} {st : List Value} {q : Nat} {mi : Nat → Nat → Int32} {ml : Nat → Nat → Int64} {mr : Nat → Nat → Option Nat} {nx : Nat} {Q : Option Value → kMem → Prop} (h : kIs nx q 4 = true) : kJ 89 79 [l0, l1] (.ref q :: st) (mi, ml, mr, nx) Q = kJ 89 82 [l0, l1] (va_rf (mr q 3) :: st) (mi, ml, mr, nx) Q := kJ_next d89_79 (kg_getr 4 3 rfl h (by decide))
theorem d89_82 : decode (mB 89) 82 = .ok (.getfield 59, 3) := by decide +kernel
theorem s89_82 {l0 l1 : Option Value} {st : List Value} {q : Nat} {mi : Nat → Nat → Int32} {ml : Nat → Nat → Int64} {mr : Nat → Nat → Option Nat} {nx : Nat} {Q : Option Value → kMem → Prop} (h : kIs nx q 3 = true) : kJ 89 82 [l0, l1] (.ref q :: st) (mi, ml, mr, nx) Q = kJ 89 85 [l0, l1] (.int (mi q 1) :: st) (mi, ml, mr, nx) Q := kJ_next d89_82 (kg_geti 3 1 rfl h (by decide))
theorem d89_85 : decode (mB 89) 85 = .ok (.ireturn, 1) := by decide +kernel
theorem s89_85 {l0 l1 : Option Value} {x : Int32} {m : kMem} {Q : Option Value → kMem → Prop} : kJ 89 85 [l0, l1] [.int x] m Q = Q (some (.int x)) m := kJ_ret d89_85 rfl
theorem d89_86 : decode (mB 89) 86 = .ok (.aload_n 0, 1) := by decide +kernel
theorem s89_86 {l1 : Option Value} {st : List Value} {x : Nat} {m : kMem} {Q : Option Value → kMem → Prop} : kJ 89 86 [some (.ref x), l1] st m Q = kJ 89 87 [some (.ref x), l1] (.ref x :: st) m Q := kJ_next d89_86 rfl
theorem d89_87 : decode (mB 89) 87 = .ok (.getfield 43, 3) := by decide +kernel
theorem s89_87 {l0 l1 : Option Value} {st : List Value} {q : Nat} {mi : Nat → Nat → Int32} {ml : Nat → Nat → Int64} {mr : Nat → Nat → Option Nat} {nx : Nat} {Q : Option Value → kMem → Prop} (h : kIs nx q 4 = true) : kJ 89 87 [l0, l1] (.ref q :: st) (mi, ml, mr, nx) Q = kJ 89 90 [l0, l1] (va_rf (mr q 6) :: st) (mi, ml, mr, nx) Q := kJ_next d89_87 (kg_getr 4 6 rfl h (by decide))
theorem d89_90 : decode (mB 89) 90 = .ok (.iconst 0, 1) := by decide +kernel
theorem s89_90 {l0 l1 : Option Value} {st : List Value} {m : kMem} {Q : Option Value → kMem → Prop} : kJ 89 90 [l0, l1] st m Q = kJ 89 91 [l0, l1] (.int (nI 0) :: st) m Q := kJ_next d89_90 rfl
theorem d89_91 : decode (mB 89) 91 = .ok (.aaload, 1) := by decide +kernel
theorem s89_91 {l0 l1 : Option Value} {st : List Value} {q : Nat} {i : Int32} {mi : Nat → Nat → Int32} {ml : Nat → Nat → Int64} {mr : Nat → Nat → Option Nat} {nx : Nat} {Q : Option Value → kMem → Prop} (h : kIs nx q 12 = true ∨ kIs nx q 13 = true) : kJ 89 91 [l0, l1] (.int i :: .ref q :: st) (mi, ml, mr, nx) Q = (vp_in i (kAl q) ∧ kJ 89 92 [l0, l1] (va_rf (mr q i.toNatClampNeg) :: st) (mi, ml, mr, nx) Q) := kg_aalJ d89_91 rfl (kAr_or h)
theorem d89_92 : decode (mB 89) 92 = .ok (.invokevirtual 259, 3) := by decide +kernel
theorem s89_92 {l0 l1 : Option Value} {v0 : Nat} {m : kMem} {Q : Option Value → kMem → Prop} (h : kIs m.2.2.2 v0 2 = true) : kJ 89 92 [l0, l1] [.ref v0] m Q = kJ 30 0 [some (.ref v0)] [] m (fun v m2 => kJ 89 95 [l0, l1] (v.toList ++ []) m2 Q) := kJ_call d89_92 (kg_callv 30 0 rfl rfl rfl rfl (Nat.le_of_ble_eq_true rfl) (Nat.le_of_ble_eq_true rfl) (Nat.le_of_ble_eq_true rfl) h rfl)
theorem d89_95 : decode (mB 89) 95 = .ok (.ifCond .eq 8, 3) := by decide +kernel
theorem s89_95 {l0 l1 : Option Value} {st : List Value} {a : Int32} {m : kMem} {Q : Option Value → kMem → Prop} : kJ 89 95 [l0, l1] (.int a :: st) m Q = (if a = 0 then kJ 89 103 [l0, l1] st m Q else kJ 89 98 [l0, l1] st m Q) := kJ_if d89_95 rfl (fun h => kJ_next d89_95 h) (fun h => kJ_next d89_95 h)
theorem d89_98 : decode (mB 89) 98 = .ok (.bipush (-4), 2) := by decide +kernel
theorem s89_98 {l0 l1 : Option Value} {st : List Value} {m : kMem} {Q : Option Value → kMem → Prop} : kJ 89 98 [l0, l1] st m Q = kJ 89 100 [l0, l1] (.int (-4) :: st) m Q := kJ_next d89_98 rfl
theorem d89_100 : decode (mB 89) 100 = .ok (.goto 12, 3) := by decide +kernel
theorem s89_100 {l0 l1 : Option Value} {st : List Value} {m : kMem} {Q : Option Value → kMem → Prop} : kJ 89 100 [l0, l1] st m Q = kJ 89 112 [l0, l1] st m Q := kJ_next d89_100 rfl
theorem d89_103 : decode (mB 89) 103 = .ok (.aload_n 0, 1) := by decide +kernel
theorem s89_103 {l1 : Option Value} {st : List Value} {x : Nat} {m : kMem} {Q : Option Value → kMem → Prop} : kJ 89 103 [some (.ref x), l1] st m Q = kJ 89 104 [some (.ref x), l1] (.ref x :: st) m Q := kJ_next d89_103 rfl
theorem d89_104 : decode (mB 89) 104 = .ok (.getfield 43, 3) := by decide +kernel
theorem s89_104 {l0 l1 : Option Value} {st : List Value} {q : Nat} {mi : Nat → Nat → Int32} {ml : Nat → Nat → Int64} {mr : Nat → Nat → Option Nat} {nx : Nat} {Q : Option Value → kMem → Prop} (h : kIs nx q 4 = true) : kJ 89 104 [l0, l1] (.ref q :: st) (mi, ml, mr, nx) Q = kJ 89 107 [l0, l1] (va_rf (mr q 6) :: st) (mi, ml, mr, nx) Q := kJ_next d89_104 (kg_getr 4 6 rfl h (by decide))
theorem d89_107 : decode (mB 89) 107 = .ok (.iconst 0, 1) := by decide +kernel
theorem s89_107 {l0 l1 : Option Value} {st : List Value} {m : kMem} {Q : Option Value → kMem → Prop} : kJ 89 107 [l0, l1] st m Q = kJ 89 108 [l0, l1] (.int (nI 0) :: st) m Q := kJ_next d89_107 rfl
theorem d89_108 : decode (mB 89) 108 = .ok (.aaload, 1) := by decide +kernel
theorem s89_108 {l0 l1 : Option Value} {st : List Value} {q : Nat} {i : Int32} {mi : Nat → Nat → Int32} {ml : Nat → Nat → Int64} {mr : Nat → Nat → Option Nat} {nx : Nat} {Q : Option Value → kMem → Prop} (h : kIs nx q 12 = true ∨ kIs nx q 13 = true) : kJ 89 108 [l0, l1] (.int i :: .ref q :: st) (mi, ml, mr, nx) Q = (vp_in i (kAl q) ∧ kJ 89 109 [l0, l1] (va_rf (mr q i.toNatClampNeg) :: st) (mi, ml, mr, nx) Q) := kg_aalJ d89_108 rfl (kAr_or h)
theorem d89_109 : decode (mB 89) 109 = .ok (.getfield 262, 3) := by decide +kernel
theorem s89_109 {l0 l1 : Option Value} {st : List Value} {q : Nat} {mi : Nat → Nat → Int32} {ml : Nat → Nat → Int64} {mr : Nat → Nat → Option Nat} {nx : Nat} {Q : Option Value → kMem → Prop} (h : kIs nx q 2 = true) : kJ 89 109 [l0, l1] (.ref q :: st) (mi, ml, mr, nx) Q = kJ 89 112 [l0, l1] (.int (mi q 0) :: st) (mi, ml, mr, nx) Q := kJ_next d89_109 (kg_geti 2 0 rfl h (by decide))
theorem d89_112 : decode (mB 89) 112 = .ok (.ireturn, 1) := by decide +kernel
theorem s89_112 {l0 l1 : Option Value} {x : Int32} {m : kMem} {Q : Option Value → kMem → Prop} : kJ 89 112 [l0, l1] [.int x] m Q = Q (some (.int x)) m := kJ_ret d89_112 rfl
theorem d89_113 : decode (mB 89) 113 = .ok (.aload_n 0, 1) := by decide +kernel
theorem s89_113 {l1 : Option Value} {st : List Value} {x : Nat} {m : kMem} {Q : Option Value → kMem → Prop} : kJ 89 113 [some (.ref x), l1] st m Q = kJ 89 114 [some (.ref x), l1] (.ref x :: st) m Q := kJ_next d89_113 rfl
theorem d89_114 : decode (mB 89) 114 = .ok (.getfield 10, 3) := by decide +kernel
theorem s89_114 {l0 l1 : Option Value} {st : List Value} {q : Nat} {mi : Nat → Nat → Int32} {ml : Nat → Nat → Int64} {mr : Nat → Nat → Option Nat} {nx : Nat} {Q : Option Value → kMem → Prop} (h : kIs nx q 4 = true) : kJ 89 114 [l0, l1] (.ref q :: st) (mi, ml, mr, nx) Q = kJ 89 117 [l0, l1] (va_rf (mr q 0) :: st) (mi, ml, mr, nx) Q := kJ_next d89_114 (kg_getr 4 0 rfl h (by decide))
theorem d89_117 : decode (mB 89) 117 = .ok (.getfield 136, 3) := by decide +kernel
theorem s89_117 {l0 l1 : Option Value} {st : List Value} {q : Nat} {mi : Nat → Nat → Int32} {ml : Nat → Nat → Int64} {mr : Nat → Nat → Option Nat} {nx : Nat} {Q : Option Value → kMem → Prop} (h : kIs nx q 1 = true) : kJ 89 117 [l0, l1] (.ref q :: st) (mi, ml, mr, nx) Q = kJ 89 120 [l0, l1] (va_rf (mr q 8) :: st) (mi, ml, mr, nx) Q := kJ_next d89_117 (kg_getr 1 8 rfl h (by decide))
theorem d89_120 : decode (mB 89) 120 = .ok (.aload_n 0, 1) := by decide +kernel
theorem s89_120 {l1 : Option Value} {st : List Value} {x : Nat} {m : kMem} {Q : Option Value → kMem → Prop} : kJ 89 120 [some (.ref x), l1] st m Q = kJ 89 121 [some (.ref x), l1] (.ref x :: st) m Q := kJ_next d89_120 rfl
theorem d89_121 : decode (mB 89) 121 = .ok (.getfield 10, 3) := by decide +kernel
theorem s89_121 {l0 l1 : Option Value} {st : List Value} {q : Nat} {mi : Nat → Nat → Int32} {ml : Nat → Nat → Int64} {mr : Nat → Nat → Option Nat} {nx : Nat} {Q : Option Value → kMem → Prop} (h : kIs nx q 4 = true) : kJ 89 121 [l0, l1] (.ref q :: st) (mi, ml, mr, nx) Q = kJ 89 124 [l0, l1] (va_rf (mr q 0) :: st) (mi, ml, mr, nx) Q := kJ_next d89_121 (kg_getr 4 0 rfl h (by decide))
theorem d89_124 : decode (mB 89) 124 = .ok (.getfield 91, 3) := by decide +kernel
theorem s89_124 {l0 l1 : Option Value} {st : List Value} {q : Nat} {mi : Nat → Nat → Int32} {ml : Nat → Nat → Int64} {mr : Nat → Nat → Option Nat} {nx : Nat} {Q : Option Value → kMem → Prop} (h : kIs nx q 1 = true) : kJ 89 124 [l0, l1] (.ref q :: st) (mi, ml, mr, nx) Q = kJ 89 127 [l0, l1] (.int (mi q 4) :: st) (mi, ml, mr, nx) Q := kJ_next d89_124 (kg_geti 1 4 rfl h (by decide))
theorem d89_127 : decode (mB 89) 127 = .ok (.invokestatic 265, 3) := by decide +kernel
theorem s89_127 {l0 l1 : Option Value} {v0 : Int32} {v1 : Nat} {m : kMem} {Q : Option Value → kMem → Prop} : kJ 89 127 [l0, l1] [.int v0, .ref v1] m Q = kJ 94 0 [some (.ref v1), some (.int v0), none, none] [] m (fun v m2 => kJ 89 130 [l0, l1] (v.toList ++ []) m2 Q) := kJ_call d89_127 (kg_calls 94 2 rfl rfl (Nat.le_of_ble_eq_true rfl) (Nat.le_of_ble_eq_true rfl) (Nat.le_of_ble_eq_true rfl) (Nat.le_of_ble_eq_true rfl))
theorem d89_130 : decode (mB 89) 130 = .ok (.ireturn, 1) := by decide +kernel
theorem s89_130 {l0 l1 : Option Value} {x : Int32} {m : kMem} {Q : Option Value → kMem → Prop} : kJ 89 130 [l0, l1] [.int x] m Q = Q (some (.int x)) m := kJ_ret d89_130 rfl
theorem d89_131 : decode (mB 89) 131 = .ok (.aload_n 0, 1) := by decide +kernel
theorem s89_131 {l1 : Option Value} {st : List Value} {x : Nat} {m : kMem} {Q : Option Value → kMem → Prop} : kJ 89 131 [some (.ref x), l1] st m Q = kJ 89 132 [some (.ref x), l1] (.ref x :: st) m Q := kJ_next d89_131 rfl
theorem d89_132 : decode (mB 89) 132 = .ok (.getfield 10, 3) := by decide +kernel
theorem s89_132 {l0 l1 : Option Value} {st : List Value} {q : Nat} {mi : Nat → Nat → Int32} {ml : Nat → Nat → Int64} {mr : Nat → Nat → Option Nat} {nx : Nat} {Q : Option Value → kMem → Prop} (h : kIs nx q 4 = true) : kJ 89 132 [l0, l1] (.ref q :: st) (mi, ml, mr, nx) Q = kJ 89 135 [l0, l1] (va_rf (mr q 0) :: st) (mi, ml, mr, nx) Q := kJ_next d89_132 (kg_getr 4 0 rfl h (by decide))
theorem d89_135 : decode (mB 89) 135 = .ok (.getfield 115, 3) := by decide +kernel
theorem s89_135 {l0 l1 : Option Value} {st : List Value} {q : Nat} {mi : Nat → Nat → Int32} {ml : Nat → Nat → Int64} {mr : Nat → Nat → Option Nat} {nx : Nat} {Q : Option Value → kMem → Prop} (h : kIs nx q 1 = true) : kJ 89 135 [l0, l1] (.ref q :: st) (mi, ml, mr, nx) Q = kJ 89 138 [l0, l1] (va_rf (mr q 2) :: st) (mi, ml, mr, nx) Q := kJ_next d89_135 (kg_getr 1 2 rfl h (by decide))
theorem d89_138 : decode (mB 89) 138 = .ok (.aload_n 0, 1) := by decide +kernel
theorem s89_138 {l1 : Option Value} {st : List Value} {x : Nat} {m : kMem} {Q : Option Value → kMem → Prop} : kJ 89 138 [some (.ref x), l1] st m Q = kJ 89 139 [some (.ref x), l1] (.ref x :: st) m Q := kJ_next d89_138 rfl
theorem d89_139 : decode (mB 89) 139 = .ok (.getfield 10, 3) := by decide +kernel
theorem s89_139 {l0 l1 : Option Value} {st : List Value} {q : Nat} {mi : Nat → Nat → Int32} {ml : Nat → Nat → Int64} {mr : Nat → Nat → Option Nat} {nx : Nat} {Q : Option Value → kMem → Prop} (h : kIs nx q 4 = true) : kJ 89 139 [l0, l1] (.ref q :: st) (mi, ml, mr, nx) Q = kJ 89 142 [l0, l1] (va_rf (mr q 0) :: st) (mi, ml, mr, nx) Q := kJ_next d89_139 (kg_getr 4 0 rfl h (by decide))
theorem d89_142 : decode (mB 89) 142 = .ok (.getfield 88, 3) := by decide +kernel
theorem s89_142 {l0 l1 : Option Value} {st : List Value} {q : Nat} {mi : Nat → Nat → Int32} {ml : Nat → Nat → Int64} {mr : Nat → Nat → Option Nat} {nx : Nat} {Q : Option Value → kMem → Prop} (h : kIs nx q 1 = true) : kJ 89 142 [l0, l1] (.ref q :: st) (mi, ml, mr, nx) Q = kJ 89 145 [l0, l1] (.int (mi q 0) :: st) (mi, ml, mr, nx) Q := kJ_next d89_142 (kg_geti 1 0 rfl h (by decide))
theorem d89_145 : decode (mB 89) 145 = .ok (.invokestatic 265, 3) := by decide +kernel
theorem s89_145 {l0 l1 : Option Value} {v0 : Int32} {v1 : Nat} {m : kMem} {Q : Option Value → kMem → Prop} : kJ 89 145 [l0, l1] [.int v0, .ref v1] m Q = kJ 94 0 [some (.ref v1), some (.int v0), none, none] [] m (fun v m2 => kJ 89 148 [l0, l1] (v.toList ++ []) m2 Q) := kJ_call d89_145 (kg_calls 94 2 rfl rfl (Nat.le_of_ble_eq_true rfl) (Nat.le_of_ble_eq_true rfl) (Nat.le_of_ble_eq_true rfl) (Nat.le_of_ble_eq_true rfl))
theorem d89_148 : decode (mB 89) 148 = .ok (.ireturn, 1) := by decide +kernel
theorem s89_148 {l0 l1 : Option Value} {x : Int32} {m : kMem} {Q : Option Value → kMem → Prop} : kJ 89 148 [l0, l1] [.int x] m Q = Q (some (.int x)) m := kJ_ret d89_148 rfl
theorem d89_149 : decode (mB 89) 149 = .ok (.iconst (-1), 1) := by decide +kernel
theorem s89_149 {l0 l1 : Option Value} {st : List Value} {m : kMem} {Q : Option Value → kMem → Prop} : kJ 89 149 [l0, l1] st m Q = kJ 89 150 [l0, l1] (.int (-1) :: st) m Q := kJ_next d89_149 rfl
theorem d89_150 : decode (mB 89) 150 = .ok (.ireturn, 1) := by decide +kernel
theorem s89_150 {l0 l1 : Option Value} {x : Int32} {m : kMem} {Q : Option Value → kMem → Prop} : kJ 89 150 [l0, l1] [.int x] m Q = Q (some (.int x)) m := kJ_ret d89_150 rfl
theorem d90_0 : decode (mB 90) 0 = .ok (.iload_n 0, 1) := by decide +kernel
theorem s90_0 {l1 l2 : Option Value} {st : List Value} {x : Int32} {m : kMem} {Q : Option Value → kMem → Prop} : kJ 90 0 [some (.int x), l1, l2] st m Q = kJ 90 1 [some (.int x), l1, l2] (.int x :: st) m Q := kJ_next d90_0 rfl
theorem d90_1 : decode (mB 90) 1 = .ok (.iload_n 1, 1) := by decide +kernel
theorem s90_1 {l0 l2 : Option Value} {st : List Value} {x : Int32} {m : kMem} {Q : Option Value → kMem → Prop} : kJ 90 1 [l0, some (.int x), l2] st m Q = kJ 90 2 [l0, some (.int x), l2] (.int x :: st) m Q := kJ_next d90_1 rfl
theorem d90_2 : decode (mB 90) 2 = .ok (.if_icmp .lt 12, 3) := by decide +kernel
theorem s90_2 {l0 l1 l2 : Option Value} {st : List Value} {a b : Int32} {m : kMem} {Q : Option Value → kMem → Prop} : kJ 90 2 [l0, l1, l2] (.int b :: .int a :: st) m Q = (if a < b then kJ 90 14 [l0, l1, l2] st m Q else kJ 90 5 [l0, l1, l2] st m Q) := kJ_if d90_2 rfl (fun h => kJ_next d90_2 h) (fun h => kJ_next d90_2 h)
theorem d90_5 : decode (mB 90) 5 = .ok (.iload_n 0, 1) := by decide +kernel
theorem s90_5 {l1 l2 : Option Value} {st : List Value} {x : Int32} {m : kMem} {Q : Option Value → kMem → Prop} : kJ 90 5 [some (.int x), l1, l2] st m Q = kJ 90 6 [some (.int x), l1, l2] (.int x :: st) m Q := kJ_next d90_5 rfl
theorem d90_6 : decode (mB 90) 6 = .ok (.iload_n 2, 1) := by decide +kernel
theorem s90_6 {l0 l1 : Option Value} {st : List Value} {x : Int32} {m : kMem} {Q : Option Value → kMem → Prop} : kJ 90 6 [l0, l1, some (.int x)] st m Q = kJ 90 7 [l0, l1, some (.int x)] (.int x :: st) m Q := kJ_next d90_6 rfl
theorem d90_7 : decode (mB 90) 7 = .ok (.if_icmp .gt 7, 3) := by decide +kernel
theorem s90_7 {l0 l1 l2 : Option Value} {st : List Value} {a b : Int32} {m : kMem} {Q : Option Value → kMem → Prop} : kJ 90 7 [l0, l1, l2] (.int b :: .int a :: st) m Q = (if b < a then kJ 90 14 [l0, l1, l2] st m Q else kJ 90 10 [l0, l1, l2] st m Q) := kJ_if d90_7 rfl (fun h => kJ_next d90_7 h) (fun h => kJ_next d90_7 h)
theorem d90_10 : decode (mB 90) 10 = .ok (.iconst 1, 1) := by decide +kernel
theorem s90_10 {l0 l1 l2 : Option Value} {st : List Value} {m : kMem} {Q : Option Value → kMem → Prop} : kJ 90 10 [l0, l1, l2] st m Q = kJ 90 11 [l0, l1, l2] (.int (nI 1) :: st) m Q := kJ_next d90_10 rfl
theorem d90_11 : decode (mB 90) 11 = .ok (.goto 4, 3) := by decide +kernel
theorem s90_11 {l0 l1 l2 : Option Value} {st : List Value} {m : kMem} {Q : Option Value → kMem → Prop} : kJ 90 11 [l0, l1, l2] st m Q = kJ 90 15 [l0, l1, l2] st m Q := kJ_next d90_11 rfl
theorem d90_14 : decode (mB 90) 14 = .ok (.iconst 0, 1) := by decide +kernel
theorem s90_14 {l0 l1 l2 : Option Value} {st : List Value} {m : kMem} {Q : Option Value → kMem → Prop} : kJ 90 14 [l0, l1, l2] st m Q = kJ 90 15 [l0, l1, l2] (.int (nI 0) :: st) m Q := kJ_next d90_14 rfl
theorem d90_15 : decode (mB 90) 15 = .ok (.ireturn, 1) := by decide +kernel
theorem s90_15 {l0 l1 l2 : Option Value} {x : Int32} {m : kMem} {Q : Option Value → kMem → Prop} (hx : x = 0 ∨ x = 1) : kJ 90 15 [l0, l1, l2] [.int x] m Q = Q (some (.int x)) m := kJ_ret d90_15 (kg_retz (by decide) hx)
theorem d91_0 : decode (mB 91) 0 = .ok (.iload_n 0, 1) := by decide +kernel
theorem s91_0 {l1 : Option Value} {st : List Value} {x : Int32} {m : kMem} {Q : Option Value → kMem → Prop} : kJ 91 0 [some (.int x), l1] st m Q = kJ 91 1 [some (.int x), l1] (.int x :: st) m Q := kJ_next d91_0 rfl
theorem d91_1 : decode (mB 91) 1 = .ok (.iconst 0, 1) := by decide +kernel
theorem s91_1 {l0 l1 : Option Value} {st : List Value} {m : kMem} {Q : Option Value → kMem → Prop} : kJ 91 1 [l0, l1] st m Q = kJ 91 2 [l0, l1] (.int (nI 0) :: st) m Q := kJ_next d91_1 rfl
theorem d91_2 : decode (mB 91) 2 = .ok (.bipush 60, 2) := by decide +kernel
theorem s91_2 {l0 l1 : Option Value} {st : List Value} {m : kMem} {Q : Option Value → kMem → Prop} : kJ 91 2 [l0, l1] st m Q = kJ 91 4 [l0, l1] (.int (nI 60) :: st) m Q := kJ_next d91_2 rfl
theorem d91_4 : decode (mB 91) 4 = .ok (.invokestatic 55, 3) := by decide +kernel
theorem s91_4 {l0 l1 : Option Value} {v0 : Int32} {v1 : Int32} {v2 : Int32} {m : kMem} {Q : Option Value → kMem → Prop} : kJ 91 4 [l0, l1] [.int v0, .int v1, .int v2] m Q = kJ 90 0 [some (.int v2), some (.int v1), some (.int v0)] [] m (fun v m2 => kJ 91 7 [l0, l1] (v.toList ++ []) m2 Q) := kJ_call d91_4 (kg_calls 90 3 rfl rfl (Nat.le_of_ble_eq_true rfl) (Nat.le_of_ble_eq_true rfl) (Nat.le_of_ble_eq_true rfl) (Nat.le_of_ble_eq_true rfl))
theorem d91_7 : decode (mB 91) 7 = .ok (.ifCond .eq 16, 3) := by decide +kernel
theorem s91_7 {l0 l1 : Option Value} {st : List Value} {a : Int32} {m : kMem} {Q : Option Value → kMem → Prop} : kJ 91 7 [l0, l1] (.int a :: st) m Q = (if a = 0 then kJ 91 23 [l0, l1] st m Q else kJ 91 10 [l0, l1] st m Q) := kJ_if d91_7 rfl (fun h => kJ_next d91_7 h) (fun h => kJ_next d91_7 h)
theorem d91_10 : decode (mB 91) 10 = .ok (.iload_n 1, 1) := by decide +kernel
theorem s91_10 {l0 : Option Value} {st : List Value} {x : Int32} {m : kMem} {Q : Option Value → kMem → Prop} : kJ 91 10 [l0, some (.int x)] st m Q = kJ 91 11 [l0, some (.int x)] (.int x :: st) m Q := kJ_next d91_10 rfl
theorem d91_11 : decode (mB 91) 11 = .ok (.iconst 0, 1) := by decide +kernel
theorem s91_11 {l0 l1 : Option Value} {st : List Value} {m : kMem} {Q : Option Value → kMem → Prop} : kJ 91 11 [l0, l1] st m Q = kJ 91 12 [l0, l1] (.int (nI 0) :: st) m Q := kJ_next d91_11 rfl
theorem d91_12 : decode (mB 91) 12 = .ok (.iconst 1, 1) := by decide +kernel
theorem s91_12 {l0 l1 : Option Value} {st : List Value} {m : kMem} {Q : Option Value → kMem → Prop} : kJ 91 12 [l0, l1] st m Q = kJ 91 13 [l0, l1] (.int (nI 1) :: st) m Q := kJ_next d91_12 rfl
theorem d91_13 : decode (mB 91) 13 = .ok (.invokestatic 55, 3) := by decide +kernel
theorem s91_13 {l0 l1 : Option Value} {v0 : Int32} {v1 : Int32} {v2 : Int32} {m : kMem} {Q : Option Value → kMem → Prop} : kJ 91 13 [l0, l1] [.int v0, .int v1, .int v2] m Q = kJ 90 0 [some (.int v2), some (.int v1), some (.int v0)] [] m (fun v m2 => kJ 91 16 [l0, l1] (v.toList ++ []) m2 Q) := kJ_call d91_13 (kg_calls 90 3 rfl rfl (Nat.le_of_ble_eq_true rfl) (Nat.le_of_ble_eq_true rfl) (Nat.le_of_ble_eq_true rfl) (Nat.le_of_ble_eq_true rfl))
theorem d91_16 : decode (mB 91) 16 = .ok (.ifCond .eq 7, 3) := by decide +kernel
theorem s91_16 {l0 l1 : Option Value} {st : List Value} {a : Int32} {m : kMem} {Q : Option Value → kMem → Prop} : kJ 91 16 [l0, l1] (.int a :: st) m Q = (if a = 0 then kJ 91 23 [l0, l1] st m Q else kJ 91 19 [l0, l1] st m Q) := kJ_if d91_16 rfl (fun h => kJ_next d91_16 h) (fun h => kJ_next d91_16 h)
theorem d91_19 : decode (mB 91) 19 = .ok (.iconst 1, 1) := by decide +kernel
theorem s91_19 {l0 l1 : Option Value} {st : List Value} {m : kMem} {Q : Option Value → kMem → Prop} : kJ 91 19 [l0, l1] st m Q = kJ 91 20 [l0, l1] (.int (nI 1) :: st) m Q := kJ_next d91_19 rfl
theorem d91_20 : decode (mB 91) 20 = .ok (.goto 4, 3) := by decide +kernel
theorem s91_20 {l0 l1 : Option Value} {st : List Value} {m : kMem} {Q : Option Value → kMem → Prop} : kJ 91 20 [l0, l1] st m Q = kJ 91 24 [l0, l1] st m Q := kJ_next d91_20 rfl
theorem d91_23 : decode (mB 91) 23 = .ok (.iconst 0, 1) := by decide +kernel
theorem s91_23 {l0 l1 : Option Value} {st : List Value} {m : kMem} {Q : Option Value → kMem → Prop} : kJ 91 23 [l0, l1] st m Q = kJ 91 24 [l0, l1] (.int (nI 0) :: st) m Q := kJ_next d91_23 rfl
theorem d91_24 : decode (mB 91) 24 = .ok (.ireturn, 1) := by decide +kernel
theorem s91_24 {l0 l1 : Option Value} {x : Int32} {m : kMem} {Q : Option Value → kMem → Prop} (hx : x = 0 ∨ x = 1) : kJ 91 24 [l0, l1] [.int x] m Q = Q (some (.int x)) m := kJ_ret d91_24 (kg_retz (by decide) hx)
theorem d92_0 : decode (mB 92) 0 = .ok (.iload_n 0, 1) := by decide +kernel
theorem s92_0 {l1 l2 : Option Value} {st : List Value} {x : Int32} {m : kMem} {Q : Option Value → kMem → Prop} : kJ 92 0 [some (.int x), l1, l2] st m Q = kJ 92 1 [some (.int x), l1, l2] (.int x :: st) m Q := kJ_next d92_0 rfl
theorem d92_1 : decode (mB 92) 1 = .ok (.iconst 0, 1) := by decide +kernel
theorem s92_1 {l0 l1 l2 : Option Value} {st : List Value} {m : kMem} {Q : Option Value → kMem → Prop} : kJ 92 1 [l0, l1, l2] st m Q = kJ 92 2 [l0, l1, l2] (.int (nI 0) :: st) m Q := kJ_next d92_1 rfl
theorem d92_2 : decode (mB 92) 2 = .ok (.bipush 10, 2) := by decide +kernel
theorem s92_2 {l0 l1 l2 : Option Value} {st : List Value} {m : kMem} {Q : Option Value → kMem → Prop} : kJ 92 2 [l0, l1, l2] st m Q = kJ 92 4 [l0, l1, l2] (.int (nI 10) :: st) m Q := kJ_next d92_2 rfl
theorem d92_4 : decode (mB 92) 4 = .ok (.invokestatic 55, 3) := by decide +kernel
theorem s92_4 {l0 l1 l2 : Option Value} {v0 : Int32} {v1 : Int32} {v2 : Int32} {m : kMem} {Q : Option Value → kMem → Prop} : kJ 92 4 [l0, l1, l2] [.int v0, .int v1, .int v2] m Q = kJ 90 0 [some (.int v2), some (.int v1), some (.int v0)] [] m (fun v m2 => kJ 92 7 [l0, l1, l2] (v.toList ++ []) m2 Q) := kJ_call d92_4 (kg_calls 90 3 rfl rfl (Nat.le_of_ble_eq_true rfl) (Nat.le_of_ble_eq_true rfl) (Nat.le_of_ble_eq_true rfl) (Nat.le_of_ble_eq_true rfl))
theorem d92_7 : decode (mB 92) 7 = .ok (.ifCond .eq 26, 3) := by decide +kernel
theorem s92_7 {l0 l1 l2 : Option Value} {st : List Value} {a : Int32} {m : kMem} {Q : Option Value → kMem → Prop} : kJ 92 7 [l0, l1, l2] (.int a :: st) m Q = (if a = 0 then kJ 92 33 [l0, l1, l2] st m Q else kJ 92 10 [l0, l1, l2] st m Q) := kJ_if d92_7 rfl (fun h => kJ_next d92_7 h) (fun h => kJ_next d92_7 h)
theorem d92_10 : decode (mB 92) 10 = .ok (.iload_n 1, 1) := by decide +kernel
theorem s92_10 {l0 l2 : Option Value} {st : List Value} {x : Int32} {m : kMem} {Q : Option Value → kMem → Prop} : kJ 92 10 [l0, some (.int x), l2] st m Q = kJ 92 11 [l0, some (.int x), l2] (.int x :: st) m Q := kJ_next d92_10 rfl
theorem d92_11 : decode (mB 92) 11 = .ok (.iconst 0, 1) := by decide +kernel
theorem s92_11 {l0 l1 l2 : Option Value} {st : List Value} {m : kMem} {Q : Option Value → kMem → Prop} : kJ 92 11 [l0, l1, l2] st m Q = kJ 92 12 [l0, l1, l2] (.int (nI 0) :: st) m Q := kJ_next d92_11 rfl
theorem d92_12 : decode (mB 92) 12 = .ok (.bipush 8, 2) := by decide +kernel
theorem s92_12 {l0 l1 l2 : Option Value} {st : List Value} {m : kMem} {Q : Option Value → kMem → Prop} : kJ 92 12 [l0, l1, l2] st m Q = kJ 92 14 [l0, l1, l2] (.int (nI 8) :: st) m Q := kJ_next d92_12 rfl
theorem d92_14 : decode (mB 92) 14 = .ok (.invokestatic 55, 3) := by decide +kernel
theorem s92_14 {l0 l1 l2 : Option Value} {v0 : Int32} {v1 : Int32} {v2 : Int32} {m : kMem} {Q : Option Value → kMem → Prop} : kJ 92 14 [l0, l1, l2] [.int v0, .int v1, .int v2] m Q = kJ 90 0 [some (.int v2), some (.int v1), some (.int v0)] [] m (fun v m2 => kJ 92 17 [l0, l1, l2] (v.toList ++ []) m2 Q) := kJ_call d92_14 (kg_calls 90 3 rfl rfl (Nat.le_of_ble_eq_true rfl) (Nat.le_of_ble_eq_true rfl) (Nat.le_of_ble_eq_true rfl) (Nat.le_of_ble_eq_true rfl))
theorem d92_17 : decode (mB 92) 17 = .ok (.ifCond .eq 16, 3) := by decide +kernel
theorem s92_17 {l0 l1 l2 : Option Value} {st : List Value} {a : Int32} {m : kMem} {Q : Option Value → kMem → Prop} : kJ 92 17 [l0, l1, l2] (.int a :: st) m Q = (if a = 0 then kJ 92 33 [l0, l1, l2] st m Q else kJ 92 20 [l0, l1, l2] st m Q) := kJ_if d92_17 rfl (fun h => kJ_next d92_17 h) (fun h => kJ_next d92_17 h)
theorem d92_20 : decode (mB 92) 20 = .ok (.iload_n 2, 1) := by decide +kernel
theorem s92_20 {l0 l1 : Option Value} {st : List Value} {x : Int32} {m : kMem} {Q : Option Value → kMem → Prop} : kJ 92 20 [l0, l1, some (.int x)] st m Q = kJ 92 21 [l0, l1, some (.int x)] (.int x :: st) m Q := kJ_next d92_20 rfl
theorem d92_21 : decode (mB 92) 21 = .ok (.iconst 0, 1) := by decide +kernel
theorem s92_21 {l0 l1 l2 : Option Value} {st : List Value} {m : kMem} {Q : Option Value → kMem → Prop} : kJ 92 21 [l0, l1, l2] st m Q = kJ 92 22 [l0, l1, l2] (.int (nI 0) :: st) m Q := kJ_next d92_21 rfl
theorem d92_22 : decode (mB 92) 22 = .ok (.iconst 1, 1) := by decide +kernel
theorem s92_22 {l0 l1 l2 : Option Value} {st : List Value} {m : kMem} {Q : Option Value → kMem → Prop} : kJ 92 22 [l0, l1, l2] st m Q = kJ 92 23 [l0, l1, l2] (.int (nI 1) :: st) m Q := kJ_next d92_22 rfl
theorem d92_23 : decode (mB 92) 23 = .ok (.invokestatic 55, 3) := by decide +kernel
theorem s92_23 {l0 l1 l2 : Option Value} {v0 : Int32} {v1 : Int32} {v2 : Int32} {m : kMem} {Q : Option Value → kMem → Prop} : kJ 92 23 [l0, l1, l2] [.int v0, .int v1, .int v2] m Q = kJ 90 0 [some (.int v2), some (.int v1), some (.int v0)] [] m (fun v m2 => kJ 92 26 [l0, l1, l2] (v.toList ++ []) m2 Q) := kJ_call d92_23 (kg_calls 90 3 rfl rfl (Nat.le_of_ble_eq_true rfl) (Nat.le_of_ble_eq_true rfl) (Nat.le_of_ble_eq_true rfl) (Nat.le_of_ble_eq_true rfl))
theorem d92_26 : decode (mB 92) 26 = .ok (.ifCond .eq 7, 3) := by decide +kernel
theorem s92_26 {l0 l1 l2 : Option Value} {st : List Value} {a : Int32} {m : kMem} {Q : Option Value → kMem → Prop} : kJ 92 26 [l0, l1, l2] (.int a :: st) m Q = (if a = 0 then kJ 92 33 [l0, l1, l2] st m Q else kJ 92 29 [l0, l1, l2] st m Q) := kJ_if d92_26 rfl (fun h => kJ_next d92_26 h) (fun h => kJ_next d92_26 h)
theorem d92_29 : decode (mB 92) 29 = .ok (.iconst 1, 1) := by decide +kernel
theorem s92_29 {l0 l1 l2 : Option Value} {st : List Value} {m : kMem} {Q : Option Value → kMem → Prop} : kJ 92 29 [l0, l1, l2] st m Q = kJ 92 30 [l0, l1, l2] (.int (nI 1) :: st) m Q := kJ_next d92_29 rfl
theorem d92_30 : decode (mB 92) 30 = .ok (.goto 4, 3) := by decide +kernel
theorem s92_30 {l0 l1 l2 : Option Value} {st : List Value} {m : kMem} {Q : Option Value → kMem → Prop} : kJ 92 30 [l0, l1, l2] st m Q = kJ 92 34 [l0, l1, l2] st m Q := kJ_next d92_30 rfl
theorem d92_33 : decode (mB 92) 33 = .ok (.iconst 0, 1) := by decide +kernel
theorem s92_33 {l0 l1 l2 : Option Value} {st : List Value} {m : kMem} {Q : Option Value → kMem → Prop} : kJ 92 33 [l0, l1, l2] st m Q = kJ 92 34 [l0, l1, l2] (.int (nI 0) :: st) m Q := kJ_next d92_33 rfl
theorem d92_34 : decode (mB 92) 34 = .ok (.ireturn, 1) := by decide +kernel
theorem s92_34 {l0 l1 l2 : Option Value} {x : Int32} {m : kMem} {Q : Option Value → kMem → Prop} (hx : x = 0 ∨ x = 1) : kJ 92 34 [l0, l1, l2] [.int x] m Q = Q (some (.int x)) m := kJ_ret d92_34 (kg_retz (by decide) hx)
theorem d93_0 : decode (mB 93) 0 = .ok (.iload_n 2, 1) := by decide +kernel
theorem s93_0 {l0 l1 l3 l4 : Option Value} {st : List Value} {x : Int32} {m : kMem} {Q : Option Value → kMem → Prop} : kJ 93 0 [l0, l1, some (.int x), l3, l4] st m Q = kJ 93 1 [l0, l1, some (.int x), l3, l4] (.int x :: st) m Q := kJ_next d93_0 rfl
theorem d93_1 : decode (mB 93) 1 = .ok (.iconst 0, 1) := by decide +kernel
theorem s93_1 {l0 l1 l2 l3 l4 : Option Value} {st : List Value} {m : kMem} {Q : Option Value → kMem → Prop} : kJ 93 1 [l0, l1, l2, l3, l4] st m Q = kJ 93 2 [l0, l1, l2, l3, l4] (.int (nI 0) :: st) m Q := kJ_next d93_1 rfl
theorem d93_2 : decode (mB 93) 2 = .ok (.iload_n 3, 1) := by decide +kernel
theorem s93_2 {l0 l1 l2 l4 : Option Value} {st : List Value} {x : Int32} {m : kMem} {Q : Option Value → kMem → Prop} : kJ 93 2 [l0, l1, l2, some (.int x), l4] st m Q = kJ 93 3 [l0, l1, l2, some (.int x), l4] (.int x :: st) m Q := kJ_next d93_2 rfl
theorem d93_3 : decode (mB 93) 3 = .ok (.invokestatic 55, 3) := by decide +kernel
theorem s93_3 {l0 l1 l2 l3 l4 : Option Value} {v0 : Int32} {v1 : Int32} {v2 : Int32} {m : kMem} {Q : Option Value → kMem → Prop} : kJ 93 3 [l0, l1, l2, l3, l4] [.int v0, .int v1, .int v2] m Q = kJ 90 0 [some (.int v2), some (.int v1), some (.int v0)] [] m (fun v m2 => kJ 93 6 [l0, l1, l2, l3, l4] (v.toList ++ []) m2 Q) := kJ_call d93_3 (kg_calls 90 3 rfl rfl (Nat.le_of_ble_eq_true rfl) (Nat.le_of_ble_eq_true rfl) (Nat.le_of_ble_eq_true rfl) (Nat.le_of_ble_eq_true rfl))
theorem d93_6 : decode (mB 93) 6 = .ok (.ifCond .ne 5, 3) := by decide +kernel
theorem s93_6 {l0 l1 l2 l3 l4 : Option Value} {st : List Value} {a : Int32} {m : kMem} {Q : Option Value → kMem → Prop} : kJ 93 6 [l0, l1, l2, l3, l4] (.int a :: st) m Q = (if a = 0 then kJ 93 9 [l0, l1, l2, l3, l4] st m Q else kJ 93 11 [l0, l1, l2, l3, l4] st m Q) := kJ_if d93_6 rfl (fun h => kJ_next d93_6 h) (fun h => kJ_next d93_6 h)
theorem d93_9 : decode (mB 93) 9 = .ok (.iconst (-1), 1) := by decide +kernel
theorem s93_9 {l0 l1 l2 l3 l4 : Option Value} {st : List Value} {m : kMem} {Q : Option Value → kMem → Prop} : kJ 93 9 [l0, l1, l2, l3, l4] st m Q = kJ 93 10 [l0, l1, l2, l3, l4] (.int (-1) :: st) m Q := kJ_next d93_9 rfl
theorem d93_10 : decode (mB 93) 10 = .ok (.ireturn, 1) := by decide +kernel
theorem s93_10 {l0 l1 l2 l3 l4 : Option Value} {x : Int32} {m : kMem} {Q : Option Value → kMem → Prop} : kJ 93 10 [l0, l1, l2, l3, l4] [.int x] m Q = Q (some (.int x)) m := kJ_ret d93_10 rfl
theorem d93_11 : decode (mB 93) 11 = .ok (.aload_n 0, 1) := by decide +kernel
theorem s93_11 {l1 l2 l3 l4 : Option Value} {st : List Value} {x : Nat} {m : kMem} {Q : Option Value → kMem → Prop} : kJ 93 11 [some (.ref x), l1, l2, l3, l4] st m Q = kJ 93 12 [some (.ref x), l1, l2, l3, l4] (.ref x :: st) m Q := kJ_next d93_11 rfl
theorem d93_12 : decode (mB 93) 12 = .ok (.iload_n 1, 1) := by decide +kernel
theorem s93_12 {l0 l2 l3 l4 : Option Value} {st : List Value} {x : Int32} {m : kMem} {Q : Option Value → kMem → Prop} : kJ 93 12 [l0, some (.int x), l2, l3, l4] st m Q = kJ 93 13 [l0, some (.int x), l2, l3, l4] (.int x :: st) m Q := kJ_next d93_12 rfl
theorem d93_13 : decode (mB 93) 13 = .ok (.iaload, 1) := by decide +kernel
theorem s93_13 {l0 l1 l2 l3 l4 : Option Value} {st : List Value} {q : Nat} {i : Int32} {mi : Nat → Nat → Int32} {ml : Nat → Nat → Int64} {mr : Nat → Nat → Option Nat} {nx : Nat} {Q : Option Value → kMem → Prop} (h : kIs nx q 10 = true) : kJ 93 13 [l0, l1, l2, l3, l4] (.int i :: .ref q :: st) (mi, ml, mr, nx) Q = (vp_in i (kAl q) ∧ kJ 93 14 [l0, l1, l2, l3, l4] (.int (mi q i.toNatClampNeg) :: st) (mi, ml, mr, nx) Q) := kg_aldJ d93_13 rfl (kAr_of h)
theorem d93_14 : decode (mB 93) 14 = .ok (.istore 4, 2) := by decide +kernel
theorem s93_14 {l0 l1 l2 l3 l4 : Option Value} {st : List Value} {x : Int32} {m : kMem} {Q : Option Value → kMem → Prop} (hp : kNL l3 = true) : kJ 93 14 [l0, l1, l2, l3, l4] (.int x :: st) m Q = kJ 93 16 [l0, l1, l2, l3, some (.int x)] st m Q := kJ_next d93_14 (kg_sti (Nat.le_of_ble_eq_true rfl) hp)
theorem d93_16 : decode (mB 93) 16 = .ok (.aload_n 0, 1) := by decide +kernel
theorem s93_16 {l1 l2 l3 l4 : Option Value} {st : List Value} {x : Nat} {m : kMem} {Q : Option Value → kMem → Prop} : kJ 93 16 [some (.ref x), l1, l2, l3, l4] st m Q = kJ 93 17 [some (.ref x), l1, l2, l3, l4] (.ref x :: st) m Q := kJ_next d93_16 rfl
theorem d93_17 : decode (mB 93) 17 = .ok (.iload_n 1, 1) := by decide +kernel
theorem s93_17 {l0 l2 l3 l4 : Option Value} {st : List Value} {x : Int32} {m : kMem} {Q : Option Value → kMem → Prop} : kJ 93 17 [l0, some (.int x), l2, l3, l4] st m Q = kJ 93 18 [l0, some (.int x), l2, l3, l4] (.int x :: st) m Q := kJ_next d93_17 rfl
theorem d93_18 : decode (mB 93) 18 = .ok (.iload_n 2, 1) := by decide +kernel
theorem s93_18 {l0 l1 l3 l4 : Option Value} {st : List Value} {x : Int32} {m : kMem} {Q : Option Value → kMem → Prop} : kJ 93 18 [l0, l1, some (.int x), l3, l4] st m Q = kJ 93 19 [l0, l1, some (.int x), l3, l4] (.int x :: st) m Q := kJ_next d93_18 rfl
theorem d93_19 : decode (mB 93) 19 = .ok (.iastore, 1) := by decide +kernel
theorem s93_19 {l0 l1 l2 l3 l4 : Option Value} {st : List Value} {q : Nat} {i x : Int32} {mi : Nat → Nat → Int32} {ml : Nat → Nat → Int64} {mr : Nat → Nat → Option Nat} {nx : Nat} {Q : Option Value → kMem → Prop} (h : kIs nx q 10 = true) : kJ 93 19 [l0, l1, l2, l3, l4] (.int x :: .int i :: .ref q :: st) (mi, ml, mr, nx) Q = (vp_in i (kAl q) ∧ kJ 93 20 [l0, l1, l2, l3, l4] st (kup mi q i.toNatClampNeg x, ml, mr, nx) Q) := kg_astJ d93_19 rfl (kAr_of h)
theorem d93_20 : decode (mB 93) 20 = .ok (.iload 4, 2) := by decide +kernel
theorem s93_20 {l0 l1 l2 l3 : Option Value} {st : List Value} {x : Int32} {m : kMem} {Q : Option Value → kMem → Prop} : kJ 93 20 [l0, l1, l2, l3, some (.int x)] st m Q = kJ 93 22 [l0, l1, l2, l3, some (.int x)] (.int x :: st) m Q := kJ_next d93_20 rfl
theorem d93_22 : decode (mB 93) 22 = .ok (.ireturn, 1) := by decide +kernel
theorem s93_22 {l0 l1 l2 l3 l4 : Option Value} {x : Int32} {m : kMem} {Q : Option Value → kMem → Prop} : kJ 93 22 [l0, l1, l2, l3, l4] [.int x] m Q = Q (some (.int x)) m := kJ_ret d93_22 rfl
theorem d94_0 : decode (mB 94) 0 = .ok (.iconst 0, 1) := by decide +kernel
theorem s94_0 {l0 l1 l2 l3 : Option Value} {st : List Value} {m : kMem} {Q : Option Value → kMem → Prop} : kJ 94 0 [l0, l1, l2, l3] st m Q = kJ 94 1 [l0, l1, l2, l3] (.int (nI 0) :: st) m Q := kJ_next d94_0 rfl
theorem d94_1 : decode (mB 94) 1 = .ok (.istore_n 2, 1) := by decide +kernel
theorem s94_1 {l0 l1 l2 l3 : Option Value} {st : List Value} {x : Int32} {m : kMem} {Q : Option Value → kMem → Prop} (hp : kNL l1 = true) : kJ 94 1 [l0, l1, l2, l3] (.int x :: st) m Q = kJ 94 2 [l0, l1, some (.int x), l3] st m Q := kJ_next d94_1 (kg_sti (Nat.le_of_ble_eq_true rfl) hp)
theorem d94_2 : decode (mB 94) 2 = .ok (.iconst 0, 1) := by decide +kernel
theorem s94_2 {l0 l1 l2 l3 : Option Value} {st : List Value} {m : kMem} {Q : Option Value → kMem → Prop} : kJ 94 2 [l0, l1, l2, l3] st m Q = kJ 94 3 [l0, l1, l2, l3] (.int (nI 0) :: st) m Q := kJ_next d94_2 rfl
theorem d94_3 : decode (mB 94) 3 = .ok (.istore_n 3, 1) := by decide +kernel
theorem s94_3 {l0 l1 l2 l3 : Option Value} {st : List Value} {x : Int32} {m : kMem} {Q : Option Value → kMem → Prop} (hp : kNL l2 = true) : kJ 94 3 [l0, l1, l2, l3] (.int x :: st) m Q = kJ 94 4 [l0, l1, l2, some (.int x)] st m Q := kJ_next d94_3 (kg_sti (Nat.le_of_ble_eq_true rfl) hp)
theorem d94_4 : decode (mB 94) 4 = .ok (.iload_n 3, 1) := by decide +kernel
theorem s94_4 {l0 l1 l2 : Option Value} {st : List Value} {x : Int32} {m : kMem} {Q : Option Value → kMem → Prop} : kJ 94 4 [l0, l1, l2, some (.int x)] st m Q = kJ 94 5 [l0, l1, l2, some (.int x)] (.int x :: st) m Q := kJ_next d94_4 rfl
theorem d94_5 : decode (mB 94) 5 = .ok (.iload_n 1, 1) := by decide +kernel
theorem s94_5 {l0 l2 l3 : Option Value} {st : List Value} {x : Int32} {m : kMem} {Q : Option Value → kMem → Prop} : kJ 94 5 [l0, some (.int x), l2, l3] st m Q = kJ 94 6 [l0, some (.int x), l2, l3] (.int x :: st) m Q := kJ_next d94_5 rfl
theorem d94_6 : decode (mB 94) 6 = .ok (.if_icmp .ge 15, 3) := by decide +kernel
theorem s94_6 {l0 l1 l2 l3 : Option Value} {st : List Value} {a b : Int32} {m : kMem} {Q : Option Value → kMem → Prop} : kJ 94 6 [l0, l1, l2, l3] (.int b :: .int a :: st) m Q = (if b ≤ a then kJ 94 21 [l0, l1, l2, l3] st m Q else kJ 94 9 [l0, l1, l2, l3] st m Q) := kJ_if d94_6 rfl (fun h => kJ_next d94_6 h) (fun h => kJ_next d94_6 h)
theorem d94_9 : decode (mB 94) 9 = .ok (.iload_n 2, 1) := by decide +kernel
theorem s94_9 {l0 l1 l3 : Option Value} {st : List Value} {x : Int32} {m : kMem} {Q : Option Value → kMem → Prop} : kJ 94 9 [l0, l1, some (.int x), l3] st m Q = kJ 94 10 [l0, l1, some (.int x), l3] (.int x :: st) m Q := kJ_next d94_9 rfl
theorem d94_10 : decode (mB 94) 10 = .ok (.aload_n 0, 1) := by decide +kernel
theorem s94_10 {l1 l2 l3 : Option Value} {st : List Value} {x : Nat} {m : kMem} {Q : Option Value → kMem → Prop} : kJ 94 10 [some (.ref x), l1, l2, l3] st m Q = kJ 94 11 [some (.ref x), l1, l2, l3] (.ref x :: st) m Q := kJ_next d94_10 rfl
theorem d94_11 : decode (mB 94) 11 = .ok (.iload_n 3, 1) := by decide +kernel
theorem s94_11 {l0 l1 l2 : Option Value} {st : List Value} {x : Int32} {m : kMem} {Q : Option Value → kMem → Prop} : kJ 94 11 [l0, l1, l2, some (.int x)] st m Q = kJ 94 12 [l0, l1, l2, some (.int x)] (.int x :: st) m Q := kJ_next d94_11 rfl
theorem d94_12 : decode (mB 94) 12 = .ok (.iaload, 1) := by decide +kernel
theorem s94_12 {l0 l1 l2 l3 : Option Value} {st : List Value} {q : Nat} {i : Int32} {mi : Nat → Nat → Int32} {ml : Nat → Nat → Int64} {mr : Nat → Nat → Option Nat} {nx : Nat} {Q : Option Value → kMem → Prop} (h : kIs nx q 10 = true) : kJ 94 12 [l0, l1, l2, l3] (.int i :: .ref q :: st) (mi, ml, mr, nx) Q = (vp_in i (kAl q) ∧ kJ 94 13 [l0, l1, l2, l3] (.int (mi q i.toNatClampNeg) :: st) (mi, ml, mr, nx) Q) := kg_aldJ d94_12 rfl (kAr_of h)
theorem d94_13 : decode (mB 94) 13 = .ok (.iadd, 1) := by decide +kernel
theorem s94_13 {l0 l1 l2 l3 : Option Value} {st : List Value} {a b : Int32} {m : kMem} {Q : Option Value → kMem → Prop} : kJ 94 13 [l0, l1, l2, l3] (.int b :: .int a :: st) m Q = kJ 94 14 [l0, l1, l2, l3] (.int (a + b) :: st) m Q := kJ_next d94_13 rfl
theorem d94_14 : decode (mB 94) 14 = .ok (.istore_n 2, 1) := by decide +kernel
theorem s94_14 {l0 l1 l2 l3 : Option Value} {st : List Value} {x : Int32} {m : kMem} {Q : Option Value → kMem → Prop} (hp : kNL l1 = true) : kJ 94 14 [l0, l1, l2, l3] (.int x :: st) m Q = kJ 94 15 [l0, l1, some (.int x), l3] st m Q := kJ_next d94_14 (kg_sti (Nat.le_of_ble_eq_true rfl) hp)
theorem d94_15 : decode (mB 94) 15 = .ok (.iinc 3 1, 3) := by decide +kernel
theorem s94_15 {l0 l1 l2 : Option Value} {st : List Value} {x : Int32} {m : kMem} {Q : Option Value → kMem → Prop} (hp : kNL l2 = true) : kJ 94 15 [l0, l1, l2, some (.int x)] st m Q = kJ 94 18 [l0, l1, l2, some (.int (x + (nI 1)))] st m Q := kJ_next d94_15 (kg_inc rfl (Nat.le_of_ble_eq_true rfl) hp)
theorem d94_18 : decode (mB 94) 18 = .ok (.goto (-14), 3) := by decide +kernel
theorem s94_18 {l0 l1 l2 l3 : Option Value} {st : List Value} {m : kMem} {Q : Option Value → kMem → Prop} : kJ 94 18 [l0, l1, l2, l3] st m Q = kJ 94 4 [l0, l1, l2, l3] st m Q := kJ_next d94_18 rfl
theorem d94_21 : decode (mB 94) 21 = .ok (.iload_n 2, 1) := by decide +kernel
theorem s94_21 {l0 l1 l3 : Option Value} {st : List Value} {x : Int32} {m : kMem} {Q : Option Value → kMem → Prop} : kJ 94 21 [l0, l1, some (.int x), l3] st m Q = kJ 94 22 [l0, l1, some (.int x), l3] (.int x :: st) m Q := kJ_next d94_21 rfl
theorem d94_22 : decode (mB 94) 22 = .ok (.ireturn, 1) := by decide +kernel
theorem s94_22 {l0 l1 l2 l3 : Option Value} {x : Int32} {m : kMem} {Q : Option Value → kMem → Prop} : kJ 94 22 [l0, l1, l2, l3] [.int x] m Q = Q (some (.int x)) m := kJ_ret d94_22 rfl
theorem d95_0 : decode (mB 95) 0 = .ok (.aload_n 0, 1) := by decide +kernel
theorem s95_0 {l1 : Option Value} {st : List Value} {x : Nat} {m : kMem} {Q : Option Value → kMem → Prop} : kJ 95 0 [some (.ref x), l1] st m Q = kJ 95 1 [some (.ref x), l1] (.ref x :: st) m Q := kJ_next d95_0 rfl
theorem d95_1 : decode (mB 95) 1 = .ok (.getfield 16, 3) := by decide +kernel
theorem s95_1 {l0 l1 : Option Value} {st : List Value} {q : Nat} {mi : Nat → Nat → Int32} {ml : Nat → Nat → Int64} {mr : Nat → Nat → Option Nat} {nx : Nat} {Q : Option Value → kMem → Prop} (h : kIs nx q 4 = true) : kJ 95 1 [l0, l1] (.ref q :: st) (mi, ml, mr, nx) Q = kJ 95 4 [l0, l1] (va_rf (mr q 1) :: st) (mi, ml, mr, nx) Q := kJ_next d95_1 (kg_getr 4 1 rfl h (by decide))
theorem d95_4 : decode (mB 95) 4 = .ok (.aload_n 0, 1) := by decide +kernel
theorem s95_4 {l1 : Option Value} {st : List Value} {x : Nat} {m : kMem} {Q : Option Value → kMem → Prop} : kJ 95 4 [some (.ref x), l1] st m Q = kJ 95 5 [some (.ref x), l1] (.ref x :: st) m Q := kJ_next d95_4 rfl
theorem d95_5 : decode (mB 95) 5 = .ok (.getfield 10, 3) := by decide +kernel
theorem s95_5 {l0 l1 : Option Value} {st : List Value} {q : Nat} {mi : Nat → Nat → Int32} {ml : Nat → Nat → Int64} {mr : Nat → Nat → Option Nat} {nx : Nat} {Q : Option Value → kMem → Prop} (h : kIs nx q 4 = true) : kJ 95 5 [l0, l1] (.ref q :: st) (mi, ml, mr, nx) Q = kJ 95 8 [l0, l1] (va_rf (mr q 0) :: st) (mi, ml, mr, nx) Q := kJ_next d95_5 (kg_getr 4 0 rfl h (by decide))
theorem d95_8 : decode (mB 95) 8 = .ok (.invokevirtual 81, 3) := by decide +kernel
theorem s95_8 {l0 l1 : Option Value} {v0 : Nat} {v1 : Nat} {m : kMem} {Q : Option Value → kMem → Prop} (h : kIs m.2.2.2 v1 1 = true) : kJ 95 8 [l0, l1] [.ref v0, .ref v1] m Q = kJ 6 0 [some (.ref v1), some (.ref v0)] [] m (fun v m2 => kJ 95 11 [l0, l1] (v.toList ++ []) m2 Q) := kJ_call d95_8 (kg_callv 6 1 rfl rfl rfl rfl (Nat.le_of_ble_eq_true rfl) (Nat.le_of_ble_eq_true rfl) (Nat.le_of_ble_eq_true rfl) h rfl)
theorem d95_11 : decode (mB 95) 11 = .ok (.aload_n 0, 1) := by decide +kernel
theorem s95_11 {l1 : Option Value} {st : List Value} {x : Nat} {m : kMem} {Q : Option Value → kMem → Prop} : kJ 95 11 [some (.ref x), l1] st m Q = kJ 95 12 [some (.ref x), l1] (.ref x :: st) m Q := kJ_next d95_11 rfl
theorem d95_12 : decode (mB 95) 12 = .ok (.getfield 16, 3) := by decide +kernel
theorem s95_12 {l0 l1 : Option Value} {st : List Value} {q : Nat} {mi : Nat → Nat → Int32} {ml : Nat → Nat → Int64} {mr : Nat → Nat → Option Nat} {nx : Nat} {Q : Option Value → kMem → Prop} (h : kIs nx q 4 = true) : kJ 95 12 [l0, l1] (.ref q :: st) (mi, ml, mr, nx) Q = kJ 95 15 [l0, l1] (va_rf (mr q 1) :: st) (mi, ml, mr, nx) Q := kJ_next d95_12 (kg_getr 4 1 rfl h (by decide))
theorem d95_15 : decode (mB 95) 15 = .ok (.iload_n 1, 1) := by decide +kernel
theorem s95_15 {l0 : Option Value} {st : List Value} {x : Int32} {m : kMem} {Q : Option Value → kMem → Prop} : kJ 95 15 [l0, some (.int x)] st m Q = kJ 95 16 [l0, some (.int x)] (.int x :: st) m Q := kJ_next d95_15 rfl
theorem d95_16 : decode (mB 95) 16 = .ok (.invokevirtual 177, 3) := by decide +kernel
theorem s95_16 {l0 l1 : Option Value} {v0 : Int32} {v1 : Nat} {m : kMem} {Q : Option Value → kMem → Prop} (h : kIs m.2.2.2 v1 1 = true) : kJ 95 16 [l0, l1] [.int v0, .ref v1] m Q = kJ 21 0 [some (.ref v1), some (.int v0)] [] m (fun v m2 => kJ 95 19 [l0, l1] (v.toList ++ []) m2 Q) := kJ_call d95_16 (kg_callv 21 1 rfl rfl rfl rfl (Nat.le_of_ble_eq_true rfl) (Nat.le_of_ble_eq_true rfl) (Nat.le_of_ble_eq_true rfl) h rfl)
theorem d95_19 : decode (mB 95) 19 = .ok (.ireturn, 1) := by decide +kernel
theorem s95_19 {l0 l1 : Option Value} {x : Int32} {m : kMem} {Q : Option Value → kMem → Prop} : kJ 95 19 [l0, l1] [.int x] m Q = Q (some (.int x)) m := kJ_ret d95_19 rfl
theorem d96_0 : decode (mB 96) 0 = .ok (.iload_n 1, 1) := by decide +kernel
theorem s96_0 {l0 l2 : Option Value} {st : List Value} {x : Int32} {m : kMem} {Q : Option Value → kMem → Prop} : kJ 96 0 [l0, some (.int x), l2] st m Q = kJ 96 1 [l0, some (.int x), l2] (.int x :: st) m Q := kJ_next d96_0 rfl
theorem d96_1 : decode (mB 96) 1 = .ok (.bipush 9, 2) := by decide +kernel
theorem s96_1 {l0 l1 l2 : Option Value} {st : List Value} {m : kMem} {Q : Option Value → kMem → Prop} : kJ 96 1 [l0, l1, l2] st m Q = kJ 96 3 [l0, l1, l2] (.int (nI 9) :: st) m Q := kJ_next d96_1 rfl
theorem d96_3 : decode (mB 96) 3 = .ok (.isub, 1) := by decide +kernel
theorem s96_3 {l0 l1 l2 : Option Value} {st : List Value} {a b : Int32} {m : kMem} {Q : Option Value → kMem → Prop} : kJ 96 3 [l0, l1, l2] (.int b :: .int a :: st) m Q = kJ 96 4 [l0, l1, l2] (.int (a - b) :: st) m Q := kJ_next d96_3 rfl
theorem d96_4 : decode (mB 96) 4 = .ok (.istore_n 2, 1) := by decide +kernel
theorem s96_4 {l0 l1 l2 : Option Value} {st : List Value} {x : Int32} {m : kMem} {Q : Option Value → kMem → Prop} (hp : kNL l1 = true) : kJ 96 4 [l0, l1, l2] (.int x :: st) m Q = kJ 96 5 [l0, l1, some (.int x)] st m Q := kJ_next d96_4 (kg_sti (Nat.le_of_ble_eq_true rfl) hp)
theorem d96_5 : decode (mB 96) 5 = .ok (.iload_n 0, 1) := by decide +kernel
theorem s96_5 {l1 l2 : Option Value} {st : List Value} {x : Int32} {m : kMem} {Q : Option Value → kMem → Prop} : kJ 96 5 [some (.int x), l1, l2] st m Q = kJ 96 6 [some (.int x), l1, l2] (.int x :: st) m Q := kJ_next d96_5 rfl
theorem d96_6 : decode (mB 96) 6 = .ok (.tableswitch 56 1 3 #[26, 30, 42], 26) := by decide +kernel
theorem s96_6 {l0 l1 l2 : Option Value} {st : List Value} {a : Int32} {m : kMem} {Q : Option Value → kMem → Prop} : kJ 96 6 [l0, l1, l2] (.int a :: st) m Q = (if a = (nI 1) then kJ 96 32 [l0, l1, l2] st m Q else if a = (nI 2) then kJ 96 36 [l0, l1, l2] st m Q else if a = (nI 3) then kJ 96 48 [l0, l1, l2] st m Q else kJ 96 62 [l0, l1, l2] st m Q) := by
  by_cases h1 : a = nI 1
  · subst h1; exact kJ_next d96_6 rfl
  rw [if_neg h1]
  by_cases h2 : a = nI 2
  · subst h2; exact kJ_next d96_6 rfl
  rw [if_neg h2]
  by_cases h3 : a = nI 3
  · subst h3; exact kJ_next d96_6 rfl
  rw [if_neg h3]
  by_cases hz : ∀ j, j < 1 → a ≠ nI j
  · refine kJ_next d96_6 (if_pos (c := a.toInt < 1 ∨ (3 : Int) < a.toInt) ?_)
    have hr := kg_rng (a := a) (n := 3) (by decide) (fun j hj => by
      rcases Nat.lt_or_ge j 1 with hl | hl
      · exact hz j hl
      · have hj2 : j = 1 ∨ j = 2 ∨ j = 3 := by omega
        rcases hj2 with rfl | rfl | rfl
        · exact h1
        · exact h2
        · exact h3
      )
    omega
  · have hz2 : a = nI 0 := by
      apply Classical.byContradiction; intro hn; apply hz; intro j hj e; apply hn
      have hj2 : j = 0 := by omega
      rcases hj2 with rfl <;> simp [e]
    rcases hz2 with rfl
    · exact kJ_next d96_6 rfl
theorem d96_32 : decode (mB 96) 32 = .ok (.iconst 2, 1) := by decide +kernel
theorem s96_32 {l0 l1 l2 : Option Value} {st : List Value} {m : kMem} {Q : Option Value → kMem → Prop} : kJ 96 32 [l0, l1, l2] st m Q = kJ 96 33 [l0, l1, l2] (.int (nI 2) :: st) m Q := kJ_next d96_32 rfl
theorem d96_33 : decode (mB 96) 33 = .ok (.iload_n 2, 1) := by decide +kernel
theorem s96_33 {l0 l1 : Option Value} {st : List Value} {x : Int32} {m : kMem} {Q : Option Value → kMem → Prop} : kJ 96 33 [l0, l1, some (.int x)] st m Q = kJ 96 34 [l0, l1, some (.int x)] (.int x :: st) m Q := kJ_next d96_33 rfl
theorem d96_34 : decode (mB 96) 34 = .ok (.imul, 1) := by decide +kernel
theorem s96_34 {l0 l1 l2 : Option Value} {st : List Value} {a b : Int32} {m : kMem} {Q : Option Value → kMem → Prop} : kJ 96 34 [l0, l1, l2] (.int b :: .int a :: st) m Q = kJ 96 35 [l0, l1, l2] (.int (a * b) :: st) m Q := kJ_next d96_34 rfl
theorem d96_35 : decode (mB 96) 35 = .ok (.ireturn, 1) := by decide +kernel
theorem s96_35 {l0 l1 l2 : Option Value} {x : Int32} {m : kMem} {Q : Option Value → kMem → Prop} : kJ 96 35 [l0, l1, l2] [.int x] m Q = Q (some (.int x)) m := kJ_ret d96_35 rfl
theorem d96_36 : decode (mB 96) 36 = .ok (.iload_n 2, 1) := by decide +kernel
theorem s96_36 {l0 l1 : Option Value} {st : List Value} {x : Int32} {m : kMem} {Q : Option Value → kMem → Prop} : kJ 96 36 [l0, l1, some (.int x)] st m Q = kJ 96 37 [l0, l1, some (.int x)] (.int x :: st) m Q := kJ_next d96_36 rfl
theorem d96_37 : decode (mB 96) 37 = .ok (.ifCond .ge 9, 3) := by decide +kernel
theorem s96_37 {l0 l1 l2 : Option Value} {st : List Value} {a : Int32} {m : kMem} {Q : Option Value → kMem → Prop} : kJ 96 37 [l0, l1, l2] (.int a :: st) m Q = (if 0 ≤ a then kJ 96 46 [l0, l1, l2] st m Q else kJ 96 40 [l0, l1, l2] st m Q) := kJ_if d96_37 rfl (fun h => kJ_next d96_37 h) (fun h => kJ_next d96_37 h)
theorem d96_40 : decode (mB 96) 40 = .ok (.iload_n 2, 1) := by decide +kernel
theorem s96_40 {l0 l1 : Option Value} {st : List Value} {x : Int32} {m : kMem} {Q : Option Value → kMem → Prop} : kJ 96 40 [l0, l1, some (.int x)] st m Q = kJ 96 41 [l0, l1, some (.int x)] (.int x :: st) m Q := kJ_next d96_40 rfl
theorem d96_41 : decode (mB 96) 41 = .ok (.iconst 2, 1) := by decide +kernel
theorem s96_41 {l0 l1 l2 : Option Value} {st : List Value} {m : kMem} {Q : Option Value → kMem → Prop} : kJ 96 41 [l0, l1, l2] st m Q = kJ 96 42 [l0, l1, l2] (.int (nI 2) :: st) m Q := kJ_next d96_41 rfl
theorem d96_42 : decode (mB 96) 42 = .ok (.idiv, 1) := by decide +kernel
theorem s96_42 {l0 l1 l2 : Option Value} {st : List Value} {a b : Int32} {m : kMem} {Q : Option Value → kMem → Prop} (hb : ¬ b = 0) : kJ 96 42 [l0, l1, l2] (.int b :: .int a :: st) m Q = kJ 96 43 [l0, l1, l2] (.int (a / b) :: st) m Q := kJ_next d96_42 (kg_idiv hb)
theorem d96_43 : decode (mB 96) 43 = .ok (.goto 4, 3) := by decide +kernel
theorem s96_43 {l0 l1 l2 : Option Value} {st : List Value} {m : kMem} {Q : Option Value → kMem → Prop} : kJ 96 43 [l0, l1, l2] st m Q = kJ 96 47 [l0, l1, l2] st m Q := kJ_next d96_43 rfl
theorem d96_46 : decode (mB 96) 46 = .ok (.iload_n 2, 1) := by decide +kernel
theorem s96_46 {l0 l1 : Option Value} {st : List Value} {x : Int32} {m : kMem} {Q : Option Value → kMem → Prop} : kJ 96 46 [l0, l1, some (.int x)] st m Q = kJ 96 47 [l0, l1, some (.int x)] (.int x :: st) m Q := kJ_next d96_46 rfl
theorem d96_47 : decode (mB 96) 47 = .ok (.ireturn, 1) := by decide +kernel
theorem s96_47 {l0 l1 l2 : Option Value} {x : Int32} {m : kMem} {Q : Option Value → kMem → Prop} : kJ 96 47 [l0, l1, l2] [.int x] m Q = Q (some (.int x)) m := kJ_ret d96_47 rfl
theorem d96_48 : decode (mB 96) 48 = .ok (.iload_n 2, 1) := by decide +kernel
theorem s96_48 {l0 l1 : Option Value} {st : List Value} {x : Int32} {m : kMem} {Q : Option Value → kMem → Prop} : kJ 96 48 [l0, l1, some (.int x)] st m Q = kJ 96 49 [l0, l1, some (.int x)] (.int x :: st) m Q := kJ_next d96_48 rfl
theorem d96_49 : decode (mB 96) 49 = .ok (.ifCond .ge 9, 3) := by decide +kernel
theorem s96_49 {l0 l1 l2 : Option Value} {st : List Value} {a : Int32} {m : kMem} {Q : Option Value → kMem → Prop} : kJ 96 49 [l0, l1, l2] (.int a :: st) m Q = (if 0 ≤ a then kJ 96 58 [l0, l1, l2] st m Q else kJ 96 52 [l0, l1, l2] st m Q) := kJ_if d96_49 rfl (fun h => kJ_next d96_49 h) (fun h => kJ_next d96_49 h)
theorem d96_52 : decode (mB 96) 52 = .ok (.iload_n 2, 1) := by decide +kernel
theorem s96_52 {l0 l1 : Option Value} {st : List Value} {x : Int32} {m : kMem} {Q : Option Value → kMem → Prop} : kJ 96 52 [l0, l1, some (.int x)] st m Q = kJ 96 53 [l0, l1, some (.int x)] (.int x :: st) m Q := kJ_next d96_52 rfl
theorem d96_53 : decode (mB 96) 53 = .ok (.iconst 2, 1) := by decide +kernel
theorem s96_53 {l0 l1 l2 : Option Value} {st : List Value} {m : kMem} {Q : Option Value → kMem → Prop} : kJ 96 53 [l0, l1, l2] st m Q = kJ 96 54 [l0, l1, l2] (.int (nI 2) :: st) m Q := kJ_next d96_53 rfl
theorem d96_54 : decode (mB 96) 54 = .ok (.idiv, 1) := by decide +kernel
theorem s96_54 {l0 l1 l2 : Option Value} {st : List Value} {a b : Int32} {m : kMem} {Q : Option Value → kMem → Prop} (hb : ¬ b = 0) : kJ 96 54 [l0, l1, l2] (.int b :: .int a :: st) m Q = kJ 96 55 [l0, l1, l2] (.int (a / b) :: st) m Q := kJ_next d96_54 (kg_idiv hb)
theorem d96_55 : decode (mB 96) 55 = .ok (.goto 4, 3) := by decide +kernel
theorem s96_55 {l0 l1 l2 : Option Value} {st : List Value} {m : kMem} {Q : Option Value → kMem → Prop} : kJ 96 55 [l0, l1, l2] st m Q = kJ 96 59 [l0, l1, l2] st m Q := kJ_next d96_55 rfl
theorem d96_58 : decode (mB 96) 58 = .ok (.iload_n 2, 1) := by decide +kernel
theorem s96_58 {l0 l1 : Option Value} {st : List Value} {x : Int32} {m : kMem} {Q : Option Value → kMem → Prop} : kJ 96 58 [l0, l1, some (.int x)] st m Q = kJ 96 59 [l0, l1, some (.int x)] (.int x :: st) m Q := kJ_next d96_58 rfl
theorem d96_59 : decode (mB 96) 59 = .ok (.iconst 1, 1) := by decide +kernel
theorem s96_59 {l0 l1 l2 : Option Value} {st : List Value} {m : kMem} {Q : Option Value → kMem → Prop} : kJ 96 59 [l0, l1, l2] st m Q = kJ 96 60 [l0, l1, l2] (.int (nI 1) :: st) m Q := kJ_next d96_59 rfl
theorem d96_60 : decode (mB 96) 60 = .ok (.iadd, 1) := by decide +kernel
theorem s96_60 {l0 l1 l2 : Option Value} {st : List Value} {a b : Int32} {m : kMem} {Q : Option Value → kMem → Prop} : kJ 96 60 [l0, l1, l2] (.int b :: .int a :: st) m Q = kJ 96 61 [l0, l1, l2] (.int (a + b) :: st) m Q := kJ_next d96_60 rfl
theorem d96_61 : decode (mB 96) 61 = .ok (.ireturn, 1) := by decide +kernel
theorem s96_61 {l0 l1 l2 : Option Value} {x : Int32} {m : kMem} {Q : Option Value → kMem → Prop} : kJ 96 61 [l0, l1, l2] [.int x] m Q = Q (some (.int x)) m := kJ_ret d96_61 rfl
theorem d96_62 : decode (mB 96) 62 = .ok (.iload_n 2, 1) := by decide +kernel
theorem s96_62 {l0 l1 : Option Value} {st : List Value} {x : Int32} {m : kMem} {Q : Option Value → kMem → Prop} : kJ 96 62 [l0, l1, some (.int x)] st m Q = kJ 96 63 [l0, l1, some (.int x)] (.int x :: st) m Q := kJ_next d96_62 rfl
theorem d96_63 : decode (mB 96) 63 = .ok (.ireturn, 1) := by decide +kernel
theorem s96_63 {l0 l1 l2 : Option Value} {x : Int32} {m : kMem} {Q : Option Value → kMem → Prop} : kJ 96 63 [l0, l1, l2] [.int x] m Q = Q (some (.int x)) m := kJ_ret d96_63 rfl
theorem d97_0 : decode (mB 97) 0 = .ok (.iload_n 0, 1) := by decide +kernel
theorem s97_0 {l1 : Option Value} {st : List Value} {x : Int32} {m : kMem} {Q : Option Value → kMem → Prop} : kJ 97 0 [some (.int x), l1] st m Q = kJ 97 1 [some (.int x), l1] (.int x :: st) m Q := kJ_next d97_0 rfl
theorem d97_1 : decode (mB 97) 1 = .ok (.lookupswitch 51 #[(0, 27), (1, 39)], 27) := by decide +kernel
theorem s97_1 {l0 l1 : Option Value} {st : List Value} {a : Int32} {m : kMem} {Q : Option Value → kMem → Prop} : kJ 97 1 [l0, l1] (.int a :: st) m Q = (if a = (nI 0) then kJ 97 28 [l0, l1] st m Q else if a = (nI 1) then kJ 97 40 [l0, l1] st m Q else kJ 97 52 [l0, l1] st m Q) := by
  by_cases h0 : a = nI 0
  · subst h0; exact kJ_next d97_1 rfl
  rw [if_neg h0]
  by_cases h1 : a = nI 1
  · subst h1; exact kJ_next d97_1 rfl
  rw [if_neg h1]
  refine kJ_next d97_1 ?_
  have g0 : ¬ a.toInt = 0 := fun e => h0 (Int32.toInt_inj.mp (by rw [e]; decide))
  have g1 : ¬ a.toInt = 1 := fun e => h1 (Int32.toInt_inj.mp (by rw [e]; decide))
  simp [kst, Op.lookupswitch.offset, g0, g1, kJmp, kGo, eq_comm]
theorem d97_28 : decode (mB 97) 28 = .ok (.iload_n 1, 1) := by decide +kernel
theorem s97_28 {l0 : Option Value} {st : List Value} {x : Int32} {m : kMem} {Q : Option Value → kMem → Prop} : kJ 97 28 [l0, some (.int x)] st m Q = kJ 97 29 [l0, some (.int x)] (.int x :: st) m Q := kJ_next d97_28 rfl
theorem d97_29 : decode (mB 97) 29 = .ok (.bipush 6, 2) := by decide +kernel
theorem s97_29 {l0 l1 : Option Value} {st : List Value} {m : kMem} {Q : Option Value → kMem → Prop} : kJ 97 29 [l0, l1] st m Q = kJ 97 31 [l0, l1] (.int (nI 6) :: st) m Q := kJ_next d97_29 rfl
theorem d97_31 : decode (mB 97) 31 = .ok (.if_icmp .lt 7, 3) := by decide +kernel
theorem s97_31 {l0 l1 : Option Value} {st : List Value} {a b : Int32} {m : kMem} {Q : Option Value → kMem → Prop} : kJ 97 31 [l0, l1] (.int b :: .int a :: st) m Q = (if a < b then kJ 97 38 [l0, l1] st m Q else kJ 97 34 [l0, l1] st m Q) := kJ_if d97_31 rfl (fun h => kJ_next d97_31 h) (fun h => kJ_next d97_31 h)
theorem d97_34 : decode (mB 97) 34 = .ok (.iconst 1, 1) := by decide +kernel
theorem s97_34 {l0 l1 : Option Value} {st : List Value} {m : kMem} {Q : Option Value → kMem → Prop} : kJ 97 34 [l0, l1] st m Q = kJ 97 35 [l0, l1] (.int (nI 1) :: st) m Q := kJ_next d97_34 rfl
theorem d97_35 : decode (mB 97) 35 = .ok (.goto 4, 3) := by decide +kernel
theorem s97_35 {l0 l1 : Option Value} {st : List Value} {m : kMem} {Q : Option Value → kMem → Prop} : kJ 97 35 [l0, l1] st m Q = kJ 97 39 [l0, l1] st m Q := kJ_next d97_35 rfl
theorem d97_38 : decode (mB 97) 38 = .ok (.iconst 0, 1) := by decide +kernel
theorem s97_38 {l0 l1 : Option Value} {st : List Value} {m : kMem} {Q : Option Value → kMem → Prop} : kJ 97 38 [l0, l1] st m Q = kJ 97 39 [l0, l1] (.int (nI 0) :: st) m Q := kJ_next d97_38 rfl
theorem d97_39 : decode (mB 97) 39 = .ok (.ireturn, 1) := by decide +kernel
theorem s97_39 {l0 l1 : Option Value} {x : Int32} {m : kMem} {Q : Option Value → kMem → Prop} (hx : x = 0 ∨ x = 1) : kJ 97 39 [l0, l1] [.int x] m Q = Q (some (.int x)) m := kJ_ret d97_39 (kg_retz (by decide) hx)
theorem d97_40 : decode (mB 97) 40 = .ok (.iload_n 1, 1) := by decide +kernel
theorem s97_40 {l0 : Option Value} {st : List Value} {x : Int32} {m : kMem} {Q : Option Value → kMem → Prop} : kJ 97 40 [l0, some (.int x)] st m Q = kJ 97 41 [l0, some (.int x)] (.int x :: st) m Q := kJ_next d97_40 rfl
theorem d97_41 : decode (mB 97) 41 = .ok (.bipush 9, 2) := by decide +kernel
theorem s97_41 {l0 l1 : Option Value} {st : List Value} {m : kMem} {Q : Option Value → kMem → Prop} : kJ 97 41 [l0, l1] st m Q = kJ 97 43 [l0, l1] (.int (nI 9) :: st) m Q := kJ_next d97_41 rfl
theorem d97_43 : decode (mB 97) 43 = .ok (.if_icmp .lt 7, 3) := by decide +kernel
theorem s97_43 {l0 l1 : Option Value} {st : List Value} {a b : Int32} {m : kMem} {Q : Option Value → kMem → Prop} : kJ 97 43 [l0, l1] (.int b :: .int a :: st) m Q = (if a < b then kJ 97 50 [l0, l1] st m Q else kJ 97 46 [l0, l1] st m Q) := kJ_if d97_43 rfl (fun h => kJ_next d97_43 h) (fun h => kJ_next d97_43 h)
theorem d97_46 : decode (mB 97) 46 = .ok (.iconst 1, 1) := by decide +kernel
theorem s97_46 {l0 l1 : Option Value} {st : List Value} {m : kMem} {Q : Option Value → kMem → Prop} : kJ 97 46 [l0, l1] st m Q = kJ 97 47 [l0, l1] (.int (nI 1) :: st) m Q := kJ_next d97_46 rfl
theorem d97_47 : decode (mB 97) 47 = .ok (.goto 4, 3) := by decide +kernel
theorem s97_47 {l0 l1 : Option Value} {st : List Value} {m : kMem} {Q : Option Value → kMem → Prop} : kJ 97 47 [l0, l1] st m Q = kJ 97 51 [l0, l1] st m Q := kJ_next d97_47 rfl
theorem d97_50 : decode (mB 97) 50 = .ok (.iconst 0, 1) := by decide +kernel
theorem s97_50 {l0 l1 : Option Value} {st : List Value} {m : kMem} {Q : Option Value → kMem → Prop} : kJ 97 50 [l0, l1] st m Q = kJ 97 51 [l0, l1] (.int (nI 0) :: st) m Q := kJ_next d97_50 rfl
theorem d97_51 : decode (mB 97) 51 = .ok (.ireturn, 1) := by decide +kernel
theorem s97_51 {l0 l1 : Option Value} {x : Int32} {m : kMem} {Q : Option Value → kMem → Prop} (hx : x = 0 ∨ x = 1) : kJ 97 51 [l0, l1] [.int x] m Q = Q (some (.int x)) m := kJ_ret d97_51 (kg_retz (by decide) hx)
theorem d97_52 : decode (mB 97) 52 = .ok (.iconst 1, 1) := by decide +kernel
theorem s97_52 {l0 l1 : Option Value} {st : List Value} {m : kMem} {Q : Option Value → kMem → Prop} : kJ 97 52 [l0, l1] st m Q = kJ 97 53 [l0, l1] (.int (nI 1) :: st) m Q := kJ_next d97_52 rfl
theorem d97_53 : decode (mB 97) 53 = .ok (.ireturn, 1) := by decide +kernel
theorem s97_53 {l0 l1 : Option Value} {x : Int32} {m : kMem} {Q : Option Value → kMem → Prop} (hx : x = 0 ∨ x = 1) : kJ 97 53 [l0, l1] [.int x] m Q = Q (some (.int x)) m := kJ_ret d97_53 (kg_retz (by decide) hx)
theorem d98_0 : decode (mB 98) 0 = .ok (.iload_n 0, 1) := by decide +kernel
theorem s98_0 {l1 : Option Value} {st : List Value} {x : Int32} {m : kMem} {Q : Option Value → kMem → Prop} : kJ 98 0 [some (.int x), l1] st m Q = kJ 98 1 [some (.int x), l1] (.int x :: st) m Q := kJ_next d98_0 rfl
theorem d98_1 : decode (mB 98) 1 = .ok (.lookupswitch 61 #[(2, 27), (3, 44)], 27) := by decide +kernel
theorem s98_1 {l0 l1 : Option Value} {st : List Value} {a : Int32} {m : kMem} {Q : Option Value → kMem → Prop} : kJ 98 1 [l0, l1] (.int a :: st) m Q = (if a = (nI 2) then kJ 98 28 [l0, l1] st m Q else if a = (nI 3) then kJ 98 45 [l0, l1] st m Q else kJ 98 62 [l0, l1] st m Q) := by
  by_cases h2 : a = nI 2
  · subst h2; exact kJ_next d98_1 rfl
  rw [if_neg h2]
  by_cases h3 : a = nI 3
  · subst h3; exact kJ_next d98_1 rfl
  rw [if_neg h3]
  refine kJ_next d98_1 ?_
  have g2 : ¬ a.toInt = 2 := fun e => h2 (Int32.toInt_inj.mp (by rw [e]; decide))
  have g3 : ¬ a.toInt = 3 := fun e => h3 (Int32.toInt_inj.mp (by rw [e]; decide))
  simp [kst, Op.lookupswitch.offset, g2, g3, kJmp, kGo, eq_comm]
theorem d98_28 : decode (mB 98) 28 = .ok (.iload_n 1, 1) := by decide +kernel
theorem s98_28 {l0 : Option Value} {st : List Value} {x : Int32} {m : kMem} {Q : Option Value → kMem → Prop} : kJ 98 28 [l0, some (.int x)] st m Q = kJ 98 29 [l0, some (.int x)] (.int x :: st) m Q := kJ_next d98_28 rfl
theorem d98_29 : decode (mB 98) 29 = .ok (.iconst 1, 1) := by decide +kernel
theorem s98_29 {l0 l1 : Option Value} {st : List Value} {m : kMem} {Q : Option Value → kMem → Prop} : kJ 98 29 [l0, l1] st m Q = kJ 98 30 [l0, l1] (.int (nI 1) :: st) m Q := kJ_next d98_29 rfl
theorem d98_30 : decode (mB 98) 30 = .ok (.iadd, 1) := by decide +kernel
theorem s98_30 {l0 l1 : Option Value} {st : List Value} {a b : Int32} {m : kMem} {Q : Option Value → kMem → Prop} : kJ 98 30 [l0, l1] (.int b :: .int a :: st) m Q = kJ 98 31 [l0, l1] (.int (a + b) :: st) m Q := kJ_next d98_30 rfl
theorem d98_31 : decode (mB 98) 31 = .ok (.bipush 18, 2) := by decide +kernel
theorem s98_31 {l0 l1 : Option Value} {st : List Value} {m : kMem} {Q : Option Value → kMem → Prop} : kJ 98 31 [l0, l1] st m Q = kJ 98 33 [l0, l1] (.int (nI 18) :: st) m Q := kJ_next d98_31 rfl
theorem d98_33 : decode (mB 98) 33 = .ok (.if_icmp .le 8, 3) := by decide +kernel
theorem s98_33 {l0 l1 : Option Value} {st : List Value} {a b : Int32} {m : kMem} {Q : Option Value → kMem → Prop} : kJ 98 33 [l0, l1] (.int b :: .int a :: st) m Q = (if a ≤ b then kJ 98 41 [l0, l1] st m Q else kJ 98 36 [l0, l1] st m Q) := kJ_if d98_33 rfl (fun h => kJ_next d98_33 h) (fun h => kJ_next d98_33 h)
theorem d98_36 : decode (mB 98) 36 = .ok (.bipush 18, 2) := by decide +kernel
theorem s98_36 {l0 l1 : Option Value} {st : List Value} {m : kMem} {Q : Option Value → kMem → Prop} : kJ 98 36 [l0, l1] st m Q = kJ 98 38 [l0, l1] (.int (nI 18) :: st) m Q := kJ_next d98_36 rfl
theorem d98_38 : decode (mB 98) 38 = .ok (.goto 6, 3) := by decide +kernel
theorem s98_38 {l0 l1 : Option Value} {st : List Value} {m : kMem} {Q : Option Value → kMem → Prop} : kJ 98 38 [l0, l1] st m Q = kJ 98 44 [l0, l1] st m Q := kJ_next d98_38 rfl
theorem d98_41 : decode (mB 98) 41 = .ok (.iload_n 1, 1) := by decide +kernel
theorem s98_41 {l0 : Option Value} {st : List Value} {x : Int32} {m : kMem} {Q : Option Value → kMem → Prop} : kJ 98 41 [l0, some (.int x)] st m Q = kJ 98 42 [l0, some (.int x)] (.int x :: st) m Q := kJ_next d98_41 rfl
theorem d98_42 : decode (mB 98) 42 = .ok (.iconst 1, 1) := by decide +kernel
theorem s98_42 {l0 l1 : Option Value} {st : List Value} {m : kMem} {Q : Option Value → kMem → Prop} : kJ 98 42 [l0, l1] st m Q = kJ 98 43 [l0, l1] (.int (nI 1) :: st) m Q := kJ_next d98_42 rfl
theorem d98_43 : decode (mB 98) 43 = .ok (.iadd, 1) := by decide +kernel
theorem s98_43 {l0 l1 : Option Value} {st : List Value} {a b : Int32} {m : kMem} {Q : Option Value → kMem → Prop} : kJ 98 43 [l0, l1] (.int b :: .int a :: st) m Q = kJ 98 44 [l0, l1] (.int (a + b) :: st) m Q := kJ_next d98_43 rfl
theorem d98_44 : decode (mB 98) 44 = .ok (.ireturn, 1) := by decide +kernel
theorem s98_44 {l0 l1 : Option Value} {x : Int32} {m : kMem} {Q : Option Value → kMem → Prop} : kJ 98 44 [l0, l1] [.int x] m Q = Q (some (.int x)) m := kJ_ret d98_44 rfl
theorem d98_45 : decode (mB 98) 45 = .ok (.iload_n 1, 1) := by decide +kernel
theorem s98_45 {l0 : Option Value} {st : List Value} {x : Int32} {m : kMem} {Q : Option Value → kMem → Prop} : kJ 98 45 [l0, some (.int x)] st m Q = kJ 98 46 [l0, some (.int x)] (.int x :: st) m Q := kJ_next d98_45 rfl
theorem d98_46 : decode (mB 98) 46 = .ok (.iconst 2, 1) := by decide +kernel
theorem s98_46 {l0 l1 : Option Value} {st : List Value} {m : kMem} {Q : Option Value → kMem → Prop} : kJ 98 46 [l0, l1] st m Q = kJ 98 47 [l0, l1] (.int (nI 2) :: st) m Q := kJ_next d98_46 rfl
theorem d98_47 : decode (mB 98) 47 = .ok (.iadd, 1) := by decide +kernel
theorem s98_47 {l0 l1 : Option Value} {st : List Value} {a b : Int32} {m : kMem} {Q : Option Value → kMem → Prop} : kJ 98 47 [l0, l1] (.int b :: .int a :: st) m Q = kJ 98 48 [l0, l1] (.int (a + b) :: st) m Q := kJ_next d98_47 rfl
theorem d98_48 : decode (mB 98) 48 = .ok (.bipush 18, 2) := by decide +kernel
theorem s98_48 {l0 l1 : Option Value} {st : List Value} {m : kMem} {Q : Option Value → kMem → Prop} : kJ 98 48 [l0, l1] st m Q = kJ 98 50 [l0, l1] (.int (nI 18) :: st) m Q := kJ_next d98_48 rfl
theorem d98_50 : decode (mB 98) 50 = .ok (.if_icmp .le 8, 3) := by decide +kernel
theorem s98_50 {l0 l1 : Option Value} {st : List Value} {a b : Int32} {m : kMem} {Q : Option Value → kMem → Prop} : kJ 98 50 [l0, l1] (.int b :: .int a :: st) m Q = (if a ≤ b then kJ 98 58 [l0, l1] st m Q else kJ 98 53 [l0, l1] st m Q) := kJ_if d98_50 rfl (fun h => kJ_next d98_50 h) (fun h => kJ_next d98_50 h)
theorem d98_53 : decode (mB 98) 53 = .ok (.bipush 18, 2) := by decide +kernel
theorem s98_53 {l0 l1 : Option Value} {st : List Value} {m : kMem} {Q : Option Value → kMem → Prop} : kJ 98 53 [l0, l1] st m Q = kJ 98 55 [l0, l1] (.int (nI 18) :: st) m Q := kJ_next d98_53 rfl
theorem d98_55 : decode (mB 98) 55 = .ok (.goto 6, 3) := by decide +kernel
theorem s98_55 {l0 l1 : Option Value} {st : List Value} {m : kMem} {Q : Option Value → kMem → Prop} : kJ 98 55 [l0, l1] st m Q = kJ 98 61 [l0, l1] st m Q := kJ_next d98_55 rfl
theorem d98_58 : decode (mB 98) 58 = .ok (.iload_n 1, 1) := by decide +kernel
theorem s98_58 {l0 : Option Value} {st : List Value} {x : Int32} {m : kMem} {Q : Option Value → kMem → Prop} : kJ 98 58 [l0, some (.int x)] st m Q = kJ 98 59 [l0, some (.int x)] (.int x :: st) m Q := kJ_next d98_58 rfl
theorem d98_59 : decode (mB 98) 59 = .ok (.iconst 2, 1) := by decide +kernel
theorem s98_59 {l0 l1 : Option Value} {st : List Value} {m : kMem} {Q : Option Value → kMem → Prop} : kJ 98 59 [l0, l1] st m Q = kJ 98 60 [l0, l1] (.int (nI 2) :: st) m Q := kJ_next d98_59 rfl
theorem d98_60 : decode (mB 98) 60 = .ok (.iadd, 1) := by decide +kernel
theorem s98_60 {l0 l1 : Option Value} {st : List Value} {a b : Int32} {m : kMem} {Q : Option Value → kMem → Prop} : kJ 98 60 [l0, l1] (.int b :: .int a :: st) m Q = kJ 98 61 [l0, l1] (.int (a + b) :: st) m Q := kJ_next d98_60 rfl
theorem d98_61 : decode (mB 98) 61 = .ok (.ireturn, 1) := by decide +kernel
theorem s98_61 {l0 l1 : Option Value} {x : Int32} {m : kMem} {Q : Option Value → kMem → Prop} : kJ 98 61 [l0, l1] [.int x] m Q = Q (some (.int x)) m := kJ_ret d98_61 rfl
theorem d98_62 : decode (mB 98) 62 = .ok (.iload_n 1, 1) := by decide +kernel
theorem s98_62 {l0 : Option Value} {st : List Value} {x : Int32} {m : kMem} {Q : Option Value → kMem → Prop} : kJ 98 62 [l0, some (.int x)] st m Q = kJ 98 63 [l0, some (.int x)] (.int x :: st) m Q := kJ_next d98_62 rfl
theorem d98_63 : decode (mB 98) 63 = .ok (.ireturn, 1) := by decide +kernel
theorem s98_63 {l0 l1 : Option Value} {x : Int32} {m : kMem} {Q : Option Value → kMem → Prop} : kJ 98 63 [l0, l1] [.int x] m Q = Q (some (.int x)) m := kJ_ret d98_63 rfl
theorem d99_0 : decode (mB 99) 0 = .ok (.lconst 1, 1) := by decide +kernel
theorem s99_0 {l0 l1 l2 l3 l4 l5 : Option Value} {st : List Value} {m : kMem} {Q : Option Value → kMem → Prop} : kJ 99 0 [l0, l1, l2, l3, l4, l5] st m Q = kJ 99 1 [l0, l1, l2, l3, l4, l5] (.long 1 :: st) m Q := kJ_next d99_0 rfl
theorem d99_1 : decode (mB 99) 1 = .ok (.lstore_n 3, 1) := by decide +kernel
theorem s99_1 {l0 l1 l2 l3 l4 l5 : Option Value} {st : List Value} {x : Int64} {m : kMem} {Q : Option Value → kMem → Prop} (hp : kNL l2 = true) : kJ 99 1 [l0, l1, l2, l3, l4, l5] (.long x :: st) m Q = kJ 99 2 [l0, l1, l2, some (.long x), none, l5] st m Q := kJ_next d99_1 (kg_stl (Nat.le_of_ble_eq_true rfl) hp)
theorem d99_2 : decode (mB 99) 2 = .ok (.iconst 0, 1) := by decide +kernel
theorem s99_2 {l0 l1 l2 l3 l4 l5 : Option Value} {st : List Value} {m : kMem} {Q : Option Value → kMem → Prop} : kJ 99 2 [l0, l1, l2, l3, l4, l5] st m Q = kJ 99 3 [l0, l1, l2, l3, l4, l5] (.int (nI 0) :: st) m Q := kJ_next d99_2 rfl
theorem d99_3 : decode (mB 99) 3 = .ok (.istore 5, 2) := by decide +kernel
theorem s99_3 {l0 l1 l2 l3 l4 l5 : Option Value} {st : List Value} {x : Int32} {m : kMem} {Q : Option Value → kMem → Prop} (hp : kNL l4 = true) : kJ 99 3 [l0, l1, l2, l3, l4, l5] (.int x :: st) m Q = kJ 99 5 [l0, l1, l2, l3, l4, some (.int x)] st m Q := kJ_next d99_3 (kg_sti (Nat.le_of_ble_eq_true rfl) hp)
theorem d99_5 : decode (mB 99) 5 = .ok (.iload 5, 2) := by decide +kernel
theorem s99_5 {l0 l1 l2 l3 l4 : Option Value} {st : List Value} {x : Int32} {m : kMem} {Q : Option Value → kMem → Prop} : kJ 99 5 [l0, l1, l2, l3, l4, some (.int x)] st m Q = kJ 99 7 [l0, l1, l2, l3, l4, some (.int x)] (.int x :: st) m Q := kJ_next d99_5 rfl
theorem d99_7 : decode (mB 99) 7 = .ok (.iload_n 2, 1) := by decide +kernel
theorem s99_7 {l0 l1 l3 l4 l5 : Option Value} {st : List Value} {x : Int32} {m : kMem} {Q : Option Value → kMem → Prop} : kJ 99 7 [l0, l1, some (.int x), l3, l4, l5] st m Q = kJ 99 8 [l0, l1, some (.int x), l3, l4, l5] (.int x :: st) m Q := kJ_next d99_7 rfl
theorem d99_8 : decode (mB 99) 8 = .ok (.if_icmp .ge 13, 3) := by decide +kernel
theorem s99_8 {l0 l1 l2 l3 l4 l5 : Option Value} {st : List Value} {a b : Int32} {m : kMem} {Q : Option Value → kMem → Prop} : kJ 99 8 [l0, l1, l2, l3, l4, l5] (.int b :: .int a :: st) m Q = (if b ≤ a then kJ 99 21 [l0, l1, l2, l3, l4, l5] st m Q else kJ 99 11 [l0, l1, l2, l3, l4, l5] st m Q) := kJ_if d99_8 rfl (fun h => kJ_next d99_8 h) (fun h => kJ_next d99_8 h)
theorem d99_11 : decode (mB 99) 11 = .ok (.lload_n 3, 1) := by decide +kernel
theorem s99_11 {l0 l1 l2 l4 l5 : Option Value} {st : List Value} {x : Int64} {m : kMem} {Q : Option Value → kMem → Prop} : kJ 99 11 [l0, l1, l2, some (.long x), l4, l5] st m Q = kJ 99 12 [l0, l1, l2, some (.long x), l4, l5] (.long x :: st) m Q := kJ_next d99_11 rfl
theorem d99_12 : decode (mB 99) 12 = .ok (.lload_n 0, 1) := by decide +kernel
theorem s99_12 {l1 l2 l3 l4 l5 : Option Value} {st : List Value} {x : Int64} {m : kMem} {Q : Option Value → kMem → Prop} : kJ 99 12 [some (.long x), l1, l2, l3, l4, l5] st m Q = kJ 99 13 [some (.long x), l1, l2, l3, l4, l5] (.long x :: st) m Q := kJ_next d99_12 rfl
theorem d99_13 : decode (mB 99) 13 = .ok (.lmul, 1) := by decide +kernel
theorem s99_13 {l0 l1 l2 l3 l4 l5 : Option Value} {st : List Value} {a b : Int64} {m : kMem} {Q : Option Value → kMem → Prop} : kJ 99 13 [l0, l1, l2, l3, l4, l5] (.long b :: .long a :: st) m Q = kJ 99 14 [l0, l1, l2, l3, l4, l5] (.long (a * b) :: st) m Q := kJ_next d99_13 rfl
theorem d99_14 : decode (mB 99) 14 = .ok (.lstore_n 3, 1) := by decide +kernel
theorem s99_14 {l0 l1 l2 l3 l4 l5 : Option Value} {st : List Value} {x : Int64} {m : kMem} {Q : Option Value → kMem → Prop} (hp : kNL l2 = true) : kJ 99 14 [l0, l1, l2, l3, l4, l5] (.long x :: st) m Q = kJ 99 15 [l0, l1, l2, some (.long x), none, l5] st m Q := kJ_next d99_14 (kg_stl (Nat.le_of_ble_eq_true rfl) hp)
theorem d99_15 : decode (mB 99) 15 = .ok (.iinc 5 1, 3) := by decide +kernel
theorem s99_15 {l0 l1 l2 l3 l4 : Option Value} {st : List Value} {x : Int32} {m : kMem} {Q : Option Value → kMem → Prop} (hp : kNL l4 = true) : kJ 99 15 [l0, l1, l2, l3, l4, some (.int x)] st m Q = kJ 99 18 [l0, l1, l2, l3, l4, some (.int (x + (nI 1)))] st m Q := kJ_next d99_15 (kg_inc rfl (Nat.le_of_ble_eq_true rfl) hp)
theorem d99_18 : decode (mB 99) 18 = .ok (.goto (-13), 3) := by decide +kernel
theorem s99_18 {l0 l1 l2 l3 l4 l5 : Option Value} {st : List Value} {m : kMem} {Q : Option Value → kMem → Prop} : kJ 99 18 [l0, l1, l2, l3, l4, l5] st m Q = kJ 99 5 [l0, l1, l2, l3, l4, l5] st m Q := kJ_next d99_18 rfl
theorem d99_21 : decode (mB 99) 21 = .ok (.lload_n 3, 1) := by decide +kernel
theorem s99_21 {l0 l1 l2 l4 l5 : Option Value} {st : List Value} {x : Int64} {m : kMem} {Q : Option Value → kMem → Prop} : kJ 99 21 [l0, l1, l2, some (.long x), l4, l5] st m Q = kJ 99 22 [l0, l1, l2, some (.long x), l4, l5] (.long x :: st) m Q := kJ_next d99_21 rfl
theorem d99_22 : decode (mB 99) 22 = .ok (.lreturn, 1) := by decide +kernel
theorem s99_22 {l0 l1 l2 l3 l4 l5 : Option Value} {x : Int64} {m : kMem} {Q : Option Value → kMem → Prop} : kJ 99 22 [l0, l1, l2, l3, l4, l5] [.long x] m Q = Q (some (.long x)) m := kJ_ret d99_22 rfl
