theorem d187_0 : decode (mB 187) 0 = .ok (.aload_n 0, 1) := by decide +kernel
theorem s187_0 {l1 l2 l3 l4 l5 l6 l7 l8 l9 l10 : Option Value} {st : List Value} {x : Nat} {m : kMem} {Q : Option Value → kMem → Prop} : kJ 187 0 [some (.ref x), l1, l2, l3, l4, l5, l6, l7, l8, l9, l10] st m Q = kJ 187 1 [some (.ref x), l1, l2, l3, l4, l5, l6, l7, l8, l9, l10] (.ref x :: st) m Q := kJ_next d187_0 rfl
theorem d187_1 : decode (mB 187) 1 = .ok (.iload_n 1, 1) := by decide +kernel
theorem s187_1 {l0 l2 l3 l4 l5 l6 l7 l8 l9 l10 : Option Value} {st : List Value} {x : Int32} {m : kMem} {Q : Option Value → kMem → Prop} : kJ 187 1 [l0, some (.int x), l2, l3, l4, l5, l6, l7, l8, l9, l10] st m Q = kJ 187 2 [l0, some (.int x), l2, l3, l4, l5, l6, l7, l8, l9, l10] (.int x :: st) m Q := kJ_next d187_1 rfl
theorem d187_2 : decode (mB 187) 2 = .ok (.invokevirtual 206, 3) := by decide +kernel
theorem s187_2 {l0 l1 l2 l3 l4 l5 l6 l7 l8 l9 l10 : Option Value} {v0 : Int32} {v1 : Nat} {m : kMem} {Q : Option Value → kMem → Prop} (h : kIs m.2.2.2 v1 5 = true) : kJ 187 2 [l0, l1, l2, l3, l4, l5, l6, l7, l8, l9, l10] [.int v0, .ref v1] m Q = kJ 127 0 [some (.ref v1), some (.int v0)] [] m (fun v m2 => kJ 187 5 [l0, l1, l2, l3, l4, l5, l6, l7, l8, l9, l10] (v.toList ++ []) m2 Q) := kJ_call d187_2 (kg_callv 127 1 rfl rfl rfl rfl (Nat.le_of_ble_eq_true rfl) (Nat.le_of_ble_eq_true rfl) (Nat.le_of_ble_eq_true rfl) h rfl)
theorem d187_5 : decode (mB 187) 5 = .ok (.ifCond .eq 10, 3) := by decide +kernel
theorem s187_5 {l0 l1 l2 l3 l4 l5 l6 l7 l8 l9 l10 : Option Value} {st : List Value} {a : Int32} {m : kMem} {Q : Option Value → kMem → Prop} : kJ 187 5 [l0, l1, l2, l3, l4, l5, l6, l7, l8, l9, l10] (.int a :: st) m Q = (if a = 0 then kJ 187 15 [l0, l1, l2, l3, l4, l5, l6, l7, l8, l9, l10] st m Q else kJ 187 8 [l0, l1, l2, l3, l4, l5, l6, l7, l8, l9, l10] st m Q) := kJ_if d187_5 rfl (fun h => kJ_next d187_5 h) (fun h => kJ_next d187_5 h)
theorem d187_8 : decode (mB 187) 8 = .ok (.iload_n 2, 1) := by decide +kernel
theorem s187_8 {l0 l1 l3 l4 l5 l6 l7 l8 l9 l10 : Option Value} {st : List Value} {x : Int32} {m : kMem} {Q : Option Value → kMem → Prop} : kJ 187 8 [l0, l1, some (.int x), l3, l4, l5, l6, l7, l8, l9, l10] st m Q = kJ 187 9 [l0, l1, some (.int x), l3, l4, l5, l6, l7, l8, l9, l10] (.int x :: st) m Q := kJ_next d187_8 rfl
theorem d187_9 : decode (mB 187) 9 = .ok (.invokestatic 254, 3) := by decide +kernel
theorem s187_9 {l0 l1 l2 l3 l4 l5 l6 l7 l8 l9 l10 : Option Value} {v0 : Int32} {m : kMem} {Q : Option Value → kMem → Prop} : kJ 187 9 [l0, l1, l2, l3, l4, l5, l6, l7, l8, l9, l10] [.int v0] m Q = kJ 129 0 [some (.int v0)] [] m (fun v m2 => kJ 187 12 [l0, l1, l2, l3, l4, l5, l6, l7, l8, l9, l10] (v.toList ++ []) m2 Q) := kJ_call d187_9 (kg_calls 129 1 rfl rfl (Nat.le_of_ble_eq_true rfl) (Nat.le_of_ble_eq_true rfl) (Nat.le_of_ble_eq_true rfl) (Nat.le_of_ble_eq_true rfl))
theorem d187_12 : decode (mB 187) 12 = .ok (.ifCond .ne 5, 3) := by decide +kernel
theorem s187_12 {l0 l1 l2 l3 l4 l5 l6 l7 l8 l9 l10 : Option Value} {st : List Value} {a : Int32} {m : kMem} {Q : Option Value → kMem → Prop} : kJ 187 12 [l0, l1, l2, l3, l4, l5, l6, l7, l8, l9, l10] (.int a :: st) m Q = (if a = 0 then kJ 187 15 [l0, l1, l2, l3, l4, l5, l6, l7, l8, l9, l10] st m Q else kJ 187 17 [l0, l1, l2, l3, l4, l5, l6, l7, l8, l9, l10] st m Q) := kJ_if d187_12 rfl (fun h => kJ_next d187_12 h) (fun h => kJ_next d187_12 h)
theorem d187_15 : decode (mB 187) 15 = .ok (.iconst (-1), 1) := by decide +kernel
theorem s187_15 {l0 l1 l2 l3 l4 l5 l6 l7 l8 l9 l10 : Option Value} {st : List Value} {m : kMem} {Q : Option Value → kMem → Prop} : kJ 187 15 [l0, l1, l2, l3, l4, l5, l6, l7, l8, l9, l10] st m Q = kJ 187 16 [l0, l1, l2, l3, l4, l5, l6, l7, l8, l9, l10] (.int (-1) :: st) m Q := kJ_next d187_15 rfl
theorem d187_16 : decode (mB 187) 16 = .ok (.ireturn, 1) := by decide +kernel
theorem s187_16 {l0 l1 l2 l3 l4 l5 l6 l7 l8 l9 l10 : Option Value} {x : Int32} {m : kMem} {Q : Option Value → kMem → Prop} : kJ 187 16 [l0, l1, l2, l3, l4, l5, l6, l7, l8, l9, l10] [.int x] m Q = Q (some (.int x)) m := kJ_ret d187_16 rfl
theorem d187_17 : decode (mB 187) 17 = .ok (.aload_n 0, 1) := by decide +kernel
theorem s187_17 {l1 l2 l3 l4 l5 l6 l7 l8 l9 l10 : Option Value} {st : List Value} {x : Nat} {m : kMem} {Q : Option Value → kMem → Prop} : kJ 187 17 [some (.ref x), l1, l2, l3, l4, l5, l6, l7, l8, l9, l10] st m Q = kJ 187 18 [some (.ref x), l1, l2, l3, l4, l5, l6, l7, l8, l9, l10] (.ref x :: st) m Q := kJ_next d187_17 rfl
theorem d187_18 : decode (mB 187) 18 = .ok (.iload_n 1, 1) := by decide +kernel
theorem s187_18 {l0 l2 l3 l4 l5 l6 l7 l8 l9 l10 : Option Value} {st : List Value} {x : Int32} {m : kMem} {Q : Option Value → kMem → Prop} : kJ 187 18 [l0, some (.int x), l2, l3, l4, l5, l6, l7, l8, l9, l10] st m Q = kJ 187 19 [l0, some (.int x), l2, l3, l4, l5, l6, l7, l8, l9, l10] (.int x :: st) m Q := kJ_next d187_18 rfl
theorem d187_19 : decode (mB 187) 19 = .ok (.invokevirtual 221, 3) := by decide +kernel
theorem s187_19 {l0 l1 l2 l3 l4 l5 l6 l7 l8 l9 l10 : Option Value} {v0 : Int32} {v1 : Nat} {m : kMem} {Q : Option Value → kMem → Prop} (h : kIs m.2.2.2 v1 5 = true) : kJ 187 19 [l0, l1, l2, l3, l4, l5, l6, l7, l8, l9, l10] [.int v0, .ref v1] m Q = kJ 155 0 [some (.ref v1), some (.int v0)] [] m (fun v m2 => kJ 187 22 [l0, l1, l2, l3, l4, l5, l6, l7, l8, l9, l10] (v.toList ++ []) m2 Q) := kJ_call d187_19 (kg_callv 155 1 rfl rfl rfl rfl (Nat.le_of_ble_eq_true rfl) (Nat.le_of_ble_eq_true rfl) (Nat.le_of_ble_eq_true rfl) h rfl)
theorem d187_22 : decode (mB 187) 22 = .ok (.iconst 2, 1) := by decide +kernel
theorem s187_22 {l0 l1 l2 l3 l4 l5 l6 l7 l8 l9 l10 : Option Value} {st : List Value} {m : kMem} {Q : Option Value → kMem → Prop} : kJ 187 22 [l0, l1, l2, l3, l4, l5, l6, l7, l8, l9, l10] st m Q = kJ 187 23 [l0, l1, l2, l3, l4, l5, l6, l7, l8, l9, l10] (.int (nI 2) :: st) m Q := kJ_next d187_22 rfl
theorem d187_23 : decode (mB 187) 23 = .ok (.if_icmp .lt 6, 3) := by decide +kernel
theorem s187_23 {l0 l1 l2 l3 l4 l5 l6 l7 l8 l9 l10 : Option Value} {st : List Value} {a b : Int32} {m : kMem} {Q : Option Value → kMem → Prop} : kJ 187 23 [l0, l1, l2, l3, l4, l5, l6, l7, l8, l9, l10] (.int b :: .int a :: st) m Q = (if a < b then kJ 187 29 [l0, l1, l2, l3, l4, l5, l6, l7, l8, l9, l10] st m Q else kJ 187 26 [l0, l1, l2, l3, l4, l5, l6, l7, l8, l9, l10] st m Q) := kJ_if d187_23 rfl (fun h => kJ_next d187_23 h) (fun h => kJ_next d187_23 h)
theorem d187_26 : decode (mB 187) 26 = .ok (.bipush (-2), 2) := by decide +kernel
theorem s187_26 {l0 l1 l2 l3 l4 l5 l6 l7 l8 l9 l10 : Option Value} {st : List Value} {m : kMem} {Q : Option Value → kMem → Prop} : kJ 187 26 [l0, l1, l2, l3, l4, l5, l6, l7, l8, l9, l10] st m Q = kJ 187 28 [l0, l1, l2, l3, l4, l5, l6, l7, l8, l9, l10] (.int (-2) :: st) m Q := kJ_next d187_26 rfl
theorem d187_28 : decode (mB 187) 28 = .ok (.ireturn, 1) := by decide +kernel
theorem s187_28 {l0 l1 l2 l3 l4 l5 l6 l7 l8 l9 l10 : Option Value} {x : Int32} {m : kMem} {Q : Option Value → kMem → Prop} : kJ 187 28 [l0, l1, l2, l3, l4, l5, l6, l7, l8, l9, l10] [.int x] m Q = Q (some (.int x)) m := kJ_ret d187_28 rfl
theorem d187_29 : decode (mB 187) 29 = .ok (.aload_n 0, 1) := by decide +kernel
theorem s187_29 {l1 l2 l3 l4 l5 l6 l7 l8 l9 l10 : Option Value} {st : List Value} {x : Nat} {m : kMem} {Q : Option Value → kMem → Prop} : kJ 187 29 [some (.ref x), l1, l2, l3, l4, l5, l6, l7, l8, l9, l10] st m Q = kJ 187 30 [some (.ref x), l1, l2, l3, l4, l5, l6, l7, l8, l9, l10] (.ref x :: st) m Q := kJ_next d187_29 rfl
theorem d187_30 : decode (mB 187) 30 = .ok (.iload_n 1, 1) := by decide +kernel
theorem s187_30 {l0 l2 l3 l4 l5 l6 l7 l8 l9 l10 : Option Value} {st : List Value} {x : Int32} {m : kMem} {Q : Option Value → kMem → Prop} : kJ 187 30 [l0, some (.int x), l2, l3, l4, l5, l6, l7, l8, l9, l10] st m Q = kJ 187 31 [l0, some (.int x), l2, l3, l4, l5, l6, l7, l8, l9, l10] (.int x :: st) m Q := kJ_next d187_30 rfl
theorem d187_31 : decode (mB 187) 31 = .ok (.invokevirtual 294, 3) := by decide +kernel
theorem s187_31 {l0 l1 l2 l3 l4 l5 l6 l7 l8 l9 l10 : Option Value} {v0 : Int32} {v1 : Nat} {m : kMem} {Q : Option Value → kMem → Prop} (h : kIs m.2.2.2 v1 5 = true) : kJ 187 31 [l0, l1, l2, l3, l4, l5, l6, l7, l8, l9, l10] [.int v0, .ref v1] m Q = kJ 186 0 [some (.ref v1), some (.int v0), none, none, none] [] m (fun v m2 => kJ 187 34 [l0, l1, l2, l3, l4, l5, l6, l7, l8, l9, l10] (v.toList ++ []) m2 Q) := kJ_call d187_31 (kg_callv 186 1 rfl rfl rfl rfl (Nat.le_of_ble_eq_true rfl) (Nat.le_of_ble_eq_true rfl) (Nat.le_of_ble_eq_true rfl) h rfl)
theorem d187_34 : decode (mB 187) 34 = .ok (.istore_n 3, 1) := by decide +kernel
theorem s187_34 {l0 l1 l2 l3 l4 l5 l6 l7 l8 l9 l10 : Option Value} {st : List Value} {x : Int32} {m : kMem} {Q : Option Value → kMem → Prop} (hp : kNL l2 = true) : kJ 187 34 [l0, l1, l2, l3, l4, l5, l6, l7, l8, l9, l10] (.int x :: st) m Q = kJ 187 35 [l0, l1, l2, some (.int x), l4, l5, l6, l7, l8, l9, l10] st m Q := kJ_next d187_34 (kg_sti (Nat.le_of_ble_eq_true rfl) hp)
theorem d187_35 : decode (mB 187) 35 = .ok (.iload_n 3, 1) := by decide +kernel
theorem s187_35 {l0 l1 l2 l4 l5 l6 l7 l8 l9 l10 : Option Value} {st : List Value} {x : Int32} {m : kMem} {Q : Option Value → kMem → Prop} : kJ 187 35 [l0, l1, l2, some (.int x), l4, l5, l6, l7, l8, l9, l10] st m Q = kJ 187 36 [l0, l1, l2, some (.int x), l4, l5, l6, l7, l8, l9, l10] (.int x :: st) m Q := kJ_next d187_35 rfl
theorem d187_36 : decode (mB 187) 36 = .ok (.istore 4, 2) := by decide +kernel
theorem s187_36 {l0 l1 l2 l3 l4 l5 l6 l7 l8 l9 l10 : Option Value} {st : List Value} {x : Int32} {m : kMem} {Q : Option Value → kMem → Prop} (hp : kNL l3 = true) : kJ 187 36 [l0, l1, l2, l3, l4, l5, l6, l7, l8, l9, l10] (.int x :: st) m Q = kJ 187 38 [l0, l1, l2, l3, some (.int x), l5, l6, l7, l8, l9, l10] st m Q := kJ_next d187_36 (kg_sti (Nat.le_of_ble_eq_true rfl) hp)
theorem d187_38 : decode (mB 187) 38 = .ok (.bipush (-4), 2) := by decide +kernel
theorem s187_38 {l0 l1 l2 l3 l4 l5 l6 l7 l8 l9 l10 : Option Value} {st : List Value} {m : kMem} {Q : Option Value → kMem → Prop} : kJ 187 38 [l0, l1, l2, l3, l4, l5, l6, l7, l8, l9, l10] st m Q = kJ 187 40 [l0, l1, l2, l3, l4, l5, l6, l7, l8, l9, l10] (.int (-4) :: st) m Q := kJ_next d187_38 rfl
theorem d187_40 : decode (mB 187) 40 = .ok (.istore 5, 2) := by decide +kernel
theorem s187_40 {l0 l1 l2 l3 l4 l5 l6 l7 l8 l9 l10 : Option Value} {st : List Value} {x : Int32} {m : kMem} {Q : Option Value → kMem → Prop} (hp : kNL l4 = true) : kJ 187 40 [l0, l1, l2, l3, l4, l5, l6, l7, l8, l9, l10] (.int x :: st) m Q = kJ 187 42 [l0, l1, l2, l3, l4, some (.int x), l6, l7, l8, l9, l10] st m Q := kJ_next d187_40 (kg_sti (Nat.le_of_ble_eq_true rfl) hp)
theorem d187_42 : decode (mB 187) 42 = .ok (.iconst 0, 1) := by decide +kernel
theorem s187_42 {l0 l1 l2 l3 l4 l5 l6 l7 l8 l9 l10 : Option Value} {st : List Value} {m : kMem} {Q : Option Value → kMem → Prop} : kJ 187 42 [l0, l1, l2, l3, l4, l5, l6, l7, l8, l9, l10] st m Q = kJ 187 43 [l0, l1, l2, l3, l4, l5, l6, l7, l8, l9, l10] (.int (nI 0) :: st) m Q := kJ_next d187_42 rfl
theorem d187_43 : decode (mB 187) 43 = .ok (.istore 6, 2) := by decide +kernel
theorem s187_43 {l0 l1 l2 l3 l4 l5 l6 l7 l8 l9 l10 : Option Value} {st : List Value} {x : Int32} {m : kMem} {Q : Option Value → kMem → Prop} (hp : kNL l5 = true) : kJ 187 43 [l0, l1, l2, l3, l4, l5, l6, l7, l8, l9, l10] (.int x :: st) m Q = kJ 187 45 [l0, l1, l2, l3, l4, l5, some (.int x), l7, l8, l9, l10] st m Q := kJ_next d187_43 (kg_sti (Nat.le_of_ble_eq_true rfl) hp)
theorem d187_45 : decode (mB 187) 45 = .ok (.iload 6, 2) := by decide +kernel
theorem s187_45 {l0 l1 l2 l3 l4 l5 l7 l8 l9 l10 : Option Value} {st : List Value} {x : Int32} {m : kMem} {Q : Option Value → kMem → Prop} : kJ 187 45 [l0, l1, l2, l3, l4, l5, some (.int x), l7, l8, l9, l10] st m Q = kJ 187 47 [l0, l1, l2, l3, l4, l5, some (.int x), l7, l8, l9, l10] (.int x :: st) m Q := kJ_next d187_45 rfl
theorem d187_47 : decode (mB 187) 47 = .ok (.bipush 105, 2) := by decide +kernel
theorem s187_47 {l0 l1 l2 l3 l4 l5 l6 l7 l8 l9 l10 : Option Value} {st : List Value} {m : kMem} {Q : Option Value → kMem → Prop} : kJ 187 47 [l0, l1, l2, l3, l4, l5, l6, l7, l8, l9, l10] st m Q = kJ 187 49 [l0, l1, l2, l3, l4, l5, l6, l7, l8, l9, l10] (.int (nI 105) :: st) m Q := kJ_next d187_47 rfl
theorem d187_49 : decode (mB 187) 49 = .ok (.if_icmp .ge 142, 3) := by decide +kernel
theorem s187_49 {l0 l1 l2 l3 l4 l5 l6 l7 l8 l9 l10 : Option Value} {st : List Value} {a b : Int32} {m : kMem} {Q : Option Value → kMem → Prop} : kJ 187 49 [l0, l1, l2, l3, l4, l5, l6, l7, l8, l9, l10] (.int b :: .int a :: st) m Q = (if b ≤ a then kJ 187 191 [l0, l1, l2, l3, l4, l5, l6, l7, l8, l9, l10] st m Q else kJ 187 52 [l0, l1, l2, l3, l4, l5, l6, l7, l8, l9, l10] st m Q) := kJ_if d187_49 rfl (fun h => kJ_next d187_49 h) (fun h => kJ_next d187_49 h)
theorem d187_52 : decode (mB 187) 52 = .ok (.iconst 0, 1) := by decide +kernel
theorem s187_52 {l0 l1 l2 l3 l4 l5 l6 l7 l8 l9 l10 : Option Value} {st : List Value} {m : kMem} {Q : Option Value → kMem → Prop} : kJ 187 52 [l0, l1, l2, l3, l4, l5, l6, l7, l8, l9, l10] st m Q = kJ 187 53 [l0, l1, l2, l3, l4, l5, l6, l7, l8, l9, l10] (.int (nI 0) :: st) m Q := kJ_next d187_52 rfl
theorem d187_53 : decode (mB 187) 53 = .ok (.istore 7, 2) := by decide +kernel
theorem s187_53 {l0 l1 l2 l3 l4 l5 l6 l7 l8 l9 l10 : Option Value} {st : List Value} {x : Int32} {m : kMem} {Q : Option Value → kMem → Prop} (hp : kNL l6 = true) : kJ 187 53 [l0, l1, l2, l3, l4, l5, l6, l7, l8, l9, l10] (.int x :: st) m Q = kJ 187 55 [l0, l1, l2, l3, l4, l5, l6, some (.int x), l8, l9, l10] st m Q := kJ_next d187_53 (kg_sti (Nat.le_of_ble_eq_true rfl) hp)
theorem d187_55 : decode (mB 187) 55 = .ok (.iconst 0, 1) := by decide +kernel
theorem s187_55 {l0 l1 l2 l3 l4 l5 l6 l7 l8 l9 l10 : Option Value} {st : List Value} {m : kMem} {Q : Option Value → kMem → Prop} : kJ 187 55 [l0, l1, l2, l3, l4, l5, l6, l7, l8, l9, l10] st m Q = kJ 187 56 [l0, l1, l2, l3, l4, l5, l6, l7, l8, l9, l10] (.int (nI 0) :: st) m Q := kJ_next d187_55 rfl
theorem d187_56 : decode (mB 187) 56 = .ok (.istore 8, 2) := by decide +kernel
theorem s187_56 {l0 l1 l2 l3 l4 l5 l6 l7 l8 l9 l10 : Option Value} {st : List Value} {x : Int32} {m : kMem} {Q : Option Value → kMem → Prop} (hp : kNL l7 = true) : kJ 187 56 [l0, l1, l2, l3, l4, l5, l6, l7, l8, l9, l10] (.int x :: st) m Q = kJ 187 58 [l0, l1, l2, l3, l4, l5, l6, l7, some (.int x), l9, l10] st m Q := kJ_next d187_56 (kg_sti (Nat.le_of_ble_eq_true rfl) hp)
theorem d187_58 : decode (mB 187) 58 = .ok (.iload 8, 2) := by decide +kernel
theorem s187_58 {l0 l1 l2 l3 l4 l5 l6 l7 l9 l10 : Option Value} {st : List Value} {x : Int32} {m : kMem} {Q : Option Value → kMem → Prop} : kJ 187 58 [l0, l1, l2, l3, l4, l5, l6, l7, some (.int x), l9, l10] st m Q = kJ 187 60 [l0, l1, l2, l3, l4, l5, l6, l7, some (.int x), l9, l10] (.int x :: st) m Q := kJ_next d187_58 rfl
theorem d187_60 : decode (mB 187) 60 = .ok (.iload_n 3, 1) := by decide +kernel
theorem s187_60 {l0 l1 l2 l4 l5 l6 l7 l8 l9 l10 : Option Value} {st : List Value} {x : Int32} {m : kMem} {Q : Option Value → kMem → Prop} : kJ 187 60 [l0, l1, l2, some (.int x), l4, l5, l6, l7, l8, l9, l10] st m Q = kJ 187 61 [l0, l1, l2, some (.int x), l4, l5, l6, l7, l8, l9, l10] (.int x :: st) m Q := kJ_next d187_60 rfl
theorem d187_61 : decode (mB 187) 61 = .ok (.if_icmp .ge 85, 3) := by decide +kernel
theorem s187_61 {l0 l1 l2 l3 l4 l5 l6 l7 l8 l9 l10 : Option Value} {st : List Value} {a b : Int32} {m : kMem} {Q : Option Value → kMem → Prop} : kJ 187 61 [l0, l1, l2, l3, l4, l5, l6, l7, l8, l9, l10] (.int b :: .int a :: st) m Q = (if b ≤ a then kJ 187 146 [l0, l1, l2, l3, l4, l5, l6, l7, l8, l9, l10] st m Q else kJ 187 64 [l0, l1, l2, l3, l4, l5, l6, l7, l8, l9, l10] st m Q) := kJ_if d187_61 rfl (fun h => kJ_next d187_61 h) (fun h => kJ_next d187_61 h)
theorem d187_64 : decode (mB 187) 64 = .ok (.iconst 0, 1) := by decide +kernel
theorem s187_64 {l0 l1 l2 l3 l4 l5 l6 l7 l8 l9 l10 : Option Value} {st : List Value} {m : kMem} {Q : Option Value → kMem → Prop} : kJ 187 64 [l0, l1, l2, l3, l4, l5, l6, l7, l8, l9, l10] st m Q = kJ 187 65 [l0, l1, l2, l3, l4, l5, l6, l7, l8, l9, l10] (.int (nI 0) :: st) m Q := kJ_next d187_64 rfl
theorem d187_65 : decode (mB 187) 65 = .ok (.istore 9, 2) := by decide +kernel
theorem s187_65 {l0 l1 l2 l3 l4 l5 l6 l7 l8 l9 l10 : Option Value} {st : List Value} {x : Int32} {m : kMem} {Q : Option Value → kMem → Prop} (hp : kNL l8 = true) : kJ 187 65 [l0, l1, l2, l3, l4, l5, l6, l7, l8, l9, l10] (.int x :: st) m Q = kJ 187 67 [l0, l1, l2, l3, l4, l5, l6, l7, l8, some (.int x), l10] st m Q := kJ_next d187_65 (kg_sti (Nat.le_of_ble_eq_true rfl) hp)
theorem d187_67 : decode (mB 187) 67 = .ok (.iconst 0, 1) := by decide +kernel
theorem s187_67 {l0 l1 l2 l3 l4 l5 l6 l7 l8 l9 l10 : Option Value} {st : List Value} {m : kMem} {Q : Option Value → kMem → Prop} : kJ 187 67 [l0, l1, l2, l3, l4, l5, l6, l7, l8, l9, l10] st m Q = kJ 187 68 [l0, l1, l2, l3, l4, l5, l6, l7, l8, l9, l10] (.int (nI 0) :: st) m Q := kJ_next d187_67 rfl
theorem d187_68 : decode (mB 187) 68 = .ok (.istore 10, 2) := by decide +kernel
theorem s187_68 {l0 l1 l2 l3 l4 l5 l6 l7 l8 l9 l10 : Option Value} {st : List Value} {x : Int32} {m : kMem} {Q : Option Value → kMem → Prop} (hp : kNL l9 = true) : kJ 187 68 [l0, l1, l2, l3, l4, l5, l6, l7, l8, l9, l10] (.int x :: st) m Q = kJ 187 70 [l0, l1, l2, l3, l4, l5, l6, l7, l8, l9, some (.int x)] st m Q := kJ_next d187_68 (kg_sti (Nat.le_of_ble_eq_true rfl) hp)
theorem d187_70 : decode (mB 187) 70 = .ok (.iload 10, 2) := by decide +kernel
theorem s187_70 {l0 l1 l2 l3 l4 l5 l6 l7 l8 l9 : Option Value} {st : List Value} {x : Int32} {m : kMem} {Q : Option Value → kMem → Prop} : kJ 187 70 [l0, l1, l2, l3, l4, l5, l6, l7, l8, l9, some (.int x)] st m Q = kJ 187 72 [l0, l1, l2, l3, l4, l5, l6, l7, l8, l9, some (.int x)] (.int x :: st) m Q := kJ_next d187_70 rfl
theorem d187_72 : decode (mB 187) 72 = .ok (.iload_n 3, 1) := by decide +kernel
theorem s187_72 {l0 l1 l2 l4 l5 l6 l7 l8 l9 l10 : Option Value} {st : List Value} {x : Int32} {m : kMem} {Q : Option Value → kMem → Prop} : kJ 187 72 [l0, l1, l2, some (.int x), l4, l5, l6, l7, l8, l9, l10] st m Q = kJ 187 73 [l0, l1, l2, some (.int x), l4, l5, l6, l7, l8, l9, l10] (.int x :: st) m Q := kJ_next d187_72 rfl
theorem d187_73 : decode (mB 187) 73 = .ok (.if_icmp .ge 51, 3) := by decide +kernel
theorem s187_73 {l0 l1 l2 l3 l4 l5 l6 l7 l8 l9 l10 : Option Value} {st : List Value} {a b : Int32} {m : kMem} {Q : Option Value → kMem → Prop} : kJ 187 73 [l0, l1, l2, l3, l4, l5, l6, l7, l8, l9, l10] (.int b :: .int a :: st) m Q = (if b ≤ a then kJ 187 124 [l0, l1, l2, l3, l4, l5, l6, l7, l8, l9, l10] st m Q else kJ 187 76 [l0, l1, l2, l3, l4, l5, l6, l7, l8, l9, l10] st m Q) := kJ_if d187_73 rfl (fun h => kJ_next d187_73 h) (fun h => kJ_next d187_73 h)
theorem d187_76 : decode (mB 187) 76 = .ok (.iload 9, 2) := by decide +kernel
theorem s187_76 {l0 l1 l2 l3 l4 l5 l6 l7 l8 l10 : Option Value} {st : List Value} {x : Int32} {m : kMem} {Q : Option Value → kMem → Prop} : kJ 187 76 [l0, l1, l2, l3, l4, l5, l6, l7, l8, some (.int x), l10] st m Q = kJ 187 78 [l0, l1, l2, l3, l4, l5, l6, l7, l8, some (.int x), l10] (.int x :: st) m Q := kJ_next d187_76 rfl
theorem d187_78 : decode (mB 187) 78 = .ok (.aload_n 0, 1) := by decide +kernel
theorem s187_78 {l1 l2 l3 l4 l5 l6 l7 l8 l9 l10 : Option Value} {st : List Value} {x : Nat} {m : kMem} {Q : Option Value → kMem → Prop} : kJ 187 78 [some (.ref x), l1, l2, l3, l4, l5, l6, l7, l8, l9, l10] st m Q = kJ 187 79 [some (.ref x), l1, l2, l3, l4, l5, l6, l7, l8, l9, l10] (.ref x :: st) m Q := kJ_next d187_78 rfl
theorem d187_79 : decode (mB 187) 79 = .ok (.getfield 29, 3) := by decide +kernel
theorem s187_79 {l0 l1 l2 l3 l4 l5 l6 l7 l8 l9 l10 : Option Value} {st : List Value} {q : Nat} {mi : Nat → Nat → Int32} {ml : Nat → Nat → Int64} {mr : Nat → Nat → Option Nat} {nx : Nat} {Q : Option Value → kMem → Prop} (h : kIs nx q 5 = true) : kJ 187 79 [l0, l1, l2, l3, l4, l5, l6, l7, l8, l9, l10] (.ref q :: st) (mi, ml, mr, nx) Q = kJ 187 82 [l0, l1, l2, l3, l4, l5, l6, l7, l8, l9, l10] (va_rf (mr q 22) :: st) (mi, ml, mr, nx) Q := kJ_next d187_79 (kg_getr 5 22 rfl h (by decide))
theorem d187_82 : decode (mB 187) 82 = .ok (.bipush 105, 2) := by decide +kernel
theorem s187_82 {l0 l1 l2 l3 l4 l5 l6 l7 l8 l9 l10 : Option Value} {st : List Value} {m : kMem} {Q : Option Value → kMem → Prop} : kJ 187 82 [l0, l1, l2, l3, l4, l5, l6, l7, l8, l9, l10] st m Q = kJ 187 84 [l0, l1, l2, l3, l4, l5, l6, l7, l8, l9, l10] (.int (nI 105) :: st) m Q := kJ_next d187_82 rfl
theorem d187_84 : decode (mB 187) 84 = .ok (.iload 8, 2) := by decide +kernel
theorem s187_84 {l0 l1 l2 l3 l4 l5 l6 l7 l9 l10 : Option Value} {st : List Value} {x : Int32} {m : kMem} {Q : Option Value → kMem → Prop} : kJ 187 84 [l0, l1, l2, l3, l4, l5, l6, l7, some (.int x), l9, l10] st m Q = kJ 187 86 [l0, l1, l2, l3, l4, l5, l6, l7, some (.int x), l9, l10] (.int x :: st) m Q := kJ_next d187_84 rfl
theorem d187_86 : decode (mB 187) 86 = .ok (.imul, 1) := by decide +kernel
theorem s187_86 {l0 l1 l2 l3 l4 l5 l6 l7 l8 l9 l10 : Option Value} {st : List Value} {a b : Int32} {m : kMem} {Q : Option Value → kMem → Prop} : kJ 187 86 [l0, l1, l2, l3, l4, l5, l6, l7, l8, l9, l10] (.int b :: .int a :: st) m Q = kJ 187 87 [l0, l1, l2, l3, l4, l5, l6, l7, l8, l9, l10] (.int (a * b) :: st) m Q := kJ_next d187_86 rfl
theorem d187_87 : decode (mB 187) 87 = .ok (.iload 6, 2) := by decide +kernel
theorem s187_87 {l0 l1 l2 l3 l4 l5 l7 l8 l9 l10 : Option Value} {st : List Value} {x : Int32} {m : kMem} {Q : Option Value → kMem → Prop} : kJ 187 87 [l0, l1, l2, l3, l4, l5, some (.int x), l7, l8, l9, l10] st m Q = kJ 187 89 [l0, l1, l2, l3, l4, l5, some (.int x), l7, l8, l9, l10] (.int x :: st) m Q := kJ_next d187_87 rfl
theorem d187_89 : decode (mB 187) 89 = .ok (.iadd, 1) := by decide +kernel
theorem s187_89 {l0 l1 l2 l3 l4 l5 l6 l7 l8 l9 l10 : Option Value} {st : List Value} {a b : Int32} {m : kMem} {Q : Option Value → kMem → Prop} : kJ 187 89 [l0, l1, l2, l3, l4, l5, l6, l7, l8, l9, l10] (.int b :: .int a :: st) m Q = kJ 187 90 [l0, l1, l2, l3, l4, l5, l6, l7, l8, l9, l10] (.int (a + b) :: st) m Q := kJ_next d187_89 rfl
theorem d187_90 : decode (mB 187) 90 = .ok (.iaload, 1) := by decide +kernel
theorem s187_90 {l0 l1 l2 l3 l4 l5 l6 l7 l8 l9 l10 : Option Value} {st : List Value} {q : Nat} {i : Int32} {mi : Nat → Nat → Int32} {ml : Nat → Nat → Int64} {mr : Nat → Nat → Option Nat} {nx : Nat} {Q : Option Value → kMem → Prop} (h : kIs nx q 10 = true) : kJ 187 90 [l0, l1, l2, l3, l4, l5, l6, l7, l8, l9, l10] (.int i :: .ref q :: st) (mi, ml, mr, nx) Q = (vp_in i (kAl q) ∧ kJ 187 91 [l0, l1, l2, l3, l4, l5, l6, l7, l8, l9, l10] (.int (mi q i.toNatClampNeg) :: st) (mi, ml, mr, nx) Q) := kg_aldJ d187_90 rfl (kAr_of h)
theorem d187_91 : decode (mB 187) 91 = .ok (.aload_n 0, 1) := by decide +kernel
theorem s187_91 {l1 l2 l3 l4 l5 l6 l7 l8 l9 l10 : Option Value} {st : List Value} {x : Nat} {m : kMem} {Q : Option Value → kMem → Prop} : kJ 187 91 [some (.ref x), l1, l2, l3, l4, l5, l6, l7, l8, l9, l10] st m Q = kJ 187 92 [some (.ref x), l1, l2, l3, l4, l5, l6, l7, l8, l9, l10] (.ref x :: st) m Q := kJ_next d187_91 rfl
theorem d187_92 : decode (mB 187) 92 = .ok (.getfield 29, 3) := by decide +kernel
theorem s187_92 {l0 l1 l2 l3 l4 l5 l6 l7 l8 l9 l10 : Option Value} {st : List Value} {q : Nat} {mi : Nat → Nat → Int32} {ml : Nat → Nat → Int64} {mr : Nat → Nat → Option Nat} {nx : Nat} {Q : Option Value → kMem → Prop} (h : kIs nx q 5 = true) : kJ 187 92 [l0, l1, l2, l3, l4, l5, l6, l7, l8, l9, l10] (.ref q :: st) (mi, ml, mr, nx) Q = kJ 187 95 [l0, l1, l2, l3, l4, l5, l6, l7, l8, l9, l10] (va_rf (mr q 22) :: st) (mi, ml, mr, nx) Q := kJ_next d187_92 (kg_getr 5 22 rfl h (by decide))
theorem d187_95 : decode (mB 187) 95 = .ok (.bipush 105, 2) := by decide +kernel
theorem s187_95 {l0 l1 l2 l3 l4 l5 l6 l7 l8 l9 l10 : Option Value} {st : List Value} {m : kMem} {Q : Option Value → kMem → Prop} : kJ 187 95 [l0, l1, l2, l3, l4, l5, l6, l7, l8, l9, l10] st m Q = kJ 187 97 [l0, l1, l2, l3, l4, l5, l6, l7, l8, l9, l10] (.int (nI 105) :: st) m Q := kJ_next d187_95 rfl
theorem d187_97 : decode (mB 187) 97 = .ok (.iload 10, 2) := by decide +kernel
theorem s187_97 {l0 l1 l2 l3 l4 l5 l6 l7 l8 l9 : Option Value} {st : List Value} {x : Int32} {m : kMem} {Q : Option Value → kMem → Prop} : kJ 187 97 [l0, l1, l2, l3, l4, l5, l6, l7, l8, l9, some (.int x)] st m Q = kJ 187 99 [l0, l1, l2, l3, l4, l5, l6, l7, l8, l9, some (.int x)] (.int x :: st) m Q := kJ_next d187_97 rfl
theorem d187_99 : decode (mB 187) 99 = .ok (.imul, 1) := by decide +kernel
theorem s187_99 {l0 l1 l2 l3 l4 l5 l6 l7 l8 l9 l10 : Option Value} {st : List Value} {a b : Int32} {m : kMem} {Q : Option Value → kMem → Prop} : kJ 187 99 [l0, l1, l2, l3, l4, l5, l6, l7, l8, l9, l10] (.int b :: .int a :: st) m Q = kJ 187 100 [l0, l1, l2, l3, l4, l5, l6, l7, l8, l9, l10] (.int (a * b) :: st) m Q := kJ_next d187_99 rfl
theorem d187_100 : decode (mB 187) 100 = .ok (.iload 6, 2) := by decide +kernel
theorem s187_100 {l0 l1 l2 l3 l4 l5 l7 l8 l9 l10 : Option Value} {st : List Value} {x : Int32} {m : kMem} {Q : Option Value → kMem → Prop} : kJ 187 100 [l0, l1, l2, l3, l4, l5, some (.int x), l7, l8, l9, l10] st m Q = kJ 187 102 [l0, l1, l2, l3, l4, l5, some (.int x), l7, l8, l9, l10] (.int x :: st) m Q := kJ_next d187_100 rfl
theorem d187_102 : decode (mB 187) 102 = .ok (.iadd, 1) := by decide +kernel
theorem s187_102 {l0 l1 l2 l3 l4 l5 l6 l7 l8 l9 l10 : Option Value} {st : List Value} {a b : Int32} {m : kMem} {Q : Option Value → kMem → Prop} : kJ 187 102 [l0, l1, l2, l3, l4, l5, l6, l7, l8, l9, l10] (.int b :: .int a :: st) m Q = kJ 187 103 [l0, l1, l2, l3, l4, l5, l6, l7, l8, l9, l10] (.int (a + b) :: st) m Q := kJ_next d187_102 rfl
theorem d187_103 : decode (mB 187) 103 = .ok (.iaload, 1) := by decide +kernel
theorem s187_103 {l0 l1 l2 l3 l4 l5 l6 l7 l8 l9 l10 : Option Value} {st : List Value} {q : Nat} {i : Int32} {mi : Nat → Nat → Int32} {ml : Nat → Nat → Int64} {mr : Nat → Nat → Option Nat} {nx : Nat} {Q : Option Value → kMem → Prop} (h : kIs nx q 10 = true) : kJ 187 103 [l0, l1, l2, l3, l4, l5, l6, l7, l8, l9, l10] (.int i :: .ref q :: st) (mi, ml, mr, nx) Q = (vp_in i (kAl q) ∧ kJ 187 104 [l0, l1, l2, l3, l4, l5, l6, l7, l8, l9, l10] (.int (mi q i.toNatClampNeg) :: st) (mi, ml, mr, nx) Q) := kg_aldJ d187_103 rfl (kAr_of h)
theorem d187_104 : decode (mB 187) 104 = .ok (.if_icmp .ne 7, 3) := by decide +kernel
theorem s187_104 {l0 l1 l2 l3 l4 l5 l6 l7 l8 l9 l10 : Option Value} {st : List Value} {a b : Int32} {m : kMem} {Q : Option Value → kMem → Prop} : kJ 187 104 [l0, l1, l2, l3, l4, l5, l6, l7, l8, l9, l10] (.int b :: .int a :: st) m Q = (if a = b then kJ 187 107 [l0, l1, l2, l3, l4, l5, l6, l7, l8, l9, l10] st m Q else kJ 187 111 [l0, l1, l2, l3, l4, l5, l6, l7, l8, l9, l10] st m Q) := kJ_if d187_104 rfl (fun h => kJ_next d187_104 h) (fun h => kJ_next d187_104 h)
theorem d187_107 : decode (mB 187) 107 = .ok (.iconst 1, 1) := by decide +kernel
theorem s187_107 {l0 l1 l2 l3 l4 l5 l6 l7 l8 l9 l10 : Option Value} {st : List Value} {m : kMem} {Q : Option Value → kMem → Prop} : kJ 187 107 [l0, l1, l2, l3, l4, l5, l6, l7, l8, l9, l10] st m Q = kJ 187 108 [l0, l1, l2, l3, l4, l5, l6, l7, l8, l9, l10] (.int (nI 1) :: st) m Q := kJ_next d187_107 rfl
theorem d187_108 : decode (mB 187) 108 = .ok (.goto 4, 3) := by decide +kernel
theorem s187_108 {l0 l1 l2 l3 l4 l5 l6 l7 l8 l9 l10 : Option Value} {st : List Value} {m : kMem} {Q : Option Value → kMem → Prop} : kJ 187 108 [l0, l1, l2, l3, l4, l5, l6, l7, l8, l9, l10] st m Q = kJ 187 112 [l0, l1, l2, l3, l4, l5, l6, l7, l8, l9, l10] st m Q := kJ_next d187_108 rfl
theorem d187_111 : decode (mB 187) 111 = .ok (.iconst 0, 1) := by decide +kernel
theorem s187_111 {l0 l1 l2 l3 l4 l5 l6 l7 l8 l9 l10 : Option Value} {st : List Value} {m : kMem} {Q : Option Value → kMem → Prop} : kJ 187 111 [l0, l1, l2, l3, l4, l5, l6, l7, l8, l9, l10] st m Q = kJ 187 112 [l0, l1, l2, l3, l4, l5, l6, l7, l8, l9, l10] (.int (nI 0) :: st) m Q := kJ_next d187_111 rfl
theorem d187_112 : decode (mB 187) 112 = .ok (.invokestatic 191, 3) := by decide +kernel
theorem s187_112 {l0 l1 l2 l3 l4 l5 l6 l7 l8 l9 l10 : Option Value} {v0 : Int32} {v1 : Int32} {m : kMem} {Q : Option Value → kMem → Prop} : kJ 187 112 [l0, l1, l2, l3, l4, l5, l6, l7, l8, l9, l10] [.int v0, .int v1] m Q = kJ 108 0 [some (.int v0)] [] m (fun v m2 => kJ 187 115 [l0, l1, l2, l3, l4, l5, l6, l7, l8, l9, l10] (v.toList ++ [.int v1]) m2 Q) := kJ_call d187_112 (kg_calls 108 1 rfl rfl (Nat.le_of_ble_eq_true rfl) (Nat.le_of_ble_eq_true rfl) (Nat.le_of_ble_eq_true rfl) (Nat.le_of_ble_eq_true rfl))
theorem d187_115 : decode (mB 187) 115 = .ok (.iadd, 1) := by decide +kernel
theorem s187_115 {l0 l1 l2 l3 l4 l5 l6 l7 l8 l9 l10 : Option Value} {st : List Value} {a b : Int32} {m : kMem} {Q : Option Value → kMem → Prop} : kJ 187 115 [l0, l1, l2, l3, l4, l5, l6, l7, l8, l9, l10] (.int b :: .int a :: st) m Q = kJ 187 116 [l0, l1, l2, l3, l4, l5, l6, l7, l8, l9, l10] (.int (a + b) :: st) m Q := kJ_next d187_115 rfl
theorem d187_116 : decode (mB 187) 116 = .ok (.istore 9, 2) := by decide +kernel
theorem s187_116 {l0 l1 l2 l3 l4 l5 l6 l7 l8 l9 l10 : Option Value} {st : List Value} {x : Int32} {m : kMem} {Q : Option Value → kMem → Prop} (hp : kNL l8 = true) : kJ 187 116 [l0, l1, l2, l3, l4, l5, l6, l7, l8, l9, l10] (.int x :: st) m Q = kJ 187 118 [l0, l1, l2, l3, l4, l5, l6, l7, l8, some (.int x), l10] st m Q := kJ_next d187_116 (kg_sti (Nat.le_of_ble_eq_true rfl) hp)
theorem d187_118 : decode (mB 187) 118 = .ok (.iinc 10 1, 3) := by decide +kernel
theorem s187_118 {l0 l1 l2 l3 l4 l5 l6 l7 l8 l9 : Option Value} {st : List Value} {x : Int32} {m : kMem} {Q : Option Value → kMem → Prop} (hp : kNL l9 = true) : kJ 187 118 [l0, l1, l2, l3, l4, l5, l6, l7, l8, l9, some (.int x)] st m Q = kJ 187 121 [l0, l1, l2, l3, l4, l5, l6, l7, l8, l9, some (.int (x + (nI 1)))] st m Q := kJ_next d187_118 (kg_inc rfl (Nat.le_of_ble_eq_true rfl) hp)
theorem d187_121 : decode (mB 187) 121 = .ok (.goto (-51), 3) := by decide +kernel
theorem s187_121 {l0 l1 l2 l3 l4 l5 l6 l7 l8 l9 l10 : Option Value} {st : List Value} {m : kMem} {Q : Option Value → kMem → Prop} : kJ 187 121 [l0, l1, l2, l3, l4, l5, l6, l7, l8, l9, l10] st m Q = kJ 187 70 [l0, l1, l2, l3, l4, l5, l6, l7, l8, l9, l10] st m Q := kJ_next d187_121 rfl
theorem d187_124 : decode (mB 187) 124 = .ok (.iload 9, 2) := by decide +kernel
theorem s187_124 {l0 l1 l2 l3 l4 l5 l6 l7 l8 l10 : Option Value} {st : List Value} {x : Int32} {m : kMem} {Q : Option Value → kMem → Prop} : kJ 187 124 [l0, l1, l2, l3, l4, l5, l6, l7, l8, some (.int x), l10] st m Q = kJ 187 126 [l0, l1, l2, l3, l4, l5, l6, l7, l8, some (.int x), l10] (.int x :: st) m Q := kJ_next d187_124 rfl
theorem d187_126 : decode (mB 187) 126 = .ok (.iload 7, 2) := by decide +kernel
theorem s187_126 {l0 l1 l2 l3 l4 l5 l6 l8 l9 l10 : Option Value} {st : List Value} {x : Int32} {m : kMem} {Q : Option Value → kMem → Prop} : kJ 187 126 [l0, l1, l2, l3, l4, l5, l6, some (.int x), l8, l9, l10] st m Q = kJ 187 128 [l0, l1, l2, l3, l4, l5, l6, some (.int x), l8, l9, l10] (.int x :: st) m Q := kJ_next d187_126 rfl
theorem d187_128 : decode (mB 187) 128 = .ok (.if_icmp .le 8, 3) := by decide +kernel
theorem s187_128 {l0 l1 l2 l3 l4 l5 l6 l7 l8 l9 l10 : Option Value} {st : List Value} {a b : Int32} {m : kMem} {Q : Option Value → kMem → Prop} : kJ 187 128 [l0, l1, l2, l3, l4, l5, l6, l7, l8, l9, l10] (.int b :: .int a :: st) m Q = (if a ≤ b then kJ 187 136 [l0, l1, l2, l3, l4, l5, l6, l7, l8, l9, l10] st m Q else kJ 187 131 [l0, l1, l2, l3, l4, l5, l6, l7, l8, l9, l10] st m Q) := kJ_if d187_128 rfl (fun h => kJ_next d187_128 h) (fun h => kJ_next d187_128 h)
theorem d187_131 : decode (mB 187) 131 = .ok (.iload 9, 2) := by decide +kernel
theorem s187_131 {l0 l1 l2 l3 l4 l5 l6 l7 l8 l10 : Option Value} {st : List Value} {x : Int32} {m : kMem} {Q : Option Value → kMem → Prop} : kJ 187 131 [l0, l1, l2, l3, l4, l5, l6, l7, l8, some (.int x), l10] st m Q = kJ 187 133 [l0, l1, l2, l3, l4, l5, l6, l7, l8, some (.int x), l10] (.int x :: st) m Q := kJ_next d187_131 rfl
theorem d187_133 : decode (mB 187) 133 = .ok (.goto 5, 3) := by decide +kernel
theorem s187_133 {l0 l1 l2 l3 l4 l5 l6 l7 l8 l9 l10 : Option Value} {st : List Value} {m : kMem} {Q : Option Value → kMem → Prop} : kJ 187 133 [l0, l1, l2, l3, l4, l5, l6, l7, l8, l9, l10] st m Q = kJ 187 138 [l0, l1, l2, l3, l4, l5, l6, l7, l8, l9, l10] st m Q := kJ_next d187_133 rfl
theorem d187_136 : decode (mB 187) 136 = .ok (.iload 7, 2) := by decide +kernel
theorem s187_136 {l0 l1 l2 l3 l4 l5 l6 l8 l9 l10 : Option Value} {st : List Value} {x : Int32} {m : kMem} {Q : Option Value → kMem → Prop} : kJ 187 136 [l0, l1, l2, l3, l4, l5, l6, some (.int x), l8, l9, l10] st m Q = kJ 187 138 [l0, l1, l2, l3, l4, l5, l6, some (.int x), l8, l9, l10] (.int x :: st) m Q := kJ_next d187_136 rfl
theorem d187_138 : decode (mB 187) 138 = .ok (.istore 7, 2) := by decide +kernel
theorem s187_138 {l0 l1 l2 l3 l4 l5 l6 l7 l8 l9 l10 : Option Value} {st : List Value} {x : Int32} {m : kMem} {Q : Option Value → kMem → Prop} (hp : kNL l6 = true) : kJ 187 138 [l0, l1, l2, l3, l4, l5, l6, l7, l8, l9, l10] (.int x :: st) m Q = kJ 187 140 [l0, l1, l2, l3, l4, l5, l6, some (.int x), l8, l9, l10] st m Q := kJ_next d187_138 (kg_sti (Nat.le_of_ble_eq_true rfl) hp)
theorem d187_140 : decode (mB 187) 140 = .ok (.iinc 8 1, 3) := by decide +kernel
theorem s187_140 {l0 l1 l2 l3 l4 l5 l6 l7 l9 l10 : Option Value} {st : List Value} {x : Int32} {m : kMem} {Q : Option Value → kMem → Prop} (hp : kNL l7 = true) : kJ 187 140 [l0, l1, l2, l3, l4, l5, l6, l7, some (.int x), l9, l10] st m Q = kJ 187 143 [l0, l1, l2, l3, l4, l5, l6, l7, some (.int (x + (nI 1))), l9, l10] st m Q := kJ_next d187_140 (kg_inc rfl (Nat.le_of_ble_eq_true rfl) hp)
theorem d187_143 : decode (mB 187) 143 = .ok (.goto (-85), 3) := by decide +kernel
theorem s187_143 {l0 l1 l2 l3 l4 l5 l6 l7 l8 l9 l10 : Option Value} {st : List Value} {m : kMem} {Q : Option Value → kMem → Prop} : kJ 187 143 [l0, l1, l2, l3, l4, l5, l6, l7, l8, l9, l10] st m Q = kJ 187 58 [l0, l1, l2, l3, l4, l5, l6, l7, l8, l9, l10] st m Q := kJ_next d187_143 rfl
theorem d187_146 : decode (mB 187) 146 = .ok (.iload 6, 2) := by decide +kernel
theorem s187_146 {l0 l1 l2 l3 l4 l5 l7 l8 l9 l10 : Option Value} {st : List Value} {x : Int32} {m : kMem} {Q : Option Value → kMem → Prop} : kJ 187 146 [l0, l1, l2, l3, l4, l5, some (.int x), l7, l8, l9, l10] st m Q = kJ 187 148 [l0, l1, l2, l3, l4, l5, some (.int x), l7, l8, l9, l10] (.int x :: st) m Q := kJ_next d187_146 rfl
theorem d187_148 : decode (mB 187) 148 = .ok (.iconst 5, 1) := by decide +kernel
theorem s187_148 {l0 l1 l2 l3 l4 l5 l6 l7 l8 l9 l10 : Option Value} {st : List Value} {m : kMem} {Q : Option Value → kMem → Prop} : kJ 187 148 [l0, l1, l2, l3, l4, l5, l6, l7, l8, l9, l10] st m Q = kJ 187 149 [l0, l1, l2, l3, l4, l5, l6, l7, l8, l9, l10] (.int (nI 5) :: st) m Q := kJ_next d187_148 rfl
theorem d187_149 : decode (mB 187) 149 = .ok (.irem, 1) := by decide +kernel
theorem s187_149 {l0 l1 l2 l3 l4 l5 l6 l7 l8 l9 l10 : Option Value} {st : List Value} {a b : Int32} {m : kMem} {Q : Option Value → kMem → Prop} (hb : ¬ b = 0) : kJ 187 149 [l0, l1, l2, l3, l4, l5, l6, l7, l8, l9, l10] (.int b :: .int a :: st) m Q = kJ 187 150 [l0, l1, l2, l3, l4, l5, l6, l7, l8, l9, l10] (.int (a - a / b * b) :: st) m Q := kJ_next d187_149 (kg_irem hb)
theorem d187_150 : decode (mB 187) 150 = .ok (.aload_n 0, 1) := by decide +kernel
theorem s187_150 {l1 l2 l3 l4 l5 l6 l7 l8 l9 l10 : Option Value} {st : List Value} {x : Nat} {m : kMem} {Q : Option Value → kMem → Prop} : kJ 187 150 [some (.ref x), l1, l2, l3, l4, l5, l6, l7, l8, l9, l10] st m Q = kJ 187 151 [some (.ref x), l1, l2, l3, l4, l5, l6, l7, l8, l9, l10] (.ref x :: st) m Q := kJ_next d187_150 rfl
theorem d187_151 : decode (mB 187) 151 = .ok (.getfield 7, 3) := by decide +kernel
theorem s187_151 {l0 l1 l2 l3 l4 l5 l6 l7 l8 l9 l10 : Option Value} {st : List Value} {q : Nat} {mi : Nat → Nat → Int32} {ml : Nat → Nat → Int64} {mr : Nat → Nat → Option Nat} {nx : Nat} {Q : Option Value → kMem → Prop} (h : kIs nx q 5 = true) : kJ 187 151 [l0, l1, l2, l3, l4, l5, l6, l7, l8, l9, l10] (.ref q :: st) (mi, ml, mr, nx) Q = kJ 187 154 [l0, l1, l2, l3, l4, l5, l6, l7, l8, l9, l10] (va_rf (mr q 0) :: st) (mi, ml, mr, nx) Q := kJ_next d187_151 (kg_getr 5 0 rfl h (by decide))
theorem d187_154 : decode (mB 187) 154 = .ok (.bipush 15, 2) := by decide +kernel
theorem s187_154 {l0 l1 l2 l3 l4 l5 l6 l7 l8 l9 l10 : Option Value} {st : List Value} {m : kMem} {Q : Option Value → kMem → Prop} : kJ 187 154 [l0, l1, l2, l3, l4, l5, l6, l7, l8, l9, l10] st m Q = kJ 187 156 [l0, l1, l2, l3, l4, l5, l6, l7, l8, l9, l10] (.int (nI 15) :: st) m Q := kJ_next d187_154 rfl
theorem d187_156 : decode (mB 187) 156 = .ok (.iaload, 1) := by decide +kernel
theorem s187_156 {l0 l1 l2 l3 l4 l5 l6 l7 l8 l9 l10 : Option Value} {st : List Value} {q : Nat} {i : Int32} {mi : Nat → Nat → Int32} {ml : Nat → Nat → Int64} {mr : Nat → Nat → Option Nat} {nx : Nat} {Q : Option Value → kMem → Prop} (h : kIs nx q 10 = true) : kJ 187 156 [l0, l1, l2, l3, l4, l5, l6, l7, l8, l9, l10] (.int i :: .ref q :: st) (mi, ml, mr, nx) Q = (vp_in i (kAl q) ∧ kJ 187 157 [l0, l1, l2, l3, l4, l5, l6, l7, l8, l9, l10] (.int (mi q i.toNatClampNeg) :: st) (mi, ml, mr, nx) Q) := kg_aldJ d187_156 rfl (kAr_of h)
theorem d187_157 : decode (mB 187) 157 = .ok (.if_icmp .ge 28, 3) := by decide +kernel
theorem s187_157 {l0 l1 l2 l3 l4 l5 l6 l7 l8 l9 l10 : Option Value} {st : List Value} {a b : Int32} {m : kMem} {Q : Option Value → kMem → Prop} : kJ 187 157 [l0, l1, l2, l3, l4, l5, l6, l7, l8, l9, l10] (.int b :: .int a :: st) m Q = (if b ≤ a then kJ 187 185 [l0, l1, l2, l3, l4, l5, l6, l7, l8, l9, l10] st m Q else kJ 187 160 [l0, l1, l2, l3, l4, l5, l6, l7, l8, l9, l10] st m Q) := kJ_if d187_157 rfl (fun h => kJ_next d187_157 h) (fun h => kJ_next d187_157 h)
theorem d187_160 : decode (mB 187) 160 = .ok (.iload 7, 2) := by decide +kernel
theorem s187_160 {l0 l1 l2 l3 l4 l5 l6 l8 l9 l10 : Option Value} {st : List Value} {x : Int32} {m : kMem} {Q : Option Value → kMem → Prop} : kJ 187 160 [l0, l1, l2, l3, l4, l5, l6, some (.int x), l8, l9, l10] st m Q = kJ 187 162 [l0, l1, l2, l3, l4, l5, l6, some (.int x), l8, l9, l10] (.int x :: st) m Q := kJ_next d187_160 rfl
theorem d187_162 : decode (mB 187) 162 = .ok (.iload 4, 2) := by decide +kernel
theorem s187_162 {l0 l1 l2 l3 l5 l6 l7 l8 l9 l10 : Option Value} {st : List Value} {x : Int32} {m : kMem} {Q : Option Value → kMem → Prop} : kJ 187 162 [l0, l1, l2, l3, some (.int x), l5, l6, l7, l8, l9, l10] st m Q = kJ 187 164 [l0, l1, l2, l3, some (.int x), l5, l6, l7, l8, l9, l10] (.int x :: st) m Q := kJ_next d187_162 rfl
theorem d187_164 : decode (mB 187) 164 = .ok (.if_icmp .ge 21, 3) := by decide +kernel
theorem s187_164 {l0 l1 l2 l3 l4 l5 l6 l7 l8 l9 l10 : Option Value} {st : List Value} {a b : Int32} {m : kMem} {Q : Option Value → kMem → Prop} : kJ 187 164 [l0, l1, l2, l3, l4, l5, l6, l7, l8, l9, l10] (.int b :: .int a :: st) m Q = (if b ≤ a then kJ 187 185 [l0, l1, l2, l3, l4, l5, l6, l7, l8, l9, l10] st m Q else kJ 187 167 [l0, l1, l2, l3, l4, l5, l6, l7, l8, l9, l10] st m Q) := kJ_if d187_164 rfl (fun h => kJ_next d187_164 h) (fun h => kJ_next d187_164 h)
theorem d187_167 : decode (mB 187) 167 = .ok (.iload 7, 2) := by decide +kernel
theorem s187_167 {l0 l1 l2 l3 l4 l5 l6 l8 l9 l10 : Option Value} {st : List Value} {x : Int32} {m : kMem} {Q : Option Value → kMem → Prop} : kJ 187 167 [l0, l1, l2, l3, l4, l5, l6, some (.int x), l8, l9, l10] st m Q = kJ 187 169 [l0, l1, l2, l3, l4, l5, l6, some (.int x), l8, l9, l10] (.int x :: st) m Q := kJ_next d187_167 rfl
theorem d187_169 : decode (mB 187) 169 = .ok (.istore 4, 2) := by decide +kernel
theorem s187_169 {l0 l1 l2 l3 l4 l5 l6 l7 l8 l9 l10 : Option Value} {st : List Value} {x : Int32} {m : kMem} {Q : Option Value → kMem → Prop} (hp : kNL l3 = true) : kJ 187 169 [l0, l1, l2, l3, l4, l5, l6, l7, l8, l9, l10] (.int x :: st) m Q = kJ 187 171 [l0, l1, l2, l3, some (.int x), l5, l6, l7, l8, l9, l10] st m Q := kJ_next d187_169 (kg_sti (Nat.le_of_ble_eq_true rfl) hp)
theorem d187_171 : decode (mB 187) 171 = .ok (.bipush 10, 2) := by decide +kernel
theorem s187_171 {l0 l1 l2 l3 l4 l5 l6 l7 l8 l9 l10 : Option Value} {st : List Value} {m : kMem} {Q : Option Value → kMem → Prop} : kJ 187 171 [l0, l1, l2, l3, l4, l5, l6, l7, l8, l9, l10] st m Q = kJ 187 173 [l0, l1, l2, l3, l4, l5, l6, l7, l8, l9, l10] (.int (nI 10) :: st) m Q := kJ_next d187_171 rfl
theorem d187_173 : decode (mB 187) 173 = .ok (.iload 6, 2) := by decide +kernel
theorem s187_173 {l0 l1 l2 l3 l4 l5 l7 l8 l9 l10 : Option Value} {st : List Value} {x : Int32} {m : kMem} {Q : Option Value → kMem → Prop} : kJ 187 173 [l0, l1, l2, l3, l4, l5, some (.int x), l7, l8, l9, l10] st m Q = kJ 187 175 [l0, l1, l2, l3, l4, l5, some (.int x), l7, l8, l9, l10] (.int x :: st) m Q := kJ_next d187_173 rfl
theorem d187_175 : decode (mB 187) 175 = .ok (.iconst 5, 1) := by decide +kernel
theorem s187_175 {l0 l1 l2 l3 l4 l5 l6 l7 l8 l9 l10 : Option Value} {st : List Value} {m : kMem} {Q : Option Value → kMem → Prop} : kJ 187 175 [l0, l1, l2, l3, l4, l5, l6, l7, l8, l9, l10] st m Q = kJ 187 176 [l0, l1, l2, l3, l4, l5, l6, l7, l8, l9, l10] (.int (nI 5) :: st) m Q := kJ_next d187_175 rfl
theorem d187_176 : decode (mB 187) 176 = .ok (.idiv, 1) := by decide +kernel
theorem s187_176 {l0 l1 l2 l3 l4 l5 l6 l7 l8 l9 l10 : Option Value} {st : List Value} {a b : Int32} {m : kMem} {Q : Option Value → kMem → Prop} (hb : ¬ b = 0) : kJ 187 176 [l0, l1, l2, l3, l4, l5, l6, l7, l8, l9, l10] (.int b :: .int a :: st) m Q = kJ 187 177 [l0, l1, l2, l3, l4, l5, l6, l7, l8, l9, l10] (.int (a / b) :: st) m Q := kJ_next d187_176 (kg_idiv hb)
theorem d187_177 : decode (mB 187) 177 = .ok (.imul, 1) := by decide +kernel
theorem s187_177 {l0 l1 l2 l3 l4 l5 l6 l7 l8 l9 l10 : Option Value} {st : List Value} {a b : Int32} {m : kMem} {Q : Option Value → kMem → Prop} : kJ 187 177 [l0, l1, l2, l3, l4, l5, l6, l7, l8, l9, l10] (.int b :: .int a :: st) m Q = kJ 187 178 [l0, l1, l2, l3, l4, l5, l6, l7, l8, l9, l10] (.int (a * b) :: st) m Q := kJ_next d187_177 rfl
theorem d187_178 : decode (mB 187) 178 = .ok (.iload 6, 2) := by decide +kernel
theorem s187_178 {l0 l1 l2 l3 l4 l5 l7 l8 l9 l10 : Option Value} {st : List Value} {x : Int32} {m : kMem} {Q : Option Value → kMem → Prop} : kJ 187 178 [l0, l1, l2, l3, l4, l5, some (.int x), l7, l8, l9, l10] st m Q = kJ 187 180 [l0, l1, l2, l3, l4, l5, some (.int x), l7, l8, l9, l10] (.int x :: st) m Q := kJ_next d187_178 rfl
theorem d187_180 : decode (mB 187) 180 = .ok (.iconst 5, 1) := by decide +kernel
theorem s187_180 {l0 l1 l2 l3 l4 l5 l6 l7 l8 l9 l10 : Option Value} {st : List Value} {m : kMem} {Q : Option Value → kMem → Prop} : kJ 187 180 [l0, l1, l2, l3, l4, l5, l6, l7, l8, l9, l10] st m Q = kJ 187 181 [l0, l1, l2, l3, l4, l5, l6, l7, l8, l9, l10] (.int (nI 5) :: st) m Q := kJ_next d187_180 rfl
theorem d187_181 : decode (mB 187) 181 = .ok (.irem, 1) := by decide +kernel
theorem s187_181 {l0 l1 l2 l3 l4 l5 l6 l7 l8 l9 l10 : Option Value} {st : List Value} {a b : Int32} {m : kMem} {Q : Option Value → kMem → Prop} (hb : ¬ b = 0) : kJ 187 181 [l0, l1, l2, l3, l4, l5, l6, l7, l8, l9, l10] (.int b :: .int a :: st) m Q = kJ 187 182 [l0, l1, l2, l3, l4, l5, l6, l7, l8, l9, l10] (.int (a - a / b * b) :: st) m Q := kJ_next d187_181 (kg_irem hb)
theorem d187_182 : decode (mB 187) 182 = .ok (.iadd, 1) := by decide +kernel
theorem s187_182 {l0 l1 l2 l3 l4 l5 l6 l7 l8 l9 l10 : Option Value} {st : List Value} {a b : Int32} {m : kMem} {Q : Option Value → kMem → Prop} : kJ 187 182 [l0, l1, l2, l3, l4, l5, l6, l7, l8, l9, l10] (.int b :: .int a :: st) m Q = kJ 187 183 [l0, l1, l2, l3, l4, l5, l6, l7, l8, l9, l10] (.int (a + b) :: st) m Q := kJ_next d187_182 rfl
theorem d187_183 : decode (mB 187) 183 = .ok (.istore 5, 2) := by decide +kernel
theorem s187_183 {l0 l1 l2 l3 l4 l5 l6 l7 l8 l9 l10 : Option Value} {st : List Value} {x : Int32} {m : kMem} {Q : Option Value → kMem → Prop} (hp : kNL l4 = true) : kJ 187 183 [l0, l1, l2, l3, l4, l5, l6, l7, l8, l9, l10] (.int x :: st) m Q = kJ 187 185 [l0, l1, l2, l3, l4, some (.int x), l6, l7, l8, l9, l10] st m Q := kJ_next d187_183 (kg_sti (Nat.le_of_ble_eq_true rfl) hp)
theorem d187_185 : decode (mB 187) 185 = .ok (.iinc 6 1, 3) := by decide +kernel
theorem s187_185 {l0 l1 l2 l3 l4 l5 l7 l8 l9 l10 : Option Value} {st : List Value} {x : Int32} {m : kMem} {Q : Option Value → kMem → Prop} (hp : kNL l5 = true) : kJ 187 185 [l0, l1, l2, l3, l4, l5, some (.int x), l7, l8, l9, l10] st m Q = kJ 187 188 [l0, l1, l2, l3, l4, l5, some (.int (x + (nI 1))), l7, l8, l9, l10] st m Q := kJ_next d187_185 (kg_inc rfl (Nat.le_of_ble_eq_true rfl) hp)
theorem d187_188 : decode (mB 187) 188 = .ok (.goto (-143), 3) := by decide +kernel
theorem s187_188 {l0 l1 l2 l3 l4 l5 l6 l7 l8 l9 l10 : Option Value} {st : List Value} {m : kMem} {Q : Option Value → kMem → Prop} : kJ 187 188 [l0, l1, l2, l3, l4, l5, l6, l7, l8, l9, l10] st m Q = kJ 187 45 [l0, l1, l2, l3, l4, l5, l6, l7, l8, l9, l10] st m Q := kJ_next d187_188 rfl
theorem d187_191 : decode (mB 187) 191 = .ok (.iload 5, 2) := by decide +kernel
theorem s187_191 {l0 l1 l2 l3 l4 l6 l7 l8 l9 l10 : Option Value} {st : List Value} {x : Int32} {m : kMem} {Q : Option Value → kMem → Prop} : kJ 187 191 [l0, l1, l2, l3, l4, some (.int x), l6, l7, l8, l9, l10] st m Q = kJ 187 193 [l0, l1, l2, l3, l4, some (.int x), l6, l7, l8, l9, l10] (.int x :: st) m Q := kJ_next d187_191 rfl
theorem d187_193 : decode (mB 187) 193 = .ok (.bipush (-4), 2) := by decide +kernel
theorem s187_193 {l0 l1 l2 l3 l4 l5 l6 l7 l8 l9 l10 : Option Value} {st : List Value} {m : kMem} {Q : Option Value → kMem → Prop} : kJ 187 193 [l0, l1, l2, l3, l4, l5, l6, l7, l8, l9, l10] st m Q = kJ 187 195 [l0, l1, l2, l3, l4, l5, l6, l7, l8, l9, l10] (.int (-4) :: st) m Q := kJ_next d187_193 rfl
theorem d187_195 : decode (mB 187) 195 = .ok (.if_icmp .ne 8, 3) := by decide +kernel
theorem s187_195 {l0 l1 l2 l3 l4 l5 l6 l7 l8 l9 l10 : Option Value} {st : List Value} {a b : Int32} {m : kMem} {Q : Option Value → kMem → Prop} : kJ 187 195 [l0, l1, l2, l3, l4, l5, l6, l7, l8, l9, l10] (.int b :: .int a :: st) m Q = (if a = b then kJ 187 198 [l0, l1, l2, l3, l4, l5, l6, l7, l8, l9, l10] st m Q else kJ 187 203 [l0, l1, l2, l3, l4, l5, l6, l7, l8, l9, l10] st m Q) := kJ_if d187_195 rfl (fun h => kJ_next d187_195 h) (fun h => kJ_next d187_195 h)
theorem d187_198 : decode (mB 187) 198 = .ok (.bipush (-4), 2) := by decide +kernel
theorem s187_198 {l0 l1 l2 l3 l4 l5 l6 l7 l8 l9 l10 : Option Value} {st : List Value} {m : kMem} {Q : Option Value → kMem → Prop} : kJ 187 198 [l0, l1, l2, l3, l4, l5, l6, l7, l8, l9, l10] st m Q = kJ 187 200 [l0, l1, l2, l3, l4, l5, l6, l7, l8, l9, l10] (.int (-4) :: st) m Q := kJ_next d187_198 rfl
theorem d187_200 : decode (mB 187) 200 = .ok (.goto 14, 3) := by decide +kernel
theorem s187_200 {l0 l1 l2 l3 l4 l5 l6 l7 l8 l9 l10 : Option Value} {st : List Value} {m : kMem} {Q : Option Value → kMem → Prop} : kJ 187 200 [l0, l1, l2, l3, l4, l5, l6, l7, l8, l9, l10] st m Q = kJ 187 214 [l0, l1, l2, l3, l4, l5, l6, l7, l8, l9, l10] st m Q := kJ_next d187_200 rfl
theorem d187_203 : decode (mB 187) 203 = .ok (.iload_n 2, 1) := by decide +kernel
theorem s187_203 {l0 l1 l3 l4 l5 l6 l7 l8 l9 l10 : Option Value} {st : List Value} {x : Int32} {m : kMem} {Q : Option Value → kMem → Prop} : kJ 187 203 [l0, l1, some (.int x), l3, l4, l5, l6, l7, l8, l9, l10] st m Q = kJ 187 204 [l0, l1, some (.int x), l3, l4, l5, l6, l7, l8, l9, l10] (.int x :: st) m Q := kJ_next d187_203 rfl
theorem d187_204 : decode (mB 187) 204 = .ok (.ifCond .ne 8, 3) := by decide +kernel
theorem s187_204 {l0 l1 l2 l3 l4 l5 l6 l7 l8 l9 l10 : Option Value} {st : List Value} {a : Int32} {m : kMem} {Q : Option Value → kMem → Prop} : kJ 187 204 [l0, l1, l2, l3, l4, l5, l6, l7, l8, l9, l10] (.int a :: st) m Q = (if a = 0 then kJ 187 207 [l0, l1, l2, l3, l4, l5, l6, l7, l8, l9, l10] st m Q else kJ 187 212 [l0, l1, l2, l3, l4, l5, l6, l7, l8, l9, l10] st m Q) := kJ_if d187_204 rfl (fun h => kJ_next d187_204 h) (fun h => kJ_next d187_204 h)
theorem d187_207 : decode (mB 187) 207 = .ok (.iload 5, 2) := by decide +kernel
theorem s187_207 {l0 l1 l2 l3 l4 l6 l7 l8 l9 l10 : Option Value} {st : List Value} {x : Int32} {m : kMem} {Q : Option Value → kMem → Prop} : kJ 187 207 [l0, l1, l2, l3, l4, some (.int x), l6, l7, l8, l9, l10] st m Q = kJ 187 209 [l0, l1, l2, l3, l4, some (.int x), l6, l7, l8, l9, l10] (.int x :: st) m Q := kJ_next d187_207 rfl
theorem d187_209 : decode (mB 187) 209 = .ok (.goto 5, 3) := by decide +kernel
theorem s187_209 {l0 l1 l2 l3 l4 l5 l6 l7 l8 l9 l10 : Option Value} {st : List Value} {m : kMem} {Q : Option Value → kMem → Prop} : kJ 187 209 [l0, l1, l2, l3, l4, l5, l6, l7, l8, l9, l10] st m Q = kJ 187 214 [l0, l1, l2, l3, l4, l5, l6, l7, l8, l9, l10] st m Q := kJ_next d187_209 rfl
theorem d187_212 : decode (mB 187) 212 = .ok (.iload 4, 2) := by decide +kernel
theorem s187_212 {l0 l1 l2 l3 l5 l6 l7 l8 l9 l10 : Option Value} {st : List Value} {x : Int32} {m : kMem} {Q : Option Value → kMem → Prop} : kJ 187 212 [l0, l1, l2, l3, some (.int x), l5, l6, l7, l8, l9, l10] st m Q = kJ 187 214 [l0, l1, l2, l3, some (.int x), l5, l6, l7, l8, l9, l10] (.int x :: st) m Q := kJ_next d187_212 rfl
theorem d187_214 : decode (mB 187) 214 = .ok (.ireturn, 1) := by decide +kernel
theorem s187_214 {l0 l1 l2 l3 l4 l5 l6 l7 l8 l9 l10 : Option Value} {x : Int32} {m : kMem} {Q : Option Value → kMem → Prop} : kJ 187 214 [l0, l1, l2, l3, l4, l5, l6, l7, l8, l9, l10] [.int x] m Q = Q (some (.int x)) m := kJ_ret d187_214 rfl
theorem d188_0 : decode (mB 188) 0 = .ok (.iload_n 2, 1) := by decide +kernel
theorem s188_0 {l0 l1 l3 l4 l5 l6 l7 : Option Value} {st : List Value} {x : Int32} {m : kMem} {Q : Option Value → kMem → Prop} : kJ 188 0 [l0, l1, some (.int x), l3, l4, l5, l6, l7] st m Q = kJ 188 1 [l0, l1, some (.int x), l3, l4, l5, l6, l7] (.int x :: st) m Q := kJ_next d188_0 rfl
theorem d188_1 : decode (mB 188) 1 = .ok (.i2l, 1) := by decide +kernel
theorem s188_1 {l0 l1 l2 l3 l4 l5 l6 l7 : Option Value} {st : List Value} {a : Int32} {m : kMem} {Q : Option Value → kMem → Prop} : kJ 188 1 [l0, l1, l2, l3, l4, l5, l6, l7] (.int a :: st) m Q = kJ 188 2 [l0, l1, l2, l3, l4, l5, l6, l7] (.long a.toInt64 :: st) m Q := kJ_next d188_1 rfl
theorem d188_2 : decode (mB 188) 2 = .ok (.lconst 1, 1) := by decide +kernel
theorem s188_2 {l0 l1 l2 l3 l4 l5 l6 l7 : Option Value} {st : List Value} {m : kMem} {Q : Option Value → kMem → Prop} : kJ 188 2 [l0, l1, l2, l3, l4, l5, l6, l7] st m Q = kJ 188 3 [l0, l1, l2, l3, l4, l5, l6, l7] (.long 1 :: st) m Q := kJ_next d188_2 rfl
theorem d188_3 : decode (mB 188) 3 = .ok (.ldc2_w 231, 3) := by decide +kernel
theorem s188_3 {l0 l1 l2 l3 l4 l5 l6 l7 : Option Value} {st : List Value} {m : kMem} {Q : Option Value → kMem → Prop} : kJ 188 3 [l0, l1, l2, l3, l4, l5, l6, l7] st m Q = kJ 188 6 [l0, l1, l2, l3, l4, l5, l6, l7] (.long (60) :: st) m Q := kJ_next d188_3 rfl
theorem d188_6 : decode (mB 188) 6 = .ok (.invokestatic 60, 3) := by decide +kernel
theorem s188_6 {l0 l1 l2 l3 l4 l5 l6 l7 : Option Value} {v0 : Int64} {v1 : Int64} {v2 : Int64} {m : kMem} {Q : Option Value → kMem → Prop} : kJ 188 6 [l0, l1, l2, l3, l4, l5, l6, l7] [.long v0, .long v1, .long v2] m Q = kJ 107 0 [some (.long v2), none, some (.long v1), none, some (.long v0), none] [] m (fun v m2 => kJ 188 9 [l0, l1, l2, l3, l4, l5, l6, l7] (v.toList ++ []) m2 Q) := kJ_call d188_6 (kg_calls 107 3 rfl rfl (Nat.le_of_ble_eq_true rfl) (Nat.le_of_ble_eq_true rfl) (Nat.le_of_ble_eq_true rfl) (Nat.le_of_ble_eq_true rfl))
theorem d188_9 : decode (mB 188) 9 = .ok (.ifCond .eq 10, 3) := by decide +kernel
theorem s188_9 {l0 l1 l2 l3 l4 l5 l6 l7 : Option Value} {st : List Value} {a : Int32} {m : kMem} {Q : Option Value → kMem → Prop} : kJ 188 9 [l0, l1, l2, l3, l4, l5, l6, l7] (.int a :: st) m Q = (if a = 0 then kJ 188 19 [l0, l1, l2, l3, l4, l5, l6, l7] st m Q else kJ 188 12 [l0, l1, l2, l3, l4, l5, l6, l7] st m Q) := kJ_if d188_9 rfl (fun h => kJ_next d188_9 h) (fun h => kJ_next d188_9 h)
theorem d188_12 : decode (mB 188) 12 = .ok (.iload_n 3, 1) := by decide +kernel
theorem s188_12 {l0 l1 l2 l4 l5 l6 l7 : Option Value} {st : List Value} {x : Int32} {m : kMem} {Q : Option Value → kMem → Prop} : kJ 188 12 [l0, l1, l2, some (.int x), l4, l5, l6, l7] st m Q = kJ 188 13 [l0, l1, l2, some (.int x), l4, l5, l6, l7] (.int x :: st) m Q := kJ_next d188_12 rfl
theorem d188_13 : decode (mB 188) 13 = .ok (.invokestatic 254, 3) := by decide +kernel
theorem s188_13 {l0 l1 l2 l3 l4 l5 l6 l7 : Option Value} {v0 : Int32} {m : kMem} {Q : Option Value → kMem → Prop} : kJ 188 13 [l0, l1, l2, l3, l4, l5, l6, l7] [.int v0] m Q = kJ 129 0 [some (.int v0)] [] m (fun v m2 => kJ 188 16 [l0, l1, l2, l3, l4, l5, l6, l7] (v.toList ++ []) m2 Q) := kJ_call d188_13 (kg_calls 129 1 rfl rfl (Nat.le_of_ble_eq_true rfl) (Nat.le_of_ble_eq_true rfl) (Nat.le_of_ble_eq_true rfl) (Nat.le_of_ble_eq_true rfl))
theorem d188_16 : decode (mB 188) 16 = .ok (.ifCond .ne 5, 3) := by decide +kernel
theorem s188_16 {l0 l1 l2 l3 l4 l5 l6 l7 : Option Value} {st : List Value} {a : Int32} {m : kMem} {Q : Option Value → kMem → Prop} : kJ 188 16 [l0, l1, l2, l3, l4, l5, l6, l7] (.int a :: st) m Q = (if a = 0 then kJ 188 19 [l0, l1, l2, l3, l4, l5, l6, l7] st m Q else kJ 188 21 [l0, l1, l2, l3, l4, l5, l6, l7] st m Q) := kJ_if d188_16 rfl (fun h => kJ_next d188_16 h) (fun h => kJ_next d188_16 h)
theorem d188_19 : decode (mB 188) 19 = .ok (.iconst (-1), 1) := by decide +kernel
theorem s188_19 {l0 l1 l2 l3 l4 l5 l6 l7 : Option Value} {st : List Value} {m : kMem} {Q : Option Value → kMem → Prop} : kJ 188 19 [l0, l1, l2, l3, l4, l5, l6, l7] st m Q = kJ 188 20 [l0, l1, l2, l3, l4, l5, l6, l7] (.int (-1) :: st) m Q := kJ_next d188_19 rfl
theorem d188_20 : decode (mB 188) 20 = .ok (.ireturn, 1) := by decide +kernel
theorem s188_20 {l0 l1 l2 l3 l4 l5 l6 l7 : Option Value} {x : Int32} {m : kMem} {Q : Option Value → kMem → Prop} : kJ 188 20 [l0, l1, l2, l3, l4, l5, l6, l7] [.int x] m Q = Q (some (.int x)) m := kJ_ret d188_20 rfl
theorem d188_21 : decode (mB 188) 21 = .ok (.aload_n 0, 1) := by decide +kernel
theorem s188_21 {l1 l2 l3 l4 l5 l6 l7 : Option Value} {st : List Value} {x : Nat} {m : kMem} {Q : Option Value → kMem → Prop} : kJ 188 21 [some (.ref x), l1, l2, l3, l4, l5, l6, l7] st m Q = kJ 188 22 [some (.ref x), l1, l2, l3, l4, l5, l6, l7] (.ref x :: st) m Q := kJ_next d188_21 rfl
theorem d188_22 : decode (mB 188) 22 = .ok (.getfield 7, 3) := by decide +kernel
theorem s188_22 {l0 l1 l2 l3 l4 l5 l6 l7 : Option Value} {st : List Value} {q : Nat} {mi : Nat → Nat → Int32} {ml : Nat → Nat → Int64} {mr : Nat → Nat → Option Nat} {nx : Nat} {Q : Option Value → kMem → Prop} (h : kIs nx q 5 = true) : kJ 188 22 [l0, l1, l2, l3, l4, l5, l6, l7] (.ref q :: st) (mi, ml, mr, nx) Q = kJ 188 25 [l0, l1, l2, l3, l4, l5, l6, l7] (va_rf (mr q 0) :: st) (mi, ml, mr, nx) Q := kJ_next d188_22 (kg_getr 5 0 rfl h (by decide))
theorem d188_25 : decode (mB 188) 25 = .ok (.bipush 52, 2) := by decide +kernel
theorem s188_25 {l0 l1 l2 l3 l4 l5 l6 l7 : Option Value} {st : List Value} {m : kMem} {Q : Option Value → kMem → Prop} : kJ 188 25 [l0, l1, l2, l3, l4, l5, l6, l7] st m Q = kJ 188 27 [l0, l1, l2, l3, l4, l5, l6, l7] (.int (nI 52) :: st) m Q := kJ_next d188_25 rfl
theorem d188_27 : decode (mB 188) 27 = .ok (.iaload, 1) := by decide +kernel
theorem s188_27 {l0 l1 l2 l3 l4 l5 l6 l7 : Option Value} {st : List Value} {q : Nat} {i : Int32} {mi : Nat → Nat → Int32} {ml : Nat → Nat → Int64} {mr : Nat → Nat → Option Nat} {nx : Nat} {Q : Option Value → kMem → Prop} (h : kIs nx q 10 = true) : kJ 188 27 [l0, l1, l2, l3, l4, l5, l6, l7] (.int i :: .ref q :: st) (mi, ml, mr, nx) Q = (vp_in i (kAl q) ∧ kJ 188 28 [l0, l1, l2, l3, l4, l5, l6, l7] (.int (mi q i.toNatClampNeg) :: st) (mi, ml, mr, nx) Q) := kg_aldJ d188_27 rfl (kAr_of h)
theorem d188_28 : decode (mB 188) 28 = .ok (.ifCond .ne 6, 3) := by decide +kernel
theorem s188_28 {l0 l1 l2 l3 l4 l5 l6 l7 : Option Value} {st : List Value} {a : Int32} {m : kMem} {Q : Option Value → kMem → Prop} : kJ 188 28 [l0, l1, l2, l3, l4, l5, l6, l7] (.int a :: st) m Q = (if a = 0 then kJ 188 31 [l0, l1, l2, l3, l4, l5, l6, l7] st m Q else kJ 188 34 [l0, l1, l2, l3, l4, l5, l6, l7] st m Q) := kJ_if d188_28 rfl (fun h => kJ_next d188_28 h) (fun h => kJ_next d188_28 h)
theorem d188_31 : decode (mB 188) 31 = .ok (.bipush (-2), 2) := by decide +kernel
theorem s188_31 {l0 l1 l2 l3 l4 l5 l6 l7 : Option Value} {st : List Value} {m : kMem} {Q : Option Value → kMem → Prop} : kJ 188 31 [l0, l1, l2, l3, l4, l5, l6, l7] st m Q = kJ 188 33 [l0, l1, l2, l3, l4, l5, l6, l7] (.int (-2) :: st) m Q := kJ_next d188_31 rfl
theorem d188_33 : decode (mB 188) 33 = .ok (.ireturn, 1) := by decide +kernel
theorem s188_33 {l0 l1 l2 l3 l4 l5 l6 l7 : Option Value} {x : Int32} {m : kMem} {Q : Option Value → kMem → Prop} : kJ 188 33 [l0, l1, l2, l3, l4, l5, l6, l7] [.int x] m Q = Q (some (.int x)) m := kJ_ret d188_33 rfl
theorem d188_34 : decode (mB 188) 34 = .ok (.iload_n 1, 1) := by decide +kernel
theorem s188_34 {l0 l2 l3 l4 l5 l6 l7 : Option Value} {st : List Value} {x : Int32} {m : kMem} {Q : Option Value → kMem → Prop} : kJ 188 34 [l0, some (.int x), l2, l3, l4, l5, l6, l7] st m Q = kJ 188 35 [l0, some (.int x), l2, l3, l4, l5, l6, l7] (.int x :: st) m Q := kJ_next d188_34 rfl
theorem d188_35 : decode (mB 188) 35 = .ok (.istore 4, 2) := by decide +kernel
theorem s188_35 {l0 l1 l2 l3 l4 l5 l6 l7 : Option Value} {st : List Value} {x : Int32} {m : kMem} {Q : Option Value → kMem → Prop} (hp : kNL l3 = true) : kJ 188 35 [l0, l1, l2, l3, l4, l5, l6, l7] (.int x :: st) m Q = kJ 188 37 [l0, l1, l2, l3, some (.int x), l5, l6, l7] st m Q := kJ_next d188_35 (kg_sti (Nat.le_of_ble_eq_true rfl) hp)
theorem d188_37 : decode (mB 188) 37 = .ok (.aload_n 0, 1) := by decide +kernel
theorem s188_37 {l1 l2 l3 l4 l5 l6 l7 : Option Value} {st : List Value} {x : Nat} {m : kMem} {Q : Option Value → kMem → Prop} : kJ 188 37 [some (.ref x), l1, l2, l3, l4, l5, l6, l7] st m Q = kJ 188 38 [some (.ref x), l1, l2, l3, l4, l5, l6, l7] (.ref x :: st) m Q := kJ_next d188_37 rfl
theorem d188_38 : decode (mB 188) 38 = .ok (.invokevirtual 195, 3) := by decide +kernel
theorem s188_38 {l0 l1 l2 l3 l4 l5 l6 l7 : Option Value} {v0 : Nat} {m : kMem} {Q : Option Value → kMem → Prop} (h : kIs m.2.2.2 v0 5 = true) : kJ 188 38 [l0, l1, l2, l3, l4, l5, l6, l7] [.ref v0] m Q = kJ 130 0 [some (.ref v0), none] [] m (fun v m2 => kJ 188 41 [l0, l1, l2, l3, l4, l5, l6, l7] (v.toList ++ []) m2 Q) := kJ_call d188_38 (kg_callv 130 0 rfl rfl rfl rfl (Nat.le_of_ble_eq_true rfl) (Nat.le_of_ble_eq_true rfl) (Nat.le_of_ble_eq_true rfl) h rfl)
theorem d188_41 : decode (mB 188) 41 = .ok (.iconst 0, 1) := by decide +kernel
theorem s188_41 {l0 l1 l2 l3 l4 l5 l6 l7 : Option Value} {st : List Value} {m : kMem} {Q : Option Value → kMem → Prop} : kJ 188 41 [l0, l1, l2, l3, l4, l5, l6, l7] st m Q = kJ 188 42 [l0, l1, l2, l3, l4, l5, l6, l7] (.int (nI 0) :: st) m Q := kJ_next d188_41 rfl
theorem d188_42 : decode (mB 188) 42 = .ok (.istore 5, 2) := by decide +kernel
theorem s188_42 {l0 l1 l2 l3 l4 l5 l6 l7 : Option Value} {st : List Value} {x : Int32} {m : kMem} {Q : Option Value → kMem → Prop} (hp : kNL l4 = true) : kJ 188 42 [l0, l1, l2, l3, l4, l5, l6, l7] (.int x :: st) m Q = kJ 188 44 [l0, l1, l2, l3, l4, some (.int x), l6, l7] st m Q := kJ_next d188_42 (kg_sti (Nat.le_of_ble_eq_true rfl) hp)
theorem d188_44 : decode (mB 188) 44 = .ok (.iload 5, 2) := by decide +kernel
theorem s188_44 {l0 l1 l2 l3 l4 l6 l7 : Option Value} {st : List Value} {x : Int32} {m : kMem} {Q : Option Value → kMem → Prop} : kJ 188 44 [l0, l1, l2, l3, l4, some (.int x), l6, l7] st m Q = kJ 188 46 [l0, l1, l2, l3, l4, some (.int x), l6, l7] (.int x :: st) m Q := kJ_next d188_44 rfl
theorem d188_46 : decode (mB 188) 46 = .ok (.iload_n 2, 1) := by decide +kernel
theorem s188_46 {l0 l1 l3 l4 l5 l6 l7 : Option Value} {st : List Value} {x : Int32} {m : kMem} {Q : Option Value → kMem → Prop} : kJ 188 46 [l0, l1, some (.int x), l3, l4, l5, l6, l7] st m Q = kJ 188 47 [l0, l1, some (.int x), l3, l4, l5, l6, l7] (.int x :: st) m Q := kJ_next d188_46 rfl
theorem d188_47 : decode (mB 188) 47 = .ok (.if_icmp .ge 91, 3) := by decide +kernel
theorem s188_47 {l0 l1 l2 l3 l4 l5 l6 l7 : Option Value} {st : List Value} {a b : Int32} {m : kMem} {Q : Option Value → kMem → Prop} : kJ 188 47 [l0, l1, l2, l3, l4, l5, l6, l7] (.int b :: .int a :: st) m Q = (if b ≤ a then kJ 188 138 [l0, l1, l2, l3, l4, l5, l6, l7] st m Q else kJ 188 50 [l0, l1, l2, l3, l4, l5, l6, l7] st m Q) := kJ_if d188_47 rfl (fun h => kJ_next d188_47 h) (fun h => kJ_next d188_47 h)
theorem d188_50 : decode (mB 188) 50 = .ok (.iload 4, 2) := by decide +kernel
theorem s188_50 {l0 l1 l2 l3 l5 l6 l7 : Option Value} {st : List Value} {x : Int32} {m : kMem} {Q : Option Value → kMem → Prop} : kJ 188 50 [l0, l1, l2, l3, some (.int x), l5, l6, l7] st m Q = kJ 188 52 [l0, l1, l2, l3, some (.int x), l5, l6, l7] (.int x :: st) m Q := kJ_next d188_50 rfl
theorem d188_52 : decode (mB 188) 52 = .ok (.ldc_w 297, 3) := by decide +kernel
theorem s188_52 {l0 l1 l2 l3 l4 l5 l6 l7 : Option Value} {st : List Value} {m : kMem} {Q : Option Value → kMem → Prop} : kJ 188 52 [l0, l1, l2, l3, l4, l5, l6, l7] st m Q = kJ 188 55 [l0, l1, l2, l3, l4, l5, l6, l7] (.int 1103515245 :: st) m Q := kJ_next d188_52 rfl
theorem d188_55 : decode (mB 188) 55 = .ok (.imul, 1) := by decide +kernel
theorem s188_55 {l0 l1 l2 l3 l4 l5 l6 l7 : Option Value} {st : List Value} {a b : Int32} {m : kMem} {Q : Option Value → kMem → Prop} : kJ 188 55 [l0, l1, l2, l3, l4, l5, l6, l7] (.int b :: .int a :: st) m Q = kJ 188 56 [l0, l1, l2, l3, l4, l5, l6, l7] (.int (a * b) :: st) m Q := kJ_next d188_55 rfl
theorem d188_56 : decode (mB 188) 56 = .ok (.sipush 12345, 3) := by decide +kernel
theorem s188_56 {l0 l1 l2 l3 l4 l5 l6 l7 : Option Value} {st : List Value} {m : kMem} {Q : Option Value → kMem → Prop} : kJ 188 56 [l0, l1, l2, l3, l4, l5, l6, l7] st m Q = kJ 188 59 [l0, l1, l2, l3, l4, l5, l6, l7] (.int (nI 12345) :: st) m Q := kJ_next d188_56 rfl
theorem d188_59 : decode (mB 188) 59 = .ok (.iadd, 1) := by decide +kernel
theorem s188_59 {l0 l1 l2 l3 l4 l5 l6 l7 : Option Value} {st : List Value} {a b : Int32} {m : kMem} {Q : Option Value → kMem → Prop} : kJ 188 59 [l0, l1, l2, l3, l4, l5, l6, l7] (.int b :: .int a :: st) m Q = kJ 188 60 [l0, l1, l2, l3, l4, l5, l6, l7] (.int (a + b) :: st) m Q := kJ_next d188_59 rfl
theorem d188_60 : decode (mB 188) 60 = .ok (.istore 4, 2) := by decide +kernel
theorem s188_60 {l0 l1 l2 l3 l4 l5 l6 l7 : Option Value} {st : List Value} {x : Int32} {m : kMem} {Q : Option Value → kMem → Prop} (hp : kNL l3 = true) : kJ 188 60 [l0, l1, l2, l3, l4, l5, l6, l7] (.int x :: st) m Q = kJ 188 62 [l0, l1, l2, l3, some (.int x), l5, l6, l7] st m Q := kJ_next d188_60 (kg_sti (Nat.le_of_ble_eq_true rfl) hp)
theorem d188_62 : decode (mB 188) 62 = .ok (.iload 4, 2) := by decide +kernel
theorem s188_62 {l0 l1 l2 l3 l5 l6 l7 : Option Value} {st : List Value} {x : Int32} {m : kMem} {Q : Option Value → kMem → Prop} : kJ 188 62 [l0, l1, l2, l3, some (.int x), l5, l6, l7] st m Q = kJ 188 64 [l0, l1, l2, l3, some (.int x), l5, l6, l7] (.int x :: st) m Q := kJ_next d188_62 rfl
theorem d188_64 : decode (mB 188) 64 = .ok (.bipush 16, 2) := by decide +kernel
theorem s188_64 {l0 l1 l2 l3 l4 l5 l6 l7 : Option Value} {st : List Value} {m : kMem} {Q : Option Value → kMem → Prop} : kJ 188 64 [l0, l1, l2, l3, l4, l5, l6, l7] st m Q = kJ 188 66 [l0, l1, l2, l3, l4, l5, l6, l7] (.int (nI 16) :: st) m Q := kJ_next d188_64 rfl
theorem d188_66 : decode (mB 188) 66 = .ok (.ishr, 1) := by decide +kernel
theorem s188_66 {l0 l1 l2 l3 l4 l5 l6 l7 : Option Value} {st : List Value} {a b : Int32} {m : kMem} {Q : Option Value → kMem → Prop} : kJ 188 66 [l0, l1, l2, l3, l4, l5, l6, l7] (.int b :: .int a :: st) m Q = kJ 188 67 [l0, l1, l2, l3, l4, l5, l6, l7] (.int (a >>> (b &&& 31)) :: st) m Q := kJ_next d188_66 rfl
theorem d188_67 : decode (mB 188) 67 = .ok (.sipush 32767, 3) := by decide +kernel
theorem s188_67 {l0 l1 l2 l3 l4 l5 l6 l7 : Option Value} {st : List Value} {m : kMem} {Q : Option Value → kMem → Prop} : kJ 188 67 [l0, l1, l2, l3, l4, l5, l6, l7] st m Q = kJ 188 70 [l0, l1, l2, l3, l4, l5, l6, l7] (.int (nI 32767) :: st) m Q := kJ_next d188_67 rfl
theorem d188_70 : decode (mB 188) 70 = .ok (.iand, 1) := by decide +kernel
theorem s188_70 {l0 l1 l2 l3 l4 l5 l6 l7 : Option Value} {st : List Value} {a b : Int32} {m : kMem} {Q : Option Value → kMem → Prop} : kJ 188 70 [l0, l1, l2, l3, l4, l5, l6, l7] (.int b :: .int a :: st) m Q = kJ 188 71 [l0, l1, l2, l3, l4, l5, l6, l7] (.int (a &&& b) :: st) m Q := kJ_next d188_70 rfl
theorem d188_71 : decode (mB 188) 71 = .ok (.istore 6, 2) := by decide +kernel
theorem s188_71 {l0 l1 l2 l3 l4 l5 l6 l7 : Option Value} {st : List Value} {x : Int32} {m : kMem} {Q : Option Value → kMem → Prop} (hp : kNL l5 = true) : kJ 188 71 [l0, l1, l2, l3, l4, l5, l6, l7] (.int x :: st) m Q = kJ 188 73 [l0, l1, l2, l3, l4, l5, some (.int x), l7] st m Q := kJ_next d188_71 (kg_sti (Nat.le_of_ble_eq_true rfl) hp)
theorem d188_73 : decode (mB 188) 73 = .ok (.iload 6, 2) := by decide +kernel
theorem s188_73 {l0 l1 l2 l3 l4 l5 l7 : Option Value} {st : List Value} {x : Int32} {m : kMem} {Q : Option Value → kMem → Prop} : kJ 188 73 [l0, l1, l2, l3, l4, l5, some (.int x), l7] st m Q = kJ 188 75 [l0, l1, l2, l3, l4, l5, some (.int x), l7] (.int x :: st) m Q := kJ_next d188_73 rfl
theorem d188_75 : decode (mB 188) 75 = .ok (.aload_n 0, 1) := by decide +kernel
theorem s188_75 {l1 l2 l3 l4 l5 l6 l7 : Option Value} {st : List Value} {x : Nat} {m : kMem} {Q : Option Value → kMem → Prop} : kJ 188 75 [some (.ref x), l1, l2, l3, l4, l5, l6, l7] st m Q = kJ 188 76 [some (.ref x), l1, l2, l3, l4, l5, l6, l7] (.ref x :: st) m Q := kJ_next d188_75 rfl
theorem d188_76 : decode (mB 188) 76 = .ok (.getfield 7, 3) := by decide +kernel
theorem s188_76 {l0 l1 l2 l3 l4 l5 l6 l7 : Option Value} {st : List Value} {q : Nat} {mi : Nat → Nat → Int32} {ml : Nat → Nat → Int64} {mr : Nat → Nat → Option Nat} {nx : Nat} {Q : Option Value → kMem → Prop} (h : kIs nx q 5 = true) : kJ 188 76 [l0, l1, l2, l3, l4, l5, l6, l7] (.ref q :: st) (mi, ml, mr, nx) Q = kJ 188 79 [l0, l1, l2, l3, l4, l5, l6, l7] (va_rf (mr q 0) :: st) (mi, ml, mr, nx) Q := kJ_next d188_76 (kg_getr 5 0 rfl h (by decide))
theorem d188_79 : decode (mB 188) 79 = .ok (.bipush 52, 2) := by decide +kernel
theorem s188_79 {l0 l1 l2 l3 l4 l5 l6 l7 : Option Value} {st : List Value} {m : kMem} {Q : Option Value → kMem → Prop} : kJ 188 79 [l0, l1, l2, l3, l4, l5, l6, l7] st m Q = kJ 188 81 [l0, l1, l2, l3, l4, l5, l6, l7] (.int (nI 52) :: st) m Q := kJ_next d188_79 rfl
theorem d188_81 : decode (mB 188) 81 = .ok (.iaload, 1) := by decide +kernel
theorem s188_81 {l0 l1 l2 l3 l4 l5 l6 l7 : Option Value} {st : List Value} {q : Nat} {i : Int32} {mi : Nat → Nat → Int32} {ml : Nat → Nat → Int64} {mr : Nat → Nat → Option Nat} {nx : Nat} {Q : Option Value → kMem → Prop} (h : kIs nx q 10 = true) : kJ 188 81 [l0, l1, l2, l3, l4, l5, l6, l7] (.int i :: .ref q :: st) (mi, ml, mr, nx) Q = (vp_in i (kAl q) ∧ kJ 188 82 [l0, l1, l2, l3, l4, l5, l6, l7] (.int (mi q i.toNatClampNeg) :: st) (mi, ml, mr, nx) Q) := kg_aldJ d188_81 rfl (kAr_of h)
theorem d188_82 : decode (mB 188) 82 = .ok (.irem, 1) := by decide +kernel
theorem s188_82 {l0 l1 l2 l3 l4 l5 l6 l7 : Option Value} {st : List Value} {a b : Int32} {m : kMem} {Q : Option Value → kMem → Prop} (hb : ¬ b = 0) : kJ 188 82 [l0, l1, l2, l3, l4, l5, l6, l7] (.int b :: .int a :: st) m Q = kJ 188 83 [l0, l1, l2, l3, l4, l5, l6, l7] (.int (a - a / b * b) :: st) m Q := kJ_next d188_82 (kg_irem hb)
theorem d188_83 : decode (mB 188) 83 = .ok (.istore 7, 2) := by decide +kernel
theorem s188_83 {l0 l1 l2 l3 l4 l5 l6 l7 : Option Value} {st : List Value} {x : Int32} {m : kMem} {Q : Option Value → kMem → Prop} (hp : kNL l6 = true) : kJ 188 83 [l0, l1, l2, l3, l4, l5, l6, l7] (.int x :: st) m Q = kJ 188 85 [l0, l1, l2, l3, l4, l5, l6, some (.int x)] st m Q := kJ_next d188_83 (kg_sti (Nat.le_of_ble_eq_true rfl) hp)
theorem d188_85 : decode (mB 188) 85 = .ok (.aload_n 0, 1) := by decide +kernel
theorem s188_85 {l1 l2 l3 l4 l5 l6 l7 : Option Value} {st : List Value} {x : Nat} {m : kMem} {Q : Option Value → kMem → Prop} : kJ 188 85 [some (.ref x), l1, l2, l3, l4, l5, l6, l7] st m Q = kJ 188 86 [some (.ref x), l1, l2, l3, l4, l5, l6, l7] (.ref x :: st) m Q := kJ_next d188_85 rfl
theorem d188_86 : decode (mB 188) 86 = .ok (.iload 7, 2) := by decide +kernel
theorem s188_86 {l0 l1 l2 l3 l4 l5 l6 : Option Value} {st : List Value} {x : Int32} {m : kMem} {Q : Option Value → kMem → Prop} : kJ 188 86 [l0, l1, l2, l3, l4, l5, l6, some (.int x)] st m Q = kJ 188 88 [l0, l1, l2, l3, l4, l5, l6, some (.int x)] (.int x :: st) m Q := kJ_next d188_86 rfl
theorem d188_88 : decode (mB 188) 88 = .ok (.iconst 4, 1) := by decide +kernel
theorem s188_88 {l0 l1 l2 l3 l4 l5 l6 l7 : Option Value} {st : List Value} {m : kMem} {Q : Option Value → kMem → Prop} : kJ 188 88 [l0, l1, l2, l3, l4, l5, l6, l7] st m Q = kJ 188 89 [l0, l1, l2, l3, l4, l5, l6, l7] (.int (nI 4) :: st) m Q := kJ_next d188_88 rfl
theorem d188_89 : decode (mB 188) 89 = .ok (.aload_n 0, 1) := by decide +kernel
theorem s188_89 {l1 l2 l3 l4 l5 l6 l7 : Option Value} {st : List Value} {x : Nat} {m : kMem} {Q : Option Value → kMem → Prop} : kJ 188 89 [some (.ref x), l1, l2, l3, l4, l5, l6, l7] st m Q = kJ 188 90 [some (.ref x), l1, l2, l3, l4, l5, l6, l7] (.ref x :: st) m Q := kJ_next d188_89 rfl
theorem d188_90 : decode (mB 188) 90 = .ok (.aload_n 0, 1) := by decide +kernel
theorem s188_90 {l1 l2 l3 l4 l5 l6 l7 : Option Value} {st : List Value} {x : Nat} {m : kMem} {Q : Option Value → kMem → Prop} : kJ 188 90 [some (.ref x), l1, l2, l3, l4, l5, l6, l7] st m Q = kJ 188 91 [some (.ref x), l1, l2, l3, l4, l5, l6, l7] (.ref x :: st) m Q := kJ_next d188_90 rfl
theorem d188_91 : decode (mB 188) 91 = .ok (.iload 7, 2) := by decide +kernel
theorem s188_91 {l0 l1 l2 l3 l4 l5 l6 : Option Value} {st : List Value} {x : Int32} {m : kMem} {Q : Option Value → kMem → Prop} : kJ 188 91 [l0, l1, l2, l3, l4, l5, l6, some (.int x)] st m Q = kJ 188 93 [l0, l1, l2, l3, l4, l5, l6, some (.int x)] (.int x :: st) m Q := kJ_next d188_91 rfl
theorem d188_93 : decode (mB 188) 93 = .ok (.iconst 0, 1) := by decide +kernel
theorem s188_93 {l0 l1 l2 l3 l4 l5 l6 l7 : Option Value} {st : List Value} {m : kMem} {Q : Option Value → kMem → Prop} : kJ 188 93 [l0, l1, l2, l3, l4, l5, l6, l7] st m Q = kJ 188 94 [l0, l1, l2, l3, l4, l5, l6, l7] (.int (nI 0) :: st) m Q := kJ_next d188_93 rfl
theorem d188_94 : decode (mB 188) 94 = .ok (.invokevirtual 141, 3) := by decide +kernel
theorem s188_94 {l0 l1 l2 l3 l4 l5 l6 l7 : Option Value} {v0 : Int32} {v1 : Int32} {v2 : Nat} {v3 : Nat} {v4 : Int32} {v5 : Int32} {v6 : Nat} {m : kMem} {Q : Option Value → kMem → Prop} (h : kIs m.2.2.2 v2 5 = true) : kJ 188 94 [l0, l1, l2, l3, l4, l5, l6, l7] [.int v0, .int v1, .ref v2, .ref v3, .int v4, .int v5, .ref v6] m Q = kJ 134 0 [some (.ref v2), some (.int v1), some (.int v0)] [] m (fun v m2 => kJ 188 97 [l0, l1, l2, l3, l4, l5, l6, l7] (v.toList ++ [.ref v3, .int v4, .int v5, .ref v6]) m2 Q) := kJ_call d188_94 (kg_callv 134 2 rfl rfl rfl rfl (Nat.le_of_ble_eq_true rfl) (Nat.le_of_ble_eq_true rfl) (Nat.le_of_ble_eq_true rfl) h rfl)
theorem d188_97 : decode (mB 188) 97 = .ok (.iconst 1, 1) := by decide +kernel
theorem s188_97 {l0 l1 l2 l3 l4 l5 l6 l7 : Option Value} {st : List Value} {m : kMem} {Q : Option Value → kMem → Prop} : kJ 188 97 [l0, l1, l2, l3, l4, l5, l6, l7] st m Q = kJ 188 98 [l0, l1, l2, l3, l4, l5, l6, l7] (.int (nI 1) :: st) m Q := kJ_next d188_97 rfl
theorem d188_98 : decode (mB 188) 98 = .ok (.invokevirtual 144, 3) := by decide +kernel
theorem s188_98 {l0 l1 l2 l3 l4 l5 l6 l7 : Option Value} {v0 : Int32} {v1 : Int32} {v2 : Nat} {v3 : Int32} {v4 : Int32} {v5 : Nat} {m : kMem} {Q : Option Value → kMem → Prop} (h : kIs m.2.2.2 v2 5 = true) : kJ 188 98 [l0, l1, l2, l3, l4, l5, l6, l7] [.int v0, .int v1, .ref v2, .int v3, .int v4, .ref v5] m Q = kJ 132 0 [some (.ref v2), some (.int v1), some (.int v0)] [] m (fun v m2 => kJ 188 101 [l0, l1, l2, l3, l4, l5, l6, l7] (v.toList ++ [.int v3, .int v4, .ref v5]) m2 Q) := kJ_call d188_98 (kg_callv 132 2 rfl rfl rfl rfl (Nat.le_of_ble_eq_true rfl) (Nat.le_of_ble_eq_true rfl) (Nat.le_of_ble_eq_true rfl) h rfl)
theorem d188_101 : decode (mB 188) 101 = .ok (.invokevirtual 161, 3) := by decide +kernel
theorem s188_101 {l0 l1 l2 l3 l4 l5 l6 l7 : Option Value} {v0 : Int32} {v1 : Int32} {v2 : Int32} {v3 : Nat} {m : kMem} {Q : Option Value → kMem → Prop} (h : kIs m.2.2.2 v3 5 = true) : kJ 188 101 [l0, l1, l2, l3, l4, l5, l6, l7] [.int v0, .int v1, .int v2, .ref v3] m Q = kJ 135 0 [some (.ref v3), some (.int v2), some (.int v1), some (.int v0)] [] m (fun v m2 => kJ 188 104 [l0, l1, l2, l3, l4, l5, l6, l7] (v.toList ++ []) m2 Q) := kJ_call d188_101 (kg_callv 135 3 rfl rfl rfl rfl (Nat.le_of_ble_eq_true rfl) (Nat.le_of_ble_eq_true rfl) (Nat.le_of_ble_eq_true rfl) h rfl)
theorem d188_104 : decode (mB 188) 104 = .ok (.aload_n 0, 1) := by decide +kernel
theorem s188_104 {l1 l2 l3 l4 l5 l6 l7 : Option Value} {st : List Value} {x : Nat} {m : kMem} {Q : Option Value → kMem → Prop} : kJ 188 104 [some (.ref x), l1, l2, l3, l4, l5, l6, l7] st m Q = kJ 188 105 [some (.ref x), l1, l2, l3, l4, l5, l6, l7] (.ref x :: st) m Q := kJ_next d188_104 rfl
theorem d188_105 : decode (mB 188) 105 = .ok (.iload 7, 2) := by decide +kernel
theorem s188_105 {l0 l1 l2 l3 l4 l5 l6 : Option Value} {st : List Value} {x : Int32} {m : kMem} {Q : Option Value → kMem → Prop} : kJ 188 105 [l0, l1, l2, l3, l4, l5, l6, some (.int x)] st m Q = kJ 188 107 [l0, l1, l2, l3, l4, l5, l6, some (.int x)] (.int x :: st) m Q := kJ_next d188_105 rfl
theorem d188_107 : decode (mB 188) 107 = .ok (.iconst 5, 1) := by decide +kernel
theorem s188_107 {l0 l1 l2 l3 l4 l5 l6 l7 : Option Value} {st : List Value} {m : kMem} {Q : Option Value → kMem → Prop} : kJ 188 107 [l0, l1, l2, l3, l4, l5, l6, l7] st m Q = kJ 188 108 [l0, l1, l2, l3, l4, l5, l6, l7] (.int (nI 5) :: st) m Q := kJ_next d188_107 rfl
theorem d188_108 : decode (mB 188) 108 = .ok (.iconst 0, 1) := by decide +kernel
theorem s188_108 {l0 l1 l2 l3 l4 l5 l6 l7 : Option Value} {st : List Value} {m : kMem} {Q : Option Value → kMem → Prop} : kJ 188 108 [l0, l1, l2, l3, l4, l5, l6, l7] st m Q = kJ 188 109 [l0, l1, l2, l3, l4, l5, l6, l7] (.int (nI 0) :: st) m Q := kJ_next d188_108 rfl
theorem d188_109 : decode (mB 188) 109 = .ok (.invokevirtual 161, 3) := by decide +kernel
theorem s188_109 {l0 l1 l2 l3 l4 l5 l6 l7 : Option Value} {v0 : Int32} {v1 : Int32} {v2 : Int32} {v3 : Nat} {m : kMem} {Q : Option Value → kMem → Prop} (h : kIs m.2.2.2 v3 5 = true) : kJ 188 109 [l0, l1, l2, l3, l4, l5, l6, l7] [.int v0, .int v1, .int v2, .ref v3] m Q = kJ 135 0 [some (.ref v3), some (.int v2), some (.int v1), some (.int v0)] [] m (fun v m2 => kJ 188 112 [l0, l1, l2, l3, l4, l5, l6, l7] (v.toList ++ []) m2 Q) := kJ_call d188_109 (kg_callv 135 3 rfl rfl rfl rfl (Nat.le_of_ble_eq_true rfl) (Nat.le_of_ble_eq_true rfl) (Nat.le_of_ble_eq_true rfl) h rfl)
theorem d188_112 : decode (mB 188) 112 = .ok (.aload_n 0, 1) := by decide +kernel
theorem s188_112 {l1 l2 l3 l4 l5 l6 l7 : Option Value} {st : List Value} {x : Nat} {m : kMem} {Q : Option Value → kMem → Prop} : kJ 188 112 [some (.ref x), l1, l2, l3, l4, l5, l6, l7] st m Q = kJ 188 113 [some (.ref x), l1, l2, l3, l4, l5, l6, l7] (.ref x :: st) m Q := kJ_next d188_112 rfl
theorem d188_113 : decode (mB 188) 113 = .ok (.iload 7, 2) := by decide +kernel
theorem s188_113 {l0 l1 l2 l3 l4 l5 l6 : Option Value} {st : List Value} {x : Int32} {m : kMem} {Q : Option Value → kMem → Prop} : kJ 188 113 [l0, l1, l2, l3, l4, l5, l6, some (.int x)] st m Q = kJ 188 115 [l0, l1, l2, l3, l4, l5, l6, some (.int x)] (.int x :: st) m Q := kJ_next d188_113 rfl
theorem d188_115 : decode (mB 188) 115 = .ok (.iconst 3, 1) := by decide +kernel
theorem s188_115 {l0 l1 l2 l3 l4 l5 l6 l7 : Option Value} {st : List Value} {m : kMem} {Q : Option Value → kMem → Prop} : kJ 188 115 [l0, l1, l2, l3, l4, l5, l6, l7] st m Q = kJ 188 116 [l0, l1, l2, l3, l4, l5, l6, l7] (.int (nI 3) :: st) m Q := kJ_next d188_115 rfl
theorem d188_116 : decode (mB 188) 116 = .ok (.iload 6, 2) := by decide +kernel
theorem s188_116 {l0 l1 l2 l3 l4 l5 l7 : Option Value} {st : List Value} {x : Int32} {m : kMem} {Q : Option Value → kMem → Prop} : kJ 188 116 [l0, l1, l2, l3, l4, l5, some (.int x), l7] st m Q = kJ 188 118 [l0, l1, l2, l3, l4, l5, some (.int x), l7] (.int x :: st) m Q := kJ_next d188_116 rfl
theorem d188_118 : decode (mB 188) 118 = .ok (.bipush 8, 2) := by decide +kernel
theorem s188_118 {l0 l1 l2 l3 l4 l5 l6 l7 : Option Value} {st : List Value} {m : kMem} {Q : Option Value → kMem → Prop} : kJ 188 118 [l0, l1, l2, l3, l4, l5, l6, l7] st m Q = kJ 188 120 [l0, l1, l2, l3, l4, l5, l6, l7] (.int (nI 8) :: st) m Q := kJ_next d188_118 rfl
theorem d188_120 : decode (mB 188) 120 = .ok (.idiv, 1) := by decide +kernel
theorem s188_120 {l0 l1 l2 l3 l4 l5 l6 l7 : Option Value} {st : List Value} {a b : Int32} {m : kMem} {Q : Option Value → kMem → Prop} (hb : ¬ b = 0) : kJ 188 120 [l0, l1, l2, l3, l4, l5, l6, l7] (.int b :: .int a :: st) m Q = kJ 188 121 [l0, l1, l2, l3, l4, l5, l6, l7] (.int (a / b) :: st) m Q := kJ_next d188_120 (kg_idiv hb)
theorem d188_121 : decode (mB 188) 121 = .ok (.bipush 19, 2) := by decide +kernel
theorem s188_121 {l0 l1 l2 l3 l4 l5 l6 l7 : Option Value} {st : List Value} {m : kMem} {Q : Option Value → kMem → Prop} : kJ 188 121 [l0, l1, l2, l3, l4, l5, l6, l7] st m Q = kJ 188 123 [l0, l1, l2, l3, l4, l5, l6, l7] (.int (nI 19) :: st) m Q := kJ_next d188_121 rfl
theorem d188_123 : decode (mB 188) 123 = .ok (.irem, 1) := by decide +kernel
theorem s188_123 {l0 l1 l2 l3 l4 l5 l6 l7 : Option Value} {st : List Value} {a b : Int32} {m : kMem} {Q : Option Value → kMem → Prop} (hb : ¬ b = 0) : kJ 188 123 [l0, l1, l2, l3, l4, l5, l6, l7] (.int b :: .int a :: st) m Q = kJ 188 124 [l0, l1, l2, l3, l4, l5, l6, l7] (.int (a - a / b * b) :: st) m Q := kJ_next d188_123 (kg_irem hb)
theorem d188_124 : decode (mB 188) 124 = .ok (.invokevirtual 161, 3) := by decide +kernel
theorem s188_124 {l0 l1 l2 l3 l4 l5 l6 l7 : Option Value} {v0 : Int32} {v1 : Int32} {v2 : Int32} {v3 : Nat} {m : kMem} {Q : Option Value → kMem → Prop} (h : kIs m.2.2.2 v3 5 = true) : kJ 188 124 [l0, l1, l2, l3, l4, l5, l6, l7] [.int v0, .int v1, .int v2, .ref v3] m Q = kJ 135 0 [some (.ref v3), some (.int v2), some (.int v1), some (.int v0)] [] m (fun v m2 => kJ 188 127 [l0, l1, l2, l3, l4, l5, l6, l7] (v.toList ++ []) m2 Q) := kJ_call d188_124 (kg_callv 135 3 rfl rfl rfl rfl (Nat.le_of_ble_eq_true rfl) (Nat.le_of_ble_eq_true rfl) (Nat.le_of_ble_eq_true rfl) h rfl)
theorem d188_127 : decode (mB 188) 127 = .ok (.aload_n 0, 1) := by decide +kernel
theorem s188_127 {l1 l2 l3 l4 l5 l6 l7 : Option Value} {st : List Value} {x : Nat} {m : kMem} {Q : Option Value → kMem → Prop} : kJ 188 127 [some (.ref x), l1, l2, l3, l4, l5, l6, l7] st m Q = kJ 188 128 [some (.ref x), l1, l2, l3, l4, l5, l6, l7] (.ref x :: st) m Q := kJ_next d188_127 rfl
theorem d188_128 : decode (mB 188) 128 = .ok (.iconst 1, 1) := by decide +kernel
theorem s188_128 {l0 l1 l2 l3 l4 l5 l6 l7 : Option Value} {st : List Value} {m : kMem} {Q : Option Value → kMem → Prop} : kJ 188 128 [l0, l1, l2, l3, l4, l5, l6, l7] st m Q = kJ 188 129 [l0, l1, l2, l3, l4, l5, l6, l7] (.int (nI 1) :: st) m Q := kJ_next d188_128 rfl
theorem d188_129 : decode (mB 188) 129 = .ok (.invokevirtual 181, 3) := by decide +kernel
theorem s188_129 {l0 l1 l2 l3 l4 l5 l6 l7 : Option Value} {v0 : Int32} {v1 : Nat} {m : kMem} {Q : Option Value → kMem → Prop} (h : kIs m.2.2.2 v1 5 = true) : kJ 188 129 [l0, l1, l2, l3, l4, l5, l6, l7] [.int v0, .ref v1] m Q = kJ 144 0 [some (.ref v1), some (.int v0), none] [] m (fun v m2 => kJ 188 132 [l0, l1, l2, l3, l4, l5, l6, l7] (v.toList ++ []) m2 Q) := kJ_call d188_129 (kg_callv 144 1 rfl rfl rfl rfl (Nat.le_of_ble_eq_true rfl) (Nat.le_of_ble_eq_true rfl) (Nat.le_of_ble_eq_true rfl) h rfl)
theorem d188_132 : decode (mB 188) 132 = .ok (.iinc 5 1, 3) := by decide +kernel
theorem s188_132 {l0 l1 l2 l3 l4 l6 l7 : Option Value} {st : List Value} {x : Int32} {m : kMem} {Q : Option Value → kMem → Prop} (hp : kNL l4 = true) : kJ 188 132 [l0, l1, l2, l3, l4, some (.int x), l6, l7] st m Q = kJ 188 135 [l0, l1, l2, l3, l4, some (.int (x + (nI 1))), l6, l7] st m Q := kJ_next d188_132 (kg_inc rfl (Nat.le_of_ble_eq_true rfl) hp)
theorem d188_135 : decode (mB 188) 135 = .ok (.goto (-91), 3) := by decide +kernel
theorem s188_135 {l0 l1 l2 l3 l4 l5 l6 l7 : Option Value} {st : List Value} {m : kMem} {Q : Option Value → kMem → Prop} : kJ 188 135 [l0, l1, l2, l3, l4, l5, l6, l7] st m Q = kJ 188 44 [l0, l1, l2, l3, l4, l5, l6, l7] st m Q := kJ_next d188_135 rfl
theorem d188_138 : decode (mB 188) 138 = .ok (.iload_n 3, 1) := by decide +kernel
theorem s188_138 {l0 l1 l2 l4 l5 l6 l7 : Option Value} {st : List Value} {x : Int32} {m : kMem} {Q : Option Value → kMem → Prop} : kJ 188 138 [l0, l1, l2, some (.int x), l4, l5, l6, l7] st m Q = kJ 188 139 [l0, l1, l2, some (.int x), l4, l5, l6, l7] (.int x :: st) m Q := kJ_next d188_138 rfl
theorem d188_139 : decode (mB 188) 139 = .ok (.ifCond .ne 10, 3) := by decide +kernel
theorem s188_139 {l0 l1 l2 l3 l4 l5 l6 l7 : Option Value} {st : List Value} {a : Int32} {m : kMem} {Q : Option Value → kMem → Prop} : kJ 188 139 [l0, l1, l2, l3, l4, l5, l6, l7] (.int a :: st) m Q = (if a = 0 then kJ 188 142 [l0, l1, l2, l3, l4, l5, l6, l7] st m Q else kJ 188 149 [l0, l1, l2, l3, l4, l5, l6, l7] st m Q) := kJ_if d188_139 rfl (fun h => kJ_next d188_139 h) (fun h => kJ_next d188_139 h)
theorem d188_142 : decode (mB 188) 142 = .ok (.aload_n 0, 1) := by decide +kernel
theorem s188_142 {l1 l2 l3 l4 l5 l6 l7 : Option Value} {st : List Value} {x : Nat} {m : kMem} {Q : Option Value → kMem → Prop} : kJ 188 142 [some (.ref x), l1, l2, l3, l4, l5, l6, l7] st m Q = kJ 188 143 [some (.ref x), l1, l2, l3, l4, l5, l6, l7] (.ref x :: st) m Q := kJ_next d188_142 rfl
theorem d188_143 : decode (mB 188) 143 = .ok (.invokevirtual 188, 3) := by decide +kernel
theorem s188_143 {l0 l1 l2 l3 l4 l5 l6 l7 : Option Value} {v0 : Nat} {m : kMem} {Q : Option Value → kMem → Prop} (h : kIs m.2.2.2 v0 5 = true) : kJ 188 143 [l0, l1, l2, l3, l4, l5, l6, l7] [.ref v0] m Q = kJ 146 0 [some (.ref v0), none, none] [] m (fun v m2 => kJ 188 146 [l0, l1, l2, l3, l4, l5, l6, l7] (v.toList ++ []) m2 Q) := kJ_call d188_143 (kg_callv 146 0 rfl rfl rfl rfl (Nat.le_of_ble_eq_true rfl) (Nat.le_of_ble_eq_true rfl) (Nat.le_of_ble_eq_true rfl) h rfl)
theorem d188_146 : decode (mB 188) 146 = .ok (.goto 7, 3) := by decide +kernel
theorem s188_146 {l0 l1 l2 l3 l4 l5 l6 l7 : Option Value} {st : List Value} {m : kMem} {Q : Option Value → kMem → Prop} : kJ 188 146 [l0, l1, l2, l3, l4, l5, l6, l7] st m Q = kJ 188 153 [l0, l1, l2, l3, l4, l5, l6, l7] st m Q := kJ_next d188_146 rfl
theorem d188_149 : decode (mB 188) 149 = .ok (.aload_n 0, 1) := by decide +kernel
theorem s188_149 {l1 l2 l3 l4 l5 l6 l7 : Option Value} {st : List Value} {x : Nat} {m : kMem} {Q : Option Value → kMem → Prop} : kJ 188 149 [some (.ref x), l1, l2, l3, l4, l5, l6, l7] st m Q = kJ 188 150 [some (.ref x), l1, l2, l3, l4, l5, l6, l7] (.ref x :: st) m Q := kJ_next d188_149 rfl
theorem d188_150 : decode (mB 188) 150 = .ok (.getfield 132, 3) := by decide +kernel
theorem s188_150 {l0 l1 l2 l3 l4 l5 l6 l7 : Option Value} {st : List Value} {q : Nat} {mi : Nat → Nat → Int32} {ml : Nat → Nat → Int64} {mr : Nat → Nat → Option Nat} {nx : Nat} {Q : Option Value → kMem → Prop} (h : kIs nx q 5 = true) : kJ 188 150 [l0, l1, l2, l3, l4, l5, l6, l7] (.ref q :: st) (mi, ml, mr, nx) Q = kJ 188 153 [l0, l1, l2, l3, l4, l5, l6, l7] (.int (mi q 14) :: st) (mi, ml, mr, nx) Q := kJ_next d188_150 (kg_geti 5 14 rfl h (by decide))
theorem d188_153 : decode (mB 188) 153 = .ok (.ireturn, 1) := by decide +kernel
theorem s188_153 {l0 l1 l2 l3 l4 l5 l6 l7 : Option Value} {x : Int32} {m : kMem} {Q : Option Value → kMem → Prop} : kJ 188 153 [l0, l1, l2, l3, l4, l5, l6, l7] [.int x] m Q = Q (some (.int x)) m := kJ_ret d188_153 rfl
theorem d189_0 : decode (mB 189) 0 = .ok (.iconst 0, 1) := by decide +kernel
theorem s189_0 {l0 l1 l2 l3 : Option Value} {st : List Value} {m : kMem} {Q : Option Value → kMem → Prop} : kJ 189 0 [l0, l1, l2, l3] st m Q = kJ 189 1 [l0, l1, l2, l3] (.int (nI 0) :: st) m Q := kJ_next d189_0 rfl
theorem d189_1 : decode (mB 189) 1 = .ok (.istore_n 3, 1) := by decide +kernel
theorem s189_1 {l0 l1 l2 l3 : Option Value} {st : List Value} {x : Int32} {m : kMem} {Q : Option Value → kMem → Prop} (hp : kNL l2 = true) : kJ 189 1 [l0, l1, l2, l3] (.int x :: st) m Q = kJ 189 2 [l0, l1, l2, some (.int x)] st m Q := kJ_next d189_1 (kg_sti (Nat.le_of_ble_eq_true rfl) hp)
theorem d189_2 : decode (mB 189) 2 = .ok (.iload_n 3, 1) := by decide +kernel
theorem s189_2 {l0 l1 l2 : Option Value} {st : List Value} {x : Int32} {m : kMem} {Q : Option Value → kMem → Prop} : kJ 189 2 [l0, l1, l2, some (.int x)] st m Q = kJ 189 3 [l0, l1, l2, some (.int x)] (.int x :: st) m Q := kJ_next d189_2 rfl
theorem d189_3 : decode (mB 189) 3 = .ok (.bipush 74, 2) := by decide +kernel
theorem s189_3 {l0 l1 l2 l3 : Option Value} {st : List Value} {m : kMem} {Q : Option Value → kMem → Prop} : kJ 189 3 [l0, l1, l2, l3] st m Q = kJ 189 5 [l0, l1, l2, l3] (.int (nI 74) :: st) m Q := kJ_next d189_3 rfl
theorem d189_5 : decode (mB 189) 5 = .ok (.if_icmp .ge 25, 3) := by decide +kernel
theorem s189_5 {l0 l1 l2 l3 : Option Value} {st : List Value} {a b : Int32} {m : kMem} {Q : Option Value → kMem → Prop} : kJ 189 5 [l0, l1, l2, l3] (.int b :: .int a :: st) m Q = (if b ≤ a then kJ 189 30 [l0, l1, l2, l3] st m Q else kJ 189 8 [l0, l1, l2, l3] st m Q) := kJ_if d189_5 rfl (fun h => kJ_next d189_5 h) (fun h => kJ_next d189_5 h)
theorem d189_8 : decode (mB 189) 8 = .ok (.aload_n 0, 1) := by decide +kernel
theorem s189_8 {l1 l2 l3 : Option Value} {st : List Value} {x : Nat} {m : kMem} {Q : Option Value → kMem → Prop} : kJ 189 8 [some (.ref x), l1, l2, l3] st m Q = kJ 189 9 [some (.ref x), l1, l2, l3] (.ref x :: st) m Q := kJ_next d189_8 rfl
theorem d189_9 : decode (mB 189) 9 = .ok (.getfield 7, 3) := by decide +kernel
theorem s189_9 {l0 l1 l2 l3 : Option Value} {st : List Value} {q : Nat} {mi : Nat → Nat → Int32} {ml : Nat → Nat → Int64} {mr : Nat → Nat → Option Nat} {nx : Nat} {Q : Option Value → kMem → Prop} (h : kIs nx q 5 = true) : kJ 189 9 [l0, l1, l2, l3] (.ref q :: st) (mi, ml, mr, nx) Q = kJ 189 12 [l0, l1, l2, l3] (va_rf (mr q 0) :: st) (mi, ml, mr, nx) Q := kJ_next d189_9 (kg_getr 5 0 rfl h (by decide))
theorem d189_12 : decode (mB 189) 12 = .ok (.iload_n 1, 1) := by decide +kernel
theorem s189_12 {l0 l2 l3 : Option Value} {st : List Value} {x : Int32} {m : kMem} {Q : Option Value → kMem → Prop} : kJ 189 12 [l0, some (.int x), l2, l3] st m Q = kJ 189 13 [l0, some (.int x), l2, l3] (.int x :: st) m Q := kJ_next d189_12 rfl
theorem d189_13 : decode (mB 189) 13 = .ok (.iload_n 3, 1) := by decide +kernel
theorem s189_13 {l0 l1 l2 : Option Value} {st : List Value} {x : Int32} {m : kMem} {Q : Option Value → kMem → Prop} : kJ 189 13 [l0, l1, l2, some (.int x)] st m Q = kJ 189 14 [l0, l1, l2, some (.int x)] (.int x :: st) m Q := kJ_next d189_13 rfl
theorem d189_14 : decode (mB 189) 14 = .ok (.iadd, 1) := by decide +kernel
theorem s189_14 {l0 l1 l2 l3 : Option Value} {st : List Value} {a b : Int32} {m : kMem} {Q : Option Value → kMem → Prop} : kJ 189 14 [l0, l1, l2, l3] (.int b :: .int a :: st) m Q = kJ 189 15 [l0, l1, l2, l3] (.int (a + b) :: st) m Q := kJ_next d189_14 rfl
theorem d189_15 : decode (mB 189) 15 = .ok (.aload_n 0, 1) := by decide +kernel
theorem s189_15 {l1 l2 l3 : Option Value} {st : List Value} {x : Nat} {m : kMem} {Q : Option Value → kMem → Prop} : kJ 189 15 [some (.ref x), l1, l2, l3] st m Q = kJ 189 16 [some (.ref x), l1, l2, l3] (.ref x :: st) m Q := kJ_next d189_15 rfl
theorem d189_16 : decode (mB 189) 16 = .ok (.getfield 7, 3) := by decide +kernel
theorem s189_16 {l0 l1 l2 l3 : Option Value} {st : List Value} {q : Nat} {mi : Nat → Nat → Int32} {ml : Nat → Nat → Int64} {mr : Nat → Nat → Option Nat} {nx : Nat} {Q : Option Value → kMem → Prop} (h : kIs nx q 5 = true) : kJ 189 16 [l0, l1, l2, l3] (.ref q :: st) (mi, ml, mr, nx) Q = kJ 189 19 [l0, l1, l2, l3] (va_rf (mr q 0) :: st) (mi, ml, mr, nx) Q := kJ_next d189_16 (kg_getr 5 0 rfl h (by decide))
theorem d189_19 : decode (mB 189) 19 = .ok (.iload_n 2, 1) := by decide +kernel
theorem s189_19 {l0 l1 l3 : Option Value} {st : List Value} {x : Int32} {m : kMem} {Q : Option Value → kMem → Prop} : kJ 189 19 [l0, l1, some (.int x), l3] st m Q = kJ 189 20 [l0, l1, some (.int x), l3] (.int x :: st) m Q := kJ_next d189_19 rfl
theorem d189_20 : decode (mB 189) 20 = .ok (.iload_n 3, 1) := by decide +kernel
theorem s189_20 {l0 l1 l2 : Option Value} {st : List Value} {x : Int32} {m : kMem} {Q : Option Value → kMem → Prop} : kJ 189 20 [l0, l1, l2, some (.int x)] st m Q = kJ 189 21 [l0, l1, l2, some (.int x)] (.int x :: st) m Q := kJ_next d189_20 rfl
theorem d189_21 : decode (mB 189) 21 = .ok (.iadd, 1) := by decide +kernel
theorem s189_21 {l0 l1 l2 l3 : Option Value} {st : List Value} {a b : Int32} {m : kMem} {Q : Option Value → kMem → Prop} : kJ 189 21 [l0, l1, l2, l3] (.int b :: .int a :: st) m Q = kJ 189 22 [l0, l1, l2, l3] (.int (a + b) :: st) m Q := kJ_next d189_21 rfl
theorem d189_22 : decode (mB 189) 22 = .ok (.iaload, 1) := by decide +kernel
theorem s189_22 {l0 l1 l2 l3 : Option Value} {st : List Value} {q : Nat} {i : Int32} {mi : Nat → Nat → Int32} {ml : Nat → Nat → Int64} {mr : Nat → Nat → Option Nat} {nx : Nat} {Q : Option Value → kMem → Prop} (h : kIs nx q 10 = true) : kJ 189 22 [l0, l1, l2, l3] (.int i :: .ref q :: st) (mi, ml, mr, nx) Q = (vp_in i (kAl q) ∧ kJ 189 23 [l0, l1, l2, l3] (.int (mi q i.toNatClampNeg) :: st) (mi, ml, mr, nx) Q) := kg_aldJ d189_22 rfl (kAr_of h)
theorem d189_23 : decode (mB 189) 23 = .ok (.iastore, 1) := by decide +kernel
theorem s189_23 {l0 l1 l2 l3 : Option Value} {st : List Value} {q : Nat} {i x : Int32} {mi : Nat → Nat → Int32} {ml : Nat → Nat → Int64} {mr : Nat → Nat → Option Nat} {nx : Nat} {Q : Option Value → kMem → Prop} (h : kIs nx q 10 = true) : kJ 189 23 [l0, l1, l2, l3] (.int x :: .int i :: .ref q :: st) (mi, ml, mr, nx) Q = (vp_in i (kAl q) ∧ kJ 189 24 [l0, l1, l2, l3] st (kup mi q i.toNatClampNeg x, ml, mr, nx) Q) := kg_astJ d189_23 rfl (kAr_of h)
theorem d189_24 : decode (mB 189) 24 = .ok (.iinc 3 1, 3) := by decide +kernel
theorem s189_24 {l0 l1 l2 : Option Value} {st : List Value} {x : Int32} {m : kMem} {Q : Option Value → kMem → Prop} (hp : kNL l2 = true) : kJ 189 24 [l0, l1, l2, some (.int x)] st m Q = kJ 189 27 [l0, l1, l2, some (.int (x + (nI 1)))] st m Q := kJ_next d189_24 (kg_inc rfl (Nat.le_of_ble_eq_true rfl) hp)
theorem d189_27 : decode (mB 189) 27 = .ok (.goto (-25), 3) := by decide +kernel
theorem s189_27 {l0 l1 l2 l3 : Option Value} {st : List Value} {m : kMem} {Q : Option Value → kMem → Prop} : kJ 189 27 [l0, l1, l2, l3] st m Q = kJ 189 2 [l0, l1, l2, l3] st m Q := kJ_next d189_27 rfl
theorem d189_30 : decode (mB 189) 30 = .ok (.return_, 1) := by decide +kernel
theorem s189_30 {l0 l1 l2 l3 : Option Value} {m : kMem} {Q : Option Value → kMem → Prop} : kJ 189 30 [l0, l1, l2, l3] [] m Q = Q none m := kJ_ret d189_30 rfl
theorem d190_0 : decode (mB 190) 0 = .ok (.iload_n 1, 1) := by decide +kernel
theorem s190_0 {l0 l2 : Option Value} {st : List Value} {x : Int32} {m : kMem} {Q : Option Value → kMem → Prop} : kJ 190 0 [l0, some (.int x), l2] st m Q = kJ 190 1 [l0, some (.int x), l2] (.int x :: st) m Q := kJ_next d190_0 rfl
theorem d190_1 : decode (mB 190) 1 = .ok (.i2l, 1) := by decide +kernel
theorem s190_1 {l0 l1 l2 : Option Value} {st : List Value} {a : Int32} {m : kMem} {Q : Option Value → kMem → Prop} : kJ 190 1 [l0, l1, l2] (.int a :: st) m Q = kJ 190 2 [l0, l1, l2] (.long a.toInt64 :: st) m Q := kJ_next d190_1 rfl
theorem d190_2 : decode (mB 190) 2 = .ok (.lconst 0, 1) := by decide +kernel
theorem s190_2 {l0 l1 l2 : Option Value} {st : List Value} {m : kMem} {Q : Option Value → kMem → Prop} : kJ 190 2 [l0, l1, l2] st m Q = kJ 190 3 [l0, l1, l2] (.long 0 :: st) m Q := kJ_next d190_2 rfl
theorem d190_3 : decode (mB 190) 3 = .ok (.lconst 1, 1) := by decide +kernel
theorem s190_3 {l0 l1 l2 : Option Value} {st : List Value} {m : kMem} {Q : Option Value → kMem → Prop} : kJ 190 3 [l0, l1, l2] st m Q = kJ 190 4 [l0, l1, l2] (.long 1 :: st) m Q := kJ_next d190_3 rfl
theorem d190_4 : decode (mB 190) 4 = .ok (.invokestatic 60, 3) := by decide +kernel
theorem s190_4 {l0 l1 l2 : Option Value} {v0 : Int64} {v1 : Int64} {v2 : Int64} {m : kMem} {Q : Option Value → kMem → Prop} : kJ 190 4 [l0, l1, l2] [.long v0, .long v1, .long v2] m Q = kJ 107 0 [some (.long v2), none, some (.long v1), none, some (.long v0), none] [] m (fun v m2 => kJ 190 7 [l0, l1, l2] (v.toList ++ []) m2 Q) := kJ_call d190_4 (kg_calls 107 3 rfl rfl (Nat.le_of_ble_eq_true rfl) (Nat.le_of_ble_eq_true rfl) (Nat.le_of_ble_eq_true rfl) (Nat.le_of_ble_eq_true rfl))
theorem d190_7 : decode (mB 190) 7 = .ok (.ifCond .ne 5, 3) := by decide +kernel
theorem s190_7 {l0 l1 l2 : Option Value} {st : List Value} {a : Int32} {m : kMem} {Q : Option Value → kMem → Prop} : kJ 190 7 [l0, l1, l2] (.int a :: st) m Q = (if a = 0 then kJ 190 10 [l0, l1, l2] st m Q else kJ 190 12 [l0, l1, l2] st m Q) := kJ_if d190_7 rfl (fun h => kJ_next d190_7 h) (fun h => kJ_next d190_7 h)
theorem d190_10 : decode (mB 190) 10 = .ok (.iconst (-1), 1) := by decide +kernel
theorem s190_10 {l0 l1 l2 : Option Value} {st : List Value} {m : kMem} {Q : Option Value → kMem → Prop} : kJ 190 10 [l0, l1, l2] st m Q = kJ 190 11 [l0, l1, l2] (.int (-1) :: st) m Q := kJ_next d190_10 rfl
theorem d190_11 : decode (mB 190) 11 = .ok (.ireturn, 1) := by decide +kernel
theorem s190_11 {l0 l1 l2 : Option Value} {x : Int32} {m : kMem} {Q : Option Value → kMem → Prop} : kJ 190 11 [l0, l1, l2] [.int x] m Q = Q (some (.int x)) m := kJ_ret d190_11 rfl
theorem d190_12 : decode (mB 190) 12 = .ok (.aload_n 0, 1) := by decide +kernel
theorem s190_12 {l1 l2 : Option Value} {st : List Value} {x : Nat} {m : kMem} {Q : Option Value → kMem → Prop} : kJ 190 12 [some (.ref x), l1, l2] st m Q = kJ 190 13 [some (.ref x), l1, l2] (.ref x :: st) m Q := kJ_next d190_12 rfl
theorem d190_13 : decode (mB 190) 13 = .ok (.getfield 16, 3) := by decide +kernel
theorem s190_13 {l0 l1 l2 : Option Value} {st : List Value} {q : Nat} {mi : Nat → Nat → Int32} {ml : Nat → Nat → Int64} {mr : Nat → Nat → Option Nat} {nx : Nat} {Q : Option Value → kMem → Prop} (h : kIs nx q 5 = true) : kJ 190 13 [l0, l1, l2] (.ref q :: st) (mi, ml, mr, nx) Q = kJ 190 16 [l0, l1, l2] (va_rf (mr q 2) :: st) (mi, ml, mr, nx) Q := kJ_next d190_13 (kg_getr 5 2 rfl h (by decide))
theorem d190_16 : decode (mB 190) 16 = .ok (.iload_n 1, 1) := by decide +kernel
theorem s190_16 {l0 l2 : Option Value} {st : List Value} {x : Int32} {m : kMem} {Q : Option Value → kMem → Prop} : kJ 190 16 [l0, some (.int x), l2] st m Q = kJ 190 17 [l0, some (.int x), l2] (.int x :: st) m Q := kJ_next d190_16 rfl
theorem d190_17 : decode (mB 190) 17 = .ok (.baload, 1) := by decide +kernel
theorem s190_17 {l0 l1 l2 : Option Value} {st : List Value} {q : Nat} {i : Int32} {mi : Nat → Nat → Int32} {ml : Nat → Nat → Int64} {mr : Nat → Nat → Option Nat} {nx : Nat} {Q : Option Value → kMem → Prop} (h : kIs nx q 11 = true) : kJ 190 17 [l0, l1, l2] (.int i :: .ref q :: st) (mi, ml, mr, nx) Q = (vp_in i (kAl q) ∧ kJ 190 18 [l0, l1, l2] (.int (mi q i.toNatClampNeg) :: st) (mi, ml, mr, nx) Q) := kg_aldJ d190_17 rfl (kAr_of h)
theorem d190_18 : decode (mB 190) 18 = .ok (.invokestatic 191, 3) := by decide +kernel
theorem s190_18 {l0 l1 l2 : Option Value} {v0 : Int32} {m : kMem} {Q : Option Value → kMem → Prop} : kJ 190 18 [l0, l1, l2] [.int v0] m Q = kJ 108 0 [some (.int v0)] [] m (fun v m2 => kJ 190 21 [l0, l1, l2] (v.toList ++ []) m2 Q) := kJ_call d190_18 (kg_calls 108 1 rfl rfl (Nat.le_of_ble_eq_true rfl) (Nat.le_of_ble_eq_true rfl) (Nat.le_of_ble_eq_true rfl) (Nat.le_of_ble_eq_true rfl))
theorem d190_21 : decode (mB 190) 21 = .ok (.istore_n 2, 1) := by decide +kernel
theorem s190_21 {l0 l1 l2 : Option Value} {st : List Value} {x : Int32} {m : kMem} {Q : Option Value → kMem → Prop} (hp : kNL l1 = true) : kJ 190 21 [l0, l1, l2] (.int x :: st) m Q = kJ 190 22 [l0, l1, some (.int x)] st m Q := kJ_next d190_21 (kg_sti (Nat.le_of_ble_eq_true rfl) hp)
theorem d190_22 : decode (mB 190) 22 = .ok (.aload_n 0, 1) := by decide +kernel
theorem s190_22 {l1 l2 : Option Value} {st : List Value} {x : Nat} {m : kMem} {Q : Option Value → kMem → Prop} : kJ 190 22 [some (.ref x), l1, l2] st m Q = kJ 190 23 [some (.ref x), l1, l2] (.ref x :: st) m Q := kJ_next d190_22 rfl
theorem d190_23 : decode (mB 190) 23 = .ok (.getfield 16, 3) := by decide +kernel
theorem s190_23 {l0 l1 l2 : Option Value} {st : List Value} {q : Nat} {mi : Nat → Nat → Int32} {ml : Nat → Nat → Int64} {mr : Nat → Nat → Option Nat} {nx : Nat} {Q : Option Value → kMem → Prop} (h : kIs nx q 5 = true) : kJ 190 23 [l0, l1, l2] (.ref q :: st) (mi, ml, mr, nx) Q = kJ 190 26 [l0, l1, l2] (va_rf (mr q 2) :: st) (mi, ml, mr, nx) Q := kJ_next d190_23 (kg_getr 5 2 rfl h (by decide))
theorem d190_26 : decode (mB 190) 26 = .ok (.iload_n 1, 1) := by decide +kernel
theorem s190_26 {l0 l2 : Option Value} {st : List Value} {x : Int32} {m : kMem} {Q : Option Value → kMem → Prop} : kJ 190 26 [l0, some (.int x), l2] st m Q = kJ 190 27 [l0, some (.int x), l2] (.int x :: st) m Q := kJ_next d190_26 rfl
theorem d190_27 : decode (mB 190) 27 = .ok (.iconst 1, 1) := by decide +kernel
theorem s190_27 {l0 l1 l2 : Option Value} {st : List Value} {m : kMem} {Q : Option Value → kMem → Prop} : kJ 190 27 [l0, l1, l2] st m Q = kJ 190 28 [l0, l1, l2] (.int (nI 1) :: st) m Q := kJ_next d190_27 rfl
theorem d190_28 : decode (mB 190) 28 = .ok (.bastore, 1) := by decide +kernel
theorem s190_28 {l0 l1 l2 : Option Value} {st : List Value} {q : Nat} {i x : Int32} {mi : Nat → Nat → Int32} {ml : Nat → Nat → Int64} {mr : Nat → Nat → Option Nat} {nx : Nat} {Q : Option Value → kMem → Prop} (h : kIs nx q 11 = true) : kJ 190 28 [l0, l1, l2] (.int x :: .int i :: .ref q :: st) (mi, ml, mr, nx) Q = (vp_in i (kAl q) ∧ kJ 190 29 [l0, l1, l2] st (kup mi q i.toNatClampNeg (x &&& 1), ml, mr, nx) Q) := kg_astJ d190_28 rfl (kAr_of h)
theorem d190_29 : decode (mB 190) 29 = .ok (.aload_n 0, 1) := by decide +kernel
theorem s190_29 {l1 l2 : Option Value} {st : List Value} {x : Nat} {m : kMem} {Q : Option Value → kMem → Prop} : kJ 190 29 [some (.ref x), l1, l2] st m Q = kJ 190 30 [some (.ref x), l1, l2] (.ref x :: st) m Q := kJ_next d190_29 rfl
theorem d190_30 : decode (mB 190) 30 = .ok (.bipush 74, 2) := by decide +kernel
theorem s190_30 {l0 l1 l2 : Option Value} {st : List Value} {m : kMem} {Q : Option Value → kMem → Prop} : kJ 190 30 [l0, l1, l2] st m Q = kJ 190 32 [l0, l1, l2] (.int (nI 74) :: st) m Q := kJ_next d190_30 rfl
theorem d190_32 : decode (mB 190) 32 = .ok (.iload_n 1, 1) := by decide +kernel
theorem s190_32 {l0 l2 : Option Value} {st : List Value} {x : Int32} {m : kMem} {Q : Option Value → kMem → Prop} : kJ 190 32 [l0, some (.int x), l2] st m Q = kJ 190 33 [l0, some (.int x), l2] (.int x :: st) m Q := kJ_next d190_32 rfl
theorem d190_33 : decode (mB 190) 33 = .ok (.iconst 1, 1) := by decide +kernel
theorem s190_33 {l0 l1 l2 : Option Value} {st : List Value} {m : kMem} {Q : Option Value → kMem → Prop} : kJ 190 33 [l0, l1, l2] st m Q = kJ 190 34 [l0, l1, l2] (.int (nI 1) :: st) m Q := kJ_next d190_33 rfl
theorem d190_34 : decode (mB 190) 34 = .ok (.iadd, 1) := by decide +kernel
theorem s190_34 {l0 l1 l2 : Option Value} {st : List Value} {a b : Int32} {m : kMem} {Q : Option Value → kMem → Prop} : kJ 190 34 [l0, l1, l2] (.int b :: .int a :: st) m Q = kJ 190 35 [l0, l1, l2] (.int (a + b) :: st) m Q := kJ_next d190_34 rfl
theorem d190_35 : decode (mB 190) 35 = .ok (.imul, 1) := by decide +kernel
theorem s190_35 {l0 l1 l2 : Option Value} {st : List Value} {a b : Int32} {m : kMem} {Q : Option Value → kMem → Prop} : kJ 190 35 [l0, l1, l2] (.int b :: .int a :: st) m Q = kJ 190 36 [l0, l1, l2] (.int (a * b) :: st) m Q := kJ_next d190_35 rfl
theorem d190_36 : decode (mB 190) 36 = .ok (.iconst 0, 1) := by decide +kernel
theorem s190_36 {l0 l1 l2 : Option Value} {st : List Value} {m : kMem} {Q : Option Value → kMem → Prop} : kJ 190 36 [l0, l1, l2] st m Q = kJ 190 37 [l0, l1, l2] (.int (nI 0) :: st) m Q := kJ_next d190_36 rfl
theorem d190_37 : decode (mB 190) 37 = .ok (.invokevirtual 298, 3) := by decide +kernel
theorem s190_37 {l0 l1 l2 : Option Value} {v0 : Int32} {v1 : Int32} {v2 : Nat} {m : kMem} {Q : Option Value → kMem → Prop} (h : kIs m.2.2.2 v2 5 = true) : kJ 190 37 [l0, l1, l2] [.int v0, .int v1, .ref v2] m Q = kJ 189 0 [some (.ref v2), some (.int v1), some (.int v0), none] [] m (fun v m2 => kJ 190 40 [l0, l1, l2] (v.toList ++ []) m2 Q) := kJ_call d190_37 (kg_callv 189 2 rfl rfl rfl rfl (Nat.le_of_ble_eq_true rfl) (Nat.le_of_ble_eq_true rfl) (Nat.le_of_ble_eq_true rfl) h rfl)
theorem d190_40 : decode (mB 190) 40 = .ok (.iload_n 2, 1) := by decide +kernel
theorem s190_40 {l0 l1 : Option Value} {st : List Value} {x : Int32} {m : kMem} {Q : Option Value → kMem → Prop} : kJ 190 40 [l0, l1, some (.int x)] st m Q = kJ 190 41 [l0, l1, some (.int x)] (.int x :: st) m Q := kJ_next d190_40 rfl
theorem d190_41 : decode (mB 190) 41 = .ok (.ireturn, 1) := by decide +kernel
theorem s190_41 {l0 l1 l2 : Option Value} {x : Int32} {m : kMem} {Q : Option Value → kMem → Prop} : kJ 190 41 [l0, l1, l2] [.int x] m Q = Q (some (.int x)) m := kJ_ret d190_41 rfl
theorem d191_0 : decode (mB 191) 0 = .ok (.iload_n 1, 1) := by decide +kernel
theorem s191_0 {l0 : Option Value} {st : List Value} {x : Int32} {m : kMem} {Q : Option Value → kMem → Prop} : kJ 191 0 [l0, some (.int x)] st m Q = kJ 191 1 [l0, some (.int x)] (.int x :: st) m Q := kJ_next d191_0 rfl
theorem d191_1 : decode (mB 191) 1 = .ok (.i2l, 1) := by decide +kernel
theorem s191_1 {l0 l1 : Option Value} {st : List Value} {a : Int32} {m : kMem} {Q : Option Value → kMem → Prop} : kJ 191 1 [l0, l1] (.int a :: st) m Q = kJ 191 2 [l0, l1] (.long a.toInt64 :: st) m Q := kJ_next d191_1 rfl
theorem d191_2 : decode (mB 191) 2 = .ok (.lconst 0, 1) := by decide +kernel
theorem s191_2 {l0 l1 : Option Value} {st : List Value} {m : kMem} {Q : Option Value → kMem → Prop} : kJ 191 2 [l0, l1] st m Q = kJ 191 3 [l0, l1] (.long 0 :: st) m Q := kJ_next d191_2 rfl
theorem d191_3 : decode (mB 191) 3 = .ok (.lconst 1, 1) := by decide +kernel
theorem s191_3 {l0 l1 : Option Value} {st : List Value} {m : kMem} {Q : Option Value → kMem → Prop} : kJ 191 3 [l0, l1] st m Q = kJ 191 4 [l0, l1] (.long 1 :: st) m Q := kJ_next d191_3 rfl
theorem d191_4 : decode (mB 191) 4 = .ok (.invokestatic 60, 3) := by decide +kernel
theorem s191_4 {l0 l1 : Option Value} {v0 : Int64} {v1 : Int64} {v2 : Int64} {m : kMem} {Q : Option Value → kMem → Prop} : kJ 191 4 [l0, l1] [.long v0, .long v1, .long v2] m Q = kJ 107 0 [some (.long v2), none, some (.long v1), none, some (.long v0), none] [] m (fun v m2 => kJ 191 7 [l0, l1] (v.toList ++ []) m2 Q) := kJ_call d191_4 (kg_calls 107 3 rfl rfl (Nat.le_of_ble_eq_true rfl) (Nat.le_of_ble_eq_true rfl) (Nat.le_of_ble_eq_true rfl) (Nat.le_of_ble_eq_true rfl))
theorem d191_7 : decode (mB 191) 7 = .ok (.ifCond .ne 5, 3) := by decide +kernel
theorem s191_7 {l0 l1 : Option Value} {st : List Value} {a : Int32} {m : kMem} {Q : Option Value → kMem → Prop} : kJ 191 7 [l0, l1] (.int a :: st) m Q = (if a = 0 then kJ 191 10 [l0, l1] st m Q else kJ 191 12 [l0, l1] st m Q) := kJ_if d191_7 rfl (fun h => kJ_next d191_7 h) (fun h => kJ_next d191_7 h)
theorem d191_10 : decode (mB 191) 10 = .ok (.iconst (-1), 1) := by decide +kernel
theorem s191_10 {l0 l1 : Option Value} {st : List Value} {m : kMem} {Q : Option Value → kMem → Prop} : kJ 191 10 [l0, l1] st m Q = kJ 191 11 [l0, l1] (.int (-1) :: st) m Q := kJ_next d191_10 rfl
theorem d191_11 : decode (mB 191) 11 = .ok (.ireturn, 1) := by decide +kernel
theorem s191_11 {l0 l1 : Option Value} {x : Int32} {m : kMem} {Q : Option Value → kMem → Prop} : kJ 191 11 [l0, l1] [.int x] m Q = Q (some (.int x)) m := kJ_ret d191_11 rfl
theorem d191_12 : decode (mB 191) 12 = .ok (.aload_n 0, 1) := by decide +kernel
theorem s191_12 {l1 : Option Value} {st : List Value} {x : Nat} {m : kMem} {Q : Option Value → kMem → Prop} : kJ 191 12 [some (.ref x), l1] st m Q = kJ 191 13 [some (.ref x), l1] (.ref x :: st) m Q := kJ_next d191_12 rfl
theorem d191_13 : decode (mB 191) 13 = .ok (.getfield 16, 3) := by decide +kernel
theorem s191_13 {l0 l1 : Option Value} {st : List Value} {q : Nat} {mi : Nat → Nat → Int32} {ml : Nat → Nat → Int64} {mr : Nat → Nat → Option Nat} {nx : Nat} {Q : Option Value → kMem → Prop} (h : kIs nx q 5 = true) : kJ 191 13 [l0, l1] (.ref q :: st) (mi, ml, mr, nx) Q = kJ 191 16 [l0, l1] (va_rf (mr q 2) :: st) (mi, ml, mr, nx) Q := kJ_next d191_13 (kg_getr 5 2 rfl h (by decide))
theorem d191_16 : decode (mB 191) 16 = .ok (.iload_n 1, 1) := by decide +kernel
theorem s191_16 {l0 : Option Value} {st : List Value} {x : Int32} {m : kMem} {Q : Option Value → kMem → Prop} : kJ 191 16 [l0, some (.int x)] st m Q = kJ 191 17 [l0, some (.int x)] (.int x :: st) m Q := kJ_next d191_16 rfl
theorem d191_17 : decode (mB 191) 17 = .ok (.baload, 1) := by decide +kernel
theorem s191_17 {l0 l1 : Option Value} {st : List Value} {q : Nat} {i : Int32} {mi : Nat → Nat → Int32} {ml : Nat → Nat → Int64} {mr : Nat → Nat → Option Nat} {nx : Nat} {Q : Option Value → kMem → Prop} (h : kIs nx q 11 = true) : kJ 191 17 [l0, l1] (.int i :: .ref q :: st) (mi, ml, mr, nx) Q = (vp_in i (kAl q) ∧ kJ 191 18 [l0, l1] (.int (mi q i.toNatClampNeg) :: st) (mi, ml, mr, nx) Q) := kg_aldJ d191_17 rfl (kAr_of h)
theorem d191_18 : decode (mB 191) 18 = .ok (.ifCond .ne 6, 3) := by decide +kernel
theorem s191_18 {l0 l1 : Option Value} {st : List Value} {a : Int32} {m : kMem} {Q : Option Value → kMem → Prop} : kJ 191 18 [l0, l1] (.int a :: st) m Q = (if a = 0 then kJ 191 21 [l0, l1] st m Q else kJ 191 24 [l0, l1] st m Q) := kJ_if d191_18 rfl (fun h => kJ_next d191_18 h) (fun h => kJ_next d191_18 h)
theorem d191_21 : decode (mB 191) 21 = .ok (.bipush (-2), 2) := by decide +kernel
theorem s191_21 {l0 l1 : Option Value} {st : List Value} {m : kMem} {Q : Option Value → kMem → Prop} : kJ 191 21 [l0, l1] st m Q = kJ 191 23 [l0, l1] (.int (-2) :: st) m Q := kJ_next d191_21 rfl
theorem d191_23 : decode (mB 191) 23 = .ok (.ireturn, 1) := by decide +kernel
theorem s191_23 {l0 l1 : Option Value} {x : Int32} {m : kMem} {Q : Option Value → kMem → Prop} : kJ 191 23 [l0, l1] [.int x] m Q = Q (some (.int x)) m := kJ_ret d191_23 rfl
theorem d191_24 : decode (mB 191) 24 = .ok (.aload_n 0, 1) := by decide +kernel
theorem s191_24 {l1 : Option Value} {st : List Value} {x : Nat} {m : kMem} {Q : Option Value → kMem → Prop} : kJ 191 24 [some (.ref x), l1] st m Q = kJ 191 25 [some (.ref x), l1] (.ref x :: st) m Q := kJ_next d191_24 rfl
theorem d191_25 : decode (mB 191) 25 = .ok (.iconst 0, 1) := by decide +kernel
theorem s191_25 {l0 l1 : Option Value} {st : List Value} {m : kMem} {Q : Option Value → kMem → Prop} : kJ 191 25 [l0, l1] st m Q = kJ 191 26 [l0, l1] (.int (nI 0) :: st) m Q := kJ_next d191_25 rfl
theorem d191_26 : decode (mB 191) 26 = .ok (.bipush 74, 2) := by decide +kernel
theorem s191_26 {l0 l1 : Option Value} {st : List Value} {m : kMem} {Q : Option Value → kMem → Prop} : kJ 191 26 [l0, l1] st m Q = kJ 191 28 [l0, l1] (.int (nI 74) :: st) m Q := kJ_next d191_26 rfl
theorem d191_28 : decode (mB 191) 28 = .ok (.iload_n 1, 1) := by decide +kernel
theorem s191_28 {l0 : Option Value} {st : List Value} {x : Int32} {m : kMem} {Q : Option Value → kMem → Prop} : kJ 191 28 [l0, some (.int x)] st m Q = kJ 191 29 [l0, some (.int x)] (.int x :: st) m Q := kJ_next d191_28 rfl
theorem d191_29 : decode (mB 191) 29 = .ok (.iconst 1, 1) := by decide +kernel
theorem s191_29 {l0 l1 : Option Value} {st : List Value} {m : kMem} {Q : Option Value → kMem → Prop} : kJ 191 29 [l0, l1] st m Q = kJ 191 30 [l0, l1] (.int (nI 1) :: st) m Q := kJ_next d191_29 rfl
theorem d191_30 : decode (mB 191) 30 = .ok (.iadd, 1) := by decide +kernel
theorem s191_30 {l0 l1 : Option Value} {st : List Value} {a b : Int32} {m : kMem} {Q : Option Value → kMem → Prop} : kJ 191 30 [l0, l1] (.int b :: .int a :: st) m Q = kJ 191 31 [l0, l1] (.int (a + b) :: st) m Q := kJ_next d191_30 rfl
theorem d191_31 : decode (mB 191) 31 = .ok (.imul, 1) := by decide +kernel
theorem s191_31 {l0 l1 : Option Value} {st : List Value} {a b : Int32} {m : kMem} {Q : Option Value → kMem → Prop} : kJ 191 31 [l0, l1] (.int b :: .int a :: st) m Q = kJ 191 32 [l0, l1] (.int (a * b) :: st) m Q := kJ_next d191_31 rfl
theorem d191_32 : decode (mB 191) 32 = .ok (.invokevirtual 298, 3) := by decide +kernel
theorem s191_32 {l0 l1 : Option Value} {v0 : Int32} {v1 : Int32} {v2 : Nat} {m : kMem} {Q : Option Value → kMem → Prop} (h : kIs m.2.2.2 v2 5 = true) : kJ 191 32 [l0, l1] [.int v0, .int v1, .ref v2] m Q = kJ 189 0 [some (.ref v2), some (.int v1), some (.int v0), none] [] m (fun v m2 => kJ 191 35 [l0, l1] (v.toList ++ []) m2 Q) := kJ_call d191_32 (kg_callv 189 2 rfl rfl rfl rfl (Nat.le_of_ble_eq_true rfl) (Nat.le_of_ble_eq_true rfl) (Nat.le_of_ble_eq_true rfl) h rfl)
theorem d191_35 : decode (mB 191) 35 = .ok (.aload_n 0, 1) := by decide +kernel
theorem s191_35 {l1 : Option Value} {st : List Value} {x : Nat} {m : kMem} {Q : Option Value → kMem → Prop} : kJ 191 35 [some (.ref x), l1] st m Q = kJ 191 36 [some (.ref x), l1] (.ref x :: st) m Q := kJ_next d191_35 rfl
theorem d191_36 : decode (mB 191) 36 = .ok (.getfield 7, 3) := by decide +kernel
theorem s191_36 {l0 l1 : Option Value} {st : List Value} {q : Nat} {mi : Nat → Nat → Int32} {ml : Nat → Nat → Int64} {mr : Nat → Nat → Option Nat} {nx : Nat} {Q : Option Value → kMem → Prop} (h : kIs nx q 5 = true) : kJ 191 36 [l0, l1] (.ref q :: st) (mi, ml, mr, nx) Q = kJ 191 39 [l0, l1] (va_rf (mr q 0) :: st) (mi, ml, mr, nx) Q := kJ_next d191_36 (kg_getr 5 0 rfl h (by decide))
theorem d191_39 : decode (mB 191) 39 = .ok (.bipush 54, 2) := by decide +kernel
theorem s191_39 {l0 l1 : Option Value} {st : List Value} {m : kMem} {Q : Option Value → kMem → Prop} : kJ 191 39 [l0, l1] st m Q = kJ 191 41 [l0, l1] (.int (nI 54) :: st) m Q := kJ_next d191_39 rfl
theorem d191_41 : decode (mB 191) 41 = .ok (.iaload, 1) := by decide +kernel
theorem s191_41 {l0 l1 : Option Value} {st : List Value} {q : Nat} {i : Int32} {mi : Nat → Nat → Int32} {ml : Nat → Nat → Int64} {mr : Nat → Nat → Option Nat} {nx : Nat} {Q : Option Value → kMem → Prop} (h : kIs nx q 10 = true) : kJ 191 41 [l0, l1] (.int i :: .ref q :: st) (mi, ml, mr, nx) Q = (vp_in i (kAl q) ∧ kJ 191 42 [l0, l1] (.int (mi q i.toNatClampNeg) :: st) (mi, ml, mr, nx) Q) := kg_aldJ d191_41 rfl (kAr_of h)
theorem d191_42 : decode (mB 191) 42 = .ok (.ireturn, 1) := by decide +kernel
theorem s191_42 {l0 l1 : Option Value} {x : Int32} {m : kMem} {Q : Option Value → kMem → Prop} : kJ 191 42 [l0, l1] [.int x] m Q = Q (some (.int x)) m := kJ_ret d191_42 rfl
theorem d192_0 : decode (mB 192) 0 = .ok (.iload_n 0, 1) := by decide +kernel
theorem s192_0 {l1 : Option Value} {st : List Value} {x : Int32} {m : kMem} {Q : Option Value → kMem → Prop} : kJ 192 0 [some (.int x), l1] st m Q = kJ 192 1 [some (.int x), l1] (.int x :: st) m Q := kJ_next d192_0 rfl
theorem d192_1 : decode (mB 192) 1 = .ok (.i2l, 1) := by decide +kernel
theorem s192_1 {l0 l1 : Option Value} {st : List Value} {a : Int32} {m : kMem} {Q : Option Value → kMem → Prop} : kJ 192 1 [l0, l1] (.int a :: st) m Q = kJ 192 2 [l0, l1] (.long a.toInt64 :: st) m Q := kJ_next d192_1 rfl
theorem d192_2 : decode (mB 192) 2 = .ok (.lconst 0, 1) := by decide +kernel
theorem s192_2 {l0 l1 : Option Value} {st : List Value} {m : kMem} {Q : Option Value → kMem → Prop} : kJ 192 2 [l0, l1] st m Q = kJ 192 3 [l0, l1] (.long 0 :: st) m Q := kJ_next d192_2 rfl
theorem d192_3 : decode (mB 192) 3 = .ok (.ldc2_w 204, 3) := by decide +kernel
theorem s192_3 {l0 l1 : Option Value} {st : List Value} {m : kMem} {Q : Option Value → kMem → Prop} : kJ 192 3 [l0, l1] st m Q = kJ 192 6 [l0, l1] (.long (3) :: st) m Q := kJ_next d192_3 rfl
theorem d192_6 : decode (mB 192) 6 = .ok (.invokestatic 60, 3) := by decide +kernel
theorem s192_6 {l0 l1 : Option Value} {v0 : Int64} {v1 : Int64} {v2 : Int64} {m : kMem} {Q : Option Value → kMem → Prop} : kJ 192 6 [l0, l1] [.long v0, .long v1, .long v2] m Q = kJ 107 0 [some (.long v2), none, some (.long v1), none, some (.long v0), none] [] m (fun v m2 => kJ 192 9 [l0, l1] (v.toList ++ []) m2 Q) := kJ_call d192_6 (kg_calls 107 3 rfl rfl (Nat.le_of_ble_eq_true rfl) (Nat.le_of_ble_eq_true rfl) (Nat.le_of_ble_eq_true rfl) (Nat.le_of_ble_eq_true rfl))
theorem d192_9 : decode (mB 192) 9 = .ok (.ifCond .eq 19, 3) := by decide +kernel
theorem s192_9 {l0 l1 : Option Value} {st : List Value} {a : Int32} {m : kMem} {Q : Option Value → kMem → Prop} : kJ 192 9 [l0, l1] (.int a :: st) m Q = (if a = 0 then kJ 192 28 [l0, l1] st m Q else kJ 192 12 [l0, l1] st m Q) := kJ_if d192_9 rfl (fun h => kJ_next d192_9 h) (fun h => kJ_next d192_9 h)
theorem d192_12 : decode (mB 192) 12 = .ok (.iload_n 1, 1) := by decide +kernel
theorem s192_12 {l0 : Option Value} {st : List Value} {x : Int32} {m : kMem} {Q : Option Value → kMem → Prop} : kJ 192 12 [l0, some (.int x)] st m Q = kJ 192 13 [l0, some (.int x)] (.int x :: st) m Q := kJ_next d192_12 rfl
theorem d192_13 : decode (mB 192) 13 = .ok (.i2l, 1) := by decide +kernel
theorem s192_13 {l0 l1 : Option Value} {st : List Value} {a : Int32} {m : kMem} {Q : Option Value → kMem → Prop} : kJ 192 13 [l0, l1] (.int a :: st) m Q = kJ 192 14 [l0, l1] (.long a.toInt64 :: st) m Q := kJ_next d192_13 rfl
theorem d192_14 : decode (mB 192) 14 = .ok (.lconst 0, 1) := by decide +kernel
theorem s192_14 {l0 l1 : Option Value} {st : List Value} {m : kMem} {Q : Option Value → kMem → Prop} : kJ 192 14 [l0, l1] st m Q = kJ 192 15 [l0, l1] (.long 0 :: st) m Q := kJ_next d192_14 rfl
theorem d192_15 : decode (mB 192) 15 = .ok (.ldc2_w 301, 3) := by decide +kernel
theorem s192_15 {l0 l1 : Option Value} {st : List Value} {m : kMem} {Q : Option Value → kMem → Prop} : kJ 192 15 [l0, l1] st m Q = kJ 192 18 [l0, l1] (.long (2) :: st) m Q := kJ_next d192_15 rfl
theorem d192_18 : decode (mB 192) 18 = .ok (.invokestatic 60, 3) := by decide +kernel
theorem s192_18 {l0 l1 : Option Value} {v0 : Int64} {v1 : Int64} {v2 : Int64} {m : kMem} {Q : Option Value → kMem → Prop} : kJ 192 18 [l0, l1] [.long v0, .long v1, .long v2] m Q = kJ 107 0 [some (.long v2), none, some (.long v1), none, some (.long v0), none] [] m (fun v m2 => kJ 192 21 [l0, l1] (v.toList ++ []) m2 Q) := kJ_call d192_18 (kg_calls 107 3 rfl rfl (Nat.le_of_ble_eq_true rfl) (Nat.le_of_ble_eq_true rfl) (Nat.le_of_ble_eq_true rfl) (Nat.le_of_ble_eq_true rfl))
theorem d192_21 : decode (mB 192) 21 = .ok (.ifCond .eq 7, 3) := by decide +kernel
theorem s192_21 {l0 l1 : Option Value} {st : List Value} {a : Int32} {m : kMem} {Q : Option Value → kMem → Prop} : kJ 192 21 [l0, l1] (.int a :: st) m Q = (if a = 0 then kJ 192 28 [l0, l1] st m Q else kJ 192 24 [l0, l1] st m Q) := kJ_if d192_21 rfl (fun h => kJ_next d192_21 h) (fun h => kJ_next d192_21 h)
theorem d192_24 : decode (mB 192) 24 = .ok (.iconst 1, 1) := by decide +kernel
theorem s192_24 {l0 l1 : Option Value} {st : List Value} {m : kMem} {Q : Option Value → kMem → Prop} : kJ 192 24 [l0, l1] st m Q = kJ 192 25 [l0, l1] (.int (nI 1) :: st) m Q := kJ_next d192_24 rfl
theorem d192_25 : decode (mB 192) 25 = .ok (.goto 4, 3) := by decide +kernel
theorem s192_25 {l0 l1 : Option Value} {st : List Value} {m : kMem} {Q : Option Value → kMem → Prop} : kJ 192 25 [l0, l1] st m Q = kJ 192 29 [l0, l1] st m Q := kJ_next d192_25 rfl
theorem d192_28 : decode (mB 192) 28 = .ok (.iconst 0, 1) := by decide +kernel
theorem s192_28 {l0 l1 : Option Value} {st : List Value} {m : kMem} {Q : Option Value → kMem → Prop} : kJ 192 28 [l0, l1] st m Q = kJ 192 29 [l0, l1] (.int (nI 0) :: st) m Q := kJ_next d192_28 rfl
theorem d192_29 : decode (mB 192) 29 = .ok (.ireturn, 1) := by decide +kernel
theorem s192_29 {l0 l1 : Option Value} {x : Int32} {m : kMem} {Q : Option Value → kMem → Prop} (hx : x = 0 ∨ x = 1) : kJ 192 29 [l0, l1] [.int x] m Q = Q (some (.int x)) m := kJ_ret d192_29 (kg_retz (by decide) hx)
theorem d193_0 : decode (mB 193) 0 = .ok (.iload_n 1, 1) := by decide +kernel
theorem s193_0 {l0 l2 l3 l4 : Option Value} {st : List Value} {x : Int32} {m : kMem} {Q : Option Value → kMem → Prop} : kJ 193 0 [l0, some (.int x), l2, l3, l4] st m Q = kJ 193 1 [l0, some (.int x), l2, l3, l4] (.int x :: st) m Q := kJ_next d193_0 rfl
theorem d193_1 : decode (mB 193) 1 = .ok (.iload_n 2, 1) := by decide +kernel
theorem s193_1 {l0 l1 l3 l4 : Option Value} {st : List Value} {x : Int32} {m : kMem} {Q : Option Value → kMem → Prop} : kJ 193 1 [l0, l1, some (.int x), l3, l4] st m Q = kJ 193 2 [l0, l1, some (.int x), l3, l4] (.int x :: st) m Q := kJ_next d193_1 rfl
theorem d193_2 : decode (mB 193) 2 = .ok (.invokestatic 303, 3) := by decide +kernel
theorem s193_2 {l0 l1 l2 l3 l4 : Option Value} {v0 : Int32} {v1 : Int32} {m : kMem} {Q : Option Value → kMem → Prop} : kJ 193 2 [l0, l1, l2, l3, l4] [.int v0, .int v1] m Q = kJ 192 0 [some (.int v1), some (.int v0)] [] m (fun v m2 => kJ 193 5 [l0, l1, l2, l3, l4] (v.toList ++ []) m2 Q) := kJ_call d193_2 (kg_calls 192 2 rfl rfl (Nat.le_of_ble_eq_true rfl) (Nat.le_of_ble_eq_true rfl) (Nat.le_of_ble_eq_true rfl) (Nat.le_of_ble_eq_true rfl))
theorem d193_5 : decode (mB 193) 5 = .ok (.ifCond .eq 9, 3) := by decide +kernel
theorem s193_5 {l0 l1 l2 l3 l4 : Option Value} {st : List Value} {a : Int32} {m : kMem} {Q : Option Value → kMem → Prop} : kJ 193 5 [l0, l1, l2, l3, l4] (.int a :: st) m Q = (if a = 0 then kJ 193 14 [l0, l1, l2, l3, l4] st m Q else kJ 193 8 [l0, l1, l2, l3, l4] st m Q) := kJ_if d193_5 rfl (fun h => kJ_next d193_5 h) (fun h => kJ_next d193_5 h)
theorem d193_8 : decode (mB 193) 8 = .ok (.iload_n 3, 1) := by decide +kernel
theorem s193_8 {l0 l1 l2 l4 : Option Value} {st : List Value} {x : Int32} {m : kMem} {Q : Option Value → kMem → Prop} : kJ 193 8 [l0, l1, l2, some (.int x), l4] st m Q = kJ 193 9 [l0, l1, l2, some (.int x), l4] (.int x :: st) m Q := kJ_next d193_8 rfl
theorem d193_9 : decode (mB 193) 9 = .ok (.bipush 40, 2) := by decide +kernel
theorem s193_9 {l0 l1 l2 l3 l4 : Option Value} {st : List Value} {m : kMem} {Q : Option Value → kMem → Prop} : kJ 193 9 [l0, l1, l2, l3, l4] st m Q = kJ 193 11 [l0, l1, l2, l3, l4] (.int (nI 40) :: st) m Q := kJ_next d193_9 rfl
theorem d193_11 : decode (mB 193) 11 = .ok (.if_icmp .le 5, 3) := by decide +kernel
theorem s193_11 {l0 l1 l2 l3 l4 : Option Value} {st : List Value} {a b : Int32} {m : kMem} {Q : Option Value → kMem → Prop} : kJ 193 11 [l0, l1, l2, l3, l4] (.int b :: .int a :: st) m Q = (if a ≤ b then kJ 193 16 [l0, l1, l2, l3, l4] st m Q else kJ 193 14 [l0, l1, l2, l3, l4] st m Q) := kJ_if d193_11 rfl (fun h => kJ_next d193_11 h) (fun h => kJ_next d193_11 h)
theorem d193_14 : decode (mB 193) 14 = .ok (.iconst (-1), 1) := by decide +kernel
theorem s193_14 {l0 l1 l2 l3 l4 : Option Value} {st : List Value} {m : kMem} {Q : Option Value → kMem → Prop} : kJ 193 14 [l0, l1, l2, l3, l4] st m Q = kJ 193 15 [l0, l1, l2, l3, l4] (.int (-1) :: st) m Q := kJ_next d193_14 rfl
theorem d193_15 : decode (mB 193) 15 = .ok (.ireturn, 1) := by decide +kernel
theorem s193_15 {l0 l1 l2 l3 l4 : Option Value} {x : Int32} {m : kMem} {Q : Option Value → kMem → Prop} : kJ 193 15 [l0, l1, l2, l3, l4] [.int x] m Q = Q (some (.int x)) m := kJ_ret d193_15 rfl
theorem d193_16 : decode (mB 193) 16 = .ok (.iload_n 3, 1) := by decide +kernel
theorem s193_16 {l0 l1 l2 l4 : Option Value} {st : List Value} {x : Int32} {m : kMem} {Q : Option Value → kMem → Prop} : kJ 193 16 [l0, l1, l2, some (.int x), l4] st m Q = kJ 193 17 [l0, l1, l2, some (.int x), l4] (.int x :: st) m Q := kJ_next d193_16 rfl
theorem d193_17 : decode (mB 193) 17 = .ok (.ifCond .ge 6, 3) := by decide +kernel
theorem s193_17 {l0 l1 l2 l3 l4 : Option Value} {st : List Value} {a : Int32} {m : kMem} {Q : Option Value → kMem → Prop} : kJ 193 17 [l0, l1, l2, l3, l4] (.int a :: st) m Q = (if 0 ≤ a then kJ 193 23 [l0, l1, l2, l3, l4] st m Q else kJ 193 20 [l0, l1, l2, l3, l4] st m Q) := kJ_if d193_17 rfl (fun h => kJ_next d193_17 h) (fun h => kJ_next d193_17 h)
theorem d193_20 : decode (mB 193) 20 = .ok (.bipush (-14), 2) := by decide +kernel
theorem s193_20 {l0 l1 l2 l3 l4 : Option Value} {st : List Value} {m : kMem} {Q : Option Value → kMem → Prop} : kJ 193 20 [l0, l1, l2, l3, l4] st m Q = kJ 193 22 [l0, l1, l2, l3, l4] (.int (-14) :: st) m Q := kJ_next d193_20 rfl
theorem d193_22 : decode (mB 193) 22 = .ok (.ireturn, 1) := by decide +kernel
theorem s193_22 {l0 l1 l2 l3 l4 : Option Value} {x : Int32} {m : kMem} {Q : Option Value → kMem → Prop} : kJ 193 22 [l0, l1, l2, l3, l4] [.int x] m Q = Q (some (.int x)) m := kJ_ret d193_22 rfl
theorem d193_23 : decode (mB 193) 23 = .ok (.aload_n 0, 1) := by decide +kernel
theorem s193_23 {l1 l2 l3 l4 : Option Value} {st : List Value} {x : Nat} {m : kMem} {Q : Option Value → kMem → Prop} : kJ 193 23 [some (.ref x), l1, l2, l3, l4] st m Q = kJ 193 24 [some (.ref x), l1, l2, l3, l4] (.ref x :: st) m Q := kJ_next d193_23 rfl
theorem d193_24 : decode (mB 193) 24 = .ok (.getfield 32, 3) := by decide +kernel
theorem s193_24 {l0 l1 l2 l3 l4 : Option Value} {st : List Value} {q : Nat} {mi : Nat → Nat → Int32} {ml : Nat → Nat → Int64} {mr : Nat → Nat → Option Nat} {nx : Nat} {Q : Option Value → kMem → Prop} (h : kIs nx q 5 = true) : kJ 193 24 [l0, l1, l2, l3, l4] (.ref q :: st) (mi, ml, mr, nx) Q = kJ 193 27 [l0, l1, l2, l3, l4] (va_rf (mr q 23) :: st) (mi, ml, mr, nx) Q := kJ_next d193_24 (kg_getr 5 23 rfl h (by decide))
theorem d193_27 : decode (mB 193) 27 = .ok (.iload_n 1, 1) := by decide +kernel
theorem s193_27 {l0 l2 l3 l4 : Option Value} {st : List Value} {x : Int32} {m : kMem} {Q : Option Value → kMem → Prop} : kJ 193 27 [l0, some (.int x), l2, l3, l4] st m Q = kJ 193 28 [l0, some (.int x), l2, l3, l4] (.int x :: st) m Q := kJ_next d193_27 rfl
theorem d193_28 : decode (mB 193) 28 = .ok (.iload_n 2, 1) := by decide +kernel
theorem s193_28 {l0 l1 l3 l4 : Option Value} {st : List Value} {x : Int32} {m : kMem} {Q : Option Value → kMem → Prop} : kJ 193 28 [l0, l1, some (.int x), l3, l4] st m Q = kJ 193 29 [l0, l1, some (.int x), l3, l4] (.int x :: st) m Q := kJ_next d193_28 rfl
theorem d193_29 : decode (mB 193) 29 = .ok (.iastore, 1) := by decide +kernel
theorem s193_29 {l0 l1 l2 l3 l4 : Option Value} {st : List Value} {q : Nat} {i x : Int32} {mi : Nat → Nat → Int32} {ml : Nat → Nat → Int64} {mr : Nat → Nat → Option Nat} {nx : Nat} {Q : Option Value → kMem → Prop} (h : kIs nx q 10 = true) : kJ 193 29 [l0, l1, l2, l3, l4] (.int x :: .int i :: .ref q :: st) (mi, ml, mr, nx) Q = (vp_in i (kAl q) ∧ kJ 193 30 [l0, l1, l2, l3, l4] st (kup mi q i.toNatClampNeg x, ml, mr, nx) Q) := kg_astJ d193_29 rfl (kAr_of h)
theorem d193_30 : decode (mB 193) 30 = .ok (.aload_n 0, 1) := by decide +kernel
theorem s193_30 {l1 l2 l3 l4 : Option Value} {st : List Value} {x : Nat} {m : kMem} {Q : Option Value → kMem → Prop} : kJ 193 30 [some (.ref x), l1, l2, l3, l4] st m Q = kJ 193 31 [some (.ref x), l1, l2, l3, l4] (.ref x :: st) m Q := kJ_next d193_30 rfl
theorem d193_31 : decode (mB 193) 31 = .ok (.getfield 35, 3) := by decide +kernel
theorem s193_31 {l0 l1 l2 l3 l4 : Option Value} {st : List Value} {q : Nat} {mi : Nat → Nat → Int32} {ml : Nat → Nat → Int64} {mr : Nat → Nat → Option Nat} {nx : Nat} {Q : Option Value → kMem → Prop} (h : kIs nx q 5 = true) : kJ 193 31 [l0, l1, l2, l3, l4] (.ref q :: st) (mi, ml, mr, nx) Q = kJ 193 34 [l0, l1, l2, l3, l4] (va_rf (mr q 24) :: st) (mi, ml, mr, nx) Q := kJ_next d193_31 (kg_getr 5 24 rfl h (by decide))
theorem d193_34 : decode (mB 193) 34 = .ok (.iload_n 1, 1) := by decide +kernel
theorem s193_34 {l0 l2 l3 l4 : Option Value} {st : List Value} {x : Int32} {m : kMem} {Q : Option Value → kMem → Prop} : kJ 193 34 [l0, some (.int x), l2, l3, l4] st m Q = kJ 193 35 [l0, some (.int x), l2, l3, l4] (.int x :: st) m Q := kJ_next d193_34 rfl
theorem d193_35 : decode (mB 193) 35 = .ok (.iload_n 3, 1) := by decide +kernel
theorem s193_35 {l0 l1 l2 l4 : Option Value} {st : List Value} {x : Int32} {m : kMem} {Q : Option Value → kMem → Prop} : kJ 193 35 [l0, l1, l2, some (.int x), l4] st m Q = kJ 193 36 [l0, l1, l2, some (.int x), l4] (.int x :: st) m Q := kJ_next d193_35 rfl
theorem d193_36 : decode (mB 193) 36 = .ok (.iastore, 1) := by decide +kernel
theorem s193_36 {l0 l1 l2 l3 l4 : Option Value} {st : List Value} {q : Nat} {i x : Int32} {mi : Nat → Nat → Int32} {ml : Nat → Nat → Int64} {mr : Nat → Nat → Option Nat} {nx : Nat} {Q : Option Value → kMem → Prop} (h : kIs nx q 10 = true) : kJ 193 36 [l0, l1, l2, l3, l4] (.int x :: .int i :: .ref q :: st) (mi, ml, mr, nx) Q = (vp_in i (kAl q) ∧ kJ 193 37 [l0, l1, l2, l3, l4] st (kup mi q i.toNatClampNeg x, ml, mr, nx) Q) := kg_astJ d193_36 rfl (kAr_of h)
theorem d193_37 : decode (mB 193) 37 = .ok (.iconst 0, 1) := by decide +kernel
theorem s193_37 {l0 l1 l2 l3 l4 : Option Value} {st : List Value} {m : kMem} {Q : Option Value → kMem → Prop} : kJ 193 37 [l0, l1, l2, l3, l4] st m Q = kJ 193 38 [l0, l1, l2, l3, l4] (.int (nI 0) :: st) m Q := kJ_next d193_37 rfl
theorem d193_38 : decode (mB 193) 38 = .ok (.istore 4, 2) := by decide +kernel
theorem s193_38 {l0 l1 l2 l3 l4 : Option Value} {st : List Value} {x : Int32} {m : kMem} {Q : Option Value → kMem → Prop} (hp : kNL l3 = true) : kJ 193 38 [l0, l1, l2, l3, l4] (.int x :: st) m Q = kJ 193 40 [l0, l1, l2, l3, some (.int x)] st m Q := kJ_next d193_38 (kg_sti (Nat.le_of_ble_eq_true rfl) hp)
theorem d193_40 : decode (mB 193) 40 = .ok (.iload 4, 2) := by decide +kernel
theorem s193_40 {l0 l1 l2 l3 : Option Value} {st : List Value} {x : Int32} {m : kMem} {Q : Option Value → kMem → Prop} : kJ 193 40 [l0, l1, l2, l3, some (.int x)] st m Q = kJ 193 42 [l0, l1, l2, l3, some (.int x)] (.int x :: st) m Q := kJ_next d193_40 rfl
theorem d193_42 : decode (mB 193) 42 = .ok (.bipush 40, 2) := by decide +kernel
theorem s193_42 {l0 l1 l2 l3 l4 : Option Value} {st : List Value} {m : kMem} {Q : Option Value → kMem → Prop} : kJ 193 42 [l0, l1, l2, l3, l4] st m Q = kJ 193 44 [l0, l1, l2, l3, l4] (.int (nI 40) :: st) m Q := kJ_next d193_42 rfl
theorem d193_44 : decode (mB 193) 44 = .ok (.if_icmp .ge 22, 3) := by decide +kernel
theorem s193_44 {l0 l1 l2 l3 l4 : Option Value} {st : List Value} {a b : Int32} {m : kMem} {Q : Option Value → kMem → Prop} : kJ 193 44 [l0, l1, l2, l3, l4] (.int b :: .int a :: st) m Q = (if b ≤ a then kJ 193 66 [l0, l1, l2, l3, l4] st m Q else kJ 193 47 [l0, l1, l2, l3, l4] st m Q) := kJ_if d193_44 rfl (fun h => kJ_next d193_44 h) (fun h => kJ_next d193_44 h)
theorem d193_47 : decode (mB 193) 47 = .ok (.aload_n 0, 1) := by decide +kernel
theorem s193_47 {l1 l2 l3 l4 : Option Value} {st : List Value} {x : Nat} {m : kMem} {Q : Option Value → kMem → Prop} : kJ 193 47 [some (.ref x), l1, l2, l3, l4] st m Q = kJ 193 48 [some (.ref x), l1, l2, l3, l4] (.ref x :: st) m Q := kJ_next d193_47 rfl
theorem d193_48 : decode (mB 193) 48 = .ok (.getfield 38, 3) := by decide +kernel
theorem s193_48 {l0 l1 l2 l3 l4 : Option Value} {st : List Value} {q : Nat} {mi : Nat → Nat → Int32} {ml : Nat → Nat → Int64} {mr : Nat → Nat → Option Nat} {nx : Nat} {Q : Option Value → kMem → Prop} (h : kIs nx q 5 = true) : kJ 193 48 [l0, l1, l2, l3, l4] (.ref q :: st) (mi, ml, mr, nx) Q = kJ 193 51 [l0, l1, l2, l3, l4] (va_rf (mr q 25) :: st) (mi, ml, mr, nx) Q := kJ_next d193_48 (kg_getr 5 25 rfl h (by decide))
theorem d193_51 : decode (mB 193) 51 = .ok (.bipush 40, 2) := by decide +kernel
theorem s193_51 {l0 l1 l2 l3 l4 : Option Value} {st : List Value} {m : kMem} {Q : Option Value → kMem → Prop} : kJ 193 51 [l0, l1, l2, l3, l4] st m Q = kJ 193 53 [l0, l1, l2, l3, l4] (.int (nI 40) :: st) m Q := kJ_next d193_51 rfl
theorem d193_53 : decode (mB 193) 53 = .ok (.iload_n 1, 1) := by decide +kernel
theorem s193_53 {l0 l2 l3 l4 : Option Value} {st : List Value} {x : Int32} {m : kMem} {Q : Option Value → kMem → Prop} : kJ 193 53 [l0, some (.int x), l2, l3, l4] st m Q = kJ 193 54 [l0, some (.int x), l2, l3, l4] (.int x :: st) m Q := kJ_next d193_53 rfl
theorem d193_54 : decode (mB 193) 54 = .ok (.imul, 1) := by decide +kernel
theorem s193_54 {l0 l1 l2 l3 l4 : Option Value} {st : List Value} {a b : Int32} {m : kMem} {Q : Option Value → kMem → Prop} : kJ 193 54 [l0, l1, l2, l3, l4] (.int b :: .int a :: st) m Q = kJ 193 55 [l0, l1, l2, l3, l4] (.int (a * b) :: st) m Q := kJ_next d193_54 rfl
theorem d193_55 : decode (mB 193) 55 = .ok (.iload 4, 2) := by decide +kernel
theorem s193_55 {l0 l1 l2 l3 : Option Value} {st : List Value} {x : Int32} {m : kMem} {Q : Option Value → kMem → Prop} : kJ 193 55 [l0, l1, l2, l3, some (.int x)] st m Q = kJ 193 57 [l0, l1, l2, l3, some (.int x)] (.int x :: st) m Q := kJ_next d193_55 rfl
theorem d193_57 : decode (mB 193) 57 = .ok (.iadd, 1) := by decide +kernel
theorem s193_57 {l0 l1 l2 l3 l4 : Option Value} {st : List Value} {a b : Int32} {m : kMem} {Q : Option Value → kMem → Prop} : kJ 193 57 [l0, l1, l2, l3, l4] (.int b :: .int a :: st) m Q = kJ 193 58 [l0, l1, l2, l3, l4] (.int (a + b) :: st) m Q := kJ_next d193_57 rfl
theorem d193_58 : decode (mB 193) 58 = .ok (.iconst 0, 1) := by decide +kernel
theorem s193_58 {l0 l1 l2 l3 l4 : Option Value} {st : List Value} {m : kMem} {Q : Option Value → kMem → Prop} : kJ 193 58 [l0, l1, l2, l3, l4] st m Q = kJ 193 59 [l0, l1, l2, l3, l4] (.int (nI 0) :: st) m Q := kJ_next d193_58 rfl
theorem d193_59 : decode (mB 193) 59 = .ok (.iastore, 1) := by decide +kernel
theorem s193_59 {l0 l1 l2 l3 l4 : Option Value} {st : List Value} {q : Nat} {i x : Int32} {mi : Nat → Nat → Int32} {ml : Nat → Nat → Int64} {mr : Nat → Nat → Option Nat} {nx : Nat} {Q : Option Value → kMem → Prop} (h : kIs nx q 10 = true) : kJ 193 59 [l0, l1, l2, l3, l4] (.int x :: .int i :: .ref q :: st) (mi, ml, mr, nx) Q = (vp_in i (kAl q) ∧ kJ 193 60 [l0, l1, l2, l3, l4] st (kup mi q i.toNatClampNeg x, ml, mr, nx) Q) := kg_astJ d193_59 rfl (kAr_of h)
theorem d193_60 : decode (mB 193) 60 = .ok (.iinc 4 1, 3) := by decide +kernel
theorem s193_60 {l0 l1 l2 l3 : Option Value} {st : List Value} {x : Int32} {m : kMem} {Q : Option Value → kMem → Prop} (hp : kNL l3 = true) : kJ 193 60 [l0, l1, l2, l3, some (.int x)] st m Q = kJ 193 63 [l0, l1, l2, l3, some (.int (x + (nI 1)))] st m Q := kJ_next d193_60 (kg_inc rfl (Nat.le_of_ble_eq_true rfl) hp)
theorem d193_63 : decode (mB 193) 63 = .ok (.goto (-23), 3) := by decide +kernel
theorem s193_63 {l0 l1 l2 l3 l4 : Option Value} {st : List Value} {m : kMem} {Q : Option Value → kMem → Prop} : kJ 193 63 [l0, l1, l2, l3, l4] st m Q = kJ 193 40 [l0, l1, l2, l3, l4] st m Q := kJ_next d193_63 rfl
theorem d193_66 : decode (mB 193) 66 = .ok (.iconst 1, 1) := by decide +kernel
theorem s193_66 {l0 l1 l2 l3 l4 : Option Value} {st : List Value} {m : kMem} {Q : Option Value → kMem → Prop} : kJ 193 66 [l0, l1, l2, l3, l4] st m Q = kJ 193 67 [l0, l1, l2, l3, l4] (.int (nI 1) :: st) m Q := kJ_next d193_66 rfl
theorem d193_67 : decode (mB 193) 67 = .ok (.ireturn, 1) := by decide +kernel
theorem s193_67 {l0 l1 l2 l3 l4 : Option Value} {x : Int32} {m : kMem} {Q : Option Value → kMem → Prop} : kJ 193 67 [l0, l1, l2, l3, l4] [.int x] m Q = Q (some (.int x)) m := kJ_ret d193_67 rfl
theorem d194_0 : decode (mB 194) 0 = .ok (.iload_n 1, 1) := by decide +kernel
theorem s194_0 {l0 l2 l3 : Option Value} {st : List Value} {x : Int32} {m : kMem} {Q : Option Value → kMem → Prop} : kJ 194 0 [l0, some (.int x), l2, l3] st m Q = kJ 194 1 [l0, some (.int x), l2, l3] (.int x :: st) m Q := kJ_next d194_0 rfl
theorem d194_1 : decode (mB 194) 1 = .ok (.iconst 0, 1) := by decide +kernel
theorem s194_1 {l0 l1 l2 l3 : Option Value} {st : List Value} {m : kMem} {Q : Option Value → kMem → Prop} : kJ 194 1 [l0, l1, l2, l3] st m Q = kJ 194 2 [l0, l1, l2, l3] (.int (nI 0) :: st) m Q := kJ_next d194_1 rfl
theorem d194_2 : decode (mB 194) 2 = .ok (.invokestatic 303, 3) := by decide +kernel
theorem s194_2 {l0 l1 l2 l3 : Option Value} {v0 : Int32} {v1 : Int32} {m : kMem} {Q : Option Value → kMem → Prop} : kJ 194 2 [l0, l1, l2, l3] [.int v0, .int v1] m Q = kJ 192 0 [some (.int v1), some (.int v0)] [] m (fun v m2 => kJ 194 5 [l0, l1, l2, l3] (v.toList ++ []) m2 Q) := kJ_call d194_2 (kg_calls 192 2 rfl rfl (Nat.le_of_ble_eq_true rfl) (Nat.le_of_ble_eq_true rfl) (Nat.le_of_ble_eq_true rfl) (Nat.le_of_ble_eq_true rfl))
theorem d194_5 : decode (mB 194) 5 = .ok (.ifCond .ne 5, 3) := by decide +kernel
theorem s194_5 {l0 l1 l2 l3 : Option Value} {st : List Value} {a : Int32} {m : kMem} {Q : Option Value → kMem → Prop} : kJ 194 5 [l0, l1, l2, l3] (.int a :: st) m Q = (if a = 0 then kJ 194 8 [l0, l1, l2, l3] st m Q else kJ 194 10 [l0, l1, l2, l3] st m Q) := kJ_if d194_5 rfl (fun h => kJ_next d194_5 h) (fun h => kJ_next d194_5 h)
theorem d194_8 : decode (mB 194) 8 = .ok (.iconst (-1), 1) := by decide +kernel
theorem s194_8 {l0 l1 l2 l3 : Option Value} {st : List Value} {m : kMem} {Q : Option Value → kMem → Prop} : kJ 194 8 [l0, l1, l2, l3] st m Q = kJ 194 9 [l0, l1, l2, l3] (.int (-1) :: st) m Q := kJ_next d194_8 rfl
theorem d194_9 : decode (mB 194) 9 = .ok (.ireturn, 1) := by decide +kernel
theorem s194_9 {l0 l1 l2 l3 : Option Value} {x : Int32} {m : kMem} {Q : Option Value → kMem → Prop} : kJ 194 9 [l0, l1, l2, l3] [.int x] m Q = Q (some (.int x)) m := kJ_ret d194_9 rfl
theorem d194_10 : decode (mB 194) 10 = .ok (.aload_n 0, 1) := by decide +kernel
theorem s194_10 {l1 l2 l3 : Option Value} {st : List Value} {x : Nat} {m : kMem} {Q : Option Value → kMem → Prop} : kJ 194 10 [some (.ref x), l1, l2, l3] st m Q = kJ 194 11 [some (.ref x), l1, l2, l3] (.ref x :: st) m Q := kJ_next d194_10 rfl
theorem d194_11 : decode (mB 194) 11 = .ok (.getfield 32, 3) := by decide +kernel
theorem s194_11 {l0 l1 l2 l3 : Option Value} {st : List Value} {q : Nat} {mi : Nat → Nat → Int32} {ml : Nat → Nat → Int64} {mr : Nat → Nat → Option Nat} {nx : Nat} {Q : Option Value → kMem → Prop} (h : kIs nx q 5 = true) : kJ 194 11 [l0, l1, l2, l3] (.ref q :: st) (mi, ml, mr, nx) Q = kJ 194 14 [l0, l1, l2, l3] (va_rf (mr q 23) :: st) (mi, ml, mr, nx) Q := kJ_next d194_11 (kg_getr 5 23 rfl h (by decide))
theorem d194_14 : decode (mB 194) 14 = .ok (.iload_n 1, 1) := by decide +kernel
theorem s194_14 {l0 l2 l3 : Option Value} {st : List Value} {x : Int32} {m : kMem} {Q : Option Value → kMem → Prop} : kJ 194 14 [l0, some (.int x), l2, l3] st m Q = kJ 194 15 [l0, some (.int x), l2, l3] (.int x :: st) m Q := kJ_next d194_14 rfl
theorem d194_15 : decode (mB 194) 15 = .ok (.iaload, 1) := by decide +kernel
theorem s194_15 {l0 l1 l2 l3 : Option Value} {st : List Value} {q : Nat} {i : Int32} {mi : Nat → Nat → Int32} {ml : Nat → Nat → Int64} {mr : Nat → Nat → Option Nat} {nx : Nat} {Q : Option Value → kMem → Prop} (h : kIs nx q 10 = true) : kJ 194 15 [l0, l1, l2, l3] (.int i :: .ref q :: st) (mi, ml, mr, nx) Q = (vp_in i (kAl q) ∧ kJ 194 16 [l0, l1, l2, l3] (.int (mi q i.toNatClampNeg) :: st) (mi, ml, mr, nx) Q) := kg_aldJ d194_15 rfl (kAr_of h)
theorem d194_16 : decode (mB 194) 16 = .ok (.bipush (-4), 2) := by decide +kernel
theorem s194_16 {l0 l1 l2 l3 : Option Value} {st : List Value} {m : kMem} {Q : Option Value → kMem → Prop} : kJ 194 16 [l0, l1, l2, l3] st m Q = kJ 194 18 [l0, l1, l2, l3] (.int (-4) :: st) m Q := kJ_next d194_16 rfl
theorem d194_18 : decode (mB 194) 18 = .ok (.if_icmp .ne 6, 3) := by decide +kernel
theorem s194_18 {l0 l1 l2 l3 : Option Value} {st : List Value} {a b : Int32} {m : kMem} {Q : Option Value → kMem → Prop} : kJ 194 18 [l0, l1, l2, l3] (.int b :: .int a :: st) m Q = (if a = b then kJ 194 21 [l0, l1, l2, l3] st m Q else kJ 194 24 [l0, l1, l2, l3] st m Q) := kJ_if d194_18 rfl (fun h => kJ_next d194_18 h) (fun h => kJ_next d194_18 h)
theorem d194_21 : decode (mB 194) 21 = .ok (.bipush (-11), 2) := by decide +kernel
theorem s194_21 {l0 l1 l2 l3 : Option Value} {st : List Value} {m : kMem} {Q : Option Value → kMem → Prop} : kJ 194 21 [l0, l1, l2, l3] st m Q = kJ 194 23 [l0, l1, l2, l3] (.int (-11) :: st) m Q := kJ_next d194_21 rfl
theorem d194_23 : decode (mB 194) 23 = .ok (.ireturn, 1) := by decide +kernel
theorem s194_23 {l0 l1 l2 l3 : Option Value} {x : Int32} {m : kMem} {Q : Option Value → kMem → Prop} : kJ 194 23 [l0, l1, l2, l3] [.int x] m Q = Q (some (.int x)) m := kJ_ret d194_23 rfl
theorem d194_24 : decode (mB 194) 24 = .ok (.iload_n 2, 1) := by decide +kernel
theorem s194_24 {l0 l1 l3 : Option Value} {st : List Value} {x : Int32} {m : kMem} {Q : Option Value → kMem → Prop} : kJ 194 24 [l0, l1, some (.int x), l3] st m Q = kJ 194 25 [l0, l1, some (.int x), l3] (.int x :: st) m Q := kJ_next d194_24 rfl
theorem d194_25 : decode (mB 194) 25 = .ok (.i2l, 1) := by decide +kernel
theorem s194_25 {l0 l1 l2 l3 : Option Value} {st : List Value} {a : Int32} {m : kMem} {Q : Option Value → kMem → Prop} : kJ 194 25 [l0, l1, l2, l3] (.int a :: st) m Q = kJ 194 26 [l0, l1, l2, l3] (.long a.toInt64 :: st) m Q := kJ_next d194_25 rfl
theorem d194_26 : decode (mB 194) 26 = .ok (.lconst 0, 1) := by decide +kernel
theorem s194_26 {l0 l1 l2 l3 : Option Value} {st : List Value} {m : kMem} {Q : Option Value → kMem → Prop} : kJ 194 26 [l0, l1, l2, l3] st m Q = kJ 194 27 [l0, l1, l2, l3] (.long 0 :: st) m Q := kJ_next d194_26 rfl
theorem d194_27 : decode (mB 194) 27 = .ok (.aload_n 0, 1) := by decide +kernel
theorem s194_27 {l1 l2 l3 : Option Value} {st : List Value} {x : Nat} {m : kMem} {Q : Option Value → kMem → Prop} : kJ 194 27 [some (.ref x), l1, l2, l3] st m Q = kJ 194 28 [some (.ref x), l1, l2, l3] (.ref x :: st) m Q := kJ_next d194_27 rfl
theorem d194_28 : decode (mB 194) 28 = .ok (.getfield 35, 3) := by decide +kernel
theorem s194_28 {l0 l1 l2 l3 : Option Value} {st : List Value} {q : Nat} {mi : Nat → Nat → Int32} {ml : Nat → Nat → Int64} {mr : Nat → Nat → Option Nat} {nx : Nat} {Q : Option Value → kMem → Prop} (h : kIs nx q 5 = true) : kJ 194 28 [l0, l1, l2, l3] (.ref q :: st) (mi, ml, mr, nx) Q = kJ 194 31 [l0, l1, l2, l3] (va_rf (mr q 24) :: st) (mi, ml, mr, nx) Q := kJ_next d194_28 (kg_getr 5 24 rfl h (by decide))
theorem d194_31 : decode (mB 194) 31 = .ok (.iload_n 1, 1) := by decide +kernel
theorem s194_31 {l0 l2 l3 : Option Value} {st : List Value} {x : Int32} {m : kMem} {Q : Option Value → kMem → Prop} : kJ 194 31 [l0, some (.int x), l2, l3] st m Q = kJ 194 32 [l0, some (.int x), l2, l3] (.int x :: st) m Q := kJ_next d194_31 rfl
theorem d194_32 : decode (mB 194) 32 = .ok (.iaload, 1) := by decide +kernel
theorem s194_32 {l0 l1 l2 l3 : Option Value} {st : List Value} {q : Nat} {i : Int32} {mi : Nat → Nat → Int32} {ml : Nat → Nat → Int64} {mr : Nat → Nat → Option Nat} {nx : Nat} {Q : Option Value → kMem → Prop} (h : kIs nx q 10 = true) : kJ 194 32 [l0, l1, l2, l3] (.int i :: .ref q :: st) (mi, ml, mr, nx) Q = (vp_in i (kAl q) ∧ kJ 194 33 [l0, l1, l2, l3] (.int (mi q i.toNatClampNeg) :: st) (mi, ml, mr, nx) Q) := kg_aldJ d194_32 rfl (kAr_of h)
theorem d194_33 : decode (mB 194) 33 = .ok (.iconst 1, 1) := by decide +kernel
theorem s194_33 {l0 l1 l2 l3 : Option Value} {st : List Value} {m : kMem} {Q : Option Value → kMem → Prop} : kJ 194 33 [l0, l1, l2, l3] st m Q = kJ 194 34 [l0, l1, l2, l3] (.int (nI 1) :: st) m Q := kJ_next d194_33 rfl
theorem d194_34 : decode (mB 194) 34 = .ok (.isub, 1) := by decide +kernel
theorem s194_34 {l0 l1 l2 l3 : Option Value} {st : List Value} {a b : Int32} {m : kMem} {Q : Option Value → kMem → Prop} : kJ 194 34 [l0, l1, l2, l3] (.int b :: .int a :: st) m Q = kJ 194 35 [l0, l1, l2, l3] (.int (a - b) :: st) m Q := kJ_next d194_34 rfl
theorem d194_35 : decode (mB 194) 35 = .ok (.i2l, 1) := by decide +kernel
theorem s194_35 {l0 l1 l2 l3 : Option Value} {st : List Value} {a : Int32} {m : kMem} {Q : Option Value → kMem → Prop} : kJ 194 35 [l0, l1, l2, l3] (.int a :: st) m Q = kJ 194 36 [l0, l1, l2, l3] (.long a.toInt64 :: st) m Q := kJ_next d194_35 rfl
theorem d194_36 : decode (mB 194) 36 = .ok (.invokestatic 60, 3) := by decide +kernel
theorem s194_36 {l0 l1 l2 l3 : Option Value} {v0 : Int64} {v1 : Int64} {v2 : Int64} {m : kMem} {Q : Option Value → kMem → Prop} : kJ 194 36 [l0, l1, l2, l3] [.long v0, .long v1, .long v2] m Q = kJ 107 0 [some (.long v2), none, some (.long v1), none, some (.long v0), none] [] m (fun v m2 => kJ 194 39 [l0, l1, l2, l3] (v.toList ++ []) m2 Q) := kJ_call d194_36 (kg_calls 107 3 rfl rfl (Nat.le_of_ble_eq_true rfl) (Nat.le_of_ble_eq_true rfl) (Nat.le_of_ble_eq_true rfl) (Nat.le_of_ble_eq_true rfl))
theorem d194_39 : decode (mB 194) 39 = .ok (.ifCond .ne 6, 3) := by decide +kernel
theorem s194_39 {l0 l1 l2 l3 : Option Value} {st : List Value} {a : Int32} {m : kMem} {Q : Option Value → kMem → Prop} : kJ 194 39 [l0, l1, l2, l3] (.int a :: st) m Q = (if a = 0 then kJ 194 42 [l0, l1, l2, l3] st m Q else kJ 194 45 [l0, l1, l2, l3] st m Q) := kJ_if d194_39 rfl (fun h => kJ_next d194_39 h) (fun h => kJ_next d194_39 h)
theorem d194_42 : decode (mB 194) 42 = .ok (.bipush (-12), 2) := by decide +kernel
theorem s194_42 {l0 l1 l2 l3 : Option Value} {st : List Value} {m : kMem} {Q : Option Value → kMem → Prop} : kJ 194 42 [l0, l1, l2, l3] st m Q = kJ 194 44 [l0, l1, l2, l3] (.int (-12) :: st) m Q := kJ_next d194_42 rfl
theorem d194_44 : decode (mB 194) 44 = .ok (.ireturn, 1) := by decide +kernel
theorem s194_44 {l0 l1 l2 l3 : Option Value} {x : Int32} {m : kMem} {Q : Option Value → kMem → Prop} : kJ 194 44 [l0, l1, l2, l3] [.int x] m Q = Q (some (.int x)) m := kJ_ret d194_44 rfl
theorem d194_45 : decode (mB 194) 45 = .ok (.aload_n 0, 1) := by decide +kernel
theorem s194_45 {l1 l2 l3 : Option Value} {st : List Value} {x : Nat} {m : kMem} {Q : Option Value → kMem → Prop} : kJ 194 45 [some (.ref x), l1, l2, l3] st m Q = kJ 194 46 [some (.ref x), l1, l2, l3] (.ref x :: st) m Q := kJ_next d194_45 rfl
theorem d194_46 : decode (mB 194) 46 = .ok (.getfield 38, 3) := by decide +kernel
theorem s194_46 {l0 l1 l2 l3 : Option Value} {st : List Value} {q : Nat} {mi : Nat → Nat → Int32} {ml : Nat → Nat → Int64} {mr : Nat → Nat → Option Nat} {nx : Nat} {Q : Option Value → kMem → Prop} (h : kIs nx q 5 = true) : kJ 194 46 [l0, l1, l2, l3] (.ref q :: st) (mi, ml, mr, nx) Q = kJ 194 49 [l0, l1, l2, l3] (va_rf (mr q 25) :: st) (mi, ml, mr, nx) Q := kJ_next d194_46 (kg_getr 5 25 rfl h (by decide))
theorem d194_49 : decode (mB 194) 49 = .ok (.bipush 40, 2) := by decide +kernel
theorem s194_49 {l0 l1 l2 l3 : Option Value} {st : List Value} {m : kMem} {Q : Option Value → kMem → Prop} : kJ 194 49 [l0, l1, l2, l3] st m Q = kJ 194 51 [l0, l1, l2, l3] (.int (nI 40) :: st) m Q := kJ_next d194_49 rfl
theorem d194_51 : decode (mB 194) 51 = .ok (.iload_n 1, 1) := by decide +kernel
theorem s194_51 {l0 l2 l3 : Option Value} {st : List Value} {x : Int32} {m : kMem} {Q : Option Value → kMem → Prop} : kJ 194 51 [l0, some (.int x), l2, l3] st m Q = kJ 194 52 [l0, some (.int x), l2, l3] (.int x :: st) m Q := kJ_next d194_51 rfl
theorem d194_52 : decode (mB 194) 52 = .ok (.imul, 1) := by decide +kernel
theorem s194_52 {l0 l1 l2 l3 : Option Value} {st : List Value} {a b : Int32} {m : kMem} {Q : Option Value → kMem → Prop} : kJ 194 52 [l0, l1, l2, l3] (.int b :: .int a :: st) m Q = kJ 194 53 [l0, l1, l2, l3] (.int (a * b) :: st) m Q := kJ_next d194_52 rfl
theorem d194_53 : decode (mB 194) 53 = .ok (.iload_n 2, 1) := by decide +kernel
theorem s194_53 {l0 l1 l3 : Option Value} {st : List Value} {x : Int32} {m : kMem} {Q : Option Value → kMem → Prop} : kJ 194 53 [l0, l1, some (.int x), l3] st m Q = kJ 194 54 [l0, l1, some (.int x), l3] (.int x :: st) m Q := kJ_next d194_53 rfl
theorem d194_54 : decode (mB 194) 54 = .ok (.iadd, 1) := by decide +kernel
theorem s194_54 {l0 l1 l2 l3 : Option Value} {st : List Value} {a b : Int32} {m : kMem} {Q : Option Value → kMem → Prop} : kJ 194 54 [l0, l1, l2, l3] (.int b :: .int a :: st) m Q = kJ 194 55 [l0, l1, l2, l3] (.int (a + b) :: st) m Q := kJ_next d194_54 rfl
theorem d194_55 : decode (mB 194) 55 = .ok (.aload_n 0, 1) := by decide +kernel
theorem s194_55 {l1 l2 l3 : Option Value} {st : List Value} {x : Nat} {m : kMem} {Q : Option Value → kMem → Prop} : kJ 194 55 [some (.ref x), l1, l2, l3] st m Q = kJ 194 56 [some (.ref x), l1, l2, l3] (.ref x :: st) m Q := kJ_next d194_55 rfl
theorem d194_56 : decode (mB 194) 56 = .ok (.getfield 32, 3) := by decide +kernel
theorem s194_56 {l0 l1 l2 l3 : Option Value} {st : List Value} {q : Nat} {mi : Nat → Nat → Int32} {ml : Nat → Nat → Int64} {mr : Nat → Nat → Option Nat} {nx : Nat} {Q : Option Value → kMem → Prop} (h : kIs nx q 5 = true) : kJ 194 56 [l0, l1, l2, l3] (.ref q :: st) (mi, ml, mr, nx) Q = kJ 194 59 [l0, l1, l2, l3] (va_rf (mr q 23) :: st) (mi, ml, mr, nx) Q := kJ_next d194_56 (kg_getr 5 23 rfl h (by decide))
theorem d194_59 : decode (mB 194) 59 = .ok (.iload_n 1, 1) := by decide +kernel
theorem s194_59 {l0 l2 l3 : Option Value} {st : List Value} {x : Int32} {m : kMem} {Q : Option Value → kMem → Prop} : kJ 194 59 [l0, some (.int x), l2, l3] st m Q = kJ 194 60 [l0, some (.int x), l2, l3] (.int x :: st) m Q := kJ_next d194_59 rfl
theorem d194_60 : decode (mB 194) 60 = .ok (.iaload, 1) := by decide +kernel
theorem s194_60 {l0 l1 l2 l3 : Option Value} {st : List Value} {q : Nat} {i : Int32} {mi : Nat → Nat → Int32} {ml : Nat → Nat → Int64} {mr : Nat → Nat → Option Nat} {nx : Nat} {Q : Option Value → kMem → Prop} (h : kIs nx q 10 = true) : kJ 194 60 [l0, l1, l2, l3] (.int i :: .ref q :: st) (mi, ml, mr, nx) Q = (vp_in i (kAl q) ∧ kJ 194 61 [l0, l1, l2, l3] (.int (mi q i.toNatClampNeg) :: st) (mi, ml, mr, nx) Q) := kg_aldJ d194_60 rfl (kAr_of h)
theorem d194_61 : decode (mB 194) 61 = .ok (.ifCond .ne 8, 3) := by decide +kernel
theorem s194_61 {l0 l1 l2 l3 : Option Value} {st : List Value} {a : Int32} {m : kMem} {Q : Option Value → kMem → Prop} : kJ 194 61 [l0, l1, l2, l3] (.int a :: st) m Q = (if a = 0 then kJ 194 64 [l0, l1, l2, l3] st m Q else kJ 194 69 [l0, l1, l2, l3] st m Q) := kJ_if d194_61 rfl (fun h => kJ_next d194_61 h) (fun h => kJ_next d194_61 h)
theorem d194_64 : decode (mB 194) 64 = .ok (.iload_n 3, 1) := by decide +kernel
theorem s194_64 {l0 l1 l2 : Option Value} {st : List Value} {x : Int32} {m : kMem} {Q : Option Value → kMem → Prop} : kJ 194 64 [l0, l1, l2, some (.int x)] st m Q = kJ 194 65 [l0, l1, l2, some (.int x)] (.int x :: st) m Q := kJ_next d194_64 rfl
theorem d194_65 : decode (mB 194) 65 = .ok (.i2b, 1) := by decide +kernel
theorem s194_65 {l0 l1 l2 l3 : Option Value} {st : List Value} {a : Int32} {m : kMem} {Q : Option Value → kMem → Prop} : kJ 194 65 [l0, l1, l2, l3] (.int a :: st) m Q = kJ 194 66 [l0, l1, l2, l3] (.int a.toInt8.toInt32 :: st) m Q := kJ_next d194_65 rfl
theorem d194_66 : decode (mB 194) 66 = .ok (.goto 19, 3) := by decide +kernel
theorem s194_66 {l0 l1 l2 l3 : Option Value} {st : List Value} {m : kMem} {Q : Option Value → kMem → Prop} : kJ 194 66 [l0, l1, l2, l3] st m Q = kJ 194 85 [l0, l1, l2, l3] st m Q := kJ_next d194_66 rfl
theorem d194_69 : decode (mB 194) 69 = .ok (.aload_n 0, 1) := by decide +kernel
theorem s194_69 {l1 l2 l3 : Option Value} {st : List Value} {x : Nat} {m : kMem} {Q : Option Value → kMem → Prop} : kJ 194 69 [some (.ref x), l1, l2, l3] st m Q = kJ 194 70 [some (.ref x), l1, l2, l3] (.ref x :: st) m Q := kJ_next d194_69 rfl
theorem d194_70 : decode (mB 194) 70 = .ok (.getfield 32, 3) := by decide +kernel
theorem s194_70 {l0 l1 l2 l3 : Option Value} {st : List Value} {q : Nat} {mi : Nat → Nat → Int32} {ml : Nat → Nat → Int64} {mr : Nat → Nat → Option Nat} {nx : Nat} {Q : Option Value → kMem → Prop} (h : kIs nx q 5 = true) : kJ 194 70 [l0, l1, l2, l3] (.ref q :: st) (mi, ml, mr, nx) Q = kJ 194 73 [l0, l1, l2, l3] (va_rf (mr q 23) :: st) (mi, ml, mr, nx) Q := kJ_next d194_70 (kg_getr 5 23 rfl h (by decide))
theorem d194_73 : decode (mB 194) 73 = .ok (.iload_n 1, 1) := by decide +kernel
theorem s194_73 {l0 l2 l3 : Option Value} {st : List Value} {x : Int32} {m : kMem} {Q : Option Value → kMem → Prop} : kJ 194 73 [l0, some (.int x), l2, l3] st m Q = kJ 194 74 [l0, some (.int x), l2, l3] (.int x :: st) m Q := kJ_next d194_73 rfl
theorem d194_74 : decode (mB 194) 74 = .ok (.iaload, 1) := by decide +kernel
theorem s194_74 {l0 l1 l2 l3 : Option Value} {st : List Value} {q : Nat} {i : Int32} {mi : Nat → Nat → Int32} {ml : Nat → Nat → Int64} {mr : Nat → Nat → Option Nat} {nx : Nat} {Q : Option Value → kMem → Prop} (h : kIs nx q 10 = true) : kJ 194 74 [l0, l1, l2, l3] (.int i :: .ref q :: st) (mi, ml, mr, nx) Q = (vp_in i (kAl q) ∧ kJ 194 75 [l0, l1, l2, l3] (.int (mi q i.toNatClampNeg) :: st) (mi, ml, mr, nx) Q) := kg_aldJ d194_74 rfl (kAr_of h)
theorem d194_75 : decode (mB 194) 75 = .ok (.iconst 1, 1) := by decide +kernel
theorem s194_75 {l0 l1 l2 l3 : Option Value} {st : List Value} {m : kMem} {Q : Option Value → kMem → Prop} : kJ 194 75 [l0, l1, l2, l3] st m Q = kJ 194 76 [l0, l1, l2, l3] (.int (nI 1) :: st) m Q := kJ_next d194_75 rfl
theorem d194_76 : decode (mB 194) 76 = .ok (.if_icmp .ne 8, 3) := by decide +kernel
theorem s194_76 {l0 l1 l2 l3 : Option Value} {st : List Value} {a b : Int32} {m : kMem} {Q : Option Value → kMem → Prop} : kJ 194 76 [l0, l1, l2, l3] (.int b :: .int a :: st) m Q = (if a = b then kJ 194 79 [l0, l1, l2, l3] st m Q else kJ 194 84 [l0, l1, l2, l3] st m Q) := kJ_if d194_76 rfl (fun h => kJ_next d194_76 h) (fun h => kJ_next d194_76 h)
theorem d194_79 : decode (mB 194) 79 = .ok (.iload_n 3, 1) := by decide +kernel
theorem s194_79 {l0 l1 l2 : Option Value} {st : List Value} {x : Int32} {m : kMem} {Q : Option Value → kMem → Prop} : kJ 194 79 [l0, l1, l2, some (.int x)] st m Q = kJ 194 80 [l0, l1, l2, some (.int x)] (.int x :: st) m Q := kJ_next d194_79 rfl
theorem d194_80 : decode (mB 194) 80 = .ok (.i2s, 1) := by decide +kernel
theorem s194_80 {l0 l1 l2 l3 : Option Value} {st : List Value} {a : Int32} {m : kMem} {Q : Option Value → kMem → Prop} : kJ 194 80 [l0, l1, l2, l3] (.int a :: st) m Q = kJ 194 81 [l0, l1, l2, l3] (.int a.toInt16.toInt32 :: st) m Q := kJ_next d194_80 rfl
theorem d194_81 : decode (mB 194) 81 = .ok (.goto 4, 3) := by decide +kernel
theorem s194_81 {l0 l1 l2 l3 : Option Value} {st : List Value} {m : kMem} {Q : Option Value → kMem → Prop} : kJ 194 81 [l0, l1, l2, l3] st m Q = kJ 194 85 [l0, l1, l2, l3] st m Q := kJ_next d194_81 rfl
theorem d194_84 : decode (mB 194) 84 = .ok (.iload_n 3, 1) := by decide +kernel
theorem s194_84 {l0 l1 l2 : Option Value} {st : List Value} {x : Int32} {m : kMem} {Q : Option Value → kMem → Prop} : kJ 194 84 [l0, l1, l2, some (.int x)] st m Q = kJ 194 85 [l0, l1, l2, some (.int x)] (.int x :: st) m Q := kJ_next d194_84 rfl
theorem d194_85 : decode (mB 194) 85 = .ok (.iastore, 1) := by decide +kernel
theorem s194_85 {l0 l1 l2 l3 : Option Value} {st : List Value} {q : Nat} {i x : Int32} {mi : Nat → Nat → Int32} {ml : Nat → Nat → Int64} {mr : Nat → Nat → Option Nat} {nx : Nat} {Q : Option Value → kMem → Prop} (h : kIs nx q 10 = true) : kJ 194 85 [l0, l1, l2, l3] (.int x :: .int i :: .ref q :: st) (mi, ml, mr, nx) Q = (vp_in i (kAl q) ∧ kJ 194 86 [l0, l1, l2, l3] st (kup mi q i.toNatClampNeg x, ml, mr, nx) Q) := kg_astJ d194_85 rfl (kAr_of h)
theorem d194_86 : decode (mB 194) 86 = .ok (.iconst 1, 1) := by decide +kernel
theorem s194_86 {l0 l1 l2 l3 : Option Value} {st : List Value} {m : kMem} {Q : Option Value → kMem → Prop} : kJ 194 86 [l0, l1, l2, l3] st m Q = kJ 194 87 [l0, l1, l2, l3] (.int (nI 1) :: st) m Q := kJ_next d194_86 rfl
theorem d194_87 : decode (mB 194) 87 = .ok (.ireturn, 1) := by decide +kernel
theorem s194_87 {l0 l1 l2 l3 : Option Value} {x : Int32} {m : kMem} {Q : Option Value → kMem → Prop} : kJ 194 87 [l0, l1, l2, l3] [.int x] m Q = Q (some (.int x)) m := kJ_ret d194_87 rfl
theorem d195_0 : decode (mB 195) 0 = .ok (.iload_n 1, 1) := by decide +kernel
theorem s195_0 {l0 l2 l3 l4 l5 l6 l7 l8 l9 l10 : Option Value} {st : List Value} {x : Int32} {m : kMem} {Q : Option Value → kMem → Prop} : kJ 195 0 [l0, some (.int x), l2, l3, l4, l5, l6, l7, l8, l9, l10] st m Q = kJ 195 1 [l0, some (.int x), l2, l3, l4, l5, l6, l7, l8, l9, l10] (.int x :: st) m Q := kJ_next d195_0 rfl
theorem d195_1 : decode (mB 195) 1 = .ok (.iload_n 2, 1) := by decide +kernel
theorem s195_1 {l0 l1 l3 l4 l5 l6 l7 l8 l9 l10 : Option Value} {st : List Value} {x : Int32} {m : kMem} {Q : Option Value → kMem → Prop} : kJ 195 1 [l0, l1, some (.int x), l3, l4, l5, l6, l7, l8, l9, l10] st m Q = kJ 195 2 [l0, l1, some (.int x), l3, l4, l5, l6, l7, l8, l9, l10] (.int x :: st) m Q := kJ_next d195_1 rfl
theorem d195_2 : decode (mB 195) 2 = .ok (.invokestatic 303, 3) := by decide +kernel
theorem s195_2 {l0 l1 l2 l3 l4 l5 l6 l7 l8 l9 l10 : Option Value} {v0 : Int32} {v1 : Int32} {m : kMem} {Q : Option Value → kMem → Prop} : kJ 195 2 [l0, l1, l2, l3, l4, l5, l6, l7, l8, l9, l10] [.int v0, .int v1] m Q = kJ 192 0 [some (.int v1), some (.int v0)] [] m (fun v m2 => kJ 195 5 [l0, l1, l2, l3, l4, l5, l6, l7, l8, l9, l10] (v.toList ++ []) m2 Q) := kJ_call d195_2 (kg_calls 192 2 rfl rfl (Nat.le_of_ble_eq_true rfl) (Nat.le_of_ble_eq_true rfl) (Nat.le_of_ble_eq_true rfl) (Nat.le_of_ble_eq_true rfl))
theorem d195_5 : decode (mB 195) 5 = .ok (.ifCond .eq 16, 3) := by decide +kernel
theorem s195_5 {l0 l1 l2 l3 l4 l5 l6 l7 l8 l9 l10 : Option Value} {st : List Value} {a : Int32} {m : kMem} {Q : Option Value → kMem → Prop} : kJ 195 5 [l0, l1, l2, l3, l4, l5, l6, l7, l8, l9, l10] (.int a :: st) m Q = (if a = 0 then kJ 195 21 [l0, l1, l2, l3, l4, l5, l6, l7, l8, l9, l10] st m Q else kJ 195 8 [l0, l1, l2, l3, l4, l5, l6, l7, l8, l9, l10] st m Q) := kJ_if d195_5 rfl (fun h => kJ_next d195_5 h) (fun h => kJ_next d195_5 h)
theorem d195_8 : decode (mB 195) 8 = .ok (.iload 4, 2) := by decide +kernel
theorem s195_8 {l0 l1 l2 l3 l5 l6 l7 l8 l9 l10 : Option Value} {st : List Value} {x : Int32} {m : kMem} {Q : Option Value → kMem → Prop} : kJ 195 8 [l0, l1, l2, l3, some (.int x), l5, l6, l7, l8, l9, l10] st m Q = kJ 195 10 [l0, l1, l2, l3, some (.int x), l5, l6, l7, l8, l9, l10] (.int x :: st) m Q := kJ_next d195_8 rfl
theorem d195_10 : decode (mB 195) 10 = .ok (.i2l, 1) := by decide +kernel
theorem s195_10 {l0 l1 l2 l3 l4 l5 l6 l7 l8 l9 l10 : Option Value} {st : List Value} {a : Int32} {m : kMem} {Q : Option Value → kMem → Prop} : kJ 195 10 [l0, l1, l2, l3, l4, l5, l6, l7, l8, l9, l10] (.int a :: st) m Q = kJ 195 11 [l0, l1, l2, l3, l4, l5, l6, l7, l8, l9, l10] (.long a.toInt64 :: st) m Q := kJ_next d195_10 rfl
theorem d195_11 : decode (mB 195) 11 = .ok (.lconst 0, 1) := by decide +kernel
theorem s195_11 {l0 l1 l2 l3 l4 l5 l6 l7 l8 l9 l10 : Option Value} {st : List Value} {m : kMem} {Q : Option Value → kMem → Prop} : kJ 195 11 [l0, l1, l2, l3, l4, l5, l6, l7, l8, l9, l10] st m Q = kJ 195 12 [l0, l1, l2, l3, l4, l5, l6, l7, l8, l9, l10] (.long 0 :: st) m Q := kJ_next d195_11 rfl
theorem d195_12 : decode (mB 195) 12 = .ok (.ldc2_w 275, 3) := by decide +kernel
theorem s195_12 {l0 l1 l2 l3 l4 l5 l6 l7 l8 l9 l10 : Option Value} {st : List Value} {m : kMem} {Q : Option Value → kMem → Prop} : kJ 195 12 [l0, l1, l2, l3, l4, l5, l6, l7, l8, l9, l10] st m Q = kJ 195 15 [l0, l1, l2, l3, l4, l5, l6, l7, l8, l9, l10] (.long (10) :: st) m Q := kJ_next d195_12 rfl
theorem d195_15 : decode (mB 195) 15 = .ok (.invokestatic 60, 3) := by decide +kernel
theorem s195_15 {l0 l1 l2 l3 l4 l5 l6 l7 l8 l9 l10 : Option Value} {v0 : Int64} {v1 : Int64} {v2 : Int64} {m : kMem} {Q : Option Value → kMem → Prop} : kJ 195 15 [l0, l1, l2, l3, l4, l5, l6, l7, l8, l9, l10] [.long v0, .long v1, .long v2] m Q = kJ 107 0 [some (.long v2), none, some (.long v1), none, some (.long v0), none] [] m (fun v m2 => kJ 195 18 [l0, l1, l2, l3, l4, l5, l6, l7, l8, l9, l10] (v.toList ++ []) m2 Q) := kJ_call d195_15 (kg_calls 107 3 rfl rfl (Nat.le_of_ble_eq_true rfl) (Nat.le_of_ble_eq_true rfl) (Nat.le_of_ble_eq_true rfl) (Nat.le_of_ble_eq_true rfl))
theorem d195_18 : decode (mB 195) 18 = .ok (.ifCond .ne 5, 3) := by decide +kernel
theorem s195_18 {l0 l1 l2 l3 l4 l5 l6 l7 l8 l9 l10 : Option Value} {st : List Value} {a : Int32} {m : kMem} {Q : Option Value → kMem → Prop} : kJ 195 18 [l0, l1, l2, l3, l4, l5, l6, l7, l8, l9, l10] (.int a :: st) m Q = (if a = 0 then kJ 195 21 [l0, l1, l2, l3, l4, l5, l6, l7, l8, l9, l10] st m Q else kJ 195 23 [l0, l1, l2, l3, l4, l5, l6, l7, l8, l9, l10] st m Q) := kJ_if d195_18 rfl (fun h => kJ_next d195_18 h) (fun h => kJ_next d195_18 h)
theorem d195_21 : decode (mB 195) 21 = .ok (.iconst (-1), 1) := by decide +kernel
theorem s195_21 {l0 l1 l2 l3 l4 l5 l6 l7 l8 l9 l10 : Option Value} {st : List Value} {m : kMem} {Q : Option Value → kMem → Prop} : kJ 195 21 [l0, l1, l2, l3, l4, l5, l6, l7, l8, l9, l10] st m Q = kJ 195 22 [l0, l1, l2, l3, l4, l5, l6, l7, l8, l9, l10] (.int (-1) :: st) m Q := kJ_next d195_21 rfl
theorem d195_22 : decode (mB 195) 22 = .ok (.ireturn, 1) := by decide +kernel
theorem s195_22 {l0 l1 l2 l3 l4 l5 l6 l7 l8 l9 l10 : Option Value} {x : Int32} {m : kMem} {Q : Option Value → kMem → Prop} : kJ 195 22 [l0, l1, l2, l3, l4, l5, l6, l7, l8, l9, l10] [.int x] m Q = Q (some (.int x)) m := kJ_ret d195_22 rfl
theorem d195_23 : decode (mB 195) 23 = .ok (.iconst 0, 1) := by decide +kernel
theorem s195_23 {l0 l1 l2 l3 l4 l5 l6 l7 l8 l9 l10 : Option Value} {st : List Value} {m : kMem} {Q : Option Value → kMem → Prop} : kJ 195 23 [l0, l1, l2, l3, l4, l5, l6, l7, l8, l9, l10] st m Q = kJ 195 24 [l0, l1, l2, l3, l4, l5, l6, l7, l8, l9, l10] (.int (nI 0) :: st) m Q := kJ_next d195_23 rfl
theorem d195_24 : decode (mB 195) 24 = .ok (.istore 5, 2) := by decide +kernel
theorem s195_24 {l0 l1 l2 l3 l4 l5 l6 l7 l8 l9 l10 : Option Value} {st : List Value} {x : Int32} {m : kMem} {Q : Option Value → kMem → Prop} (hp : kNL l4 = true) : kJ 195 24 [l0, l1, l2, l3, l4, l5, l6, l7, l8, l9, l10] (.int x :: st) m Q = kJ 195 26 [l0, l1, l2, l3, l4, some (.int x), l6, l7, l8, l9, l10] st m Q := kJ_next d195_24 (kg_sti (Nat.le_of_ble_eq_true rfl) hp)
theorem d195_26 : decode (mB 195) 26 = .ok (.iload 5, 2) := by decide +kernel
theorem s195_26 {l0 l1 l2 l3 l4 l6 l7 l8 l9 l10 : Option Value} {st : List Value} {x : Int32} {m : kMem} {Q : Option Value → kMem → Prop} : kJ 195 26 [l0, l1, l2, l3, l4, some (.int x), l6, l7, l8, l9, l10] st m Q = kJ 195 28 [l0, l1, l2, l3, l4, some (.int x), l6, l7, l8, l9, l10] (.int x :: st) m Q := kJ_next d195_26 rfl
theorem d195_28 : decode (mB 195) 28 = .ok (.bipush 74, 2) := by decide +kernel
theorem s195_28 {l0 l1 l2 l3 l4 l5 l6 l7 l8 l9 l10 : Option Value} {st : List Value} {m : kMem} {Q : Option Value → kMem → Prop} : kJ 195 28 [l0, l1, l2, l3, l4, l5, l6, l7, l8, l9, l10] st m Q = kJ 195 30 [l0, l1, l2, l3, l4, l5, l6, l7, l8, l9, l10] (.int (nI 74) :: st) m Q := kJ_next d195_28 rfl
theorem d195_30 : decode (mB 195) 30 = .ok (.if_icmp .ge 23, 3) := by decide +kernel
theorem s195_30 {l0 l1 l2 l3 l4 l5 l6 l7 l8 l9 l10 : Option Value} {st : List Value} {a b : Int32} {m : kMem} {Q : Option Value → kMem → Prop} : kJ 195 30 [l0, l1, l2, l3, l4, l5, l6, l7, l8, l9, l10] (.int b :: .int a :: st) m Q = (if b ≤ a then kJ 195 53 [l0, l1, l2, l3, l4, l5, l6, l7, l8, l9, l10] st m Q else kJ 195 33 [l0, l1, l2, l3, l4, l5, l6, l7, l8, l9, l10] st m Q) := kJ_if d195_30 rfl (fun h => kJ_next d195_30 h) (fun h => kJ_next d195_30 h)
theorem d195_33 : decode (mB 195) 33 = .ok (.aload_n 0, 1) := by decide +kernel
theorem s195_33 {l1 l2 l3 l4 l5 l6 l7 l8 l9 l10 : Option Value} {st : List Value} {x : Nat} {m : kMem} {Q : Option Value → kMem → Prop} : kJ 195 33 [some (.ref x), l1, l2, l3, l4, l5, l6, l7, l8, l9, l10] st m Q = kJ 195 34 [some (.ref x), l1, l2, l3, l4, l5, l6, l7, l8, l9, l10] (.ref x :: st) m Q := kJ_next d195_33 rfl
theorem d195_34 : decode (mB 195) 34 = .ok (.getfield 41, 3) := by decide +kernel
theorem s195_34 {l0 l1 l2 l3 l4 l5 l6 l7 l8 l9 l10 : Option Value} {st : List Value} {q : Nat} {mi : Nat → Nat → Int32} {ml : Nat → Nat → Int64} {mr : Nat → Nat → Option Nat} {nx : Nat} {Q : Option Value → kMem → Prop} (h : kIs nx q 5 = true) : kJ 195 34 [l0, l1, l2, l3, l4, l5, l6, l7, l8, l9, l10] (.ref q :: st) (mi, ml, mr, nx) Q = kJ 195 37 [l0, l1, l2, l3, l4, l5, l6, l7, l8, l9, l10] (va_rf (mr q 27) :: st) (mi, ml, mr, nx) Q := kJ_next d195_34 (kg_getr 5 27 rfl h (by decide))
theorem d195_37 : decode (mB 195) 37 = .ok (.iload 5, 2) := by decide +kernel
theorem s195_37 {l0 l1 l2 l3 l4 l6 l7 l8 l9 l10 : Option Value} {st : List Value} {x : Int32} {m : kMem} {Q : Option Value → kMem → Prop} : kJ 195 37 [l0, l1, l2, l3, l4, some (.int x), l6, l7, l8, l9, l10] st m Q = kJ 195 39 [l0, l1, l2, l3, l4, some (.int x), l6, l7, l8, l9, l10] (.int x :: st) m Q := kJ_next d195_37 rfl
theorem d195_39 : decode (mB 195) 39 = .ok (.aload_n 0, 1) := by decide +kernel
theorem s195_39 {l1 l2 l3 l4 l5 l6 l7 l8 l9 l10 : Option Value} {st : List Value} {x : Nat} {m : kMem} {Q : Option Value → kMem → Prop} : kJ 195 39 [some (.ref x), l1, l2, l3, l4, l5, l6, l7, l8, l9, l10] st m Q = kJ 195 40 [some (.ref x), l1, l2, l3, l4, l5, l6, l7, l8, l9, l10] (.ref x :: st) m Q := kJ_next d195_39 rfl
theorem d195_40 : decode (mB 195) 40 = .ok (.getfield 7, 3) := by decide +kernel
theorem s195_40 {l0 l1 l2 l3 l4 l5 l6 l7 l8 l9 l10 : Option Value} {st : List Value} {q : Nat} {mi : Nat → Nat → Int32} {ml : Nat → Nat → Int64} {mr : Nat → Nat → Option Nat} {nx : Nat} {Q : Option Value → kMem → Prop} (h : kIs nx q 5 = true) : kJ 195 40 [l0, l1, l2, l3, l4, l5, l6, l7, l8, l9, l10] (.ref q :: st) (mi, ml, mr, nx) Q = kJ 195 43 [l0, l1, l2, l3, l4, l5, l6, l7, l8, l9, l10] (va_rf (mr q 0) :: st) (mi, ml, mr, nx) Q := kJ_next d195_40 (kg_getr 5 0 rfl h (by decide))
theorem d195_43 : decode (mB 195) 43 = .ok (.iload 5, 2) := by decide +kernel
theorem s195_43 {l0 l1 l2 l3 l4 l6 l7 l8 l9 l10 : Option Value} {st : List Value} {x : Int32} {m : kMem} {Q : Option Value → kMem → Prop} : kJ 195 43 [l0, l1, l2, l3, l4, some (.int x), l6, l7, l8, l9, l10] st m Q = kJ 195 45 [l0, l1, l2, l3, l4, some (.int x), l6, l7, l8, l9, l10] (.int x :: st) m Q := kJ_next d195_43 rfl
theorem d195_45 : decode (mB 195) 45 = .ok (.iaload, 1) := by decide +kernel
theorem s195_45 {l0 l1 l2 l3 l4 l5 l6 l7 l8 l9 l10 : Option Value} {st : List Value} {q : Nat} {i : Int32} {mi : Nat → Nat → Int32} {ml : Nat → Nat → Int64} {mr : Nat → Nat → Option Nat} {nx : Nat} {Q : Option Value → kMem → Prop} (h : kIs nx q 10 = true) : kJ 195 45 [l0, l1, l2, l3, l4, l5, l6, l7, l8, l9, l10] (.int i :: .ref q :: st) (mi, ml, mr, nx) Q = (vp_in i (kAl q) ∧ kJ 195 46 [l0, l1, l2, l3, l4, l5, l6, l7, l8, l9, l10] (.int (mi q i.toNatClampNeg) :: st) (mi, ml, mr, nx) Q) := kg_aldJ d195_45 rfl (kAr_of h)
theorem d195_46 : decode (mB 195) 46 = .ok (.iastore, 1) := by decide +kernel
theorem s195_46 {l0 l1 l2 l3 l4 l5 l6 l7 l8 l9 l10 : Option Value} {st : List Value} {q : Nat} {i x : Int32} {mi : Nat → Nat → Int32} {ml : Nat → Nat → Int64} {mr : Nat → Nat → Option Nat} {nx : Nat} {Q : Option Value → kMem → Prop} (h : kIs nx q 10 = true) : kJ 195 46 [l0, l1, l2, l3, l4, l5, l6, l7, l8, l9, l10] (.int x :: .int i :: .ref q :: st) (mi, ml, mr, nx) Q = (vp_in i (kAl q) ∧ kJ 195 47 [l0, l1, l2, l3, l4, l5, l6, l7, l8, l9, l10] st (kup mi q i.toNatClampNeg x, ml, mr, nx) Q) := kg_astJ d195_46 rfl (kAr_of h)
theorem d195_47 : decode (mB 195) 47 = .ok (.iinc 5 1, 3) := by decide +kernel
theorem s195_47 {l0 l1 l2 l3 l4 l6 l7 l8 l9 l10 : Option Value} {st : List Value} {x : Int32} {m : kMem} {Q : Option Value → kMem → Prop} (hp : kNL l4 = true) : kJ 195 47 [l0, l1, l2, l3, l4, some (.int x), l6, l7, l8, l9, l10] st m Q = kJ 195 50 [l0, l1, l2, l3, l4, some (.int (x + (nI 1))), l6, l7, l8, l9, l10] st m Q := kJ_next d195_47 (kg_inc rfl (Nat.le_of_ble_eq_true rfl) hp)
theorem d195_50 : decode (mB 195) 50 = .ok (.goto (-24), 3) := by decide +kernel
theorem s195_50 {l0 l1 l2 l3 l4 l5 l6 l7 l8 l9 l10 : Option Value} {st : List Value} {m : kMem} {Q : Option Value → kMem → Prop} : kJ 195 50 [l0, l1, l2, l3, l4, l5, l6, l7, l8, l9, l10] st m Q = kJ 195 26 [l0, l1, l2, l3, l4, l5, l6, l7, l8, l9, l10] st m Q := kJ_next d195_50 rfl
theorem d195_53 : decode (mB 195) 53 = .ok (.iconst 0, 1) := by decide +kernel
theorem s195_53 {l0 l1 l2 l3 l4 l5 l6 l7 l8 l9 l10 : Option Value} {st : List Value} {m : kMem} {Q : Option Value → kMem → Prop} : kJ 195 53 [l0, l1, l2, l3, l4, l5, l6, l7, l8, l9, l10] st m Q = kJ 195 54 [l0, l1, l2, l3, l4, l5, l6, l7, l8, l9, l10] (.int (nI 0) :: st) m Q := kJ_next d195_53 rfl
theorem d195_54 : decode (mB 195) 54 = .ok (.istore 5, 2) := by decide +kernel
theorem s195_54 {l0 l1 l2 l3 l4 l5 l6 l7 l8 l9 l10 : Option Value} {st : List Value} {x : Int32} {m : kMem} {Q : Option Value → kMem → Prop} (hp : kNL l4 = true) : kJ 195 54 [l0, l1, l2, l3, l4, l5, l6, l7, l8, l9, l10] (.int x :: st) m Q = kJ 195 56 [l0, l1, l2, l3, l4, some (.int x), l6, l7, l8, l9, l10] st m Q := kJ_next d195_54 (kg_sti (Nat.le_of_ble_eq_true rfl) hp)
theorem d195_56 : decode (mB 195) 56 = .ok (.iconst 0, 1) := by decide +kernel
theorem s195_56 {l0 l1 l2 l3 l4 l5 l6 l7 l8 l9 l10 : Option Value} {st : List Value} {m : kMem} {Q : Option Value → kMem → Prop} : kJ 195 56 [l0, l1, l2, l3, l4, l5, l6, l7, l8, l9, l10] st m Q = kJ 195 57 [l0, l1, l2, l3, l4, l5, l6, l7, l8, l9, l10] (.int (nI 0) :: st) m Q := kJ_next d195_56 rfl
theorem d195_57 : decode (mB 195) 57 = .ok (.istore 6, 2) := by decide +kernel
theorem s195_57 {l0 l1 l2 l3 l4 l5 l6 l7 l8 l9 l10 : Option Value} {st : List Value} {x : Int32} {m : kMem} {Q : Option Value → kMem → Prop} (hp : kNL l5 = true) : kJ 195 57 [l0, l1, l2, l3, l4, l5, l6, l7, l8, l9, l10] (.int x :: st) m Q = kJ 195 59 [l0, l1, l2, l3, l4, l5, some (.int x), l7, l8, l9, l10] st m Q := kJ_next d195_57 (kg_sti (Nat.le_of_ble_eq_true rfl) hp)
theorem d195_59 : decode (mB 195) 59 = .ok (.iconst 0, 1) := by decide +kernel
theorem s195_59 {l0 l1 l2 l3 l4 l5 l6 l7 l8 l9 l10 : Option Value} {st : List Value} {m : kMem} {Q : Option Value → kMem → Prop} : kJ 195 59 [l0, l1, l2, l3, l4, l5, l6, l7, l8, l9, l10] st m Q = kJ 195 60 [l0, l1, l2, l3, l4, l5, l6, l7, l8, l9, l10] (.int (nI 0) :: st) m Q := kJ_next d195_59 rfl
theorem d195_60 : decode (mB 195) 60 = .ok (.istore 7, 2) := by decide +kernel
theorem s195_60 {l0 l1 l2 l3 l4 l5 l6 l7 l8 l9 l10 : Option Value} {st : List Value} {x : Int32} {m : kMem} {Q : Option Value → kMem → Prop} (hp : kNL l6 = true) : kJ 195 60 [l0, l1, l2, l3, l4, l5, l6, l7, l8, l9, l10] (.int x :: st) m Q = kJ 195 62 [l0, l1, l2, l3, l4, l5, l6, some (.int x), l8, l9, l10] st m Q := kJ_next d195_60 (kg_sti (Nat.le_of_ble_eq_true rfl) hp)
theorem d195_62 : decode (mB 195) 62 = .ok (.iload 7, 2) := by decide +kernel
theorem s195_62 {l0 l1 l2 l3 l4 l5 l6 l8 l9 l10 : Option Value} {st : List Value} {x : Int32} {m : kMem} {Q : Option Value → kMem → Prop} : kJ 195 62 [l0, l1, l2, l3, l4, l5, l6, some (.int x), l8, l9, l10] st m Q = kJ 195 64 [l0, l1, l2, l3, l4, l5, l6, some (.int x), l8, l9, l10] (.int x :: st) m Q := kJ_next d195_62 rfl
theorem d195_64 : decode (mB 195) 64 = .ok (.iload 4, 2) := by decide +kernel
theorem s195_64 {l0 l1 l2 l3 l5 l6 l7 l8 l9 l10 : Option Value} {st : List Value} {x : Int32} {m : kMem} {Q : Option Value → kMem → Prop} : kJ 195 64 [l0, l1, l2, l3, some (.int x), l5, l6, l7, l8, l9, l10] st m Q = kJ 195 66 [l0, l1, l2, l3, some (.int x), l5, l6, l7, l8, l9, l10] (.int x :: st) m Q := kJ_next d195_64 rfl
theorem d195_66 : decode (mB 195) 66 = .ok (.if_icmp .ge 202, 3) := by decide +kernel
theorem s195_66 {l0 l1 l2 l3 l4 l5 l6 l7 l8 l9 l10 : Option Value} {st : List Value} {a b : Int32} {m : kMem} {Q : Option Value → kMem → Prop} : kJ 195 66 [l0, l1, l2, l3, l4, l5, l6, l7, l8, l9, l10] (.int b :: .int a :: st) m Q = (if b ≤ a then kJ 195 268 [l0, l1, l2, l3, l4, l5, l6, l7, l8, l9, l10] st m Q else kJ 195 69 [l0, l1, l2, l3, l4, l5, l6, l7, l8, l9, l10] st m Q) := kJ_if d195_66 rfl (fun h => kJ_next d195_66 h) (fun h => kJ_next d195_66 h)
theorem d195_69 : decode (mB 195) 69 = .ok (.iload 5, 2) := by decide +kernel
theorem s195_69 {l0 l1 l2 l3 l4 l6 l7 l8 l9 l10 : Option Value} {st : List Value} {x : Int32} {m : kMem} {Q : Option Value → kMem → Prop} : kJ 195 69 [l0, l1, l2, l3, l4, some (.int x), l6, l7, l8, l9, l10] st m Q = kJ 195 71 [l0, l1, l2, l3, l4, some (.int x), l6, l7, l8, l9, l10] (.int x :: st) m Q := kJ_next d195_69 rfl
theorem d195_71 : decode (mB 195) 71 = .ok (.ifCond .ne 197, 3) := by decide +kernel
theorem s195_71 {l0 l1 l2 l3 l4 l5 l6 l7 l8 l9 l10 : Option Value} {st : List Value} {a : Int32} {m : kMem} {Q : Option Value → kMem → Prop} : kJ 195 71 [l0, l1, l2, l3, l4, l5, l6, l7, l8, l9, l10] (.int a :: st) m Q = (if a = 0 then kJ 195 74 [l0, l1, l2, l3, l4, l5, l6, l7, l8, l9, l10] st m Q else kJ 195 268 [l0, l1, l2, l3, l4, l5, l6, l7, l8, l9, l10] st m Q) := kJ_if d195_71 rfl (fun h => kJ_next d195_71 h) (fun h => kJ_next d195_71 h)
theorem d195_74 : decode (mB 195) 74 = .ok (.iconst 0, 1) := by decide +kernel
theorem s195_74 {l0 l1 l2 l3 l4 l5 l6 l7 l8 l9 l10 : Option Value} {st : List Value} {m : kMem} {Q : Option Value → kMem → Prop} : kJ 195 74 [l0, l1, l2, l3, l4, l5, l6, l7, l8, l9, l10] st m Q = kJ 195 75 [l0, l1, l2, l3, l4, l5, l6, l7, l8, l9, l10] (.int (nI 0) :: st) m Q := kJ_next d195_74 rfl
theorem d195_75 : decode (mB 195) 75 = .ok (.istore 8, 2) := by decide +kernel
theorem s195_75 {l0 l1 l2 l3 l4 l5 l6 l7 l8 l9 l10 : Option Value} {st : List Value} {x : Int32} {m : kMem} {Q : Option Value → kMem → Prop} (hp : kNL l7 = true) : kJ 195 75 [l0, l1, l2, l3, l4, l5, l6, l7, l8, l9, l10] (.int x :: st) m Q = kJ 195 77 [l0, l1, l2, l3, l4, l5, l6, l7, some (.int x), l9, l10] st m Q := kJ_next d195_75 (kg_sti (Nat.le_of_ble_eq_true rfl) hp)
theorem d195_77 : decode (mB 195) 77 = .ok (.iload 8, 2) := by decide +kernel
theorem s195_77 {l0 l1 l2 l3 l4 l5 l6 l7 l9 l10 : Option Value} {st : List Value} {x : Int32} {m : kMem} {Q : Option Value → kMem → Prop} : kJ 195 77 [l0, l1, l2, l3, l4, l5, l6, l7, some (.int x), l9, l10] st m Q = kJ 195 79 [l0, l1, l2, l3, l4, l5, l6, l7, some (.int x), l9, l10] (.int x :: st) m Q := kJ_next d195_77 rfl
theorem d195_79 : decode (mB 195) 79 = .ok (.iconst 4, 1) := by decide +kernel
theorem s195_79 {l0 l1 l2 l3 l4 l5 l6 l7 l8 l9 l10 : Option Value} {st : List Value} {m : kMem} {Q : Option Value → kMem → Prop} : kJ 195 79 [l0, l1, l2, l3, l4, l5, l6, l7, l8, l9, l10] st m Q = kJ 195 80 [l0, l1, l2, l3, l4, l5, l6, l7, l8, l9, l10] (.int (nI 4) :: st) m Q := kJ_next d195_79 rfl
theorem d195_80 : decode (mB 195) 80 = .ok (.if_icmp .ge 84, 3) := by decide +kernel
theorem s195_80 {l0 l1 l2 l3 l4 l5 l6 l7 l8 l9 l10 : Option Value} {st : List Value} {a b : Int32} {m : kMem} {Q : Option Value → kMem → Prop} : kJ 195 80 [l0, l1, l2, l3, l4, l5, l6, l7, l8, l9, l10] (.int b :: .int a :: st) m Q = (if b ≤ a then kJ 195 164 [l0, l1, l2, l3, l4, l5, l6, l7, l8, l9, l10] st m Q else kJ 195 83 [l0, l1, l2, l3, l4, l5, l6, l7, l8, l9, l10] st m Q) := kJ_if d195_80 rfl (fun h => kJ_next d195_80 h) (fun h => kJ_next d195_80 h)
theorem d195_83 : decode (mB 195) 83 = .ok (.iload 5, 2) := by decide +kernel
theorem s195_83 {l0 l1 l2 l3 l4 l6 l7 l8 l9 l10 : Option Value} {st : List Value} {x : Int32} {m : kMem} {Q : Option Value → kMem → Prop} : kJ 195 83 [l0, l1, l2, l3, l4, some (.int x), l6, l7, l8, l9, l10] st m Q = kJ 195 85 [l0, l1, l2, l3, l4, some (.int x), l6, l7, l8, l9, l10] (.int x :: st) m Q := kJ_next d195_83 rfl
theorem d195_85 : decode (mB 195) 85 = .ok (.ifCond .ne 79, 3) := by decide +kernel
theorem s195_85 {l0 l1 l2 l3 l4 l5 l6 l7 l8 l9 l10 : Option Value} {st : List Value} {a : Int32} {m : kMem} {Q : Option Value → kMem → Prop} : kJ 195 85 [l0, l1, l2, l3, l4, l5, l6, l7, l8, l9, l10] (.int a :: st) m Q = (if a = 0 then kJ 195 88 [l0, l1, l2, l3, l4, l5, l6, l7, l8, l9, l10] st m Q else kJ 195 164 [l0, l1, l2, l3, l4, l5, l6, l7, l8, l9, l10] st m Q) := kJ_if d195_85 rfl (fun h => kJ_next d195_85 h) (fun h => kJ_next d195_85 h)
theorem d195_88 : decode (mB 195) 88 = .ok (.iload_n 3, 1) := by decide +kernel
theorem s195_88 {l0 l1 l2 l4 l5 l6 l7 l8 l9 l10 : Option Value} {st : List Value} {x : Int32} {m : kMem} {Q : Option Value → kMem → Prop} : kJ 195 88 [l0, l1, l2, some (.int x), l4, l5, l6, l7, l8, l9, l10] st m Q = kJ 195 89 [l0, l1, l2, some (.int x), l4, l5, l6, l7, l8, l9, l10] (.int x :: st) m Q := kJ_next d195_88 rfl
theorem d195_89 : decode (mB 195) 89 = .ok (.i2l, 1) := by decide +kernel
theorem s195_89 {l0 l1 l2 l3 l4 l5 l6 l7 l8 l9 l10 : Option Value} {st : List Value} {a : Int32} {m : kMem} {Q : Option Value → kMem → Prop} : kJ 195 89 [l0, l1, l2, l3, l4, l5, l6, l7, l8, l9, l10] (.int a :: st) m Q = kJ 195 90 [l0, l1, l2, l3, l4, l5, l6, l7, l8, l9, l10] (.long a.toInt64 :: st) m Q := kJ_next d195_89 rfl
theorem d195_90 : decode (mB 195) 90 = .ok (.iconst 4, 1) := by decide +kernel
theorem s195_90 {l0 l1 l2 l3 l4 l5 l6 l7 l8 l9 l10 : Option Value} {st : List Value} {m : kMem} {Q : Option Value → kMem → Prop} : kJ 195 90 [l0, l1, l2, l3, l4, l5, l6, l7, l8, l9, l10] st m Q = kJ 195 91 [l0, l1, l2, l3, l4, l5, l6, l7, l8, l9, l10] (.int (nI 4) :: st) m Q := kJ_next d195_90 rfl
theorem d195_91 : decode (mB 195) 91 = .ok (.iload 7, 2) := by decide +kernel
theorem s195_91 {l0 l1 l2 l3 l4 l5 l6 l8 l9 l10 : Option Value} {st : List Value} {x : Int32} {m : kMem} {Q : Option Value → kMem → Prop} : kJ 195 91 [l0, l1, l2, l3, l4, l5, l6, some (.int x), l8, l9, l10] st m Q = kJ 195 93 [l0, l1, l2, l3, l4, l5, l6, some (.int x), l8, l9, l10] (.int x :: st) m Q := kJ_next d195_91 rfl
theorem d195_93 : decode (mB 195) 93 = .ok (.imul, 1) := by decide +kernel
theorem s195_93 {l0 l1 l2 l3 l4 l5 l6 l7 l8 l9 l10 : Option Value} {st : List Value} {a b : Int32} {m : kMem} {Q : Option Value → kMem → Prop} : kJ 195 93 [l0, l1, l2, l3, l4, l5, l6, l7, l8, l9, l10] (.int b :: .int a :: st) m Q = kJ 195 94 [l0, l1, l2, l3, l4, l5, l6, l7, l8, l9, l10] (.int (a * b) :: st) m Q := kJ_next d195_93 rfl
theorem d195_94 : decode (mB 195) 94 = .ok (.i2l, 1) := by decide +kernel
theorem s195_94 {l0 l1 l2 l3 l4 l5 l6 l7 l8 l9 l10 : Option Value} {st : List Value} {a : Int32} {m : kMem} {Q : Option Value → kMem → Prop} : kJ 195 94 [l0, l1, l2, l3, l4, l5, l6, l7, l8, l9, l10] (.int a :: st) m Q = kJ 195 95 [l0, l1, l2, l3, l4, l5, l6, l7, l8, l9, l10] (.long a.toInt64 :: st) m Q := kJ_next d195_94 rfl
theorem d195_95 : decode (mB 195) 95 = .ok (.ladd, 1) := by decide +kernel
theorem s195_95 {l0 l1 l2 l3 l4 l5 l6 l7 l8 l9 l10 : Option Value} {st : List Value} {a b : Int64} {m : kMem} {Q : Option Value → kMem → Prop} : kJ 195 95 [l0, l1, l2, l3, l4, l5, l6, l7, l8, l9, l10] (.long b :: .long a :: st) m Q = kJ 195 96 [l0, l1, l2, l3, l4, l5, l6, l7, l8, l9, l10] (.long (a + b) :: st) m Q := kJ_next d195_95 rfl
theorem d195_96 : decode (mB 195) 96 = .ok (.iload 8, 2) := by decide +kernel
theorem s195_96 {l0 l1 l2 l3 l4 l5 l6 l7 l9 l10 : Option Value} {st : List Value} {x : Int32} {m : kMem} {Q : Option Value → kMem → Prop} : kJ 195 96 [l0, l1, l2, l3, l4, l5, l6, l7, some (.int x), l9, l10] st m Q = kJ 195 98 [l0, l1, l2, l3, l4, l5, l6, l7, some (.int x), l9, l10] (.int x :: st) m Q := kJ_next d195_96 rfl
theorem d195_98 : decode (mB 195) 98 = .ok (.i2l, 1) := by decide +kernel
theorem s195_98 {l0 l1 l2 l3 l4 l5 l6 l7 l8 l9 l10 : Option Value} {st : List Value} {a : Int32} {m : kMem} {Q : Option Value → kMem → Prop} : kJ 195 98 [l0, l1, l2, l3, l4, l5, l6, l7, l8, l9, l10] (.int a :: st) m Q = kJ 195 99 [l0, l1, l2, l3, l4, l5, l6, l7, l8, l9, l10] (.long a.toInt64 :: st) m Q := kJ_next d195_98 rfl
theorem d195_99 : decode (mB 195) 99 = .ok (.ladd, 1) := by decide +kernel
theorem s195_99 {l0 l1 l2 l3 l4 l5 l6 l7 l8 l9 l10 : Option Value} {st : List Value} {a b : Int64} {m : kMem} {Q : Option Value → kMem → Prop} : kJ 195 99 [l0, l1, l2, l3, l4, l5, l6, l7, l8, l9, l10] (.long b :: .long a :: st) m Q = kJ 195 100 [l0, l1, l2, l3, l4, l5, l6, l7, l8, l9, l10] (.long (a + b) :: st) m Q := kJ_next d195_99 rfl
theorem d195_100 : decode (mB 195) 100 = .ok (.lstore 9, 2) := by decide +kernel
theorem s195_100 {l0 l1 l2 l3 l4 l5 l6 l7 l8 l9 l10 : Option Value} {st : List Value} {x : Int64} {m : kMem} {Q : Option Value → kMem → Prop} (hp : kNL l8 = true) : kJ 195 100 [l0, l1, l2, l3, l4, l5, l6, l7, l8, l9, l10] (.long x :: st) m Q = kJ 195 102 [l0, l1, l2, l3, l4, l5, l6, l7, l8, some (.long x), none] st m Q := kJ_next d195_100 (kg_stl (Nat.le_of_ble_eq_true rfl) hp)
theorem d195_102 : decode (mB 195) 102 = .ok (.aload_n 0, 1) := by decide +kernel
theorem s195_102 {l1 l2 l3 l4 l5 l6 l7 l8 l9 l10 : Option Value} {st : List Value} {x : Nat} {m : kMem} {Q : Option Value → kMem → Prop} : kJ 195 102 [some (.ref x), l1, l2, l3, l4, l5, l6, l7, l8, l9, l10] st m Q = kJ 195 103 [some (.ref x), l1, l2, l3, l4, l5, l6, l7, l8, l9, l10] (.ref x :: st) m Q := kJ_next d195_102 rfl
theorem d195_103 : decode (mB 195) 103 = .ok (.getfield 32, 3) := by decide +kernel
theorem s195_103 {l0 l1 l2 l3 l4 l5 l6 l7 l8 l9 l10 : Option Value} {st : List Value} {q : Nat} {mi : Nat → Nat → Int32} {ml : Nat → Nat → Int64} {mr : Nat → Nat → Option Nat} {nx : Nat} {Q : Option Value → kMem → Prop} (h : kIs nx q 5 = true) : kJ 195 103 [l0, l1, l2, l3, l4, l5, l6, l7, l8, l9, l10] (.ref q :: st) (mi, ml, mr, nx) Q = kJ 195 106 [l0, l1, l2, l3, l4, l5, l6, l7, l8, l9, l10] (va_rf (mr q 23) :: st) (mi, ml, mr, nx) Q := kJ_next d195_103 (kg_getr 5 23 rfl h (by decide))
theorem d195_106 : decode (mB 195) 106 = .ok (.iload_n 1, 1) := by decide +kernel
theorem s195_106 {l0 l2 l3 l4 l5 l6 l7 l8 l9 l10 : Option Value} {st : List Value} {x : Int32} {m : kMem} {Q : Option Value → kMem → Prop} : kJ 195 106 [l0, some (.int x), l2, l3, l4, l5, l6, l7, l8, l9, l10] st m Q = kJ 195 107 [l0, some (.int x), l2, l3, l4, l5, l6, l7, l8, l9, l10] (.int x :: st) m Q := kJ_next d195_106 rfl
theorem d195_107 : decode (mB 195) 107 = .ok (.iaload, 1) := by decide +kernel
theorem s195_107 {l0 l1 l2 l3 l4 l5 l6 l7 l8 l9 l10 : Option Value} {st : List Value} {q : Nat} {i : Int32} {mi : Nat → Nat → Int32} {ml : Nat → Nat → Int64} {mr : Nat → Nat → Option Nat} {nx : Nat} {Q : Option Value → kMem → Prop} (h : kIs nx q 10 = true) : kJ 195 107 [l0, l1, l2, l3, l4, l5, l6, l7, l8, l9, l10] (.int i :: .ref q :: st) (mi, ml, mr, nx) Q = (vp_in i (kAl q) ∧ kJ 195 108 [l0, l1, l2, l3, l4, l5, l6, l7, l8, l9, l10] (.int (mi q i.toNatClampNeg) :: st) (mi, ml, mr, nx) Q) := kg_aldJ d195_107 rfl (kAr_of h)
theorem d195_108 : decode (mB 195) 108 = .ok (.bipush (-4), 2) := by decide +kernel
theorem s195_108 {l0 l1 l2 l3 l4 l5 l6 l7 l8 l9 l10 : Option Value} {st : List Value} {m : kMem} {Q : Option Value → kMem → Prop} : kJ 195 108 [l0, l1, l2, l3, l4, l5, l6, l7, l8, l9, l10] st m Q = kJ 195 110 [l0, l1, l2, l3, l4, l5, l6, l7, l8, l9, l10] (.int (-4) :: st) m Q := kJ_next d195_108 rfl
theorem d195_110 : decode (mB 195) 110 = .ok (.if_icmp .ne 7, 3) := by decide +kernel
theorem s195_110 {l0 l1 l2 l3 l4 l5 l6 l7 l8 l9 l10 : Option Value} {st : List Value} {a b : Int32} {m : kMem} {Q : Option Value → kMem → Prop} : kJ 195 110 [l0, l1, l2, l3, l4, l5, l6, l7, l8, l9, l10] (.int b :: .int a :: st) m Q = (if a = b then kJ 195 113 [l0, l1, l2, l3, l4, l5, l6, l7, l8, l9, l10] st m Q else kJ 195 117 [l0, l1, l2, l3, l4, l5, l6, l7, l8, l9, l10] st m Q) := kJ_if d195_110 rfl (fun h => kJ_next d195_110 h) (fun h => kJ_next d195_110 h)
theorem d195_113 : decode (mB 195) 113 = .ok (.iconst 1, 1) := by decide +kernel
theorem s195_113 {l0 l1 l2 l3 l4 l5 l6 l7 l8 l9 l10 : Option Value} {st : List Value} {m : kMem} {Q : Option Value → kMem → Prop} : kJ 195 113 [l0, l1, l2, l3, l4, l5, l6, l7, l8, l9, l10] st m Q = kJ 195 114 [l0, l1, l2, l3, l4, l5, l6, l7, l8, l9, l10] (.int (nI 1) :: st) m Q := kJ_next d195_113 rfl
theorem d195_114 : decode (mB 195) 114 = .ok (.goto 42, 3) := by decide +kernel
theorem s195_114 {l0 l1 l2 l3 l4 l5 l6 l7 l8 l9 l10 : Option Value} {st : List Value} {m : kMem} {Q : Option Value → kMem → Prop} : kJ 195 114 [l0, l1, l2, l3, l4, l5, l6, l7, l8, l9, l10] st m Q = kJ 195 156 [l0, l1, l2, l3, l4, l5, l6, l7, l8, l9, l10] st m Q := kJ_next d195_114 rfl
theorem d195_117 : decode (mB 195) 117 = .ok (.aload_n 0, 1) := by decide +kernel
theorem s195_117 {l1 l2 l3 l4 l5 l6 l7 l8 l9 l10 : Option Value} {st : List Value} {x : Nat} {m : kMem} {Q : Option Value → kMem → Prop} : kJ 195 117 [some (.ref x), l1, l2, l3, l4, l5, l6, l7, l8, l9, l10] st m Q = kJ 195 118 [some (.ref x), l1, l2, l3, l4, l5, l6, l7, l8, l9, l10] (.ref x :: st) m Q := kJ_next d195_117 rfl
theorem d195_118 : decode (mB 195) 118 = .ok (.getfield 32, 3) := by decide +kernel
theorem s195_118 {l0 l1 l2 l3 l4 l5 l6 l7 l8 l9 l10 : Option Value} {st : List Value} {q : Nat} {mi : Nat → Nat → Int32} {ml : Nat → Nat → Int64} {mr : Nat → Nat → Option Nat} {nx : Nat} {Q : Option Value → kMem → Prop} (h : kIs nx q 5 = true) : kJ 195 118 [l0, l1, l2, l3, l4, l5, l6, l7, l8, l9, l10] (.ref q :: st) (mi, ml, mr, nx) Q = kJ 195 121 [l0, l1, l2, l3, l4, l5, l6, l7, l8, l9, l10] (va_rf (mr q 23) :: st) (mi, ml, mr, nx) Q := kJ_next d195_118 (kg_getr 5 23 rfl h (by decide))
theorem d195_121 : decode (mB 195) 121 = .ok (.iload_n 1, 1) := by decide +kernel
theorem s195_121 {l0 l2 l3 l4 l5 l6 l7 l8 l9 l10 : Option Value} {st : List Value} {x : Int32} {m : kMem} {Q : Option Value → kMem → Prop} : kJ 195 121 [l0, some (.int x), l2, l3, l4, l5, l6, l7, l8, l9, l10] st m Q = kJ 195 122 [l0, some (.int x), l2, l3, l4, l5, l6, l7, l8, l9, l10] (.int x :: st) m Q := kJ_next d195_121 rfl
theorem d195_122 : decode (mB 195) 122 = .ok (.iaload, 1) := by decide +kernel
theorem s195_122 {l0 l1 l2 l3 l4 l5 l6 l7 l8 l9 l10 : Option Value} {st : List Value} {q : Nat} {i : Int32} {mi : Nat → Nat → Int32} {ml : Nat → Nat → Int64} {mr : Nat → Nat → Option Nat} {nx : Nat} {Q : Option Value → kMem → Prop} (h : kIs nx q 10 = true) : kJ 195 122 [l0, l1, l2, l3, l4, l5, l6, l7, l8, l9, l10] (.int i :: .ref q :: st) (mi, ml, mr, nx) Q = (vp_in i (kAl q) ∧ kJ 195 123 [l0, l1, l2, l3, l4, l5, l6, l7, l8, l9, l10] (.int (mi q i.toNatClampNeg) :: st) (mi, ml, mr, nx) Q) := kg_aldJ d195_122 rfl (kAr_of h)
theorem d195_123 : decode (mB 195) 123 = .ok (.iload_n 2, 1) := by decide +kernel
theorem s195_123 {l0 l1 l3 l4 l5 l6 l7 l8 l9 l10 : Option Value} {st : List Value} {x : Int32} {m : kMem} {Q : Option Value → kMem → Prop} : kJ 195 123 [l0, l1, some (.int x), l3, l4, l5, l6, l7, l8, l9, l10] st m Q = kJ 195 124 [l0, l1, some (.int x), l3, l4, l5, l6, l7, l8, l9, l10] (.int x :: st) m Q := kJ_next d195_123 rfl
theorem d195_124 : decode (mB 195) 124 = .ok (.if_icmp .eq 7, 3) := by decide +kernel
theorem s195_124 {l0 l1 l2 l3 l4 l5 l6 l7 l8 l9 l10 : Option Value} {st : List Value} {a b : Int32} {m : kMem} {Q : Option Value → kMem → Prop} : kJ 195 124 [l0, l1, l2, l3, l4, l5, l6, l7, l8, l9, l10] (.int b :: .int a :: st) m Q = (if a = b then kJ 195 131 [l0, l1, l2, l3, l4, l5, l6, l7, l8, l9, l10] st m Q else kJ 195 127 [l0, l1, l2, l3, l4, l5, l6, l7, l8, l9, l10] st m Q) := kJ_if d195_124 rfl (fun h => kJ_next d195_124 h) (fun h => kJ_next d195_124 h)
theorem d195_127 : decode (mB 195) 127 = .ok (.iconst 3, 1) := by decide +kernel
theorem s195_127 {l0 l1 l2 l3 l4 l5 l6 l7 l8 l9 l10 : Option Value} {st : List Value} {m : kMem} {Q : Option Value → kMem → Prop} : kJ 195 127 [l0, l1, l2, l3, l4, l5, l6, l7, l8, l9, l10] st m Q = kJ 195 128 [l0, l1, l2, l3, l4, l5, l6, l7, l8, l9, l10] (.int (nI 3) :: st) m Q := kJ_next d195_127 rfl
theorem d195_128 : decode (mB 195) 128 = .ok (.goto 28, 3) := by decide +kernel
theorem s195_128 {l0 l1 l2 l3 l4 l5 l6 l7 l8 l9 l10 : Option Value} {st : List Value} {m : kMem} {Q : Option Value → kMem → Prop} : kJ 195 128 [l0, l1, l2, l3, l4, l5, l6, l7, l8, l9, l10] st m Q = kJ 195 156 [l0, l1, l2, l3, l4, l5, l6, l7, l8, l9, l10] st m Q := kJ_next d195_128 rfl
theorem d195_131 : decode (mB 195) 131 = .ok (.lload 9, 2) := by decide +kernel
theorem s195_131 {l0 l1 l2 l3 l4 l5 l6 l7 l8 l10 : Option Value} {st : List Value} {x : Int64} {m : kMem} {Q : Option Value → kMem → Prop} : kJ 195 131 [l0, l1, l2, l3, l4, l5, l6, l7, l8, some (.long x), l10] st m Q = kJ 195 133 [l0, l1, l2, l3, l4, l5, l6, l7, l8, some (.long x), l10] (.long x :: st) m Q := kJ_next d195_131 rfl
theorem d195_133 : decode (mB 195) 133 = .ok (.lconst 0, 1) := by decide +kernel
theorem s195_133 {l0 l1 l2 l3 l4 l5 l6 l7 l8 l9 l10 : Option Value} {st : List Value} {m : kMem} {Q : Option Value → kMem → Prop} : kJ 195 133 [l0, l1, l2, l3, l4, l5, l6, l7, l8, l9, l10] st m Q = kJ 195 134 [l0, l1, l2, l3, l4, l5, l6, l7, l8, l9, l10] (.long 0 :: st) m Q := kJ_next d195_133 rfl
theorem d195_134 : decode (mB 195) 134 = .ok (.lcmp, 1) := by decide +kernel
theorem s195_134 {l0 l1 l2 l3 l4 l5 l6 l7 l8 l9 l10 : Option Value} {st : List Value} {a b : Int64} {m : kMem} {Q : Option Value → kMem → Prop} : kJ 195 134 [l0, l1, l2, l3, l4, l5, l6, l7, l8, l9, l10] (.long b :: .long a :: st) m Q = kJ 195 135 [l0, l1, l2, l3, l4, l5, l6, l7, l8, l9, l10] (.int (lg_cmp a b) :: st) m Q := kJ_next d195_134 rfl
theorem d195_135 : decode (mB 195) 135 = .ok (.ifCond .lt 16, 3) := by decide +kernel
theorem s195_135 {l0 l1 l2 l3 l4 l5 l6 l7 l8 l9 l10 : Option Value} {st : List Value} {a : Int32} {m : kMem} {Q : Option Value → kMem → Prop} : kJ 195 135 [l0, l1, l2, l3, l4, l5, l6, l7, l8, l9, l10] (.int a :: st) m Q = (if a < 0 then kJ 195 151 [l0, l1, l2, l3, l4, l5, l6, l7, l8, l9, l10] st m Q else kJ 195 138 [l0, l1, l2, l3, l4, l5, l6, l7, l8, l9, l10] st m Q) := kJ_if d195_135 rfl (fun h => kJ_next d195_135 h) (fun h => kJ_next d195_135 h)
theorem d195_138 : decode (mB 195) 138 = .ok (.lload 9, 2) := by decide +kernel
theorem s195_138 {l0 l1 l2 l3 l4 l5 l6 l7 l8 l10 : Option Value} {st : List Value} {x : Int64} {m : kMem} {Q : Option Value → kMem → Prop} : kJ 195 138 [l0, l1, l2, l3, l4, l5, l6, l7, l8, some (.long x), l10] st m Q = kJ 195 140 [l0, l1, l2, l3, l4, l5, l6, l7, l8, some (.long x), l10] (.long x :: st) m Q := kJ_next d195_138 rfl
theorem d195_140 : decode (mB 195) 140 = .ok (.aload_n 0, 1) := by decide +kernel
theorem s195_140 {l1 l2 l3 l4 l5 l6 l7 l8 l9 l10 : Option Value} {st : List Value} {x : Nat} {m : kMem} {Q : Option Value → kMem → Prop} : kJ 195 140 [some (.ref x), l1, l2, l3, l4, l5, l6, l7, l8, l9, l10] st m Q = kJ 195 141 [some (.ref x), l1, l2, l3, l4, l5, l6, l7, l8, l9, l10] (.ref x :: st) m Q := kJ_next d195_140 rfl
theorem d195_141 : decode (mB 195) 141 = .ok (.getfield 35, 3) := by decide +kernel
theorem s195_141 {l0 l1 l2 l3 l4 l5 l6 l7 l8 l9 l10 : Option Value} {st : List Value} {q : Nat} {mi : Nat → Nat → Int32} {ml : Nat → Nat → Int64} {mr : Nat → Nat → Option Nat} {nx : Nat} {Q : Option Value → kMem → Prop} (h : kIs nx q 5 = true) : kJ 195 141 [l0, l1, l2, l3, l4, l5, l6, l7, l8, l9, l10] (.ref q :: st) (mi, ml, mr, nx) Q = kJ 195 144 [l0, l1, l2, l3, l4, l5, l6, l7, l8, l9, l10] (va_rf (mr q 24) :: st) (mi, ml, mr, nx) Q := kJ_next d195_141 (kg_getr 5 24 rfl h (by decide))
theorem d195_144 : decode (mB 195) 144 = .ok (.iload_n 1, 1) := by decide +kernel
theorem s195_144 {l0 l2 l3 l4 l5 l6 l7 l8 l9 l10 : Option Value} {st : List Value} {x : Int32} {m : kMem} {Q : Option Value → kMem → Prop} : kJ 195 144 [l0, some (.int x), l2, l3, l4, l5, l6, l7, l8, l9, l10] st m Q = kJ 195 145 [l0, some (.int x), l2, l3, l4, l5, l6, l7, l8, l9, l10] (.int x :: st) m Q := kJ_next d195_144 rfl
theorem d195_145 : decode (mB 195) 145 = .ok (.iaload, 1) := by decide +kernel
theorem s195_145 {l0 l1 l2 l3 l4 l5 l6 l7 l8 l9 l10 : Option Value} {st : List Value} {q : Nat} {i : Int32} {mi : Nat → Nat → Int32} {ml : Nat → Nat → Int64} {mr : Nat → Nat → Option Nat} {nx : Nat} {Q : Option Value → kMem → Prop} (h : kIs nx q 10 = true) : kJ 195 145 [l0, l1, l2, l3, l4, l5, l6, l7, l8, l9, l10] (.int i :: .ref q :: st) (mi, ml, mr, nx) Q = (vp_in i (kAl q) ∧ kJ 195 146 [l0, l1, l2, l3, l4, l5, l6, l7, l8, l9, l10] (.int (mi q i.toNatClampNeg) :: st) (mi, ml, mr, nx) Q) := kg_aldJ d195_145 rfl (kAr_of h)
theorem d195_146 : decode (mB 195) 146 = .ok (.i2l, 1) := by decide +kernel
theorem s195_146 {l0 l1 l2 l3 l4 l5 l6 l7 l8 l9 l10 : Option Value} {st : List Value} {a : Int32} {m : kMem} {Q : Option Value → kMem → Prop} : kJ 195 146 [l0, l1, l2, l3, l4, l5, l6, l7, l8, l9, l10] (.int a :: st) m Q = kJ 195 147 [l0, l1, l2, l3, l4, l5, l6, l7, l8, l9, l10] (.long a.toInt64 :: st) m Q := kJ_next d195_146 rfl
theorem d195_147 : decode (mB 195) 147 = .ok (.lcmp, 1) := by decide +kernel
theorem s195_147 {l0 l1 l2 l3 l4 l5 l6 l7 l8 l9 l10 : Option Value} {st : List Value} {a b : Int64} {m : kMem} {Q : Option Value → kMem → Prop} : kJ 195 147 [l0, l1, l2, l3, l4, l5, l6, l7, l8, l9, l10] (.long b :: .long a :: st) m Q = kJ 195 148 [l0, l1, l2, l3, l4, l5, l6, l7, l8, l9, l10] (.int (lg_cmp a b) :: st) m Q := kJ_next d195_147 rfl
theorem d195_148 : decode (mB 195) 148 = .ok (.ifCond .lt 7, 3) := by decide +kernel
theorem s195_148 {l0 l1 l2 l3 l4 l5 l6 l7 l8 l9 l10 : Option Value} {st : List Value} {a : Int32} {m : kMem} {Q : Option Value → kMem → Prop} : kJ 195 148 [l0, l1, l2, l3, l4, l5, l6, l7, l8, l9, l10] (.int a :: st) m Q = (if a < 0 then kJ 195 155 [l0, l1, l2, l3, l4, l5, l6, l7, l8, l9, l10] st m Q else kJ 195 151 [l0, l1, l2, l3, l4, l5, l6, l7, l8, l9, l10] st m Q) := kJ_if d195_148 rfl (fun h => kJ_next d195_148 h) (fun h => kJ_next d195_148 h)
theorem d195_151 : decode (mB 195) 151 = .ok (.iconst 2, 1) := by decide +kernel
theorem s195_151 {l0 l1 l2 l3 l4 l5 l6 l7 l8 l9 l10 : Option Value} {st : List Value} {m : kMem} {Q : Option Value → kMem → Prop} : kJ 195 151 [l0, l1, l2, l3, l4, l5, l6, l7, l8, l9, l10] st m Q = kJ 195 152 [l0, l1, l2, l3, l4, l5, l6, l7, l8, l9, l10] (.int (nI 2) :: st) m Q := kJ_next d195_151 rfl
theorem d195_152 : decode (mB 195) 152 = .ok (.goto 4, 3) := by decide +kernel
theorem s195_152 {l0 l1 l2 l3 l4 l5 l6 l7 l8 l9 l10 : Option Value} {st : List Value} {m : kMem} {Q : Option Value → kMem → Prop} : kJ 195 152 [l0, l1, l2, l3, l4, l5, l6, l7, l8, l9, l10] st m Q = kJ 195 156 [l0, l1, l2, l3, l4, l5, l6, l7, l8, l9, l10] st m Q := kJ_next d195_152 rfl
theorem d195_155 : decode (mB 195) 155 = .ok (.iconst 0, 1) := by decide +kernel
theorem s195_155 {l0 l1 l2 l3 l4 l5 l6 l7 l8 l9 l10 : Option Value} {st : List Value} {m : kMem} {Q : Option Value → kMem → Prop} : kJ 195 155 [l0, l1, l2, l3, l4, l5, l6, l7, l8, l9, l10] st m Q = kJ 195 156 [l0, l1, l2, l3, l4, l5, l6, l7, l8, l9, l10] (.int (nI 0) :: st) m Q := kJ_next d195_155 rfl
theorem d195_156 : decode (mB 195) 156 = .ok (.istore 5, 2) := by decide +kernel
theorem s195_156 {l0 l1 l2 l3 l4 l5 l6 l7 l8 l9 l10 : Option Value} {st : List Value} {x : Int32} {m : kMem} {Q : Option Value → kMem → Prop} (hp : kNL l4 = true) : kJ 195 156 [l0, l1, l2, l3, l4, l5, l6, l7, l8, l9, l10] (.int x :: st) m Q = kJ 195 158 [l0, l1, l2, l3, l4, some (.int x), l6, l7, l8, l9, l10] st m Q := kJ_next d195_156 (kg_sti (Nat.le_of_ble_eq_true rfl) hp)
theorem d195_158 : decode (mB 195) 158 = .ok (.iinc 8 1, 3) := by decide +kernel
theorem s195_158 {l0 l1 l2 l3 l4 l5 l6 l7 l9 l10 : Option Value} {st : List Value} {x : Int32} {m : kMem} {Q : Option Value → kMem → Prop} (hp : kNL l7 = true) : kJ 195 158 [l0, l1, l2, l3, l4, l5, l6, l7, some (.int x), l9, l10] st m Q = kJ 195 161 [l0, l1, l2, l3, l4, l5, l6, l7, some (.int (x + (nI 1))), l9, l10] st m Q := kJ_next d195_158 (kg_inc rfl (Nat.le_of_ble_eq_true rfl) hp)
theorem d195_161 : decode (mB 195) 161 = .ok (.goto (-84), 3) := by decide +kernel
theorem s195_161 {l0 l1 l2 l3 l4 l5 l6 l7 l8 l9 l10 : Option Value} {st : List Value} {m : kMem} {Q : Option Value → kMem → Prop} : kJ 195 161 [l0, l1, l2, l3, l4, l5, l6, l7, l8, l9, l10] st m Q = kJ 195 77 [l0, l1, l2, l3, l4, l5, l6, l7, l8, l9, l10] st m Q := kJ_next d195_161 rfl
theorem d195_164 : decode (mB 195) 164 = .ok (.iload 5, 2) := by decide +kernel
theorem s195_164 {l0 l1 l2 l3 l4 l6 l7 l8 l9 l10 : Option Value} {st : List Value} {x : Int32} {m : kMem} {Q : Option Value → kMem → Prop} : kJ 195 164 [l0, l1, l2, l3, l4, some (.int x), l6, l7, l8, l9, l10] st m Q = kJ 195 166 [l0, l1, l2, l3, l4, some (.int x), l6, l7, l8, l9, l10] (.int x :: st) m Q := kJ_next d195_164 rfl
theorem d195_166 : decode (mB 195) 166 = .ok (.ifCond .ne 96, 3) := by decide +kernel
theorem s195_166 {l0 l1 l2 l3 l4 l5 l6 l7 l8 l9 l10 : Option Value} {st : List Value} {a : Int32} {m : kMem} {Q : Option Value → kMem → Prop} : kJ 195 166 [l0, l1, l2, l3, l4, l5, l6, l7, l8, l9, l10] (.int a :: st) m Q = (if a = 0 then kJ 195 169 [l0, l1, l2, l3, l4, l5, l6, l7, l8, l9, l10] st m Q else kJ 195 262 [l0, l1, l2, l3, l4, l5, l6, l7, l8, l9, l10] st m Q) := kJ_if d195_166 rfl (fun h => kJ_next d195_166 h) (fun h => kJ_next d195_166 h)
theorem d195_169 : decode (mB 195) 169 = .ok (.bipush 40, 2) := by decide +kernel
theorem s195_169 {l0 l1 l2 l3 l4 l5 l6 l7 l8 l9 l10 : Option Value} {st : List Value} {m : kMem} {Q : Option Value → kMem → Prop} : kJ 195 169 [l0, l1, l2, l3, l4, l5, l6, l7, l8, l9, l10] st m Q = kJ 195 171 [l0, l1, l2, l3, l4, l5, l6, l7, l8, l9, l10] (.int (nI 40) :: st) m Q := kJ_next d195_169 rfl
theorem d195_171 : decode (mB 195) 171 = .ok (.iload_n 1, 1) := by decide +kernel
theorem s195_171 {l0 l2 l3 l4 l5 l6 l7 l8 l9 l10 : Option Value} {st : List Value} {x : Int32} {m : kMem} {Q : Option Value → kMem → Prop} : kJ 195 171 [l0, some (.int x), l2, l3, l4, l5, l6, l7, l8, l9, l10] st m Q = kJ 195 172 [l0, some (.int x), l2, l3, l4, l5, l6, l7, l8, l9, l10] (.int x :: st) m Q := kJ_next d195_171 rfl
theorem d195_172 : decode (mB 195) 172 = .ok (.imul, 1) := by decide +kernel
theorem s195_172 {l0 l1 l2 l3 l4 l5 l6 l7 l8 l9 l10 : Option Value} {st : List Value} {a b : Int32} {m : kMem} {Q : Option Value → kMem → Prop} : kJ 195 172 [l0, l1, l2, l3, l4, l5, l6, l7, l8, l9, l10] (.int b :: .int a :: st) m Q = kJ 195 173 [l0, l1, l2, l3, l4, l5, l6, l7, l8, l9, l10] (.int (a * b) :: st) m Q := kJ_next d195_172 rfl
theorem d195_173 : decode (mB 195) 173 = .ok (.iload_n 3, 1) := by decide +kernel
theorem s195_173 {l0 l1 l2 l4 l5 l6 l7 l8 l9 l10 : Option Value} {st : List Value} {x : Int32} {m : kMem} {Q : Option Value → kMem → Prop} : kJ 195 173 [l0, l1, l2, some (.int x), l4, l5, l6, l7, l8, l9, l10] st m Q = kJ 195 174 [l0, l1, l2, some (.int x), l4, l5, l6, l7, l8, l9, l10] (.int x :: st) m Q := kJ_next d195_173 rfl
theorem d195_174 : decode (mB 195) 174 = .ok (.iadd, 1) := by decide +kernel
theorem s195_174 {l0 l1 l2 l3 l4 l5 l6 l7 l8 l9 l10 : Option Value} {st : List Value} {a b : Int32} {m : kMem} {Q : Option Value → kMem → Prop} : kJ 195 174 [l0, l1, l2, l3, l4, l5, l6, l7, l8, l9, l10] (.int b :: .int a :: st) m Q = kJ 195 175 [l0, l1, l2, l3, l4, l5, l6, l7, l8, l9, l10] (.int (a + b) :: st) m Q := kJ_next d195_174 rfl
theorem d195_175 : decode (mB 195) 175 = .ok (.iconst 4, 1) := by decide +kernel
theorem s195_175 {l0 l1 l2 l3 l4 l5 l6 l7 l8 l9 l10 : Option Value} {st : List Value} {m : kMem} {Q : Option Value → kMem → Prop} : kJ 195 175 [l0, l1, l2, l3, l4, l5, l6, l7, l8, l9, l10] st m Q = kJ 195 176 [l0, l1, l2, l3, l4, l5, l6, l7, l8, l9, l10] (.int (nI 4) :: st) m Q := kJ_next d195_175 rfl
theorem d195_176 : decode (mB 195) 176 = .ok (.iload 7, 2) := by decide +kernel
theorem s195_176 {l0 l1 l2 l3 l4 l5 l6 l8 l9 l10 : Option Value} {st : List Value} {x : Int32} {m : kMem} {Q : Option Value → kMem → Prop} : kJ 195 176 [l0, l1, l2, l3, l4, l5, l6, some (.int x), l8, l9, l10] st m Q = kJ 195 178 [l0, l1, l2, l3, l4, l5, l6, some (.int x), l8, l9, l10] (.int x :: st) m Q := kJ_next d195_176 rfl
theorem d195_178 : decode (mB 195) 178 = .ok (.imul, 1) := by decide +kernel
theorem s195_178 {l0 l1 l2 l3 l4 l5 l6 l7 l8 l9 l10 : Option Value} {st : List Value} {a b : Int32} {m : kMem} {Q : Option Value → kMem → Prop} : kJ 195 178 [l0, l1, l2, l3, l4, l5, l6, l7, l8, l9, l10] (.int b :: .int a :: st) m Q = kJ 195 179 [l0, l1, l2, l3, l4, l5, l6, l7, l8, l9, l10] (.int (a * b) :: st) m Q := kJ_next d195_178 rfl
theorem d195_179 : decode (mB 195) 179 = .ok (.iadd, 1) := by decide +kernel
theorem s195_179 {l0 l1 l2 l3 l4 l5 l6 l7 l8 l9 l10 : Option Value} {st : List Value} {a b : Int32} {m : kMem} {Q : Option Value → kMem → Prop} : kJ 195 179 [l0, l1, l2, l3, l4, l5, l6, l7, l8, l9, l10] (.int b :: .int a :: st) m Q = kJ 195 180 [l0, l1, l2, l3, l4, l5, l6, l7, l8, l9, l10] (.int (a + b) :: st) m Q := kJ_next d195_179 rfl
theorem d195_180 : decode (mB 195) 180 = .ok (.istore 8, 2) := by decide +kernel
theorem s195_180 {l0 l1 l2 l3 l4 l5 l6 l7 l8 l9 l10 : Option Value} {st : List Value} {x : Int32} {m : kMem} {Q : Option Value → kMem → Prop} (hp : kNL l7 = true) : kJ 195 180 [l0, l1, l2, l3, l4, l5, l6, l7, l8, l9, l10] (.int x :: st) m Q = kJ 195 182 [l0, l1, l2, l3, l4, l5, l6, l7, some (.int x), l9, l10] st m Q := kJ_next d195_180 (kg_sti (Nat.le_of_ble_eq_true rfl) hp)
theorem d195_182 : decode (mB 195) 182 = .ok (.aload_n 0, 1) := by decide +kernel
theorem s195_182 {l1 l2 l3 l4 l5 l6 l7 l8 l9 l10 : Option Value} {st : List Value} {x : Nat} {m : kMem} {Q : Option Value → kMem → Prop} : kJ 195 182 [some (.ref x), l1, l2, l3, l4, l5, l6, l7, l8, l9, l10] st m Q = kJ 195 183 [some (.ref x), l1, l2, l3, l4, l5, l6, l7, l8, l9, l10] (.ref x :: st) m Q := kJ_next d195_182 rfl
theorem d195_183 : decode (mB 195) 183 = .ok (.aload_n 0, 1) := by decide +kernel
theorem s195_183 {l1 l2 l3 l4 l5 l6 l7 l8 l9 l10 : Option Value} {st : List Value} {x : Nat} {m : kMem} {Q : Option Value → kMem → Prop} : kJ 195 183 [some (.ref x), l1, l2, l3, l4, l5, l6, l7, l8, l9, l10] st m Q = kJ 195 184 [some (.ref x), l1, l2, l3, l4, l5, l6, l7, l8, l9, l10] (.ref x :: st) m Q := kJ_next d195_183 rfl
theorem d195_184 : decode (mB 195) 184 = .ok (.getfield 38, 3) := by decide +kernel
theorem s195_184 {l0 l1 l2 l3 l4 l5 l6 l7 l8 l9 l10 : Option Value} {st : List Value} {q : Nat} {mi : Nat → Nat → Int32} {ml : Nat → Nat → Int64} {mr : Nat → Nat → Option Nat} {nx : Nat} {Q : Option Value → kMem → Prop} (h : kIs nx q 5 = true) : kJ 195 184 [l0, l1, l2, l3, l4, l5, l6, l7, l8, l9, l10] (.ref q :: st) (mi, ml, mr, nx) Q = kJ 195 187 [l0, l1, l2, l3, l4, l5, l6, l7, l8, l9, l10] (va_rf (mr q 25) :: st) (mi, ml, mr, nx) Q := kJ_next d195_184 (kg_getr 5 25 rfl h (by decide))
theorem d195_187 : decode (mB 195) 187 = .ok (.iload 8, 2) := by decide +kernel
theorem s195_187 {l0 l1 l2 l3 l4 l5 l6 l7 l9 l10 : Option Value} {st : List Value} {x : Int32} {m : kMem} {Q : Option Value → kMem → Prop} : kJ 195 187 [l0, l1, l2, l3, l4, l5, l6, l7, some (.int x), l9, l10] st m Q = kJ 195 189 [l0, l1, l2, l3, l4, l5, l6, l7, some (.int x), l9, l10] (.int x :: st) m Q := kJ_next d195_187 rfl
theorem d195_189 : decode (mB 195) 189 = .ok (.iaload, 1) := by decide +kernel
theorem s195_189 {l0 l1 l2 l3 l4 l5 l6 l7 l8 l9 l10 : Option Value} {st : List Value} {q : Nat} {i : Int32} {mi : Nat → Nat → Int32} {ml : Nat → Nat → Int64} {mr : Nat → Nat → Option Nat} {nx : Nat} {Q : Option Value → kMem → Prop} (h : kIs nx q 10 = true) : kJ 195 189 [l0, l1, l2, l3, l4, l5, l6, l7, l8, l9, l10] (.int i :: .ref q :: st) (mi, ml, mr, nx) Q = (vp_in i (kAl q) ∧ kJ 195 190 [l0, l1, l2, l3, l4, l5, l6, l7, l8, l9, l10] (.int (mi q i.toNatClampNeg) :: st) (mi, ml, mr, nx) Q) := kg_aldJ d195_189 rfl (kAr_of h)
theorem d195_190 : decode (mB 195) 190 = .ok (.aload_n 0, 1) := by decide +kernel
theorem s195_190 {l1 l2 l3 l4 l5 l6 l7 l8 l9 l10 : Option Value} {st : List Value} {x : Nat} {m : kMem} {Q : Option Value → kMem → Prop} : kJ 195 190 [some (.ref x), l1, l2, l3, l4, l5, l6, l7, l8, l9, l10] st m Q = kJ 195 191 [some (.ref x), l1, l2, l3, l4, l5, l6, l7, l8, l9, l10] (.ref x :: st) m Q := kJ_next d195_190 rfl
theorem d195_191 : decode (mB 195) 191 = .ok (.getfield 38, 3) := by decide +kernel
theorem s195_191 {l0 l1 l2 l3 l4 l5 l6 l7 l8 l9 l10 : Option Value} {st : List Value} {q : Nat} {mi : Nat → Nat → Int32} {ml : Nat → Nat → Int64} {mr : Nat → Nat → Option Nat} {nx : Nat} {Q : Option Value → kMem → Prop} (h : kIs nx q 5 = true) : kJ 195 191 [l0, l1, l2, l3, l4, l5, l6, l7, l8, l9, l10] (.ref q :: st) (mi, ml, mr, nx) Q = kJ 195 194 [l0, l1, l2, l3, l4, l5, l6, l7, l8, l9, l10] (va_rf (mr q 25) :: st) (mi, ml, mr, nx) Q := kJ_next d195_191 (kg_getr 5 25 rfl h (by decide))
theorem d195_194 : decode (mB 195) 194 = .ok (.iload 8, 2) := by decide +kernel
theorem s195_194 {l0 l1 l2 l3 l4 l5 l6 l7 l9 l10 : Option Value} {st : List Value} {x : Int32} {m : kMem} {Q : Option Value → kMem → Prop} : kJ 195 194 [l0, l1, l2, l3, l4, l5, l6, l7, some (.int x), l9, l10] st m Q = kJ 195 196 [l0, l1, l2, l3, l4, l5, l6, l7, some (.int x), l9, l10] (.int x :: st) m Q := kJ_next d195_194 rfl
theorem d195_196 : decode (mB 195) 196 = .ok (.iconst 1, 1) := by decide +kernel
theorem s195_196 {l0 l1 l2 l3 l4 l5 l6 l7 l8 l9 l10 : Option Value} {st : List Value} {m : kMem} {Q : Option Value → kMem → Prop} : kJ 195 196 [l0, l1, l2, l3, l4, l5, l6, l7, l8, l9, l10] st m Q = kJ 195 197 [l0, l1, l2, l3, l4, l5, l6, l7, l8, l9, l10] (.int (nI 1) :: st) m Q := kJ_next d195_196 rfl
theorem d195_197 : decode (mB 195) 197 = .ok (.iadd, 1) := by decide +kernel
theorem s195_197 {l0 l1 l2 l3 l4 l5 l6 l7 l8 l9 l10 : Option Value} {st : List Value} {a b : Int32} {m : kMem} {Q : Option Value → kMem → Prop} : kJ 195 197 [l0, l1, l2, l3, l4, l5, l6, l7, l8, l9, l10] (.int b :: .int a :: st) m Q = kJ 195 198 [l0, l1, l2, l3, l4, l5, l6, l7, l8, l9, l10] (.int (a + b) :: st) m Q := kJ_next d195_197 rfl
theorem d195_198 : decode (mB 195) 198 = .ok (.iaload, 1) := by decide +kernel
theorem s195_198 {l0 l1 l2 l3 l4 l5 l6 l7 l8 l9 l10 : Option Value} {st : List Value} {q : Nat} {i : Int32} {mi : Nat → Nat → Int32} {ml : Nat → Nat → Int64} {mr : Nat → Nat → Option Nat} {nx : Nat} {Q : Option Value → kMem → Prop} (h : kIs nx q 10 = true) : kJ 195 198 [l0, l1, l2, l3, l4, l5, l6, l7, l8, l9, l10] (.int i :: .ref q :: st) (mi, ml, mr, nx) Q = (vp_in i (kAl q) ∧ kJ 195 199 [l0, l1, l2, l3, l4, l5, l6, l7, l8, l9, l10] (.int (mi q i.toNatClampNeg) :: st) (mi, ml, mr, nx) Q) := kg_aldJ d195_198 rfl (kAr_of h)
theorem d195_199 : decode (mB 195) 199 = .ok (.aload_n 0, 1) := by decide +kernel
theorem s195_199 {l1 l2 l3 l4 l5 l6 l7 l8 l9 l10 : Option Value} {st : List Value} {x : Nat} {m : kMem} {Q : Option Value → kMem → Prop} : kJ 195 199 [some (.ref x), l1, l2, l3, l4, l5, l6, l7, l8, l9, l10] st m Q = kJ 195 200 [some (.ref x), l1, l2, l3, l4, l5, l6, l7, l8, l9, l10] (.ref x :: st) m Q := kJ_next d195_199 rfl
theorem d195_200 : decode (mB 195) 200 = .ok (.getfield 38, 3) := by decide +kernel
theorem s195_200 {l0 l1 l2 l3 l4 l5 l6 l7 l8 l9 l10 : Option Value} {st : List Value} {q : Nat} {mi : Nat → Nat → Int32} {ml : Nat → Nat → Int64} {mr : Nat → Nat → Option Nat} {nx : Nat} {Q : Option Value → kMem → Prop} (h : kIs nx q 5 = true) : kJ 195 200 [l0, l1, l2, l3, l4, l5, l6, l7, l8, l9, l10] (.ref q :: st) (mi, ml, mr, nx) Q = kJ 195 203 [l0, l1, l2, l3, l4, l5, l6, l7, l8, l9, l10] (va_rf (mr q 25) :: st) (mi, ml, mr, nx) Q := kJ_next d195_200 (kg_getr 5 25 rfl h (by decide))
theorem d195_203 : decode (mB 195) 203 = .ok (.iload 8, 2) := by decide +kernel
theorem s195_203 {l0 l1 l2 l3 l4 l5 l6 l7 l9 l10 : Option Value} {st : List Value} {x : Int32} {m : kMem} {Q : Option Value → kMem → Prop} : kJ 195 203 [l0, l1, l2, l3, l4, l5, l6, l7, some (.int x), l9, l10] st m Q = kJ 195 205 [l0, l1, l2, l3, l4, l5, l6, l7, some (.int x), l9, l10] (.int x :: st) m Q := kJ_next d195_203 rfl
theorem d195_205 : decode (mB 195) 205 = .ok (.iconst 2, 1) := by decide +kernel
theorem s195_205 {l0 l1 l2 l3 l4 l5 l6 l7 l8 l9 l10 : Option Value} {st : List Value} {m : kMem} {Q : Option Value → kMem → Prop} : kJ 195 205 [l0, l1, l2, l3, l4, l5, l6, l7, l8, l9, l10] st m Q = kJ 195 206 [l0, l1, l2, l3, l4, l5, l6, l7, l8, l9, l10] (.int (nI 2) :: st) m Q := kJ_next d195_205 rfl
theorem d195_206 : decode (mB 195) 206 = .ok (.iadd, 1) := by decide +kernel
theorem s195_206 {l0 l1 l2 l3 l4 l5 l6 l7 l8 l9 l10 : Option Value} {st : List Value} {a b : Int32} {m : kMem} {Q : Option Value → kMem → Prop} : kJ 195 206 [l0, l1, l2, l3, l4, l5, l6, l7, l8, l9, l10] (.int b :: .int a :: st) m Q = kJ 195 207 [l0, l1, l2, l3, l4, l5, l6, l7, l8, l9, l10] (.int (a + b) :: st) m Q := kJ_next d195_206 rfl
theorem d195_207 : decode (mB 195) 207 = .ok (.iaload, 1) := by decide +kernel
theorem s195_207 {l0 l1 l2 l3 l4 l5 l6 l7 l8 l9 l10 : Option Value} {st : List Value} {q : Nat} {i : Int32} {mi : Nat → Nat → Int32} {ml : Nat → Nat → Int64} {mr : Nat → Nat → Option Nat} {nx : Nat} {Q : Option Value → kMem → Prop} (h : kIs nx q 10 = true) : kJ 195 207 [l0, l1, l2, l3, l4, l5, l6, l7, l8, l9, l10] (.int i :: .ref q :: st) (mi, ml, mr, nx) Q = (vp_in i (kAl q) ∧ kJ 195 208 [l0, l1, l2, l3, l4, l5, l6, l7, l8, l9, l10] (.int (mi q i.toNatClampNeg) :: st) (mi, ml, mr, nx) Q) := kg_aldJ d195_207 rfl (kAr_of h)
theorem d195_208 : decode (mB 195) 208 = .ok (.aload_n 0, 1) := by decide +kernel
theorem s195_208 {l1 l2 l3 l4 l5 l6 l7 l8 l9 l10 : Option Value} {st : List Value} {x : Nat} {m : kMem} {Q : Option Value → kMem → Prop} : kJ 195 208 [some (.ref x), l1, l2, l3, l4, l5, l6, l7, l8, l9, l10] st m Q = kJ 195 209 [some (.ref x), l1, l2, l3, l4, l5, l6, l7, l8, l9, l10] (.ref x :: st) m Q := kJ_next d195_208 rfl
theorem d195_209 : decode (mB 195) 209 = .ok (.getfield 38, 3) := by decide +kernel
theorem s195_209 {l0 l1 l2 l3 l4 l5 l6 l7 l8 l9 l10 : Option Value} {st : List Value} {q : Nat} {mi : Nat → Nat → Int32} {ml : Nat → Nat → Int64} {mr : Nat → Nat → Option Nat} {nx : Nat} {Q : Option Value → kMem → Prop} (h : kIs nx q 5 = true) : kJ 195 209 [l0, l1, l2, l3, l4, l5, l6, l7, l8, l9, l10] (.ref q :: st) (mi, ml, mr, nx) Q = kJ 195 212 [l0, l1, l2, l3, l4, l5, l6, l7, l8, l9, l10] (va_rf (mr q 25) :: st) (mi, ml, mr, nx) Q := kJ_next d195_209 (kg_getr 5 25 rfl h (by decide))
theorem d195_212 : decode (mB 195) 212 = .ok (.iload 8, 2) := by decide +kernel
theorem s195_212 {l0 l1 l2 l3 l4 l5 l6 l7 l9 l10 : Option Value} {st : List Value} {x : Int32} {m : kMem} {Q : Option Value → kMem → Prop} : kJ 195 212 [l0, l1, l2, l3, l4, l5, l6, l7, some (.int x), l9, l10] st m Q = kJ 195 214 [l0, l1, l2, l3, l4, l5, l6, l7, some (.int x), l9, l10] (.int x :: st) m Q := kJ_next d195_212 rfl
theorem d195_214 : decode (mB 195) 214 = .ok (.iconst 3, 1) := by decide +kernel
theorem s195_214 {l0 l1 l2 l3 l4 l5 l6 l7 l8 l9 l10 : Option Value} {st : List Value} {m : kMem} {Q : Option Value → kMem → Prop} : kJ 195 214 [l0, l1, l2, l3, l4, l5, l6, l7, l8, l9, l10] st m Q = kJ 195 215 [l0, l1, l2, l3, l4, l5, l6, l7, l8, l9, l10] (.int (nI 3) :: st) m Q := kJ_next d195_214 rfl
theorem d195_215 : decode (mB 195) 215 = .ok (.iadd, 1) := by decide +kernel
theorem s195_215 {l0 l1 l2 l3 l4 l5 l6 l7 l8 l9 l10 : Option Value} {st : List Value} {a b : Int32} {m : kMem} {Q : Option Value → kMem → Prop} : kJ 195 215 [l0, l1, l2, l3, l4, l5, l6, l7, l8, l9, l10] (.int b :: .int a :: st) m Q = kJ 195 216 [l0, l1, l2, l3, l4, l5, l6, l7, l8, l9, l10] (.int (a + b) :: st) m Q := kJ_next d195_215 rfl
theorem d195_216 : decode (mB 195) 216 = .ok (.iaload, 1) := by decide +kernel
theorem s195_216 {l0 l1 l2 l3 l4 l5 l6 l7 l8 l9 l10 : Option Value} {st : List Value} {q : Nat} {i : Int32} {mi : Nat → Nat → Int32} {ml : Nat → Nat → Int64} {mr : Nat → Nat → Option Nat} {nx : Nat} {Q : Option Value → kMem → Prop} (h : kIs nx q 10 = true) : kJ 195 216 [l0, l1, l2, l3, l4, l5, l6, l7, l8, l9, l10] (.int i :: .ref q :: st) (mi, ml, mr, nx) Q = (vp_in i (kAl q) ∧ kJ 195 217 [l0, l1, l2, l3, l4, l5, l6, l7, l8, l9, l10] (.int (mi q i.toNatClampNeg) :: st) (mi, ml, mr, nx) Q) := kg_aldJ d195_216 rfl (kAr_of h)
theorem d195_217 : decode (mB 195) 217 = .ok (.invokevirtual 306, 3) := by decide +kernel
theorem s195_217 {l0 l1 l2 l3 l4 l5 l6 l7 l8 l9 l10 : Option Value} {v0 : Int32} {v1 : Int32} {v2 : Int32} {v3 : Int32} {v4 : Nat} {m : kMem} {Q : Option Value → kMem → Prop} (h : kIs m.2.2.2 v4 5 = true) : kJ 195 217 [l0, l1, l2, l3, l4, l5, l6, l7, l8, l9, l10] [.int v0, .int v1, .int v2, .int v3, .ref v4] m Q = kJ 158 0 [some (.ref v4), some (.int v3), some (.int v2), some (.int v1), some (.int v0), none] [] m (fun v m2 => kJ 195 220 [l0, l1, l2, l3, l4, l5, l6, l7, l8, l9, l10] (v.toList ++ []) m2 Q) := kJ_call d195_217 (kg_callv 158 4 rfl rfl rfl rfl (Nat.le_of_ble_eq_true rfl) (Nat.le_of_ble_eq_true rfl) (Nat.le_of_ble_eq_true rfl) h rfl)
theorem d195_220 : decode (mB 195) 220 = .ok (.ifCond .ge 39, 3) := by decide +kernel
theorem s195_220 {l0 l1 l2 l3 l4 l5 l6 l7 l8 l9 l10 : Option Value} {st : List Value} {a : Int32} {m : kMem} {Q : Option Value → kMem → Prop} : kJ 195 220 [l0, l1, l2, l3, l4, l5, l6, l7, l8, l9, l10] (.int a :: st) m Q = (if 0 ≤ a then kJ 195 259 [l0, l1, l2, l3, l4, l5, l6, l7, l8, l9, l10] st m Q else kJ 195 223 [l0, l1, l2, l3, l4, l5, l6, l7, l8, l9, l10] st m Q) := kJ_if d195_220 rfl (fun h => kJ_next d195_220 h) (fun h => kJ_next d195_220 h)
theorem d195_223 : decode (mB 195) 223 = .ok (.iconst 0, 1) := by decide +kernel
theorem s195_223 {l0 l1 l2 l3 l4 l5 l6 l7 l8 l9 l10 : Option Value} {st : List Value} {m : kMem} {Q : Option Value → kMem → Prop} : kJ 195 223 [l0, l1, l2, l3, l4, l5, l6, l7, l8, l9, l10] st m Q = kJ 195 224 [l0, l1, l2, l3, l4, l5, l6, l7, l8, l9, l10] (.int (nI 0) :: st) m Q := kJ_next d195_223 rfl
theorem d195_224 : decode (mB 195) 224 = .ok (.istore 9, 2) := by decide +kernel
theorem s195_224 {l0 l1 l2 l3 l4 l5 l6 l7 l8 l9 l10 : Option Value} {st : List Value} {x : Int32} {m : kMem} {Q : Option Value → kMem → Prop} (hp : kNL l8 = true) : kJ 195 224 [l0, l1, l2, l3, l4, l5, l6, l7, l8, l9, l10] (.int x :: st) m Q = kJ 195 226 [l0, l1, l2, l3, l4, l5, l6, l7, l8, some (.int x), l10] st m Q := kJ_next d195_224 (kg_sti (Nat.le_of_ble_eq_true rfl) hp)
theorem d195_226 : decode (mB 195) 226 = .ok (.iload 9, 2) := by decide +kernel
theorem s195_226 {l0 l1 l2 l3 l4 l5 l6 l7 l8 l10 : Option Value} {st : List Value} {x : Int32} {m : kMem} {Q : Option Value → kMem → Prop} : kJ 195 226 [l0, l1, l2, l3, l4, l5, l6, l7, l8, some (.int x), l10] st m Q = kJ 195 228 [l0, l1, l2, l3, l4, l5, l6, l7, l8, some (.int x), l10] (.int x :: st) m Q := kJ_next d195_226 rfl
theorem d195_228 : decode (mB 195) 228 = .ok (.bipush 74, 2) := by decide +kernel
theorem s195_228 {l0 l1 l2 l3 l4 l5 l6 l7 l8 l9 l10 : Option Value} {st : List Value} {m : kMem} {Q : Option Value → kMem → Prop} : kJ 195 228 [l0, l1, l2, l3, l4, l5, l6, l7, l8, l9, l10] st m Q = kJ 195 230 [l0, l1, l2, l3, l4, l5, l6, l7, l8, l9, l10] (.int (nI 74) :: st) m Q := kJ_next d195_228 rfl
theorem d195_230 : decode (mB 195) 230 = .ok (.if_icmp .ge 23, 3) := by decide +kernel
theorem s195_230 {l0 l1 l2 l3 l4 l5 l6 l7 l8 l9 l10 : Option Value} {st : List Value} {a b : Int32} {m : kMem} {Q : Option Value → kMem → Prop} : kJ 195 230 [l0, l1, l2, l3, l4, l5, l6, l7, l8, l9, l10] (.int b :: .int a :: st) m Q = (if b ≤ a then kJ 195 253 [l0, l1, l2, l3, l4, l5, l6, l7, l8, l9, l10] st m Q else kJ 195 233 [l0, l1, l2, l3, l4, l5, l6, l7, l8, l9, l10] st m Q) := kJ_if d195_230 rfl (fun h => kJ_next d195_230 h) (fun h => kJ_next d195_230 h)
theorem d195_233 : decode (mB 195) 233 = .ok (.aload_n 0, 1) := by decide +kernel
theorem s195_233 {l1 l2 l3 l4 l5 l6 l7 l8 l9 l10 : Option Value} {st : List Value} {x : Nat} {m : kMem} {Q : Option Value → kMem → Prop} : kJ 195 233 [some (.ref x), l1, l2, l3, l4, l5, l6, l7, l8, l9, l10] st m Q = kJ 195 234 [some (.ref x), l1, l2, l3, l4, l5, l6, l7, l8, l9, l10] (.ref x :: st) m Q := kJ_next d195_233 rfl
theorem d195_234 : decode (mB 195) 234 = .ok (.getfield 7, 3) := by decide +kernel
theorem s195_234 {l0 l1 l2 l3 l4 l5 l6 l7 l8 l9 l10 : Option Value} {st : List Value} {q : Nat} {mi : Nat → Nat → Int32} {ml : Nat → Nat → Int64} {mr : Nat → Nat → Option Nat} {nx : Nat} {Q : Option Value → kMem → Prop} (h : kIs nx q 5 = true) : kJ 195 234 [l0, l1, l2, l3, l4, l5, l6, l7, l8, l9, l10] (.ref q :: st) (mi, ml, mr, nx) Q = kJ 195 237 [l0, l1, l2, l3, l4, l5, l6, l7, l8, l9, l10] (va_rf (mr q 0) :: st) (mi, ml, mr, nx) Q := kJ_next d195_234 (kg_getr 5 0 rfl h (by decide))
theorem d195_237 : decode (mB 195) 237 = .ok (.iload 9, 2) := by decide +kernel
theorem s195_237 {l0 l1 l2 l3 l4 l5 l6 l7 l8 l10 : Option Value} {st : List Value} {x : Int32} {m : kMem} {Q : Option Value → kMem → Prop} : kJ 195 237 [l0, l1, l2, l3, l4, l5, l6, l7, l8, some (.int x), l10] st m Q = kJ 195 239 [l0, l1, l2, l3, l4, l5, l6, l7, l8, some (.int x), l10] (.int x :: st) m Q := kJ_next d195_237 rfl
theorem d195_239 : decode (mB 195) 239 = .ok (.aload_n 0, 1) := by decide +kernel
theorem s195_239 {l1 l2 l3 l4 l5 l6 l7 l8 l9 l10 : Option Value} {st : List Value} {x : Nat} {m : kMem} {Q : Option Value → kMem → Prop} : kJ 195 239 [some (.ref x), l1, l2, l3, l4, l5, l6, l7, l8, l9, l10] st m Q = kJ 195 240 [some (.ref x), l1, l2, l3, l4, l5, l6, l7, l8, l9, l10] (.ref x :: st) m Q := kJ_next d195_239 rfl
theorem d195_240 : decode (mB 195) 240 = .ok (.getfield 41, 3) := by decide +kernel
theorem s195_240 {l0 l1 l2 l3 l4 l5 l6 l7 l8 l9 l10 : Option Value} {st : List Value} {q : Nat} {mi : Nat → Nat → Int32} {ml : Nat → Nat → Int64} {mr : Nat → Nat → Option Nat} {nx : Nat} {Q : Option Value → kMem → Prop} (h : kIs nx q 5 = true) : kJ 195 240 [l0, l1, l2, l3, l4, l5, l6, l7, l8, l9, l10] (.ref q :: st) (mi, ml, mr, nx) Q = kJ 195 243 [l0, l1, l2, l3, l4, l5, l6, l7, l8, l9, l10] (va_rf (mr q 27) :: st) (mi, ml, mr, nx) Q := kJ_next d195_240 (kg_getr 5 27 rfl h (by decide))
theorem d195_243 : decode (mB 195) 243 = .ok (.iload 9, 2) := by decide +kernel
theorem s195_243 {l0 l1 l2 l3 l4 l5 l6 l7 l8 l10 : Option Value} {st : List Value} {x : Int32} {m : kMem} {Q : Option Value → kMem → Prop} : kJ 195 243 [l0, l1, l2, l3, l4, l5, l6, l7, l8, some (.int x), l10] st m Q = kJ 195 245 [l0, l1, l2, l3, l4, l5, l6, l7, l8, some (.int x), l10] (.int x :: st) m Q := kJ_next d195_243 rfl
theorem d195_245 : decode (mB 195) 245 = .ok (.iaload, 1) := by decide +kernel
theorem s195_245 {l0 l1 l2 l3 l4 l5 l6 l7 l8 l9 l10 : Option Value} {st : List Value} {q : Nat} {i : Int32} {mi : Nat → Nat → Int32} {ml : Nat → Nat → Int64} {mr : Nat → Nat → Option Nat} {nx : Nat} {Q : Option Value → kMem → Prop} (h : kIs nx q 10 = true) : kJ 195 245 [l0, l1, l2, l3, l4, l5, l6, l7, l8, l9, l10] (.int i :: .ref q :: st) (mi, ml, mr, nx) Q = (vp_in i (kAl q) ∧ kJ 195 246 [l0, l1, l2, l3, l4, l5, l6, l7, l8, l9, l10] (.int (mi q i.toNatClampNeg) :: st) (mi, ml, mr, nx) Q) := kg_aldJ d195_245 rfl (kAr_of h)
theorem d195_246 : decode (mB 195) 246 = .ok (.iastore, 1) := by decide +kernel
theorem s195_246 {l0 l1 l2 l3 l4 l5 l6 l7 l8 l9 l10 : Option Value} {st : List Value} {q : Nat} {i x : Int32} {mi : Nat → Nat → Int32} {ml : Nat → Nat → Int64} {mr : Nat → Nat → Option Nat} {nx : Nat} {Q : Option Value → kMem → Prop} (h : kIs nx q 10 = true) : kJ 195 246 [l0, l1, l2, l3, l4, l5, l6, l7, l8, l9, l10] (.int x :: .int i :: .ref q :: st) (mi, ml, mr, nx) Q = (vp_in i (kAl q) ∧ kJ 195 247 [l0, l1, l2, l3, l4, l5, l6, l7, l8, l9, l10] st (kup mi q i.toNatClampNeg x, ml, mr, nx) Q) := kg_astJ d195_246 rfl (kAr_of h)
theorem d195_247 : decode (mB 195) 247 = .ok (.iinc 9 1, 3) := by decide +kernel
theorem s195_247 {l0 l1 l2 l3 l4 l5 l6 l7 l8 l10 : Option Value} {st : List Value} {x : Int32} {m : kMem} {Q : Option Value → kMem → Prop} (hp : kNL l8 = true) : kJ 195 247 [l0, l1, l2, l3, l4, l5, l6, l7, l8, some (.int x), l10] st m Q = kJ 195 250 [l0, l1, l2, l3, l4, l5, l6, l7, l8, some (.int (x + (nI 1))), l10] st m Q := kJ_next d195_247 (kg_inc rfl (Nat.le_of_ble_eq_true rfl) hp)
theorem d195_250 : decode (mB 195) 250 = .ok (.goto (-24), 3) := by decide +kernel
theorem s195_250 {l0 l1 l2 l3 l4 l5 l6 l7 l8 l9 l10 : Option Value} {st : List Value} {m : kMem} {Q : Option Value → kMem → Prop} : kJ 195 250 [l0, l1, l2, l3, l4, l5, l6, l7, l8, l9, l10] st m Q = kJ 195 226 [l0, l1, l2, l3, l4, l5, l6, l7, l8, l9, l10] st m Q := kJ_next d195_250 rfl
theorem d195_253 : decode (mB 195) 253 = .ok (.bipush (-20), 2) := by decide +kernel
theorem s195_253 {l0 l1 l2 l3 l4 l5 l6 l7 l8 l9 l10 : Option Value} {st : List Value} {m : kMem} {Q : Option Value → kMem → Prop} : kJ 195 253 [l0, l1, l2, l3, l4, l5, l6, l7, l8, l9, l10] st m Q = kJ 195 255 [l0, l1, l2, l3, l4, l5, l6, l7, l8, l9, l10] (.int (-20) :: st) m Q := kJ_next d195_253 rfl
theorem d195_255 : decode (mB 195) 255 = .ok (.iload 7, 2) := by decide +kernel
theorem s195_255 {l0 l1 l2 l3 l4 l5 l6 l8 l9 l10 : Option Value} {st : List Value} {x : Int32} {m : kMem} {Q : Option Value → kMem → Prop} : kJ 195 255 [l0, l1, l2, l3, l4, l5, l6, some (.int x), l8, l9, l10] st m Q = kJ 195 257 [l0, l1, l2, l3, l4, l5, l6, some (.int x), l8, l9, l10] (.int x :: st) m Q := kJ_next d195_255 rfl
theorem d195_257 : decode (mB 195) 257 = .ok (.isub, 1) := by decide +kernel
theorem s195_257 {l0 l1 l2 l3 l4 l5 l6 l7 l8 l9 l10 : Option Value} {st : List Value} {a b : Int32} {m : kMem} {Q : Option Value → kMem → Prop} : kJ 195 257 [l0, l1, l2, l3, l4, l5, l6, l7, l8, l9, l10] (.int b :: .int a :: st) m Q = kJ 195 258 [l0, l1, l2, l3, l4, l5, l6, l7, l8, l9, l10] (.int (a - b) :: st) m Q := kJ_next d195_257 rfl
theorem d195_258 : decode (mB 195) 258 = .ok (.ireturn, 1) := by decide +kernel
theorem s195_258 {l0 l1 l2 l3 l4 l5 l6 l7 l8 l9 l10 : Option Value} {x : Int32} {m : kMem} {Q : Option Value → kMem → Prop} : kJ 195 258 [l0, l1, l2, l3, l4, l5, l6, l7, l8, l9, l10] [.int x] m Q = Q (some (.int x)) m := kJ_ret d195_258 rfl
theorem d195_259 : decode (mB 195) 259 = .ok (.iinc 6 1, 3) := by decide +kernel
theorem s195_259 {l0 l1 l2 l3 l4 l5 l7 l8 l9 l10 : Option Value} {st : List Value} {x : Int32} {m : kMem} {Q : Option Value → kMem → Prop} (hp : kNL l5 = true) : kJ 195 259 [l0, l1, l2, l3, l4, l5, some (.int x), l7, l8, l9, l10] st m Q = kJ 195 262 [l0, l1, l2, l3, l4, l5, some (.int (x + (nI 1))), l7, l8, l9, l10] st m Q := kJ_next d195_259 (kg_inc rfl (Nat.le_of_ble_eq_true rfl) hp)
theorem d195_262 : decode (mB 195) 262 = .ok (.iinc 7 1, 3) := by decide +kernel
theorem s195_262 {l0 l1 l2 l3 l4 l5 l6 l8 l9 l10 : Option Value} {st : List Value} {x : Int32} {m : kMem} {Q : Option Value → kMem → Prop} (hp : kNL l6 = true) : kJ 195 262 [l0, l1, l2, l3, l4, l5, l6, some (.int x), l8, l9, l10] st m Q = kJ 195 265 [l0, l1, l2, l3, l4, l5, l6, some (.int (x + (nI 1))), l8, l9, l10] st m Q := kJ_next d195_262 (kg_inc rfl (Nat.le_of_ble_eq_true rfl) hp)
theorem d195_265 : decode (mB 195) 265 = .ok (.goto (-203), 3) := by decide +kernel
theorem s195_265 {l0 l1 l2 l3 l4 l5 l6 l7 l8 l9 l10 : Option Value} {st : List Value} {m : kMem} {Q : Option Value → kMem → Prop} : kJ 195 265 [l0, l1, l2, l3, l4, l5, l6, l7, l8, l9, l10] st m Q = kJ 195 62 [l0, l1, l2, l3, l4, l5, l6, l7, l8, l9, l10] st m Q := kJ_next d195_265 rfl
theorem d195_268 : decode (mB 195) 268 = .ok (.aload_n 0, 1) := by decide +kernel
theorem s195_268 {l1 l2 l3 l4 l5 l6 l7 l8 l9 l10 : Option Value} {st : List Value} {x : Nat} {m : kMem} {Q : Option Value → kMem → Prop} : kJ 195 268 [some (.ref x), l1, l2, l3, l4, l5, l6, l7, l8, l9, l10] st m Q = kJ 195 269 [some (.ref x), l1, l2, l3, l4, l5, l6, l7, l8, l9, l10] (.ref x :: st) m Q := kJ_next d195_268 rfl
theorem d195_269 : decode (mB 195) 269 = .ok (.iload 5, 2) := by decide +kernel
theorem s195_269 {l0 l1 l2 l3 l4 l6 l7 l8 l9 l10 : Option Value} {st : List Value} {x : Int32} {m : kMem} {Q : Option Value → kMem → Prop} : kJ 195 269 [l0, l1, l2, l3, l4, some (.int x), l6, l7, l8, l9, l10] st m Q = kJ 195 271 [l0, l1, l2, l3, l4, some (.int x), l6, l7, l8, l9, l10] (.int x :: st) m Q := kJ_next d195_269 rfl
theorem d195_271 : decode (mB 195) 271 = .ok (.putfield 309, 3) := by decide +kernel
theorem s195_271 {l0 l1 l2 l3 l4 l5 l6 l7 l8 l9 l10 : Option Value} {st : List Value} {q : Nat} {x : Int32} {mi : Nat → Nat → Int32} {ml : Nat → Nat → Int64} {mr : Nat → Nat → Option Nat} {nx : Nat} {Q : Option Value → kMem → Prop} (h : kIs nx q 5 = true) : kJ 195 271 [l0, l1, l2, l3, l4, l5, l6, l7, l8, l9, l10] (.int x :: .ref q :: st) (mi, ml, mr, nx) Q = kJ 195 274 [l0, l1, l2, l3, l4, l5, l6, l7, l8, l9, l10] st (kup mi q 26 x, ml, mr, nx) Q := kJ_next d195_271 (kg_puti 5 26 rfl h (by decide) (Or.inl (by decide)))
theorem d195_274 : decode (mB 195) 274 = .ok (.iload 6, 2) := by decide +kernel
theorem s195_274 {l0 l1 l2 l3 l4 l5 l7 l8 l9 l10 : Option Value} {st : List Value} {x : Int32} {m : kMem} {Q : Option Value → kMem → Prop} : kJ 195 274 [l0, l1, l2, l3, l4, l5, some (.int x), l7, l8, l9, l10] st m Q = kJ 195 276 [l0, l1, l2, l3, l4, l5, some (.int x), l7, l8, l9, l10] (.int x :: st) m Q := kJ_next d195_274 rfl
theorem d195_276 : decode (mB 195) 276 = .ok (.ireturn, 1) := by decide +kernel
theorem s195_276 {l0 l1 l2 l3 l4 l5 l6 l7 l8 l9 l10 : Option Value} {x : Int32} {m : kMem} {Q : Option Value → kMem → Prop} : kJ 195 276 [l0, l1, l2, l3, l4, l5, l6, l7, l8, l9, l10] [.int x] m Q = Q (some (.int x)) m := kJ_ret d195_276 rfl
theorem d196_0 : decode (mB 196) 0 = .ok (.aload_n 0, 1) := by decide +kernel
theorem s196_0 {st : List Value} {x : Nat} {m : kMem} {Q : Option Value → kMem → Prop} : kJ 196 0 [some (.ref x)] st m Q = kJ 196 1 [some (.ref x)] (.ref x :: st) m Q := kJ_next d196_0 rfl
theorem d196_1 : decode (mB 196) 1 = .ok (.getfield 309, 3) := by decide +kernel
theorem s196_1 {l0 : Option Value} {st : List Value} {q : Nat} {mi : Nat → Nat → Int32} {ml : Nat → Nat → Int64} {mr : Nat → Nat → Option Nat} {nx : Nat} {Q : Option Value → kMem → Prop} (h : kIs nx q 5 = true) : kJ 196 1 [l0] (.ref q :: st) (mi, ml, mr, nx) Q = kJ 196 4 [l0] (.int (mi q 26) :: st) (mi, ml, mr, nx) Q := kJ_next d196_1 (kg_geti 5 26 rfl h (by decide))
theorem d196_4 : decode (mB 196) 4 = .ok (.ireturn, 1) := by decide +kernel
theorem s196_4 {l0 : Option Value} {x : Int32} {m : kMem} {Q : Option Value → kMem → Prop} : kJ 196 4 [l0] [.int x] m Q = Q (some (.int x)) m := kJ_ret d196_4 rfl
theorem d197_0 : decode (mB 197) 0 = .ok (.iconst 0, 1) := by decide +kernel
theorem s197_0 {l0 l1 l2 l3 l4 : Option Value} {st : List Value} {m : kMem} {Q : Option Value → kMem → Prop} : kJ 197 0 [l0, l1, l2, l3, l4] st m Q = kJ 197 1 [l0, l1, l2, l3, l4] (.int (nI 0) :: st) m Q := kJ_next d197_0 rfl
theorem d197_1 : decode (mB 197) 1 = .ok (.istore_n 2, 1) := by decide +kernel
theorem s197_1 {l0 l1 l2 l3 l4 : Option Value} {st : List Value} {x : Int32} {m : kMem} {Q : Option Value → kMem → Prop} (hp : kNL l1 = true) : kJ 197 1 [l0, l1, l2, l3, l4] (.int x :: st) m Q = kJ 197 2 [l0, l1, some (.int x), l3, l4] st m Q := kJ_next d197_1 (kg_sti (Nat.le_of_ble_eq_true rfl) hp)
theorem d197_2 : decode (mB 197) 2 = .ok (.iconst 0, 1) := by decide +kernel
theorem s197_2 {l0 l1 l2 l3 l4 : Option Value} {st : List Value} {m : kMem} {Q : Option Value → kMem → Prop} : kJ 197 2 [l0, l1, l2, l3, l4] st m Q = kJ 197 3 [l0, l1, l2, l3, l4] (.int (nI 0) :: st) m Q := kJ_next d197_2 rfl
theorem d197_3 : decode (mB 197) 3 = .ok (.istore_n 3, 1) := by decide +kernel
theorem s197_3 {l0 l1 l2 l3 l4 : Option Value} {st : List Value} {x : Int32} {m : kMem} {Q : Option Value → kMem → Prop} (hp : kNL l2 = true) : kJ 197 3 [l0, l1, l2, l3, l4] (.int x :: st) m Q = kJ 197 4 [l0, l1, l2, some (.int x), l4] st m Q := kJ_next d197_3 (kg_sti (Nat.le_of_ble_eq_true rfl) hp)
theorem d197_4 : decode (mB 197) 4 = .ok (.iconst 0, 1) := by decide +kernel
theorem s197_4 {l0 l1 l2 l3 l4 : Option Value} {st : List Value} {m : kMem} {Q : Option Value → kMem → Prop} : kJ 197 4 [l0, l1, l2, l3, l4] st m Q = kJ 197 5 [l0, l1, l2, l3, l4] (.int (nI 0) :: st) m Q := kJ_next d197_4 rfl
theorem d197_5 : decode (mB 197) 5 = .ok (.istore 4, 2) := by decide +kernel
theorem s197_5 {l0 l1 l2 l3 l4 : Option Value} {st : List Value} {x : Int32} {m : kMem} {Q : Option Value → kMem → Prop} (hp : kNL l3 = true) : kJ 197 5 [l0, l1, l2, l3, l4] (.int x :: st) m Q = kJ 197 7 [l0, l1, l2, l3, some (.int x)] st m Q := kJ_next d197_5 (kg_sti (Nat.le_of_ble_eq_true rfl) hp)
theorem d197_7 : decode (mB 197) 7 = .ok (.iload 4, 2) := by decide +kernel
theorem s197_7 {l0 l1 l2 l3 : Option Value} {st : List Value} {x : Int32} {m : kMem} {Q : Option Value → kMem → Prop} : kJ 197 7 [l0, l1, l2, l3, some (.int x)] st m Q = kJ 197 9 [l0, l1, l2, l3, some (.int x)] (.int x :: st) m Q := kJ_next d197_7 rfl
theorem d197_9 : decode (mB 197) 9 = .ok (.aload_n 0, 1) := by decide +kernel
theorem s197_9 {l1 l2 l3 l4 : Option Value} {st : List Value} {x : Nat} {m : kMem} {Q : Option Value → kMem → Prop} : kJ 197 9 [some (.ref x), l1, l2, l3, l4] st m Q = kJ 197 10 [some (.ref x), l1, l2, l3, l4] (.ref x :: st) m Q := kJ_next d197_9 rfl
theorem d197_10 : decode (mB 197) 10 = .ok (.getfield 7, 3) := by decide +kernel
theorem s197_10 {l0 l1 l2 l3 l4 : Option Value} {st : List Value} {q : Nat} {mi : Nat → Nat → Int32} {ml : Nat → Nat → Int64} {mr : Nat → Nat → Option Nat} {nx : Nat} {Q : Option Value → kMem → Prop} (h : kIs nx q 5 = true) : kJ 197 10 [l0, l1, l2, l3, l4] (.ref q :: st) (mi, ml, mr, nx) Q = kJ 197 13 [l0, l1, l2, l3, l4] (va_rf (mr q 0) :: st) (mi, ml, mr, nx) Q := kJ_next d197_10 (kg_getr 5 0 rfl h (by decide))
theorem d197_13 : decode (mB 197) 13 = .ok (.bipush 52, 2) := by decide +kernel
theorem s197_13 {l0 l1 l2 l3 l4 : Option Value} {st : List Value} {m : kMem} {Q : Option Value → kMem → Prop} : kJ 197 13 [l0, l1, l2, l3, l4] st m Q = kJ 197 15 [l0, l1, l2, l3, l4] (.int (nI 52) :: st) m Q := kJ_next d197_13 rfl
theorem d197_15 : decode (mB 197) 15 = .ok (.iaload, 1) := by decide +kernel
theorem s197_15 {l0 l1 l2 l3 l4 : Option Value} {st : List Value} {q : Nat} {i : Int32} {mi : Nat → Nat → Int32} {ml : Nat → Nat → Int64} {mr : Nat → Nat → Option Nat} {nx : Nat} {Q : Option Value → kMem → Prop} (h : kIs nx q 10 = true) : kJ 197 15 [l0, l1, l2, l3, l4] (.int i :: .ref q :: st) (mi, ml, mr, nx) Q = (vp_in i (kAl q) ∧ kJ 197 16 [l0, l1, l2, l3, l4] (.int (mi q i.toNatClampNeg) :: st) (mi, ml, mr, nx) Q) := kg_aldJ d197_15 rfl (kAr_of h)
theorem d197_16 : decode (mB 197) 16 = .ok (.if_icmp .ge 27, 3) := by decide +kernel
theorem s197_16 {l0 l1 l2 l3 l4 : Option Value} {st : List Value} {a b : Int32} {m : kMem} {Q : Option Value → kMem → Prop} : kJ 197 16 [l0, l1, l2, l3, l4] (.int b :: .int a :: st) m Q = (if b ≤ a then kJ 197 43 [l0, l1, l2, l3, l4] st m Q else kJ 197 19 [l0, l1, l2, l3, l4] st m Q) := kJ_if d197_16 rfl (fun h => kJ_next d197_16 h) (fun h => kJ_next d197_16 h)
theorem d197_19 : decode (mB 197) 19 = .ok (.iload_n 2, 1) := by decide +kernel
theorem s197_19 {l0 l1 l3 l4 : Option Value} {st : List Value} {x : Int32} {m : kMem} {Q : Option Value → kMem → Prop} : kJ 197 19 [l0, l1, some (.int x), l3, l4] st m Q = kJ 197 20 [l0, l1, some (.int x), l3, l4] (.int x :: st) m Q := kJ_next d197_19 rfl
theorem d197_20 : decode (mB 197) 20 = .ok (.aload_n 0, 1) := by decide +kernel
theorem s197_20 {l1 l2 l3 l4 : Option Value} {st : List Value} {x : Nat} {m : kMem} {Q : Option Value → kMem → Prop} : kJ 197 20 [some (.ref x), l1, l2, l3, l4] st m Q = kJ 197 21 [some (.ref x), l1, l2, l3, l4] (.ref x :: st) m Q := kJ_next d197_20 rfl
theorem d197_21 : decode (mB 197) 21 = .ok (.getfield 7, 3) := by decide +kernel
theorem s197_21 {l0 l1 l2 l3 l4 : Option Value} {st : List Value} {q : Nat} {mi : Nat → Nat → Int32} {ml : Nat → Nat → Int64} {mr : Nat → Nat → Option Nat} {nx : Nat} {Q : Option Value → kMem → Prop} (h : kIs nx q 5 = true) : kJ 197 21 [l0, l1, l2, l3, l4] (.ref q :: st) (mi, ml, mr, nx) Q = kJ 197 24 [l0, l1, l2, l3, l4] (va_rf (mr q 0) :: st) (mi, ml, mr, nx) Q := kJ_next d197_21 (kg_getr 5 0 rfl h (by decide))
theorem d197_24 : decode (mB 197) 24 = .ok (.bipush 16, 2) := by decide +kernel
theorem s197_24 {l0 l1 l2 l3 l4 : Option Value} {st : List Value} {m : kMem} {Q : Option Value → kMem → Prop} : kJ 197 24 [l0, l1, l2, l3, l4] st m Q = kJ 197 26 [l0, l1, l2, l3, l4] (.int (nI 16) :: st) m Q := kJ_next d197_24 rfl
theorem d197_26 : decode (mB 197) 26 = .ok (.bipush 6, 2) := by decide +kernel
theorem s197_26 {l0 l1 l2 l3 l4 : Option Value} {st : List Value} {m : kMem} {Q : Option Value → kMem → Prop} : kJ 197 26 [l0, l1, l2, l3, l4] st m Q = kJ 197 28 [l0, l1, l2, l3, l4] (.int (nI 6) :: st) m Q := kJ_next d197_26 rfl
theorem d197_28 : decode (mB 197) 28 = .ok (.iload 4, 2) := by decide +kernel
theorem s197_28 {l0 l1 l2 l3 : Option Value} {st : List Value} {x : Int32} {m : kMem} {Q : Option Value → kMem → Prop} : kJ 197 28 [l0, l1, l2, l3, some (.int x)] st m Q = kJ 197 30 [l0, l1, l2, l3, some (.int x)] (.int x :: st) m Q := kJ_next d197_28 rfl
theorem d197_30 : decode (mB 197) 30 = .ok (.imul, 1) := by decide +kernel
theorem s197_30 {l0 l1 l2 l3 l4 : Option Value} {st : List Value} {a b : Int32} {m : kMem} {Q : Option Value → kMem → Prop} : kJ 197 30 [l0, l1, l2, l3, l4] (.int b :: .int a :: st) m Q = kJ 197 31 [l0, l1, l2, l3, l4] (.int (a * b) :: st) m Q := kJ_next d197_30 rfl
theorem d197_31 : decode (mB 197) 31 = .ok (.iadd, 1) := by decide +kernel
theorem s197_31 {l0 l1 l2 l3 l4 : Option Value} {st : List Value} {a b : Int32} {m : kMem} {Q : Option Value → kMem → Prop} : kJ 197 31 [l0, l1, l2, l3, l4] (.int b :: .int a :: st) m Q = kJ 197 32 [l0, l1, l2, l3, l4] (.int (a + b) :: st) m Q := kJ_next d197_31 rfl
theorem d197_32 : decode (mB 197) 32 = .ok (.iconst 3, 1) := by decide +kernel
theorem s197_32 {l0 l1 l2 l3 l4 : Option Value} {st : List Value} {m : kMem} {Q : Option Value → kMem → Prop} : kJ 197 32 [l0, l1, l2, l3, l4] st m Q = kJ 197 33 [l0, l1, l2, l3, l4] (.int (nI 3) :: st) m Q := kJ_next d197_32 rfl
theorem d197_33 : decode (mB 197) 33 = .ok (.iadd, 1) := by decide +kernel
theorem s197_33 {l0 l1 l2 l3 l4 : Option Value} {st : List Value} {a b : Int32} {m : kMem} {Q : Option Value → kMem → Prop} : kJ 197 33 [l0, l1, l2, l3, l4] (.int b :: .int a :: st) m Q = kJ 197 34 [l0, l1, l2, l3, l4] (.int (a + b) :: st) m Q := kJ_next d197_33 rfl
theorem d197_34 : decode (mB 197) 34 = .ok (.iaload, 1) := by decide +kernel
theorem s197_34 {l0 l1 l2 l3 l4 : Option Value} {st : List Value} {q : Nat} {i : Int32} {mi : Nat → Nat → Int32} {ml : Nat → Nat → Int64} {mr : Nat → Nat → Option Nat} {nx : Nat} {Q : Option Value → kMem → Prop} (h : kIs nx q 10 = true) : kJ 197 34 [l0, l1, l2, l3, l4] (.int i :: .ref q :: st) (mi, ml, mr, nx) Q = (vp_in i (kAl q) ∧ kJ 197 35 [l0, l1, l2, l3, l4] (.int (mi q i.toNatClampNeg) :: st) (mi, ml, mr, nx) Q) := kg_aldJ d197_34 rfl (kAr_of h)
theorem d197_35 : decode (mB 197) 35 = .ok (.iadd, 1) := by decide +kernel
theorem s197_35 {l0 l1 l2 l3 l4 : Option Value} {st : List Value} {a b : Int32} {m : kMem} {Q : Option Value → kMem → Prop} : kJ 197 35 [l0, l1, l2, l3, l4] (.int b :: .int a :: st) m Q = kJ 197 36 [l0, l1, l2, l3, l4] (.int (a + b) :: st) m Q := kJ_next d197_35 rfl
theorem d197_36 : decode (mB 197) 36 = .ok (.istore_n 2, 1) := by decide +kernel
theorem s197_36 {l0 l1 l2 l3 l4 : Option Value} {st : List Value} {x : Int32} {m : kMem} {Q : Option Value → kMem → Prop} (hp : kNL l1 = true) : kJ 197 36 [l0, l1, l2, l3, l4] (.int x :: st) m Q = kJ 197 37 [l0, l1, some (.int x), l3, l4] st m Q := kJ_next d197_36 (kg_sti (Nat.le_of_ble_eq_true rfl) hp)
theorem d197_37 : decode (mB 197) 37 = .ok (.iinc 4 1, 3) := by decide +kernel
theorem s197_37 {l0 l1 l2 l3 : Option Value} {st : List Value} {x : Int32} {m : kMem} {Q : Option Value → kMem → Prop} (hp : kNL l3 = true) : kJ 197 37 [l0, l1, l2, l3, some (.int x)] st m Q = kJ 197 40 [l0, l1, l2, l3, some (.int (x + (nI 1)))] st m Q := kJ_next d197_37 (kg_inc rfl (Nat.le_of_ble_eq_true rfl) hp)
theorem d197_40 : decode (mB 197) 40 = .ok (.goto (-33), 3) := by decide +kernel
theorem s197_40 {l0 l1 l2 l3 l4 : Option Value} {st : List Value} {m : kMem} {Q : Option Value → kMem → Prop} : kJ 197 40 [l0, l1, l2, l3, l4] st m Q = kJ 197 7 [l0, l1, l2, l3, l4] st m Q := kJ_next d197_40 rfl
theorem d197_43 : decode (mB 197) 43 = .ok (.iconst 0, 1) := by decide +kernel
theorem s197_43 {l0 l1 l2 l3 l4 : Option Value} {st : List Value} {m : kMem} {Q : Option Value → kMem → Prop} : kJ 197 43 [l0, l1, l2, l3, l4] st m Q = kJ 197 44 [l0, l1, l2, l3, l4] (.int (nI 0) :: st) m Q := kJ_next d197_43 rfl
theorem d197_44 : decode (mB 197) 44 = .ok (.istore 4, 2) := by decide +kernel
theorem s197_44 {l0 l1 l2 l3 l4 : Option Value} {st : List Value} {x : Int32} {m : kMem} {Q : Option Value → kMem → Prop} (hp : kNL l3 = true) : kJ 197 44 [l0, l1, l2, l3, l4] (.int x :: st) m Q = kJ 197 46 [l0, l1, l2, l3, some (.int x)] st m Q := kJ_next d197_44 (kg_sti (Nat.le_of_ble_eq_true rfl) hp)
theorem d197_46 : decode (mB 197) 46 = .ok (.iload 4, 2) := by decide +kernel
theorem s197_46 {l0 l1 l2 l3 : Option Value} {st : List Value} {x : Int32} {m : kMem} {Q : Option Value → kMem → Prop} : kJ 197 46 [l0, l1, l2, l3, some (.int x)] st m Q = kJ 197 48 [l0, l1, l2, l3, some (.int x)] (.int x :: st) m Q := kJ_next d197_46 rfl
theorem d197_48 : decode (mB 197) 48 = .ok (.aload_n 0, 1) := by decide +kernel
theorem s197_48 {l1 l2 l3 l4 : Option Value} {st : List Value} {x : Nat} {m : kMem} {Q : Option Value → kMem → Prop} : kJ 197 48 [some (.ref x), l1, l2, l3, l4] st m Q = kJ 197 49 [some (.ref x), l1, l2, l3, l4] (.ref x :: st) m Q := kJ_next d197_48 rfl
theorem d197_49 : decode (mB 197) 49 = .ok (.getfield 7, 3) := by decide +kernel
theorem s197_49 {l0 l1 l2 l3 l4 : Option Value} {st : List Value} {q : Nat} {mi : Nat → Nat → Int32} {ml : Nat → Nat → Int64} {mr : Nat → Nat → Option Nat} {nx : Nat} {Q : Option Value → kMem → Prop} (h : kIs nx q 5 = true) : kJ 197 49 [l0, l1, l2, l3, l4] (.ref q :: st) (mi, ml, mr, nx) Q = kJ 197 52 [l0, l1, l2, l3, l4] (va_rf (mr q 0) :: st) (mi, ml, mr, nx) Q := kJ_next d197_49 (kg_getr 5 0 rfl h (by decide))
theorem d197_52 : decode (mB 197) 52 = .ok (.bipush 15, 2) := by decide +kernel
theorem s197_52 {l0 l1 l2 l3 l4 : Option Value} {st : List Value} {m : kMem} {Q : Option Value → kMem → Prop} : kJ 197 52 [l0, l1, l2, l3, l4] st m Q = kJ 197 54 [l0, l1, l2, l3, l4] (.int (nI 15) :: st) m Q := kJ_next d197_52 rfl
theorem d197_54 : decode (mB 197) 54 = .ok (.iaload, 1) := by decide +kernel
theorem s197_54 {l0 l1 l2 l3 l4 : Option Value} {st : List Value} {q : Nat} {i : Int32} {mi : Nat → Nat → Int32} {ml : Nat → Nat → Int64} {mr : Nat → Nat → Option Nat} {nx : Nat} {Q : Option Value → kMem → Prop} (h : kIs nx q 10 = true) : kJ 197 54 [l0, l1, l2, l3, l4] (.int i :: .ref q :: st) (mi, ml, mr, nx) Q = (vp_in i (kAl q) ∧ kJ 197 55 [l0, l1, l2, l3, l4] (.int (mi q i.toNatClampNeg) :: st) (mi, ml, mr, nx) Q) := kg_aldJ d197_54 rfl (kAr_of h)
theorem d197_55 : decode (mB 197) 55 = .ok (.if_icmp .ge 23, 3) := by decide +kernel
theorem s197_55 {l0 l1 l2 l3 l4 : Option Value} {st : List Value} {a b : Int32} {m : kMem} {Q : Option Value → kMem → Prop} : kJ 197 55 [l0, l1, l2, l3, l4] (.int b :: .int a :: st) m Q = (if b ≤ a then kJ 197 78 [l0, l1, l2, l3, l4] st m Q else kJ 197 58 [l0, l1, l2, l3, l4] st m Q) := kJ_if d197_55 rfl (fun h => kJ_next d197_55 h) (fun h => kJ_next d197_55 h)
theorem d197_58 : decode (mB 197) 58 = .ok (.iload_n 3, 1) := by decide +kernel
theorem s197_58 {l0 l1 l2 l4 : Option Value} {st : List Value} {x : Int32} {m : kMem} {Q : Option Value → kMem → Prop} : kJ 197 58 [l0, l1, l2, some (.int x), l4] st m Q = kJ 197 59 [l0, l1, l2, some (.int x), l4] (.int x :: st) m Q := kJ_next d197_58 rfl
theorem d197_59 : decode (mB 197) 59 = .ok (.aload_n 0, 1) := by decide +kernel
theorem s197_59 {l1 l2 l3 l4 : Option Value} {st : List Value} {x : Nat} {m : kMem} {Q : Option Value → kMem → Prop} : kJ 197 59 [some (.ref x), l1, l2, l3, l4] st m Q = kJ 197 60 [some (.ref x), l1, l2, l3, l4] (.ref x :: st) m Q := kJ_next d197_59 rfl
theorem d197_60 : decode (mB 197) 60 = .ok (.getfield 7, 3) := by decide +kernel
theorem s197_60 {l0 l1 l2 l3 l4 : Option Value} {st : List Value} {q : Nat} {mi : Nat → Nat → Int32} {ml : Nat → Nat → Int64} {mr : Nat → Nat → Option Nat} {nx : Nat} {Q : Option Value → kMem → Prop} (h : kIs nx q 5 = true) : kJ 197 60 [l0, l1, l2, l3, l4] (.ref q :: st) (mi, ml, mr, nx) Q = kJ 197 63 [l0, l1, l2, l3, l4] (va_rf (mr q 0) :: st) (mi, ml, mr, nx) Q := kJ_next d197_60 (kg_getr 5 0 rfl h (by decide))
theorem d197_63 : decode (mB 197) 63 = .ok (.iconst 3, 1) := by decide +kernel
theorem s197_63 {l0 l1 l2 l3 l4 : Option Value} {st : List Value} {m : kMem} {Q : Option Value → kMem → Prop} : kJ 197 63 [l0, l1, l2, l3, l4] st m Q = kJ 197 64 [l0, l1, l2, l3, l4] (.int (nI 3) :: st) m Q := kJ_next d197_63 rfl
theorem d197_64 : decode (mB 197) 64 = .ok (.iload 4, 2) := by decide +kernel
theorem s197_64 {l0 l1 l2 l3 : Option Value} {st : List Value} {x : Int32} {m : kMem} {Q : Option Value → kMem → Prop} : kJ 197 64 [l0, l1, l2, l3, some (.int x)] st m Q = kJ 197 66 [l0, l1, l2, l3, some (.int x)] (.int x :: st) m Q := kJ_next d197_64 rfl
theorem d197_66 : decode (mB 197) 66 = .ok (.imul, 1) := by decide +kernel
theorem s197_66 {l0 l1 l2 l3 l4 : Option Value} {st : List Value} {a b : Int32} {m : kMem} {Q : Option Value → kMem → Prop} : kJ 197 66 [l0, l1, l2, l3, l4] (.int b :: .int a :: st) m Q = kJ 197 67 [l0, l1, l2, l3, l4] (.int (a * b) :: st) m Q := kJ_next d197_66 rfl
theorem d197_67 : decode (mB 197) 67 = .ok (.iconst 1, 1) := by decide +kernel
theorem s197_67 {l0 l1 l2 l3 l4 : Option Value} {st : List Value} {m : kMem} {Q : Option Value → kMem → Prop} : kJ 197 67 [l0, l1, l2, l3, l4] st m Q = kJ 197 68 [l0, l1, l2, l3, l4] (.int (nI 1) :: st) m Q := kJ_next d197_67 rfl
theorem d197_68 : decode (mB 197) 68 = .ok (.iadd, 1) := by decide +kernel
theorem s197_68 {l0 l1 l2 l3 l4 : Option Value} {st : List Value} {a b : Int32} {m : kMem} {Q : Option Value → kMem → Prop} : kJ 197 68 [l0, l1, l2, l3, l4] (.int b :: .int a :: st) m Q = kJ 197 69 [l0, l1, l2, l3, l4] (.int (a + b) :: st) m Q := kJ_next d197_68 rfl
theorem d197_69 : decode (mB 197) 69 = .ok (.iaload, 1) := by decide +kernel
theorem s197_69 {l0 l1 l2 l3 l4 : Option Value} {st : List Value} {q : Nat} {i : Int32} {mi : Nat → Nat → Int32} {ml : Nat → Nat → Int64} {mr : Nat → Nat → Option Nat} {nx : Nat} {Q : Option Value → kMem → Prop} (h : kIs nx q 10 = true) : kJ 197 69 [l0, l1, l2, l3, l4] (.int i :: .ref q :: st) (mi, ml, mr, nx) Q = (vp_in i (kAl q) ∧ kJ 197 70 [l0, l1, l2, l3, l4] (.int (mi q i.toNatClampNeg) :: st) (mi, ml, mr, nx) Q) := kg_aldJ d197_69 rfl (kAr_of h)
theorem d197_70 : decode (mB 197) 70 = .ok (.iadd, 1) := by decide +kernel
theorem s197_70 {l0 l1 l2 l3 l4 : Option Value} {st : List Value} {a b : Int32} {m : kMem} {Q : Option Value → kMem → Prop} : kJ 197 70 [l0, l1, l2, l3, l4] (.int b :: .int a :: st) m Q = kJ 197 71 [l0, l1, l2, l3, l4] (.int (a + b) :: st) m Q := kJ_next d197_70 rfl
theorem d197_71 : decode (mB 197) 71 = .ok (.istore_n 3, 1) := by decide +kernel
theorem s197_71 {l0 l1 l2 l3 l4 : Option Value} {st : List Value} {x : Int32} {m : kMem} {Q : Option Value → kMem → Prop} (hp : kNL l2 = true) : kJ 197 71 [l0, l1, l2, l3, l4] (.int x :: st) m Q = kJ 197 72 [l0, l1, l2, some (.int x), l4] st m Q := kJ_next d197_71 (kg_sti (Nat.le_of_ble_eq_true rfl) hp)
theorem d197_72 : decode (mB 197) 72 = .ok (.iinc 4 1, 3) := by decide +kernel
theorem s197_72 {l0 l1 l2 l3 : Option Value} {st : List Value} {x : Int32} {m : kMem} {Q : Option Value → kMem → Prop} (hp : kNL l3 = true) : kJ 197 72 [l0, l1, l2, l3, some (.int x)] st m Q = kJ 197 75 [l0, l1, l2, l3, some (.int (x + (nI 1)))] st m Q := kJ_next d197_72 (kg_inc rfl (Nat.le_of_ble_eq_true rfl) hp)
theorem d197_75 : decode (mB 197) 75 = .ok (.goto (-29), 3) := by decide +kernel
theorem s197_75 {l0 l1 l2 l3 l4 : Option Value} {st : List Value} {m : kMem} {Q : Option Value → kMem → Prop} : kJ 197 75 [l0, l1, l2, l3, l4] st m Q = kJ 197 46 [l0, l1, l2, l3, l4] st m Q := kJ_next d197_75 rfl
theorem d197_78 : decode (mB 197) 78 = .ok (.iload_n 1, 1) := by decide +kernel
theorem s197_78 {l0 l2 l3 l4 : Option Value} {st : List Value} {x : Int32} {m : kMem} {Q : Option Value → kMem → Prop} : kJ 197 78 [l0, some (.int x), l2, l3, l4] st m Q = kJ 197 79 [l0, some (.int x), l2, l3, l4] (.int x :: st) m Q := kJ_next d197_78 rfl
theorem d197_79 : decode (mB 197) 79 = .ok (.tableswitch 97 0 5 #[37, 45, 65, 70, 93, 95], 37) := by decide +kernel
theorem s197_79 {l0 l1 l2 l3 l4 : Option Value} {st : List Value} {a : Int32} {m : kMem} {Q : Option Value → kMem → Prop} : kJ 197 79 [l0, l1, l2, l3, l4] (.int a :: st) m Q = (if a = (nI 0) then kJ 197 116 [l0, l1, l2, l3, l4] st m Q else if a = (nI 1) then kJ 197 124 [l0, l1, l2, l3, l4] st m Q else if a = (nI 2) then kJ 197 144 [l0, l1, l2, l3, l4] st m Q else if a = (nI 3) then kJ 197 149 [l0, l1, l2, l3, l4] st m Q else if a = (nI 4) then kJ 197 172 [l0, l1, l2, l3, l4] st m Q else if a = (nI 5) then kJ 197 174 [l0, l1, l2, l3, l4] st m Q else kJ 197 176 [l0, l1, l2, l3, l4] st m Q) := by
  by_cases h0 : a = nI 0
  · subst h0; exact kJ_next d197_79 rfl
  rw [if_neg h0]
  by_cases h1 : a = nI 1
  · subst h1; exact kJ_next d197_79 rfl
  rw [if_neg h1]
  by_cases h2 : a = nI 2
  · subst h2; exact kJ_next d197_79 rfl
  rw [if_neg h2]
  by_cases h3 : a = nI 3
  · subst h3; exact kJ_next d197_79 rfl
  rw [if_neg h3]
  by_cases h4 : a = nI 4
  · subst h4; exact kJ_next d197_79 rfl
  rw [if_neg h4]
  by_cases h5 : a = nI 5
  · subst h5; exact kJ_next d197_79 rfl
  rw [if_neg h5]
  have hz : ∀ j, j < 0 → a ≠ nI j := fun j hj => absurd hj (Nat.not_lt_zero j)
  refine kJ_next d197_79 (if_pos (c := a.toInt < 0 ∨ (5 : Int) < a.toInt) ?_)
  have hr := kg_rng (a := a) (n := 5) (by decide) (fun j hj => by
    rcases Nat.lt_or_ge j 0 with hl | hl
    · exact hz j hl
    · have hj2 : j = 0 ∨ j = 1 ∨ j = 2 ∨ j = 3 ∨ j = 4 ∨ j = 5 := by omega
      rcases hj2 with rfl | rfl | rfl | rfl | rfl | rfl
      · exact h0
      · exact h1
      · exact h2
      · exact h3
      · exact h4
      · exact h5
    )
  omega
theorem d197_116 : decode (mB 197) 116 = .ok (.aload_n 0, 1) := by decide +kernel
theorem s197_116 {l1 l2 l3 l4 : Option Value} {st : List Value} {x : Nat} {m : kMem} {Q : Option Value → kMem → Prop} : kJ 197 116 [some (.ref x), l1, l2, l3, l4] st m Q = kJ 197 117 [some (.ref x), l1, l2, l3, l4] (.ref x :: st) m Q := kJ_next d197_116 rfl
theorem d197_117 : decode (mB 197) 117 = .ok (.getfield 7, 3) := by decide +kernel
theorem s197_117 {l0 l1 l2 l3 l4 : Option Value} {st : List Value} {q : Nat} {mi : Nat → Nat → Int32} {ml : Nat → Nat → Int64} {mr : Nat → Nat → Option Nat} {nx : Nat} {Q : Option Value → kMem → Prop} (h : kIs nx q 5 = true) : kJ 197 117 [l0, l1, l2, l3, l4] (.ref q :: st) (mi, ml, mr, nx) Q = kJ 197 120 [l0, l1, l2, l3, l4] (va_rf (mr q 0) :: st) (mi, ml, mr, nx) Q := kJ_next d197_117 (kg_getr 5 0 rfl h (by decide))
theorem d197_120 : decode (mB 197) 120 = .ok (.bipush 55, 2) := by decide +kernel
theorem s197_120 {l0 l1 l2 l3 l4 : Option Value} {st : List Value} {m : kMem} {Q : Option Value → kMem → Prop} : kJ 197 120 [l0, l1, l2, l3, l4] st m Q = kJ 197 122 [l0, l1, l2, l3, l4] (.int (nI 55) :: st) m Q := kJ_next d197_120 rfl
theorem d197_122 : decode (mB 197) 122 = .ok (.iaload, 1) := by decide +kernel
theorem s197_122 {l0 l1 l2 l3 l4 : Option Value} {st : List Value} {q : Nat} {i : Int32} {mi : Nat → Nat → Int32} {ml : Nat → Nat → Int64} {mr : Nat → Nat → Option Nat} {nx : Nat} {Q : Option Value → kMem → Prop} (h : kIs nx q 10 = true) : kJ 197 122 [l0, l1, l2, l3, l4] (.int i :: .ref q :: st) (mi, ml, mr, nx) Q = (vp_in i (kAl q) ∧ kJ 197 123 [l0, l1, l2, l3, l4] (.int (mi q i.toNatClampNeg) :: st) (mi, ml, mr, nx) Q) := kg_aldJ d197_122 rfl (kAr_of h)
theorem d197_123 : decode (mB 197) 123 = .ok (.ireturn, 1) := by decide +kernel
theorem s197_123 {l0 l1 l2 l3 l4 : Option Value} {x : Int32} {m : kMem} {Q : Option Value → kMem → Prop} : kJ 197 123 [l0, l1, l2, l3, l4] [.int x] m Q = Q (some (.int x)) m := kJ_ret d197_123 rfl
theorem d197_124 : decode (mB 197) 124 = .ok (.aload_n 0, 1) := by decide +kernel
theorem s197_124 {l1 l2 l3 l4 : Option Value} {st : List Value} {x : Nat} {m : kMem} {Q : Option Value → kMem → Prop} : kJ 197 124 [some (.ref x), l1, l2, l3, l4] st m Q = kJ 197 125 [some (.ref x), l1, l2, l3, l4] (.ref x :: st) m Q := kJ_next d197_124 rfl
theorem d197_125 : decode (mB 197) 125 = .ok (.getfield 16, 3) := by decide +kernel
theorem s197_125 {l0 l1 l2 l3 l4 : Option Value} {st : List Value} {q : Nat} {mi : Nat → Nat → Int32} {ml : Nat → Nat → Int64} {mr : Nat → Nat → Option Nat} {nx : Nat} {Q : Option Value → kMem → Prop} (h : kIs nx q 5 = true) : kJ 197 125 [l0, l1, l2, l3, l4] (.ref q :: st) (mi, ml, mr, nx) Q = kJ 197 128 [l0, l1, l2, l3, l4] (va_rf (mr q 2) :: st) (mi, ml, mr, nx) Q := kJ_next d197_125 (kg_getr 5 2 rfl h (by decide))
theorem d197_128 : decode (mB 197) 128 = .ok (.iconst 0, 1) := by decide +kernel
theorem s197_128 {l0 l1 l2 l3 l4 : Option Value} {st : List Value} {m : kMem} {Q : Option Value → kMem → Prop} : kJ 197 128 [l0, l1, l2, l3, l4] st m Q = kJ 197 129 [l0, l1, l2, l3, l4] (.int (nI 0) :: st) m Q := kJ_next d197_128 rfl
theorem d197_129 : decode (mB 197) 129 = .ok (.baload, 1) := by decide +kernel
theorem s197_129 {l0 l1 l2 l3 l4 : Option Value} {st : List Value} {q : Nat} {i : Int32} {mi : Nat → Nat → Int32} {ml : Nat → Nat → Int64} {mr : Nat → Nat → Option Nat} {nx : Nat} {Q : Option Value → kMem → Prop} (h : kIs nx q 11 = true) : kJ 197 129 [l0, l1, l2, l3, l4] (.int i :: .ref q :: st) (mi, ml, mr, nx) Q = (vp_in i (kAl q) ∧ kJ 197 130 [l0, l1, l2, l3, l4] (.int (mi q i.toNatClampNeg) :: st) (mi, ml, mr, nx) Q) := kg_aldJ d197_129 rfl (kAr_of h)
theorem d197_130 : decode (mB 197) 130 = .ok (.invokestatic 191, 3) := by decide +kernel
theorem s197_130 {l0 l1 l2 l3 l4 : Option Value} {v0 : Int32} {m : kMem} {Q : Option Value → kMem → Prop} : kJ 197 130 [l0, l1, l2, l3, l4] [.int v0] m Q = kJ 108 0 [some (.int v0)] [] m (fun v m2 => kJ 197 133 [l0, l1, l2, l3, l4] (v.toList ++ []) m2 Q) := kJ_call d197_130 (kg_calls 108 1 rfl rfl (Nat.le_of_ble_eq_true rfl) (Nat.le_of_ble_eq_true rfl) (Nat.le_of_ble_eq_true rfl) (Nat.le_of_ble_eq_true rfl))
theorem d197_133 : decode (mB 197) 133 = .ok (.aload_n 0, 1) := by decide +kernel
theorem s197_133 {l1 l2 l3 l4 : Option Value} {st : List Value} {x : Nat} {m : kMem} {Q : Option Value → kMem → Prop} : kJ 197 133 [some (.ref x), l1, l2, l3, l4] st m Q = kJ 197 134 [some (.ref x), l1, l2, l3, l4] (.ref x :: st) m Q := kJ_next d197_133 rfl
theorem d197_134 : decode (mB 197) 134 = .ok (.getfield 16, 3) := by decide +kernel
theorem s197_134 {l0 l1 l2 l3 l4 : Option Value} {st : List Value} {q : Nat} {mi : Nat → Nat → Int32} {ml : Nat → Nat → Int64} {mr : Nat → Nat → Option Nat} {nx : Nat} {Q : Option Value → kMem → Prop} (h : kIs nx q 5 = true) : kJ 197 134 [l0, l1, l2, l3, l4] (.ref q :: st) (mi, ml, mr, nx) Q = kJ 197 137 [l0, l1, l2, l3, l4] (va_rf (mr q 2) :: st) (mi, ml, mr, nx) Q := kJ_next d197_134 (kg_getr 5 2 rfl h (by decide))
theorem d197_137 : decode (mB 197) 137 = .ok (.iconst 1, 1) := by decide +kernel
theorem s197_137 {l0 l1 l2 l3 l4 : Option Value} {st : List Value} {m : kMem} {Q : Option Value → kMem → Prop} : kJ 197 137 [l0, l1, l2, l3, l4] st m Q = kJ 197 138 [l0, l1, l2, l3, l4] (.int (nI 1) :: st) m Q := kJ_next d197_137 rfl
theorem d197_138 : decode (mB 197) 138 = .ok (.baload, 1) := by decide +kernel
theorem s197_138 {l0 l1 l2 l3 l4 : Option Value} {st : List Value} {q : Nat} {i : Int32} {mi : Nat → Nat → Int32} {ml : Nat → Nat → Int64} {mr : Nat → Nat → Option Nat} {nx : Nat} {Q : Option Value → kMem → Prop} (h : kIs nx q 11 = true) : kJ 197 138 [l0, l1, l2, l3, l4] (.int i :: .ref q :: st) (mi, ml, mr, nx) Q = (vp_in i (kAl q) ∧ kJ 197 139 [l0, l1, l2, l3, l4] (.int (mi q i.toNatClampNeg) :: st) (mi, ml, mr, nx) Q) := kg_aldJ d197_138 rfl (kAr_of h)
theorem d197_139 : decode (mB 197) 139 = .ok (.invokestatic 191, 3) := by decide +kernel
theorem s197_139 {l0 l1 l2 l3 l4 : Option Value} {v0 : Int32} {v1 : Int32} {m : kMem} {Q : Option Value → kMem → Prop} : kJ 197 139 [l0, l1, l2, l3, l4] [.int v0, .int v1] m Q = kJ 108 0 [some (.int v0)] [] m (fun v m2 => kJ 197 142 [l0, l1, l2, l3, l4] (v.toList ++ [.int v1]) m2 Q) := kJ_call d197_139 (kg_calls 108 1 rfl rfl (Nat.le_of_ble_eq_true rfl) (Nat.le_of_ble_eq_true rfl) (Nat.le_of_ble_eq_true rfl) (Nat.le_of_ble_eq_true rfl))
theorem d197_142 : decode (mB 197) 142 = .ok (.iadd, 1) := by decide +kernel
theorem s197_142 {l0 l1 l2 l3 l4 : Option Value} {st : List Value} {a b : Int32} {m : kMem} {Q : Option Value → kMem → Prop} : kJ 197 142 [l0, l1, l2, l3, l4] (.int b :: .int a :: st) m Q = kJ 197 143 [l0, l1, l2, l3, l4] (.int (a + b) :: st) m Q := kJ_next d197_142 rfl
theorem d197_143 : decode (mB 197) 143 = .ok (.ireturn, 1) := by decide +kernel
theorem s197_143 {l0 l1 l2 l3 l4 : Option Value} {x : Int32} {m : kMem} {Q : Option Value → kMem → Prop} : kJ 197 143 [l0, l1, l2, l3, l4] [.int x] m Q = Q (some (.int x)) m := kJ_ret d197_143 rfl
theorem d197_144 : decode (mB 197) 144 = .ok (.aload_n 0, 1) := by decide +kernel
theorem s197_144 {l1 l2 l3 l4 : Option Value} {st : List Value} {x : Nat} {m : kMem} {Q : Option Value → kMem → Prop} : kJ 197 144 [some (.ref x), l1, l2, l3, l4] st m Q = kJ 197 145 [some (.ref x), l1, l2, l3, l4] (.ref x :: st) m Q := kJ_next d197_144 rfl
theorem d197_145 : decode (mB 197) 145 = .ok (.getfield 64, 3) := by decide +kernel
theorem s197_145 {l0 l1 l2 l3 l4 : Option Value} {st : List Value} {q : Nat} {mi : Nat → Nat → Int32} {ml : Nat → Nat → Int64} {mr : Nat → Nat → Option Nat} {nx : Nat} {Q : Option Value → kMem → Prop} (h : kIs nx q 5 = true) : kJ 197 145 [l0, l1, l2, l3, l4] (.ref q :: st) (mi, ml, mr, nx) Q = kJ 197 148 [l0, l1, l2, l3, l4] (.int (mi q 7) :: st) (mi, ml, mr, nx) Q := kJ_next d197_145 (kg_geti 5 7 rfl h (by decide))
theorem d197_148 : decode (mB 197) 148 = .ok (.ireturn, 1) := by decide +kernel
theorem s197_148 {l0 l1 l2 l3 l4 : Option Value} {x : Int32} {m : kMem} {Q : Option Value → kMem → Prop} : kJ 197 148 [l0, l1, l2, l3, l4] [.int x] m Q = Q (some (.int x)) m := kJ_ret d197_148 rfl
theorem d197_149 : decode (mB 197) 149 = .ok (.aload_n 0, 1) := by decide +kernel
theorem s197_149 {l1 l2 l3 l4 : Option Value} {st : List Value} {x : Nat} {m : kMem} {Q : Option Value → kMem → Prop} : kJ 197 149 [some (.ref x), l1, l2, l3, l4] st m Q = kJ 197 150 [some (.ref x), l1, l2, l3, l4] (.ref x :: st) m Q := kJ_next d197_149 rfl
theorem d197_150 : decode (mB 197) 150 = .ok (.getfield 32, 3) := by decide +kernel
theorem s197_150 {l0 l1 l2 l3 l4 : Option Value} {st : List Value} {q : Nat} {mi : Nat → Nat → Int32} {ml : Nat → Nat → Int64} {mr : Nat → Nat → Option Nat} {nx : Nat} {Q : Option Value → kMem → Prop} (h : kIs nx q 5 = true) : kJ 197 150 [l0, l1, l2, l3, l4] (.ref q :: st) (mi, ml, mr, nx) Q = kJ 197 153 [l0, l1, l2, l3, l4] (va_rf (mr q 23) :: st) (mi, ml, mr, nx) Q := kJ_next d197_150 (kg_getr 5 23 rfl h (by decide))
theorem d197_153 : decode (mB 197) 153 = .ok (.iconst 0, 1) := by decide +kernel
theorem s197_153 {l0 l1 l2 l3 l4 : Option Value} {st : List Value} {m : kMem} {Q : Option Value → kMem → Prop} : kJ 197 153 [l0, l1, l2, l3, l4] st m Q = kJ 197 154 [l0, l1, l2, l3, l4] (.int (nI 0) :: st) m Q := kJ_next d197_153 rfl
theorem d197_154 : decode (mB 197) 154 = .ok (.iaload, 1) := by decide +kernel
theorem s197_154 {l0 l1 l2 l3 l4 : Option Value} {st : List Value} {q : Nat} {i : Int32} {mi : Nat → Nat → Int32} {ml : Nat → Nat → Int64} {mr : Nat → Nat → Option Nat} {nx : Nat} {Q : Option Value → kMem → Prop} (h : kIs nx q 10 = true) : kJ 197 154 [l0, l1, l2, l3, l4] (.int i :: .ref q :: st) (mi, ml, mr, nx) Q = (vp_in i (kAl q) ∧ kJ 197 155 [l0, l1, l2, l3, l4] (.int (mi q i.toNatClampNeg) :: st) (mi, ml, mr, nx) Q) := kg_aldJ d197_154 rfl (kAr_of h)
theorem d197_155 : decode (mB 197) 155 = .ok (.bipush (-4), 2) := by decide +kernel
theorem s197_155 {l0 l1 l2 l3 l4 : Option Value} {st : List Value} {m : kMem} {Q : Option Value → kMem → Prop} : kJ 197 155 [l0, l1, l2, l3, l4] st m Q = kJ 197 157 [l0, l1, l2, l3, l4] (.int (-4) :: st) m Q := kJ_next d197_155 rfl
theorem d197_157 : decode (mB 197) 157 = .ok (.if_icmp .ne 8, 3) := by decide +kernel
theorem s197_157 {l0 l1 l2 l3 l4 : Option Value} {st : List Value} {a b : Int32} {m : kMem} {Q : Option Value → kMem → Prop} : kJ 197 157 [l0, l1, l2, l3, l4] (.int b :: .int a :: st) m Q = (if a = b then kJ 197 160 [l0, l1, l2, l3, l4] st m Q else kJ 197 165 [l0, l1, l2, l3, l4] st m Q) := kJ_if d197_157 rfl (fun h => kJ_next d197_157 h) (fun h => kJ_next d197_157 h)
theorem d197_160 : decode (mB 197) 160 = .ok (.bipush (-4), 2) := by decide +kernel
theorem s197_160 {l0 l1 l2 l3 l4 : Option Value} {st : List Value} {m : kMem} {Q : Option Value → kMem → Prop} : kJ 197 160 [l0, l1, l2, l3, l4] st m Q = kJ 197 162 [l0, l1, l2, l3, l4] (.int (-4) :: st) m Q := kJ_next d197_160 rfl
theorem d197_162 : decode (mB 197) 162 = .ok (.goto 9, 3) := by decide +kernel
theorem s197_162 {l0 l1 l2 l3 l4 : Option Value} {st : List Value} {m : kMem} {Q : Option Value → kMem → Prop} : kJ 197 162 [l0, l1, l2, l3, l4] st m Q = kJ 197 171 [l0, l1, l2, l3, l4] st m Q := kJ_next d197_162 rfl
theorem d197_165 : decode (mB 197) 165 = .ok (.aload_n 0, 1) := by decide +kernel
theorem s197_165 {l1 l2 l3 l4 : Option Value} {st : List Value} {x : Nat} {m : kMem} {Q : Option Value → kMem → Prop} : kJ 197 165 [some (.ref x), l1, l2, l3, l4] st m Q = kJ 197 166 [some (.ref x), l1, l2, l3, l4] (.ref x :: st) m Q := kJ_next d197_165 rfl
theorem d197_166 : decode (mB 197) 166 = .ok (.getfield 35, 3) := by decide +kernel
theorem s197_166 {l0 l1 l2 l3 l4 : Option Value} {st : List Value} {q : Nat} {mi : Nat → Nat → Int32} {ml : Nat → Nat → Int64} {mr : Nat → Nat → Option Nat} {nx : Nat} {Q : Option Value → kMem → Prop} (h : kIs nx q 5 = true) : kJ 197 166 [l0, l1, l2, l3, l4] (.ref q :: st) (mi, ml, mr, nx) Q = kJ 197 169 [l0, l1, l2, l3, l4] (va_rf (mr q 24) :: st) (mi, ml, mr, nx) Q := kJ_next d197_166 (kg_getr 5 24 rfl h (by decide))
theorem d197_169 : decode (mB 197) 169 = .ok (.iconst 0, 1) := by decide +kernel
theorem s197_169 {l0 l1 l2 l3 l4 : Option Value} {st : List Value} {m : kMem} {Q : Option Value → kMem → Prop} : kJ 197 169 [l0, l1, l2, l3, l4] st m Q = kJ 197 170 [l0, l1, l2, l3, l4] (.int (nI 0) :: st) m Q := kJ_next d197_169 rfl
theorem d197_170 : decode (mB 197) 170 = .ok (.iaload, 1) := by decide +kernel
theorem s197_170 {l0 l1 l2 l3 l4 : Option Value} {st : List Value} {q : Nat} {i : Int32} {mi : Nat → Nat → Int32} {ml : Nat → Nat → Int64} {mr : Nat → Nat → Option Nat} {nx : Nat} {Q : Option Value → kMem → Prop} (h : kIs nx q 10 = true) : kJ 197 170 [l0, l1, l2, l3, l4] (.int i :: .ref q :: st) (mi, ml, mr, nx) Q = (vp_in i (kAl q) ∧ kJ 197 171 [l0, l1, l2, l3, l4] (.int (mi q i.toNatClampNeg) :: st) (mi, ml, mr, nx) Q) := kg_aldJ d197_170 rfl (kAr_of h)
theorem d197_171 : decode (mB 197) 171 = .ok (.ireturn, 1) := by decide +kernel
theorem s197_171 {l0 l1 l2 l3 l4 : Option Value} {x : Int32} {m : kMem} {Q : Option Value → kMem → Prop} : kJ 197 171 [l0, l1, l2, l3, l4] [.int x] m Q = Q (some (.int x)) m := kJ_ret d197_171 rfl
theorem d197_172 : decode (mB 197) 172 = .ok (.iload_n 2, 1) := by decide +kernel
theorem s197_172 {l0 l1 l3 l4 : Option Value} {st : List Value} {x : Int32} {m : kMem} {Q : Option Value → kMem → Prop} : kJ 197 172 [l0, l1, some (.int x), l3, l4] st m Q = kJ 197 173 [l0, l1, some (.int x), l3, l4] (.int x :: st) m Q := kJ_next d197_172 rfl
theorem d197_173 : decode (mB 197) 173 = .ok (.ireturn, 1) := by decide +kernel
theorem s197_173 {l0 l1 l2 l3 l4 : Option Value} {x : Int32} {m : kMem} {Q : Option Value → kMem → Prop} : kJ 197 173 [l0, l1, l2, l3, l4] [.int x] m Q = Q (some (.int x)) m := kJ_ret d197_173 rfl
theorem d197_174 : decode (mB 197) 174 = .ok (.iload_n 3, 1) := by decide +kernel
theorem s197_174 {l0 l1 l2 l4 : Option Value} {st : List Value} {x : Int32} {m : kMem} {Q : Option Value → kMem → Prop} : kJ 197 174 [l0, l1, l2, some (.int x), l4] st m Q = kJ 197 175 [l0, l1, l2, some (.int x), l4] (.int x :: st) m Q := kJ_next d197_174 rfl
theorem d197_175 : decode (mB 197) 175 = .ok (.ireturn, 1) := by decide +kernel
theorem s197_175 {l0 l1 l2 l3 l4 : Option Value} {x : Int32} {m : kMem} {Q : Option Value → kMem → Prop} : kJ 197 175 [l0, l1, l2, l3, l4] [.int x] m Q = Q (some (.int x)) m := kJ_ret d197_175 rfl
theorem d197_176 : decode (mB 197) 176 = .ok (.iconst (-1), 1) := by decide +kernel
theorem s197_176 {l0 l1 l2 l3 l4 : Option Value} {st : List Value} {m : kMem} {Q : Option Value → kMem → Prop} : kJ 197 176 [l0, l1, l2, l3, l4] st m Q = kJ 197 177 [l0, l1, l2, l3, l4] (.int (-1) :: st) m Q := kJ_next d197_176 rfl
theorem d197_177 : decode (mB 197) 177 = .ok (.ireturn, 1) := by decide +kernel
theorem s197_177 {l0 l1 l2 l3 l4 : Option Value} {x : Int32} {m : kMem} {Q : Option Value → kMem → Prop} : kJ 197 177 [l0, l1, l2, l3, l4] [.int x] m Q = Q (some (.int x)) m := kJ_ret d197_177 rfl
