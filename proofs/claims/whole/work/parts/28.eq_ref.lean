theorem d164_0 : decode (mB 164) 0 = .ok (.aload_n 0, 1) := by decide +kernel
theorem s164_0 {l1 l2 : Option Value} {st : List Value} {x : Nat} {m : kMem} {Q : Option Value → kMem → Prop} : kJ 164 0 [some (.ref x), l1, l2] st m Q = kJ 164 1 [some (.ref x), l1, l2] (.ref x :: st) m Q := kJ_next d164_0 rfl
theorem d164_1 : decode (mB 164) 1 = .ok (.iload_n 1, 1) := by decide +kernel
theorem s164_1 {l0 l2 : Option Value} {st : List Value} {x : Int32} {m : kMem} {Q : Option Value → kMem → Prop} : kJ 164 1 [l0, some (.int x), l2] st m Q = kJ 164 2 [l0, some (.int x), l2] (.int x :: st) m Q := kJ_next d164_1 rfl
theorem d164_2 : decode (mB 164) 2 = .ok (.invokevirtual 206, 3) := by decide +kernel
theorem s164_2 {l0 l1 l2 : Option Value} {v0 : Int32} {v1 : Nat} {m : kMem} {Q : Option Value → kMem → Prop} (h : kIs m.2.2.2 v1 5 = true) : kJ 164 2 [l0, l1, l2] [.int v0, .ref v1] m Q = kJ 127 0 [some (.ref v1), some (.int v0)] [] m (fun v m2 => kJ 164 5 [l0, l1, l2] (v.toList ++ []) m2 Q) := kJ_call d164_2 (kg_callv 127 1 rfl rfl rfl rfl (Nat.le_of_ble_eq_true rfl) (Nat.le_of_ble_eq_true rfl) (Nat.le_of_ble_eq_true rfl) h rfl)
theorem d164_5 : decode (mB 164) 5 = .ok (.ifCond .ne 5, 3) := by decide +kernel
theorem s164_5 {l0 l1 l2 : Option Value} {st : List Value} {a : Int32} {m : kMem} {Q : Option Value → kMem → Prop} : kJ 164 5 [l0, l1, l2] (.int a :: st) m Q = (if a = 0 then kJ 164 8 [l0, l1, l2] st m Q else kJ 164 10 [l0, l1, l2] st m Q) := kJ_if d164_5 rfl (fun h => kJ_next d164_5 h) (fun h => kJ_next d164_5 h)
theorem d164_8 : decode (mB 164) 8 = .ok (.iconst (-1), 1) := by decide +kernel
theorem s164_8 {l0 l1 l2 : Option Value} {st : List Value} {m : kMem} {Q : Option Value → kMem → Prop} : kJ 164 8 [l0, l1, l2] st m Q = kJ 164 9 [l0, l1, l2] (.int (-1) :: st) m Q := kJ_next d164_8 rfl
theorem d164_9 : decode (mB 164) 9 = .ok (.ireturn, 1) := by decide +kernel
theorem s164_9 {l0 l1 l2 : Option Value} {x : Int32} {m : kMem} {Q : Option Value → kMem → Prop} : kJ 164 9 [l0, l1, l2] [.int x] m Q = Q (some (.int x)) m := kJ_ret d164_9 rfl
theorem d164_10 : decode (mB 164) 10 = .ok (.aload_n 0, 1) := by decide +kernel
theorem s164_10 {l1 l2 : Option Value} {st : List Value} {x : Nat} {m : kMem} {Q : Option Value → kMem → Prop} : kJ 164 10 [some (.ref x), l1, l2] st m Q = kJ 164 11 [some (.ref x), l1, l2] (.ref x :: st) m Q := kJ_next d164_10 rfl
theorem d164_11 : decode (mB 164) 11 = .ok (.invokevirtual 195, 3) := by decide +kernel
theorem s164_11 {l0 l1 l2 : Option Value} {v0 : Nat} {m : kMem} {Q : Option Value → kMem → Prop} (h : kIs m.2.2.2 v0 5 = true) : kJ 164 11 [l0, l1, l2] [.ref v0] m Q = kJ 130 0 [some (.ref v0), none] [] m (fun v m2 => kJ 164 14 [l0, l1, l2] (v.toList ++ []) m2 Q) := kJ_call d164_11 (kg_callv 130 0 rfl rfl rfl rfl (Nat.le_of_ble_eq_true rfl) (Nat.le_of_ble_eq_true rfl) (Nat.le_of_ble_eq_true rfl) h rfl)
theorem d164_14 : decode (mB 164) 14 = .ok (.iconst 0, 1) := by decide +kernel
theorem s164_14 {l0 l1 l2 : Option Value} {st : List Value} {m : kMem} {Q : Option Value → kMem → Prop} : kJ 164 14 [l0, l1, l2] st m Q = kJ 164 15 [l0, l1, l2] (.int (nI 0) :: st) m Q := kJ_next d164_14 rfl
theorem d164_15 : decode (mB 164) 15 = .ok (.istore_n 2, 1) := by decide +kernel
theorem s164_15 {l0 l1 l2 : Option Value} {st : List Value} {x : Int32} {m : kMem} {Q : Option Value → kMem → Prop} (hp : kNL l1 = true) : kJ 164 15 [l0, l1, l2] (.int x :: st) m Q = kJ 164 16 [l0, l1, some (.int x)] st m Q := kJ_next d164_15 (kg_sti (Nat.le_of_ble_eq_true rfl) hp)
theorem d164_16 : decode (mB 164) 16 = .ok (.iload_n 2, 1) := by decide +kernel
theorem s164_16 {l0 l1 : Option Value} {st : List Value} {x : Int32} {m : kMem} {Q : Option Value → kMem → Prop} : kJ 164 16 [l0, l1, some (.int x)] st m Q = kJ 164 17 [l0, l1, some (.int x)] (.int x :: st) m Q := kJ_next d164_16 rfl
theorem d164_17 : decode (mB 164) 17 = .ok (.bipush 60, 2) := by decide +kernel
theorem s164_17 {l0 l1 l2 : Option Value} {st : List Value} {m : kMem} {Q : Option Value → kMem → Prop} : kJ 164 17 [l0, l1, l2] st m Q = kJ 164 19 [l0, l1, l2] (.int (nI 60) :: st) m Q := kJ_next d164_17 rfl
theorem d164_19 : decode (mB 164) 19 = .ok (.if_icmp .gt 26, 3) := by decide +kernel
theorem s164_19 {l0 l1 l2 : Option Value} {st : List Value} {a b : Int32} {m : kMem} {Q : Option Value → kMem → Prop} : kJ 164 19 [l0, l1, l2] (.int b :: .int a :: st) m Q = (if b < a then kJ 164 45 [l0, l1, l2] st m Q else kJ 164 22 [l0, l1, l2] st m Q) := kJ_if d164_19 rfl (fun h => kJ_next d164_19 h) (fun h => kJ_next d164_19 h)
theorem d164_22 : decode (mB 164) 22 = .ok (.aload_n 0, 1) := by decide +kernel
theorem s164_22 {l1 l2 : Option Value} {st : List Value} {x : Nat} {m : kMem} {Q : Option Value → kMem → Prop} : kJ 164 22 [some (.ref x), l1, l2] st m Q = kJ 164 23 [some (.ref x), l1, l2] (.ref x :: st) m Q := kJ_next d164_22 rfl
theorem d164_23 : decode (mB 164) 23 = .ok (.iload_n 1, 1) := by decide +kernel
theorem s164_23 {l0 l2 : Option Value} {st : List Value} {x : Int32} {m : kMem} {Q : Option Value → kMem → Prop} : kJ 164 23 [l0, some (.int x), l2] st m Q = kJ 164 24 [l0, some (.int x), l2] (.int x :: st) m Q := kJ_next d164_23 rfl
theorem d164_24 : decode (mB 164) 24 = .ok (.iconst 5, 1) := by decide +kernel
theorem s164_24 {l0 l1 l2 : Option Value} {st : List Value} {m : kMem} {Q : Option Value → kMem → Prop} : kJ 164 24 [l0, l1, l2] st m Q = kJ 164 25 [l0, l1, l2] (.int (nI 5) :: st) m Q := kJ_next d164_24 rfl
theorem d164_25 : decode (mB 164) 25 = .ok (.invokevirtual 141, 3) := by decide +kernel
theorem s164_25 {l0 l1 l2 : Option Value} {v0 : Int32} {v1 : Int32} {v2 : Nat} {m : kMem} {Q : Option Value → kMem → Prop} (h : kIs m.2.2.2 v2 5 = true) : kJ 164 25 [l0, l1, l2] [.int v0, .int v1, .ref v2] m Q = kJ 134 0 [some (.ref v2), some (.int v1), some (.int v0)] [] m (fun v m2 => kJ 164 28 [l0, l1, l2] (v.toList ++ []) m2 Q) := kJ_call d164_25 (kg_callv 134 2 rfl rfl rfl rfl (Nat.le_of_ble_eq_true rfl) (Nat.le_of_ble_eq_true rfl) (Nat.le_of_ble_eq_true rfl) h rfl)
theorem d164_28 : decode (mB 164) 28 = .ok (.iconst 2, 1) := by decide +kernel
theorem s164_28 {l0 l1 l2 : Option Value} {st : List Value} {m : kMem} {Q : Option Value → kMem → Prop} : kJ 164 28 [l0, l1, l2] st m Q = kJ 164 29 [l0, l1, l2] (.int (nI 2) :: st) m Q := kJ_next d164_28 rfl
theorem d164_29 : decode (mB 164) 29 = .ok (.if_icmp .ne 5, 3) := by decide +kernel
theorem s164_29 {l0 l1 l2 : Option Value} {st : List Value} {a b : Int32} {m : kMem} {Q : Option Value → kMem → Prop} : kJ 164 29 [l0, l1, l2] (.int b :: .int a :: st) m Q = (if a = b then kJ 164 32 [l0, l1, l2] st m Q else kJ 164 34 [l0, l1, l2] st m Q) := kJ_if d164_29 rfl (fun h => kJ_next d164_29 h) (fun h => kJ_next d164_29 h)
theorem d164_32 : decode (mB 164) 32 = .ok (.iload_n 2, 1) := by decide +kernel
theorem s164_32 {l0 l1 : Option Value} {st : List Value} {x : Int32} {m : kMem} {Q : Option Value → kMem → Prop} : kJ 164 32 [l0, l1, some (.int x)] st m Q = kJ 164 33 [l0, l1, some (.int x)] (.int x :: st) m Q := kJ_next d164_32 rfl
theorem d164_33 : decode (mB 164) 33 = .ok (.ireturn, 1) := by decide +kernel
theorem s164_33 {l0 l1 l2 : Option Value} {x : Int32} {m : kMem} {Q : Option Value → kMem → Prop} : kJ 164 33 [l0, l1, l2] [.int x] m Q = Q (some (.int x)) m := kJ_ret d164_33 rfl
theorem d164_34 : decode (mB 164) 34 = .ok (.aload_n 0, 1) := by decide +kernel
theorem s164_34 {l1 l2 : Option Value} {st : List Value} {x : Nat} {m : kMem} {Q : Option Value → kMem → Prop} : kJ 164 34 [some (.ref x), l1, l2] st m Q = kJ 164 35 [some (.ref x), l1, l2] (.ref x :: st) m Q := kJ_next d164_34 rfl
theorem d164_35 : decode (mB 164) 35 = .ok (.iconst 1, 1) := by decide +kernel
theorem s164_35 {l0 l1 l2 : Option Value} {st : List Value} {m : kMem} {Q : Option Value → kMem → Prop} : kJ 164 35 [l0, l1, l2] st m Q = kJ 164 36 [l0, l1, l2] (.int (nI 1) :: st) m Q := kJ_next d164_35 rfl
theorem d164_36 : decode (mB 164) 36 = .ok (.invokevirtual 181, 3) := by decide +kernel
theorem s164_36 {l0 l1 l2 : Option Value} {v0 : Int32} {v1 : Nat} {m : kMem} {Q : Option Value → kMem → Prop} (h : kIs m.2.2.2 v1 5 = true) : kJ 164 36 [l0, l1, l2] [.int v0, .ref v1] m Q = kJ 144 0 [some (.ref v1), some (.int v0), none] [] m (fun v m2 => kJ 164 39 [l0, l1, l2] (v.toList ++ []) m2 Q) := kJ_call d164_36 (kg_callv 144 1 rfl rfl rfl rfl (Nat.le_of_ble_eq_true rfl) (Nat.le_of_ble_eq_true rfl) (Nat.le_of_ble_eq_true rfl) h rfl)
theorem d164_39 : decode (mB 164) 39 = .ok (.iinc 2 1, 3) := by decide +kernel
theorem s164_39 {l0 l1 : Option Value} {st : List Value} {x : Int32} {m : kMem} {Q : Option Value → kMem → Prop} (hp : kNL l1 = true) : kJ 164 39 [l0, l1, some (.int x)] st m Q = kJ 164 42 [l0, l1, some (.int (x + (nI 1)))] st m Q := kJ_next d164_39 (kg_inc rfl (Nat.le_of_ble_eq_true rfl) hp)
theorem d164_42 : decode (mB 164) 42 = .ok (.goto (-26), 3) := by decide +kernel
theorem s164_42 {l0 l1 l2 : Option Value} {st : List Value} {m : kMem} {Q : Option Value → kMem → Prop} : kJ 164 42 [l0, l1, l2] st m Q = kJ 164 16 [l0, l1, l2] st m Q := kJ_next d164_42 rfl
theorem d164_45 : decode (mB 164) 45 = .ok (.bipush (-4), 2) := by decide +kernel
theorem s164_45 {l0 l1 l2 : Option Value} {st : List Value} {m : kMem} {Q : Option Value → kMem → Prop} : kJ 164 45 [l0, l1, l2] st m Q = kJ 164 47 [l0, l1, l2] (.int (-4) :: st) m Q := kJ_next d164_45 rfl
theorem d164_47 : decode (mB 164) 47 = .ok (.ireturn, 1) := by decide +kernel
theorem s164_47 {l0 l1 l2 : Option Value} {x : Int32} {m : kMem} {Q : Option Value → kMem → Prop} : kJ 164 47 [l0, l1, l2] [.int x] m Q = Q (some (.int x)) m := kJ_ret d164_47 rfl
theorem d165_0 : decode (mB 165) 0 = .ok (.aload_n 0, 1) := by decide +kernel
theorem s165_0 {l1 : Option Value} {st : List Value} {x : Nat} {m : kMem} {Q : Option Value → kMem → Prop} : kJ 165 0 [some (.ref x), l1] st m Q = kJ 165 1 [some (.ref x), l1] (.ref x :: st) m Q := kJ_next d165_0 rfl
theorem d165_1 : decode (mB 165) 1 = .ok (.bipush (-4), 2) := by decide +kernel
theorem s165_1 {l0 l1 : Option Value} {st : List Value} {m : kMem} {Q : Option Value → kMem → Prop} : kJ 165 1 [l0, l1] st m Q = kJ 165 3 [l0, l1] (.int (-4) :: st) m Q := kJ_next d165_1 rfl
theorem d165_3 : decode (mB 165) 3 = .ok (.putfield 236, 3) := by decide +kernel
theorem s165_3 {l0 l1 : Option Value} {st : List Value} {q : Nat} {x : Int32} {mi : Nat → Nat → Int32} {ml : Nat → Nat → Int64} {mr : Nat → Nat → Option Nat} {nx : Nat} {Q : Option Value → kMem → Prop} (h : kIs nx q 5 = true) : kJ 165 3 [l0, l1] (.int x :: .ref q :: st) (mi, ml, mr, nx) Q = kJ 165 6 [l0, l1] st (kup mi q 16 x, ml, mr, nx) Q := kJ_next d165_3 (kg_puti 5 16 rfl h (by decide) (Or.inl (by decide)))
theorem d165_6 : decode (mB 165) 6 = .ok (.aload_n 0, 1) := by decide +kernel
theorem s165_6 {l1 : Option Value} {st : List Value} {x : Nat} {m : kMem} {Q : Option Value → kMem → Prop} : kJ 165 6 [some (.ref x), l1] st m Q = kJ 165 7 [some (.ref x), l1] (.ref x :: st) m Q := kJ_next d165_6 rfl
theorem d165_7 : decode (mB 165) 7 = .ok (.iload_n 1, 1) := by decide +kernel
theorem s165_7 {l0 : Option Value} {st : List Value} {x : Int32} {m : kMem} {Q : Option Value → kMem → Prop} : kJ 165 7 [l0, some (.int x)] st m Q = kJ 165 8 [l0, some (.int x)] (.int x :: st) m Q := kJ_next d165_7 rfl
theorem d165_8 : decode (mB 165) 8 = .ok (.putfield 239, 3) := by decide +kernel
theorem s165_8 {l0 l1 : Option Value} {st : List Value} {q : Nat} {x : Int32} {mi : Nat → Nat → Int32} {ml : Nat → Nat → Int64} {mr : Nat → Nat → Option Nat} {nx : Nat} {Q : Option Value → kMem → Prop} (h : kIs nx q 5 = true) : kJ 165 8 [l0, l1] (.int x :: .ref q :: st) (mi, ml, mr, nx) Q = kJ 165 11 [l0, l1] st (kup mi q 17 x, ml, mr, nx) Q := kJ_next d165_8 (kg_puti 5 17 rfl h (by decide) (Or.inl (by decide)))
theorem d165_11 : decode (mB 165) 11 = .ok (.return_, 1) := by decide +kernel
theorem s165_11 {l0 l1 : Option Value} {m : kMem} {Q : Option Value → kMem → Prop} : kJ 165 11 [l0, l1] [] m Q = Q none m := kJ_ret d165_11 rfl
theorem d166_0 : decode (mB 166) 0 = .ok (.iload_n 2, 1) := by decide +kernel
theorem s166_0 {l0 l1 : Option Value} {st : List Value} {x : Int32} {m : kMem} {Q : Option Value → kMem → Prop} : kJ 166 0 [l0, l1, some (.int x)] st m Q = kJ 166 1 [l0, l1, some (.int x)] (.int x :: st) m Q := kJ_next d166_0 rfl
theorem d166_1 : decode (mB 166) 1 = .ok (.aload_n 0, 1) := by decide +kernel
theorem s166_1 {l1 l2 : Option Value} {st : List Value} {x : Nat} {m : kMem} {Q : Option Value → kMem → Prop} : kJ 166 1 [some (.ref x), l1, l2] st m Q = kJ 166 2 [some (.ref x), l1, l2] (.ref x :: st) m Q := kJ_next d166_1 rfl
theorem d166_2 : decode (mB 166) 2 = .ok (.getfield 239, 3) := by decide +kernel
theorem s166_2 {l0 l1 l2 : Option Value} {st : List Value} {q : Nat} {mi : Nat → Nat → Int32} {ml : Nat → Nat → Int64} {mr : Nat → Nat → Option Nat} {nx : Nat} {Q : Option Value → kMem → Prop} (h : kIs nx q 5 = true) : kJ 166 2 [l0, l1, l2] (.ref q :: st) (mi, ml, mr, nx) Q = kJ 166 5 [l0, l1, l2] (.int (mi q 17) :: st) (mi, ml, mr, nx) Q := kJ_next d166_2 (kg_geti 5 17 rfl h (by decide))
theorem d166_5 : decode (mB 166) 5 = .ok (.if_icmp .le 13, 3) := by decide +kernel
theorem s166_5 {l0 l1 l2 : Option Value} {st : List Value} {a b : Int32} {m : kMem} {Q : Option Value → kMem → Prop} : kJ 166 5 [l0, l1, l2] (.int b :: .int a :: st) m Q = (if a ≤ b then kJ 166 18 [l0, l1, l2] st m Q else kJ 166 8 [l0, l1, l2] st m Q) := kJ_if d166_5 rfl (fun h => kJ_next d166_5 h) (fun h => kJ_next d166_5 h)
theorem d166_8 : decode (mB 166) 8 = .ok (.aload_n 0, 1) := by decide +kernel
theorem s166_8 {l1 l2 : Option Value} {st : List Value} {x : Nat} {m : kMem} {Q : Option Value → kMem → Prop} : kJ 166 8 [some (.ref x), l1, l2] st m Q = kJ 166 9 [some (.ref x), l1, l2] (.ref x :: st) m Q := kJ_next d166_8 rfl
theorem d166_9 : decode (mB 166) 9 = .ok (.iload_n 1, 1) := by decide +kernel
theorem s166_9 {l0 l2 : Option Value} {st : List Value} {x : Int32} {m : kMem} {Q : Option Value → kMem → Prop} : kJ 166 9 [l0, some (.int x), l2] st m Q = kJ 166 10 [l0, some (.int x), l2] (.int x :: st) m Q := kJ_next d166_9 rfl
theorem d166_10 : decode (mB 166) 10 = .ok (.putfield 236, 3) := by decide +kernel
theorem s166_10 {l0 l1 l2 : Option Value} {st : List Value} {q : Nat} {x : Int32} {mi : Nat → Nat → Int32} {ml : Nat → Nat → Int64} {mr : Nat → Nat → Option Nat} {nx : Nat} {Q : Option Value → kMem → Prop} (h : kIs nx q 5 = true) : kJ 166 10 [l0, l1, l2] (.int x :: .ref q :: st) (mi, ml, mr, nx) Q = kJ 166 13 [l0, l1, l2] st (kup mi q 16 x, ml, mr, nx) Q := kJ_next d166_10 (kg_puti 5 16 rfl h (by decide) (Or.inl (by decide)))
theorem d166_13 : decode (mB 166) 13 = .ok (.aload_n 0, 1) := by decide +kernel
theorem s166_13 {l1 l2 : Option Value} {st : List Value} {x : Nat} {m : kMem} {Q : Option Value → kMem → Prop} : kJ 166 13 [some (.ref x), l1, l2] st m Q = kJ 166 14 [some (.ref x), l1, l2] (.ref x :: st) m Q := kJ_next d166_13 rfl
theorem d166_14 : decode (mB 166) 14 = .ok (.iload_n 2, 1) := by decide +kernel
theorem s166_14 {l0 l1 : Option Value} {st : List Value} {x : Int32} {m : kMem} {Q : Option Value → kMem → Prop} : kJ 166 14 [l0, l1, some (.int x)] st m Q = kJ 166 15 [l0, l1, some (.int x)] (.int x :: st) m Q := kJ_next d166_14 rfl
theorem d166_15 : decode (mB 166) 15 = .ok (.putfield 239, 3) := by decide +kernel
theorem s166_15 {l0 l1 l2 : Option Value} {st : List Value} {q : Nat} {x : Int32} {mi : Nat → Nat → Int32} {ml : Nat → Nat → Int64} {mr : Nat → Nat → Option Nat} {nx : Nat} {Q : Option Value → kMem → Prop} (h : kIs nx q 5 = true) : kJ 166 15 [l0, l1, l2] (.int x :: .ref q :: st) (mi, ml, mr, nx) Q = kJ 166 18 [l0, l1, l2] st (kup mi q 17 x, ml, mr, nx) Q := kJ_next d166_15 (kg_puti 5 17 rfl h (by decide) (Or.inl (by decide)))
theorem d166_18 : decode (mB 166) 18 = .ok (.return_, 1) := by decide +kernel
theorem s166_18 {l0 l1 l2 : Option Value} {m : kMem} {Q : Option Value → kMem → Prop} : kJ 166 18 [l0, l1, l2] [] m Q = Q none m := kJ_ret d166_18 rfl
theorem d167_0 : decode (mB 167) 0 = .ok (.aload_n 0, 1) := by decide +kernel
theorem s167_0 {l1 : Option Value} {st : List Value} {x : Nat} {m : kMem} {Q : Option Value → kMem → Prop} : kJ 167 0 [some (.ref x), l1] st m Q = kJ 167 1 [some (.ref x), l1] (.ref x :: st) m Q := kJ_next d167_0 rfl
theorem d167_1 : decode (mB 167) 1 = .ok (.getfield 236, 3) := by decide +kernel
theorem s167_1 {l0 l1 : Option Value} {st : List Value} {q : Nat} {mi : Nat → Nat → Int32} {ml : Nat → Nat → Int64} {mr : Nat → Nat → Option Nat} {nx : Nat} {Q : Option Value → kMem → Prop} (h : kIs nx q 5 = true) : kJ 167 1 [l0, l1] (.ref q :: st) (mi, ml, mr, nx) Q = kJ 167 4 [l0, l1] (.int (mi q 16) :: st) (mi, ml, mr, nx) Q := kJ_next d167_1 (kg_geti 5 16 rfl h (by decide))
theorem d167_4 : decode (mB 167) 4 = .ok (.bipush (-4), 2) := by decide +kernel
theorem s167_4 {l0 l1 : Option Value} {st : List Value} {m : kMem} {Q : Option Value → kMem → Prop} : kJ 167 4 [l0, l1] st m Q = kJ 167 6 [l0, l1] (.int (-4) :: st) m Q := kJ_next d167_4 rfl
theorem d167_6 : decode (mB 167) 6 = .ok (.if_icmp .ne 8, 3) := by decide +kernel
theorem s167_6 {l0 l1 : Option Value} {st : List Value} {a b : Int32} {m : kMem} {Q : Option Value → kMem → Prop} : kJ 167 6 [l0, l1] (.int b :: .int a :: st) m Q = (if a = b then kJ 167 9 [l0, l1] st m Q else kJ 167 14 [l0, l1] st m Q) := kJ_if d167_6 rfl (fun h => kJ_next d167_6 h) (fun h => kJ_next d167_6 h)
theorem d167_9 : decode (mB 167) 9 = .ok (.bipush (-4), 2) := by decide +kernel
theorem s167_9 {l0 l1 : Option Value} {st : List Value} {m : kMem} {Q : Option Value → kMem → Prop} : kJ 167 9 [l0, l1] st m Q = kJ 167 11 [l0, l1] (.int (-4) :: st) m Q := kJ_next d167_9 rfl
theorem d167_11 : decode (mB 167) 11 = .ok (.goto 18, 3) := by decide +kernel
theorem s167_11 {l0 l1 : Option Value} {st : List Value} {m : kMem} {Q : Option Value → kMem → Prop} : kJ 167 11 [l0, l1] st m Q = kJ 167 29 [l0, l1] st m Q := kJ_next d167_11 rfl
theorem d167_14 : decode (mB 167) 14 = .ok (.iload_n 1, 1) := by decide +kernel
theorem s167_14 {l0 : Option Value} {st : List Value} {x : Int32} {m : kMem} {Q : Option Value → kMem → Prop} : kJ 167 14 [l0, some (.int x)] st m Q = kJ 167 15 [l0, some (.int x)] (.int x :: st) m Q := kJ_next d167_14 rfl
theorem d167_15 : decode (mB 167) 15 = .ok (.ifCond .ne 10, 3) := by decide +kernel
theorem s167_15 {l0 l1 : Option Value} {st : List Value} {a : Int32} {m : kMem} {Q : Option Value → kMem → Prop} : kJ 167 15 [l0, l1] (.int a :: st) m Q = (if a = 0 then kJ 167 18 [l0, l1] st m Q else kJ 167 25 [l0, l1] st m Q) := kJ_if d167_15 rfl (fun h => kJ_next d167_15 h) (fun h => kJ_next d167_15 h)
theorem d167_18 : decode (mB 167) 18 = .ok (.aload_n 0, 1) := by decide +kernel
theorem s167_18 {l1 : Option Value} {st : List Value} {x : Nat} {m : kMem} {Q : Option Value → kMem → Prop} : kJ 167 18 [some (.ref x), l1] st m Q = kJ 167 19 [some (.ref x), l1] (.ref x :: st) m Q := kJ_next d167_18 rfl
theorem d167_19 : decode (mB 167) 19 = .ok (.getfield 236, 3) := by decide +kernel
theorem s167_19 {l0 l1 : Option Value} {st : List Value} {q : Nat} {mi : Nat → Nat → Int32} {ml : Nat → Nat → Int64} {mr : Nat → Nat → Option Nat} {nx : Nat} {Q : Option Value → kMem → Prop} (h : kIs nx q 5 = true) : kJ 167 19 [l0, l1] (.ref q :: st) (mi, ml, mr, nx) Q = kJ 167 22 [l0, l1] (.int (mi q 16) :: st) (mi, ml, mr, nx) Q := kJ_next d167_19 (kg_geti 5 16 rfl h (by decide))
theorem d167_22 : decode (mB 167) 22 = .ok (.goto 7, 3) := by decide +kernel
theorem s167_22 {l0 l1 : Option Value} {st : List Value} {m : kMem} {Q : Option Value → kMem → Prop} : kJ 167 22 [l0, l1] st m Q = kJ 167 29 [l0, l1] st m Q := kJ_next d167_22 rfl
theorem d167_25 : decode (mB 167) 25 = .ok (.aload_n 0, 1) := by decide +kernel
theorem s167_25 {l1 : Option Value} {st : List Value} {x : Nat} {m : kMem} {Q : Option Value → kMem → Prop} : kJ 167 25 [some (.ref x), l1] st m Q = kJ 167 26 [some (.ref x), l1] (.ref x :: st) m Q := kJ_next d167_25 rfl
theorem d167_26 : decode (mB 167) 26 = .ok (.getfield 239, 3) := by decide +kernel
theorem s167_26 {l0 l1 : Option Value} {st : List Value} {q : Nat} {mi : Nat → Nat → Int32} {ml : Nat → Nat → Int64} {mr : Nat → Nat → Option Nat} {nx : Nat} {Q : Option Value → kMem → Prop} (h : kIs nx q 5 = true) : kJ 167 26 [l0, l1] (.ref q :: st) (mi, ml, mr, nx) Q = kJ 167 29 [l0, l1] (.int (mi q 17) :: st) (mi, ml, mr, nx) Q := kJ_next d167_26 (kg_geti 5 17 rfl h (by decide))
theorem d167_29 : decode (mB 167) 29 = .ok (.ireturn, 1) := by decide +kernel
theorem s167_29 {l0 l1 : Option Value} {x : Int32} {m : kMem} {Q : Option Value → kMem → Prop} : kJ 167 29 [l0, l1] [.int x] m Q = Q (some (.int x)) m := kJ_ret d167_29 rfl
theorem d168_0 : decode (mB 168) 0 = .ok (.aload_n 0, 1) := by decide +kernel
theorem s168_0 {l1 l2 l3 l4 l5 : Option Value} {st : List Value} {x : Nat} {m : kMem} {Q : Option Value → kMem → Prop} : kJ 168 0 [some (.ref x), l1, l2, l3, l4, l5] st m Q = kJ 168 1 [some (.ref x), l1, l2, l3, l4, l5] (.ref x :: st) m Q := kJ_next d168_0 rfl
theorem d168_1 : decode (mB 168) 1 = .ok (.iconst (-1), 1) := by decide +kernel
theorem s168_1 {l0 l1 l2 l3 l4 l5 : Option Value} {st : List Value} {m : kMem} {Q : Option Value → kMem → Prop} : kJ 168 1 [l0, l1, l2, l3, l4, l5] st m Q = kJ 168 2 [l0, l1, l2, l3, l4, l5] (.int (-1) :: st) m Q := kJ_next d168_1 rfl
theorem d168_2 : decode (mB 168) 2 = .ok (.invokevirtual 242, 3) := by decide +kernel
theorem s168_2 {l0 l1 l2 l3 l4 l5 : Option Value} {v0 : Int32} {v1 : Nat} {m : kMem} {Q : Option Value → kMem → Prop} (h : kIs m.2.2.2 v1 5 = true) : kJ 168 2 [l0, l1, l2, l3, l4, l5] [.int v0, .ref v1] m Q = kJ 165 0 [some (.ref v1), some (.int v0)] [] m (fun v m2 => kJ 168 5 [l0, l1, l2, l3, l4, l5] (v.toList ++ []) m2 Q) := kJ_call d168_2 (kg_callv 165 1 rfl rfl rfl rfl (Nat.le_of_ble_eq_true rfl) (Nat.le_of_ble_eq_true rfl) (Nat.le_of_ble_eq_true rfl) h rfl)
theorem d168_5 : decode (mB 168) 5 = .ok (.iconst 0, 1) := by decide +kernel
theorem s168_5 {l0 l1 l2 l3 l4 l5 : Option Value} {st : List Value} {m : kMem} {Q : Option Value → kMem → Prop} : kJ 168 5 [l0, l1, l2, l3, l4, l5] st m Q = kJ 168 6 [l0, l1, l2, l3, l4, l5] (.int (nI 0) :: st) m Q := kJ_next d168_5 rfl
theorem d168_6 : decode (mB 168) 6 = .ok (.istore 5, 2) := by decide +kernel
theorem s168_6 {l0 l1 l2 l3 l4 l5 : Option Value} {st : List Value} {x : Int32} {m : kMem} {Q : Option Value → kMem → Prop} (hp : kNL l4 = true) : kJ 168 6 [l0, l1, l2, l3, l4, l5] (.int x :: st) m Q = kJ 168 8 [l0, l1, l2, l3, l4, some (.int x)] st m Q := kJ_next d168_6 (kg_sti (Nat.le_of_ble_eq_true rfl) hp)
theorem d168_8 : decode (mB 168) 8 = .ok (.iload 5, 2) := by decide +kernel
theorem s168_8 {l0 l1 l2 l3 l4 : Option Value} {st : List Value} {x : Int32} {m : kMem} {Q : Option Value → kMem → Prop} : kJ 168 8 [l0, l1, l2, l3, l4, some (.int x)] st m Q = kJ 168 10 [l0, l1, l2, l3, l4, some (.int x)] (.int x :: st) m Q := kJ_next d168_8 rfl
theorem d168_10 : decode (mB 168) 10 = .ok (.iload_n 2, 1) := by decide +kernel
theorem s168_10 {l0 l1 l3 l4 l5 : Option Value} {st : List Value} {x : Int32} {m : kMem} {Q : Option Value → kMem → Prop} : kJ 168 10 [l0, l1, some (.int x), l3, l4, l5] st m Q = kJ 168 11 [l0, l1, some (.int x), l3, l4, l5] (.int x :: st) m Q := kJ_next d168_10 rfl
theorem d168_11 : decode (mB 168) 11 = .ok (.if_icmp .ge 32, 3) := by decide +kernel
theorem s168_11 {l0 l1 l2 l3 l4 l5 : Option Value} {st : List Value} {a b : Int32} {m : kMem} {Q : Option Value → kMem → Prop} : kJ 168 11 [l0, l1, l2, l3, l4, l5] (.int b :: .int a :: st) m Q = (if b ≤ a then kJ 168 43 [l0, l1, l2, l3, l4, l5] st m Q else kJ 168 14 [l0, l1, l2, l3, l4, l5] st m Q) := kJ_if d168_11 rfl (fun h => kJ_next d168_11 h) (fun h => kJ_next d168_11 h)
theorem d168_14 : decode (mB 168) 14 = .ok (.aload_n 0, 1) := by decide +kernel
theorem s168_14 {l1 l2 l3 l4 l5 : Option Value} {st : List Value} {x : Nat} {m : kMem} {Q : Option Value → kMem → Prop} : kJ 168 14 [some (.ref x), l1, l2, l3, l4, l5] st m Q = kJ 168 15 [some (.ref x), l1, l2, l3, l4, l5] (.ref x :: st) m Q := kJ_next d168_14 rfl
theorem d168_15 : decode (mB 168) 15 = .ok (.invokevirtual 195, 3) := by decide +kernel
theorem s168_15 {l0 l1 l2 l3 l4 l5 : Option Value} {v0 : Nat} {m : kMem} {Q : Option Value → kMem → Prop} (h : kIs m.2.2.2 v0 5 = true) : kJ 168 15 [l0, l1, l2, l3, l4, l5] [.ref v0] m Q = kJ 130 0 [some (.ref v0), none] [] m (fun v m2 => kJ 168 18 [l0, l1, l2, l3, l4, l5] (v.toList ++ []) m2 Q) := kJ_call d168_15 (kg_callv 130 0 rfl rfl rfl rfl (Nat.le_of_ble_eq_true rfl) (Nat.le_of_ble_eq_true rfl) (Nat.le_of_ble_eq_true rfl) h rfl)
theorem d168_18 : decode (mB 168) 18 = .ok (.aload_n 0, 1) := by decide +kernel
theorem s168_18 {l1 l2 l3 l4 l5 : Option Value} {st : List Value} {x : Nat} {m : kMem} {Q : Option Value → kMem → Prop} : kJ 168 18 [some (.ref x), l1, l2, l3, l4, l5] st m Q = kJ 168 19 [some (.ref x), l1, l2, l3, l4, l5] (.ref x :: st) m Q := kJ_next d168_18 rfl
theorem d168_19 : decode (mB 168) 19 = .ok (.getfield 13, 3) := by decide +kernel
theorem s168_19 {l0 l1 l2 l3 l4 l5 : Option Value} {st : List Value} {q : Nat} {mi : Nat → Nat → Int32} {ml : Nat → Nat → Int64} {mr : Nat → Nat → Option Nat} {nx : Nat} {Q : Option Value → kMem → Prop} (h : kIs nx q 5 = true) : kJ 168 19 [l0, l1, l2, l3, l4, l5] (.ref q :: st) (mi, ml, mr, nx) Q = kJ 168 22 [l0, l1, l2, l3, l4, l5] (va_rf (mr q 1) :: st) (mi, ml, mr, nx) Q := kJ_next d168_19 (kg_getr 5 1 rfl h (by decide))
theorem d168_22 : decode (mB 168) 22 = .ok (.iload_n 1, 1) := by decide +kernel
theorem s168_22 {l0 l2 l3 l4 l5 : Option Value} {st : List Value} {x : Int32} {m : kMem} {Q : Option Value → kMem → Prop} : kJ 168 22 [l0, some (.int x), l2, l3, l4, l5] st m Q = kJ 168 23 [l0, some (.int x), l2, l3, l4, l5] (.int x :: st) m Q := kJ_next d168_22 rfl
theorem d168_23 : decode (mB 168) 23 = .ok (.iload 5, 2) := by decide +kernel
theorem s168_23 {l0 l1 l2 l3 l4 : Option Value} {st : List Value} {x : Int32} {m : kMem} {Q : Option Value → kMem → Prop} : kJ 168 23 [l0, l1, l2, l3, l4, some (.int x)] st m Q = kJ 168 25 [l0, l1, l2, l3, l4, some (.int x)] (.int x :: st) m Q := kJ_next d168_23 rfl
theorem d168_25 : decode (mB 168) 25 = .ok (.iastore, 1) := by decide +kernel
theorem s168_25 {l0 l1 l2 l3 l4 l5 : Option Value} {st : List Value} {q : Nat} {i x : Int32} {mi : Nat → Nat → Int32} {ml : Nat → Nat → Int64} {mr : Nat → Nat → Option Nat} {nx : Nat} {Q : Option Value → kMem → Prop} (h : kIs nx q 10 = true) : kJ 168 25 [l0, l1, l2, l3, l4, l5] (.int x :: .int i :: .ref q :: st) (mi, ml, mr, nx) Q = (vp_in i (kAl q) ∧ kJ 168 26 [l0, l1, l2, l3, l4, l5] st (kup mi q i.toNatClampNeg x, ml, mr, nx) Q) := kg_astJ d168_25 rfl (kAr_of h)
theorem d168_26 : decode (mB 168) 26 = .ok (.aload_n 0, 1) := by decide +kernel
theorem s168_26 {l1 l2 l3 l4 l5 : Option Value} {st : List Value} {x : Nat} {m : kMem} {Q : Option Value → kMem → Prop} : kJ 168 26 [some (.ref x), l1, l2, l3, l4, l5] st m Q = kJ 168 27 [some (.ref x), l1, l2, l3, l4, l5] (.ref x :: st) m Q := kJ_next d168_26 rfl
theorem d168_27 : decode (mB 168) 27 = .ok (.iload 5, 2) := by decide +kernel
theorem s168_27 {l0 l1 l2 l3 l4 : Option Value} {st : List Value} {x : Int32} {m : kMem} {Q : Option Value → kMem → Prop} : kJ 168 27 [l0, l1, l2, l3, l4, some (.int x)] st m Q = kJ 168 29 [l0, l1, l2, l3, l4, some (.int x)] (.int x :: st) m Q := kJ_next d168_27 rfl
theorem d168_29 : decode (mB 168) 29 = .ok (.aload_n 0, 1) := by decide +kernel
theorem s168_29 {l1 l2 l3 l4 l5 : Option Value} {st : List Value} {x : Nat} {m : kMem} {Q : Option Value → kMem → Prop} : kJ 168 29 [some (.ref x), l1, l2, l3, l4, l5] st m Q = kJ 168 30 [some (.ref x), l1, l2, l3, l4, l5] (.ref x :: st) m Q := kJ_next d168_29 rfl
theorem d168_30 : decode (mB 168) 30 = .ok (.iload_n 3, 1) := by decide +kernel
theorem s168_30 {l0 l1 l2 l4 l5 : Option Value} {st : List Value} {x : Int32} {m : kMem} {Q : Option Value → kMem → Prop} : kJ 168 30 [l0, l1, l2, some (.int x), l4, l5] st m Q = kJ 168 31 [l0, l1, l2, some (.int x), l4, l5] (.int x :: st) m Q := kJ_next d168_30 rfl
theorem d168_31 : decode (mB 168) 31 = .ok (.invokevirtual 245, 3) := by decide +kernel
theorem s168_31 {l0 l1 l2 l3 l4 l5 : Option Value} {v0 : Int32} {v1 : Nat} {v2 : Int32} {v3 : Nat} {m : kMem} {Q : Option Value → kMem → Prop} (h : kIs m.2.2.2 v1 5 = true) : kJ 168 31 [l0, l1, l2, l3, l4, l5] [.int v0, .ref v1, .int v2, .ref v3] m Q = kJ 147 0 [some (.ref v1), some (.int v0)] [] m (fun v m2 => kJ 168 34 [l0, l1, l2, l3, l4, l5] (v.toList ++ [.int v2, .ref v3]) m2 Q) := kJ_call d168_31 (kg_callv 147 1 rfl rfl rfl rfl (Nat.le_of_ble_eq_true rfl) (Nat.le_of_ble_eq_true rfl) (Nat.le_of_ble_eq_true rfl) h rfl)
theorem d168_34 : decode (mB 168) 34 = .ok (.invokevirtual 248, 3) := by decide +kernel
theorem s168_34 {l0 l1 l2 l3 l4 l5 : Option Value} {v0 : Int32} {v1 : Int32} {v2 : Nat} {m : kMem} {Q : Option Value → kMem → Prop} (h : kIs m.2.2.2 v2 5 = true) : kJ 168 34 [l0, l1, l2, l3, l4, l5] [.int v0, .int v1, .ref v2] m Q = kJ 166 0 [some (.ref v2), some (.int v1), some (.int v0)] [] m (fun v m2 => kJ 168 37 [l0, l1, l2, l3, l4, l5] (v.toList ++ []) m2 Q) := kJ_call d168_34 (kg_callv 166 2 rfl rfl rfl rfl (Nat.le_of_ble_eq_true rfl) (Nat.le_of_ble_eq_true rfl) (Nat.le_of_ble_eq_true rfl) h rfl)
theorem d168_37 : decode (mB 168) 37 = .ok (.iinc 5 1, 3) := by decide +kernel
theorem s168_37 {l0 l1 l2 l3 l4 : Option Value} {st : List Value} {x : Int32} {m : kMem} {Q : Option Value → kMem → Prop} (hp : kNL l4 = true) : kJ 168 37 [l0, l1, l2, l3, l4, some (.int x)] st m Q = kJ 168 40 [l0, l1, l2, l3, l4, some (.int (x + (nI 1)))] st m Q := kJ_next d168_37 (kg_inc rfl (Nat.le_of_ble_eq_true rfl) hp)
theorem d168_40 : decode (mB 168) 40 = .ok (.goto (-32), 3) := by decide +kernel
theorem s168_40 {l0 l1 l2 l3 l4 l5 : Option Value} {st : List Value} {m : kMem} {Q : Option Value → kMem → Prop} : kJ 168 40 [l0, l1, l2, l3, l4, l5] st m Q = kJ 168 8 [l0, l1, l2, l3, l4, l5] st m Q := kJ_next d168_40 rfl
theorem d168_43 : decode (mB 168) 43 = .ok (.aload_n 0, 1) := by decide +kernel
theorem s168_43 {l1 l2 l3 l4 l5 : Option Value} {st : List Value} {x : Nat} {m : kMem} {Q : Option Value → kMem → Prop} : kJ 168 43 [some (.ref x), l1, l2, l3, l4, l5] st m Q = kJ 168 44 [some (.ref x), l1, l2, l3, l4, l5] (.ref x :: st) m Q := kJ_next d168_43 rfl
theorem d168_44 : decode (mB 168) 44 = .ok (.iload 4, 2) := by decide +kernel
theorem s168_44 {l0 l1 l2 l3 l5 : Option Value} {st : List Value} {x : Int32} {m : kMem} {Q : Option Value → kMem → Prop} : kJ 168 44 [l0, l1, l2, l3, some (.int x), l5] st m Q = kJ 168 46 [l0, l1, l2, l3, some (.int x), l5] (.int x :: st) m Q := kJ_next d168_44 rfl
theorem d168_46 : decode (mB 168) 46 = .ok (.invokevirtual 251, 3) := by decide +kernel
theorem s168_46 {l0 l1 l2 l3 l4 l5 : Option Value} {v0 : Int32} {v1 : Nat} {m : kMem} {Q : Option Value → kMem → Prop} (h : kIs m.2.2.2 v1 5 = true) : kJ 168 46 [l0, l1, l2, l3, l4, l5] [.int v0, .ref v1] m Q = kJ 167 0 [some (.ref v1), some (.int v0)] [] m (fun v m2 => kJ 168 49 [l0, l1, l2, l3, l4, l5] (v.toList ++ []) m2 Q) := kJ_call d168_46 (kg_callv 167 1 rfl rfl rfl rfl (Nat.le_of_ble_eq_true rfl) (Nat.le_of_ble_eq_true rfl) (Nat.le_of_ble_eq_true rfl) h rfl)
theorem d168_49 : decode (mB 168) 49 = .ok (.ireturn, 1) := by decide +kernel
theorem s168_49 {l0 l1 l2 l3 l4 l5 : Option Value} {x : Int32} {m : kMem} {Q : Option Value → kMem → Prop} : kJ 168 49 [l0, l1, l2, l3, l4, l5] [.int x] m Q = Q (some (.int x)) m := kJ_ret d168_49 rfl
theorem d169_0 : decode (mB 169) 0 = .ok (.aload_n 0, 1) := by decide +kernel
theorem s169_0 {l1 l2 l3 : Option Value} {st : List Value} {x : Nat} {m : kMem} {Q : Option Value → kMem → Prop} : kJ 169 0 [some (.ref x), l1, l2, l3] st m Q = kJ 169 1 [some (.ref x), l1, l2, l3] (.ref x :: st) m Q := kJ_next d169_0 rfl
theorem d169_1 : decode (mB 169) 1 = .ok (.iload_n 1, 1) := by decide +kernel
theorem s169_1 {l0 l2 l3 : Option Value} {st : List Value} {x : Int32} {m : kMem} {Q : Option Value → kMem → Prop} : kJ 169 1 [l0, some (.int x), l2, l3] st m Q = kJ 169 2 [l0, some (.int x), l2, l3] (.int x :: st) m Q := kJ_next d169_1 rfl
theorem d169_2 : decode (mB 169) 2 = .ok (.invokevirtual 206, 3) := by decide +kernel
theorem s169_2 {l0 l1 l2 l3 : Option Value} {v0 : Int32} {v1 : Nat} {m : kMem} {Q : Option Value → kMem → Prop} (h : kIs m.2.2.2 v1 5 = true) : kJ 169 2 [l0, l1, l2, l3] [.int v0, .ref v1] m Q = kJ 127 0 [some (.ref v1), some (.int v0)] [] m (fun v m2 => kJ 169 5 [l0, l1, l2, l3] (v.toList ++ []) m2 Q) := kJ_call d169_2 (kg_callv 127 1 rfl rfl rfl rfl (Nat.le_of_ble_eq_true rfl) (Nat.le_of_ble_eq_true rfl) (Nat.le_of_ble_eq_true rfl) h rfl)
theorem d169_5 : decode (mB 169) 5 = .ok (.ifCond .eq 17, 3) := by decide +kernel
theorem s169_5 {l0 l1 l2 l3 : Option Value} {st : List Value} {a : Int32} {m : kMem} {Q : Option Value → kMem → Prop} : kJ 169 5 [l0, l1, l2, l3] (.int a :: st) m Q = (if a = 0 then kJ 169 22 [l0, l1, l2, l3] st m Q else kJ 169 8 [l0, l1, l2, l3] st m Q) := kJ_if d169_5 rfl (fun h => kJ_next d169_5 h) (fun h => kJ_next d169_5 h)
theorem d169_8 : decode (mB 169) 8 = .ok (.iload_n 2, 1) := by decide +kernel
theorem s169_8 {l0 l1 l3 : Option Value} {st : List Value} {x : Int32} {m : kMem} {Q : Option Value → kMem → Prop} : kJ 169 8 [l0, l1, some (.int x), l3] st m Q = kJ 169 9 [l0, l1, some (.int x), l3] (.int x :: st) m Q := kJ_next d169_8 rfl
theorem d169_9 : decode (mB 169) 9 = .ok (.invokestatic 233, 3) := by decide +kernel
theorem s169_9 {l0 l1 l2 l3 : Option Value} {v0 : Int32} {m : kMem} {Q : Option Value → kMem → Prop} : kJ 169 9 [l0, l1, l2, l3] [.int v0] m Q = kJ 161 0 [some (.int v0)] [] m (fun v m2 => kJ 169 12 [l0, l1, l2, l3] (v.toList ++ []) m2 Q) := kJ_call d169_9 (kg_calls 161 1 rfl rfl (Nat.le_of_ble_eq_true rfl) (Nat.le_of_ble_eq_true rfl) (Nat.le_of_ble_eq_true rfl) (Nat.le_of_ble_eq_true rfl))
theorem d169_12 : decode (mB 169) 12 = .ok (.ifCond .eq 10, 3) := by decide +kernel
theorem s169_12 {l0 l1 l2 l3 : Option Value} {st : List Value} {a : Int32} {m : kMem} {Q : Option Value → kMem → Prop} : kJ 169 12 [l0, l1, l2, l3] (.int a :: st) m Q = (if a = 0 then kJ 169 22 [l0, l1, l2, l3] st m Q else kJ 169 15 [l0, l1, l2, l3] st m Q) := kJ_if d169_12 rfl (fun h => kJ_next d169_12 h) (fun h => kJ_next d169_12 h)
theorem d169_15 : decode (mB 169) 15 = .ok (.iload_n 3, 1) := by decide +kernel
theorem s169_15 {l0 l1 l2 : Option Value} {st : List Value} {x : Int32} {m : kMem} {Q : Option Value → kMem → Prop} : kJ 169 15 [l0, l1, l2, some (.int x)] st m Q = kJ 169 16 [l0, l1, l2, some (.int x)] (.int x :: st) m Q := kJ_next d169_15 rfl
theorem d169_16 : decode (mB 169) 16 = .ok (.invokestatic 254, 3) := by decide +kernel
theorem s169_16 {l0 l1 l2 l3 : Option Value} {v0 : Int32} {m : kMem} {Q : Option Value → kMem → Prop} : kJ 169 16 [l0, l1, l2, l3] [.int v0] m Q = kJ 129 0 [some (.int v0)] [] m (fun v m2 => kJ 169 19 [l0, l1, l2, l3] (v.toList ++ []) m2 Q) := kJ_call d169_16 (kg_calls 129 1 rfl rfl (Nat.le_of_ble_eq_true rfl) (Nat.le_of_ble_eq_true rfl) (Nat.le_of_ble_eq_true rfl) (Nat.le_of_ble_eq_true rfl))
theorem d169_19 : decode (mB 169) 19 = .ok (.ifCond .ne 5, 3) := by decide +kernel
theorem s169_19 {l0 l1 l2 l3 : Option Value} {st : List Value} {a : Int32} {m : kMem} {Q : Option Value → kMem → Prop} : kJ 169 19 [l0, l1, l2, l3] (.int a :: st) m Q = (if a = 0 then kJ 169 22 [l0, l1, l2, l3] st m Q else kJ 169 24 [l0, l1, l2, l3] st m Q) := kJ_if d169_19 rfl (fun h => kJ_next d169_19 h) (fun h => kJ_next d169_19 h)
theorem d169_22 : decode (mB 169) 22 = .ok (.iconst (-1), 1) := by decide +kernel
theorem s169_22 {l0 l1 l2 l3 : Option Value} {st : List Value} {m : kMem} {Q : Option Value → kMem → Prop} : kJ 169 22 [l0, l1, l2, l3] st m Q = kJ 169 23 [l0, l1, l2, l3] (.int (-1) :: st) m Q := kJ_next d169_22 rfl
theorem d169_23 : decode (mB 169) 23 = .ok (.ireturn, 1) := by decide +kernel
theorem s169_23 {l0 l1 l2 l3 : Option Value} {x : Int32} {m : kMem} {Q : Option Value → kMem → Prop} : kJ 169 23 [l0, l1, l2, l3] [.int x] m Q = Q (some (.int x)) m := kJ_ret d169_23 rfl
theorem d169_24 : decode (mB 169) 24 = .ok (.aload_n 0, 1) := by decide +kernel
theorem s169_24 {l1 l2 l3 : Option Value} {st : List Value} {x : Nat} {m : kMem} {Q : Option Value → kMem → Prop} : kJ 169 24 [some (.ref x), l1, l2, l3] st m Q = kJ 169 25 [some (.ref x), l1, l2, l3] (.ref x :: st) m Q := kJ_next d169_24 rfl
theorem d169_25 : decode (mB 169) 25 = .ok (.iload_n 1, 1) := by decide +kernel
theorem s169_25 {l0 l2 l3 : Option Value} {st : List Value} {x : Int32} {m : kMem} {Q : Option Value → kMem → Prop} : kJ 169 25 [l0, some (.int x), l2, l3] st m Q = kJ 169 26 [l0, some (.int x), l2, l3] (.int x :: st) m Q := kJ_next d169_25 rfl
theorem d169_26 : decode (mB 169) 26 = .ok (.invokevirtual 221, 3) := by decide +kernel
theorem s169_26 {l0 l1 l2 l3 : Option Value} {v0 : Int32} {v1 : Nat} {m : kMem} {Q : Option Value → kMem → Prop} (h : kIs m.2.2.2 v1 5 = true) : kJ 169 26 [l0, l1, l2, l3] [.int v0, .ref v1] m Q = kJ 155 0 [some (.ref v1), some (.int v0)] [] m (fun v m2 => kJ 169 29 [l0, l1, l2, l3] (v.toList ++ []) m2 Q) := kJ_call d169_26 (kg_callv 155 1 rfl rfl rfl rfl (Nat.le_of_ble_eq_true rfl) (Nat.le_of_ble_eq_true rfl) (Nat.le_of_ble_eq_true rfl) h rfl)
theorem d169_29 : decode (mB 169) 29 = .ok (.iconst 2, 1) := by decide +kernel
theorem s169_29 {l0 l1 l2 l3 : Option Value} {st : List Value} {m : kMem} {Q : Option Value → kMem → Prop} : kJ 169 29 [l0, l1, l2, l3] st m Q = kJ 169 30 [l0, l1, l2, l3] (.int (nI 2) :: st) m Q := kJ_next d169_29 rfl
theorem d169_30 : decode (mB 169) 30 = .ok (.if_icmp .lt 8, 3) := by decide +kernel
theorem s169_30 {l0 l1 l2 l3 : Option Value} {st : List Value} {a b : Int32} {m : kMem} {Q : Option Value → kMem → Prop} : kJ 169 30 [l0, l1, l2, l3] (.int b :: .int a :: st) m Q = (if a < b then kJ 169 38 [l0, l1, l2, l3] st m Q else kJ 169 33 [l0, l1, l2, l3] st m Q) := kJ_if d169_30 rfl (fun h => kJ_next d169_30 h) (fun h => kJ_next d169_30 h)
theorem d169_33 : decode (mB 169) 33 = .ok (.bipush (-2), 2) := by decide +kernel
theorem s169_33 {l0 l1 l2 l3 : Option Value} {st : List Value} {m : kMem} {Q : Option Value → kMem → Prop} : kJ 169 33 [l0, l1, l2, l3] st m Q = kJ 169 35 [l0, l1, l2, l3] (.int (-2) :: st) m Q := kJ_next d169_33 rfl
theorem d169_35 : decode (mB 169) 35 = .ok (.goto 20, 3) := by decide +kernel
theorem s169_35 {l0 l1 l2 l3 : Option Value} {st : List Value} {m : kMem} {Q : Option Value → kMem → Prop} : kJ 169 35 [l0, l1, l2, l3] st m Q = kJ 169 55 [l0, l1, l2, l3] st m Q := kJ_next d169_35 rfl
theorem d169_38 : decode (mB 169) 38 = .ok (.aload_n 0, 1) := by decide +kernel
theorem s169_38 {l1 l2 l3 : Option Value} {st : List Value} {x : Nat} {m : kMem} {Q : Option Value → kMem → Prop} : kJ 169 38 [some (.ref x), l1, l2, l3] st m Q = kJ 169 39 [some (.ref x), l1, l2, l3] (.ref x :: st) m Q := kJ_next d169_38 rfl
theorem d169_39 : decode (mB 169) 39 = .ok (.bipush 16, 2) := by decide +kernel
theorem s169_39 {l0 l1 l2 l3 : Option Value} {st : List Value} {m : kMem} {Q : Option Value → kMem → Prop} : kJ 169 39 [l0, l1, l2, l3] st m Q = kJ 169 41 [l0, l1, l2, l3] (.int (nI 16) :: st) m Q := kJ_next d169_39 rfl
theorem d169_41 : decode (mB 169) 41 = .ok (.bipush 6, 2) := by decide +kernel
theorem s169_41 {l0 l1 l2 l3 : Option Value} {st : List Value} {m : kMem} {Q : Option Value → kMem → Prop} : kJ 169 41 [l0, l1, l2, l3] st m Q = kJ 169 43 [l0, l1, l2, l3] (.int (nI 6) :: st) m Q := kJ_next d169_41 rfl
theorem d169_43 : decode (mB 169) 43 = .ok (.iload_n 1, 1) := by decide +kernel
theorem s169_43 {l0 l2 l3 : Option Value} {st : List Value} {x : Int32} {m : kMem} {Q : Option Value → kMem → Prop} : kJ 169 43 [l0, some (.int x), l2, l3] st m Q = kJ 169 44 [l0, some (.int x), l2, l3] (.int x :: st) m Q := kJ_next d169_43 rfl
theorem d169_44 : decode (mB 169) 44 = .ok (.imul, 1) := by decide +kernel
theorem s169_44 {l0 l1 l2 l3 : Option Value} {st : List Value} {a b : Int32} {m : kMem} {Q : Option Value → kMem → Prop} : kJ 169 44 [l0, l1, l2, l3] (.int b :: .int a :: st) m Q = kJ 169 45 [l0, l1, l2, l3] (.int (a * b) :: st) m Q := kJ_next d169_44 rfl
theorem d169_45 : decode (mB 169) 45 = .ok (.iadd, 1) := by decide +kernel
theorem s169_45 {l0 l1 l2 l3 : Option Value} {st : List Value} {a b : Int32} {m : kMem} {Q : Option Value → kMem → Prop} : kJ 169 45 [l0, l1, l2, l3] (.int b :: .int a :: st) m Q = kJ 169 46 [l0, l1, l2, l3] (.int (a + b) :: st) m Q := kJ_next d169_45 rfl
theorem d169_46 : decode (mB 169) 46 = .ok (.iconst 3, 1) := by decide +kernel
theorem s169_46 {l0 l1 l2 l3 : Option Value} {st : List Value} {m : kMem} {Q : Option Value → kMem → Prop} : kJ 169 46 [l0, l1, l2, l3] st m Q = kJ 169 47 [l0, l1, l2, l3] (.int (nI 3) :: st) m Q := kJ_next d169_46 rfl
theorem d169_47 : decode (mB 169) 47 = .ok (.iadd, 1) := by decide +kernel
theorem s169_47 {l0 l1 l2 l3 : Option Value} {st : List Value} {a b : Int32} {m : kMem} {Q : Option Value → kMem → Prop} : kJ 169 47 [l0, l1, l2, l3] (.int b :: .int a :: st) m Q = kJ 169 48 [l0, l1, l2, l3] (.int (a + b) :: st) m Q := kJ_next d169_47 rfl
theorem d169_48 : decode (mB 169) 48 = .ok (.bipush 19, 2) := by decide +kernel
theorem s169_48 {l0 l1 l2 l3 : Option Value} {st : List Value} {m : kMem} {Q : Option Value → kMem → Prop} : kJ 169 48 [l0, l1, l2, l3] st m Q = kJ 169 50 [l0, l1, l2, l3] (.int (nI 19) :: st) m Q := kJ_next d169_48 rfl
theorem d169_50 : decode (mB 169) 50 = .ok (.iload_n 2, 1) := by decide +kernel
theorem s169_50 {l0 l1 l3 : Option Value} {st : List Value} {x : Int32} {m : kMem} {Q : Option Value → kMem → Prop} : kJ 169 50 [l0, l1, some (.int x), l3] st m Q = kJ 169 51 [l0, l1, some (.int x), l3] (.int x :: st) m Q := kJ_next d169_50 rfl
theorem d169_51 : decode (mB 169) 51 = .ok (.iload_n 3, 1) := by decide +kernel
theorem s169_51 {l0 l1 l2 : Option Value} {st : List Value} {x : Int32} {m : kMem} {Q : Option Value → kMem → Prop} : kJ 169 51 [l0, l1, l2, some (.int x)] st m Q = kJ 169 52 [l0, l1, l2, some (.int x)] (.int x :: st) m Q := kJ_next d169_51 rfl
theorem d169_52 : decode (mB 169) 52 = .ok (.invokevirtual 257, 3) := by decide +kernel
theorem s169_52 {l0 l1 l2 l3 : Option Value} {v0 : Int32} {v1 : Int32} {v2 : Int32} {v3 : Int32} {v4 : Nat} {m : kMem} {Q : Option Value → kMem → Prop} (h : kIs m.2.2.2 v4 5 = true) : kJ 169 52 [l0, l1, l2, l3] [.int v0, .int v1, .int v2, .int v3, .ref v4] m Q = kJ 168 0 [some (.ref v4), some (.int v3), some (.int v2), some (.int v1), some (.int v0), none] [] m (fun v m2 => kJ 169 55 [l0, l1, l2, l3] (v.toList ++ []) m2 Q) := kJ_call d169_52 (kg_callv 168 4 rfl rfl rfl rfl (Nat.le_of_ble_eq_true rfl) (Nat.le_of_ble_eq_true rfl) (Nat.le_of_ble_eq_true rfl) h rfl)
theorem d169_55 : decode (mB 169) 55 = .ok (.ireturn, 1) := by decide +kernel
theorem s169_55 {l0 l1 l2 l3 : Option Value} {x : Int32} {m : kMem} {Q : Option Value → kMem → Prop} : kJ 169 55 [l0, l1, l2, l3] [.int x] m Q = Q (some (.int x)) m := kJ_ret d169_55 rfl
theorem d170_0 : decode (mB 170) 0 = .ok (.aload_n 0, 1) := by decide +kernel
theorem s170_0 {l1 l2 l3 : Option Value} {st : List Value} {x : Nat} {m : kMem} {Q : Option Value → kMem → Prop} : kJ 170 0 [some (.ref x), l1, l2, l3] st m Q = kJ 170 1 [some (.ref x), l1, l2, l3] (.ref x :: st) m Q := kJ_next d170_0 rfl
theorem d170_1 : decode (mB 170) 1 = .ok (.iload_n 1, 1) := by decide +kernel
theorem s170_1 {l0 l2 l3 : Option Value} {st : List Value} {x : Int32} {m : kMem} {Q : Option Value → kMem → Prop} : kJ 170 1 [l0, some (.int x), l2, l3] st m Q = kJ 170 2 [l0, some (.int x), l2, l3] (.int x :: st) m Q := kJ_next d170_1 rfl
theorem d170_2 : decode (mB 170) 2 = .ok (.invokevirtual 206, 3) := by decide +kernel
theorem s170_2 {l0 l1 l2 l3 : Option Value} {v0 : Int32} {v1 : Nat} {m : kMem} {Q : Option Value → kMem → Prop} (h : kIs m.2.2.2 v1 5 = true) : kJ 170 2 [l0, l1, l2, l3] [.int v0, .ref v1] m Q = kJ 127 0 [some (.ref v1), some (.int v0)] [] m (fun v m2 => kJ 170 5 [l0, l1, l2, l3] (v.toList ++ []) m2 Q) := kJ_call d170_2 (kg_callv 127 1 rfl rfl rfl rfl (Nat.le_of_ble_eq_true rfl) (Nat.le_of_ble_eq_true rfl) (Nat.le_of_ble_eq_true rfl) h rfl)
theorem d170_5 : decode (mB 170) 5 = .ok (.ifCond .eq 10, 3) := by decide +kernel
theorem s170_5 {l0 l1 l2 l3 : Option Value} {st : List Value} {a : Int32} {m : kMem} {Q : Option Value → kMem → Prop} : kJ 170 5 [l0, l1, l2, l3] (.int a :: st) m Q = (if a = 0 then kJ 170 15 [l0, l1, l2, l3] st m Q else kJ 170 8 [l0, l1, l2, l3] st m Q) := kJ_if d170_5 rfl (fun h => kJ_next d170_5 h) (fun h => kJ_next d170_5 h)
theorem d170_8 : decode (mB 170) 8 = .ok (.iload_n 2, 1) := by decide +kernel
theorem s170_8 {l0 l1 l3 : Option Value} {st : List Value} {x : Int32} {m : kMem} {Q : Option Value → kMem → Prop} : kJ 170 8 [l0, l1, some (.int x), l3] st m Q = kJ 170 9 [l0, l1, some (.int x), l3] (.int x :: st) m Q := kJ_next d170_8 rfl
theorem d170_9 : decode (mB 170) 9 = .ok (.invokestatic 233, 3) := by decide +kernel
theorem s170_9 {l0 l1 l2 l3 : Option Value} {v0 : Int32} {m : kMem} {Q : Option Value → kMem → Prop} : kJ 170 9 [l0, l1, l2, l3] [.int v0] m Q = kJ 161 0 [some (.int v0)] [] m (fun v m2 => kJ 170 12 [l0, l1, l2, l3] (v.toList ++ []) m2 Q) := kJ_call d170_9 (kg_calls 161 1 rfl rfl (Nat.le_of_ble_eq_true rfl) (Nat.le_of_ble_eq_true rfl) (Nat.le_of_ble_eq_true rfl) (Nat.le_of_ble_eq_true rfl))
theorem d170_12 : decode (mB 170) 12 = .ok (.ifCond .ne 5, 3) := by decide +kernel
theorem s170_12 {l0 l1 l2 l3 : Option Value} {st : List Value} {a : Int32} {m : kMem} {Q : Option Value → kMem → Prop} : kJ 170 12 [l0, l1, l2, l3] (.int a :: st) m Q = (if a = 0 then kJ 170 15 [l0, l1, l2, l3] st m Q else kJ 170 17 [l0, l1, l2, l3] st m Q) := kJ_if d170_12 rfl (fun h => kJ_next d170_12 h) (fun h => kJ_next d170_12 h)
theorem d170_15 : decode (mB 170) 15 = .ok (.iconst (-1), 1) := by decide +kernel
theorem s170_15 {l0 l1 l2 l3 : Option Value} {st : List Value} {m : kMem} {Q : Option Value → kMem → Prop} : kJ 170 15 [l0, l1, l2, l3] st m Q = kJ 170 16 [l0, l1, l2, l3] (.int (-1) :: st) m Q := kJ_next d170_15 rfl
theorem d170_16 : decode (mB 170) 16 = .ok (.ireturn, 1) := by decide +kernel
theorem s170_16 {l0 l1 l2 l3 : Option Value} {x : Int32} {m : kMem} {Q : Option Value → kMem → Prop} : kJ 170 16 [l0, l1, l2, l3] [.int x] m Q = Q (some (.int x)) m := kJ_ret d170_16 rfl
theorem d170_17 : decode (mB 170) 17 = .ok (.aload_n 0, 1) := by decide +kernel
theorem s170_17 {l1 l2 l3 : Option Value} {st : List Value} {x : Nat} {m : kMem} {Q : Option Value → kMem → Prop} : kJ 170 17 [some (.ref x), l1, l2, l3] st m Q = kJ 170 18 [some (.ref x), l1, l2, l3] (.ref x :: st) m Q := kJ_next d170_17 rfl
theorem d170_18 : decode (mB 170) 18 = .ok (.iload_n 1, 1) := by decide +kernel
theorem s170_18 {l0 l2 l3 : Option Value} {st : List Value} {x : Int32} {m : kMem} {Q : Option Value → kMem → Prop} : kJ 170 18 [l0, some (.int x), l2, l3] st m Q = kJ 170 19 [l0, some (.int x), l2, l3] (.int x :: st) m Q := kJ_next d170_18 rfl
theorem d170_19 : decode (mB 170) 19 = .ok (.invokevirtual 221, 3) := by decide +kernel
theorem s170_19 {l0 l1 l2 l3 : Option Value} {v0 : Int32} {v1 : Nat} {m : kMem} {Q : Option Value → kMem → Prop} (h : kIs m.2.2.2 v1 5 = true) : kJ 170 19 [l0, l1, l2, l3] [.int v0, .ref v1] m Q = kJ 155 0 [some (.ref v1), some (.int v0)] [] m (fun v m2 => kJ 170 22 [l0, l1, l2, l3] (v.toList ++ []) m2 Q) := kJ_call d170_19 (kg_callv 155 1 rfl rfl rfl rfl (Nat.le_of_ble_eq_true rfl) (Nat.le_of_ble_eq_true rfl) (Nat.le_of_ble_eq_true rfl) h rfl)
theorem d170_22 : decode (mB 170) 22 = .ok (.iconst 2, 1) := by decide +kernel
theorem s170_22 {l0 l1 l2 l3 : Option Value} {st : List Value} {m : kMem} {Q : Option Value → kMem → Prop} : kJ 170 22 [l0, l1, l2, l3] st m Q = kJ 170 23 [l0, l1, l2, l3] (.int (nI 2) :: st) m Q := kJ_next d170_22 rfl
theorem d170_23 : decode (mB 170) 23 = .ok (.if_icmp .lt 6, 3) := by decide +kernel
theorem s170_23 {l0 l1 l2 l3 : Option Value} {st : List Value} {a b : Int32} {m : kMem} {Q : Option Value → kMem → Prop} : kJ 170 23 [l0, l1, l2, l3] (.int b :: .int a :: st) m Q = (if a < b then kJ 170 29 [l0, l1, l2, l3] st m Q else kJ 170 26 [l0, l1, l2, l3] st m Q) := kJ_if d170_23 rfl (fun h => kJ_next d170_23 h) (fun h => kJ_next d170_23 h)
theorem d170_26 : decode (mB 170) 26 = .ok (.bipush (-2), 2) := by decide +kernel
theorem s170_26 {l0 l1 l2 l3 : Option Value} {st : List Value} {m : kMem} {Q : Option Value → kMem → Prop} : kJ 170 26 [l0, l1, l2, l3] st m Q = kJ 170 28 [l0, l1, l2, l3] (.int (-2) :: st) m Q := kJ_next d170_26 rfl
theorem d170_28 : decode (mB 170) 28 = .ok (.ireturn, 1) := by decide +kernel
theorem s170_28 {l0 l1 l2 l3 : Option Value} {x : Int32} {m : kMem} {Q : Option Value → kMem → Prop} : kJ 170 28 [l0, l1, l2, l3] [.int x] m Q = Q (some (.int x)) m := kJ_ret d170_28 rfl
theorem d170_29 : decode (mB 170) 29 = .ok (.iconst 0, 1) := by decide +kernel
theorem s170_29 {l0 l1 l2 l3 : Option Value} {st : List Value} {m : kMem} {Q : Option Value → kMem → Prop} : kJ 170 29 [l0, l1, l2, l3] st m Q = kJ 170 30 [l0, l1, l2, l3] (.int (nI 0) :: st) m Q := kJ_next d170_29 rfl
theorem d170_30 : decode (mB 170) 30 = .ok (.istore_n 3, 1) := by decide +kernel
theorem s170_30 {l0 l1 l2 l3 : Option Value} {st : List Value} {x : Int32} {m : kMem} {Q : Option Value → kMem → Prop} (hp : kNL l2 = true) : kJ 170 30 [l0, l1, l2, l3] (.int x :: st) m Q = kJ 170 31 [l0, l1, l2, some (.int x)] st m Q := kJ_next d170_30 (kg_sti (Nat.le_of_ble_eq_true rfl) hp)
theorem d170_31 : decode (mB 170) 31 = .ok (.iload_n 3, 1) := by decide +kernel
theorem s170_31 {l0 l1 l2 : Option Value} {st : List Value} {x : Int32} {m : kMem} {Q : Option Value → kMem → Prop} : kJ 170 31 [l0, l1, l2, some (.int x)] st m Q = kJ 170 32 [l0, l1, l2, some (.int x)] (.int x :: st) m Q := kJ_next d170_31 rfl
theorem d170_32 : decode (mB 170) 32 = .ok (.bipush 18, 2) := by decide +kernel
theorem s170_32 {l0 l1 l2 l3 : Option Value} {st : List Value} {m : kMem} {Q : Option Value → kMem → Prop} : kJ 170 32 [l0, l1, l2, l3] st m Q = kJ 170 34 [l0, l1, l2, l3] (.int (nI 18) :: st) m Q := kJ_next d170_32 rfl
theorem d170_34 : decode (mB 170) 34 = .ok (.if_icmp .gt 37, 3) := by decide +kernel
theorem s170_34 {l0 l1 l2 l3 : Option Value} {st : List Value} {a b : Int32} {m : kMem} {Q : Option Value → kMem → Prop} : kJ 170 34 [l0, l1, l2, l3] (.int b :: .int a :: st) m Q = (if b < a then kJ 170 71 [l0, l1, l2, l3] st m Q else kJ 170 37 [l0, l1, l2, l3] st m Q) := kJ_if d170_34 rfl (fun h => kJ_next d170_34 h) (fun h => kJ_next d170_34 h)
theorem d170_37 : decode (mB 170) 37 = .ok (.aload_n 0, 1) := by decide +kernel
theorem s170_37 {l1 l2 l3 : Option Value} {st : List Value} {x : Nat} {m : kMem} {Q : Option Value → kMem → Prop} : kJ 170 37 [some (.ref x), l1, l2, l3] st m Q = kJ 170 38 [some (.ref x), l1, l2, l3] (.ref x :: st) m Q := kJ_next d170_37 rfl
theorem d170_38 : decode (mB 170) 38 = .ok (.invokevirtual 195, 3) := by decide +kernel
theorem s170_38 {l0 l1 l2 l3 : Option Value} {v0 : Nat} {m : kMem} {Q : Option Value → kMem → Prop} (h : kIs m.2.2.2 v0 5 = true) : kJ 170 38 [l0, l1, l2, l3] [.ref v0] m Q = kJ 130 0 [some (.ref v0), none] [] m (fun v m2 => kJ 170 41 [l0, l1, l2, l3] (v.toList ++ []) m2 Q) := kJ_call d170_38 (kg_callv 130 0 rfl rfl rfl rfl (Nat.le_of_ble_eq_true rfl) (Nat.le_of_ble_eq_true rfl) (Nat.le_of_ble_eq_true rfl) h rfl)
theorem d170_41 : decode (mB 170) 41 = .ok (.aload_n 0, 1) := by decide +kernel
theorem s170_41 {l1 l2 l3 : Option Value} {st : List Value} {x : Nat} {m : kMem} {Q : Option Value → kMem → Prop} : kJ 170 41 [some (.ref x), l1, l2, l3] st m Q = kJ 170 42 [some (.ref x), l1, l2, l3] (.ref x :: st) m Q := kJ_next d170_41 rfl
theorem d170_42 : decode (mB 170) 42 = .ok (.iload_n 1, 1) := by decide +kernel
theorem s170_42 {l0 l2 l3 : Option Value} {st : List Value} {x : Int32} {m : kMem} {Q : Option Value → kMem → Prop} : kJ 170 42 [l0, some (.int x), l2, l3] st m Q = kJ 170 43 [l0, some (.int x), l2, l3] (.int x :: st) m Q := kJ_next d170_42 rfl
theorem d170_43 : decode (mB 170) 43 = .ok (.iconst 3, 1) := by decide +kernel
theorem s170_43 {l0 l1 l2 l3 : Option Value} {st : List Value} {m : kMem} {Q : Option Value → kMem → Prop} : kJ 170 43 [l0, l1, l2, l3] st m Q = kJ 170 44 [l0, l1, l2, l3] (.int (nI 3) :: st) m Q := kJ_next d170_43 rfl
theorem d170_44 : decode (mB 170) 44 = .ok (.iload_n 3, 1) := by decide +kernel
theorem s170_44 {l0 l1 l2 : Option Value} {st : List Value} {x : Int32} {m : kMem} {Q : Option Value → kMem → Prop} : kJ 170 44 [l0, l1, l2, some (.int x)] st m Q = kJ 170 45 [l0, l1, l2, some (.int x)] (.int x :: st) m Q := kJ_next d170_44 rfl
theorem d170_45 : decode (mB 170) 45 = .ok (.invokevirtual 161, 3) := by decide +kernel
theorem s170_45 {l0 l1 l2 l3 : Option Value} {v0 : Int32} {v1 : Int32} {v2 : Int32} {v3 : Nat} {m : kMem} {Q : Option Value → kMem → Prop} (h : kIs m.2.2.2 v3 5 = true) : kJ 170 45 [l0, l1, l2, l3] [.int v0, .int v1, .int v2, .ref v3] m Q = kJ 135 0 [some (.ref v3), some (.int v2), some (.int v1), some (.int v0)] [] m (fun v m2 => kJ 170 48 [l0, l1, l2, l3] (v.toList ++ []) m2 Q) := kJ_call d170_45 (kg_callv 135 3 rfl rfl rfl rfl (Nat.le_of_ble_eq_true rfl) (Nat.le_of_ble_eq_true rfl) (Nat.le_of_ble_eq_true rfl) h rfl)
theorem d170_48 : decode (mB 170) 48 = .ok (.aload_n 0, 1) := by decide +kernel
theorem s170_48 {l1 l2 l3 : Option Value} {st : List Value} {x : Nat} {m : kMem} {Q : Option Value → kMem → Prop} : kJ 170 48 [some (.ref x), l1, l2, l3] st m Q = kJ 170 49 [some (.ref x), l1, l2, l3] (.ref x :: st) m Q := kJ_next d170_48 rfl
theorem d170_49 : decode (mB 170) 49 = .ok (.iload_n 2, 1) := by decide +kernel
theorem s170_49 {l0 l1 l3 : Option Value} {st : List Value} {x : Int32} {m : kMem} {Q : Option Value → kMem → Prop} : kJ 170 49 [l0, l1, some (.int x), l3] st m Q = kJ 170 50 [l0, l1, some (.int x), l3] (.int x :: st) m Q := kJ_next d170_49 rfl
theorem d170_50 : decode (mB 170) 50 = .ok (.invokevirtual 185, 3) := by decide +kernel
theorem s170_50 {l0 l1 l2 l3 : Option Value} {v0 : Int32} {v1 : Nat} {m : kMem} {Q : Option Value → kMem → Prop} (h : kIs m.2.2.2 v1 5 = true) : kJ 170 50 [l0, l1, l2, l3] [.int v0, .ref v1] m Q = kJ 145 0 [some (.ref v1), some (.int v0), none] [] m (fun v m2 => kJ 170 53 [l0, l1, l2, l3] (v.toList ++ []) m2 Q) := kJ_call d170_50 (kg_callv 145 1 rfl rfl rfl rfl (Nat.le_of_ble_eq_true rfl) (Nat.le_of_ble_eq_true rfl) (Nat.le_of_ble_eq_true rfl) h rfl)
theorem d170_53 : decode (mB 170) 53 = .ok (.aload_n 0, 1) := by decide +kernel
theorem s170_53 {l1 l2 l3 : Option Value} {st : List Value} {x : Nat} {m : kMem} {Q : Option Value → kMem → Prop} : kJ 170 53 [some (.ref x), l1, l2, l3] st m Q = kJ 170 54 [some (.ref x), l1, l2, l3] (.ref x :: st) m Q := kJ_next d170_53 rfl
theorem d170_54 : decode (mB 170) 54 = .ok (.iload_n 1, 1) := by decide +kernel
theorem s170_54 {l0 l2 l3 : Option Value} {st : List Value} {x : Int32} {m : kMem} {Q : Option Value → kMem → Prop} : kJ 170 54 [l0, some (.int x), l2, l3] st m Q = kJ 170 55 [l0, some (.int x), l2, l3] (.int x :: st) m Q := kJ_next d170_54 rfl
theorem d170_55 : decode (mB 170) 55 = .ok (.iconst 5, 1) := by decide +kernel
theorem s170_55 {l0 l1 l2 l3 : Option Value} {st : List Value} {m : kMem} {Q : Option Value → kMem → Prop} : kJ 170 55 [l0, l1, l2, l3] st m Q = kJ 170 56 [l0, l1, l2, l3] (.int (nI 5) :: st) m Q := kJ_next d170_55 rfl
theorem d170_56 : decode (mB 170) 56 = .ok (.invokevirtual 141, 3) := by decide +kernel
theorem s170_56 {l0 l1 l2 l3 : Option Value} {v0 : Int32} {v1 : Int32} {v2 : Nat} {m : kMem} {Q : Option Value → kMem → Prop} (h : kIs m.2.2.2 v2 5 = true) : kJ 170 56 [l0, l1, l2, l3] [.int v0, .int v1, .ref v2] m Q = kJ 134 0 [some (.ref v2), some (.int v1), some (.int v0)] [] m (fun v m2 => kJ 170 59 [l0, l1, l2, l3] (v.toList ++ []) m2 Q) := kJ_call d170_56 (kg_callv 134 2 rfl rfl rfl rfl (Nat.le_of_ble_eq_true rfl) (Nat.le_of_ble_eq_true rfl) (Nat.le_of_ble_eq_true rfl) h rfl)
theorem d170_59 : decode (mB 170) 59 = .ok (.iconst 2, 1) := by decide +kernel
theorem s170_59 {l0 l1 l2 l3 : Option Value} {st : List Value} {m : kMem} {Q : Option Value → kMem → Prop} : kJ 170 59 [l0, l1, l2, l3] st m Q = kJ 170 60 [l0, l1, l2, l3] (.int (nI 2) :: st) m Q := kJ_next d170_59 rfl
theorem d170_60 : decode (mB 170) 60 = .ok (.if_icmp .ne 5, 3) := by decide +kernel
theorem s170_60 {l0 l1 l2 l3 : Option Value} {st : List Value} {a b : Int32} {m : kMem} {Q : Option Value → kMem → Prop} : kJ 170 60 [l0, l1, l2, l3] (.int b :: .int a :: st) m Q = (if a = b then kJ 170 63 [l0, l1, l2, l3] st m Q else kJ 170 65 [l0, l1, l2, l3] st m Q) := kJ_if d170_60 rfl (fun h => kJ_next d170_60 h) (fun h => kJ_next d170_60 h)
theorem d170_63 : decode (mB 170) 63 = .ok (.iload_n 3, 1) := by decide +kernel
theorem s170_63 {l0 l1 l2 : Option Value} {st : List Value} {x : Int32} {m : kMem} {Q : Option Value → kMem → Prop} : kJ 170 63 [l0, l1, l2, some (.int x)] st m Q = kJ 170 64 [l0, l1, l2, some (.int x)] (.int x :: st) m Q := kJ_next d170_63 rfl
theorem d170_64 : decode (mB 170) 64 = .ok (.ireturn, 1) := by decide +kernel
theorem s170_64 {l0 l1 l2 l3 : Option Value} {x : Int32} {m : kMem} {Q : Option Value → kMem → Prop} : kJ 170 64 [l0, l1, l2, l3] [.int x] m Q = Q (some (.int x)) m := kJ_ret d170_64 rfl
theorem d170_65 : decode (mB 170) 65 = .ok (.iinc 3 1, 3) := by decide +kernel
theorem s170_65 {l0 l1 l2 : Option Value} {st : List Value} {x : Int32} {m : kMem} {Q : Option Value → kMem → Prop} (hp : kNL l2 = true) : kJ 170 65 [l0, l1, l2, some (.int x)] st m Q = kJ 170 68 [l0, l1, l2, some (.int (x + (nI 1)))] st m Q := kJ_next d170_65 (kg_inc rfl (Nat.le_of_ble_eq_true rfl) hp)
theorem d170_68 : decode (mB 170) 68 = .ok (.goto (-37), 3) := by decide +kernel
theorem s170_68 {l0 l1 l2 l3 : Option Value} {st : List Value} {m : kMem} {Q : Option Value → kMem → Prop} : kJ 170 68 [l0, l1, l2, l3] st m Q = kJ 170 31 [l0, l1, l2, l3] st m Q := kJ_next d170_68 rfl
theorem d170_71 : decode (mB 170) 71 = .ok (.bipush (-4), 2) := by decide +kernel
theorem s170_71 {l0 l1 l2 l3 : Option Value} {st : List Value} {m : kMem} {Q : Option Value → kMem → Prop} : kJ 170 71 [l0, l1, l2, l3] st m Q = kJ 170 73 [l0, l1, l2, l3] (.int (-4) :: st) m Q := kJ_next d170_71 rfl
theorem d170_73 : decode (mB 170) 73 = .ok (.ireturn, 1) := by decide +kernel
theorem s170_73 {l0 l1 l2 l3 : Option Value} {x : Int32} {m : kMem} {Q : Option Value → kMem → Prop} : kJ 170 73 [l0, l1, l2, l3] [.int x] m Q = Q (some (.int x)) m := kJ_ret d170_73 rfl
theorem d171_0 : decode (mB 171) 0 = .ok (.aload_n 0, 1) := by decide +kernel
theorem s171_0 {l1 l2 l3 : Option Value} {st : List Value} {x : Nat} {m : kMem} {Q : Option Value → kMem → Prop} : kJ 171 0 [some (.ref x), l1, l2, l3] st m Q = kJ 171 1 [some (.ref x), l1, l2, l3] (.ref x :: st) m Q := kJ_next d171_0 rfl
theorem d171_1 : decode (mB 171) 1 = .ok (.iload_n 1, 1) := by decide +kernel
theorem s171_1 {l0 l2 l3 : Option Value} {st : List Value} {x : Int32} {m : kMem} {Q : Option Value → kMem → Prop} : kJ 171 1 [l0, some (.int x), l2, l3] st m Q = kJ 171 2 [l0, some (.int x), l2, l3] (.int x :: st) m Q := kJ_next d171_1 rfl
theorem d171_2 : decode (mB 171) 2 = .ok (.invokevirtual 206, 3) := by decide +kernel
theorem s171_2 {l0 l1 l2 l3 : Option Value} {v0 : Int32} {v1 : Nat} {m : kMem} {Q : Option Value → kMem → Prop} (h : kIs m.2.2.2 v1 5 = true) : kJ 171 2 [l0, l1, l2, l3] [.int v0, .ref v1] m Q = kJ 127 0 [some (.ref v1), some (.int v0)] [] m (fun v m2 => kJ 171 5 [l0, l1, l2, l3] (v.toList ++ []) m2 Q) := kJ_call d171_2 (kg_callv 127 1 rfl rfl rfl rfl (Nat.le_of_ble_eq_true rfl) (Nat.le_of_ble_eq_true rfl) (Nat.le_of_ble_eq_true rfl) h rfl)
theorem d171_5 : decode (mB 171) 5 = .ok (.ifCond .eq 17, 3) := by decide +kernel
theorem s171_5 {l0 l1 l2 l3 : Option Value} {st : List Value} {a : Int32} {m : kMem} {Q : Option Value → kMem → Prop} : kJ 171 5 [l0, l1, l2, l3] (.int a :: st) m Q = (if a = 0 then kJ 171 22 [l0, l1, l2, l3] st m Q else kJ 171 8 [l0, l1, l2, l3] st m Q) := kJ_if d171_5 rfl (fun h => kJ_next d171_5 h) (fun h => kJ_next d171_5 h)
theorem d171_8 : decode (mB 171) 8 = .ok (.iload_n 2, 1) := by decide +kernel
theorem s171_8 {l0 l1 l3 : Option Value} {st : List Value} {x : Int32} {m : kMem} {Q : Option Value → kMem → Prop} : kJ 171 8 [l0, l1, some (.int x), l3] st m Q = kJ 171 9 [l0, l1, some (.int x), l3] (.int x :: st) m Q := kJ_next d171_8 rfl
theorem d171_9 : decode (mB 171) 9 = .ok (.invokestatic 233, 3) := by decide +kernel
theorem s171_9 {l0 l1 l2 l3 : Option Value} {v0 : Int32} {m : kMem} {Q : Option Value → kMem → Prop} : kJ 171 9 [l0, l1, l2, l3] [.int v0] m Q = kJ 161 0 [some (.int v0)] [] m (fun v m2 => kJ 171 12 [l0, l1, l2, l3] (v.toList ++ []) m2 Q) := kJ_call d171_9 (kg_calls 161 1 rfl rfl (Nat.le_of_ble_eq_true rfl) (Nat.le_of_ble_eq_true rfl) (Nat.le_of_ble_eq_true rfl) (Nat.le_of_ble_eq_true rfl))
theorem d171_12 : decode (mB 171) 12 = .ok (.ifCond .eq 10, 3) := by decide +kernel
theorem s171_12 {l0 l1 l2 l3 : Option Value} {st : List Value} {a : Int32} {m : kMem} {Q : Option Value → kMem → Prop} : kJ 171 12 [l0, l1, l2, l3] (.int a :: st) m Q = (if a = 0 then kJ 171 22 [l0, l1, l2, l3] st m Q else kJ 171 15 [l0, l1, l2, l3] st m Q) := kJ_if d171_12 rfl (fun h => kJ_next d171_12 h) (fun h => kJ_next d171_12 h)
theorem d171_15 : decode (mB 171) 15 = .ok (.iload_n 3, 1) := by decide +kernel
theorem s171_15 {l0 l1 l2 : Option Value} {st : List Value} {x : Int32} {m : kMem} {Q : Option Value → kMem → Prop} : kJ 171 15 [l0, l1, l2, some (.int x)] st m Q = kJ 171 16 [l0, l1, l2, some (.int x)] (.int x :: st) m Q := kJ_next d171_15 rfl
theorem d171_16 : decode (mB 171) 16 = .ok (.invokestatic 254, 3) := by decide +kernel
theorem s171_16 {l0 l1 l2 l3 : Option Value} {v0 : Int32} {m : kMem} {Q : Option Value → kMem → Prop} : kJ 171 16 [l0, l1, l2, l3] [.int v0] m Q = kJ 129 0 [some (.int v0)] [] m (fun v m2 => kJ 171 19 [l0, l1, l2, l3] (v.toList ++ []) m2 Q) := kJ_call d171_16 (kg_calls 129 1 rfl rfl (Nat.le_of_ble_eq_true rfl) (Nat.le_of_ble_eq_true rfl) (Nat.le_of_ble_eq_true rfl) (Nat.le_of_ble_eq_true rfl))
theorem d171_19 : decode (mB 171) 19 = .ok (.ifCond .ne 5, 3) := by decide +kernel
theorem s171_19 {l0 l1 l2 l3 : Option Value} {st : List Value} {a : Int32} {m : kMem} {Q : Option Value → kMem → Prop} : kJ 171 19 [l0, l1, l2, l3] (.int a :: st) m Q = (if a = 0 then kJ 171 22 [l0, l1, l2, l3] st m Q else kJ 171 24 [l0, l1, l2, l3] st m Q) := kJ_if d171_19 rfl (fun h => kJ_next d171_19 h) (fun h => kJ_next d171_19 h)
theorem d171_22 : decode (mB 171) 22 = .ok (.iconst (-1), 1) := by decide +kernel
theorem s171_22 {l0 l1 l2 l3 : Option Value} {st : List Value} {m : kMem} {Q : Option Value → kMem → Prop} : kJ 171 22 [l0, l1, l2, l3] st m Q = kJ 171 23 [l0, l1, l2, l3] (.int (-1) :: st) m Q := kJ_next d171_22 rfl
theorem d171_23 : decode (mB 171) 23 = .ok (.ireturn, 1) := by decide +kernel
theorem s171_23 {l0 l1 l2 l3 : Option Value} {x : Int32} {m : kMem} {Q : Option Value → kMem → Prop} : kJ 171 23 [l0, l1, l2, l3] [.int x] m Q = Q (some (.int x)) m := kJ_ret d171_23 rfl
theorem d171_24 : decode (mB 171) 24 = .ok (.aload_n 0, 1) := by decide +kernel
theorem s171_24 {l1 l2 l3 : Option Value} {st : List Value} {x : Nat} {m : kMem} {Q : Option Value → kMem → Prop} : kJ 171 24 [some (.ref x), l1, l2, l3] st m Q = kJ 171 25 [some (.ref x), l1, l2, l3] (.ref x :: st) m Q := kJ_next d171_24 rfl
theorem d171_25 : decode (mB 171) 25 = .ok (.iload_n 1, 1) := by decide +kernel
theorem s171_25 {l0 l2 l3 : Option Value} {st : List Value} {x : Int32} {m : kMem} {Q : Option Value → kMem → Prop} : kJ 171 25 [l0, some (.int x), l2, l3] st m Q = kJ 171 26 [l0, some (.int x), l2, l3] (.int x :: st) m Q := kJ_next d171_25 rfl
theorem d171_26 : decode (mB 171) 26 = .ok (.invokevirtual 221, 3) := by decide +kernel
theorem s171_26 {l0 l1 l2 l3 : Option Value} {v0 : Int32} {v1 : Nat} {m : kMem} {Q : Option Value → kMem → Prop} (h : kIs m.2.2.2 v1 5 = true) : kJ 171 26 [l0, l1, l2, l3] [.int v0, .ref v1] m Q = kJ 155 0 [some (.ref v1), some (.int v0)] [] m (fun v m2 => kJ 171 29 [l0, l1, l2, l3] (v.toList ++ []) m2 Q) := kJ_call d171_26 (kg_callv 155 1 rfl rfl rfl rfl (Nat.le_of_ble_eq_true rfl) (Nat.le_of_ble_eq_true rfl) (Nat.le_of_ble_eq_true rfl) h rfl)
theorem d171_29 : decode (mB 171) 29 = .ok (.ifCond .eq 8, 3) := by decide +kernel
theorem s171_29 {l0 l1 l2 l3 : Option Value} {st : List Value} {a : Int32} {m : kMem} {Q : Option Value → kMem → Prop} : kJ 171 29 [l0, l1, l2, l3] (.int a :: st) m Q = (if a = 0 then kJ 171 37 [l0, l1, l2, l3] st m Q else kJ 171 32 [l0, l1, l2, l3] st m Q) := kJ_if d171_29 rfl (fun h => kJ_next d171_29 h) (fun h => kJ_next d171_29 h)
theorem d171_32 : decode (mB 171) 32 = .ok (.bipush (-2), 2) := by decide +kernel
theorem s171_32 {l0 l1 l2 l3 : Option Value} {st : List Value} {m : kMem} {Q : Option Value → kMem → Prop} : kJ 171 32 [l0, l1, l2, l3] st m Q = kJ 171 34 [l0, l1, l2, l3] (.int (-2) :: st) m Q := kJ_next d171_32 rfl
theorem d171_34 : decode (mB 171) 34 = .ok (.goto 25, 3) := by decide +kernel
theorem s171_34 {l0 l1 l2 l3 : Option Value} {st : List Value} {m : kMem} {Q : Option Value → kMem → Prop} : kJ 171 34 [l0, l1, l2, l3] st m Q = kJ 171 59 [l0, l1, l2, l3] st m Q := kJ_next d171_34 rfl
theorem d171_37 : decode (mB 171) 37 = .ok (.aload_n 0, 1) := by decide +kernel
theorem s171_37 {l1 l2 l3 : Option Value} {st : List Value} {x : Nat} {m : kMem} {Q : Option Value → kMem → Prop} : kJ 171 37 [some (.ref x), l1, l2, l3] st m Q = kJ 171 38 [some (.ref x), l1, l2, l3] (.ref x :: st) m Q := kJ_next d171_37 rfl
theorem d171_38 : decode (mB 171) 38 = .ok (.bipush 16, 2) := by decide +kernel
theorem s171_38 {l0 l1 l2 l3 : Option Value} {st : List Value} {m : kMem} {Q : Option Value → kMem → Prop} : kJ 171 38 [l0, l1, l2, l3] st m Q = kJ 171 40 [l0, l1, l2, l3] (.int (nI 16) :: st) m Q := kJ_next d171_38 rfl
theorem d171_40 : decode (mB 171) 40 = .ok (.bipush 6, 2) := by decide +kernel
theorem s171_40 {l0 l1 l2 l3 : Option Value} {st : List Value} {m : kMem} {Q : Option Value → kMem → Prop} : kJ 171 40 [l0, l1, l2, l3] st m Q = kJ 171 42 [l0, l1, l2, l3] (.int (nI 6) :: st) m Q := kJ_next d171_40 rfl
theorem d171_42 : decode (mB 171) 42 = .ok (.iload_n 1, 1) := by decide +kernel
theorem s171_42 {l0 l2 l3 : Option Value} {st : List Value} {x : Int32} {m : kMem} {Q : Option Value → kMem → Prop} : kJ 171 42 [l0, some (.int x), l2, l3] st m Q = kJ 171 43 [l0, some (.int x), l2, l3] (.int x :: st) m Q := kJ_next d171_42 rfl
theorem d171_43 : decode (mB 171) 43 = .ok (.imul, 1) := by decide +kernel
theorem s171_43 {l0 l1 l2 l3 : Option Value} {st : List Value} {a b : Int32} {m : kMem} {Q : Option Value → kMem → Prop} : kJ 171 43 [l0, l1, l2, l3] (.int b :: .int a :: st) m Q = kJ 171 44 [l0, l1, l2, l3] (.int (a * b) :: st) m Q := kJ_next d171_43 rfl
theorem d171_44 : decode (mB 171) 44 = .ok (.iadd, 1) := by decide +kernel
theorem s171_44 {l0 l1 l2 l3 : Option Value} {st : List Value} {a b : Int32} {m : kMem} {Q : Option Value → kMem → Prop} : kJ 171 44 [l0, l1, l2, l3] (.int b :: .int a :: st) m Q = kJ 171 45 [l0, l1, l2, l3] (.int (a + b) :: st) m Q := kJ_next d171_44 rfl
theorem d171_45 : decode (mB 171) 45 = .ok (.iconst 2, 1) := by decide +kernel
theorem s171_45 {l0 l1 l2 l3 : Option Value} {st : List Value} {m : kMem} {Q : Option Value → kMem → Prop} : kJ 171 45 [l0, l1, l2, l3] st m Q = kJ 171 46 [l0, l1, l2, l3] (.int (nI 2) :: st) m Q := kJ_next d171_45 rfl
theorem d171_46 : decode (mB 171) 46 = .ok (.iadd, 1) := by decide +kernel
theorem s171_46 {l0 l1 l2 l3 : Option Value} {st : List Value} {a b : Int32} {m : kMem} {Q : Option Value → kMem → Prop} : kJ 171 46 [l0, l1, l2, l3] (.int b :: .int a :: st) m Q = kJ 171 47 [l0, l1, l2, l3] (.int (a + b) :: st) m Q := kJ_next d171_46 rfl
theorem d171_47 : decode (mB 171) 47 = .ok (.aload_n 0, 1) := by decide +kernel
theorem s171_47 {l1 l2 l3 : Option Value} {st : List Value} {x : Nat} {m : kMem} {Q : Option Value → kMem → Prop} : kJ 171 47 [some (.ref x), l1, l2, l3] st m Q = kJ 171 48 [some (.ref x), l1, l2, l3] (.ref x :: st) m Q := kJ_next d171_47 rfl
theorem d171_48 : decode (mB 171) 48 = .ok (.getfield 7, 3) := by decide +kernel
theorem s171_48 {l0 l1 l2 l3 : Option Value} {st : List Value} {q : Nat} {mi : Nat → Nat → Int32} {ml : Nat → Nat → Int64} {mr : Nat → Nat → Option Nat} {nx : Nat} {Q : Option Value → kMem → Prop} (h : kIs nx q 5 = true) : kJ 171 48 [l0, l1, l2, l3] (.ref q :: st) (mi, ml, mr, nx) Q = kJ 171 51 [l0, l1, l2, l3] (va_rf (mr q 0) :: st) (mi, ml, mr, nx) Q := kJ_next d171_48 (kg_getr 5 0 rfl h (by decide))
theorem d171_51 : decode (mB 171) 51 = .ok (.bipush 15, 2) := by decide +kernel
theorem s171_51 {l0 l1 l2 l3 : Option Value} {st : List Value} {m : kMem} {Q : Option Value → kMem → Prop} : kJ 171 51 [l0, l1, l2, l3] st m Q = kJ 171 53 [l0, l1, l2, l3] (.int (nI 15) :: st) m Q := kJ_next d171_51 rfl
theorem d171_53 : decode (mB 171) 53 = .ok (.iaload, 1) := by decide +kernel
theorem s171_53 {l0 l1 l2 l3 : Option Value} {st : List Value} {q : Nat} {i : Int32} {mi : Nat → Nat → Int32} {ml : Nat → Nat → Int64} {mr : Nat → Nat → Option Nat} {nx : Nat} {Q : Option Value → kMem → Prop} (h : kIs nx q 10 = true) : kJ 171 53 [l0, l1, l2, l3] (.int i :: .ref q :: st) (mi, ml, mr, nx) Q = (vp_in i (kAl q) ∧ kJ 171 54 [l0, l1, l2, l3] (.int (mi q i.toNatClampNeg) :: st) (mi, ml, mr, nx) Q) := kg_aldJ d171_53 rfl (kAr_of h)
theorem d171_54 : decode (mB 171) 54 = .ok (.iload_n 2, 1) := by decide +kernel
theorem s171_54 {l0 l1 l3 : Option Value} {st : List Value} {x : Int32} {m : kMem} {Q : Option Value → kMem → Prop} : kJ 171 54 [l0, l1, some (.int x), l3] st m Q = kJ 171 55 [l0, l1, some (.int x), l3] (.int x :: st) m Q := kJ_next d171_54 rfl
theorem d171_55 : decode (mB 171) 55 = .ok (.iload_n 3, 1) := by decide +kernel
theorem s171_55 {l0 l1 l2 : Option Value} {st : List Value} {x : Int32} {m : kMem} {Q : Option Value → kMem → Prop} : kJ 171 55 [l0, l1, l2, some (.int x)] st m Q = kJ 171 56 [l0, l1, l2, some (.int x)] (.int x :: st) m Q := kJ_next d171_55 rfl
theorem d171_56 : decode (mB 171) 56 = .ok (.invokevirtual 257, 3) := by decide +kernel
theorem s171_56 {l0 l1 l2 l3 : Option Value} {v0 : Int32} {v1 : Int32} {v2 : Int32} {v3 : Int32} {v4 : Nat} {m : kMem} {Q : Option Value → kMem → Prop} (h : kIs m.2.2.2 v4 5 = true) : kJ 171 56 [l0, l1, l2, l3] [.int v0, .int v1, .int v2, .int v3, .ref v4] m Q = kJ 168 0 [some (.ref v4), some (.int v3), some (.int v2), some (.int v1), some (.int v0), none] [] m (fun v m2 => kJ 171 59 [l0, l1, l2, l3] (v.toList ++ []) m2 Q) := kJ_call d171_56 (kg_callv 168 4 rfl rfl rfl rfl (Nat.le_of_ble_eq_true rfl) (Nat.le_of_ble_eq_true rfl) (Nat.le_of_ble_eq_true rfl) h rfl)
theorem d171_59 : decode (mB 171) 59 = .ok (.ireturn, 1) := by decide +kernel
theorem s171_59 {l0 l1 l2 l3 : Option Value} {x : Int32} {m : kMem} {Q : Option Value → kMem → Prop} : kJ 171 59 [l0, l1, l2, l3] [.int x] m Q = Q (some (.int x)) m := kJ_ret d171_59 rfl
theorem d172_0 : decode (mB 172) 0 = .ok (.iload_n 1, 1) := by decide +kernel
theorem s172_0 {l0 l2 l3 l4 : Option Value} {st : List Value} {x : Int32} {m : kMem} {Q : Option Value → kMem → Prop} : kJ 172 0 [l0, some (.int x), l2, l3, l4] st m Q = kJ 172 1 [l0, some (.int x), l2, l3, l4] (.int x :: st) m Q := kJ_next d172_0 rfl
theorem d172_1 : decode (mB 172) 1 = .ok (.invokestatic 233, 3) := by decide +kernel
theorem s172_1 {l0 l1 l2 l3 l4 : Option Value} {v0 : Int32} {m : kMem} {Q : Option Value → kMem → Prop} : kJ 172 1 [l0, l1, l2, l3, l4] [.int v0] m Q = kJ 161 0 [some (.int v0)] [] m (fun v m2 => kJ 172 4 [l0, l1, l2, l3, l4] (v.toList ++ []) m2 Q) := kJ_call d172_1 (kg_calls 161 1 rfl rfl (Nat.le_of_ble_eq_true rfl) (Nat.le_of_ble_eq_true rfl) (Nat.le_of_ble_eq_true rfl) (Nat.le_of_ble_eq_true rfl))
theorem d172_4 : decode (mB 172) 4 = .ok (.ifCond .eq 10, 3) := by decide +kernel
theorem s172_4 {l0 l1 l2 l3 l4 : Option Value} {st : List Value} {a : Int32} {m : kMem} {Q : Option Value → kMem → Prop} : kJ 172 4 [l0, l1, l2, l3, l4] (.int a :: st) m Q = (if a = 0 then kJ 172 14 [l0, l1, l2, l3, l4] st m Q else kJ 172 7 [l0, l1, l2, l3, l4] st m Q) := kJ_if d172_4 rfl (fun h => kJ_next d172_4 h) (fun h => kJ_next d172_4 h)
theorem d172_7 : decode (mB 172) 7 = .ok (.iload_n 2, 1) := by decide +kernel
theorem s172_7 {l0 l1 l3 l4 : Option Value} {st : List Value} {x : Int32} {m : kMem} {Q : Option Value → kMem → Prop} : kJ 172 7 [l0, l1, some (.int x), l3, l4] st m Q = kJ 172 8 [l0, l1, some (.int x), l3, l4] (.int x :: st) m Q := kJ_next d172_7 rfl
theorem d172_8 : decode (mB 172) 8 = .ok (.invokestatic 254, 3) := by decide +kernel
theorem s172_8 {l0 l1 l2 l3 l4 : Option Value} {v0 : Int32} {m : kMem} {Q : Option Value → kMem → Prop} : kJ 172 8 [l0, l1, l2, l3, l4] [.int v0] m Q = kJ 129 0 [some (.int v0)] [] m (fun v m2 => kJ 172 11 [l0, l1, l2, l3, l4] (v.toList ++ []) m2 Q) := kJ_call d172_8 (kg_calls 129 1 rfl rfl (Nat.le_of_ble_eq_true rfl) (Nat.le_of_ble_eq_true rfl) (Nat.le_of_ble_eq_true rfl) (Nat.le_of_ble_eq_true rfl))
theorem d172_11 : decode (mB 172) 11 = .ok (.ifCond .ne 5, 3) := by decide +kernel
theorem s172_11 {l0 l1 l2 l3 l4 : Option Value} {st : List Value} {a : Int32} {m : kMem} {Q : Option Value → kMem → Prop} : kJ 172 11 [l0, l1, l2, l3, l4] (.int a :: st) m Q = (if a = 0 then kJ 172 14 [l0, l1, l2, l3, l4] st m Q else kJ 172 16 [l0, l1, l2, l3, l4] st m Q) := kJ_if d172_11 rfl (fun h => kJ_next d172_11 h) (fun h => kJ_next d172_11 h)
theorem d172_14 : decode (mB 172) 14 = .ok (.iconst (-1), 1) := by decide +kernel
theorem s172_14 {l0 l1 l2 l3 l4 : Option Value} {st : List Value} {m : kMem} {Q : Option Value → kMem → Prop} : kJ 172 14 [l0, l1, l2, l3, l4] st m Q = kJ 172 15 [l0, l1, l2, l3, l4] (.int (-1) :: st) m Q := kJ_next d172_14 rfl
theorem d172_15 : decode (mB 172) 15 = .ok (.ireturn, 1) := by decide +kernel
theorem s172_15 {l0 l1 l2 l3 l4 : Option Value} {x : Int32} {m : kMem} {Q : Option Value → kMem → Prop} : kJ 172 15 [l0, l1, l2, l3, l4] [.int x] m Q = Q (some (.int x)) m := kJ_ret d172_15 rfl
theorem d172_16 : decode (mB 172) 16 = .ok (.aload_n 0, 1) := by decide +kernel
theorem s172_16 {l1 l2 l3 l4 : Option Value} {st : List Value} {x : Nat} {m : kMem} {Q : Option Value → kMem → Prop} : kJ 172 16 [some (.ref x), l1, l2, l3, l4] st m Q = kJ 172 17 [some (.ref x), l1, l2, l3, l4] (.ref x :: st) m Q := kJ_next d172_16 rfl
theorem d172_17 : decode (mB 172) 17 = .ok (.invokevirtual 195, 3) := by decide +kernel
theorem s172_17 {l0 l1 l2 l3 l4 : Option Value} {v0 : Nat} {m : kMem} {Q : Option Value → kMem → Prop} (h : kIs m.2.2.2 v0 5 = true) : kJ 172 17 [l0, l1, l2, l3, l4] [.ref v0] m Q = kJ 130 0 [some (.ref v0), none] [] m (fun v m2 => kJ 172 20 [l0, l1, l2, l3, l4] (v.toList ++ []) m2 Q) := kJ_call d172_17 (kg_callv 130 0 rfl rfl rfl rfl (Nat.le_of_ble_eq_true rfl) (Nat.le_of_ble_eq_true rfl) (Nat.le_of_ble_eq_true rfl) h rfl)
theorem d172_20 : decode (mB 172) 20 = .ok (.aload_n 0, 1) := by decide +kernel
theorem s172_20 {l1 l2 l3 l4 : Option Value} {st : List Value} {x : Nat} {m : kMem} {Q : Option Value → kMem → Prop} : kJ 172 20 [some (.ref x), l1, l2, l3, l4] st m Q = kJ 172 21 [some (.ref x), l1, l2, l3, l4] (.ref x :: st) m Q := kJ_next d172_20 rfl
theorem d172_21 : decode (mB 172) 21 = .ok (.aload_n 0, 1) := by decide +kernel
theorem s172_21 {l1 l2 l3 l4 : Option Value} {st : List Value} {x : Nat} {m : kMem} {Q : Option Value → kMem → Prop} : kJ 172 21 [some (.ref x), l1, l2, l3, l4] st m Q = kJ 172 22 [some (.ref x), l1, l2, l3, l4] (.ref x :: st) m Q := kJ_next d172_21 rfl
theorem d172_22 : decode (mB 172) 22 = .ok (.iload_n 1, 1) := by decide +kernel
theorem s172_22 {l0 l2 l3 l4 : Option Value} {st : List Value} {x : Int32} {m : kMem} {Q : Option Value → kMem → Prop} : kJ 172 22 [l0, some (.int x), l2, l3, l4] st m Q = kJ 172 23 [l0, some (.int x), l2, l3, l4] (.int x :: st) m Q := kJ_next d172_22 rfl
theorem d172_23 : decode (mB 172) 23 = .ok (.invokevirtual 245, 3) := by decide +kernel
theorem s172_23 {l0 l1 l2 l3 l4 : Option Value} {v0 : Int32} {v1 : Nat} {v2 : Nat} {m : kMem} {Q : Option Value → kMem → Prop} (h : kIs m.2.2.2 v1 5 = true) : kJ 172 23 [l0, l1, l2, l3, l4] [.int v0, .ref v1, .ref v2] m Q = kJ 147 0 [some (.ref v1), some (.int v0)] [] m (fun v m2 => kJ 172 26 [l0, l1, l2, l3, l4] (v.toList ++ [.ref v2]) m2 Q) := kJ_call d172_23 (kg_callv 147 1 rfl rfl rfl rfl (Nat.le_of_ble_eq_true rfl) (Nat.le_of_ble_eq_true rfl) (Nat.le_of_ble_eq_true rfl) h rfl)
theorem d172_26 : decode (mB 172) 26 = .ok (.invokevirtual 242, 3) := by decide +kernel
theorem s172_26 {l0 l1 l2 l3 l4 : Option Value} {v0 : Int32} {v1 : Nat} {m : kMem} {Q : Option Value → kMem → Prop} (h : kIs m.2.2.2 v1 5 = true) : kJ 172 26 [l0, l1, l2, l3, l4] [.int v0, .ref v1] m Q = kJ 165 0 [some (.ref v1), some (.int v0)] [] m (fun v m2 => kJ 172 29 [l0, l1, l2, l3, l4] (v.toList ++ []) m2 Q) := kJ_call d172_26 (kg_callv 165 1 rfl rfl rfl rfl (Nat.le_of_ble_eq_true rfl) (Nat.le_of_ble_eq_true rfl) (Nat.le_of_ble_eq_true rfl) h rfl)
theorem d172_29 : decode (mB 172) 29 = .ok (.iconst 0, 1) := by decide +kernel
theorem s172_29 {l0 l1 l2 l3 l4 : Option Value} {st : List Value} {m : kMem} {Q : Option Value → kMem → Prop} : kJ 172 29 [l0, l1, l2, l3, l4] st m Q = kJ 172 30 [l0, l1, l2, l3, l4] (.int (nI 0) :: st) m Q := kJ_next d172_29 rfl
theorem d172_30 : decode (mB 172) 30 = .ok (.istore_n 3, 1) := by decide +kernel
theorem s172_30 {l0 l1 l2 l3 l4 : Option Value} {st : List Value} {x : Int32} {m : kMem} {Q : Option Value → kMem → Prop} (hp : kNL l2 = true) : kJ 172 30 [l0, l1, l2, l3, l4] (.int x :: st) m Q = kJ 172 31 [l0, l1, l2, some (.int x), l4] st m Q := kJ_next d172_30 (kg_sti (Nat.le_of_ble_eq_true rfl) hp)
theorem d172_31 : decode (mB 172) 31 = .ok (.iload_n 3, 1) := by decide +kernel
theorem s172_31 {l0 l1 l2 l4 : Option Value} {st : List Value} {x : Int32} {m : kMem} {Q : Option Value → kMem → Prop} : kJ 172 31 [l0, l1, l2, some (.int x), l4] st m Q = kJ 172 32 [l0, l1, l2, some (.int x), l4] (.int x :: st) m Q := kJ_next d172_31 rfl
theorem d172_32 : decode (mB 172) 32 = .ok (.aload_n 0, 1) := by decide +kernel
theorem s172_32 {l1 l2 l3 l4 : Option Value} {st : List Value} {x : Nat} {m : kMem} {Q : Option Value → kMem → Prop} : kJ 172 32 [some (.ref x), l1, l2, l3, l4] st m Q = kJ 172 33 [some (.ref x), l1, l2, l3, l4] (.ref x :: st) m Q := kJ_next d172_32 rfl
theorem d172_33 : decode (mB 172) 33 = .ok (.getfield 7, 3) := by decide +kernel
theorem s172_33 {l0 l1 l2 l3 l4 : Option Value} {st : List Value} {q : Nat} {mi : Nat → Nat → Int32} {ml : Nat → Nat → Int64} {mr : Nat → Nat → Option Nat} {nx : Nat} {Q : Option Value → kMem → Prop} (h : kIs nx q 5 = true) : kJ 172 33 [l0, l1, l2, l3, l4] (.ref q :: st) (mi, ml, mr, nx) Q = kJ 172 36 [l0, l1, l2, l3, l4] (va_rf (mr q 0) :: st) (mi, ml, mr, nx) Q := kJ_next d172_33 (kg_getr 5 0 rfl h (by decide))
theorem d172_36 : decode (mB 172) 36 = .ok (.bipush 15, 2) := by decide +kernel
theorem s172_36 {l0 l1 l2 l3 l4 : Option Value} {st : List Value} {m : kMem} {Q : Option Value → kMem → Prop} : kJ 172 36 [l0, l1, l2, l3, l4] st m Q = kJ 172 38 [l0, l1, l2, l3, l4] (.int (nI 15) :: st) m Q := kJ_next d172_36 rfl
theorem d172_38 : decode (mB 172) 38 = .ok (.iaload, 1) := by decide +kernel
theorem s172_38 {l0 l1 l2 l3 l4 : Option Value} {st : List Value} {q : Nat} {i : Int32} {mi : Nat → Nat → Int32} {ml : Nat → Nat → Int64} {mr : Nat → Nat → Option Nat} {nx : Nat} {Q : Option Value → kMem → Prop} (h : kIs nx q 10 = true) : kJ 172 38 [l0, l1, l2, l3, l4] (.int i :: .ref q :: st) (mi, ml, mr, nx) Q = (vp_in i (kAl q) ∧ kJ 172 39 [l0, l1, l2, l3, l4] (.int (mi q i.toNatClampNeg) :: st) (mi, ml, mr, nx) Q) := kg_aldJ d172_38 rfl (kAr_of h)
theorem d172_39 : decode (mB 172) 39 = .ok (.if_icmp .ge 86, 3) := by decide +kernel
theorem s172_39 {l0 l1 l2 l3 l4 : Option Value} {st : List Value} {a b : Int32} {m : kMem} {Q : Option Value → kMem → Prop} : kJ 172 39 [l0, l1, l2, l3, l4] (.int b :: .int a :: st) m Q = (if b ≤ a then kJ 172 125 [l0, l1, l2, l3, l4] st m Q else kJ 172 42 [l0, l1, l2, l3, l4] st m Q) := kJ_if d172_39 rfl (fun h => kJ_next d172_39 h) (fun h => kJ_next d172_39 h)
theorem d172_42 : decode (mB 172) 42 = .ok (.iload_n 3, 1) := by decide +kernel
theorem s172_42 {l0 l1 l2 l4 : Option Value} {st : List Value} {x : Int32} {m : kMem} {Q : Option Value → kMem → Prop} : kJ 172 42 [l0, l1, l2, some (.int x), l4] st m Q = kJ 172 43 [l0, l1, l2, some (.int x), l4] (.int x :: st) m Q := kJ_next d172_42 rfl
theorem d172_43 : decode (mB 172) 43 = .ok (.iconst 1, 1) := by decide +kernel
theorem s172_43 {l0 l1 l2 l3 l4 : Option Value} {st : List Value} {m : kMem} {Q : Option Value → kMem → Prop} : kJ 172 43 [l0, l1, l2, l3, l4] st m Q = kJ 172 44 [l0, l1, l2, l3, l4] (.int (nI 1) :: st) m Q := kJ_next d172_43 rfl
theorem d172_44 : decode (mB 172) 44 = .ok (.iadd, 1) := by decide +kernel
theorem s172_44 {l0 l1 l2 l3 l4 : Option Value} {st : List Value} {a b : Int32} {m : kMem} {Q : Option Value → kMem → Prop} : kJ 172 44 [l0, l1, l2, l3, l4] (.int b :: .int a :: st) m Q = kJ 172 45 [l0, l1, l2, l3, l4] (.int (a + b) :: st) m Q := kJ_next d172_44 rfl
theorem d172_45 : decode (mB 172) 45 = .ok (.istore 4, 2) := by decide +kernel
theorem s172_45 {l0 l1 l2 l3 l4 : Option Value} {st : List Value} {x : Int32} {m : kMem} {Q : Option Value → kMem → Prop} (hp : kNL l3 = true) : kJ 172 45 [l0, l1, l2, l3, l4] (.int x :: st) m Q = kJ 172 47 [l0, l1, l2, l3, some (.int x)] st m Q := kJ_next d172_45 (kg_sti (Nat.le_of_ble_eq_true rfl) hp)
theorem d172_47 : decode (mB 172) 47 = .ok (.iload 4, 2) := by decide +kernel
theorem s172_47 {l0 l1 l2 l3 : Option Value} {st : List Value} {x : Int32} {m : kMem} {Q : Option Value → kMem → Prop} : kJ 172 47 [l0, l1, l2, l3, some (.int x)] st m Q = kJ 172 49 [l0, l1, l2, l3, some (.int x)] (.int x :: st) m Q := kJ_next d172_47 rfl
theorem d172_49 : decode (mB 172) 49 = .ok (.aload_n 0, 1) := by decide +kernel
theorem s172_49 {l1 l2 l3 l4 : Option Value} {st : List Value} {x : Nat} {m : kMem} {Q : Option Value → kMem → Prop} : kJ 172 49 [some (.ref x), l1, l2, l3, l4] st m Q = kJ 172 50 [some (.ref x), l1, l2, l3, l4] (.ref x :: st) m Q := kJ_next d172_49 rfl
theorem d172_50 : decode (mB 172) 50 = .ok (.getfield 7, 3) := by decide +kernel
theorem s172_50 {l0 l1 l2 l3 l4 : Option Value} {st : List Value} {q : Nat} {mi : Nat → Nat → Int32} {ml : Nat → Nat → Int64} {mr : Nat → Nat → Option Nat} {nx : Nat} {Q : Option Value → kMem → Prop} (h : kIs nx q 5 = true) : kJ 172 50 [l0, l1, l2, l3, l4] (.ref q :: st) (mi, ml, mr, nx) Q = kJ 172 53 [l0, l1, l2, l3, l4] (va_rf (mr q 0) :: st) (mi, ml, mr, nx) Q := kJ_next d172_50 (kg_getr 5 0 rfl h (by decide))
theorem d172_53 : decode (mB 172) 53 = .ok (.bipush 15, 2) := by decide +kernel
theorem s172_53 {l0 l1 l2 l3 l4 : Option Value} {st : List Value} {m : kMem} {Q : Option Value → kMem → Prop} : kJ 172 53 [l0, l1, l2, l3, l4] st m Q = kJ 172 55 [l0, l1, l2, l3, l4] (.int (nI 15) :: st) m Q := kJ_next d172_53 rfl
theorem d172_55 : decode (mB 172) 55 = .ok (.iaload, 1) := by decide +kernel
theorem s172_55 {l0 l1 l2 l3 l4 : Option Value} {st : List Value} {q : Nat} {i : Int32} {mi : Nat → Nat → Int32} {ml : Nat → Nat → Int64} {mr : Nat → Nat → Option Nat} {nx : Nat} {Q : Option Value → kMem → Prop} (h : kIs nx q 10 = true) : kJ 172 55 [l0, l1, l2, l3, l4] (.int i :: .ref q :: st) (mi, ml, mr, nx) Q = (vp_in i (kAl q) ∧ kJ 172 56 [l0, l1, l2, l3, l4] (.int (mi q i.toNatClampNeg) :: st) (mi, ml, mr, nx) Q) := kg_aldJ d172_55 rfl (kAr_of h)
theorem d172_56 : decode (mB 172) 56 = .ok (.if_icmp .ge 63, 3) := by decide +kernel
theorem s172_56 {l0 l1 l2 l3 l4 : Option Value} {st : List Value} {a b : Int32} {m : kMem} {Q : Option Value → kMem → Prop} : kJ 172 56 [l0, l1, l2, l3, l4] (.int b :: .int a :: st) m Q = (if b ≤ a then kJ 172 119 [l0, l1, l2, l3, l4] st m Q else kJ 172 59 [l0, l1, l2, l3, l4] st m Q) := kJ_if d172_56 rfl (fun h => kJ_next d172_56 h) (fun h => kJ_next d172_56 h)
theorem d172_59 : decode (mB 172) 59 = .ok (.aload_n 0, 1) := by decide +kernel
theorem s172_59 {l1 l2 l3 l4 : Option Value} {st : List Value} {x : Nat} {m : kMem} {Q : Option Value → kMem → Prop} : kJ 172 59 [some (.ref x), l1, l2, l3, l4] st m Q = kJ 172 60 [some (.ref x), l1, l2, l3, l4] (.ref x :: st) m Q := kJ_next d172_59 rfl
theorem d172_60 : decode (mB 172) 60 = .ok (.invokevirtual 195, 3) := by decide +kernel
theorem s172_60 {l0 l1 l2 l3 l4 : Option Value} {v0 : Nat} {m : kMem} {Q : Option Value → kMem → Prop} (h : kIs m.2.2.2 v0 5 = true) : kJ 172 60 [l0, l1, l2, l3, l4] [.ref v0] m Q = kJ 130 0 [some (.ref v0), none] [] m (fun v m2 => kJ 172 63 [l0, l1, l2, l3, l4] (v.toList ++ []) m2 Q) := kJ_call d172_60 (kg_callv 130 0 rfl rfl rfl rfl (Nat.le_of_ble_eq_true rfl) (Nat.le_of_ble_eq_true rfl) (Nat.le_of_ble_eq_true rfl) h rfl)
theorem d172_63 : decode (mB 172) 63 = .ok (.aload_n 0, 1) := by decide +kernel
theorem s172_63 {l1 l2 l3 l4 : Option Value} {st : List Value} {x : Nat} {m : kMem} {Q : Option Value → kMem → Prop} : kJ 172 63 [some (.ref x), l1, l2, l3, l4] st m Q = kJ 172 64 [some (.ref x), l1, l2, l3, l4] (.ref x :: st) m Q := kJ_next d172_63 rfl
theorem d172_64 : decode (mB 172) 64 = .ok (.iload_n 3, 1) := by decide +kernel
theorem s172_64 {l0 l1 l2 l4 : Option Value} {st : List Value} {x : Int32} {m : kMem} {Q : Option Value → kMem → Prop} : kJ 172 64 [l0, l1, l2, some (.int x), l4] st m Q = kJ 172 65 [l0, l1, l2, some (.int x), l4] (.int x :: st) m Q := kJ_next d172_64 rfl
theorem d172_65 : decode (mB 172) 65 = .ok (.iconst 1, 1) := by decide +kernel
theorem s172_65 {l0 l1 l2 l3 l4 : Option Value} {st : List Value} {m : kMem} {Q : Option Value → kMem → Prop} : kJ 172 65 [l0, l1, l2, l3, l4] st m Q = kJ 172 66 [l0, l1, l2, l3, l4] (.int (nI 1) :: st) m Q := kJ_next d172_65 rfl
theorem d172_66 : decode (mB 172) 66 = .ok (.aload_n 0, 1) := by decide +kernel
theorem s172_66 {l1 l2 l3 l4 : Option Value} {st : List Value} {x : Nat} {m : kMem} {Q : Option Value → kMem → Prop} : kJ 172 66 [some (.ref x), l1, l2, l3, l4] st m Q = kJ 172 67 [some (.ref x), l1, l2, l3, l4] (.ref x :: st) m Q := kJ_next d172_66 rfl
theorem d172_67 : decode (mB 172) 67 = .ok (.getfield 7, 3) := by decide +kernel
theorem s172_67 {l0 l1 l2 l3 l4 : Option Value} {st : List Value} {q : Nat} {mi : Nat → Nat → Int32} {ml : Nat → Nat → Int64} {mr : Nat → Nat → Option Nat} {nx : Nat} {Q : Option Value → kMem → Prop} (h : kIs nx q 5 = true) : kJ 172 67 [l0, l1, l2, l3, l4] (.ref q :: st) (mi, ml, mr, nx) Q = kJ 172 70 [l0, l1, l2, l3, l4] (va_rf (mr q 0) :: st) (mi, ml, mr, nx) Q := kJ_next d172_67 (kg_getr 5 0 rfl h (by decide))
theorem d172_70 : decode (mB 172) 70 = .ok (.iconst 3, 1) := by decide +kernel
theorem s172_70 {l0 l1 l2 l3 l4 : Option Value} {st : List Value} {m : kMem} {Q : Option Value → kMem → Prop} : kJ 172 70 [l0, l1, l2, l3, l4] st m Q = kJ 172 71 [l0, l1, l2, l3, l4] (.int (nI 3) :: st) m Q := kJ_next d172_70 rfl
theorem d172_71 : decode (mB 172) 71 = .ok (.iload 4, 2) := by decide +kernel
theorem s172_71 {l0 l1 l2 l3 : Option Value} {st : List Value} {x : Int32} {m : kMem} {Q : Option Value → kMem → Prop} : kJ 172 71 [l0, l1, l2, l3, some (.int x)] st m Q = kJ 172 73 [l0, l1, l2, l3, some (.int x)] (.int x :: st) m Q := kJ_next d172_71 rfl
theorem d172_73 : decode (mB 172) 73 = .ok (.imul, 1) := by decide +kernel
theorem s172_73 {l0 l1 l2 l3 l4 : Option Value} {st : List Value} {a b : Int32} {m : kMem} {Q : Option Value → kMem → Prop} : kJ 172 73 [l0, l1, l2, l3, l4] (.int b :: .int a :: st) m Q = kJ 172 74 [l0, l1, l2, l3, l4] (.int (a * b) :: st) m Q := kJ_next d172_73 rfl
theorem d172_74 : decode (mB 172) 74 = .ok (.iconst 1, 1) := by decide +kernel
theorem s172_74 {l0 l1 l2 l3 l4 : Option Value} {st : List Value} {m : kMem} {Q : Option Value → kMem → Prop} : kJ 172 74 [l0, l1, l2, l3, l4] st m Q = kJ 172 75 [l0, l1, l2, l3, l4] (.int (nI 1) :: st) m Q := kJ_next d172_74 rfl
theorem d172_75 : decode (mB 172) 75 = .ok (.iadd, 1) := by decide +kernel
theorem s172_75 {l0 l1 l2 l3 l4 : Option Value} {st : List Value} {a b : Int32} {m : kMem} {Q : Option Value → kMem → Prop} : kJ 172 75 [l0, l1, l2, l3, l4] (.int b :: .int a :: st) m Q = kJ 172 76 [l0, l1, l2, l3, l4] (.int (a + b) :: st) m Q := kJ_next d172_75 rfl
theorem d172_76 : decode (mB 172) 76 = .ok (.iaload, 1) := by decide +kernel
theorem s172_76 {l0 l1 l2 l3 l4 : Option Value} {st : List Value} {q : Nat} {i : Int32} {mi : Nat → Nat → Int32} {ml : Nat → Nat → Int64} {mr : Nat → Nat → Option Nat} {nx : Nat} {Q : Option Value → kMem → Prop} (h : kIs nx q 10 = true) : kJ 172 76 [l0, l1, l2, l3, l4] (.int i :: .ref q :: st) (mi, ml, mr, nx) Q = (vp_in i (kAl q) ∧ kJ 172 77 [l0, l1, l2, l3, l4] (.int (mi q i.toNatClampNeg) :: st) (mi, ml, mr, nx) Q) := kg_aldJ d172_76 rfl (kAr_of h)
theorem d172_77 : decode (mB 172) 77 = .ok (.invokevirtual 147, 3) := by decide +kernel
theorem s172_77 {l0 l1 l2 l3 l4 : Option Value} {v0 : Int32} {v1 : Int32} {v2 : Int32} {v3 : Nat} {m : kMem} {Q : Option Value → kMem → Prop} (h : kIs m.2.2.2 v3 5 = true) : kJ 172 77 [l0, l1, l2, l3, l4] [.int v0, .int v1, .int v2, .ref v3] m Q = kJ 133 0 [some (.ref v3), some (.int v2), some (.int v1), some (.int v0)] [] m (fun v m2 => kJ 172 80 [l0, l1, l2, l3, l4] (v.toList ++ []) m2 Q) := kJ_call d172_77 (kg_callv 133 3 rfl rfl rfl rfl (Nat.le_of_ble_eq_true rfl) (Nat.le_of_ble_eq_true rfl) (Nat.le_of_ble_eq_true rfl) h rfl)
theorem d172_80 : decode (mB 172) 80 = .ok (.aload_n 0, 1) := by decide +kernel
theorem s172_80 {l1 l2 l3 l4 : Option Value} {st : List Value} {x : Nat} {m : kMem} {Q : Option Value → kMem → Prop} : kJ 172 80 [some (.ref x), l1, l2, l3, l4] st m Q = kJ 172 81 [some (.ref x), l1, l2, l3, l4] (.ref x :: st) m Q := kJ_next d172_80 rfl
theorem d172_81 : decode (mB 172) 81 = .ok (.iload 4, 2) := by decide +kernel
theorem s172_81 {l0 l1 l2 l3 : Option Value} {st : List Value} {x : Int32} {m : kMem} {Q : Option Value → kMem → Prop} : kJ 172 81 [l0, l1, l2, l3, some (.int x)] st m Q = kJ 172 83 [l0, l1, l2, l3, some (.int x)] (.int x :: st) m Q := kJ_next d172_81 rfl
theorem d172_83 : decode (mB 172) 83 = .ok (.iconst 1, 1) := by decide +kernel
theorem s172_83 {l0 l1 l2 l3 l4 : Option Value} {st : List Value} {m : kMem} {Q : Option Value → kMem → Prop} : kJ 172 83 [l0, l1, l2, l3, l4] st m Q = kJ 172 84 [l0, l1, l2, l3, l4] (.int (nI 1) :: st) m Q := kJ_next d172_83 rfl
theorem d172_84 : decode (mB 172) 84 = .ok (.aload_n 0, 1) := by decide +kernel
theorem s172_84 {l1 l2 l3 l4 : Option Value} {st : List Value} {x : Nat} {m : kMem} {Q : Option Value → kMem → Prop} : kJ 172 84 [some (.ref x), l1, l2, l3, l4] st m Q = kJ 172 85 [some (.ref x), l1, l2, l3, l4] (.ref x :: st) m Q := kJ_next d172_84 rfl
theorem d172_85 : decode (mB 172) 85 = .ok (.getfield 7, 3) := by decide +kernel
theorem s172_85 {l0 l1 l2 l3 l4 : Option Value} {st : List Value} {q : Nat} {mi : Nat → Nat → Int32} {ml : Nat → Nat → Int64} {mr : Nat → Nat → Option Nat} {nx : Nat} {Q : Option Value → kMem → Prop} (h : kIs nx q 5 = true) : kJ 172 85 [l0, l1, l2, l3, l4] (.ref q :: st) (mi, ml, mr, nx) Q = kJ 172 88 [l0, l1, l2, l3, l4] (va_rf (mr q 0) :: st) (mi, ml, mr, nx) Q := kJ_next d172_85 (kg_getr 5 0 rfl h (by decide))
theorem d172_88 : decode (mB 172) 88 = .ok (.iconst 3, 1) := by decide +kernel
theorem s172_88 {l0 l1 l2 l3 l4 : Option Value} {st : List Value} {m : kMem} {Q : Option Value → kMem → Prop} : kJ 172 88 [l0, l1, l2, l3, l4] st m Q = kJ 172 89 [l0, l1, l2, l3, l4] (.int (nI 3) :: st) m Q := kJ_next d172_88 rfl
theorem d172_89 : decode (mB 172) 89 = .ok (.iload_n 3, 1) := by decide +kernel
theorem s172_89 {l0 l1 l2 l4 : Option Value} {st : List Value} {x : Int32} {m : kMem} {Q : Option Value → kMem → Prop} : kJ 172 89 [l0, l1, l2, some (.int x), l4] st m Q = kJ 172 90 [l0, l1, l2, some (.int x), l4] (.int x :: st) m Q := kJ_next d172_89 rfl
theorem d172_90 : decode (mB 172) 90 = .ok (.imul, 1) := by decide +kernel
theorem s172_90 {l0 l1 l2 l3 l4 : Option Value} {st : List Value} {a b : Int32} {m : kMem} {Q : Option Value → kMem → Prop} : kJ 172 90 [l0, l1, l2, l3, l4] (.int b :: .int a :: st) m Q = kJ 172 91 [l0, l1, l2, l3, l4] (.int (a * b) :: st) m Q := kJ_next d172_90 rfl
theorem d172_91 : decode (mB 172) 91 = .ok (.iconst 1, 1) := by decide +kernel
theorem s172_91 {l0 l1 l2 l3 l4 : Option Value} {st : List Value} {m : kMem} {Q : Option Value → kMem → Prop} : kJ 172 91 [l0, l1, l2, l3, l4] st m Q = kJ 172 92 [l0, l1, l2, l3, l4] (.int (nI 1) :: st) m Q := kJ_next d172_91 rfl
theorem d172_92 : decode (mB 172) 92 = .ok (.iadd, 1) := by decide +kernel
theorem s172_92 {l0 l1 l2 l3 l4 : Option Value} {st : List Value} {a b : Int32} {m : kMem} {Q : Option Value → kMem → Prop} : kJ 172 92 [l0, l1, l2, l3, l4] (.int b :: .int a :: st) m Q = kJ 172 93 [l0, l1, l2, l3, l4] (.int (a + b) :: st) m Q := kJ_next d172_92 rfl
theorem d172_93 : decode (mB 172) 93 = .ok (.iaload, 1) := by decide +kernel
theorem s172_93 {l0 l1 l2 l3 l4 : Option Value} {st : List Value} {q : Nat} {i : Int32} {mi : Nat → Nat → Int32} {ml : Nat → Nat → Int64} {mr : Nat → Nat → Option Nat} {nx : Nat} {Q : Option Value → kMem → Prop} (h : kIs nx q 10 = true) : kJ 172 93 [l0, l1, l2, l3, l4] (.int i :: .ref q :: st) (mi, ml, mr, nx) Q = (vp_in i (kAl q) ∧ kJ 172 94 [l0, l1, l2, l3, l4] (.int (mi q i.toNatClampNeg) :: st) (mi, ml, mr, nx) Q) := kg_aldJ d172_93 rfl (kAr_of h)
theorem d172_94 : decode (mB 172) 94 = .ok (.invokevirtual 147, 3) := by decide +kernel
theorem s172_94 {l0 l1 l2 l3 l4 : Option Value} {v0 : Int32} {v1 : Int32} {v2 : Int32} {v3 : Nat} {m : kMem} {Q : Option Value → kMem → Prop} (h : kIs m.2.2.2 v3 5 = true) : kJ 172 94 [l0, l1, l2, l3, l4] [.int v0, .int v1, .int v2, .ref v3] m Q = kJ 133 0 [some (.ref v3), some (.int v2), some (.int v1), some (.int v0)] [] m (fun v m2 => kJ 172 97 [l0, l1, l2, l3, l4] (v.toList ++ []) m2 Q) := kJ_call d172_94 (kg_callv 133 3 rfl rfl rfl rfl (Nat.le_of_ble_eq_true rfl) (Nat.le_of_ble_eq_true rfl) (Nat.le_of_ble_eq_true rfl) h rfl)
theorem d172_97 : decode (mB 172) 97 = .ok (.aload_n 0, 1) := by decide +kernel
theorem s172_97 {l1 l2 l3 l4 : Option Value} {st : List Value} {x : Nat} {m : kMem} {Q : Option Value → kMem → Prop} : kJ 172 97 [some (.ref x), l1, l2, l3, l4] st m Q = kJ 172 98 [some (.ref x), l1, l2, l3, l4] (.ref x :: st) m Q := kJ_next d172_97 rfl
theorem d172_98 : decode (mB 172) 98 = .ok (.bipush 10, 2) := by decide +kernel
theorem s172_98 {l0 l1 l2 l3 l4 : Option Value} {st : List Value} {m : kMem} {Q : Option Value → kMem → Prop} : kJ 172 98 [l0, l1, l2, l3, l4] st m Q = kJ 172 100 [l0, l1, l2, l3, l4] (.int (nI 10) :: st) m Q := kJ_next d172_98 rfl
theorem d172_100 : decode (mB 172) 100 = .ok (.iload_n 3, 1) := by decide +kernel
theorem s172_100 {l0 l1 l2 l4 : Option Value} {st : List Value} {x : Int32} {m : kMem} {Q : Option Value → kMem → Prop} : kJ 172 100 [l0, l1, l2, some (.int x), l4] st m Q = kJ 172 101 [l0, l1, l2, some (.int x), l4] (.int x :: st) m Q := kJ_next d172_100 rfl
theorem d172_101 : decode (mB 172) 101 = .ok (.imul, 1) := by decide +kernel
theorem s172_101 {l0 l1 l2 l3 l4 : Option Value} {st : List Value} {a b : Int32} {m : kMem} {Q : Option Value → kMem → Prop} : kJ 172 101 [l0, l1, l2, l3, l4] (.int b :: .int a :: st) m Q = kJ 172 102 [l0, l1, l2, l3, l4] (.int (a * b) :: st) m Q := kJ_next d172_101 rfl
theorem d172_102 : decode (mB 172) 102 = .ok (.iload 4, 2) := by decide +kernel
theorem s172_102 {l0 l1 l2 l3 : Option Value} {st : List Value} {x : Int32} {m : kMem} {Q : Option Value → kMem → Prop} : kJ 172 102 [l0, l1, l2, l3, some (.int x)] st m Q = kJ 172 104 [l0, l1, l2, l3, some (.int x)] (.int x :: st) m Q := kJ_next d172_102 rfl
theorem d172_104 : decode (mB 172) 104 = .ok (.iadd, 1) := by decide +kernel
theorem s172_104 {l0 l1 l2 l3 l4 : Option Value} {st : List Value} {a b : Int32} {m : kMem} {Q : Option Value → kMem → Prop} : kJ 172 104 [l0, l1, l2, l3, l4] (.int b :: .int a :: st) m Q = kJ 172 105 [l0, l1, l2, l3, l4] (.int (a + b) :: st) m Q := kJ_next d172_104 rfl
theorem d172_105 : decode (mB 172) 105 = .ok (.aload_n 0, 1) := by decide +kernel
theorem s172_105 {l1 l2 l3 l4 : Option Value} {st : List Value} {x : Nat} {m : kMem} {Q : Option Value → kMem → Prop} : kJ 172 105 [some (.ref x), l1, l2, l3, l4] st m Q = kJ 172 106 [some (.ref x), l1, l2, l3, l4] (.ref x :: st) m Q := kJ_next d172_105 rfl
theorem d172_106 : decode (mB 172) 106 = .ok (.iload_n 1, 1) := by decide +kernel
theorem s172_106 {l0 l2 l3 l4 : Option Value} {st : List Value} {x : Int32} {m : kMem} {Q : Option Value → kMem → Prop} : kJ 172 106 [l0, some (.int x), l2, l3, l4] st m Q = kJ 172 107 [l0, some (.int x), l2, l3, l4] (.int x :: st) m Q := kJ_next d172_106 rfl
theorem d172_107 : decode (mB 172) 107 = .ok (.invokevirtual 245, 3) := by decide +kernel
theorem s172_107 {l0 l1 l2 l3 l4 : Option Value} {v0 : Int32} {v1 : Nat} {v2 : Int32} {v3 : Nat} {m : kMem} {Q : Option Value → kMem → Prop} (h : kIs m.2.2.2 v1 5 = true) : kJ 172 107 [l0, l1, l2, l3, l4] [.int v0, .ref v1, .int v2, .ref v3] m Q = kJ 147 0 [some (.ref v1), some (.int v0)] [] m (fun v m2 => kJ 172 110 [l0, l1, l2, l3, l4] (v.toList ++ [.int v2, .ref v3]) m2 Q) := kJ_call d172_107 (kg_callv 147 1 rfl rfl rfl rfl (Nat.le_of_ble_eq_true rfl) (Nat.le_of_ble_eq_true rfl) (Nat.le_of_ble_eq_true rfl) h rfl)
theorem d172_110 : decode (mB 172) 110 = .ok (.invokevirtual 248, 3) := by decide +kernel
theorem s172_110 {l0 l1 l2 l3 l4 : Option Value} {v0 : Int32} {v1 : Int32} {v2 : Nat} {m : kMem} {Q : Option Value → kMem → Prop} (h : kIs m.2.2.2 v2 5 = true) : kJ 172 110 [l0, l1, l2, l3, l4] [.int v0, .int v1, .ref v2] m Q = kJ 166 0 [some (.ref v2), some (.int v1), some (.int v0)] [] m (fun v m2 => kJ 172 113 [l0, l1, l2, l3, l4] (v.toList ++ []) m2 Q) := kJ_call d172_110 (kg_callv 166 2 rfl rfl rfl rfl (Nat.le_of_ble_eq_true rfl) (Nat.le_of_ble_eq_true rfl) (Nat.le_of_ble_eq_true rfl) h rfl)
theorem d172_113 : decode (mB 172) 113 = .ok (.iinc 4 1, 3) := by decide +kernel
theorem s172_113 {l0 l1 l2 l3 : Option Value} {st : List Value} {x : Int32} {m : kMem} {Q : Option Value → kMem → Prop} (hp : kNL l3 = true) : kJ 172 113 [l0, l1, l2, l3, some (.int x)] st m Q = kJ 172 116 [l0, l1, l2, l3, some (.int (x + (nI 1)))] st m Q := kJ_next d172_113 (kg_inc rfl (Nat.le_of_ble_eq_true rfl) hp)
theorem d172_116 : decode (mB 172) 116 = .ok (.goto (-69), 3) := by decide +kernel
theorem s172_116 {l0 l1 l2 l3 l4 : Option Value} {st : List Value} {m : kMem} {Q : Option Value → kMem → Prop} : kJ 172 116 [l0, l1, l2, l3, l4] st m Q = kJ 172 47 [l0, l1, l2, l3, l4] st m Q := kJ_next d172_116 rfl
theorem d172_119 : decode (mB 172) 119 = .ok (.iinc 3 1, 3) := by decide +kernel
theorem s172_119 {l0 l1 l2 l4 : Option Value} {st : List Value} {x : Int32} {m : kMem} {Q : Option Value → kMem → Prop} (hp : kNL l2 = true) : kJ 172 119 [l0, l1, l2, some (.int x), l4] st m Q = kJ 172 122 [l0, l1, l2, some (.int (x + (nI 1))), l4] st m Q := kJ_next d172_119 (kg_inc rfl (Nat.le_of_ble_eq_true rfl) hp)
theorem d172_122 : decode (mB 172) 122 = .ok (.goto (-91), 3) := by decide +kernel
theorem s172_122 {l0 l1 l2 l3 l4 : Option Value} {st : List Value} {m : kMem} {Q : Option Value → kMem → Prop} : kJ 172 122 [l0, l1, l2, l3, l4] st m Q = kJ 172 31 [l0, l1, l2, l3, l4] st m Q := kJ_next d172_122 rfl
theorem d172_125 : decode (mB 172) 125 = .ok (.aload_n 0, 1) := by decide +kernel
theorem s172_125 {l1 l2 l3 l4 : Option Value} {st : List Value} {x : Nat} {m : kMem} {Q : Option Value → kMem → Prop} : kJ 172 125 [some (.ref x), l1, l2, l3, l4] st m Q = kJ 172 126 [some (.ref x), l1, l2, l3, l4] (.ref x :: st) m Q := kJ_next d172_125 rfl
theorem d172_126 : decode (mB 172) 126 = .ok (.iload_n 2, 1) := by decide +kernel
theorem s172_126 {l0 l1 l3 l4 : Option Value} {st : List Value} {x : Int32} {m : kMem} {Q : Option Value → kMem → Prop} : kJ 172 126 [l0, l1, some (.int x), l3, l4] st m Q = kJ 172 127 [l0, l1, some (.int x), l3, l4] (.int x :: st) m Q := kJ_next d172_126 rfl
theorem d172_127 : decode (mB 172) 127 = .ok (.invokevirtual 251, 3) := by decide +kernel
theorem s172_127 {l0 l1 l2 l3 l4 : Option Value} {v0 : Int32} {v1 : Nat} {m : kMem} {Q : Option Value → kMem → Prop} (h : kIs m.2.2.2 v1 5 = true) : kJ 172 127 [l0, l1, l2, l3, l4] [.int v0, .ref v1] m Q = kJ 167 0 [some (.ref v1), some (.int v0)] [] m (fun v m2 => kJ 172 130 [l0, l1, l2, l3, l4] (v.toList ++ []) m2 Q) := kJ_call d172_127 (kg_callv 167 1 rfl rfl rfl rfl (Nat.le_of_ble_eq_true rfl) (Nat.le_of_ble_eq_true rfl) (Nat.le_of_ble_eq_true rfl) h rfl)
theorem d172_130 : decode (mB 172) 130 = .ok (.ireturn, 1) := by decide +kernel
theorem s172_130 {l0 l1 l2 l3 l4 : Option Value} {x : Int32} {m : kMem} {Q : Option Value → kMem → Prop} : kJ 172 130 [l0, l1, l2, l3, l4] [.int x] m Q = Q (some (.int x)) m := kJ_ret d172_130 rfl
theorem d173_0 : decode (mB 173) 0 = .ok (.iload_n 1, 1) := by decide +kernel
theorem s173_0 {l0 l2 l3 : Option Value} {st : List Value} {x : Int32} {m : kMem} {Q : Option Value → kMem → Prop} : kJ 173 0 [l0, some (.int x), l2, l3] st m Q = kJ 173 1 [l0, some (.int x), l2, l3] (.int x :: st) m Q := kJ_next d173_0 rfl
theorem d173_1 : decode (mB 173) 1 = .ok (.invokestatic 233, 3) := by decide +kernel
theorem s173_1 {l0 l1 l2 l3 : Option Value} {v0 : Int32} {m : kMem} {Q : Option Value → kMem → Prop} : kJ 173 1 [l0, l1, l2, l3] [.int v0] m Q = kJ 161 0 [some (.int v0)] [] m (fun v m2 => kJ 173 4 [l0, l1, l2, l3] (v.toList ++ []) m2 Q) := kJ_call d173_1 (kg_calls 161 1 rfl rfl (Nat.le_of_ble_eq_true rfl) (Nat.le_of_ble_eq_true rfl) (Nat.le_of_ble_eq_true rfl) (Nat.le_of_ble_eq_true rfl))
theorem d173_4 : decode (mB 173) 4 = .ok (.ifCond .eq 10, 3) := by decide +kernel
theorem s173_4 {l0 l1 l2 l3 : Option Value} {st : List Value} {a : Int32} {m : kMem} {Q : Option Value → kMem → Prop} : kJ 173 4 [l0, l1, l2, l3] (.int a :: st) m Q = (if a = 0 then kJ 173 14 [l0, l1, l2, l3] st m Q else kJ 173 7 [l0, l1, l2, l3] st m Q) := kJ_if d173_4 rfl (fun h => kJ_next d173_4 h) (fun h => kJ_next d173_4 h)
theorem d173_7 : decode (mB 173) 7 = .ok (.iload_n 2, 1) := by decide +kernel
theorem s173_7 {l0 l1 l3 : Option Value} {st : List Value} {x : Int32} {m : kMem} {Q : Option Value → kMem → Prop} : kJ 173 7 [l0, l1, some (.int x), l3] st m Q = kJ 173 8 [l0, l1, some (.int x), l3] (.int x :: st) m Q := kJ_next d173_7 rfl
theorem d173_8 : decode (mB 173) 8 = .ok (.invokestatic 254, 3) := by decide +kernel
theorem s173_8 {l0 l1 l2 l3 : Option Value} {v0 : Int32} {m : kMem} {Q : Option Value → kMem → Prop} : kJ 173 8 [l0, l1, l2, l3] [.int v0] m Q = kJ 129 0 [some (.int v0)] [] m (fun v m2 => kJ 173 11 [l0, l1, l2, l3] (v.toList ++ []) m2 Q) := kJ_call d173_8 (kg_calls 129 1 rfl rfl (Nat.le_of_ble_eq_true rfl) (Nat.le_of_ble_eq_true rfl) (Nat.le_of_ble_eq_true rfl) (Nat.le_of_ble_eq_true rfl))
theorem d173_11 : decode (mB 173) 11 = .ok (.ifCond .ne 5, 3) := by decide +kernel
theorem s173_11 {l0 l1 l2 l3 : Option Value} {st : List Value} {a : Int32} {m : kMem} {Q : Option Value → kMem → Prop} : kJ 173 11 [l0, l1, l2, l3] (.int a :: st) m Q = (if a = 0 then kJ 173 14 [l0, l1, l2, l3] st m Q else kJ 173 16 [l0, l1, l2, l3] st m Q) := kJ_if d173_11 rfl (fun h => kJ_next d173_11 h) (fun h => kJ_next d173_11 h)
theorem d173_14 : decode (mB 173) 14 = .ok (.iconst (-1), 1) := by decide +kernel
theorem s173_14 {l0 l1 l2 l3 : Option Value} {st : List Value} {m : kMem} {Q : Option Value → kMem → Prop} : kJ 173 14 [l0, l1, l2, l3] st m Q = kJ 173 15 [l0, l1, l2, l3] (.int (-1) :: st) m Q := kJ_next d173_14 rfl
theorem d173_15 : decode (mB 173) 15 = .ok (.ireturn, 1) := by decide +kernel
theorem s173_15 {l0 l1 l2 l3 : Option Value} {x : Int32} {m : kMem} {Q : Option Value → kMem → Prop} : kJ 173 15 [l0, l1, l2, l3] [.int x] m Q = Q (some (.int x)) m := kJ_ret d173_15 rfl
theorem d173_16 : decode (mB 173) 16 = .ok (.aload_n 0, 1) := by decide +kernel
theorem s173_16 {l1 l2 l3 : Option Value} {st : List Value} {x : Nat} {m : kMem} {Q : Option Value → kMem → Prop} : kJ 173 16 [some (.ref x), l1, l2, l3] st m Q = kJ 173 17 [some (.ref x), l1, l2, l3] (.ref x :: st) m Q := kJ_next d173_16 rfl
theorem d173_17 : decode (mB 173) 17 = .ok (.invokevirtual 195, 3) := by decide +kernel
theorem s173_17 {l0 l1 l2 l3 : Option Value} {v0 : Nat} {m : kMem} {Q : Option Value → kMem → Prop} (h : kIs m.2.2.2 v0 5 = true) : kJ 173 17 [l0, l1, l2, l3] [.ref v0] m Q = kJ 130 0 [some (.ref v0), none] [] m (fun v m2 => kJ 173 20 [l0, l1, l2, l3] (v.toList ++ []) m2 Q) := kJ_call d173_17 (kg_callv 130 0 rfl rfl rfl rfl (Nat.le_of_ble_eq_true rfl) (Nat.le_of_ble_eq_true rfl) (Nat.le_of_ble_eq_true rfl) h rfl)
theorem d173_20 : decode (mB 173) 20 = .ok (.aload_n 0, 1) := by decide +kernel
theorem s173_20 {l1 l2 l3 : Option Value} {st : List Value} {x : Nat} {m : kMem} {Q : Option Value → kMem → Prop} : kJ 173 20 [some (.ref x), l1, l2, l3] st m Q = kJ 173 21 [some (.ref x), l1, l2, l3] (.ref x :: st) m Q := kJ_next d173_20 rfl
theorem d173_21 : decode (mB 173) 21 = .ok (.aload_n 0, 1) := by decide +kernel
theorem s173_21 {l1 l2 l3 : Option Value} {st : List Value} {x : Nat} {m : kMem} {Q : Option Value → kMem → Prop} : kJ 173 21 [some (.ref x), l1, l2, l3] st m Q = kJ 173 22 [some (.ref x), l1, l2, l3] (.ref x :: st) m Q := kJ_next d173_21 rfl
theorem d173_22 : decode (mB 173) 22 = .ok (.iload_n 1, 1) := by decide +kernel
theorem s173_22 {l0 l2 l3 : Option Value} {st : List Value} {x : Int32} {m : kMem} {Q : Option Value → kMem → Prop} : kJ 173 22 [l0, some (.int x), l2, l3] st m Q = kJ 173 23 [l0, some (.int x), l2, l3] (.int x :: st) m Q := kJ_next d173_22 rfl
theorem d173_23 : decode (mB 173) 23 = .ok (.invokevirtual 245, 3) := by decide +kernel
theorem s173_23 {l0 l1 l2 l3 : Option Value} {v0 : Int32} {v1 : Nat} {v2 : Nat} {m : kMem} {Q : Option Value → kMem → Prop} (h : kIs m.2.2.2 v1 5 = true) : kJ 173 23 [l0, l1, l2, l3] [.int v0, .ref v1, .ref v2] m Q = kJ 147 0 [some (.ref v1), some (.int v0)] [] m (fun v m2 => kJ 173 26 [l0, l1, l2, l3] (v.toList ++ [.ref v2]) m2 Q) := kJ_call d173_23 (kg_callv 147 1 rfl rfl rfl rfl (Nat.le_of_ble_eq_true rfl) (Nat.le_of_ble_eq_true rfl) (Nat.le_of_ble_eq_true rfl) h rfl)
theorem d173_26 : decode (mB 173) 26 = .ok (.invokevirtual 242, 3) := by decide +kernel
theorem s173_26 {l0 l1 l2 l3 : Option Value} {v0 : Int32} {v1 : Nat} {m : kMem} {Q : Option Value → kMem → Prop} (h : kIs m.2.2.2 v1 5 = true) : kJ 173 26 [l0, l1, l2, l3] [.int v0, .ref v1] m Q = kJ 165 0 [some (.ref v1), some (.int v0)] [] m (fun v m2 => kJ 173 29 [l0, l1, l2, l3] (v.toList ++ []) m2 Q) := kJ_call d173_26 (kg_callv 165 1 rfl rfl rfl rfl (Nat.le_of_ble_eq_true rfl) (Nat.le_of_ble_eq_true rfl) (Nat.le_of_ble_eq_true rfl) h rfl)
theorem d173_29 : decode (mB 173) 29 = .ok (.iconst 0, 1) := by decide +kernel
theorem s173_29 {l0 l1 l2 l3 : Option Value} {st : List Value} {m : kMem} {Q : Option Value → kMem → Prop} : kJ 173 29 [l0, l1, l2, l3] st m Q = kJ 173 30 [l0, l1, l2, l3] (.int (nI 0) :: st) m Q := kJ_next d173_29 rfl
theorem d173_30 : decode (mB 173) 30 = .ok (.istore_n 3, 1) := by decide +kernel
theorem s173_30 {l0 l1 l2 l3 : Option Value} {st : List Value} {x : Int32} {m : kMem} {Q : Option Value → kMem → Prop} (hp : kNL l2 = true) : kJ 173 30 [l0, l1, l2, l3] (.int x :: st) m Q = kJ 173 31 [l0, l1, l2, some (.int x)] st m Q := kJ_next d173_30 (kg_sti (Nat.le_of_ble_eq_true rfl) hp)
theorem d173_31 : decode (mB 173) 31 = .ok (.iload_n 3, 1) := by decide +kernel
theorem s173_31 {l0 l1 l2 : Option Value} {st : List Value} {x : Int32} {m : kMem} {Q : Option Value → kMem → Prop} : kJ 173 31 [l0, l1, l2, some (.int x)] st m Q = kJ 173 32 [l0, l1, l2, some (.int x)] (.int x :: st) m Q := kJ_next d173_31 rfl
theorem d173_32 : decode (mB 173) 32 = .ok (.aload_n 0, 1) := by decide +kernel
theorem s173_32 {l1 l2 l3 : Option Value} {st : List Value} {x : Nat} {m : kMem} {Q : Option Value → kMem → Prop} : kJ 173 32 [some (.ref x), l1, l2, l3] st m Q = kJ 173 33 [some (.ref x), l1, l2, l3] (.ref x :: st) m Q := kJ_next d173_32 rfl
theorem d173_33 : decode (mB 173) 33 = .ok (.getfield 7, 3) := by decide +kernel
theorem s173_33 {l0 l1 l2 l3 : Option Value} {st : List Value} {q : Nat} {mi : Nat → Nat → Int32} {ml : Nat → Nat → Int64} {mr : Nat → Nat → Option Nat} {nx : Nat} {Q : Option Value → kMem → Prop} (h : kIs nx q 5 = true) : kJ 173 33 [l0, l1, l2, l3] (.ref q :: st) (mi, ml, mr, nx) Q = kJ 173 36 [l0, l1, l2, l3] (va_rf (mr q 0) :: st) (mi, ml, mr, nx) Q := kJ_next d173_33 (kg_getr 5 0 rfl h (by decide))
theorem d173_36 : decode (mB 173) 36 = .ok (.bipush 52, 2) := by decide +kernel
theorem s173_36 {l0 l1 l2 l3 : Option Value} {st : List Value} {m : kMem} {Q : Option Value → kMem → Prop} : kJ 173 36 [l0, l1, l2, l3] st m Q = kJ 173 38 [l0, l1, l2, l3] (.int (nI 52) :: st) m Q := kJ_next d173_36 rfl
theorem d173_38 : decode (mB 173) 38 = .ok (.iaload, 1) := by decide +kernel
theorem s173_38 {l0 l1 l2 l3 : Option Value} {st : List Value} {q : Nat} {i : Int32} {mi : Nat → Nat → Int32} {ml : Nat → Nat → Int64} {mr : Nat → Nat → Option Nat} {nx : Nat} {Q : Option Value → kMem → Prop} (h : kIs nx q 10 = true) : kJ 173 38 [l0, l1, l2, l3] (.int i :: .ref q :: st) (mi, ml, mr, nx) Q = (vp_in i (kAl q) ∧ kJ 173 39 [l0, l1, l2, l3] (.int (mi q i.toNatClampNeg) :: st) (mi, ml, mr, nx) Q) := kg_aldJ d173_38 rfl (kAr_of h)
theorem d173_39 : decode (mB 173) 39 = .ok (.if_icmp .ge 39, 3) := by decide +kernel
theorem s173_39 {l0 l1 l2 l3 : Option Value} {st : List Value} {a b : Int32} {m : kMem} {Q : Option Value → kMem → Prop} : kJ 173 39 [l0, l1, l2, l3] (.int b :: .int a :: st) m Q = (if b ≤ a then kJ 173 78 [l0, l1, l2, l3] st m Q else kJ 173 42 [l0, l1, l2, l3] st m Q) := kJ_if d173_39 rfl (fun h => kJ_next d173_39 h) (fun h => kJ_next d173_39 h)
theorem d173_42 : decode (mB 173) 42 = .ok (.aload_n 0, 1) := by decide +kernel
theorem s173_42 {l1 l2 l3 : Option Value} {st : List Value} {x : Nat} {m : kMem} {Q : Option Value → kMem → Prop} : kJ 173 42 [some (.ref x), l1, l2, l3] st m Q = kJ 173 43 [some (.ref x), l1, l2, l3] (.ref x :: st) m Q := kJ_next d173_42 rfl
theorem d173_43 : decode (mB 173) 43 = .ok (.iload_n 3, 1) := by decide +kernel
theorem s173_43 {l0 l1 l2 : Option Value} {st : List Value} {x : Int32} {m : kMem} {Q : Option Value → kMem → Prop} : kJ 173 43 [l0, l1, l2, some (.int x)] st m Q = kJ 173 44 [l0, l1, l2, some (.int x)] (.int x :: st) m Q := kJ_next d173_43 rfl
theorem d173_44 : decode (mB 173) 44 = .ok (.invokevirtual 221, 3) := by decide +kernel
theorem s173_44 {l0 l1 l2 l3 : Option Value} {v0 : Int32} {v1 : Nat} {m : kMem} {Q : Option Value → kMem → Prop} (h : kIs m.2.2.2 v1 5 = true) : kJ 173 44 [l0, l1, l2, l3] [.int v0, .ref v1] m Q = kJ 155 0 [some (.ref v1), some (.int v0)] [] m (fun v m2 => kJ 173 47 [l0, l1, l2, l3] (v.toList ++ []) m2 Q) := kJ_call d173_44 (kg_callv 155 1 rfl rfl rfl rfl (Nat.le_of_ble_eq_true rfl) (Nat.le_of_ble_eq_true rfl) (Nat.le_of_ble_eq_true rfl) h rfl)
theorem d173_47 : decode (mB 173) 47 = .ok (.iconst 2, 1) := by decide +kernel
theorem s173_47 {l0 l1 l2 l3 : Option Value} {st : List Value} {m : kMem} {Q : Option Value → kMem → Prop} : kJ 173 47 [l0, l1, l2, l3] st m Q = kJ 173 48 [l0, l1, l2, l3] (.int (nI 2) :: st) m Q := kJ_next d173_47 rfl
theorem d173_48 : decode (mB 173) 48 = .ok (.if_icmp .ge 24, 3) := by decide +kernel
theorem s173_48 {l0 l1 l2 l3 : Option Value} {st : List Value} {a b : Int32} {m : kMem} {Q : Option Value → kMem → Prop} : kJ 173 48 [l0, l1, l2, l3] (.int b :: .int a :: st) m Q = (if b ≤ a then kJ 173 72 [l0, l1, l2, l3] st m Q else kJ 173 51 [l0, l1, l2, l3] st m Q) := kJ_if d173_48 rfl (fun h => kJ_next d173_48 h) (fun h => kJ_next d173_48 h)
theorem d173_51 : decode (mB 173) 51 = .ok (.aload_n 0, 1) := by decide +kernel
theorem s173_51 {l1 l2 l3 : Option Value} {st : List Value} {x : Nat} {m : kMem} {Q : Option Value → kMem → Prop} : kJ 173 51 [some (.ref x), l1, l2, l3] st m Q = kJ 173 52 [some (.ref x), l1, l2, l3] (.ref x :: st) m Q := kJ_next d173_51 rfl
theorem d173_52 : decode (mB 173) 52 = .ok (.invokevirtual 195, 3) := by decide +kernel
theorem s173_52 {l0 l1 l2 l3 : Option Value} {v0 : Nat} {m : kMem} {Q : Option Value → kMem → Prop} (h : kIs m.2.2.2 v0 5 = true) : kJ 173 52 [l0, l1, l2, l3] [.ref v0] m Q = kJ 130 0 [some (.ref v0), none] [] m (fun v m2 => kJ 173 55 [l0, l1, l2, l3] (v.toList ++ []) m2 Q) := kJ_call d173_52 (kg_callv 130 0 rfl rfl rfl rfl (Nat.le_of_ble_eq_true rfl) (Nat.le_of_ble_eq_true rfl) (Nat.le_of_ble_eq_true rfl) h rfl)
theorem d173_55 : decode (mB 173) 55 = .ok (.aload_n 0, 1) := by decide +kernel
theorem s173_55 {l1 l2 l3 : Option Value} {st : List Value} {x : Nat} {m : kMem} {Q : Option Value → kMem → Prop} : kJ 173 55 [some (.ref x), l1, l2, l3] st m Q = kJ 173 56 [some (.ref x), l1, l2, l3] (.ref x :: st) m Q := kJ_next d173_55 rfl
theorem d173_56 : decode (mB 173) 56 = .ok (.iload_n 3, 1) := by decide +kernel
theorem s173_56 {l0 l1 l2 : Option Value} {st : List Value} {x : Int32} {m : kMem} {Q : Option Value → kMem → Prop} : kJ 173 56 [l0, l1, l2, some (.int x)] st m Q = kJ 173 57 [l0, l1, l2, some (.int x)] (.int x :: st) m Q := kJ_next d173_56 rfl
theorem d173_57 : decode (mB 173) 57 = .ok (.iconst 5, 1) := by decide +kernel
theorem s173_57 {l0 l1 l2 l3 : Option Value} {st : List Value} {m : kMem} {Q : Option Value → kMem → Prop} : kJ 173 57 [l0, l1, l2, l3] st m Q = kJ 173 58 [l0, l1, l2, l3] (.int (nI 5) :: st) m Q := kJ_next d173_57 rfl
theorem d173_58 : decode (mB 173) 58 = .ok (.iconst 3, 1) := by decide +kernel
theorem s173_58 {l0 l1 l2 l3 : Option Value} {st : List Value} {m : kMem} {Q : Option Value → kMem → Prop} : kJ 173 58 [l0, l1, l2, l3] st m Q = kJ 173 59 [l0, l1, l2, l3] (.int (nI 3) :: st) m Q := kJ_next d173_58 rfl
theorem d173_59 : decode (mB 173) 59 = .ok (.invokevirtual 161, 3) := by decide +kernel
theorem s173_59 {l0 l1 l2 l3 : Option Value} {v0 : Int32} {v1 : Int32} {v2 : Int32} {v3 : Nat} {m : kMem} {Q : Option Value → kMem → Prop} (h : kIs m.2.2.2 v3 5 = true) : kJ 173 59 [l0, l1, l2, l3] [.int v0, .int v1, .int v2, .ref v3] m Q = kJ 135 0 [some (.ref v3), some (.int v2), some (.int v1), some (.int v0)] [] m (fun v m2 => kJ 173 62 [l0, l1, l2, l3] (v.toList ++ []) m2 Q) := kJ_call d173_59 (kg_callv 135 3 rfl rfl rfl rfl (Nat.le_of_ble_eq_true rfl) (Nat.le_of_ble_eq_true rfl) (Nat.le_of_ble_eq_true rfl) h rfl)
theorem d173_62 : decode (mB 173) 62 = .ok (.aload_n 0, 1) := by decide +kernel
theorem s173_62 {l1 l2 l3 : Option Value} {st : List Value} {x : Nat} {m : kMem} {Q : Option Value → kMem → Prop} : kJ 173 62 [some (.ref x), l1, l2, l3] st m Q = kJ 173 63 [some (.ref x), l1, l2, l3] (.ref x :: st) m Q := kJ_next d173_62 rfl
theorem d173_63 : decode (mB 173) 63 = .ok (.iload_n 3, 1) := by decide +kernel
theorem s173_63 {l0 l1 l2 : Option Value} {st : List Value} {x : Int32} {m : kMem} {Q : Option Value → kMem → Prop} : kJ 173 63 [l0, l1, l2, some (.int x)] st m Q = kJ 173 64 [l0, l1, l2, some (.int x)] (.int x :: st) m Q := kJ_next d173_63 rfl
theorem d173_64 : decode (mB 173) 64 = .ok (.aload_n 0, 1) := by decide +kernel
theorem s173_64 {l1 l2 l3 : Option Value} {st : List Value} {x : Nat} {m : kMem} {Q : Option Value → kMem → Prop} : kJ 173 64 [some (.ref x), l1, l2, l3] st m Q = kJ 173 65 [some (.ref x), l1, l2, l3] (.ref x :: st) m Q := kJ_next d173_64 rfl
theorem d173_65 : decode (mB 173) 65 = .ok (.iload_n 1, 1) := by decide +kernel
theorem s173_65 {l0 l2 l3 : Option Value} {st : List Value} {x : Int32} {m : kMem} {Q : Option Value → kMem → Prop} : kJ 173 65 [l0, some (.int x), l2, l3] st m Q = kJ 173 66 [l0, some (.int x), l2, l3] (.int x :: st) m Q := kJ_next d173_65 rfl
theorem d173_66 : decode (mB 173) 66 = .ok (.invokevirtual 245, 3) := by decide +kernel
theorem s173_66 {l0 l1 l2 l3 : Option Value} {v0 : Int32} {v1 : Nat} {v2 : Int32} {v3 : Nat} {m : kMem} {Q : Option Value → kMem → Prop} (h : kIs m.2.2.2 v1 5 = true) : kJ 173 66 [l0, l1, l2, l3] [.int v0, .ref v1, .int v2, .ref v3] m Q = kJ 147 0 [some (.ref v1), some (.int v0)] [] m (fun v m2 => kJ 173 69 [l0, l1, l2, l3] (v.toList ++ [.int v2, .ref v3]) m2 Q) := kJ_call d173_66 (kg_callv 147 1 rfl rfl rfl rfl (Nat.le_of_ble_eq_true rfl) (Nat.le_of_ble_eq_true rfl) (Nat.le_of_ble_eq_true rfl) h rfl)
theorem d173_69 : decode (mB 173) 69 = .ok (.invokevirtual 248, 3) := by decide +kernel
theorem s173_69 {l0 l1 l2 l3 : Option Value} {v0 : Int32} {v1 : Int32} {v2 : Nat} {m : kMem} {Q : Option Value → kMem → Prop} (h : kIs m.2.2.2 v2 5 = true) : kJ 173 69 [l0, l1, l2, l3] [.int v0, .int v1, .ref v2] m Q = kJ 166 0 [some (.ref v2), some (.int v1), some (.int v0)] [] m (fun v m2 => kJ 173 72 [l0, l1, l2, l3] (v.toList ++ []) m2 Q) := kJ_call d173_69 (kg_callv 166 2 rfl rfl rfl rfl (Nat.le_of_ble_eq_true rfl) (Nat.le_of_ble_eq_true rfl) (Nat.le_of_ble_eq_true rfl) h rfl)
theorem d173_72 : decode (mB 173) 72 = .ok (.iinc 3 1, 3) := by decide +kernel
theorem s173_72 {l0 l1 l2 : Option Value} {st : List Value} {x : Int32} {m : kMem} {Q : Option Value → kMem → Prop} (hp : kNL l2 = true) : kJ 173 72 [l0, l1, l2, some (.int x)] st m Q = kJ 173 75 [l0, l1, l2, some (.int (x + (nI 1)))] st m Q := kJ_next d173_72 (kg_inc rfl (Nat.le_of_ble_eq_true rfl) hp)
theorem d173_75 : decode (mB 173) 75 = .ok (.goto (-44), 3) := by decide +kernel
theorem s173_75 {l0 l1 l2 l3 : Option Value} {st : List Value} {m : kMem} {Q : Option Value → kMem → Prop} : kJ 173 75 [l0, l1, l2, l3] st m Q = kJ 173 31 [l0, l1, l2, l3] st m Q := kJ_next d173_75 rfl
theorem d173_78 : decode (mB 173) 78 = .ok (.aload_n 0, 1) := by decide +kernel
theorem s173_78 {l1 l2 l3 : Option Value} {st : List Value} {x : Nat} {m : kMem} {Q : Option Value → kMem → Prop} : kJ 173 78 [some (.ref x), l1, l2, l3] st m Q = kJ 173 79 [some (.ref x), l1, l2, l3] (.ref x :: st) m Q := kJ_next d173_78 rfl
theorem d173_79 : decode (mB 173) 79 = .ok (.iload_n 2, 1) := by decide +kernel
theorem s173_79 {l0 l1 l3 : Option Value} {st : List Value} {x : Int32} {m : kMem} {Q : Option Value → kMem → Prop} : kJ 173 79 [l0, l1, some (.int x), l3] st m Q = kJ 173 80 [l0, l1, some (.int x), l3] (.int x :: st) m Q := kJ_next d173_79 rfl
theorem d173_80 : decode (mB 173) 80 = .ok (.invokevirtual 251, 3) := by decide +kernel
theorem s173_80 {l0 l1 l2 l3 : Option Value} {v0 : Int32} {v1 : Nat} {m : kMem} {Q : Option Value → kMem → Prop} (h : kIs m.2.2.2 v1 5 = true) : kJ 173 80 [l0, l1, l2, l3] [.int v0, .ref v1] m Q = kJ 167 0 [some (.ref v1), some (.int v0)] [] m (fun v m2 => kJ 173 83 [l0, l1, l2, l3] (v.toList ++ []) m2 Q) := kJ_call d173_80 (kg_callv 167 1 rfl rfl rfl rfl (Nat.le_of_ble_eq_true rfl) (Nat.le_of_ble_eq_true rfl) (Nat.le_of_ble_eq_true rfl) h rfl)
theorem d173_83 : decode (mB 173) 83 = .ok (.ireturn, 1) := by decide +kernel
theorem s173_83 {l0 l1 l2 l3 : Option Value} {x : Int32} {m : kMem} {Q : Option Value → kMem → Prop} : kJ 173 83 [l0, l1, l2, l3] [.int x] m Q = Q (some (.int x)) m := kJ_ret d173_83 rfl
theorem d174_0 : decode (mB 174) 0 = .ok (.aload_n 0, 1) := by decide +kernel
theorem s174_0 {l1 l2 l3 : Option Value} {st : List Value} {x : Nat} {m : kMem} {Q : Option Value → kMem → Prop} : kJ 174 0 [some (.ref x), l1, l2, l3] st m Q = kJ 174 1 [some (.ref x), l1, l2, l3] (.ref x :: st) m Q := kJ_next d174_0 rfl
theorem d174_1 : decode (mB 174) 1 = .ok (.iload_n 1, 1) := by decide +kernel
theorem s174_1 {l0 l2 l3 : Option Value} {st : List Value} {x : Int32} {m : kMem} {Q : Option Value → kMem → Prop} : kJ 174 1 [l0, some (.int x), l2, l3] st m Q = kJ 174 2 [l0, some (.int x), l2, l3] (.int x :: st) m Q := kJ_next d174_1 rfl
theorem d174_2 : decode (mB 174) 2 = .ok (.invokevirtual 201, 3) := by decide +kernel
theorem s174_2 {l0 l1 l2 l3 : Option Value} {v0 : Int32} {v1 : Nat} {m : kMem} {Q : Option Value → kMem → Prop} (h : kIs m.2.2.2 v1 5 = true) : kJ 174 2 [l0, l1, l2, l3] [.int v0, .ref v1] m Q = kJ 126 0 [some (.ref v1), some (.int v0)] [] m (fun v m2 => kJ 174 5 [l0, l1, l2, l3] (v.toList ++ []) m2 Q) := kJ_call d174_2 (kg_callv 126 1 rfl rfl rfl rfl (Nat.le_of_ble_eq_true rfl) (Nat.le_of_ble_eq_true rfl) (Nat.le_of_ble_eq_true rfl) h rfl)
theorem d174_5 : decode (mB 174) 5 = .ok (.ifCond .eq 32, 3) := by decide +kernel
theorem s174_5 {l0 l1 l2 l3 : Option Value} {st : List Value} {a : Int32} {m : kMem} {Q : Option Value → kMem → Prop} : kJ 174 5 [l0, l1, l2, l3] (.int a :: st) m Q = (if a = 0 then kJ 174 37 [l0, l1, l2, l3] st m Q else kJ 174 8 [l0, l1, l2, l3] st m Q) := kJ_if d174_5 rfl (fun h => kJ_next d174_5 h) (fun h => kJ_next d174_5 h)
theorem d174_8 : decode (mB 174) 8 = .ok (.iload_n 2, 1) := by decide +kernel
theorem s174_8 {l0 l1 l3 : Option Value} {st : List Value} {x : Int32} {m : kMem} {Q : Option Value → kMem → Prop} : kJ 174 8 [l0, l1, some (.int x), l3] st m Q = kJ 174 9 [l0, l1, some (.int x), l3] (.int x :: st) m Q := kJ_next d174_8 rfl
theorem d174_9 : decode (mB 174) 9 = .ok (.invokestatic 233, 3) := by decide +kernel
theorem s174_9 {l0 l1 l2 l3 : Option Value} {v0 : Int32} {m : kMem} {Q : Option Value → kMem → Prop} : kJ 174 9 [l0, l1, l2, l3] [.int v0] m Q = kJ 161 0 [some (.int v0)] [] m (fun v m2 => kJ 174 12 [l0, l1, l2, l3] (v.toList ++ []) m2 Q) := kJ_call d174_9 (kg_calls 161 1 rfl rfl (Nat.le_of_ble_eq_true rfl) (Nat.le_of_ble_eq_true rfl) (Nat.le_of_ble_eq_true rfl) (Nat.le_of_ble_eq_true rfl))
theorem d174_12 : decode (mB 174) 12 = .ok (.ifCond .eq 25, 3) := by decide +kernel
theorem s174_12 {l0 l1 l2 l3 : Option Value} {st : List Value} {a : Int32} {m : kMem} {Q : Option Value → kMem → Prop} : kJ 174 12 [l0, l1, l2, l3] (.int a :: st) m Q = (if a = 0 then kJ 174 37 [l0, l1, l2, l3] st m Q else kJ 174 15 [l0, l1, l2, l3] st m Q) := kJ_if d174_12 rfl (fun h => kJ_next d174_12 h) (fun h => kJ_next d174_12 h)
theorem d174_15 : decode (mB 174) 15 = .ok (.iload_n 3, 1) := by decide +kernel
theorem s174_15 {l0 l1 l2 : Option Value} {st : List Value} {x : Int32} {m : kMem} {Q : Option Value → kMem → Prop} : kJ 174 15 [l0, l1, l2, some (.int x)] st m Q = kJ 174 16 [l0, l1, l2, some (.int x)] (.int x :: st) m Q := kJ_next d174_15 rfl
theorem d174_16 : decode (mB 174) 16 = .ok (.invokestatic 254, 3) := by decide +kernel
theorem s174_16 {l0 l1 l2 l3 : Option Value} {v0 : Int32} {m : kMem} {Q : Option Value → kMem → Prop} : kJ 174 16 [l0, l1, l2, l3] [.int v0] m Q = kJ 129 0 [some (.int v0)] [] m (fun v m2 => kJ 174 19 [l0, l1, l2, l3] (v.toList ++ []) m2 Q) := kJ_call d174_16 (kg_calls 129 1 rfl rfl (Nat.le_of_ble_eq_true rfl) (Nat.le_of_ble_eq_true rfl) (Nat.le_of_ble_eq_true rfl) (Nat.le_of_ble_eq_true rfl))
theorem d174_19 : decode (mB 174) 19 = .ok (.ifCond .eq 18, 3) := by decide +kernel
theorem s174_19 {l0 l1 l2 l3 : Option Value} {st : List Value} {a : Int32} {m : kMem} {Q : Option Value → kMem → Prop} : kJ 174 19 [l0, l1, l2, l3] (.int a :: st) m Q = (if a = 0 then kJ 174 37 [l0, l1, l2, l3] st m Q else kJ 174 22 [l0, l1, l2, l3] st m Q) := kJ_if d174_19 rfl (fun h => kJ_next d174_19 h) (fun h => kJ_next d174_19 h)
theorem d174_22 : decode (mB 174) 22 = .ok (.aload_n 0, 1) := by decide +kernel
theorem s174_22 {l1 l2 l3 : Option Value} {st : List Value} {x : Nat} {m : kMem} {Q : Option Value → kMem → Prop} : kJ 174 22 [some (.ref x), l1, l2, l3] st m Q = kJ 174 23 [some (.ref x), l1, l2, l3] (.ref x :: st) m Q := kJ_next d174_22 rfl
theorem d174_23 : decode (mB 174) 23 = .ok (.iconst 3, 1) := by decide +kernel
theorem s174_23 {l0 l1 l2 l3 : Option Value} {st : List Value} {m : kMem} {Q : Option Value → kMem → Prop} : kJ 174 23 [l0, l1, l2, l3] st m Q = kJ 174 24 [l0, l1, l2, l3] (.int (nI 3) :: st) m Q := kJ_next d174_23 rfl
theorem d174_24 : decode (mB 174) 24 = .ok (.iload_n 1, 1) := by decide +kernel
theorem s174_24 {l0 l2 l3 : Option Value} {st : List Value} {x : Int32} {m : kMem} {Q : Option Value → kMem → Prop} : kJ 174 24 [l0, some (.int x), l2, l3] st m Q = kJ 174 25 [l0, some (.int x), l2, l3] (.int x :: st) m Q := kJ_next d174_24 rfl
theorem d174_25 : decode (mB 174) 25 = .ok (.imul, 1) := by decide +kernel
theorem s174_25 {l0 l1 l2 l3 : Option Value} {st : List Value} {a b : Int32} {m : kMem} {Q : Option Value → kMem → Prop} : kJ 174 25 [l0, l1, l2, l3] (.int b :: .int a :: st) m Q = kJ 174 26 [l0, l1, l2, l3] (.int (a * b) :: st) m Q := kJ_next d174_25 rfl
theorem d174_26 : decode (mB 174) 26 = .ok (.iconst 0, 1) := by decide +kernel
theorem s174_26 {l0 l1 l2 l3 : Option Value} {st : List Value} {m : kMem} {Q : Option Value → kMem → Prop} : kJ 174 26 [l0, l1, l2, l3] st m Q = kJ 174 27 [l0, l1, l2, l3] (.int (nI 0) :: st) m Q := kJ_next d174_26 rfl
theorem d174_27 : decode (mB 174) 27 = .ok (.iadd, 1) := by decide +kernel
theorem s174_27 {l0 l1 l2 l3 : Option Value} {st : List Value} {a b : Int32} {m : kMem} {Q : Option Value → kMem → Prop} : kJ 174 27 [l0, l1, l2, l3] (.int b :: .int a :: st) m Q = kJ 174 28 [l0, l1, l2, l3] (.int (a + b) :: st) m Q := kJ_next d174_27 rfl
theorem d174_28 : decode (mB 174) 28 = .ok (.iconst 4, 1) := by decide +kernel
theorem s174_28 {l0 l1 l2 l3 : Option Value} {st : List Value} {m : kMem} {Q : Option Value → kMem → Prop} : kJ 174 28 [l0, l1, l2, l3] st m Q = kJ 174 29 [l0, l1, l2, l3] (.int (nI 4) :: st) m Q := kJ_next d174_28 rfl
theorem d174_29 : decode (mB 174) 29 = .ok (.iload_n 2, 1) := by decide +kernel
theorem s174_29 {l0 l1 l3 : Option Value} {st : List Value} {x : Int32} {m : kMem} {Q : Option Value → kMem → Prop} : kJ 174 29 [l0, l1, some (.int x), l3] st m Q = kJ 174 30 [l0, l1, some (.int x), l3] (.int x :: st) m Q := kJ_next d174_29 rfl
theorem d174_30 : decode (mB 174) 30 = .ok (.iload_n 3, 1) := by decide +kernel
theorem s174_30 {l0 l1 l2 : Option Value} {st : List Value} {x : Int32} {m : kMem} {Q : Option Value → kMem → Prop} : kJ 174 30 [l0, l1, l2, some (.int x)] st m Q = kJ 174 31 [l0, l1, l2, some (.int x)] (.int x :: st) m Q := kJ_next d174_30 rfl
theorem d174_31 : decode (mB 174) 31 = .ok (.invokevirtual 257, 3) := by decide +kernel
theorem s174_31 {l0 l1 l2 l3 : Option Value} {v0 : Int32} {v1 : Int32} {v2 : Int32} {v3 : Int32} {v4 : Nat} {m : kMem} {Q : Option Value → kMem → Prop} (h : kIs m.2.2.2 v4 5 = true) : kJ 174 31 [l0, l1, l2, l3] [.int v0, .int v1, .int v2, .int v3, .ref v4] m Q = kJ 168 0 [some (.ref v4), some (.int v3), some (.int v2), some (.int v1), some (.int v0), none] [] m (fun v m2 => kJ 174 34 [l0, l1, l2, l3] (v.toList ++ []) m2 Q) := kJ_call d174_31 (kg_callv 168 4 rfl rfl rfl rfl (Nat.le_of_ble_eq_true rfl) (Nat.le_of_ble_eq_true rfl) (Nat.le_of_ble_eq_true rfl) h rfl)
theorem d174_34 : decode (mB 174) 34 = .ok (.goto 4, 3) := by decide +kernel
theorem s174_34 {l0 l1 l2 l3 : Option Value} {st : List Value} {m : kMem} {Q : Option Value → kMem → Prop} : kJ 174 34 [l0, l1, l2, l3] st m Q = kJ 174 38 [l0, l1, l2, l3] st m Q := kJ_next d174_34 rfl
theorem d174_37 : decode (mB 174) 37 = .ok (.iconst (-1), 1) := by decide +kernel
theorem s174_37 {l0 l1 l2 l3 : Option Value} {st : List Value} {m : kMem} {Q : Option Value → kMem → Prop} : kJ 174 37 [l0, l1, l2, l3] st m Q = kJ 174 38 [l0, l1, l2, l3] (.int (-1) :: st) m Q := kJ_next d174_37 rfl
theorem d174_38 : decode (mB 174) 38 = .ok (.ireturn, 1) := by decide +kernel
theorem s174_38 {l0 l1 l2 l3 : Option Value} {x : Int32} {m : kMem} {Q : Option Value → kMem → Prop} : kJ 174 38 [l0, l1, l2, l3] [.int x] m Q = Q (some (.int x)) m := kJ_ret d174_38 rfl
theorem d175_0 : decode (mB 175) 0 = .ok (.lload_n 0, 1) := by decide +kernel
theorem s175_0 {l1 l2 l3 l4 l5 l6 l7 l8 l9 : Option Value} {st : List Value} {x : Int64} {m : kMem} {Q : Option Value → kMem → Prop} : kJ 175 0 [some (.long x), l1, l2, l3, l4, l5, l6, l7, l8, l9] st m Q = kJ 175 1 [some (.long x), l1, l2, l3, l4, l5, l6, l7, l8, l9] (.long x :: st) m Q := kJ_next d175_0 rfl
theorem d175_1 : decode (mB 175) 1 = .ok (.lstore 4, 2) := by decide +kernel
theorem s175_1 {l0 l1 l2 l3 l4 l5 l6 l7 l8 l9 : Option Value} {st : List Value} {x : Int64} {m : kMem} {Q : Option Value → kMem → Prop} (hp : kNL l3 = true) : kJ 175 1 [l0, l1, l2, l3, l4, l5, l6, l7, l8, l9] (.long x :: st) m Q = kJ 175 3 [l0, l1, l2, l3, some (.long x), none, l6, l7, l8, l9] st m Q := kJ_next d175_1 (kg_stl (Nat.le_of_ble_eq_true rfl) hp)
theorem d175_3 : decode (mB 175) 3 = .ok (.lload_n 2, 1) := by decide +kernel
theorem s175_3 {l0 l1 l3 l4 l5 l6 l7 l8 l9 : Option Value} {st : List Value} {x : Int64} {m : kMem} {Q : Option Value → kMem → Prop} : kJ 175 3 [l0, l1, some (.long x), l3, l4, l5, l6, l7, l8, l9] st m Q = kJ 175 4 [l0, l1, some (.long x), l3, l4, l5, l6, l7, l8, l9] (.long x :: st) m Q := kJ_next d175_3 rfl
theorem d175_4 : decode (mB 175) 4 = .ok (.lstore 6, 2) := by decide +kernel
theorem s175_4 {l0 l1 l2 l3 l4 l5 l6 l7 l8 l9 : Option Value} {st : List Value} {x : Int64} {m : kMem} {Q : Option Value → kMem → Prop} (hp : kNL l5 = true) : kJ 175 4 [l0, l1, l2, l3, l4, l5, l6, l7, l8, l9] (.long x :: st) m Q = kJ 175 6 [l0, l1, l2, l3, l4, l5, some (.long x), none, l8, l9] st m Q := kJ_next d175_4 (kg_stl (Nat.le_of_ble_eq_true rfl) hp)
theorem d175_6 : decode (mB 175) 6 = .ok (.lload 6, 2) := by decide +kernel
theorem s175_6 {l0 l1 l2 l3 l4 l5 l7 l8 l9 : Option Value} {st : List Value} {x : Int64} {m : kMem} {Q : Option Value → kMem → Prop} : kJ 175 6 [l0, l1, l2, l3, l4, l5, some (.long x), l7, l8, l9] st m Q = kJ 175 8 [l0, l1, l2, l3, l4, l5, some (.long x), l7, l8, l9] (.long x :: st) m Q := kJ_next d175_6 rfl
theorem d175_8 : decode (mB 175) 8 = .ok (.lconst 0, 1) := by decide +kernel
theorem s175_8 {l0 l1 l2 l3 l4 l5 l6 l7 l8 l9 : Option Value} {st : List Value} {m : kMem} {Q : Option Value → kMem → Prop} : kJ 175 8 [l0, l1, l2, l3, l4, l5, l6, l7, l8, l9] st m Q = kJ 175 9 [l0, l1, l2, l3, l4, l5, l6, l7, l8, l9] (.long 0 :: st) m Q := kJ_next d175_8 rfl
theorem d175_9 : decode (mB 175) 9 = .ok (.lcmp, 1) := by decide +kernel
theorem s175_9 {l0 l1 l2 l3 l4 l5 l6 l7 l8 l9 : Option Value} {st : List Value} {a b : Int64} {m : kMem} {Q : Option Value → kMem → Prop} : kJ 175 9 [l0, l1, l2, l3, l4, l5, l6, l7, l8, l9] (.long b :: .long a :: st) m Q = kJ 175 10 [l0, l1, l2, l3, l4, l5, l6, l7, l8, l9] (.int (lg_cmp a b) :: st) m Q := kJ_next d175_9 rfl
theorem d175_10 : decode (mB 175) 10 = .ok (.ifCond .eq 21, 3) := by decide +kernel
theorem s175_10 {l0 l1 l2 l3 l4 l5 l6 l7 l8 l9 : Option Value} {st : List Value} {a : Int32} {m : kMem} {Q : Option Value → kMem → Prop} : kJ 175 10 [l0, l1, l2, l3, l4, l5, l6, l7, l8, l9] (.int a :: st) m Q = (if a = 0 then kJ 175 31 [l0, l1, l2, l3, l4, l5, l6, l7, l8, l9] st m Q else kJ 175 13 [l0, l1, l2, l3, l4, l5, l6, l7, l8, l9] st m Q) := kJ_if d175_10 rfl (fun h => kJ_next d175_10 h) (fun h => kJ_next d175_10 h)
theorem d175_13 : decode (mB 175) 13 = .ok (.lload 4, 2) := by decide +kernel
theorem s175_13 {l0 l1 l2 l3 l5 l6 l7 l8 l9 : Option Value} {st : List Value} {x : Int64} {m : kMem} {Q : Option Value → kMem → Prop} : kJ 175 13 [l0, l1, l2, l3, some (.long x), l5, l6, l7, l8, l9] st m Q = kJ 175 15 [l0, l1, l2, l3, some (.long x), l5, l6, l7, l8, l9] (.long x :: st) m Q := kJ_next d175_13 rfl
theorem d175_15 : decode (mB 175) 15 = .ok (.lload 6, 2) := by decide +kernel
theorem s175_15 {l0 l1 l2 l3 l4 l5 l7 l8 l9 : Option Value} {st : List Value} {x : Int64} {m : kMem} {Q : Option Value → kMem → Prop} : kJ 175 15 [l0, l1, l2, l3, l4, l5, some (.long x), l7, l8, l9] st m Q = kJ 175 17 [l0, l1, l2, l3, l4, l5, some (.long x), l7, l8, l9] (.long x :: st) m Q := kJ_next d175_15 rfl
theorem d175_17 : decode (mB 175) 17 = .ok (.lrem, 1) := by decide +kernel
theorem s175_17 {l0 l1 l2 l3 l4 l5 l6 l7 l8 l9 : Option Value} {st : List Value} {a b : Int64} {m : kMem} {Q : Option Value → kMem → Prop} (hb : ¬ b = 0) : kJ 175 17 [l0, l1, l2, l3, l4, l5, l6, l7, l8, l9] (.long b :: .long a :: st) m Q = kJ 175 18 [l0, l1, l2, l3, l4, l5, l6, l7, l8, l9] (.long (a - a / b * b) :: st) m Q := kJ_next d175_17 (kg_lrem hb)
theorem d175_18 : decode (mB 175) 18 = .ok (.lstore 8, 2) := by decide +kernel
theorem s175_18 {l0 l1 l2 l3 l4 l5 l6 l7 l8 l9 : Option Value} {st : List Value} {x : Int64} {m : kMem} {Q : Option Value → kMem → Prop} (hp : kNL l7 = true) : kJ 175 18 [l0, l1, l2, l3, l4, l5, l6, l7, l8, l9] (.long x :: st) m Q = kJ 175 20 [l0, l1, l2, l3, l4, l5, l6, l7, some (.long x), none] st m Q := kJ_next d175_18 (kg_stl (Nat.le_of_ble_eq_true rfl) hp)
theorem d175_20 : decode (mB 175) 20 = .ok (.lload 6, 2) := by decide +kernel
theorem s175_20 {l0 l1 l2 l3 l4 l5 l7 l8 l9 : Option Value} {st : List Value} {x : Int64} {m : kMem} {Q : Option Value → kMem → Prop} : kJ 175 20 [l0, l1, l2, l3, l4, l5, some (.long x), l7, l8, l9] st m Q = kJ 175 22 [l0, l1, l2, l3, l4, l5, some (.long x), l7, l8, l9] (.long x :: st) m Q := kJ_next d175_20 rfl
theorem d175_22 : decode (mB 175) 22 = .ok (.lstore 4, 2) := by decide +kernel
theorem s175_22 {l0 l1 l2 l3 l4 l5 l6 l7 l8 l9 : Option Value} {st : List Value} {x : Int64} {m : kMem} {Q : Option Value → kMem → Prop} (hp : kNL l3 = true) : kJ 175 22 [l0, l1, l2, l3, l4, l5, l6, l7, l8, l9] (.long x :: st) m Q = kJ 175 24 [l0, l1, l2, l3, some (.long x), none, l6, l7, l8, l9] st m Q := kJ_next d175_22 (kg_stl (Nat.le_of_ble_eq_true rfl) hp)
theorem d175_24 : decode (mB 175) 24 = .ok (.lload 8, 2) := by decide +kernel
theorem s175_24 {l0 l1 l2 l3 l4 l5 l6 l7 l9 : Option Value} {st : List Value} {x : Int64} {m : kMem} {Q : Option Value → kMem → Prop} : kJ 175 24 [l0, l1, l2, l3, l4, l5, l6, l7, some (.long x), l9] st m Q = kJ 175 26 [l0, l1, l2, l3, l4, l5, l6, l7, some (.long x), l9] (.long x :: st) m Q := kJ_next d175_24 rfl
theorem d175_26 : decode (mB 175) 26 = .ok (.lstore 6, 2) := by decide +kernel
theorem s175_26 {l0 l1 l2 l3 l4 l5 l6 l7 l8 l9 : Option Value} {st : List Value} {x : Int64} {m : kMem} {Q : Option Value → kMem → Prop} (hp : kNL l5 = true) : kJ 175 26 [l0, l1, l2, l3, l4, l5, l6, l7, l8, l9] (.long x :: st) m Q = kJ 175 28 [l0, l1, l2, l3, l4, l5, some (.long x), none, l8, l9] st m Q := kJ_next d175_26 (kg_stl (Nat.le_of_ble_eq_true rfl) hp)
theorem d175_28 : decode (mB 175) 28 = .ok (.goto (-22), 3) := by decide +kernel
theorem s175_28 {l0 l1 l2 l3 l4 l5 l6 l7 l8 l9 : Option Value} {st : List Value} {m : kMem} {Q : Option Value → kMem → Prop} : kJ 175 28 [l0, l1, l2, l3, l4, l5, l6, l7, l8, l9] st m Q = kJ 175 6 [l0, l1, l2, l3, l4, l5, l6, l7, l8, l9] st m Q := kJ_next d175_28 rfl
theorem d175_31 : decode (mB 175) 31 = .ok (.lload 4, 2) := by decide +kernel
theorem s175_31 {l0 l1 l2 l3 l5 l6 l7 l8 l9 : Option Value} {st : List Value} {x : Int64} {m : kMem} {Q : Option Value → kMem → Prop} : kJ 175 31 [l0, l1, l2, l3, some (.long x), l5, l6, l7, l8, l9] st m Q = kJ 175 33 [l0, l1, l2, l3, some (.long x), l5, l6, l7, l8, l9] (.long x :: st) m Q := kJ_next d175_31 rfl
theorem d175_33 : decode (mB 175) 33 = .ok (.lreturn, 1) := by decide +kernel
theorem s175_33 {l0 l1 l2 l3 l4 l5 l6 l7 l8 l9 : Option Value} {x : Int64} {m : kMem} {Q : Option Value → kMem → Prop} : kJ 175 33 [l0, l1, l2, l3, l4, l5, l6, l7, l8, l9] [.long x] m Q = Q (some (.long x)) m := kJ_ret d175_33 rfl
theorem d176_0 : decode (mB 176) 0 = .ok (.lload_n 2, 1) := by decide +kernel
theorem s176_0 {l0 l1 l3 l4 l5 l6 : Option Value} {st : List Value} {x : Int64} {m : kMem} {Q : Option Value → kMem → Prop} : kJ 176 0 [l0, l1, some (.long x), l3, l4, l5, l6] st m Q = kJ 176 1 [l0, l1, some (.long x), l3, l4, l5, l6] (.long x :: st) m Q := kJ_next d176_0 rfl
theorem d176_1 : decode (mB 176) 1 = .ok (.lload_n 0, 1) := by decide +kernel
theorem s176_1 {l1 l2 l3 l4 l5 l6 : Option Value} {st : List Value} {x : Int64} {m : kMem} {Q : Option Value → kMem → Prop} : kJ 176 1 [some (.long x), l1, l2, l3, l4, l5, l6] st m Q = kJ 176 2 [some (.long x), l1, l2, l3, l4, l5, l6] (.long x :: st) m Q := kJ_next d176_1 rfl
theorem d176_2 : decode (mB 176) 2 = .ok (.invokestatic 261, 3) := by decide +kernel
theorem s176_2 {l0 l1 l2 l3 l4 l5 l6 : Option Value} {v0 : Int64} {v1 : Int64} {m : kMem} {Q : Option Value → kMem → Prop} : kJ 176 2 [l0, l1, l2, l3, l4, l5, l6] [.long v0, .long v1] m Q = kJ 175 0 [some (.long v1), none, some (.long v0), none, none, none, none, none, none, none] [] m (fun v m2 => kJ 176 5 [l0, l1, l2, l3, l4, l5, l6] (v.toList ++ []) m2 Q) := kJ_call d176_2 (kg_calls 175 2 rfl rfl (Nat.le_of_ble_eq_true rfl) (Nat.le_of_ble_eq_true rfl) (Nat.le_of_ble_eq_true rfl) (Nat.le_of_ble_eq_true rfl))
theorem d176_5 : decode (mB 176) 5 = .ok (.lstore 5, 2) := by decide +kernel
theorem s176_5 {l0 l1 l2 l3 l4 l5 l6 : Option Value} {st : List Value} {x : Int64} {m : kMem} {Q : Option Value → kMem → Prop} (hp : kNL l4 = true) : kJ 176 5 [l0, l1, l2, l3, l4, l5, l6] (.long x :: st) m Q = kJ 176 7 [l0, l1, l2, l3, l4, some (.long x), none] st m Q := kJ_next d176_5 (kg_stl (Nat.le_of_ble_eq_true rfl) hp)
theorem d176_7 : decode (mB 176) 7 = .ok (.iload 4, 2) := by decide +kernel
theorem s176_7 {l0 l1 l2 l3 l5 l6 : Option Value} {st : List Value} {x : Int32} {m : kMem} {Q : Option Value → kMem → Prop} : kJ 176 7 [l0, l1, l2, l3, some (.int x), l5, l6] st m Q = kJ 176 9 [l0, l1, l2, l3, some (.int x), l5, l6] (.int x :: st) m Q := kJ_next d176_7 rfl
theorem d176_9 : decode (mB 176) 9 = .ok (.ifCond .ne 10, 3) := by decide +kernel
theorem s176_9 {l0 l1 l2 l3 l4 l5 l6 : Option Value} {st : List Value} {a : Int32} {m : kMem} {Q : Option Value → kMem → Prop} : kJ 176 9 [l0, l1, l2, l3, l4, l5, l6] (.int a :: st) m Q = (if a = 0 then kJ 176 12 [l0, l1, l2, l3, l4, l5, l6] st m Q else kJ 176 19 [l0, l1, l2, l3, l4, l5, l6] st m Q) := kJ_if d176_9 rfl (fun h => kJ_next d176_9 h) (fun h => kJ_next d176_9 h)
theorem d176_12 : decode (mB 176) 12 = .ok (.lload_n 0, 1) := by decide +kernel
theorem s176_12 {l1 l2 l3 l4 l5 l6 : Option Value} {st : List Value} {x : Int64} {m : kMem} {Q : Option Value → kMem → Prop} : kJ 176 12 [some (.long x), l1, l2, l3, l4, l5, l6] st m Q = kJ 176 13 [some (.long x), l1, l2, l3, l4, l5, l6] (.long x :: st) m Q := kJ_next d176_12 rfl
theorem d176_13 : decode (mB 176) 13 = .ok (.lload 5, 2) := by decide +kernel
theorem s176_13 {l0 l1 l2 l3 l4 l6 : Option Value} {st : List Value} {x : Int64} {m : kMem} {Q : Option Value → kMem → Prop} : kJ 176 13 [l0, l1, l2, l3, l4, some (.long x), l6] st m Q = kJ 176 15 [l0, l1, l2, l3, l4, some (.long x), l6] (.long x :: st) m Q := kJ_next d176_13 rfl
theorem d176_15 : decode (mB 176) 15 = .ok (.ldiv, 1) := by decide +kernel
theorem s176_15 {l0 l1 l2 l3 l4 l5 l6 : Option Value} {st : List Value} {a b : Int64} {m : kMem} {Q : Option Value → kMem → Prop} (hb : ¬ b = 0) : kJ 176 15 [l0, l1, l2, l3, l4, l5, l6] (.long b :: .long a :: st) m Q = kJ 176 16 [l0, l1, l2, l3, l4, l5, l6] (.long (a / b) :: st) m Q := kJ_next d176_15 (kg_ldiv hb)
theorem d176_16 : decode (mB 176) 16 = .ok (.goto 7, 3) := by decide +kernel
theorem s176_16 {l0 l1 l2 l3 l4 l5 l6 : Option Value} {st : List Value} {m : kMem} {Q : Option Value → kMem → Prop} : kJ 176 16 [l0, l1, l2, l3, l4, l5, l6] st m Q = kJ 176 23 [l0, l1, l2, l3, l4, l5, l6] st m Q := kJ_next d176_16 rfl
theorem d176_19 : decode (mB 176) 19 = .ok (.lload_n 2, 1) := by decide +kernel
theorem s176_19 {l0 l1 l3 l4 l5 l6 : Option Value} {st : List Value} {x : Int64} {m : kMem} {Q : Option Value → kMem → Prop} : kJ 176 19 [l0, l1, some (.long x), l3, l4, l5, l6] st m Q = kJ 176 20 [l0, l1, some (.long x), l3, l4, l5, l6] (.long x :: st) m Q := kJ_next d176_19 rfl
theorem d176_20 : decode (mB 176) 20 = .ok (.lload 5, 2) := by decide +kernel
theorem s176_20 {l0 l1 l2 l3 l4 l6 : Option Value} {st : List Value} {x : Int64} {m : kMem} {Q : Option Value → kMem → Prop} : kJ 176 20 [l0, l1, l2, l3, l4, some (.long x), l6] st m Q = kJ 176 22 [l0, l1, l2, l3, l4, some (.long x), l6] (.long x :: st) m Q := kJ_next d176_20 rfl
theorem d176_22 : decode (mB 176) 22 = .ok (.ldiv, 1) := by decide +kernel
theorem s176_22 {l0 l1 l2 l3 l4 l5 l6 : Option Value} {st : List Value} {a b : Int64} {m : kMem} {Q : Option Value → kMem → Prop} (hb : ¬ b = 0) : kJ 176 22 [l0, l1, l2, l3, l4, l5, l6] (.long b :: .long a :: st) m Q = kJ 176 23 [l0, l1, l2, l3, l4, l5, l6] (.long (a / b) :: st) m Q := kJ_next d176_22 (kg_ldiv hb)
theorem d176_23 : decode (mB 176) 23 = .ok (.lreturn, 1) := by decide +kernel
theorem s176_23 {l0 l1 l2 l3 l4 l5 l6 : Option Value} {x : Int64} {m : kMem} {Q : Option Value → kMem → Prop} : kJ 176 23 [l0, l1, l2, l3, l4, l5, l6] [.long x] m Q = Q (some (.long x)) m := kJ_ret d176_23 rfl
theorem d177_0 : decode (mB 177) 0 = .ok (.aload_n 0, 1) := by decide +kernel
theorem s177_0 {l1 l2 l3 l4 l5 l6 l7 l8 : Option Value} {st : List Value} {x : Nat} {m : kMem} {Q : Option Value → kMem → Prop} : kJ 177 0 [some (.ref x), l1, l2, l3, l4, l5, l6, l7, l8] st m Q = kJ 177 1 [some (.ref x), l1, l2, l3, l4, l5, l6, l7, l8] (.ref x :: st) m Q := kJ_next d177_0 rfl
theorem d177_1 : decode (mB 177) 1 = .ok (.lconst 0, 1) := by decide +kernel
theorem s177_1 {l0 l1 l2 l3 l4 l5 l6 l7 l8 : Option Value} {st : List Value} {m : kMem} {Q : Option Value → kMem → Prop} : kJ 177 1 [l0, l1, l2, l3, l4, l5, l6, l7, l8] st m Q = kJ 177 2 [l0, l1, l2, l3, l4, l5, l6, l7, l8] (.long 0 :: st) m Q := kJ_next d177_1 rfl
theorem d177_2 : decode (mB 177) 2 = .ok (.putfield 265, 3) := by decide +kernel
theorem s177_2 {l0 l1 l2 l3 l4 l5 l6 l7 l8 : Option Value} {st : List Value} {q : Nat} {x : Int64} {mi : Nat → Nat → Int32} {ml : Nat → Nat → Int64} {mr : Nat → Nat → Option Nat} {nx : Nat} {Q : Option Value → kMem → Prop} (h : kIs nx q 5 = true) : kJ 177 2 [l0, l1, l2, l3, l4, l5, l6, l7, l8] (.long x :: .ref q :: st) (mi, ml, mr, nx) Q = kJ 177 5 [l0, l1, l2, l3, l4, l5, l6, l7, l8] st (mi, kupL ml q 18 x, mr, nx) Q := kJ_next d177_2 (kg_putl 5 18 rfl h (by decide) (by decide))
theorem d177_5 : decode (mB 177) 5 = .ok (.aload_n 0, 1) := by decide +kernel
theorem s177_5 {l1 l2 l3 l4 l5 l6 l7 l8 : Option Value} {st : List Value} {x : Nat} {m : kMem} {Q : Option Value → kMem → Prop} : kJ 177 5 [some (.ref x), l1, l2, l3, l4, l5, l6, l7, l8] st m Q = kJ 177 6 [some (.ref x), l1, l2, l3, l4, l5, l6, l7, l8] (.ref x :: st) m Q := kJ_next d177_5 rfl
theorem d177_6 : decode (mB 177) 6 = .ok (.lconst 0, 1) := by decide +kernel
theorem s177_6 {l0 l1 l2 l3 l4 l5 l6 l7 l8 : Option Value} {st : List Value} {m : kMem} {Q : Option Value → kMem → Prop} : kJ 177 6 [l0, l1, l2, l3, l4, l5, l6, l7, l8] st m Q = kJ 177 7 [l0, l1, l2, l3, l4, l5, l6, l7, l8] (.long 0 :: st) m Q := kJ_next d177_6 rfl
theorem d177_7 : decode (mB 177) 7 = .ok (.putfield 269, 3) := by decide +kernel
theorem s177_7 {l0 l1 l2 l3 l4 l5 l6 l7 l8 : Option Value} {st : List Value} {q : Nat} {x : Int64} {mi : Nat → Nat → Int32} {ml : Nat → Nat → Int64} {mr : Nat → Nat → Option Nat} {nx : Nat} {Q : Option Value → kMem → Prop} (h : kIs nx q 5 = true) : kJ 177 7 [l0, l1, l2, l3, l4, l5, l6, l7, l8] (.long x :: .ref q :: st) (mi, ml, mr, nx) Q = kJ 177 10 [l0, l1, l2, l3, l4, l5, l6, l7, l8] st (mi, kupL ml q 19 x, mr, nx) Q := kJ_next d177_7 (kg_putl 5 19 rfl h (by decide) (by decide))
theorem d177_10 : decode (mB 177) 10 = .ok (.aload_n 0, 1) := by decide +kernel
theorem s177_10 {l1 l2 l3 l4 l5 l6 l7 l8 : Option Value} {st : List Value} {x : Nat} {m : kMem} {Q : Option Value → kMem → Prop} : kJ 177 10 [some (.ref x), l1, l2, l3, l4, l5, l6, l7, l8] st m Q = kJ 177 11 [some (.ref x), l1, l2, l3, l4, l5, l6, l7, l8] (.ref x :: st) m Q := kJ_next d177_10 rfl
theorem d177_11 : decode (mB 177) 11 = .ok (.lconst 1, 1) := by decide +kernel
theorem s177_11 {l0 l1 l2 l3 l4 l5 l6 l7 l8 : Option Value} {st : List Value} {m : kMem} {Q : Option Value → kMem → Prop} : kJ 177 11 [l0, l1, l2, l3, l4, l5, l6, l7, l8] st m Q = kJ 177 12 [l0, l1, l2, l3, l4, l5, l6, l7, l8] (.long 1 :: st) m Q := kJ_next d177_11 rfl
theorem d177_12 : decode (mB 177) 12 = .ok (.putfield 272, 3) := by decide +kernel
theorem s177_12 {l0 l1 l2 l3 l4 l5 l6 l7 l8 : Option Value} {st : List Value} {q : Nat} {x : Int64} {mi : Nat → Nat → Int32} {ml : Nat → Nat → Int64} {mr : Nat → Nat → Option Nat} {nx : Nat} {Q : Option Value → kMem → Prop} (h : kIs nx q 5 = true) : kJ 177 12 [l0, l1, l2, l3, l4, l5, l6, l7, l8] (.long x :: .ref q :: st) (mi, ml, mr, nx) Q = kJ 177 15 [l0, l1, l2, l3, l4, l5, l6, l7, l8] st (mi, kupL ml q 20 x, mr, nx) Q := kJ_next d177_12 (kg_putl 5 20 rfl h (by decide) (by decide))
theorem d177_15 : decode (mB 177) 15 = .ok (.iconst 0, 1) := by decide +kernel
theorem s177_15 {l0 l1 l2 l3 l4 l5 l6 l7 l8 : Option Value} {st : List Value} {m : kMem} {Q : Option Value → kMem → Prop} : kJ 177 15 [l0, l1, l2, l3, l4, l5, l6, l7, l8] st m Q = kJ 177 16 [l0, l1, l2, l3, l4, l5, l6, l7, l8] (.int (nI 0) :: st) m Q := kJ_next d177_15 rfl
theorem d177_16 : decode (mB 177) 16 = .ok (.istore 4, 2) := by decide +kernel
theorem s177_16 {l0 l1 l2 l3 l4 l5 l6 l7 l8 : Option Value} {st : List Value} {x : Int32} {m : kMem} {Q : Option Value → kMem → Prop} (hp : kNL l3 = true) : kJ 177 16 [l0, l1, l2, l3, l4, l5, l6, l7, l8] (.int x :: st) m Q = kJ 177 18 [l0, l1, l2, l3, some (.int x), l5, l6, l7, l8] st m Q := kJ_next d177_16 (kg_sti (Nat.le_of_ble_eq_true rfl) hp)
theorem d177_18 : decode (mB 177) 18 = .ok (.iload 4, 2) := by decide +kernel
theorem s177_18 {l0 l1 l2 l3 l5 l6 l7 l8 : Option Value} {st : List Value} {x : Int32} {m : kMem} {Q : Option Value → kMem → Prop} : kJ 177 18 [l0, l1, l2, l3, some (.int x), l5, l6, l7, l8] st m Q = kJ 177 20 [l0, l1, l2, l3, some (.int x), l5, l6, l7, l8] (.int x :: st) m Q := kJ_next d177_18 rfl
theorem d177_20 : decode (mB 177) 20 = .ok (.iload_n 3, 1) := by decide +kernel
theorem s177_20 {l0 l1 l2 l4 l5 l6 l7 l8 : Option Value} {st : List Value} {x : Int32} {m : kMem} {Q : Option Value → kMem → Prop} : kJ 177 20 [l0, l1, l2, some (.int x), l4, l5, l6, l7, l8] st m Q = kJ 177 21 [l0, l1, l2, some (.int x), l4, l5, l6, l7, l8] (.int x :: st) m Q := kJ_next d177_20 rfl
theorem d177_21 : decode (mB 177) 21 = .ok (.if_icmp .ge 21, 3) := by decide +kernel
theorem s177_21 {l0 l1 l2 l3 l4 l5 l6 l7 l8 : Option Value} {st : List Value} {a b : Int32} {m : kMem} {Q : Option Value → kMem → Prop} : kJ 177 21 [l0, l1, l2, l3, l4, l5, l6, l7, l8] (.int b :: .int a :: st) m Q = (if b ≤ a then kJ 177 42 [l0, l1, l2, l3, l4, l5, l6, l7, l8] st m Q else kJ 177 24 [l0, l1, l2, l3, l4, l5, l6, l7, l8] st m Q) := kJ_if d177_21 rfl (fun h => kJ_next d177_21 h) (fun h => kJ_next d177_21 h)
theorem d177_24 : decode (mB 177) 24 = .ok (.aload_n 0, 1) := by decide +kernel
theorem s177_24 {l1 l2 l3 l4 l5 l6 l7 l8 : Option Value} {st : List Value} {x : Nat} {m : kMem} {Q : Option Value → kMem → Prop} : kJ 177 24 [some (.ref x), l1, l2, l3, l4, l5, l6, l7, l8] st m Q = kJ 177 25 [some (.ref x), l1, l2, l3, l4, l5, l6, l7, l8] (.ref x :: st) m Q := kJ_next d177_24 rfl
theorem d177_25 : decode (mB 177) 25 = .ok (.dup, 1) := by decide +kernel
theorem s177_25 {l0 l1 l2 l3 l4 l5 l6 l7 l8 : Option Value} {st : List Value} {a : Nat} {m : kMem} {Q : Option Value → kMem → Prop} : kJ 177 25 [l0, l1, l2, l3, l4, l5, l6, l7, l8] (.ref a :: st) m Q = kJ 177 26 [l0, l1, l2, l3, l4, l5, l6, l7, l8] (.ref a :: .ref a :: st) m Q := kJ_next d177_25 rfl
theorem d177_26 : decode (mB 177) 26 = .ok (.getfield 272, 3) := by decide +kernel
theorem s177_26 {l0 l1 l2 l3 l4 l5 l6 l7 l8 : Option Value} {st : List Value} {q : Nat} {mi : Nat → Nat → Int32} {ml : Nat → Nat → Int64} {mr : Nat → Nat → Option Nat} {nx : Nat} {Q : Option Value → kMem → Prop} (h : kIs nx q 5 = true) : kJ 177 26 [l0, l1, l2, l3, l4, l5, l6, l7, l8] (.ref q :: st) (mi, ml, mr, nx) Q = kJ 177 29 [l0, l1, l2, l3, l4, l5, l6, l7, l8] (.long (ml q 20) :: st) (mi, ml, mr, nx) Q := kJ_next d177_26 (kg_getl 5 20 rfl h (by decide))
theorem d177_29 : decode (mB 177) 29 = .ok (.ldc2_w 275, 3) := by decide +kernel
theorem s177_29 {l0 l1 l2 l3 l4 l5 l6 l7 l8 : Option Value} {st : List Value} {m : kMem} {Q : Option Value → kMem → Prop} : kJ 177 29 [l0, l1, l2, l3, l4, l5, l6, l7, l8] st m Q = kJ 177 32 [l0, l1, l2, l3, l4, l5, l6, l7, l8] (.long (10) :: st) m Q := kJ_next d177_29 rfl
theorem d177_32 : decode (mB 177) 32 = .ok (.lmul, 1) := by decide +kernel
theorem s177_32 {l0 l1 l2 l3 l4 l5 l6 l7 l8 : Option Value} {st : List Value} {a b : Int64} {m : kMem} {Q : Option Value → kMem → Prop} : kJ 177 32 [l0, l1, l2, l3, l4, l5, l6, l7, l8] (.long b :: .long a :: st) m Q = kJ 177 33 [l0, l1, l2, l3, l4, l5, l6, l7, l8] (.long (a * b) :: st) m Q := kJ_next d177_32 rfl
theorem d177_33 : decode (mB 177) 33 = .ok (.putfield 272, 3) := by decide +kernel
theorem s177_33 {l0 l1 l2 l3 l4 l5 l6 l7 l8 : Option Value} {st : List Value} {q : Nat} {x : Int64} {mi : Nat → Nat → Int32} {ml : Nat → Nat → Int64} {mr : Nat → Nat → Option Nat} {nx : Nat} {Q : Option Value → kMem → Prop} (h : kIs nx q 5 = true) : kJ 177 33 [l0, l1, l2, l3, l4, l5, l6, l7, l8] (.long x :: .ref q :: st) (mi, ml, mr, nx) Q = kJ 177 36 [l0, l1, l2, l3, l4, l5, l6, l7, l8] st (mi, kupL ml q 20 x, mr, nx) Q := kJ_next d177_33 (kg_putl 5 20 rfl h (by decide) (by decide))
theorem d177_36 : decode (mB 177) 36 = .ok (.iinc 4 1, 3) := by decide +kernel
theorem s177_36 {l0 l1 l2 l3 l5 l6 l7 l8 : Option Value} {st : List Value} {x : Int32} {m : kMem} {Q : Option Value → kMem → Prop} (hp : kNL l3 = true) : kJ 177 36 [l0, l1, l2, l3, some (.int x), l5, l6, l7, l8] st m Q = kJ 177 39 [l0, l1, l2, l3, some (.int (x + (nI 1))), l5, l6, l7, l8] st m Q := kJ_next d177_36 (kg_inc rfl (Nat.le_of_ble_eq_true rfl) hp)
theorem d177_39 : decode (mB 177) 39 = .ok (.goto (-21), 3) := by decide +kernel
theorem s177_39 {l0 l1 l2 l3 l4 l5 l6 l7 l8 : Option Value} {st : List Value} {m : kMem} {Q : Option Value → kMem → Prop} : kJ 177 39 [l0, l1, l2, l3, l4, l5, l6, l7, l8] st m Q = kJ 177 18 [l0, l1, l2, l3, l4, l5, l6, l7, l8] st m Q := kJ_next d177_39 rfl
theorem d177_42 : decode (mB 177) 42 = .ok (.iconst 0, 1) := by decide +kernel
theorem s177_42 {l0 l1 l2 l3 l4 l5 l6 l7 l8 : Option Value} {st : List Value} {m : kMem} {Q : Option Value → kMem → Prop} : kJ 177 42 [l0, l1, l2, l3, l4, l5, l6, l7, l8] st m Q = kJ 177 43 [l0, l1, l2, l3, l4, l5, l6, l7, l8] (.int (nI 0) :: st) m Q := kJ_next d177_42 rfl
theorem d177_43 : decode (mB 177) 43 = .ok (.istore 4, 2) := by decide +kernel
theorem s177_43 {l0 l1 l2 l3 l4 l5 l6 l7 l8 : Option Value} {st : List Value} {x : Int32} {m : kMem} {Q : Option Value → kMem → Prop} (hp : kNL l3 = true) : kJ 177 43 [l0, l1, l2, l3, l4, l5, l6, l7, l8] (.int x :: st) m Q = kJ 177 45 [l0, l1, l2, l3, some (.int x), l5, l6, l7, l8] st m Q := kJ_next d177_43 (kg_sti (Nat.le_of_ble_eq_true rfl) hp)
theorem d177_45 : decode (mB 177) 45 = .ok (.iload 4, 2) := by decide +kernel
theorem s177_45 {l0 l1 l2 l3 l5 l6 l7 l8 : Option Value} {st : List Value} {x : Int32} {m : kMem} {Q : Option Value → kMem → Prop} : kJ 177 45 [l0, l1, l2, l3, some (.int x), l5, l6, l7, l8] st m Q = kJ 177 47 [l0, l1, l2, l3, some (.int x), l5, l6, l7, l8] (.int x :: st) m Q := kJ_next d177_45 rfl
theorem d177_47 : decode (mB 177) 47 = .ok (.iconst 1, 1) := by decide +kernel
theorem s177_47 {l0 l1 l2 l3 l4 l5 l6 l7 l8 : Option Value} {st : List Value} {m : kMem} {Q : Option Value → kMem → Prop} : kJ 177 47 [l0, l1, l2, l3, l4, l5, l6, l7, l8] st m Q = kJ 177 48 [l0, l1, l2, l3, l4, l5, l6, l7, l8] (.int (nI 1) :: st) m Q := kJ_next d177_47 rfl
theorem d177_48 : decode (mB 177) 48 = .ok (.iload_n 3, 1) := by decide +kernel
theorem s177_48 {l0 l1 l2 l4 l5 l6 l7 l8 : Option Value} {st : List Value} {x : Int32} {m : kMem} {Q : Option Value → kMem → Prop} : kJ 177 48 [l0, l1, l2, some (.int x), l4, l5, l6, l7, l8] st m Q = kJ 177 49 [l0, l1, l2, some (.int x), l4, l5, l6, l7, l8] (.int x :: st) m Q := kJ_next d177_48 rfl
theorem d177_49 : decode (mB 177) 49 = .ok (.ishl, 1) := by decide +kernel
theorem s177_49 {l0 l1 l2 l3 l4 l5 l6 l7 l8 : Option Value} {st : List Value} {a b : Int32} {m : kMem} {Q : Option Value → kMem → Prop} : kJ 177 49 [l0, l1, l2, l3, l4, l5, l6, l7, l8] (.int b :: .int a :: st) m Q = kJ 177 50 [l0, l1, l2, l3, l4, l5, l6, l7, l8] (.int (a <<< (b &&& 31)) :: st) m Q := kJ_next d177_49 rfl
theorem d177_50 : decode (mB 177) 50 = .ok (.if_icmp .ge 131, 3) := by decide +kernel
theorem s177_50 {l0 l1 l2 l3 l4 l5 l6 l7 l8 : Option Value} {st : List Value} {a b : Int32} {m : kMem} {Q : Option Value → kMem → Prop} : kJ 177 50 [l0, l1, l2, l3, l4, l5, l6, l7, l8] (.int b :: .int a :: st) m Q = (if b ≤ a then kJ 177 181 [l0, l1, l2, l3, l4, l5, l6, l7, l8] st m Q else kJ 177 53 [l0, l1, l2, l3, l4, l5, l6, l7, l8] st m Q) := kJ_if d177_50 rfl (fun h => kJ_next d177_50 h) (fun h => kJ_next d177_50 h)
theorem d177_53 : decode (mB 177) 53 = .ok (.lconst 1, 1) := by decide +kernel
theorem s177_53 {l0 l1 l2 l3 l4 l5 l6 l7 l8 : Option Value} {st : List Value} {m : kMem} {Q : Option Value → kMem → Prop} : kJ 177 53 [l0, l1, l2, l3, l4, l5, l6, l7, l8] st m Q = kJ 177 54 [l0, l1, l2, l3, l4, l5, l6, l7, l8] (.long 1 :: st) m Q := kJ_next d177_53 rfl
theorem d177_54 : decode (mB 177) 54 = .ok (.lstore 5, 2) := by decide +kernel
theorem s177_54 {l0 l1 l2 l3 l4 l5 l6 l7 l8 : Option Value} {st : List Value} {x : Int64} {m : kMem} {Q : Option Value → kMem → Prop} (hp : kNL l4 = true) : kJ 177 54 [l0, l1, l2, l3, l4, l5, l6, l7, l8] (.long x :: st) m Q = kJ 177 56 [l0, l1, l2, l3, l4, some (.long x), none, l7, l8] st m Q := kJ_next d177_54 (kg_stl (Nat.le_of_ble_eq_true rfl) hp)
theorem d177_56 : decode (mB 177) 56 = .ok (.aload_n 0, 1) := by decide +kernel
theorem s177_56 {l1 l2 l3 l4 l5 l6 l7 l8 : Option Value} {st : List Value} {x : Nat} {m : kMem} {Q : Option Value → kMem → Prop} : kJ 177 56 [some (.ref x), l1, l2, l3, l4, l5, l6, l7, l8] st m Q = kJ 177 57 [some (.ref x), l1, l2, l3, l4, l5, l6, l7, l8] (.ref x :: st) m Q := kJ_next d177_56 rfl
theorem d177_57 : decode (mB 177) 57 = .ok (.invokevirtual 195, 3) := by decide +kernel
theorem s177_57 {l0 l1 l2 l3 l4 l5 l6 l7 l8 : Option Value} {v0 : Nat} {m : kMem} {Q : Option Value → kMem → Prop} (h : kIs m.2.2.2 v0 5 = true) : kJ 177 57 [l0, l1, l2, l3, l4, l5, l6, l7, l8] [.ref v0] m Q = kJ 130 0 [some (.ref v0), none] [] m (fun v m2 => kJ 177 60 [l0, l1, l2, l3, l4, l5, l6, l7, l8] (v.toList ++ []) m2 Q) := kJ_call d177_57 (kg_callv 130 0 rfl rfl rfl rfl (Nat.le_of_ble_eq_true rfl) (Nat.le_of_ble_eq_true rfl) (Nat.le_of_ble_eq_true rfl) h rfl)
theorem d177_60 : decode (mB 177) 60 = .ok (.iconst 0, 1) := by decide +kernel
theorem s177_60 {l0 l1 l2 l3 l4 l5 l6 l7 l8 : Option Value} {st : List Value} {m : kMem} {Q : Option Value → kMem → Prop} : kJ 177 60 [l0, l1, l2, l3, l4, l5, l6, l7, l8] st m Q = kJ 177 61 [l0, l1, l2, l3, l4, l5, l6, l7, l8] (.int (nI 0) :: st) m Q := kJ_next d177_60 rfl
theorem d177_61 : decode (mB 177) 61 = .ok (.istore 7, 2) := by decide +kernel
theorem s177_61 {l0 l1 l2 l3 l4 l5 l6 l7 l8 : Option Value} {st : List Value} {x : Int32} {m : kMem} {Q : Option Value → kMem → Prop} (hp : kNL l6 = true) : kJ 177 61 [l0, l1, l2, l3, l4, l5, l6, l7, l8] (.int x :: st) m Q = kJ 177 63 [l0, l1, l2, l3, l4, l5, l6, some (.int x), l8] st m Q := kJ_next d177_61 (kg_sti (Nat.le_of_ble_eq_true rfl) hp)
theorem d177_63 : decode (mB 177) 63 = .ok (.iload 7, 2) := by decide +kernel
theorem s177_63 {l0 l1 l2 l3 l4 l5 l6 l8 : Option Value} {st : List Value} {x : Int32} {m : kMem} {Q : Option Value → kMem → Prop} : kJ 177 63 [l0, l1, l2, l3, l4, l5, l6, some (.int x), l8] st m Q = kJ 177 65 [l0, l1, l2, l3, l4, l5, l6, some (.int x), l8] (.int x :: st) m Q := kJ_next d177_63 rfl
theorem d177_65 : decode (mB 177) 65 = .ok (.iload_n 3, 1) := by decide +kernel
theorem s177_65 {l0 l1 l2 l4 l5 l6 l7 l8 : Option Value} {st : List Value} {x : Int32} {m : kMem} {Q : Option Value → kMem → Prop} : kJ 177 65 [l0, l1, l2, some (.int x), l4, l5, l6, l7, l8] st m Q = kJ 177 66 [l0, l1, l2, some (.int x), l4, l5, l6, l7, l8] (.int x :: st) m Q := kJ_next d177_65 rfl
theorem d177_66 : decode (mB 177) 66 = .ok (.if_icmp .ge 61, 3) := by decide +kernel
theorem s177_66 {l0 l1 l2 l3 l4 l5 l6 l7 l8 : Option Value} {st : List Value} {a b : Int32} {m : kMem} {Q : Option Value → kMem → Prop} : kJ 177 66 [l0, l1, l2, l3, l4, l5, l6, l7, l8] (.int b :: .int a :: st) m Q = (if b ≤ a then kJ 177 127 [l0, l1, l2, l3, l4, l5, l6, l7, l8] st m Q else kJ 177 69 [l0, l1, l2, l3, l4, l5, l6, l7, l8] st m Q) := kJ_if d177_66 rfl (fun h => kJ_next d177_66 h) (fun h => kJ_next d177_66 h)
theorem d177_69 : decode (mB 177) 69 = .ok (.iload 4, 2) := by decide +kernel
theorem s177_69 {l0 l1 l2 l3 l5 l6 l7 l8 : Option Value} {st : List Value} {x : Int32} {m : kMem} {Q : Option Value → kMem → Prop} : kJ 177 69 [l0, l1, l2, l3, some (.int x), l5, l6, l7, l8] st m Q = kJ 177 71 [l0, l1, l2, l3, some (.int x), l5, l6, l7, l8] (.int x :: st) m Q := kJ_next d177_69 rfl
theorem d177_71 : decode (mB 177) 71 = .ok (.iload 7, 2) := by decide +kernel
theorem s177_71 {l0 l1 l2 l3 l4 l5 l6 l8 : Option Value} {st : List Value} {x : Int32} {m : kMem} {Q : Option Value → kMem → Prop} : kJ 177 71 [l0, l1, l2, l3, l4, l5, l6, some (.int x), l8] st m Q = kJ 177 73 [l0, l1, l2, l3, l4, l5, l6, some (.int x), l8] (.int x :: st) m Q := kJ_next d177_71 rfl
theorem d177_73 : decode (mB 177) 73 = .ok (.ishr, 1) := by decide +kernel
theorem s177_73 {l0 l1 l2 l3 l4 l5 l6 l7 l8 : Option Value} {st : List Value} {a b : Int32} {m : kMem} {Q : Option Value → kMem → Prop} : kJ 177 73 [l0, l1, l2, l3, l4, l5, l6, l7, l8] (.int b :: .int a :: st) m Q = kJ 177 74 [l0, l1, l2, l3, l4, l5, l6, l7, l8] (.int (a >>> (b &&& 31)) :: st) m Q := kJ_next d177_73 rfl
theorem d177_74 : decode (mB 177) 74 = .ok (.iconst 1, 1) := by decide +kernel
theorem s177_74 {l0 l1 l2 l3 l4 l5 l6 l7 l8 : Option Value} {st : List Value} {m : kMem} {Q : Option Value → kMem → Prop} : kJ 177 74 [l0, l1, l2, l3, l4, l5, l6, l7, l8] st m Q = kJ 177 75 [l0, l1, l2, l3, l4, l5, l6, l7, l8] (.int (nI 1) :: st) m Q := kJ_next d177_74 rfl
theorem d177_75 : decode (mB 177) 75 = .ok (.iand, 1) := by decide +kernel
theorem s177_75 {l0 l1 l2 l3 l4 l5 l6 l7 l8 : Option Value} {st : List Value} {a b : Int32} {m : kMem} {Q : Option Value → kMem → Prop} : kJ 177 75 [l0, l1, l2, l3, l4, l5, l6, l7, l8] (.int b :: .int a :: st) m Q = kJ 177 76 [l0, l1, l2, l3, l4, l5, l6, l7, l8] (.int (a &&& b) :: st) m Q := kJ_next d177_75 rfl
theorem d177_76 : decode (mB 177) 76 = .ok (.iconst 1, 1) := by decide +kernel
theorem s177_76 {l0 l1 l2 l3 l4 l5 l6 l7 l8 : Option Value} {st : List Value} {m : kMem} {Q : Option Value → kMem → Prop} : kJ 177 76 [l0, l1, l2, l3, l4, l5, l6, l7, l8] st m Q = kJ 177 77 [l0, l1, l2, l3, l4, l5, l6, l7, l8] (.int (nI 1) :: st) m Q := kJ_next d177_76 rfl
theorem d177_77 : decode (mB 177) 77 = .ok (.if_icmp .ne 7, 3) := by decide +kernel
theorem s177_77 {l0 l1 l2 l3 l4 l5 l6 l7 l8 : Option Value} {st : List Value} {a b : Int32} {m : kMem} {Q : Option Value → kMem → Prop} : kJ 177 77 [l0, l1, l2, l3, l4, l5, l6, l7, l8] (.int b :: .int a :: st) m Q = (if a = b then kJ 177 80 [l0, l1, l2, l3, l4, l5, l6, l7, l8] st m Q else kJ 177 84 [l0, l1, l2, l3, l4, l5, l6, l7, l8] st m Q) := kJ_if d177_77 rfl (fun h => kJ_next d177_77 h) (fun h => kJ_next d177_77 h)
theorem d177_80 : decode (mB 177) 80 = .ok (.iconst 1, 1) := by decide +kernel
theorem s177_80 {l0 l1 l2 l3 l4 l5 l6 l7 l8 : Option Value} {st : List Value} {m : kMem} {Q : Option Value → kMem → Prop} : kJ 177 80 [l0, l1, l2, l3, l4, l5, l6, l7, l8] st m Q = kJ 177 81 [l0, l1, l2, l3, l4, l5, l6, l7, l8] (.int (nI 1) :: st) m Q := kJ_next d177_80 rfl
theorem d177_81 : decode (mB 177) 81 = .ok (.goto 4, 3) := by decide +kernel
theorem s177_81 {l0 l1 l2 l3 l4 l5 l6 l7 l8 : Option Value} {st : List Value} {m : kMem} {Q : Option Value → kMem → Prop} : kJ 177 81 [l0, l1, l2, l3, l4, l5, l6, l7, l8] st m Q = kJ 177 85 [l0, l1, l2, l3, l4, l5, l6, l7, l8] st m Q := kJ_next d177_81 rfl
theorem d177_84 : decode (mB 177) 84 = .ok (.iconst 0, 1) := by decide +kernel
theorem s177_84 {l0 l1 l2 l3 l4 l5 l6 l7 l8 : Option Value} {st : List Value} {m : kMem} {Q : Option Value → kMem → Prop} : kJ 177 84 [l0, l1, l2, l3, l4, l5, l6, l7, l8] st m Q = kJ 177 85 [l0, l1, l2, l3, l4, l5, l6, l7, l8] (.int (nI 0) :: st) m Q := kJ_next d177_84 rfl
theorem d177_85 : decode (mB 177) 85 = .ok (.istore 8, 2) := by decide +kernel
theorem s177_85 {l0 l1 l2 l3 l4 l5 l6 l7 l8 : Option Value} {st : List Value} {x : Int32} {m : kMem} {Q : Option Value → kMem → Prop} (hp : kNL l7 = true) : kJ 177 85 [l0, l1, l2, l3, l4, l5, l6, l7, l8] (.int x :: st) m Q = kJ 177 87 [l0, l1, l2, l3, l4, l5, l6, l7, some (.int x)] st m Q := kJ_next d177_85 (kg_sti (Nat.le_of_ble_eq_true rfl) hp)
theorem d177_87 : decode (mB 177) 87 = .ok (.lload 5, 2) := by decide +kernel
theorem s177_87 {l0 l1 l2 l3 l4 l6 l7 l8 : Option Value} {st : List Value} {x : Int64} {m : kMem} {Q : Option Value → kMem → Prop} : kJ 177 87 [l0, l1, l2, l3, l4, some (.long x), l6, l7, l8] st m Q = kJ 177 89 [l0, l1, l2, l3, l4, some (.long x), l6, l7, l8] (.long x :: st) m Q := kJ_next d177_87 rfl
theorem d177_89 : decode (mB 177) 89 = .ok (.iload 8, 2) := by decide +kernel
theorem s177_89 {l0 l1 l2 l3 l4 l5 l6 l7 : Option Value} {st : List Value} {x : Int32} {m : kMem} {Q : Option Value → kMem → Prop} : kJ 177 89 [l0, l1, l2, l3, l4, l5, l6, l7, some (.int x)] st m Q = kJ 177 91 [l0, l1, l2, l3, l4, l5, l6, l7, some (.int x)] (.int x :: st) m Q := kJ_next d177_89 rfl
theorem d177_91 : decode (mB 177) 91 = .ok (.ifCond .eq 8, 3) := by decide +kernel
theorem s177_91 {l0 l1 l2 l3 l4 l5 l6 l7 l8 : Option Value} {st : List Value} {a : Int32} {m : kMem} {Q : Option Value → kMem → Prop} : kJ 177 91 [l0, l1, l2, l3, l4, l5, l6, l7, l8] (.int a :: st) m Q = (if a = 0 then kJ 177 99 [l0, l1, l2, l3, l4, l5, l6, l7, l8] st m Q else kJ 177 94 [l0, l1, l2, l3, l4, l5, l6, l7, l8] st m Q) := kJ_if d177_91 rfl (fun h => kJ_next d177_91 h) (fun h => kJ_next d177_91 h)
theorem d177_94 : decode (mB 177) 94 = .ok (.iload_n 1, 1) := by decide +kernel
theorem s177_94 {l0 l2 l3 l4 l5 l6 l7 l8 : Option Value} {st : List Value} {x : Int32} {m : kMem} {Q : Option Value → kMem → Prop} : kJ 177 94 [l0, some (.int x), l2, l3, l4, l5, l6, l7, l8] st m Q = kJ 177 95 [l0, some (.int x), l2, l3, l4, l5, l6, l7, l8] (.int x :: st) m Q := kJ_next d177_94 rfl
theorem d177_95 : decode (mB 177) 95 = .ok (.i2l, 1) := by decide +kernel
theorem s177_95 {l0 l1 l2 l3 l4 l5 l6 l7 l8 : Option Value} {st : List Value} {a : Int32} {m : kMem} {Q : Option Value → kMem → Prop} : kJ 177 95 [l0, l1, l2, l3, l4, l5, l6, l7, l8] (.int a :: st) m Q = kJ 177 96 [l0, l1, l2, l3, l4, l5, l6, l7, l8] (.long a.toInt64 :: st) m Q := kJ_next d177_95 rfl
theorem d177_96 : decode (mB 177) 96 = .ok (.goto 8, 3) := by decide +kernel
theorem s177_96 {l0 l1 l2 l3 l4 l5 l6 l7 l8 : Option Value} {st : List Value} {m : kMem} {Q : Option Value → kMem → Prop} : kJ 177 96 [l0, l1, l2, l3, l4, l5, l6, l7, l8] st m Q = kJ 177 104 [l0, l1, l2, l3, l4, l5, l6, l7, l8] st m Q := kJ_next d177_96 rfl
theorem d177_99 : decode (mB 177) 99 = .ok (.bipush 10, 2) := by decide +kernel
theorem s177_99 {l0 l1 l2 l3 l4 l5 l6 l7 l8 : Option Value} {st : List Value} {m : kMem} {Q : Option Value → kMem → Prop} : kJ 177 99 [l0, l1, l2, l3, l4, l5, l6, l7, l8] st m Q = kJ 177 101 [l0, l1, l2, l3, l4, l5, l6, l7, l8] (.int (nI 10) :: st) m Q := kJ_next d177_99 rfl
theorem d177_101 : decode (mB 177) 101 = .ok (.iload_n 1, 1) := by decide +kernel
theorem s177_101 {l0 l2 l3 l4 l5 l6 l7 l8 : Option Value} {st : List Value} {x : Int32} {m : kMem} {Q : Option Value → kMem → Prop} : kJ 177 101 [l0, some (.int x), l2, l3, l4, l5, l6, l7, l8] st m Q = kJ 177 102 [l0, some (.int x), l2, l3, l4, l5, l6, l7, l8] (.int x :: st) m Q := kJ_next d177_101 rfl
theorem d177_102 : decode (mB 177) 102 = .ok (.isub, 1) := by decide +kernel
theorem s177_102 {l0 l1 l2 l3 l4 l5 l6 l7 l8 : Option Value} {st : List Value} {a b : Int32} {m : kMem} {Q : Option Value → kMem → Prop} : kJ 177 102 [l0, l1, l2, l3, l4, l5, l6, l7, l8] (.int b :: .int a :: st) m Q = kJ 177 103 [l0, l1, l2, l3, l4, l5, l6, l7, l8] (.int (a - b) :: st) m Q := kJ_next d177_102 rfl
theorem d177_103 : decode (mB 177) 103 = .ok (.i2l, 1) := by decide +kernel
theorem s177_103 {l0 l1 l2 l3 l4 l5 l6 l7 l8 : Option Value} {st : List Value} {a : Int32} {m : kMem} {Q : Option Value → kMem → Prop} : kJ 177 103 [l0, l1, l2, l3, l4, l5, l6, l7, l8] (.int a :: st) m Q = kJ 177 104 [l0, l1, l2, l3, l4, l5, l6, l7, l8] (.long a.toInt64 :: st) m Q := kJ_next d177_103 rfl
theorem d177_104 : decode (mB 177) 104 = .ok (.lmul, 1) := by decide +kernel
theorem s177_104 {l0 l1 l2 l3 l4 l5 l6 l7 l8 : Option Value} {st : List Value} {a b : Int64} {m : kMem} {Q : Option Value → kMem → Prop} : kJ 177 104 [l0, l1, l2, l3, l4, l5, l6, l7, l8] (.long b :: .long a :: st) m Q = kJ 177 105 [l0, l1, l2, l3, l4, l5, l6, l7, l8] (.long (a * b) :: st) m Q := kJ_next d177_104 rfl
theorem d177_105 : decode (mB 177) 105 = .ok (.lstore 5, 2) := by decide +kernel
theorem s177_105 {l0 l1 l2 l3 l4 l5 l6 l7 l8 : Option Value} {st : List Value} {x : Int64} {m : kMem} {Q : Option Value → kMem → Prop} (hp : kNL l4 = true) : kJ 177 105 [l0, l1, l2, l3, l4, l5, l6, l7, l8] (.long x :: st) m Q = kJ 177 107 [l0, l1, l2, l3, l4, some (.long x), none, l7, l8] st m Q := kJ_next d177_105 (kg_stl (Nat.le_of_ble_eq_true rfl) hp)
theorem d177_107 : decode (mB 177) 107 = .ok (.aload_n 0, 1) := by decide +kernel
theorem s177_107 {l1 l2 l3 l4 l5 l6 l7 l8 : Option Value} {st : List Value} {x : Nat} {m : kMem} {Q : Option Value → kMem → Prop} : kJ 177 107 [some (.ref x), l1, l2, l3, l4, l5, l6, l7, l8] st m Q = kJ 177 108 [some (.ref x), l1, l2, l3, l4, l5, l6, l7, l8] (.ref x :: st) m Q := kJ_next d177_107 rfl
theorem d177_108 : decode (mB 177) 108 = .ok (.iload 8, 2) := by decide +kernel
theorem s177_108 {l0 l1 l2 l3 l4 l5 l6 l7 : Option Value} {st : List Value} {x : Int32} {m : kMem} {Q : Option Value → kMem → Prop} : kJ 177 108 [l0, l1, l2, l3, l4, l5, l6, l7, some (.int x)] st m Q = kJ 177 110 [l0, l1, l2, l3, l4, l5, l6, l7, some (.int x)] (.int x :: st) m Q := kJ_next d177_108 rfl
theorem d177_110 : decode (mB 177) 110 = .ok (.ifCond .ne 7, 3) := by decide +kernel
theorem s177_110 {l0 l1 l2 l3 l4 l5 l6 l7 l8 : Option Value} {st : List Value} {a : Int32} {m : kMem} {Q : Option Value → kMem → Prop} : kJ 177 110 [l0, l1, l2, l3, l4, l5, l6, l7, l8] (.int a :: st) m Q = (if a = 0 then kJ 177 113 [l0, l1, l2, l3, l4, l5, l6, l7, l8] st m Q else kJ 177 117 [l0, l1, l2, l3, l4, l5, l6, l7, l8] st m Q) := kJ_if d177_110 rfl (fun h => kJ_next d177_110 h) (fun h => kJ_next d177_110 h)
theorem d177_113 : decode (mB 177) 113 = .ok (.iconst 1, 1) := by decide +kernel
theorem s177_113 {l0 l1 l2 l3 l4 l5 l6 l7 l8 : Option Value} {st : List Value} {m : kMem} {Q : Option Value → kMem → Prop} : kJ 177 113 [l0, l1, l2, l3, l4, l5, l6, l7, l8] st m Q = kJ 177 114 [l0, l1, l2, l3, l4, l5, l6, l7, l8] (.int (nI 1) :: st) m Q := kJ_next d177_113 rfl
theorem d177_114 : decode (mB 177) 114 = .ok (.goto 4, 3) := by decide +kernel
theorem s177_114 {l0 l1 l2 l3 l4 l5 l6 l7 l8 : Option Value} {st : List Value} {m : kMem} {Q : Option Value → kMem → Prop} : kJ 177 114 [l0, l1, l2, l3, l4, l5, l6, l7, l8] st m Q = kJ 177 118 [l0, l1, l2, l3, l4, l5, l6, l7, l8] st m Q := kJ_next d177_114 rfl
theorem d177_117 : decode (mB 177) 117 = .ok (.iconst 0, 1) := by decide +kernel
theorem s177_117 {l0 l1 l2 l3 l4 l5 l6 l7 l8 : Option Value} {st : List Value} {m : kMem} {Q : Option Value → kMem → Prop} : kJ 177 117 [l0, l1, l2, l3, l4, l5, l6, l7, l8] st m Q = kJ 177 118 [l0, l1, l2, l3, l4, l5, l6, l7, l8] (.int (nI 0) :: st) m Q := kJ_next d177_117 rfl
theorem d177_118 : decode (mB 177) 118 = .ok (.invokevirtual 181, 3) := by decide +kernel
theorem s177_118 {l0 l1 l2 l3 l4 l5 l6 l7 l8 : Option Value} {v0 : Int32} {v1 : Nat} {m : kMem} {Q : Option Value → kMem → Prop} (h : kIs m.2.2.2 v1 5 = true) : kJ 177 118 [l0, l1, l2, l3, l4, l5, l6, l7, l8] [.int v0, .ref v1] m Q = kJ 144 0 [some (.ref v1), some (.int v0), none] [] m (fun v m2 => kJ 177 121 [l0, l1, l2, l3, l4, l5, l6, l7, l8] (v.toList ++ []) m2 Q) := kJ_call d177_118 (kg_callv 144 1 rfl rfl rfl rfl (Nat.le_of_ble_eq_true rfl) (Nat.le_of_ble_eq_true rfl) (Nat.le_of_ble_eq_true rfl) h rfl)
theorem d177_121 : decode (mB 177) 121 = .ok (.iinc 7 1, 3) := by decide +kernel
theorem s177_121 {l0 l1 l2 l3 l4 l5 l6 l8 : Option Value} {st : List Value} {x : Int32} {m : kMem} {Q : Option Value → kMem → Prop} (hp : kNL l6 = true) : kJ 177 121 [l0, l1, l2, l3, l4, l5, l6, some (.int x), l8] st m Q = kJ 177 124 [l0, l1, l2, l3, l4, l5, l6, some (.int (x + (nI 1))), l8] st m Q := kJ_next d177_121 (kg_inc rfl (Nat.le_of_ble_eq_true rfl) hp)
theorem d177_124 : decode (mB 177) 124 = .ok (.goto (-61), 3) := by decide +kernel
theorem s177_124 {l0 l1 l2 l3 l4 l5 l6 l7 l8 : Option Value} {st : List Value} {m : kMem} {Q : Option Value → kMem → Prop} : kJ 177 124 [l0, l1, l2, l3, l4, l5, l6, l7, l8] st m Q = kJ 177 63 [l0, l1, l2, l3, l4, l5, l6, l7, l8] st m Q := kJ_next d177_124 rfl
theorem d177_127 : decode (mB 177) 127 = .ok (.aload_n 0, 1) := by decide +kernel
theorem s177_127 {l1 l2 l3 l4 l5 l6 l7 l8 : Option Value} {st : List Value} {x : Nat} {m : kMem} {Q : Option Value → kMem → Prop} : kJ 177 127 [some (.ref x), l1, l2, l3, l4, l5, l6, l7, l8] st m Q = kJ 177 128 [some (.ref x), l1, l2, l3, l4, l5, l6, l7, l8] (.ref x :: st) m Q := kJ_next d177_127 rfl
theorem d177_128 : decode (mB 177) 128 = .ok (.dup, 1) := by decide +kernel
theorem s177_128 {l0 l1 l2 l3 l4 l5 l6 l7 l8 : Option Value} {st : List Value} {a : Nat} {m : kMem} {Q : Option Value → kMem → Prop} : kJ 177 128 [l0, l1, l2, l3, l4, l5, l6, l7, l8] (.ref a :: st) m Q = kJ 177 129 [l0, l1, l2, l3, l4, l5, l6, l7, l8] (.ref a :: .ref a :: st) m Q := kJ_next d177_128 rfl
theorem d177_129 : decode (mB 177) 129 = .ok (.getfield 265, 3) := by decide +kernel
theorem s177_129 {l0 l1 l2 l3 l4 l5 l6 l7 l8 : Option Value} {st : List Value} {q : Nat} {mi : Nat → Nat → Int32} {ml : Nat → Nat → Int64} {mr : Nat → Nat → Option Nat} {nx : Nat} {Q : Option Value → kMem → Prop} (h : kIs nx q 5 = true) : kJ 177 129 [l0, l1, l2, l3, l4, l5, l6, l7, l8] (.ref q :: st) (mi, ml, mr, nx) Q = kJ 177 132 [l0, l1, l2, l3, l4, l5, l6, l7, l8] (.long (ml q 18) :: st) (mi, ml, mr, nx) Q := kJ_next d177_129 (kg_getl 5 18 rfl h (by decide))
theorem d177_132 : decode (mB 177) 132 = .ok (.iload_n 2, 1) := by decide +kernel
theorem s177_132 {l0 l1 l3 l4 l5 l6 l7 l8 : Option Value} {st : List Value} {x : Int32} {m : kMem} {Q : Option Value → kMem → Prop} : kJ 177 132 [l0, l1, some (.int x), l3, l4, l5, l6, l7, l8] st m Q = kJ 177 133 [l0, l1, some (.int x), l3, l4, l5, l6, l7, l8] (.int x :: st) m Q := kJ_next d177_132 rfl
theorem d177_133 : decode (mB 177) 133 = .ok (.bipush (-4), 2) := by decide +kernel
theorem s177_133 {l0 l1 l2 l3 l4 l5 l6 l7 l8 : Option Value} {st : List Value} {m : kMem} {Q : Option Value → kMem → Prop} : kJ 177 133 [l0, l1, l2, l3, l4, l5, l6, l7, l8] st m Q = kJ 177 135 [l0, l1, l2, l3, l4, l5, l6, l7, l8] (.int (-4) :: st) m Q := kJ_next d177_133 rfl
theorem d177_135 : decode (mB 177) 135 = .ok (.if_icmp .eq 18, 3) := by decide +kernel
theorem s177_135 {l0 l1 l2 l3 l4 l5 l6 l7 l8 : Option Value} {st : List Value} {a b : Int32} {m : kMem} {Q : Option Value → kMem → Prop} : kJ 177 135 [l0, l1, l2, l3, l4, l5, l6, l7, l8] (.int b :: .int a :: st) m Q = (if a = b then kJ 177 153 [l0, l1, l2, l3, l4, l5, l6, l7, l8] st m Q else kJ 177 138 [l0, l1, l2, l3, l4, l5, l6, l7, l8] st m Q) := kJ_if d177_135 rfl (fun h => kJ_next d177_135 h) (fun h => kJ_next d177_135 h)
theorem d177_138 : decode (mB 177) 138 = .ok (.aload_n 0, 1) := by decide +kernel
theorem s177_138 {l1 l2 l3 l4 l5 l6 l7 l8 : Option Value} {st : List Value} {x : Nat} {m : kMem} {Q : Option Value → kMem → Prop} : kJ 177 138 [some (.ref x), l1, l2, l3, l4, l5, l6, l7, l8] st m Q = kJ 177 139 [some (.ref x), l1, l2, l3, l4, l5, l6, l7, l8] (.ref x :: st) m Q := kJ_next d177_138 rfl
theorem d177_139 : decode (mB 177) 139 = .ok (.iload_n 2, 1) := by decide +kernel
theorem s177_139 {l0 l1 l3 l4 l5 l6 l7 l8 : Option Value} {st : List Value} {x : Int32} {m : kMem} {Q : Option Value → kMem → Prop} : kJ 177 139 [l0, l1, some (.int x), l3, l4, l5, l6, l7, l8] st m Q = kJ 177 140 [l0, l1, some (.int x), l3, l4, l5, l6, l7, l8] (.int x :: st) m Q := kJ_next d177_139 rfl
theorem d177_140 : decode (mB 177) 140 = .ok (.iconst 5, 1) := by decide +kernel
theorem s177_140 {l0 l1 l2 l3 l4 l5 l6 l7 l8 : Option Value} {st : List Value} {m : kMem} {Q : Option Value → kMem → Prop} : kJ 177 140 [l0, l1, l2, l3, l4, l5, l6, l7, l8] st m Q = kJ 177 141 [l0, l1, l2, l3, l4, l5, l6, l7, l8] (.int (nI 5) :: st) m Q := kJ_next d177_140 rfl
theorem d177_141 : decode (mB 177) 141 = .ok (.invokevirtual 141, 3) := by decide +kernel
theorem s177_141 {l0 l1 l2 l3 l4 l5 l6 l7 l8 : Option Value} {v0 : Int32} {v1 : Int32} {v2 : Nat} {v3 : Int64} {v4 : Nat} {m : kMem} {Q : Option Value → kMem → Prop} (h : kIs m.2.2.2 v2 5 = true) : kJ 177 141 [l0, l1, l2, l3, l4, l5, l6, l7, l8] [.int v0, .int v1, .ref v2, .long v3, .ref v4] m Q = kJ 134 0 [some (.ref v2), some (.int v1), some (.int v0)] [] m (fun v m2 => kJ 177 144 [l0, l1, l2, l3, l4, l5, l6, l7, l8] (v.toList ++ [.long v3, .ref v4]) m2 Q) := kJ_call d177_141 (kg_callv 134 2 rfl rfl rfl rfl (Nat.le_of_ble_eq_true rfl) (Nat.le_of_ble_eq_true rfl) (Nat.le_of_ble_eq_true rfl) h rfl)
theorem d177_144 : decode (mB 177) 144 = .ok (.iconst 2, 1) := by decide +kernel
theorem s177_144 {l0 l1 l2 l3 l4 l5 l6 l7 l8 : Option Value} {st : List Value} {m : kMem} {Q : Option Value → kMem → Prop} : kJ 177 144 [l0, l1, l2, l3, l4, l5, l6, l7, l8] st m Q = kJ 177 145 [l0, l1, l2, l3, l4, l5, l6, l7, l8] (.int (nI 2) :: st) m Q := kJ_next d177_144 rfl
theorem d177_145 : decode (mB 177) 145 = .ok (.if_icmp .ne 8, 3) := by decide +kernel
theorem s177_145 {l0 l1 l2 l3 l4 l5 l6 l7 l8 : Option Value} {st : List Value} {a b : Int32} {m : kMem} {Q : Option Value → kMem → Prop} : kJ 177 145 [l0, l1, l2, l3, l4, l5, l6, l7, l8] (.int b :: .int a :: st) m Q = (if a = b then kJ 177 148 [l0, l1, l2, l3, l4, l5, l6, l7, l8] st m Q else kJ 177 153 [l0, l1, l2, l3, l4, l5, l6, l7, l8] st m Q) := kJ_if d177_145 rfl (fun h => kJ_next d177_145 h) (fun h => kJ_next d177_145 h)
theorem d177_148 : decode (mB 177) 148 = .ok (.lload 5, 2) := by decide +kernel
theorem s177_148 {l0 l1 l2 l3 l4 l6 l7 l8 : Option Value} {st : List Value} {x : Int64} {m : kMem} {Q : Option Value → kMem → Prop} : kJ 177 148 [l0, l1, l2, l3, l4, some (.long x), l6, l7, l8] st m Q = kJ 177 150 [l0, l1, l2, l3, l4, some (.long x), l6, l7, l8] (.long x :: st) m Q := kJ_next d177_148 rfl
theorem d177_150 : decode (mB 177) 150 = .ok (.goto 4, 3) := by decide +kernel
theorem s177_150 {l0 l1 l2 l3 l4 l5 l6 l7 l8 : Option Value} {st : List Value} {m : kMem} {Q : Option Value → kMem → Prop} : kJ 177 150 [l0, l1, l2, l3, l4, l5, l6, l7, l8] st m Q = kJ 177 154 [l0, l1, l2, l3, l4, l5, l6, l7, l8] st m Q := kJ_next d177_150 rfl
theorem d177_153 : decode (mB 177) 153 = .ok (.lconst 0, 1) := by decide +kernel
theorem s177_153 {l0 l1 l2 l3 l4 l5 l6 l7 l8 : Option Value} {st : List Value} {m : kMem} {Q : Option Value → kMem → Prop} : kJ 177 153 [l0, l1, l2, l3, l4, l5, l6, l7, l8] st m Q = kJ 177 154 [l0, l1, l2, l3, l4, l5, l6, l7, l8] (.long 0 :: st) m Q := kJ_next d177_153 rfl
theorem d177_154 : decode (mB 177) 154 = .ok (.ladd, 1) := by decide +kernel
theorem s177_154 {l0 l1 l2 l3 l4 l5 l6 l7 l8 : Option Value} {st : List Value} {a b : Int64} {m : kMem} {Q : Option Value → kMem → Prop} : kJ 177 154 [l0, l1, l2, l3, l4, l5, l6, l7, l8] (.long b :: .long a :: st) m Q = kJ 177 155 [l0, l1, l2, l3, l4, l5, l6, l7, l8] (.long (a + b) :: st) m Q := kJ_next d177_154 rfl
theorem d177_155 : decode (mB 177) 155 = .ok (.putfield 265, 3) := by decide +kernel
theorem s177_155 {l0 l1 l2 l3 l4 l5 l6 l7 l8 : Option Value} {st : List Value} {q : Nat} {x : Int64} {mi : Nat → Nat → Int32} {ml : Nat → Nat → Int64} {mr : Nat → Nat → Option Nat} {nx : Nat} {Q : Option Value → kMem → Prop} (h : kIs nx q 5 = true) : kJ 177 155 [l0, l1, l2, l3, l4, l5, l6, l7, l8] (.long x :: .ref q :: st) (mi, ml, mr, nx) Q = kJ 177 158 [l0, l1, l2, l3, l4, l5, l6, l7, l8] st (mi, kupL ml q 18 x, mr, nx) Q := kJ_next d177_155 (kg_putl 5 18 rfl h (by decide) (by decide))
theorem d177_158 : decode (mB 177) 158 = .ok (.aload_n 0, 1) := by decide +kernel
theorem s177_158 {l1 l2 l3 l4 l5 l6 l7 l8 : Option Value} {st : List Value} {x : Nat} {m : kMem} {Q : Option Value → kMem → Prop} : kJ 177 158 [some (.ref x), l1, l2, l3, l4, l5, l6, l7, l8] st m Q = kJ 177 159 [some (.ref x), l1, l2, l3, l4, l5, l6, l7, l8] (.ref x :: st) m Q := kJ_next d177_158 rfl
theorem d177_159 : decode (mB 177) 159 = .ok (.dup, 1) := by decide +kernel
theorem s177_159 {l0 l1 l2 l3 l4 l5 l6 l7 l8 : Option Value} {st : List Value} {a : Nat} {m : kMem} {Q : Option Value → kMem → Prop} : kJ 177 159 [l0, l1, l2, l3, l4, l5, l6, l7, l8] (.ref a :: st) m Q = kJ 177 160 [l0, l1, l2, l3, l4, l5, l6, l7, l8] (.ref a :: .ref a :: st) m Q := kJ_next d177_159 rfl
theorem d177_160 : decode (mB 177) 160 = .ok (.getfield 269, 3) := by decide +kernel
theorem s177_160 {l0 l1 l2 l3 l4 l5 l6 l7 l8 : Option Value} {st : List Value} {q : Nat} {mi : Nat → Nat → Int32} {ml : Nat → Nat → Int64} {mr : Nat → Nat → Option Nat} {nx : Nat} {Q : Option Value → kMem → Prop} (h : kIs nx q 5 = true) : kJ 177 160 [l0, l1, l2, l3, l4, l5, l6, l7, l8] (.ref q :: st) (mi, ml, mr, nx) Q = kJ 177 163 [l0, l1, l2, l3, l4, l5, l6, l7, l8] (.long (ml q 19) :: st) (mi, ml, mr, nx) Q := kJ_next d177_160 (kg_getl 5 19 rfl h (by decide))
theorem d177_163 : decode (mB 177) 163 = .ok (.lload 5, 2) := by decide +kernel
theorem s177_163 {l0 l1 l2 l3 l4 l6 l7 l8 : Option Value} {st : List Value} {x : Int64} {m : kMem} {Q : Option Value → kMem → Prop} : kJ 177 163 [l0, l1, l2, l3, l4, some (.long x), l6, l7, l8] st m Q = kJ 177 165 [l0, l1, l2, l3, l4, some (.long x), l6, l7, l8] (.long x :: st) m Q := kJ_next d177_163 rfl
theorem d177_165 : decode (mB 177) 165 = .ok (.aload_n 0, 1) := by decide +kernel
theorem s177_165 {l1 l2 l3 l4 l5 l6 l7 l8 : Option Value} {st : List Value} {x : Nat} {m : kMem} {Q : Option Value → kMem → Prop} : kJ 177 165 [some (.ref x), l1, l2, l3, l4, l5, l6, l7, l8] st m Q = kJ 177 166 [some (.ref x), l1, l2, l3, l4, l5, l6, l7, l8] (.ref x :: st) m Q := kJ_next d177_165 rfl
theorem d177_166 : decode (mB 177) 166 = .ok (.invokevirtual 188, 3) := by decide +kernel
theorem s177_166 {l0 l1 l2 l3 l4 l5 l6 l7 l8 : Option Value} {v0 : Nat} {v1 : Int64} {v2 : Int64} {v3 : Nat} {m : kMem} {Q : Option Value → kMem → Prop} (h : kIs m.2.2.2 v0 5 = true) : kJ 177 166 [l0, l1, l2, l3, l4, l5, l6, l7, l8] [.ref v0, .long v1, .long v2, .ref v3] m Q = kJ 146 0 [some (.ref v0), none, none] [] m (fun v m2 => kJ 177 169 [l0, l1, l2, l3, l4, l5, l6, l7, l8] (v.toList ++ [.long v1, .long v2, .ref v3]) m2 Q) := kJ_call d177_166 (kg_callv 146 0 rfl rfl rfl rfl (Nat.le_of_ble_eq_true rfl) (Nat.le_of_ble_eq_true rfl) (Nat.le_of_ble_eq_true rfl) h rfl)
theorem d177_169 : decode (mB 177) 169 = .ok (.i2l, 1) := by decide +kernel
theorem s177_169 {l0 l1 l2 l3 l4 l5 l6 l7 l8 : Option Value} {st : List Value} {a : Int32} {m : kMem} {Q : Option Value → kMem → Prop} : kJ 177 169 [l0, l1, l2, l3, l4, l5, l6, l7, l8] (.int a :: st) m Q = kJ 177 170 [l0, l1, l2, l3, l4, l5, l6, l7, l8] (.long a.toInt64 :: st) m Q := kJ_next d177_169 rfl
theorem d177_170 : decode (mB 177) 170 = .ok (.lmul, 1) := by decide +kernel
theorem s177_170 {l0 l1 l2 l3 l4 l5 l6 l7 l8 : Option Value} {st : List Value} {a b : Int64} {m : kMem} {Q : Option Value → kMem → Prop} : kJ 177 170 [l0, l1, l2, l3, l4, l5, l6, l7, l8] (.long b :: .long a :: st) m Q = kJ 177 171 [l0, l1, l2, l3, l4, l5, l6, l7, l8] (.long (a * b) :: st) m Q := kJ_next d177_170 rfl
theorem d177_171 : decode (mB 177) 171 = .ok (.ladd, 1) := by decide +kernel
theorem s177_171 {l0 l1 l2 l3 l4 l5 l6 l7 l8 : Option Value} {st : List Value} {a b : Int64} {m : kMem} {Q : Option Value → kMem → Prop} : kJ 177 171 [l0, l1, l2, l3, l4, l5, l6, l7, l8] (.long b :: .long a :: st) m Q = kJ 177 172 [l0, l1, l2, l3, l4, l5, l6, l7, l8] (.long (a + b) :: st) m Q := kJ_next d177_171 rfl
theorem d177_172 : decode (mB 177) 172 = .ok (.putfield 269, 3) := by decide +kernel
theorem s177_172 {l0 l1 l2 l3 l4 l5 l6 l7 l8 : Option Value} {st : List Value} {q : Nat} {x : Int64} {mi : Nat → Nat → Int32} {ml : Nat → Nat → Int64} {mr : Nat → Nat → Option Nat} {nx : Nat} {Q : Option Value → kMem → Prop} (h : kIs nx q 5 = true) : kJ 177 172 [l0, l1, l2, l3, l4, l5, l6, l7, l8] (.long x :: .ref q :: st) (mi, ml, mr, nx) Q = kJ 177 175 [l0, l1, l2, l3, l4, l5, l6, l7, l8] st (mi, kupL ml q 19 x, mr, nx) Q := kJ_next d177_172 (kg_putl 5 19 rfl h (by decide) (by decide))
theorem d177_175 : decode (mB 177) 175 = .ok (.iinc 4 1, 3) := by decide +kernel
theorem s177_175 {l0 l1 l2 l3 l5 l6 l7 l8 : Option Value} {st : List Value} {x : Int32} {m : kMem} {Q : Option Value → kMem → Prop} (hp : kNL l3 = true) : kJ 177 175 [l0, l1, l2, l3, some (.int x), l5, l6, l7, l8] st m Q = kJ 177 178 [l0, l1, l2, l3, some (.int (x + (nI 1))), l5, l6, l7, l8] st m Q := kJ_next d177_175 (kg_inc rfl (Nat.le_of_ble_eq_true rfl) hp)
theorem d177_178 : decode (mB 177) 178 = .ok (.goto (-133), 3) := by decide +kernel
theorem s177_178 {l0 l1 l2 l3 l4 l5 l6 l7 l8 : Option Value} {st : List Value} {m : kMem} {Q : Option Value → kMem → Prop} : kJ 177 178 [l0, l1, l2, l3, l4, l5, l6, l7, l8] st m Q = kJ 177 45 [l0, l1, l2, l3, l4, l5, l6, l7, l8] st m Q := kJ_next d177_178 rfl
theorem d177_181 : decode (mB 177) 181 = .ok (.return_, 1) := by decide +kernel
theorem s177_181 {l0 l1 l2 l3 l4 l5 l6 l7 l8 : Option Value} {m : kMem} {Q : Option Value → kMem → Prop} : kJ 177 181 [l0, l1, l2, l3, l4, l5, l6, l7, l8] [] m Q = Q none m := kJ_ret d177_181 rfl
theorem d178_0 : decode (mB 178) 0 = .ok (.iload_n 1, 1) := by decide +kernel
theorem s178_0 {l0 l2 l3 l4 : Option Value} {st : List Value} {x : Int32} {m : kMem} {Q : Option Value → kMem → Prop} : kJ 178 0 [l0, some (.int x), l2, l3, l4] st m Q = kJ 178 1 [l0, some (.int x), l2, l3, l4] (.int x :: st) m Q := kJ_next d178_0 rfl
theorem d178_1 : decode (mB 178) 1 = .ok (.i2l, 1) := by decide +kernel
theorem s178_1 {l0 l1 l2 l3 l4 : Option Value} {st : List Value} {a : Int32} {m : kMem} {Q : Option Value → kMem → Prop} : kJ 178 1 [l0, l1, l2, l3, l4] (.int a :: st) m Q = kJ 178 2 [l0, l1, l2, l3, l4] (.long a.toInt64 :: st) m Q := kJ_next d178_1 rfl
theorem d178_2 : decode (mB 178) 2 = .ok (.lconst 0, 1) := by decide +kernel
theorem s178_2 {l0 l1 l2 l3 l4 : Option Value} {st : List Value} {m : kMem} {Q : Option Value → kMem → Prop} : kJ 178 2 [l0, l1, l2, l3, l4] st m Q = kJ 178 3 [l0, l1, l2, l3, l4] (.long 0 :: st) m Q := kJ_next d178_2 rfl
theorem d178_3 : decode (mB 178) 3 = .ok (.ldc2_w 275, 3) := by decide +kernel
theorem s178_3 {l0 l1 l2 l3 l4 : Option Value} {st : List Value} {m : kMem} {Q : Option Value → kMem → Prop} : kJ 178 3 [l0, l1, l2, l3, l4] st m Q = kJ 178 6 [l0, l1, l2, l3, l4] (.long (10) :: st) m Q := kJ_next d178_3 rfl
theorem d178_6 : decode (mB 178) 6 = .ok (.invokestatic 60, 3) := by decide +kernel
theorem s178_6 {l0 l1 l2 l3 l4 : Option Value} {v0 : Int64} {v1 : Int64} {v2 : Int64} {m : kMem} {Q : Option Value → kMem → Prop} : kJ 178 6 [l0, l1, l2, l3, l4] [.long v0, .long v1, .long v2] m Q = kJ 107 0 [some (.long v2), none, some (.long v1), none, some (.long v0), none] [] m (fun v m2 => kJ 178 9 [l0, l1, l2, l3, l4] (v.toList ++ []) m2 Q) := kJ_call d178_6 (kg_calls 107 3 rfl rfl (Nat.le_of_ble_eq_true rfl) (Nat.le_of_ble_eq_true rfl) (Nat.le_of_ble_eq_true rfl) (Nat.le_of_ble_eq_true rfl))
theorem d178_9 : decode (mB 178) 9 = .ok (.ifCond .eq 31, 3) := by decide +kernel
theorem s178_9 {l0 l1 l2 l3 l4 : Option Value} {st : List Value} {a : Int32} {m : kMem} {Q : Option Value → kMem → Prop} : kJ 178 9 [l0, l1, l2, l3, l4] (.int a :: st) m Q = (if a = 0 then kJ 178 40 [l0, l1, l2, l3, l4] st m Q else kJ 178 12 [l0, l1, l2, l3, l4] st m Q) := kJ_if d178_9 rfl (fun h => kJ_next d178_9 h) (fun h => kJ_next d178_9 h)
theorem d178_12 : decode (mB 178) 12 = .ok (.aload_n 0, 1) := by decide +kernel
theorem s178_12 {l1 l2 l3 l4 : Option Value} {st : List Value} {x : Nat} {m : kMem} {Q : Option Value → kMem → Prop} : kJ 178 12 [some (.ref x), l1, l2, l3, l4] st m Q = kJ 178 13 [some (.ref x), l1, l2, l3, l4] (.ref x :: st) m Q := kJ_next d178_12 rfl
theorem d178_13 : decode (mB 178) 13 = .ok (.iload_n 2, 1) := by decide +kernel
theorem s178_13 {l0 l1 l3 l4 : Option Value} {st : List Value} {x : Int32} {m : kMem} {Q : Option Value → kMem → Prop} : kJ 178 13 [l0, l1, some (.int x), l3, l4] st m Q = kJ 178 14 [l0, l1, some (.int x), l3, l4] (.int x :: st) m Q := kJ_next d178_13 rfl
theorem d178_14 : decode (mB 178) 14 = .ok (.invokevirtual 206, 3) := by decide +kernel
theorem s178_14 {l0 l1 l2 l3 l4 : Option Value} {v0 : Int32} {v1 : Nat} {m : kMem} {Q : Option Value → kMem → Prop} (h : kIs m.2.2.2 v1 5 = true) : kJ 178 14 [l0, l1, l2, l3, l4] [.int v0, .ref v1] m Q = kJ 127 0 [some (.ref v1), some (.int v0)] [] m (fun v m2 => kJ 178 17 [l0, l1, l2, l3, l4] (v.toList ++ []) m2 Q) := kJ_call d178_14 (kg_callv 127 1 rfl rfl rfl rfl (Nat.le_of_ble_eq_true rfl) (Nat.le_of_ble_eq_true rfl) (Nat.le_of_ble_eq_true rfl) h rfl)
theorem d178_17 : decode (mB 178) 17 = .ok (.ifCond .eq 23, 3) := by decide +kernel
theorem s178_17 {l0 l1 l2 l3 l4 : Option Value} {st : List Value} {a : Int32} {m : kMem} {Q : Option Value → kMem → Prop} : kJ 178 17 [l0, l1, l2, l3, l4] (.int a :: st) m Q = (if a = 0 then kJ 178 40 [l0, l1, l2, l3, l4] st m Q else kJ 178 20 [l0, l1, l2, l3, l4] st m Q) := kJ_if d178_17 rfl (fun h => kJ_next d178_17 h) (fun h => kJ_next d178_17 h)
theorem d178_20 : decode (mB 178) 20 = .ok (.iload_n 3, 1) := by decide +kernel
theorem s178_20 {l0 l1 l2 l4 : Option Value} {st : List Value} {x : Int32} {m : kMem} {Q : Option Value → kMem → Prop} : kJ 178 20 [l0, l1, l2, some (.int x), l4] st m Q = kJ 178 21 [l0, l1, l2, some (.int x), l4] (.int x :: st) m Q := kJ_next d178_20 rfl
theorem d178_21 : decode (mB 178) 21 = .ok (.i2l, 1) := by decide +kernel
theorem s178_21 {l0 l1 l2 l3 l4 : Option Value} {st : List Value} {a : Int32} {m : kMem} {Q : Option Value → kMem → Prop} : kJ 178 21 [l0, l1, l2, l3, l4] (.int a :: st) m Q = kJ 178 22 [l0, l1, l2, l3, l4] (.long a.toInt64 :: st) m Q := kJ_next d178_21 rfl
theorem d178_22 : decode (mB 178) 22 = .ok (.lconst 0, 1) := by decide +kernel
theorem s178_22 {l0 l1 l2 l3 l4 : Option Value} {st : List Value} {m : kMem} {Q : Option Value → kMem → Prop} : kJ 178 22 [l0, l1, l2, l3, l4] st m Q = kJ 178 23 [l0, l1, l2, l3, l4] (.long 0 :: st) m Q := kJ_next d178_22 rfl
theorem d178_23 : decode (mB 178) 23 = .ok (.ldc2_w 277, 3) := by decide +kernel
theorem s178_23 {l0 l1 l2 l3 l4 : Option Value} {st : List Value} {m : kMem} {Q : Option Value → kMem → Prop} : kJ 178 23 [l0, l1, l2, l3, l4] st m Q = kJ 178 26 [l0, l1, l2, l3, l4] (.long (8) :: st) m Q := kJ_next d178_23 rfl
theorem d178_26 : decode (mB 178) 26 = .ok (.invokestatic 60, 3) := by decide +kernel
theorem s178_26 {l0 l1 l2 l3 l4 : Option Value} {v0 : Int64} {v1 : Int64} {v2 : Int64} {m : kMem} {Q : Option Value → kMem → Prop} : kJ 178 26 [l0, l1, l2, l3, l4] [.long v0, .long v1, .long v2] m Q = kJ 107 0 [some (.long v2), none, some (.long v1), none, some (.long v0), none] [] m (fun v m2 => kJ 178 29 [l0, l1, l2, l3, l4] (v.toList ++ []) m2 Q) := kJ_call d178_26 (kg_calls 107 3 rfl rfl (Nat.le_of_ble_eq_true rfl) (Nat.le_of_ble_eq_true rfl) (Nat.le_of_ble_eq_true rfl) (Nat.le_of_ble_eq_true rfl))
theorem d178_29 : decode (mB 178) 29 = .ok (.ifCond .eq 11, 3) := by decide +kernel
theorem s178_29 {l0 l1 l2 l3 l4 : Option Value} {st : List Value} {a : Int32} {m : kMem} {Q : Option Value → kMem → Prop} : kJ 178 29 [l0, l1, l2, l3, l4] (.int a :: st) m Q = (if a = 0 then kJ 178 40 [l0, l1, l2, l3, l4] st m Q else kJ 178 32 [l0, l1, l2, l3, l4] st m Q) := kJ_if d178_29 rfl (fun h => kJ_next d178_29 h) (fun h => kJ_next d178_29 h)
theorem d178_32 : decode (mB 178) 32 = .ok (.iload 4, 2) := by decide +kernel
theorem s178_32 {l0 l1 l2 l3 : Option Value} {st : List Value} {x : Int32} {m : kMem} {Q : Option Value → kMem → Prop} : kJ 178 32 [l0, l1, l2, l3, some (.int x)] st m Q = kJ 178 34 [l0, l1, l2, l3, some (.int x)] (.int x :: st) m Q := kJ_next d178_32 rfl
theorem d178_34 : decode (mB 178) 34 = .ok (.invokestatic 254, 3) := by decide +kernel
theorem s178_34 {l0 l1 l2 l3 l4 : Option Value} {v0 : Int32} {m : kMem} {Q : Option Value → kMem → Prop} : kJ 178 34 [l0, l1, l2, l3, l4] [.int v0] m Q = kJ 129 0 [some (.int v0)] [] m (fun v m2 => kJ 178 37 [l0, l1, l2, l3, l4] (v.toList ++ []) m2 Q) := kJ_call d178_34 (kg_calls 129 1 rfl rfl (Nat.le_of_ble_eq_true rfl) (Nat.le_of_ble_eq_true rfl) (Nat.le_of_ble_eq_true rfl) (Nat.le_of_ble_eq_true rfl))
theorem d178_37 : decode (mB 178) 37 = .ok (.ifCond .ne 7, 3) := by decide +kernel
theorem s178_37 {l0 l1 l2 l3 l4 : Option Value} {st : List Value} {a : Int32} {m : kMem} {Q : Option Value → kMem → Prop} : kJ 178 37 [l0, l1, l2, l3, l4] (.int a :: st) m Q = (if a = 0 then kJ 178 40 [l0, l1, l2, l3, l4] st m Q else kJ 178 44 [l0, l1, l2, l3, l4] st m Q) := kJ_if d178_37 rfl (fun h => kJ_next d178_37 h) (fun h => kJ_next d178_37 h)
theorem d178_40 : decode (mB 178) 40 = .ok (.ldc2_w 279, 3) := by decide +kernel
theorem s178_40 {l0 l1 l2 l3 l4 : Option Value} {st : List Value} {m : kMem} {Q : Option Value → kMem → Prop} : kJ 178 40 [l0, l1, l2, l3, l4] st m Q = kJ 178 43 [l0, l1, l2, l3, l4] (.long (-1) :: st) m Q := kJ_next d178_40 rfl
theorem d178_43 : decode (mB 178) 43 = .ok (.lreturn, 1) := by decide +kernel
theorem s178_43 {l0 l1 l2 l3 l4 : Option Value} {x : Int64} {m : kMem} {Q : Option Value → kMem → Prop} : kJ 178 43 [l0, l1, l2, l3, l4] [.long x] m Q = Q (some (.long x)) m := kJ_ret d178_43 rfl
theorem d178_44 : decode (mB 178) 44 = .ok (.aload_n 0, 1) := by decide +kernel
theorem s178_44 {l1 l2 l3 l4 : Option Value} {st : List Value} {x : Nat} {m : kMem} {Q : Option Value → kMem → Prop} : kJ 178 44 [some (.ref x), l1, l2, l3, l4] st m Q = kJ 178 45 [some (.ref x), l1, l2, l3, l4] (.ref x :: st) m Q := kJ_next d178_44 rfl
theorem d178_45 : decode (mB 178) 45 = .ok (.iload_n 1, 1) := by decide +kernel
theorem s178_45 {l0 l2 l3 l4 : Option Value} {st : List Value} {x : Int32} {m : kMem} {Q : Option Value → kMem → Prop} : kJ 178 45 [l0, some (.int x), l2, l3, l4] st m Q = kJ 178 46 [l0, some (.int x), l2, l3, l4] (.int x :: st) m Q := kJ_next d178_45 rfl
theorem d178_46 : decode (mB 178) 46 = .ok (.iload_n 2, 1) := by decide +kernel
theorem s178_46 {l0 l1 l3 l4 : Option Value} {st : List Value} {x : Int32} {m : kMem} {Q : Option Value → kMem → Prop} : kJ 178 46 [l0, l1, some (.int x), l3, l4] st m Q = kJ 178 47 [l0, l1, some (.int x), l3, l4] (.int x :: st) m Q := kJ_next d178_46 rfl
theorem d178_47 : decode (mB 178) 47 = .ok (.iload_n 3, 1) := by decide +kernel
theorem s178_47 {l0 l1 l2 l4 : Option Value} {st : List Value} {x : Int32} {m : kMem} {Q : Option Value → kMem → Prop} : kJ 178 47 [l0, l1, l2, some (.int x), l4] st m Q = kJ 178 48 [l0, l1, l2, some (.int x), l4] (.int x :: st) m Q := kJ_next d178_47 rfl
theorem d178_48 : decode (mB 178) 48 = .ok (.invokevirtual 281, 3) := by decide +kernel
theorem s178_48 {l0 l1 l2 l3 l4 : Option Value} {v0 : Int32} {v1 : Int32} {v2 : Int32} {v3 : Nat} {m : kMem} {Q : Option Value → kMem → Prop} (h : kIs m.2.2.2 v3 5 = true) : kJ 178 48 [l0, l1, l2, l3, l4] [.int v0, .int v1, .int v2, .ref v3] m Q = kJ 177 0 [some (.ref v3), some (.int v2), some (.int v1), some (.int v0), none, none, none, none, none] [] m (fun v m2 => kJ 178 51 [l0, l1, l2, l3, l4] (v.toList ++ []) m2 Q) := kJ_call d178_48 (kg_callv 177 3 rfl rfl rfl rfl (Nat.le_of_ble_eq_true rfl) (Nat.le_of_ble_eq_true rfl) (Nat.le_of_ble_eq_true rfl) h rfl)
theorem d178_51 : decode (mB 178) 51 = .ok (.aload_n 0, 1) := by decide +kernel
theorem s178_51 {l1 l2 l3 l4 : Option Value} {st : List Value} {x : Nat} {m : kMem} {Q : Option Value → kMem → Prop} : kJ 178 51 [some (.ref x), l1, l2, l3, l4] st m Q = kJ 178 52 [some (.ref x), l1, l2, l3, l4] (.ref x :: st) m Q := kJ_next d178_51 rfl
theorem d178_52 : decode (mB 178) 52 = .ok (.getfield 265, 3) := by decide +kernel
theorem s178_52 {l0 l1 l2 l3 l4 : Option Value} {st : List Value} {q : Nat} {mi : Nat → Nat → Int32} {ml : Nat → Nat → Int64} {mr : Nat → Nat → Option Nat} {nx : Nat} {Q : Option Value → kMem → Prop} (h : kIs nx q 5 = true) : kJ 178 52 [l0, l1, l2, l3, l4] (.ref q :: st) (mi, ml, mr, nx) Q = kJ 178 55 [l0, l1, l2, l3, l4] (.long (ml q 18) :: st) (mi, ml, mr, nx) Q := kJ_next d178_52 (kg_getl 5 18 rfl h (by decide))
theorem d178_55 : decode (mB 178) 55 = .ok (.aload_n 0, 1) := by decide +kernel
theorem s178_55 {l1 l2 l3 l4 : Option Value} {st : List Value} {x : Nat} {m : kMem} {Q : Option Value → kMem → Prop} : kJ 178 55 [some (.ref x), l1, l2, l3, l4] st m Q = kJ 178 56 [some (.ref x), l1, l2, l3, l4] (.ref x :: st) m Q := kJ_next d178_55 rfl
theorem d178_56 : decode (mB 178) 56 = .ok (.getfield 272, 3) := by decide +kernel
theorem s178_56 {l0 l1 l2 l3 l4 : Option Value} {st : List Value} {q : Nat} {mi : Nat → Nat → Int32} {ml : Nat → Nat → Int64} {mr : Nat → Nat → Option Nat} {nx : Nat} {Q : Option Value → kMem → Prop} (h : kIs nx q 5 = true) : kJ 178 56 [l0, l1, l2, l3, l4] (.ref q :: st) (mi, ml, mr, nx) Q = kJ 178 59 [l0, l1, l2, l3, l4] (.long (ml q 20) :: st) (mi, ml, mr, nx) Q := kJ_next d178_56 (kg_getl 5 20 rfl h (by decide))
theorem d178_59 : decode (mB 178) 59 = .ok (.iload 4, 2) := by decide +kernel
theorem s178_59 {l0 l1 l2 l3 : Option Value} {st : List Value} {x : Int32} {m : kMem} {Q : Option Value → kMem → Prop} : kJ 178 59 [l0, l1, l2, l3, some (.int x)] st m Q = kJ 178 61 [l0, l1, l2, l3, some (.int x)] (.int x :: st) m Q := kJ_next d178_59 rfl
theorem d178_61 : decode (mB 178) 61 = .ok (.invokestatic 284, 3) := by decide +kernel
theorem s178_61 {l0 l1 l2 l3 l4 : Option Value} {v0 : Int32} {v1 : Int64} {v2 : Int64} {m : kMem} {Q : Option Value → kMem → Prop} : kJ 178 61 [l0, l1, l2, l3, l4] [.int v0, .long v1, .long v2] m Q = kJ 176 0 [some (.long v2), none, some (.long v1), none, some (.int v0), none, none] [] m (fun v m2 => kJ 178 64 [l0, l1, l2, l3, l4] (v.toList ++ []) m2 Q) := kJ_call d178_61 (kg_calls 176 3 rfl rfl (Nat.le_of_ble_eq_true rfl) (Nat.le_of_ble_eq_true rfl) (Nat.le_of_ble_eq_true rfl) (Nat.le_of_ble_eq_true rfl))
theorem d178_64 : decode (mB 178) 64 = .ok (.lreturn, 1) := by decide +kernel
theorem s178_64 {l0 l1 l2 l3 l4 : Option Value} {x : Int64} {m : kMem} {Q : Option Value → kMem → Prop} : kJ 178 64 [l0, l1, l2, l3, l4] [.long x] m Q = Q (some (.long x)) m := kJ_ret d178_64 rfl
theorem d179_0 : decode (mB 179) 0 = .ok (.iload_n 1, 1) := by decide +kernel
theorem s179_0 {l0 l2 l3 : Option Value} {st : List Value} {x : Int32} {m : kMem} {Q : Option Value → kMem → Prop} : kJ 179 0 [l0, some (.int x), l2, l3] st m Q = kJ 179 1 [l0, some (.int x), l2, l3] (.int x :: st) m Q := kJ_next d179_0 rfl
theorem d179_1 : decode (mB 179) 1 = .ok (.i2l, 1) := by decide +kernel
theorem s179_1 {l0 l1 l2 l3 : Option Value} {st : List Value} {a : Int32} {m : kMem} {Q : Option Value → kMem → Prop} : kJ 179 1 [l0, l1, l2, l3] (.int a :: st) m Q = kJ 179 2 [l0, l1, l2, l3] (.long a.toInt64 :: st) m Q := kJ_next d179_1 rfl
theorem d179_2 : decode (mB 179) 2 = .ok (.lconst 0, 1) := by decide +kernel
theorem s179_2 {l0 l1 l2 l3 : Option Value} {st : List Value} {m : kMem} {Q : Option Value → kMem → Prop} : kJ 179 2 [l0, l1, l2, l3] st m Q = kJ 179 3 [l0, l1, l2, l3] (.long 0 :: st) m Q := kJ_next d179_2 rfl
theorem d179_3 : decode (mB 179) 3 = .ok (.ldc2_w 275, 3) := by decide +kernel
theorem s179_3 {l0 l1 l2 l3 : Option Value} {st : List Value} {m : kMem} {Q : Option Value → kMem → Prop} : kJ 179 3 [l0, l1, l2, l3] st m Q = kJ 179 6 [l0, l1, l2, l3] (.long (10) :: st) m Q := kJ_next d179_3 rfl
theorem d179_6 : decode (mB 179) 6 = .ok (.invokestatic 60, 3) := by decide +kernel
theorem s179_6 {l0 l1 l2 l3 : Option Value} {v0 : Int64} {v1 : Int64} {v2 : Int64} {m : kMem} {Q : Option Value → kMem → Prop} : kJ 179 6 [l0, l1, l2, l3] [.long v0, .long v1, .long v2] m Q = kJ 107 0 [some (.long v2), none, some (.long v1), none, some (.long v0), none] [] m (fun v m2 => kJ 179 9 [l0, l1, l2, l3] (v.toList ++ []) m2 Q) := kJ_call d179_6 (kg_calls 107 3 rfl rfl (Nat.le_of_ble_eq_true rfl) (Nat.le_of_ble_eq_true rfl) (Nat.le_of_ble_eq_true rfl) (Nat.le_of_ble_eq_true rfl))
theorem d179_9 : decode (mB 179) 9 = .ok (.ifCond .eq 22, 3) := by decide +kernel
theorem s179_9 {l0 l1 l2 l3 : Option Value} {st : List Value} {a : Int32} {m : kMem} {Q : Option Value → kMem → Prop} : kJ 179 9 [l0, l1, l2, l3] (.int a :: st) m Q = (if a = 0 then kJ 179 31 [l0, l1, l2, l3] st m Q else kJ 179 12 [l0, l1, l2, l3] st m Q) := kJ_if d179_9 rfl (fun h => kJ_next d179_9 h) (fun h => kJ_next d179_9 h)
theorem d179_12 : decode (mB 179) 12 = .ok (.iload_n 2, 1) := by decide +kernel
theorem s179_12 {l0 l1 l3 : Option Value} {st : List Value} {x : Int32} {m : kMem} {Q : Option Value → kMem → Prop} : kJ 179 12 [l0, l1, some (.int x), l3] st m Q = kJ 179 13 [l0, l1, some (.int x), l3] (.int x :: st) m Q := kJ_next d179_12 rfl
theorem d179_13 : decode (mB 179) 13 = .ok (.i2l, 1) := by decide +kernel
theorem s179_13 {l0 l1 l2 l3 : Option Value} {st : List Value} {a : Int32} {m : kMem} {Q : Option Value → kMem → Prop} : kJ 179 13 [l0, l1, l2, l3] (.int a :: st) m Q = kJ 179 14 [l0, l1, l2, l3] (.long a.toInt64 :: st) m Q := kJ_next d179_13 rfl
theorem d179_14 : decode (mB 179) 14 = .ok (.lconst 0, 1) := by decide +kernel
theorem s179_14 {l0 l1 l2 l3 : Option Value} {st : List Value} {m : kMem} {Q : Option Value → kMem → Prop} : kJ 179 14 [l0, l1, l2, l3] st m Q = kJ 179 15 [l0, l1, l2, l3] (.long 0 :: st) m Q := kJ_next d179_14 rfl
theorem d179_15 : decode (mB 179) 15 = .ok (.ldc2_w 277, 3) := by decide +kernel
theorem s179_15 {l0 l1 l2 l3 : Option Value} {st : List Value} {m : kMem} {Q : Option Value → kMem → Prop} : kJ 179 15 [l0, l1, l2, l3] st m Q = kJ 179 18 [l0, l1, l2, l3] (.long (8) :: st) m Q := kJ_next d179_15 rfl
theorem d179_18 : decode (mB 179) 18 = .ok (.invokestatic 60, 3) := by decide +kernel
theorem s179_18 {l0 l1 l2 l3 : Option Value} {v0 : Int64} {v1 : Int64} {v2 : Int64} {m : kMem} {Q : Option Value → kMem → Prop} : kJ 179 18 [l0, l1, l2, l3] [.long v0, .long v1, .long v2] m Q = kJ 107 0 [some (.long v2), none, some (.long v1), none, some (.long v0), none] [] m (fun v m2 => kJ 179 21 [l0, l1, l2, l3] (v.toList ++ []) m2 Q) := kJ_call d179_18 (kg_calls 107 3 rfl rfl (Nat.le_of_ble_eq_true rfl) (Nat.le_of_ble_eq_true rfl) (Nat.le_of_ble_eq_true rfl) (Nat.le_of_ble_eq_true rfl))
theorem d179_21 : decode (mB 179) 21 = .ok (.ifCond .eq 10, 3) := by decide +kernel
theorem s179_21 {l0 l1 l2 l3 : Option Value} {st : List Value} {a : Int32} {m : kMem} {Q : Option Value → kMem → Prop} : kJ 179 21 [l0, l1, l2, l3] (.int a :: st) m Q = (if a = 0 then kJ 179 31 [l0, l1, l2, l3] st m Q else kJ 179 24 [l0, l1, l2, l3] st m Q) := kJ_if d179_21 rfl (fun h => kJ_next d179_21 h) (fun h => kJ_next d179_21 h)
theorem d179_24 : decode (mB 179) 24 = .ok (.iload_n 3, 1) := by decide +kernel
theorem s179_24 {l0 l1 l2 : Option Value} {st : List Value} {x : Int32} {m : kMem} {Q : Option Value → kMem → Prop} : kJ 179 24 [l0, l1, l2, some (.int x)] st m Q = kJ 179 25 [l0, l1, l2, some (.int x)] (.int x :: st) m Q := kJ_next d179_24 rfl
theorem d179_25 : decode (mB 179) 25 = .ok (.invokestatic 254, 3) := by decide +kernel
theorem s179_25 {l0 l1 l2 l3 : Option Value} {v0 : Int32} {m : kMem} {Q : Option Value → kMem → Prop} : kJ 179 25 [l0, l1, l2, l3] [.int v0] m Q = kJ 129 0 [some (.int v0)] [] m (fun v m2 => kJ 179 28 [l0, l1, l2, l3] (v.toList ++ []) m2 Q) := kJ_call d179_25 (kg_calls 129 1 rfl rfl (Nat.le_of_ble_eq_true rfl) (Nat.le_of_ble_eq_true rfl) (Nat.le_of_ble_eq_true rfl) (Nat.le_of_ble_eq_true rfl))
theorem d179_28 : decode (mB 179) 28 = .ok (.ifCond .ne 7, 3) := by decide +kernel
theorem s179_28 {l0 l1 l2 l3 : Option Value} {st : List Value} {a : Int32} {m : kMem} {Q : Option Value → kMem → Prop} : kJ 179 28 [l0, l1, l2, l3] (.int a :: st) m Q = (if a = 0 then kJ 179 31 [l0, l1, l2, l3] st m Q else kJ 179 35 [l0, l1, l2, l3] st m Q) := kJ_if d179_28 rfl (fun h => kJ_next d179_28 h) (fun h => kJ_next d179_28 h)
theorem d179_31 : decode (mB 179) 31 = .ok (.ldc2_w 279, 3) := by decide +kernel
theorem s179_31 {l0 l1 l2 l3 : Option Value} {st : List Value} {m : kMem} {Q : Option Value → kMem → Prop} : kJ 179 31 [l0, l1, l2, l3] st m Q = kJ 179 34 [l0, l1, l2, l3] (.long (-1) :: st) m Q := kJ_next d179_31 rfl
theorem d179_34 : decode (mB 179) 34 = .ok (.lreturn, 1) := by decide +kernel
theorem s179_34 {l0 l1 l2 l3 : Option Value} {x : Int64} {m : kMem} {Q : Option Value → kMem → Prop} : kJ 179 34 [l0, l1, l2, l3] [.long x] m Q = Q (some (.long x)) m := kJ_ret d179_34 rfl
theorem d179_35 : decode (mB 179) 35 = .ok (.aload_n 0, 1) := by decide +kernel
theorem s179_35 {l1 l2 l3 : Option Value} {st : List Value} {x : Nat} {m : kMem} {Q : Option Value → kMem → Prop} : kJ 179 35 [some (.ref x), l1, l2, l3] st m Q = kJ 179 36 [some (.ref x), l1, l2, l3] (.ref x :: st) m Q := kJ_next d179_35 rfl
theorem d179_36 : decode (mB 179) 36 = .ok (.iload_n 1, 1) := by decide +kernel
theorem s179_36 {l0 l2 l3 : Option Value} {st : List Value} {x : Int32} {m : kMem} {Q : Option Value → kMem → Prop} : kJ 179 36 [l0, some (.int x), l2, l3] st m Q = kJ 179 37 [l0, some (.int x), l2, l3] (.int x :: st) m Q := kJ_next d179_36 rfl
theorem d179_37 : decode (mB 179) 37 = .ok (.bipush (-4), 2) := by decide +kernel
theorem s179_37 {l0 l1 l2 l3 : Option Value} {st : List Value} {m : kMem} {Q : Option Value → kMem → Prop} : kJ 179 37 [l0, l1, l2, l3] st m Q = kJ 179 39 [l0, l1, l2, l3] (.int (-4) :: st) m Q := kJ_next d179_37 rfl
theorem d179_39 : decode (mB 179) 39 = .ok (.iload_n 2, 1) := by decide +kernel
theorem s179_39 {l0 l1 l3 : Option Value} {st : List Value} {x : Int32} {m : kMem} {Q : Option Value → kMem → Prop} : kJ 179 39 [l0, l1, some (.int x), l3] st m Q = kJ 179 40 [l0, l1, some (.int x), l3] (.int x :: st) m Q := kJ_next d179_39 rfl
theorem d179_40 : decode (mB 179) 40 = .ok (.invokevirtual 281, 3) := by decide +kernel
theorem s179_40 {l0 l1 l2 l3 : Option Value} {v0 : Int32} {v1 : Int32} {v2 : Int32} {v3 : Nat} {m : kMem} {Q : Option Value → kMem → Prop} (h : kIs m.2.2.2 v3 5 = true) : kJ 179 40 [l0, l1, l2, l3] [.int v0, .int v1, .int v2, .ref v3] m Q = kJ 177 0 [some (.ref v3), some (.int v2), some (.int v1), some (.int v0), none, none, none, none, none] [] m (fun v m2 => kJ 179 43 [l0, l1, l2, l3] (v.toList ++ []) m2 Q) := kJ_call d179_40 (kg_callv 177 3 rfl rfl rfl rfl (Nat.le_of_ble_eq_true rfl) (Nat.le_of_ble_eq_true rfl) (Nat.le_of_ble_eq_true rfl) h rfl)
theorem d179_43 : decode (mB 179) 43 = .ok (.aload_n 0, 1) := by decide +kernel
theorem s179_43 {l1 l2 l3 : Option Value} {st : List Value} {x : Nat} {m : kMem} {Q : Option Value → kMem → Prop} : kJ 179 43 [some (.ref x), l1, l2, l3] st m Q = kJ 179 44 [some (.ref x), l1, l2, l3] (.ref x :: st) m Q := kJ_next d179_43 rfl
theorem d179_44 : decode (mB 179) 44 = .ok (.getfield 269, 3) := by decide +kernel
theorem s179_44 {l0 l1 l2 l3 : Option Value} {st : List Value} {q : Nat} {mi : Nat → Nat → Int32} {ml : Nat → Nat → Int64} {mr : Nat → Nat → Option Nat} {nx : Nat} {Q : Option Value → kMem → Prop} (h : kIs nx q 5 = true) : kJ 179 44 [l0, l1, l2, l3] (.ref q :: st) (mi, ml, mr, nx) Q = kJ 179 47 [l0, l1, l2, l3] (.long (ml q 19) :: st) (mi, ml, mr, nx) Q := kJ_next d179_44 (kg_getl 5 19 rfl h (by decide))
theorem d179_47 : decode (mB 179) 47 = .ok (.aload_n 0, 1) := by decide +kernel
theorem s179_47 {l1 l2 l3 : Option Value} {st : List Value} {x : Nat} {m : kMem} {Q : Option Value → kMem → Prop} : kJ 179 47 [some (.ref x), l1, l2, l3] st m Q = kJ 179 48 [some (.ref x), l1, l2, l3] (.ref x :: st) m Q := kJ_next d179_47 rfl
theorem d179_48 : decode (mB 179) 48 = .ok (.getfield 272, 3) := by decide +kernel
theorem s179_48 {l0 l1 l2 l3 : Option Value} {st : List Value} {q : Nat} {mi : Nat → Nat → Int32} {ml : Nat → Nat → Int64} {mr : Nat → Nat → Option Nat} {nx : Nat} {Q : Option Value → kMem → Prop} (h : kIs nx q 5 = true) : kJ 179 48 [l0, l1, l2, l3] (.ref q :: st) (mi, ml, mr, nx) Q = kJ 179 51 [l0, l1, l2, l3] (.long (ml q 20) :: st) (mi, ml, mr, nx) Q := kJ_next d179_48 (kg_getl 5 20 rfl h (by decide))
theorem d179_51 : decode (mB 179) 51 = .ok (.iload_n 3, 1) := by decide +kernel
theorem s179_51 {l0 l1 l2 : Option Value} {st : List Value} {x : Int32} {m : kMem} {Q : Option Value → kMem → Prop} : kJ 179 51 [l0, l1, l2, some (.int x)] st m Q = kJ 179 52 [l0, l1, l2, some (.int x)] (.int x :: st) m Q := kJ_next d179_51 rfl
theorem d179_52 : decode (mB 179) 52 = .ok (.invokestatic 284, 3) := by decide +kernel
theorem s179_52 {l0 l1 l2 l3 : Option Value} {v0 : Int32} {v1 : Int64} {v2 : Int64} {m : kMem} {Q : Option Value → kMem → Prop} : kJ 179 52 [l0, l1, l2, l3] [.int v0, .long v1, .long v2] m Q = kJ 176 0 [some (.long v2), none, some (.long v1), none, some (.int v0), none, none] [] m (fun v m2 => kJ 179 55 [l0, l1, l2, l3] (v.toList ++ []) m2 Q) := kJ_call d179_52 (kg_calls 176 3 rfl rfl (Nat.le_of_ble_eq_true rfl) (Nat.le_of_ble_eq_true rfl) (Nat.le_of_ble_eq_true rfl) (Nat.le_of_ble_eq_true rfl))
theorem d179_55 : decode (mB 179) 55 = .ok (.lreturn, 1) := by decide +kernel
theorem s179_55 {l0 l1 l2 l3 : Option Value} {x : Int64} {m : kMem} {Q : Option Value → kMem → Prop} : kJ 179 55 [l0, l1, l2, l3] [.long x] m Q = Q (some (.long x)) m := kJ_ret d179_55 rfl
theorem d180_0 : decode (mB 180) 0 = .ok (.iload_n 1, 1) := by decide +kernel
theorem s180_0 {l0 l2 l3 l4 : Option Value} {st : List Value} {x : Int32} {m : kMem} {Q : Option Value → kMem → Prop} : kJ 180 0 [l0, some (.int x), l2, l3, l4] st m Q = kJ 180 1 [l0, some (.int x), l2, l3, l4] (.int x :: st) m Q := kJ_next d180_0 rfl
theorem d180_1 : decode (mB 180) 1 = .ok (.i2l, 1) := by decide +kernel
theorem s180_1 {l0 l1 l2 l3 l4 : Option Value} {st : List Value} {a : Int32} {m : kMem} {Q : Option Value → kMem → Prop} : kJ 180 1 [l0, l1, l2, l3, l4] (.int a :: st) m Q = kJ 180 2 [l0, l1, l2, l3, l4] (.long a.toInt64 :: st) m Q := kJ_next d180_1 rfl
theorem d180_2 : decode (mB 180) 2 = .ok (.lconst 0, 1) := by decide +kernel
theorem s180_2 {l0 l1 l2 l3 l4 : Option Value} {st : List Value} {m : kMem} {Q : Option Value → kMem → Prop} : kJ 180 2 [l0, l1, l2, l3, l4] st m Q = kJ 180 3 [l0, l1, l2, l3, l4] (.long 0 :: st) m Q := kJ_next d180_2 rfl
theorem d180_3 : decode (mB 180) 3 = .ok (.ldc2_w 216, 3) := by decide +kernel
theorem s180_3 {l0 l1 l2 l3 l4 : Option Value} {st : List Value} {m : kMem} {Q : Option Value → kMem → Prop} : kJ 180 3 [l0, l1, l2, l3, l4] st m Q = kJ 180 6 [l0, l1, l2, l3, l4] (.long (20) :: st) m Q := kJ_next d180_3 rfl
theorem d180_6 : decode (mB 180) 6 = .ok (.invokestatic 60, 3) := by decide +kernel
theorem s180_6 {l0 l1 l2 l3 l4 : Option Value} {v0 : Int64} {v1 : Int64} {v2 : Int64} {m : kMem} {Q : Option Value → kMem → Prop} : kJ 180 6 [l0, l1, l2, l3, l4] [.long v0, .long v1, .long v2] m Q = kJ 107 0 [some (.long v2), none, some (.long v1), none, some (.long v0), none] [] m (fun v m2 => kJ 180 9 [l0, l1, l2, l3, l4] (v.toList ++ []) m2 Q) := kJ_call d180_6 (kg_calls 107 3 rfl rfl (Nat.le_of_ble_eq_true rfl) (Nat.le_of_ble_eq_true rfl) (Nat.le_of_ble_eq_true rfl) (Nat.le_of_ble_eq_true rfl))
theorem d180_9 : decode (mB 180) 9 = .ok (.ifCond .eq 23, 3) := by decide +kernel
theorem s180_9 {l0 l1 l2 l3 l4 : Option Value} {st : List Value} {a : Int32} {m : kMem} {Q : Option Value → kMem → Prop} : kJ 180 9 [l0, l1, l2, l3, l4] (.int a :: st) m Q = (if a = 0 then kJ 180 32 [l0, l1, l2, l3, l4] st m Q else kJ 180 12 [l0, l1, l2, l3, l4] st m Q) := kJ_if d180_9 rfl (fun h => kJ_next d180_9 h) (fun h => kJ_next d180_9 h)
theorem d180_12 : decode (mB 180) 12 = .ok (.aload_n 0, 1) := by decide +kernel
theorem s180_12 {l1 l2 l3 l4 : Option Value} {st : List Value} {x : Nat} {m : kMem} {Q : Option Value → kMem → Prop} : kJ 180 12 [some (.ref x), l1, l2, l3, l4] st m Q = kJ 180 13 [some (.ref x), l1, l2, l3, l4] (.ref x :: st) m Q := kJ_next d180_12 rfl
theorem d180_13 : decode (mB 180) 13 = .ok (.iload_n 2, 1) := by decide +kernel
theorem s180_13 {l0 l1 l3 l4 : Option Value} {st : List Value} {x : Int32} {m : kMem} {Q : Option Value → kMem → Prop} : kJ 180 13 [l0, l1, some (.int x), l3, l4] st m Q = kJ 180 14 [l0, l1, some (.int x), l3, l4] (.int x :: st) m Q := kJ_next d180_13 rfl
theorem d180_14 : decode (mB 180) 14 = .ok (.invokevirtual 201, 3) := by decide +kernel
theorem s180_14 {l0 l1 l2 l3 l4 : Option Value} {v0 : Int32} {v1 : Nat} {m : kMem} {Q : Option Value → kMem → Prop} (h : kIs m.2.2.2 v1 5 = true) : kJ 180 14 [l0, l1, l2, l3, l4] [.int v0, .ref v1] m Q = kJ 126 0 [some (.ref v1), some (.int v0)] [] m (fun v m2 => kJ 180 17 [l0, l1, l2, l3, l4] (v.toList ++ []) m2 Q) := kJ_call d180_14 (kg_callv 126 1 rfl rfl rfl rfl (Nat.le_of_ble_eq_true rfl) (Nat.le_of_ble_eq_true rfl) (Nat.le_of_ble_eq_true rfl) h rfl)
theorem d180_17 : decode (mB 180) 17 = .ok (.ifCond .eq 15, 3) := by decide +kernel
theorem s180_17 {l0 l1 l2 l3 l4 : Option Value} {st : List Value} {a : Int32} {m : kMem} {Q : Option Value → kMem → Prop} : kJ 180 17 [l0, l1, l2, l3, l4] (.int a :: st) m Q = (if a = 0 then kJ 180 32 [l0, l1, l2, l3, l4] st m Q else kJ 180 20 [l0, l1, l2, l3, l4] st m Q) := kJ_if d180_17 rfl (fun h => kJ_next d180_17 h) (fun h => kJ_next d180_17 h)
theorem d180_20 : decode (mB 180) 20 = .ok (.iload_n 3, 1) := by decide +kernel
theorem s180_20 {l0 l1 l2 l4 : Option Value} {st : List Value} {x : Int32} {m : kMem} {Q : Option Value → kMem → Prop} : kJ 180 20 [l0, l1, l2, some (.int x), l4] st m Q = kJ 180 21 [l0, l1, l2, some (.int x), l4] (.int x :: st) m Q := kJ_next d180_20 rfl
theorem d180_21 : decode (mB 180) 21 = .ok (.i2l, 1) := by decide +kernel
theorem s180_21 {l0 l1 l2 l3 l4 : Option Value} {st : List Value} {a : Int32} {m : kMem} {Q : Option Value → kMem → Prop} : kJ 180 21 [l0, l1, l2, l3, l4] (.int a :: st) m Q = kJ 180 22 [l0, l1, l2, l3, l4] (.long a.toInt64 :: st) m Q := kJ_next d180_21 rfl
theorem d180_22 : decode (mB 180) 22 = .ok (.lconst 0, 1) := by decide +kernel
theorem s180_22 {l0 l1 l2 l3 l4 : Option Value} {st : List Value} {m : kMem} {Q : Option Value → kMem → Prop} : kJ 180 22 [l0, l1, l2, l3, l4] st m Q = kJ 180 23 [l0, l1, l2, l3, l4] (.long 0 :: st) m Q := kJ_next d180_22 rfl
theorem d180_23 : decode (mB 180) 23 = .ok (.ldc2_w 216, 3) := by decide +kernel
theorem s180_23 {l0 l1 l2 l3 l4 : Option Value} {st : List Value} {m : kMem} {Q : Option Value → kMem → Prop} : kJ 180 23 [l0, l1, l2, l3, l4] st m Q = kJ 180 26 [l0, l1, l2, l3, l4] (.long (20) :: st) m Q := kJ_next d180_23 rfl
theorem d180_26 : decode (mB 180) 26 = .ok (.invokestatic 60, 3) := by decide +kernel
theorem s180_26 {l0 l1 l2 l3 l4 : Option Value} {v0 : Int64} {v1 : Int64} {v2 : Int64} {m : kMem} {Q : Option Value → kMem → Prop} : kJ 180 26 [l0, l1, l2, l3, l4] [.long v0, .long v1, .long v2] m Q = kJ 107 0 [some (.long v2), none, some (.long v1), none, some (.long v0), none] [] m (fun v m2 => kJ 180 29 [l0, l1, l2, l3, l4] (v.toList ++ []) m2 Q) := kJ_call d180_26 (kg_calls 107 3 rfl rfl (Nat.le_of_ble_eq_true rfl) (Nat.le_of_ble_eq_true rfl) (Nat.le_of_ble_eq_true rfl) (Nat.le_of_ble_eq_true rfl))
theorem d180_29 : decode (mB 180) 29 = .ok (.ifCond .ne 5, 3) := by decide +kernel
theorem s180_29 {l0 l1 l2 l3 l4 : Option Value} {st : List Value} {a : Int32} {m : kMem} {Q : Option Value → kMem → Prop} : kJ 180 29 [l0, l1, l2, l3, l4] (.int a :: st) m Q = (if a = 0 then kJ 180 32 [l0, l1, l2, l3, l4] st m Q else kJ 180 34 [l0, l1, l2, l3, l4] st m Q) := kJ_if d180_29 rfl (fun h => kJ_next d180_29 h) (fun h => kJ_next d180_29 h)
theorem d180_32 : decode (mB 180) 32 = .ok (.iconst (-1), 1) := by decide +kernel
theorem s180_32 {l0 l1 l2 l3 l4 : Option Value} {st : List Value} {m : kMem} {Q : Option Value → kMem → Prop} : kJ 180 32 [l0, l1, l2, l3, l4] st m Q = kJ 180 33 [l0, l1, l2, l3, l4] (.int (-1) :: st) m Q := kJ_next d180_32 rfl
theorem d180_33 : decode (mB 180) 33 = .ok (.ireturn, 1) := by decide +kernel
theorem s180_33 {l0 l1 l2 l3 l4 : Option Value} {x : Int32} {m : kMem} {Q : Option Value → kMem → Prop} : kJ 180 33 [l0, l1, l2, l3, l4] [.int x] m Q = Q (some (.int x)) m := kJ_ret d180_33 rfl
theorem d180_34 : decode (mB 180) 34 = .ok (.aload_n 0, 1) := by decide +kernel
theorem s180_34 {l1 l2 l3 l4 : Option Value} {st : List Value} {x : Nat} {m : kMem} {Q : Option Value → kMem → Prop} : kJ 180 34 [some (.ref x), l1, l2, l3, l4] st m Q = kJ 180 35 [some (.ref x), l1, l2, l3, l4] (.ref x :: st) m Q := kJ_next d180_34 rfl
theorem d180_35 : decode (mB 180) 35 = .ok (.getfield 7, 3) := by decide +kernel
theorem s180_35 {l0 l1 l2 l3 l4 : Option Value} {st : List Value} {q : Nat} {mi : Nat → Nat → Int32} {ml : Nat → Nat → Int64} {mr : Nat → Nat → Option Nat} {nx : Nat} {Q : Option Value → kMem → Prop} (h : kIs nx q 5 = true) : kJ 180 35 [l0, l1, l2, l3, l4] (.ref q :: st) (mi, ml, mr, nx) Q = kJ 180 38 [l0, l1, l2, l3, l4] (va_rf (mr q 0) :: st) (mi, ml, mr, nx) Q := kJ_next d180_35 (kg_getr 5 0 rfl h (by decide))
theorem d180_38 : decode (mB 180) 38 = .ok (.bipush 55, 2) := by decide +kernel
theorem s180_38 {l0 l1 l2 l3 l4 : Option Value} {st : List Value} {m : kMem} {Q : Option Value → kMem → Prop} : kJ 180 38 [l0, l1, l2, l3, l4] st m Q = kJ 180 40 [l0, l1, l2, l3, l4] (.int (nI 55) :: st) m Q := kJ_next d180_38 rfl
theorem d180_40 : decode (mB 180) 40 = .ok (.iaload, 1) := by decide +kernel
theorem s180_40 {l0 l1 l2 l3 l4 : Option Value} {st : List Value} {q : Nat} {i : Int32} {mi : Nat → Nat → Int32} {ml : Nat → Nat → Int64} {mr : Nat → Nat → Option Nat} {nx : Nat} {Q : Option Value → kMem → Prop} (h : kIs nx q 10 = true) : kJ 180 40 [l0, l1, l2, l3, l4] (.int i :: .ref q :: st) (mi, ml, mr, nx) Q = (vp_in i (kAl q) ∧ kJ 180 41 [l0, l1, l2, l3, l4] (.int (mi q i.toNatClampNeg) :: st) (mi, ml, mr, nx) Q) := kg_aldJ d180_40 rfl (kAr_of h)
theorem d180_41 : decode (mB 180) 41 = .ok (.bipush 6, 2) := by decide +kernel
theorem s180_41 {l0 l1 l2 l3 l4 : Option Value} {st : List Value} {m : kMem} {Q : Option Value → kMem → Prop} : kJ 180 41 [l0, l1, l2, l3, l4] st m Q = kJ 180 43 [l0, l1, l2, l3, l4] (.int (nI 6) :: st) m Q := kJ_next d180_41 rfl
theorem d180_43 : decode (mB 180) 43 = .ok (.if_icmp .ne 6, 3) := by decide +kernel
theorem s180_43 {l0 l1 l2 l3 l4 : Option Value} {st : List Value} {a b : Int32} {m : kMem} {Q : Option Value → kMem → Prop} : kJ 180 43 [l0, l1, l2, l3, l4] (.int b :: .int a :: st) m Q = (if a = b then kJ 180 46 [l0, l1, l2, l3, l4] st m Q else kJ 180 49 [l0, l1, l2, l3, l4] st m Q) := kJ_if d180_43 rfl (fun h => kJ_next d180_43 h) (fun h => kJ_next d180_43 h)
theorem d180_46 : decode (mB 180) 46 = .ok (.bipush (-3), 2) := by decide +kernel
theorem s180_46 {l0 l1 l2 l3 l4 : Option Value} {st : List Value} {m : kMem} {Q : Option Value → kMem → Prop} : kJ 180 46 [l0, l1, l2, l3, l4] st m Q = kJ 180 48 [l0, l1, l2, l3, l4] (.int (-3) :: st) m Q := kJ_next d180_46 rfl
theorem d180_48 : decode (mB 180) 48 = .ok (.ireturn, 1) := by decide +kernel
theorem s180_48 {l0 l1 l2 l3 l4 : Option Value} {x : Int32} {m : kMem} {Q : Option Value → kMem → Prop} : kJ 180 48 [l0, l1, l2, l3, l4] [.int x] m Q = Q (some (.int x)) m := kJ_ret d180_48 rfl
theorem d180_49 : decode (mB 180) 49 = .ok (.bipush 56, 2) := by decide +kernel
theorem s180_49 {l0 l1 l2 l3 l4 : Option Value} {st : List Value} {m : kMem} {Q : Option Value → kMem → Prop} : kJ 180 49 [l0, l1, l2, l3, l4] st m Q = kJ 180 51 [l0, l1, l2, l3, l4] (.int (nI 56) :: st) m Q := kJ_next d180_49 rfl
theorem d180_51 : decode (mB 180) 51 = .ok (.iconst 3, 1) := by decide +kernel
theorem s180_51 {l0 l1 l2 l3 l4 : Option Value} {st : List Value} {m : kMem} {Q : Option Value → kMem → Prop} : kJ 180 51 [l0, l1, l2, l3, l4] st m Q = kJ 180 52 [l0, l1, l2, l3, l4] (.int (nI 3) :: st) m Q := kJ_next d180_51 rfl
theorem d180_52 : decode (mB 180) 52 = .ok (.aload_n 0, 1) := by decide +kernel
theorem s180_52 {l1 l2 l3 l4 : Option Value} {st : List Value} {x : Nat} {m : kMem} {Q : Option Value → kMem → Prop} : kJ 180 52 [some (.ref x), l1, l2, l3, l4] st m Q = kJ 180 53 [some (.ref x), l1, l2, l3, l4] (.ref x :: st) m Q := kJ_next d180_52 rfl
theorem d180_53 : decode (mB 180) 53 = .ok (.getfield 7, 3) := by decide +kernel
theorem s180_53 {l0 l1 l2 l3 l4 : Option Value} {st : List Value} {q : Nat} {mi : Nat → Nat → Int32} {ml : Nat → Nat → Int64} {mr : Nat → Nat → Option Nat} {nx : Nat} {Q : Option Value → kMem → Prop} (h : kIs nx q 5 = true) : kJ 180 53 [l0, l1, l2, l3, l4] (.ref q :: st) (mi, ml, mr, nx) Q = kJ 180 56 [l0, l1, l2, l3, l4] (va_rf (mr q 0) :: st) (mi, ml, mr, nx) Q := kJ_next d180_53 (kg_getr 5 0 rfl h (by decide))
theorem d180_56 : decode (mB 180) 56 = .ok (.bipush 55, 2) := by decide +kernel
theorem s180_56 {l0 l1 l2 l3 l4 : Option Value} {st : List Value} {m : kMem} {Q : Option Value → kMem → Prop} : kJ 180 56 [l0, l1, l2, l3, l4] st m Q = kJ 180 58 [l0, l1, l2, l3, l4] (.int (nI 55) :: st) m Q := kJ_next d180_56 rfl
theorem d180_58 : decode (mB 180) 58 = .ok (.iaload, 1) := by decide +kernel
theorem s180_58 {l0 l1 l2 l3 l4 : Option Value} {st : List Value} {q : Nat} {i : Int32} {mi : Nat → Nat → Int32} {ml : Nat → Nat → Int64} {mr : Nat → Nat → Option Nat} {nx : Nat} {Q : Option Value → kMem → Prop} (h : kIs nx q 10 = true) : kJ 180 58 [l0, l1, l2, l3, l4] (.int i :: .ref q :: st) (mi, ml, mr, nx) Q = (vp_in i (kAl q) ∧ kJ 180 59 [l0, l1, l2, l3, l4] (.int (mi q i.toNatClampNeg) :: st) (mi, ml, mr, nx) Q) := kg_aldJ d180_58 rfl (kAr_of h)
theorem d180_59 : decode (mB 180) 59 = .ok (.imul, 1) := by decide +kernel
theorem s180_59 {l0 l1 l2 l3 l4 : Option Value} {st : List Value} {a b : Int32} {m : kMem} {Q : Option Value → kMem → Prop} : kJ 180 59 [l0, l1, l2, l3, l4] (.int b :: .int a :: st) m Q = kJ 180 60 [l0, l1, l2, l3, l4] (.int (a * b) :: st) m Q := kJ_next d180_59 rfl
theorem d180_60 : decode (mB 180) 60 = .ok (.iadd, 1) := by decide +kernel
theorem s180_60 {l0 l1 l2 l3 l4 : Option Value} {st : List Value} {a b : Int32} {m : kMem} {Q : Option Value → kMem → Prop} : kJ 180 60 [l0, l1, l2, l3, l4] (.int b :: .int a :: st) m Q = kJ 180 61 [l0, l1, l2, l3, l4] (.int (a + b) :: st) m Q := kJ_next d180_60 rfl
theorem d180_61 : decode (mB 180) 61 = .ok (.istore 4, 2) := by decide +kernel
theorem s180_61 {l0 l1 l2 l3 l4 : Option Value} {st : List Value} {x : Int32} {m : kMem} {Q : Option Value → kMem → Prop} (hp : kNL l3 = true) : kJ 180 61 [l0, l1, l2, l3, l4] (.int x :: st) m Q = kJ 180 63 [l0, l1, l2, l3, some (.int x)] st m Q := kJ_next d180_61 (kg_sti (Nat.le_of_ble_eq_true rfl) hp)
theorem d180_63 : decode (mB 180) 63 = .ok (.aload_n 0, 1) := by decide +kernel
theorem s180_63 {l1 l2 l3 l4 : Option Value} {st : List Value} {x : Nat} {m : kMem} {Q : Option Value → kMem → Prop} : kJ 180 63 [some (.ref x), l1, l2, l3, l4] st m Q = kJ 180 64 [some (.ref x), l1, l2, l3, l4] (.ref x :: st) m Q := kJ_next d180_63 rfl
theorem d180_64 : decode (mB 180) 64 = .ok (.getfield 7, 3) := by decide +kernel
theorem s180_64 {l0 l1 l2 l3 l4 : Option Value} {st : List Value} {q : Nat} {mi : Nat → Nat → Int32} {ml : Nat → Nat → Int64} {mr : Nat → Nat → Option Nat} {nx : Nat} {Q : Option Value → kMem → Prop} (h : kIs nx q 5 = true) : kJ 180 64 [l0, l1, l2, l3, l4] (.ref q :: st) (mi, ml, mr, nx) Q = kJ 180 67 [l0, l1, l2, l3, l4] (va_rf (mr q 0) :: st) (mi, ml, mr, nx) Q := kJ_next d180_64 (kg_getr 5 0 rfl h (by decide))
theorem d180_67 : decode (mB 180) 67 = .ok (.iload 4, 2) := by decide +kernel
theorem s180_67 {l0 l1 l2 l3 : Option Value} {st : List Value} {x : Int32} {m : kMem} {Q : Option Value → kMem → Prop} : kJ 180 67 [l0, l1, l2, l3, some (.int x)] st m Q = kJ 180 69 [l0, l1, l2, l3, some (.int x)] (.int x :: st) m Q := kJ_next d180_67 rfl
theorem d180_69 : decode (mB 180) 69 = .ok (.iload_n 1, 1) := by decide +kernel
theorem s180_69 {l0 l2 l3 l4 : Option Value} {st : List Value} {x : Int32} {m : kMem} {Q : Option Value → kMem → Prop} : kJ 180 69 [l0, some (.int x), l2, l3, l4] st m Q = kJ 180 70 [l0, some (.int x), l2, l3, l4] (.int x :: st) m Q := kJ_next d180_69 rfl
theorem d180_70 : decode (mB 180) 70 = .ok (.iastore, 1) := by decide +kernel
theorem s180_70 {l0 l1 l2 l3 l4 : Option Value} {st : List Value} {q : Nat} {i x : Int32} {mi : Nat → Nat → Int32} {ml : Nat → Nat → Int64} {mr : Nat → Nat → Option Nat} {nx : Nat} {Q : Option Value → kMem → Prop} (h : kIs nx q 10 = true) : kJ 180 70 [l0, l1, l2, l3, l4] (.int x :: .int i :: .ref q :: st) (mi, ml, mr, nx) Q = (vp_in i (kAl q) ∧ kJ 180 71 [l0, l1, l2, l3, l4] st (kup mi q i.toNatClampNeg x, ml, mr, nx) Q) := kg_astJ d180_70 rfl (kAr_of h)
theorem d180_71 : decode (mB 180) 71 = .ok (.aload_n 0, 1) := by decide +kernel
theorem s180_71 {l1 l2 l3 l4 : Option Value} {st : List Value} {x : Nat} {m : kMem} {Q : Option Value → kMem → Prop} : kJ 180 71 [some (.ref x), l1, l2, l3, l4] st m Q = kJ 180 72 [some (.ref x), l1, l2, l3, l4] (.ref x :: st) m Q := kJ_next d180_71 rfl
theorem d180_72 : decode (mB 180) 72 = .ok (.getfield 7, 3) := by decide +kernel
theorem s180_72 {l0 l1 l2 l3 l4 : Option Value} {st : List Value} {q : Nat} {mi : Nat → Nat → Int32} {ml : Nat → Nat → Int64} {mr : Nat → Nat → Option Nat} {nx : Nat} {Q : Option Value → kMem → Prop} (h : kIs nx q 5 = true) : kJ 180 72 [l0, l1, l2, l3, l4] (.ref q :: st) (mi, ml, mr, nx) Q = kJ 180 75 [l0, l1, l2, l3, l4] (va_rf (mr q 0) :: st) (mi, ml, mr, nx) Q := kJ_next d180_72 (kg_getr 5 0 rfl h (by decide))
theorem d180_75 : decode (mB 180) 75 = .ok (.iload 4, 2) := by decide +kernel
theorem s180_75 {l0 l1 l2 l3 : Option Value} {st : List Value} {x : Int32} {m : kMem} {Q : Option Value → kMem → Prop} : kJ 180 75 [l0, l1, l2, l3, some (.int x)] st m Q = kJ 180 77 [l0, l1, l2, l3, some (.int x)] (.int x :: st) m Q := kJ_next d180_75 rfl
theorem d180_77 : decode (mB 180) 77 = .ok (.iconst 1, 1) := by decide +kernel
theorem s180_77 {l0 l1 l2 l3 l4 : Option Value} {st : List Value} {m : kMem} {Q : Option Value → kMem → Prop} : kJ 180 77 [l0, l1, l2, l3, l4] st m Q = kJ 180 78 [l0, l1, l2, l3, l4] (.int (nI 1) :: st) m Q := kJ_next d180_77 rfl
theorem d180_78 : decode (mB 180) 78 = .ok (.iadd, 1) := by decide +kernel
theorem s180_78 {l0 l1 l2 l3 l4 : Option Value} {st : List Value} {a b : Int32} {m : kMem} {Q : Option Value → kMem → Prop} : kJ 180 78 [l0, l1, l2, l3, l4] (.int b :: .int a :: st) m Q = kJ 180 79 [l0, l1, l2, l3, l4] (.int (a + b) :: st) m Q := kJ_next d180_78 rfl
theorem d180_79 : decode (mB 180) 79 = .ok (.iload_n 2, 1) := by decide +kernel
theorem s180_79 {l0 l1 l3 l4 : Option Value} {st : List Value} {x : Int32} {m : kMem} {Q : Option Value → kMem → Prop} : kJ 180 79 [l0, l1, some (.int x), l3, l4] st m Q = kJ 180 80 [l0, l1, some (.int x), l3, l4] (.int x :: st) m Q := kJ_next d180_79 rfl
theorem d180_80 : decode (mB 180) 80 = .ok (.iastore, 1) := by decide +kernel
theorem s180_80 {l0 l1 l2 l3 l4 : Option Value} {st : List Value} {q : Nat} {i x : Int32} {mi : Nat → Nat → Int32} {ml : Nat → Nat → Int64} {mr : Nat → Nat → Option Nat} {nx : Nat} {Q : Option Value → kMem → Prop} (h : kIs nx q 10 = true) : kJ 180 80 [l0, l1, l2, l3, l4] (.int x :: .int i :: .ref q :: st) (mi, ml, mr, nx) Q = (vp_in i (kAl q) ∧ kJ 180 81 [l0, l1, l2, l3, l4] st (kup mi q i.toNatClampNeg x, ml, mr, nx) Q) := kg_astJ d180_80 rfl (kAr_of h)
theorem d180_81 : decode (mB 180) 81 = .ok (.aload_n 0, 1) := by decide +kernel
theorem s180_81 {l1 l2 l3 l4 : Option Value} {st : List Value} {x : Nat} {m : kMem} {Q : Option Value → kMem → Prop} : kJ 180 81 [some (.ref x), l1, l2, l3, l4] st m Q = kJ 180 82 [some (.ref x), l1, l2, l3, l4] (.ref x :: st) m Q := kJ_next d180_81 rfl
theorem d180_82 : decode (mB 180) 82 = .ok (.getfield 7, 3) := by decide +kernel
theorem s180_82 {l0 l1 l2 l3 l4 : Option Value} {st : List Value} {q : Nat} {mi : Nat → Nat → Int32} {ml : Nat → Nat → Int64} {mr : Nat → Nat → Option Nat} {nx : Nat} {Q : Option Value → kMem → Prop} (h : kIs nx q 5 = true) : kJ 180 82 [l0, l1, l2, l3, l4] (.ref q :: st) (mi, ml, mr, nx) Q = kJ 180 85 [l0, l1, l2, l3, l4] (va_rf (mr q 0) :: st) (mi, ml, mr, nx) Q := kJ_next d180_82 (kg_getr 5 0 rfl h (by decide))
theorem d180_85 : decode (mB 180) 85 = .ok (.iload 4, 2) := by decide +kernel
theorem s180_85 {l0 l1 l2 l3 : Option Value} {st : List Value} {x : Int32} {m : kMem} {Q : Option Value → kMem → Prop} : kJ 180 85 [l0, l1, l2, l3, some (.int x)] st m Q = kJ 180 87 [l0, l1, l2, l3, some (.int x)] (.int x :: st) m Q := kJ_next d180_85 rfl
theorem d180_87 : decode (mB 180) 87 = .ok (.iconst 2, 1) := by decide +kernel
theorem s180_87 {l0 l1 l2 l3 l4 : Option Value} {st : List Value} {m : kMem} {Q : Option Value → kMem → Prop} : kJ 180 87 [l0, l1, l2, l3, l4] st m Q = kJ 180 88 [l0, l1, l2, l3, l4] (.int (nI 2) :: st) m Q := kJ_next d180_87 rfl
theorem d180_88 : decode (mB 180) 88 = .ok (.iadd, 1) := by decide +kernel
theorem s180_88 {l0 l1 l2 l3 l4 : Option Value} {st : List Value} {a b : Int32} {m : kMem} {Q : Option Value → kMem → Prop} : kJ 180 88 [l0, l1, l2, l3, l4] (.int b :: .int a :: st) m Q = kJ 180 89 [l0, l1, l2, l3, l4] (.int (a + b) :: st) m Q := kJ_next d180_88 rfl
theorem d180_89 : decode (mB 180) 89 = .ok (.iload_n 3, 1) := by decide +kernel
theorem s180_89 {l0 l1 l2 l4 : Option Value} {st : List Value} {x : Int32} {m : kMem} {Q : Option Value → kMem → Prop} : kJ 180 89 [l0, l1, l2, some (.int x), l4] st m Q = kJ 180 90 [l0, l1, l2, some (.int x), l4] (.int x :: st) m Q := kJ_next d180_89 rfl
theorem d180_90 : decode (mB 180) 90 = .ok (.iastore, 1) := by decide +kernel
theorem s180_90 {l0 l1 l2 l3 l4 : Option Value} {st : List Value} {q : Nat} {i x : Int32} {mi : Nat → Nat → Int32} {ml : Nat → Nat → Int64} {mr : Nat → Nat → Option Nat} {nx : Nat} {Q : Option Value → kMem → Prop} (h : kIs nx q 10 = true) : kJ 180 90 [l0, l1, l2, l3, l4] (.int x :: .int i :: .ref q :: st) (mi, ml, mr, nx) Q = (vp_in i (kAl q) ∧ kJ 180 91 [l0, l1, l2, l3, l4] st (kup mi q i.toNatClampNeg x, ml, mr, nx) Q) := kg_astJ d180_90 rfl (kAr_of h)
theorem d180_91 : decode (mB 180) 91 = .ok (.aload_n 0, 1) := by decide +kernel
theorem s180_91 {l1 l2 l3 l4 : Option Value} {st : List Value} {x : Nat} {m : kMem} {Q : Option Value → kMem → Prop} : kJ 180 91 [some (.ref x), l1, l2, l3, l4] st m Q = kJ 180 92 [some (.ref x), l1, l2, l3, l4] (.ref x :: st) m Q := kJ_next d180_91 rfl
theorem d180_92 : decode (mB 180) 92 = .ok (.getfield 7, 3) := by decide +kernel
theorem s180_92 {l0 l1 l2 l3 l4 : Option Value} {st : List Value} {q : Nat} {mi : Nat → Nat → Int32} {ml : Nat → Nat → Int64} {mr : Nat → Nat → Option Nat} {nx : Nat} {Q : Option Value → kMem → Prop} (h : kIs nx q 5 = true) : kJ 180 92 [l0, l1, l2, l3, l4] (.ref q :: st) (mi, ml, mr, nx) Q = kJ 180 95 [l0, l1, l2, l3, l4] (va_rf (mr q 0) :: st) (mi, ml, mr, nx) Q := kJ_next d180_92 (kg_getr 5 0 rfl h (by decide))
theorem d180_95 : decode (mB 180) 95 = .ok (.bipush 55, 2) := by decide +kernel
theorem s180_95 {l0 l1 l2 l3 l4 : Option Value} {st : List Value} {m : kMem} {Q : Option Value → kMem → Prop} : kJ 180 95 [l0, l1, l2, l3, l4] st m Q = kJ 180 97 [l0, l1, l2, l3, l4] (.int (nI 55) :: st) m Q := kJ_next d180_95 rfl
theorem d180_97 : decode (mB 180) 97 = .ok (.dup2, 1) := by decide +kernel
theorem s180_97 {l0 l1 l2 l3 l4 : Option Value} {st : List Value} {a : Int32} {b : Nat} {m : kMem} {Q : Option Value → kMem → Prop} : kJ 180 97 [l0, l1, l2, l3, l4] (.int a :: .ref b :: st) m Q = kJ 180 98 [l0, l1, l2, l3, l4] (.int a :: .ref b :: .int a :: .ref b :: st) m Q := kJ_next d180_97 rfl
theorem d180_98 : decode (mB 180) 98 = .ok (.iaload, 1) := by decide +kernel
theorem s180_98 {l0 l1 l2 l3 l4 : Option Value} {st : List Value} {q : Nat} {i : Int32} {mi : Nat → Nat → Int32} {ml : Nat → Nat → Int64} {mr : Nat → Nat → Option Nat} {nx : Nat} {Q : Option Value → kMem → Prop} (h : kIs nx q 10 = true) : kJ 180 98 [l0, l1, l2, l3, l4] (.int i :: .ref q :: st) (mi, ml, mr, nx) Q = (vp_in i (kAl q) ∧ kJ 180 99 [l0, l1, l2, l3, l4] (.int (mi q i.toNatClampNeg) :: st) (mi, ml, mr, nx) Q) := kg_aldJ d180_98 rfl (kAr_of h)
theorem d180_99 : decode (mB 180) 99 = .ok (.iconst 1, 1) := by decide +kernel
theorem s180_99 {l0 l1 l2 l3 l4 : Option Value} {st : List Value} {m : kMem} {Q : Option Value → kMem → Prop} : kJ 180 99 [l0, l1, l2, l3, l4] st m Q = kJ 180 100 [l0, l1, l2, l3, l4] (.int (nI 1) :: st) m Q := kJ_next d180_99 rfl
theorem d180_100 : decode (mB 180) 100 = .ok (.iadd, 1) := by decide +kernel
theorem s180_100 {l0 l1 l2 l3 l4 : Option Value} {st : List Value} {a b : Int32} {m : kMem} {Q : Option Value → kMem → Prop} : kJ 180 100 [l0, l1, l2, l3, l4] (.int b :: .int a :: st) m Q = kJ 180 101 [l0, l1, l2, l3, l4] (.int (a + b) :: st) m Q := kJ_next d180_100 rfl
theorem d180_101 : decode (mB 180) 101 = .ok (.iastore, 1) := by decide +kernel
theorem s180_101 {l0 l1 l2 l3 l4 : Option Value} {st : List Value} {q : Nat} {i x : Int32} {mi : Nat → Nat → Int32} {ml : Nat → Nat → Int64} {mr : Nat → Nat → Option Nat} {nx : Nat} {Q : Option Value → kMem → Prop} (h : kIs nx q 10 = true) : kJ 180 101 [l0, l1, l2, l3, l4] (.int x :: .int i :: .ref q :: st) (mi, ml, mr, nx) Q = (vp_in i (kAl q) ∧ kJ 180 102 [l0, l1, l2, l3, l4] st (kup mi q i.toNatClampNeg x, ml, mr, nx) Q) := kg_astJ d180_101 rfl (kAr_of h)
theorem d180_102 : decode (mB 180) 102 = .ok (.aload_n 0, 1) := by decide +kernel
theorem s180_102 {l1 l2 l3 l4 : Option Value} {st : List Value} {x : Nat} {m : kMem} {Q : Option Value → kMem → Prop} : kJ 180 102 [some (.ref x), l1, l2, l3, l4] st m Q = kJ 180 103 [some (.ref x), l1, l2, l3, l4] (.ref x :: st) m Q := kJ_next d180_102 rfl
theorem d180_103 : decode (mB 180) 103 = .ok (.getfield 7, 3) := by decide +kernel
theorem s180_103 {l0 l1 l2 l3 l4 : Option Value} {st : List Value} {q : Nat} {mi : Nat → Nat → Int32} {ml : Nat → Nat → Int64} {mr : Nat → Nat → Option Nat} {nx : Nat} {Q : Option Value → kMem → Prop} (h : kIs nx q 5 = true) : kJ 180 103 [l0, l1, l2, l3, l4] (.ref q :: st) (mi, ml, mr, nx) Q = kJ 180 106 [l0, l1, l2, l3, l4] (va_rf (mr q 0) :: st) (mi, ml, mr, nx) Q := kJ_next d180_103 (kg_getr 5 0 rfl h (by decide))
theorem d180_106 : decode (mB 180) 106 = .ok (.bipush 55, 2) := by decide +kernel
theorem s180_106 {l0 l1 l2 l3 l4 : Option Value} {st : List Value} {m : kMem} {Q : Option Value → kMem → Prop} : kJ 180 106 [l0, l1, l2, l3, l4] st m Q = kJ 180 108 [l0, l1, l2, l3, l4] (.int (nI 55) :: st) m Q := kJ_next d180_106 rfl
theorem d180_108 : decode (mB 180) 108 = .ok (.iaload, 1) := by decide +kernel
theorem s180_108 {l0 l1 l2 l3 l4 : Option Value} {st : List Value} {q : Nat} {i : Int32} {mi : Nat → Nat → Int32} {ml : Nat → Nat → Int64} {mr : Nat → Nat → Option Nat} {nx : Nat} {Q : Option Value → kMem → Prop} (h : kIs nx q 10 = true) : kJ 180 108 [l0, l1, l2, l3, l4] (.int i :: .ref q :: st) (mi, ml, mr, nx) Q = (vp_in i (kAl q) ∧ kJ 180 109 [l0, l1, l2, l3, l4] (.int (mi q i.toNatClampNeg) :: st) (mi, ml, mr, nx) Q) := kg_aldJ d180_108 rfl (kAr_of h)
theorem d180_109 : decode (mB 180) 109 = .ok (.ireturn, 1) := by decide +kernel
theorem s180_109 {l0 l1 l2 l3 l4 : Option Value} {x : Int32} {m : kMem} {Q : Option Value → kMem → Prop} : kJ 180 109 [l0, l1, l2, l3, l4] [.int x] m Q = Q (some (.int x)) m := kJ_ret d180_109 rfl
theorem d181_0 : decode (mB 181) 0 = .ok (.iload_n 1, 1) := by decide +kernel
theorem s181_0 {l0 : Option Value} {st : List Value} {x : Int32} {m : kMem} {Q : Option Value → kMem → Prop} : kJ 181 0 [l0, some (.int x)] st m Q = kJ 181 1 [l0, some (.int x)] (.int x :: st) m Q := kJ_next d181_0 rfl
theorem d181_1 : decode (mB 181) 1 = .ok (.i2l, 1) := by decide +kernel
theorem s181_1 {l0 l1 : Option Value} {st : List Value} {a : Int32} {m : kMem} {Q : Option Value → kMem → Prop} : kJ 181 1 [l0, l1] (.int a :: st) m Q = kJ 181 2 [l0, l1] (.long a.toInt64 :: st) m Q := kJ_next d181_1 rfl
theorem d181_2 : decode (mB 181) 2 = .ok (.lconst 0, 1) := by decide +kernel
theorem s181_2 {l0 l1 : Option Value} {st : List Value} {m : kMem} {Q : Option Value → kMem → Prop} : kJ 181 2 [l0, l1] st m Q = kJ 181 3 [l0, l1] (.long 0 :: st) m Q := kJ_next d181_2 rfl
theorem d181_3 : decode (mB 181) 3 = .ok (.aload_n 0, 1) := by decide +kernel
theorem s181_3 {l1 : Option Value} {st : List Value} {x : Nat} {m : kMem} {Q : Option Value → kMem → Prop} : kJ 181 3 [some (.ref x), l1] st m Q = kJ 181 4 [some (.ref x), l1] (.ref x :: st) m Q := kJ_next d181_3 rfl
theorem d181_4 : decode (mB 181) 4 = .ok (.getfield 7, 3) := by decide +kernel
theorem s181_4 {l0 l1 : Option Value} {st : List Value} {q : Nat} {mi : Nat → Nat → Int32} {ml : Nat → Nat → Int64} {mr : Nat → Nat → Option Nat} {nx : Nat} {Q : Option Value → kMem → Prop} (h : kIs nx q 5 = true) : kJ 181 4 [l0, l1] (.ref q :: st) (mi, ml, mr, nx) Q = kJ 181 7 [l0, l1] (va_rf (mr q 0) :: st) (mi, ml, mr, nx) Q := kJ_next d181_4 (kg_getr 5 0 rfl h (by decide))
theorem d181_7 : decode (mB 181) 7 = .ok (.bipush 55, 2) := by decide +kernel
theorem s181_7 {l0 l1 : Option Value} {st : List Value} {m : kMem} {Q : Option Value → kMem → Prop} : kJ 181 7 [l0, l1] st m Q = kJ 181 9 [l0, l1] (.int (nI 55) :: st) m Q := kJ_next d181_7 rfl
theorem d181_9 : decode (mB 181) 9 = .ok (.iaload, 1) := by decide +kernel
theorem s181_9 {l0 l1 : Option Value} {st : List Value} {q : Nat} {i : Int32} {mi : Nat → Nat → Int32} {ml : Nat → Nat → Int64} {mr : Nat → Nat → Option Nat} {nx : Nat} {Q : Option Value → kMem → Prop} (h : kIs nx q 10 = true) : kJ 181 9 [l0, l1] (.int i :: .ref q :: st) (mi, ml, mr, nx) Q = (vp_in i (kAl q) ∧ kJ 181 10 [l0, l1] (.int (mi q i.toNatClampNeg) :: st) (mi, ml, mr, nx) Q) := kg_aldJ d181_9 rfl (kAr_of h)
theorem d181_10 : decode (mB 181) 10 = .ok (.i2l, 1) := by decide +kernel
theorem s181_10 {l0 l1 : Option Value} {st : List Value} {a : Int32} {m : kMem} {Q : Option Value → kMem → Prop} : kJ 181 10 [l0, l1] (.int a :: st) m Q = kJ 181 11 [l0, l1] (.long a.toInt64 :: st) m Q := kJ_next d181_10 rfl
theorem d181_11 : decode (mB 181) 11 = .ok (.invokestatic 60, 3) := by decide +kernel
theorem s181_11 {l0 l1 : Option Value} {v0 : Int64} {v1 : Int64} {v2 : Int64} {m : kMem} {Q : Option Value → kMem → Prop} : kJ 181 11 [l0, l1] [.long v0, .long v1, .long v2] m Q = kJ 107 0 [some (.long v2), none, some (.long v1), none, some (.long v0), none] [] m (fun v m2 => kJ 181 14 [l0, l1] (v.toList ++ []) m2 Q) := kJ_call d181_11 (kg_calls 107 3 rfl rfl (Nat.le_of_ble_eq_true rfl) (Nat.le_of_ble_eq_true rfl) (Nat.le_of_ble_eq_true rfl) (Nat.le_of_ble_eq_true rfl))
theorem d181_14 : decode (mB 181) 14 = .ok (.ifCond .eq 13, 3) := by decide +kernel
theorem s181_14 {l0 l1 : Option Value} {st : List Value} {a : Int32} {m : kMem} {Q : Option Value → kMem → Prop} : kJ 181 14 [l0, l1] (.int a :: st) m Q = (if a = 0 then kJ 181 27 [l0, l1] st m Q else kJ 181 17 [l0, l1] st m Q) := kJ_if d181_14 rfl (fun h => kJ_next d181_14 h) (fun h => kJ_next d181_14 h)
theorem d181_17 : decode (mB 181) 17 = .ok (.aload_n 0, 1) := by decide +kernel
theorem s181_17 {l1 : Option Value} {st : List Value} {x : Nat} {m : kMem} {Q : Option Value → kMem → Prop} : kJ 181 17 [some (.ref x), l1] st m Q = kJ 181 18 [some (.ref x), l1] (.ref x :: st) m Q := kJ_next d181_17 rfl
theorem d181_18 : decode (mB 181) 18 = .ok (.bipush 55, 2) := by decide +kernel
theorem s181_18 {l0 l1 : Option Value} {st : List Value} {m : kMem} {Q : Option Value → kMem → Prop} : kJ 181 18 [l0, l1] st m Q = kJ 181 20 [l0, l1] (.int (nI 55) :: st) m Q := kJ_next d181_18 rfl
theorem d181_20 : decode (mB 181) 20 = .ok (.iload_n 1, 1) := by decide +kernel
theorem s181_20 {l0 : Option Value} {st : List Value} {x : Int32} {m : kMem} {Q : Option Value → kMem → Prop} : kJ 181 20 [l0, some (.int x)] st m Q = kJ 181 21 [l0, some (.int x)] (.int x :: st) m Q := kJ_next d181_20 rfl
theorem d181_21 : decode (mB 181) 21 = .ok (.invokevirtual 218, 3) := by decide +kernel
theorem s181_21 {l0 l1 : Option Value} {v0 : Int32} {v1 : Int32} {v2 : Nat} {m : kMem} {Q : Option Value → kMem → Prop} (h : kIs m.2.2.2 v2 5 = true) : kJ 181 21 [l0, l1] [.int v0, .int v1, .ref v2] m Q = kJ 153 0 [some (.ref v2), some (.int v1), some (.int v0), none] [] m (fun v m2 => kJ 181 24 [l0, l1] (v.toList ++ []) m2 Q) := kJ_call d181_21 (kg_callv 153 2 rfl rfl rfl rfl (Nat.le_of_ble_eq_true rfl) (Nat.le_of_ble_eq_true rfl) (Nat.le_of_ble_eq_true rfl) h rfl)
theorem d181_24 : decode (mB 181) 24 = .ok (.goto 4, 3) := by decide +kernel
theorem s181_24 {l0 l1 : Option Value} {st : List Value} {m : kMem} {Q : Option Value → kMem → Prop} : kJ 181 24 [l0, l1] st m Q = kJ 181 28 [l0, l1] st m Q := kJ_next d181_24 rfl
theorem d181_27 : decode (mB 181) 27 = .ok (.iconst (-1), 1) := by decide +kernel
theorem s181_27 {l0 l1 : Option Value} {st : List Value} {m : kMem} {Q : Option Value → kMem → Prop} : kJ 181 27 [l0, l1] st m Q = kJ 181 28 [l0, l1] (.int (-1) :: st) m Q := kJ_next d181_27 rfl
theorem d181_28 : decode (mB 181) 28 = .ok (.ireturn, 1) := by decide +kernel
theorem s181_28 {l0 l1 : Option Value} {x : Int32} {m : kMem} {Q : Option Value → kMem → Prop} : kJ 181 28 [l0, l1] [.int x] m Q = Q (some (.int x)) m := kJ_ret d181_28 rfl
theorem d182_0 : decode (mB 182) 0 = .ok (.aload_n 0, 1) := by decide +kernel
theorem s182_0 {l1 l2 l3 l4 l5 : Option Value} {st : List Value} {x : Nat} {m : kMem} {Q : Option Value → kMem → Prop} : kJ 182 0 [some (.ref x), l1, l2, l3, l4, l5] st m Q = kJ 182 1 [some (.ref x), l1, l2, l3, l4, l5] (.ref x :: st) m Q := kJ_next d182_0 rfl
theorem d182_1 : decode (mB 182) 1 = .ok (.invokevirtual 195, 3) := by decide +kernel
theorem s182_1 {l0 l1 l2 l3 l4 l5 : Option Value} {v0 : Nat} {m : kMem} {Q : Option Value → kMem → Prop} (h : kIs m.2.2.2 v0 5 = true) : kJ 182 1 [l0, l1, l2, l3, l4, l5] [.ref v0] m Q = kJ 130 0 [some (.ref v0), none] [] m (fun v m2 => kJ 182 4 [l0, l1, l2, l3, l4, l5] (v.toList ++ []) m2 Q) := kJ_call d182_1 (kg_callv 130 0 rfl rfl rfl rfl (Nat.le_of_ble_eq_true rfl) (Nat.le_of_ble_eq_true rfl) (Nat.le_of_ble_eq_true rfl) h rfl)
theorem d182_4 : decode (mB 182) 4 = .ok (.aload_n 0, 1) := by decide +kernel
theorem s182_4 {l1 l2 l3 l4 l5 : Option Value} {st : List Value} {x : Nat} {m : kMem} {Q : Option Value → kMem → Prop} : kJ 182 4 [some (.ref x), l1, l2, l3, l4, l5] st m Q = kJ 182 5 [some (.ref x), l1, l2, l3, l4, l5] (.ref x :: st) m Q := kJ_next d182_4 rfl
theorem d182_5 : decode (mB 182) 5 = .ok (.getfield 13, 3) := by decide +kernel
theorem s182_5 {l0 l1 l2 l3 l4 l5 : Option Value} {st : List Value} {q : Nat} {mi : Nat → Nat → Int32} {ml : Nat → Nat → Int64} {mr : Nat → Nat → Option Nat} {nx : Nat} {Q : Option Value → kMem → Prop} (h : kIs nx q 5 = true) : kJ 182 5 [l0, l1, l2, l3, l4, l5] (.ref q :: st) (mi, ml, mr, nx) Q = kJ 182 8 [l0, l1, l2, l3, l4, l5] (va_rf (mr q 1) :: st) (mi, ml, mr, nx) Q := kJ_next d182_5 (kg_getr 5 1 rfl h (by decide))
theorem d182_8 : decode (mB 182) 8 = .ok (.iload_n 1, 1) := by decide +kernel
theorem s182_8 {l0 l2 l3 l4 l5 : Option Value} {st : List Value} {x : Int32} {m : kMem} {Q : Option Value → kMem → Prop} : kJ 182 8 [l0, some (.int x), l2, l3, l4, l5] st m Q = kJ 182 9 [l0, some (.int x), l2, l3, l4, l5] (.int x :: st) m Q := kJ_next d182_8 rfl
theorem d182_9 : decode (mB 182) 9 = .ok (.iload_n 2, 1) := by decide +kernel
theorem s182_9 {l0 l1 l3 l4 l5 : Option Value} {st : List Value} {x : Int32} {m : kMem} {Q : Option Value → kMem → Prop} : kJ 182 9 [l0, l1, some (.int x), l3, l4, l5] st m Q = kJ 182 10 [l0, l1, some (.int x), l3, l4, l5] (.int x :: st) m Q := kJ_next d182_9 rfl
theorem d182_10 : decode (mB 182) 10 = .ok (.iastore, 1) := by decide +kernel
theorem s182_10 {l0 l1 l2 l3 l4 l5 : Option Value} {st : List Value} {q : Nat} {i x : Int32} {mi : Nat → Nat → Int32} {ml : Nat → Nat → Int64} {mr : Nat → Nat → Option Nat} {nx : Nat} {Q : Option Value → kMem → Prop} (h : kIs nx q 10 = true) : kJ 182 10 [l0, l1, l2, l3, l4, l5] (.int x :: .int i :: .ref q :: st) (mi, ml, mr, nx) Q = (vp_in i (kAl q) ∧ kJ 182 11 [l0, l1, l2, l3, l4, l5] st (kup mi q i.toNatClampNeg x, ml, mr, nx) Q) := kg_astJ d182_10 rfl (kAr_of h)
theorem d182_11 : decode (mB 182) 11 = .ok (.iconst 0, 1) := by decide +kernel
theorem s182_11 {l0 l1 l2 l3 l4 l5 : Option Value} {st : List Value} {m : kMem} {Q : Option Value → kMem → Prop} : kJ 182 11 [l0, l1, l2, l3, l4, l5] st m Q = kJ 182 12 [l0, l1, l2, l3, l4, l5] (.int (nI 0) :: st) m Q := kJ_next d182_11 rfl
theorem d182_12 : decode (mB 182) 12 = .ok (.istore_n 3, 1) := by decide +kernel
theorem s182_12 {l0 l1 l2 l3 l4 l5 : Option Value} {st : List Value} {x : Int32} {m : kMem} {Q : Option Value → kMem → Prop} (hp : kNL l2 = true) : kJ 182 12 [l0, l1, l2, l3, l4, l5] (.int x :: st) m Q = kJ 182 13 [l0, l1, l2, some (.int x), l4, l5] st m Q := kJ_next d182_12 (kg_sti (Nat.le_of_ble_eq_true rfl) hp)
theorem d182_13 : decode (mB 182) 13 = .ok (.iload_n 3, 1) := by decide +kernel
theorem s182_13 {l0 l1 l2 l4 l5 : Option Value} {st : List Value} {x : Int32} {m : kMem} {Q : Option Value → kMem → Prop} : kJ 182 13 [l0, l1, l2, some (.int x), l4, l5] st m Q = kJ 182 14 [l0, l1, l2, some (.int x), l4, l5] (.int x :: st) m Q := kJ_next d182_13 rfl
theorem d182_14 : decode (mB 182) 14 = .ok (.bipush 20, 2) := by decide +kernel
theorem s182_14 {l0 l1 l2 l3 l4 l5 : Option Value} {st : List Value} {m : kMem} {Q : Option Value → kMem → Prop} : kJ 182 14 [l0, l1, l2, l3, l4, l5] st m Q = kJ 182 16 [l0, l1, l2, l3, l4, l5] (.int (nI 20) :: st) m Q := kJ_next d182_14 rfl
theorem d182_16 : decode (mB 182) 16 = .ok (.if_icmp .gt 53, 3) := by decide +kernel
theorem s182_16 {l0 l1 l2 l3 l4 l5 : Option Value} {st : List Value} {a b : Int32} {m : kMem} {Q : Option Value → kMem → Prop} : kJ 182 16 [l0, l1, l2, l3, l4, l5] (.int b :: .int a :: st) m Q = (if b < a then kJ 182 69 [l0, l1, l2, l3, l4, l5] st m Q else kJ 182 19 [l0, l1, l2, l3, l4, l5] st m Q) := kJ_if d182_16 rfl (fun h => kJ_next d182_16 h) (fun h => kJ_next d182_16 h)
theorem d182_19 : decode (mB 182) 19 = .ok (.iconst 0, 1) := by decide +kernel
theorem s182_19 {l0 l1 l2 l3 l4 l5 : Option Value} {st : List Value} {m : kMem} {Q : Option Value → kMem → Prop} : kJ 182 19 [l0, l1, l2, l3, l4, l5] st m Q = kJ 182 20 [l0, l1, l2, l3, l4, l5] (.int (nI 0) :: st) m Q := kJ_next d182_19 rfl
theorem d182_20 : decode (mB 182) 20 = .ok (.istore 4, 2) := by decide +kernel
theorem s182_20 {l0 l1 l2 l3 l4 l5 : Option Value} {st : List Value} {x : Int32} {m : kMem} {Q : Option Value → kMem → Prop} (hp : kNL l3 = true) : kJ 182 20 [l0, l1, l2, l3, l4, l5] (.int x :: st) m Q = kJ 182 22 [l0, l1, l2, l3, some (.int x), l5] st m Q := kJ_next d182_20 (kg_sti (Nat.le_of_ble_eq_true rfl) hp)
theorem d182_22 : decode (mB 182) 22 = .ok (.iload 4, 2) := by decide +kernel
theorem s182_22 {l0 l1 l2 l3 l5 : Option Value} {st : List Value} {x : Int32} {m : kMem} {Q : Option Value → kMem → Prop} : kJ 182 22 [l0, l1, l2, l3, some (.int x), l5] st m Q = kJ 182 24 [l0, l1, l2, l3, some (.int x), l5] (.int x :: st) m Q := kJ_next d182_22 rfl
theorem d182_24 : decode (mB 182) 24 = .ok (.aload_n 0, 1) := by decide +kernel
theorem s182_24 {l1 l2 l3 l4 l5 : Option Value} {st : List Value} {x : Nat} {m : kMem} {Q : Option Value → kMem → Prop} : kJ 182 24 [some (.ref x), l1, l2, l3, l4, l5] st m Q = kJ 182 25 [some (.ref x), l1, l2, l3, l4, l5] (.ref x :: st) m Q := kJ_next d182_24 rfl
theorem d182_25 : decode (mB 182) 25 = .ok (.getfield 13, 3) := by decide +kernel
theorem s182_25 {l0 l1 l2 l3 l4 l5 : Option Value} {st : List Value} {q : Nat} {mi : Nat → Nat → Int32} {ml : Nat → Nat → Int64} {mr : Nat → Nat → Option Nat} {nx : Nat} {Q : Option Value → kMem → Prop} (h : kIs nx q 5 = true) : kJ 182 25 [l0, l1, l2, l3, l4, l5] (.ref q :: st) (mi, ml, mr, nx) Q = kJ 182 28 [l0, l1, l2, l3, l4, l5] (va_rf (mr q 1) :: st) (mi, ml, mr, nx) Q := kJ_next d182_25 (kg_getr 5 1 rfl h (by decide))
theorem d182_28 : decode (mB 182) 28 = .ok (.bipush 15, 2) := by decide +kernel
theorem s182_28 {l0 l1 l2 l3 l4 l5 : Option Value} {st : List Value} {m : kMem} {Q : Option Value → kMem → Prop} : kJ 182 28 [l0, l1, l2, l3, l4, l5] st m Q = kJ 182 30 [l0, l1, l2, l3, l4, l5] (.int (nI 15) :: st) m Q := kJ_next d182_28 rfl
theorem d182_30 : decode (mB 182) 30 = .ok (.iaload, 1) := by decide +kernel
theorem s182_30 {l0 l1 l2 l3 l4 l5 : Option Value} {st : List Value} {q : Nat} {i : Int32} {mi : Nat → Nat → Int32} {ml : Nat → Nat → Int64} {mr : Nat → Nat → Option Nat} {nx : Nat} {Q : Option Value → kMem → Prop} (h : kIs nx q 10 = true) : kJ 182 30 [l0, l1, l2, l3, l4, l5] (.int i :: .ref q :: st) (mi, ml, mr, nx) Q = (vp_in i (kAl q) ∧ kJ 182 31 [l0, l1, l2, l3, l4, l5] (.int (mi q i.toNatClampNeg) :: st) (mi, ml, mr, nx) Q) := kg_aldJ d182_30 rfl (kAr_of h)
theorem d182_31 : decode (mB 182) 31 = .ok (.if_icmp .ge 27, 3) := by decide +kernel
theorem s182_31 {l0 l1 l2 l3 l4 l5 : Option Value} {st : List Value} {a b : Int32} {m : kMem} {Q : Option Value → kMem → Prop} : kJ 182 31 [l0, l1, l2, l3, l4, l5] (.int b :: .int a :: st) m Q = (if b ≤ a then kJ 182 58 [l0, l1, l2, l3, l4, l5] st m Q else kJ 182 34 [l0, l1, l2, l3, l4, l5] st m Q) := kJ_if d182_31 rfl (fun h => kJ_next d182_31 h) (fun h => kJ_next d182_31 h)
theorem d182_34 : decode (mB 182) 34 = .ok (.aload_n 0, 1) := by decide +kernel
theorem s182_34 {l1 l2 l3 l4 l5 : Option Value} {st : List Value} {x : Nat} {m : kMem} {Q : Option Value → kMem → Prop} : kJ 182 34 [some (.ref x), l1, l2, l3, l4, l5] st m Q = kJ 182 35 [some (.ref x), l1, l2, l3, l4, l5] (.ref x :: st) m Q := kJ_next d182_34 rfl
theorem d182_35 : decode (mB 182) 35 = .ok (.getfield 26, 3) := by decide +kernel
theorem s182_35 {l0 l1 l2 l3 l4 l5 : Option Value} {st : List Value} {q : Nat} {mi : Nat → Nat → Int32} {ml : Nat → Nat → Int64} {mr : Nat → Nat → Option Nat} {nx : Nat} {Q : Option Value → kMem → Prop} (h : kIs nx q 5 = true) : kJ 182 35 [l0, l1, l2, l3, l4, l5] (.ref q :: st) (mi, ml, mr, nx) Q = kJ 182 38 [l0, l1, l2, l3, l4, l5] (va_rf (mr q 21) :: st) (mi, ml, mr, nx) Q := kJ_next d182_35 (kg_getr 5 21 rfl h (by decide))
theorem d182_38 : decode (mB 182) 38 = .ok (.iconst 5, 1) := by decide +kernel
theorem s182_38 {l0 l1 l2 l3 l4 l5 : Option Value} {st : List Value} {m : kMem} {Q : Option Value → kMem → Prop} : kJ 182 38 [l0, l1, l2, l3, l4, l5] st m Q = kJ 182 39 [l0, l1, l2, l3, l4, l5] (.int (nI 5) :: st) m Q := kJ_next d182_38 rfl
theorem d182_39 : decode (mB 182) 39 = .ok (.iload_n 3, 1) := by decide +kernel
theorem s182_39 {l0 l1 l2 l4 l5 : Option Value} {st : List Value} {x : Int32} {m : kMem} {Q : Option Value → kMem → Prop} : kJ 182 39 [l0, l1, l2, some (.int x), l4, l5] st m Q = kJ 182 40 [l0, l1, l2, some (.int x), l4, l5] (.int x :: st) m Q := kJ_next d182_39 rfl
theorem d182_40 : decode (mB 182) 40 = .ok (.imul, 1) := by decide +kernel
theorem s182_40 {l0 l1 l2 l3 l4 l5 : Option Value} {st : List Value} {a b : Int32} {m : kMem} {Q : Option Value → kMem → Prop} : kJ 182 40 [l0, l1, l2, l3, l4, l5] (.int b :: .int a :: st) m Q = kJ 182 41 [l0, l1, l2, l3, l4, l5] (.int (a * b) :: st) m Q := kJ_next d182_40 rfl
theorem d182_41 : decode (mB 182) 41 = .ok (.iload 4, 2) := by decide +kernel
theorem s182_41 {l0 l1 l2 l3 l5 : Option Value} {st : List Value} {x : Int32} {m : kMem} {Q : Option Value → kMem → Prop} : kJ 182 41 [l0, l1, l2, l3, some (.int x), l5] st m Q = kJ 182 43 [l0, l1, l2, l3, some (.int x), l5] (.int x :: st) m Q := kJ_next d182_41 rfl
theorem d182_43 : decode (mB 182) 43 = .ok (.iadd, 1) := by decide +kernel
theorem s182_43 {l0 l1 l2 l3 l4 l5 : Option Value} {st : List Value} {a b : Int32} {m : kMem} {Q : Option Value → kMem → Prop} : kJ 182 43 [l0, l1, l2, l3, l4, l5] (.int b :: .int a :: st) m Q = kJ 182 44 [l0, l1, l2, l3, l4, l5] (.int (a + b) :: st) m Q := kJ_next d182_43 rfl
theorem d182_44 : decode (mB 182) 44 = .ok (.aload_n 0, 1) := by decide +kernel
theorem s182_44 {l1 l2 l3 l4 l5 : Option Value} {st : List Value} {x : Nat} {m : kMem} {Q : Option Value → kMem → Prop} : kJ 182 44 [some (.ref x), l1, l2, l3, l4, l5] st m Q = kJ 182 45 [some (.ref x), l1, l2, l3, l4, l5] (.ref x :: st) m Q := kJ_next d182_44 rfl
theorem d182_45 : decode (mB 182) 45 = .ok (.iload 4, 2) := by decide +kernel
theorem s182_45 {l0 l1 l2 l3 l5 : Option Value} {st : List Value} {x : Int32} {m : kMem} {Q : Option Value → kMem → Prop} : kJ 182 45 [l0, l1, l2, l3, some (.int x), l5] st m Q = kJ 182 47 [l0, l1, l2, l3, some (.int x), l5] (.int x :: st) m Q := kJ_next d182_45 rfl
theorem d182_47 : decode (mB 182) 47 = .ok (.iconst 2, 1) := by decide +kernel
theorem s182_47 {l0 l1 l2 l3 l4 l5 : Option Value} {st : List Value} {m : kMem} {Q : Option Value → kMem → Prop} : kJ 182 47 [l0, l1, l2, l3, l4, l5] st m Q = kJ 182 48 [l0, l1, l2, l3, l4, l5] (.int (nI 2) :: st) m Q := kJ_next d182_47 rfl
theorem d182_48 : decode (mB 182) 48 = .ok (.invokevirtual 144, 3) := by decide +kernel
theorem s182_48 {l0 l1 l2 l3 l4 l5 : Option Value} {v0 : Int32} {v1 : Int32} {v2 : Nat} {v3 : Int32} {v4 : Nat} {m : kMem} {Q : Option Value → kMem → Prop} (h : kIs m.2.2.2 v2 5 = true) : kJ 182 48 [l0, l1, l2, l3, l4, l5] [.int v0, .int v1, .ref v2, .int v3, .ref v4] m Q = kJ 132 0 [some (.ref v2), some (.int v1), some (.int v0)] [] m (fun v m2 => kJ 182 51 [l0, l1, l2, l3, l4, l5] (v.toList ++ [.int v3, .ref v4]) m2 Q) := kJ_call d182_48 (kg_callv 132 2 rfl rfl rfl rfl (Nat.le_of_ble_eq_true rfl) (Nat.le_of_ble_eq_true rfl) (Nat.le_of_ble_eq_true rfl) h rfl)
theorem d182_51 : decode (mB 182) 51 = .ok (.iastore, 1) := by decide +kernel
theorem s182_51 {l0 l1 l2 l3 l4 l5 : Option Value} {st : List Value} {q : Nat} {i x : Int32} {mi : Nat → Nat → Int32} {ml : Nat → Nat → Int64} {mr : Nat → Nat → Option Nat} {nx : Nat} {Q : Option Value → kMem → Prop} (h : kIs nx q 10 = true) : kJ 182 51 [l0, l1, l2, l3, l4, l5] (.int x :: .int i :: .ref q :: st) (mi, ml, mr, nx) Q = (vp_in i (kAl q) ∧ kJ 182 52 [l0, l1, l2, l3, l4, l5] st (kup mi q i.toNatClampNeg x, ml, mr, nx) Q) := kg_astJ d182_51 rfl (kAr_of h)
theorem d182_52 : decode (mB 182) 52 = .ok (.iinc 4 1, 3) := by decide +kernel
theorem s182_52 {l0 l1 l2 l3 l5 : Option Value} {st : List Value} {x : Int32} {m : kMem} {Q : Option Value → kMem → Prop} (hp : kNL l3 = true) : kJ 182 52 [l0, l1, l2, l3, some (.int x), l5] st m Q = kJ 182 55 [l0, l1, l2, l3, some (.int (x + (nI 1))), l5] st m Q := kJ_next d182_52 (kg_inc rfl (Nat.le_of_ble_eq_true rfl) hp)
theorem d182_55 : decode (mB 182) 55 = .ok (.goto (-33), 3) := by decide +kernel
theorem s182_55 {l0 l1 l2 l3 l4 l5 : Option Value} {st : List Value} {m : kMem} {Q : Option Value → kMem → Prop} : kJ 182 55 [l0, l1, l2, l3, l4, l5] st m Q = kJ 182 22 [l0, l1, l2, l3, l4, l5] st m Q := kJ_next d182_55 rfl
theorem d182_58 : decode (mB 182) 58 = .ok (.aload_n 0, 1) := by decide +kernel
theorem s182_58 {l1 l2 l3 l4 l5 : Option Value} {st : List Value} {x : Nat} {m : kMem} {Q : Option Value → kMem → Prop} : kJ 182 58 [some (.ref x), l1, l2, l3, l4, l5] st m Q = kJ 182 59 [some (.ref x), l1, l2, l3, l4, l5] (.ref x :: st) m Q := kJ_next d182_58 rfl
theorem d182_59 : decode (mB 182) 59 = .ok (.iconst 1, 1) := by decide +kernel
theorem s182_59 {l0 l1 l2 l3 l4 l5 : Option Value} {st : List Value} {m : kMem} {Q : Option Value → kMem → Prop} : kJ 182 59 [l0, l1, l2, l3, l4, l5] st m Q = kJ 182 60 [l0, l1, l2, l3, l4, l5] (.int (nI 1) :: st) m Q := kJ_next d182_59 rfl
theorem d182_60 : decode (mB 182) 60 = .ok (.invokevirtual 181, 3) := by decide +kernel
theorem s182_60 {l0 l1 l2 l3 l4 l5 : Option Value} {v0 : Int32} {v1 : Nat} {m : kMem} {Q : Option Value → kMem → Prop} (h : kIs m.2.2.2 v1 5 = true) : kJ 182 60 [l0, l1, l2, l3, l4, l5] [.int v0, .ref v1] m Q = kJ 144 0 [some (.ref v1), some (.int v0), none] [] m (fun v m2 => kJ 182 63 [l0, l1, l2, l3, l4, l5] (v.toList ++ []) m2 Q) := kJ_call d182_60 (kg_callv 144 1 rfl rfl rfl rfl (Nat.le_of_ble_eq_true rfl) (Nat.le_of_ble_eq_true rfl) (Nat.le_of_ble_eq_true rfl) h rfl)
theorem d182_63 : decode (mB 182) 63 = .ok (.iinc 3 1, 3) := by decide +kernel
theorem s182_63 {l0 l1 l2 l4 l5 : Option Value} {st : List Value} {x : Int32} {m : kMem} {Q : Option Value → kMem → Prop} (hp : kNL l2 = true) : kJ 182 63 [l0, l1, l2, some (.int x), l4, l5] st m Q = kJ 182 66 [l0, l1, l2, some (.int (x + (nI 1))), l4, l5] st m Q := kJ_next d182_63 (kg_inc rfl (Nat.le_of_ble_eq_true rfl) hp)
theorem d182_66 : decode (mB 182) 66 = .ok (.goto (-53), 3) := by decide +kernel
theorem s182_66 {l0 l1 l2 l3 l4 l5 : Option Value} {st : List Value} {m : kMem} {Q : Option Value → kMem → Prop} : kJ 182 66 [l0, l1, l2, l3, l4, l5] st m Q = kJ 182 13 [l0, l1, l2, l3, l4, l5] st m Q := kJ_next d182_66 rfl
theorem d182_69 : decode (mB 182) 69 = .ok (.iconst 1, 1) := by decide +kernel
theorem s182_69 {l0 l1 l2 l3 l4 l5 : Option Value} {st : List Value} {m : kMem} {Q : Option Value → kMem → Prop} : kJ 182 69 [l0, l1, l2, l3, l4, l5] st m Q = kJ 182 70 [l0, l1, l2, l3, l4, l5] (.int (nI 1) :: st) m Q := kJ_next d182_69 rfl
theorem d182_70 : decode (mB 182) 70 = .ok (.istore_n 3, 1) := by decide +kernel
theorem s182_70 {l0 l1 l2 l3 l4 l5 : Option Value} {st : List Value} {x : Int32} {m : kMem} {Q : Option Value → kMem → Prop} (hp : kNL l2 = true) : kJ 182 70 [l0, l1, l2, l3, l4, l5] (.int x :: st) m Q = kJ 182 71 [l0, l1, l2, some (.int x), l4, l5] st m Q := kJ_next d182_70 (kg_sti (Nat.le_of_ble_eq_true rfl) hp)
theorem d182_71 : decode (mB 182) 71 = .ok (.iconst 0, 1) := by decide +kernel
theorem s182_71 {l0 l1 l2 l3 l4 l5 : Option Value} {st : List Value} {m : kMem} {Q : Option Value → kMem → Prop} : kJ 182 71 [l0, l1, l2, l3, l4, l5] st m Q = kJ 182 72 [l0, l1, l2, l3, l4, l5] (.int (nI 0) :: st) m Q := kJ_next d182_71 rfl
theorem d182_72 : decode (mB 182) 72 = .ok (.istore 4, 2) := by decide +kernel
theorem s182_72 {l0 l1 l2 l3 l4 l5 : Option Value} {st : List Value} {x : Int32} {m : kMem} {Q : Option Value → kMem → Prop} (hp : kNL l3 = true) : kJ 182 72 [l0, l1, l2, l3, l4, l5] (.int x :: st) m Q = kJ 182 74 [l0, l1, l2, l3, some (.int x), l5] st m Q := kJ_next d182_72 (kg_sti (Nat.le_of_ble_eq_true rfl) hp)
theorem d182_74 : decode (mB 182) 74 = .ok (.iload 4, 2) := by decide +kernel
theorem s182_74 {l0 l1 l2 l3 l5 : Option Value} {st : List Value} {x : Int32} {m : kMem} {Q : Option Value → kMem → Prop} : kJ 182 74 [l0, l1, l2, l3, some (.int x), l5] st m Q = kJ 182 76 [l0, l1, l2, l3, some (.int x), l5] (.int x :: st) m Q := kJ_next d182_74 rfl
theorem d182_76 : decode (mB 182) 76 = .ok (.aload_n 0, 1) := by decide +kernel
theorem s182_76 {l1 l2 l3 l4 l5 : Option Value} {st : List Value} {x : Nat} {m : kMem} {Q : Option Value → kMem → Prop} : kJ 182 76 [some (.ref x), l1, l2, l3, l4, l5] st m Q = kJ 182 77 [some (.ref x), l1, l2, l3, l4, l5] (.ref x :: st) m Q := kJ_next d182_76 rfl
theorem d182_77 : decode (mB 182) 77 = .ok (.getfield 7, 3) := by decide +kernel
theorem s182_77 {l0 l1 l2 l3 l4 l5 : Option Value} {st : List Value} {q : Nat} {mi : Nat → Nat → Int32} {ml : Nat → Nat → Int64} {mr : Nat → Nat → Option Nat} {nx : Nat} {Q : Option Value → kMem → Prop} (h : kIs nx q 5 = true) : kJ 182 77 [l0, l1, l2, l3, l4, l5] (.ref q :: st) (mi, ml, mr, nx) Q = kJ 182 80 [l0, l1, l2, l3, l4, l5] (va_rf (mr q 0) :: st) (mi, ml, mr, nx) Q := kJ_next d182_77 (kg_getr 5 0 rfl h (by decide))
theorem d182_80 : decode (mB 182) 80 = .ok (.bipush 55, 2) := by decide +kernel
theorem s182_80 {l0 l1 l2 l3 l4 l5 : Option Value} {st : List Value} {m : kMem} {Q : Option Value → kMem → Prop} : kJ 182 80 [l0, l1, l2, l3, l4, l5] st m Q = kJ 182 82 [l0, l1, l2, l3, l4, l5] (.int (nI 55) :: st) m Q := kJ_next d182_80 rfl
theorem d182_82 : decode (mB 182) 82 = .ok (.iaload, 1) := by decide +kernel
theorem s182_82 {l0 l1 l2 l3 l4 l5 : Option Value} {st : List Value} {q : Nat} {i : Int32} {mi : Nat → Nat → Int32} {ml : Nat → Nat → Int64} {mr : Nat → Nat → Option Nat} {nx : Nat} {Q : Option Value → kMem → Prop} (h : kIs nx q 10 = true) : kJ 182 82 [l0, l1, l2, l3, l4, l5] (.int i :: .ref q :: st) (mi, ml, mr, nx) Q = (vp_in i (kAl q) ∧ kJ 182 83 [l0, l1, l2, l3, l4, l5] (.int (mi q i.toNatClampNeg) :: st) (mi, ml, mr, nx) Q) := kg_aldJ d182_82 rfl (kAr_of h)
theorem d182_83 : decode (mB 182) 83 = .ok (.if_icmp .ge 64, 3) := by decide +kernel
theorem s182_83 {l0 l1 l2 l3 l4 l5 : Option Value} {st : List Value} {a b : Int32} {m : kMem} {Q : Option Value → kMem → Prop} : kJ 182 83 [l0, l1, l2, l3, l4, l5] (.int b :: .int a :: st) m Q = (if b ≤ a then kJ 182 147 [l0, l1, l2, l3, l4, l5] st m Q else kJ 182 86 [l0, l1, l2, l3, l4, l5] st m Q) := kJ_if d182_83 rfl (fun h => kJ_next d182_83 h) (fun h => kJ_next d182_83 h)
theorem d182_86 : decode (mB 182) 86 = .ok (.bipush 56, 2) := by decide +kernel
theorem s182_86 {l0 l1 l2 l3 l4 l5 : Option Value} {st : List Value} {m : kMem} {Q : Option Value → kMem → Prop} : kJ 182 86 [l0, l1, l2, l3, l4, l5] st m Q = kJ 182 88 [l0, l1, l2, l3, l4, l5] (.int (nI 56) :: st) m Q := kJ_next d182_86 rfl
theorem d182_88 : decode (mB 182) 88 = .ok (.iconst 3, 1) := by decide +kernel
theorem s182_88 {l0 l1 l2 l3 l4 l5 : Option Value} {st : List Value} {m : kMem} {Q : Option Value → kMem → Prop} : kJ 182 88 [l0, l1, l2, l3, l4, l5] st m Q = kJ 182 89 [l0, l1, l2, l3, l4, l5] (.int (nI 3) :: st) m Q := kJ_next d182_88 rfl
theorem d182_89 : decode (mB 182) 89 = .ok (.iload 4, 2) := by decide +kernel
theorem s182_89 {l0 l1 l2 l3 l5 : Option Value} {st : List Value} {x : Int32} {m : kMem} {Q : Option Value → kMem → Prop} : kJ 182 89 [l0, l1, l2, l3, some (.int x), l5] st m Q = kJ 182 91 [l0, l1, l2, l3, some (.int x), l5] (.int x :: st) m Q := kJ_next d182_89 rfl
theorem d182_91 : decode (mB 182) 91 = .ok (.imul, 1) := by decide +kernel
theorem s182_91 {l0 l1 l2 l3 l4 l5 : Option Value} {st : List Value} {a b : Int32} {m : kMem} {Q : Option Value → kMem → Prop} : kJ 182 91 [l0, l1, l2, l3, l4, l5] (.int b :: .int a :: st) m Q = kJ 182 92 [l0, l1, l2, l3, l4, l5] (.int (a * b) :: st) m Q := kJ_next d182_91 rfl
theorem d182_92 : decode (mB 182) 92 = .ok (.iadd, 1) := by decide +kernel
theorem s182_92 {l0 l1 l2 l3 l4 l5 : Option Value} {st : List Value} {a b : Int32} {m : kMem} {Q : Option Value → kMem → Prop} : kJ 182 92 [l0, l1, l2, l3, l4, l5] (.int b :: .int a :: st) m Q = kJ 182 93 [l0, l1, l2, l3, l4, l5] (.int (a + b) :: st) m Q := kJ_next d182_92 rfl
theorem d182_93 : decode (mB 182) 93 = .ok (.istore 5, 2) := by decide +kernel
theorem s182_93 {l0 l1 l2 l3 l4 l5 : Option Value} {st : List Value} {x : Int32} {m : kMem} {Q : Option Value → kMem → Prop} (hp : kNL l4 = true) : kJ 182 93 [l0, l1, l2, l3, l4, l5] (.int x :: st) m Q = kJ 182 95 [l0, l1, l2, l3, l4, some (.int x)] st m Q := kJ_next d182_93 (kg_sti (Nat.le_of_ble_eq_true rfl) hp)
theorem d182_95 : decode (mB 182) 95 = .ok (.iload_n 3, 1) := by decide +kernel
theorem s182_95 {l0 l1 l2 l4 l5 : Option Value} {st : List Value} {x : Int32} {m : kMem} {Q : Option Value → kMem → Prop} : kJ 182 95 [l0, l1, l2, some (.int x), l4, l5] st m Q = kJ 182 96 [l0, l1, l2, some (.int x), l4, l5] (.int x :: st) m Q := kJ_next d182_95 rfl
theorem d182_96 : decode (mB 182) 96 = .ok (.ifCond .eq 43, 3) := by decide +kernel
theorem s182_96 {l0 l1 l2 l3 l4 l5 : Option Value} {st : List Value} {a : Int32} {m : kMem} {Q : Option Value → kMem → Prop} : kJ 182 96 [l0, l1, l2, l3, l4, l5] (.int a :: st) m Q = (if a = 0 then kJ 182 139 [l0, l1, l2, l3, l4, l5] st m Q else kJ 182 99 [l0, l1, l2, l3, l4, l5] st m Q) := kJ_if d182_96 rfl (fun h => kJ_next d182_96 h) (fun h => kJ_next d182_96 h)
theorem d182_99 : decode (mB 182) 99 = .ok (.aload_n 0, 1) := by decide +kernel
theorem s182_99 {l1 l2 l3 l4 l5 : Option Value} {st : List Value} {x : Nat} {m : kMem} {Q : Option Value → kMem → Prop} : kJ 182 99 [some (.ref x), l1, l2, l3, l4, l5] st m Q = kJ 182 100 [some (.ref x), l1, l2, l3, l4, l5] (.ref x :: st) m Q := kJ_next d182_99 rfl
theorem d182_100 : decode (mB 182) 100 = .ok (.getfield 26, 3) := by decide +kernel
theorem s182_100 {l0 l1 l2 l3 l4 l5 : Option Value} {st : List Value} {q : Nat} {mi : Nat → Nat → Int32} {ml : Nat → Nat → Int64} {mr : Nat → Nat → Option Nat} {nx : Nat} {Q : Option Value → kMem → Prop} (h : kIs nx q 5 = true) : kJ 182 100 [l0, l1, l2, l3, l4, l5] (.ref q :: st) (mi, ml, mr, nx) Q = kJ 182 103 [l0, l1, l2, l3, l4, l5] (va_rf (mr q 21) :: st) (mi, ml, mr, nx) Q := kJ_next d182_100 (kg_getr 5 21 rfl h (by decide))
theorem d182_103 : decode (mB 182) 103 = .ok (.iconst 5, 1) := by decide +kernel
theorem s182_103 {l0 l1 l2 l3 l4 l5 : Option Value} {st : List Value} {m : kMem} {Q : Option Value → kMem → Prop} : kJ 182 103 [l0, l1, l2, l3, l4, l5] st m Q = kJ 182 104 [l0, l1, l2, l3, l4, l5] (.int (nI 5) :: st) m Q := kJ_next d182_103 rfl
theorem d182_104 : decode (mB 182) 104 = .ok (.aload_n 0, 1) := by decide +kernel
theorem s182_104 {l1 l2 l3 l4 l5 : Option Value} {st : List Value} {x : Nat} {m : kMem} {Q : Option Value → kMem → Prop} : kJ 182 104 [some (.ref x), l1, l2, l3, l4, l5] st m Q = kJ 182 105 [some (.ref x), l1, l2, l3, l4, l5] (.ref x :: st) m Q := kJ_next d182_104 rfl
theorem d182_105 : decode (mB 182) 105 = .ok (.getfield 7, 3) := by decide +kernel
theorem s182_105 {l0 l1 l2 l3 l4 l5 : Option Value} {st : List Value} {q : Nat} {mi : Nat → Nat → Int32} {ml : Nat → Nat → Int64} {mr : Nat → Nat → Option Nat} {nx : Nat} {Q : Option Value → kMem → Prop} (h : kIs nx q 5 = true) : kJ 182 105 [l0, l1, l2, l3, l4, l5] (.ref q :: st) (mi, ml, mr, nx) Q = kJ 182 108 [l0, l1, l2, l3, l4, l5] (va_rf (mr q 0) :: st) (mi, ml, mr, nx) Q := kJ_next d182_105 (kg_getr 5 0 rfl h (by decide))
theorem d182_108 : decode (mB 182) 108 = .ok (.iload 5, 2) := by decide +kernel
theorem s182_108 {l0 l1 l2 l3 l4 : Option Value} {st : List Value} {x : Int32} {m : kMem} {Q : Option Value → kMem → Prop} : kJ 182 108 [l0, l1, l2, l3, l4, some (.int x)] st m Q = kJ 182 110 [l0, l1, l2, l3, l4, some (.int x)] (.int x :: st) m Q := kJ_next d182_108 rfl
theorem d182_110 : decode (mB 182) 110 = .ok (.iaload, 1) := by decide +kernel
theorem s182_110 {l0 l1 l2 l3 l4 l5 : Option Value} {st : List Value} {q : Nat} {i : Int32} {mi : Nat → Nat → Int32} {ml : Nat → Nat → Int64} {mr : Nat → Nat → Option Nat} {nx : Nat} {Q : Option Value → kMem → Prop} (h : kIs nx q 10 = true) : kJ 182 110 [l0, l1, l2, l3, l4, l5] (.int i :: .ref q :: st) (mi, ml, mr, nx) Q = (vp_in i (kAl q) ∧ kJ 182 111 [l0, l1, l2, l3, l4, l5] (.int (mi q i.toNatClampNeg) :: st) (mi, ml, mr, nx) Q) := kg_aldJ d182_110 rfl (kAr_of h)
theorem d182_111 : decode (mB 182) 111 = .ok (.imul, 1) := by decide +kernel
theorem s182_111 {l0 l1 l2 l3 l4 l5 : Option Value} {st : List Value} {a b : Int32} {m : kMem} {Q : Option Value → kMem → Prop} : kJ 182 111 [l0, l1, l2, l3, l4, l5] (.int b :: .int a :: st) m Q = kJ 182 112 [l0, l1, l2, l3, l4, l5] (.int (a * b) :: st) m Q := kJ_next d182_111 rfl
theorem d182_112 : decode (mB 182) 112 = .ok (.aload_n 0, 1) := by decide +kernel
theorem s182_112 {l1 l2 l3 l4 l5 : Option Value} {st : List Value} {x : Nat} {m : kMem} {Q : Option Value → kMem → Prop} : kJ 182 112 [some (.ref x), l1, l2, l3, l4, l5] st m Q = kJ 182 113 [some (.ref x), l1, l2, l3, l4, l5] (.ref x :: st) m Q := kJ_next d182_112 rfl
theorem d182_113 : decode (mB 182) 113 = .ok (.getfield 7, 3) := by decide +kernel
theorem s182_113 {l0 l1 l2 l3 l4 l5 : Option Value} {st : List Value} {q : Nat} {mi : Nat → Nat → Int32} {ml : Nat → Nat → Int64} {mr : Nat → Nat → Option Nat} {nx : Nat} {Q : Option Value → kMem → Prop} (h : kIs nx q 5 = true) : kJ 182 113 [l0, l1, l2, l3, l4, l5] (.ref q :: st) (mi, ml, mr, nx) Q = kJ 182 116 [l0, l1, l2, l3, l4, l5] (va_rf (mr q 0) :: st) (mi, ml, mr, nx) Q := kJ_next d182_113 (kg_getr 5 0 rfl h (by decide))
theorem d182_116 : decode (mB 182) 116 = .ok (.iload 5, 2) := by decide +kernel
theorem s182_116 {l0 l1 l2 l3 l4 : Option Value} {st : List Value} {x : Int32} {m : kMem} {Q : Option Value → kMem → Prop} : kJ 182 116 [l0, l1, l2, l3, l4, some (.int x)] st m Q = kJ 182 118 [l0, l1, l2, l3, l4, some (.int x)] (.int x :: st) m Q := kJ_next d182_116 rfl
theorem d182_118 : decode (mB 182) 118 = .ok (.iconst 1, 1) := by decide +kernel
theorem s182_118 {l0 l1 l2 l3 l4 l5 : Option Value} {st : List Value} {m : kMem} {Q : Option Value → kMem → Prop} : kJ 182 118 [l0, l1, l2, l3, l4, l5] st m Q = kJ 182 119 [l0, l1, l2, l3, l4, l5] (.int (nI 1) :: st) m Q := kJ_next d182_118 rfl
theorem d182_119 : decode (mB 182) 119 = .ok (.iadd, 1) := by decide +kernel
theorem s182_119 {l0 l1 l2 l3 l4 l5 : Option Value} {st : List Value} {a b : Int32} {m : kMem} {Q : Option Value → kMem → Prop} : kJ 182 119 [l0, l1, l2, l3, l4, l5] (.int b :: .int a :: st) m Q = kJ 182 120 [l0, l1, l2, l3, l4, l5] (.int (a + b) :: st) m Q := kJ_next d182_119 rfl
theorem d182_120 : decode (mB 182) 120 = .ok (.iaload, 1) := by decide +kernel
theorem s182_120 {l0 l1 l2 l3 l4 l5 : Option Value} {st : List Value} {q : Nat} {i : Int32} {mi : Nat → Nat → Int32} {ml : Nat → Nat → Int64} {mr : Nat → Nat → Option Nat} {nx : Nat} {Q : Option Value → kMem → Prop} (h : kIs nx q 10 = true) : kJ 182 120 [l0, l1, l2, l3, l4, l5] (.int i :: .ref q :: st) (mi, ml, mr, nx) Q = (vp_in i (kAl q) ∧ kJ 182 121 [l0, l1, l2, l3, l4, l5] (.int (mi q i.toNatClampNeg) :: st) (mi, ml, mr, nx) Q) := kg_aldJ d182_120 rfl (kAr_of h)
theorem d182_121 : decode (mB 182) 121 = .ok (.iadd, 1) := by decide +kernel
theorem s182_121 {l0 l1 l2 l3 l4 l5 : Option Value} {st : List Value} {a b : Int32} {m : kMem} {Q : Option Value → kMem → Prop} : kJ 182 121 [l0, l1, l2, l3, l4, l5] (.int b :: .int a :: st) m Q = kJ 182 122 [l0, l1, l2, l3, l4, l5] (.int (a + b) :: st) m Q := kJ_next d182_121 rfl
theorem d182_122 : decode (mB 182) 122 = .ok (.iaload, 1) := by decide +kernel
theorem s182_122 {l0 l1 l2 l3 l4 l5 : Option Value} {st : List Value} {q : Nat} {i : Int32} {mi : Nat → Nat → Int32} {ml : Nat → Nat → Int64} {mr : Nat → Nat → Option Nat} {nx : Nat} {Q : Option Value → kMem → Prop} (h : kIs nx q 10 = true) : kJ 182 122 [l0, l1, l2, l3, l4, l5] (.int i :: .ref q :: st) (mi, ml, mr, nx) Q = (vp_in i (kAl q) ∧ kJ 182 123 [l0, l1, l2, l3, l4, l5] (.int (mi q i.toNatClampNeg) :: st) (mi, ml, mr, nx) Q) := kg_aldJ d182_122 rfl (kAr_of h)
theorem d182_123 : decode (mB 182) 123 = .ok (.aload_n 0, 1) := by decide +kernel
theorem s182_123 {l1 l2 l3 l4 l5 : Option Value} {st : List Value} {x : Nat} {m : kMem} {Q : Option Value → kMem → Prop} : kJ 182 123 [some (.ref x), l1, l2, l3, l4, l5] st m Q = kJ 182 124 [some (.ref x), l1, l2, l3, l4, l5] (.ref x :: st) m Q := kJ_next d182_123 rfl
theorem d182_124 : decode (mB 182) 124 = .ok (.getfield 7, 3) := by decide +kernel
theorem s182_124 {l0 l1 l2 l3 l4 l5 : Option Value} {st : List Value} {q : Nat} {mi : Nat → Nat → Int32} {ml : Nat → Nat → Int64} {mr : Nat → Nat → Option Nat} {nx : Nat} {Q : Option Value → kMem → Prop} (h : kIs nx q 5 = true) : kJ 182 124 [l0, l1, l2, l3, l4, l5] (.ref q :: st) (mi, ml, mr, nx) Q = kJ 182 127 [l0, l1, l2, l3, l4, l5] (va_rf (mr q 0) :: st) (mi, ml, mr, nx) Q := kJ_next d182_124 (kg_getr 5 0 rfl h (by decide))
theorem d182_127 : decode (mB 182) 127 = .ok (.iload 5, 2) := by decide +kernel
theorem s182_127 {l0 l1 l2 l3 l4 : Option Value} {st : List Value} {x : Int32} {m : kMem} {Q : Option Value → kMem → Prop} : kJ 182 127 [l0, l1, l2, l3, l4, some (.int x)] st m Q = kJ 182 129 [l0, l1, l2, l3, l4, some (.int x)] (.int x :: st) m Q := kJ_next d182_127 rfl
theorem d182_129 : decode (mB 182) 129 = .ok (.iconst 2, 1) := by decide +kernel
theorem s182_129 {l0 l1 l2 l3 l4 l5 : Option Value} {st : List Value} {m : kMem} {Q : Option Value → kMem → Prop} : kJ 182 129 [l0, l1, l2, l3, l4, l5] st m Q = kJ 182 130 [l0, l1, l2, l3, l4, l5] (.int (nI 2) :: st) m Q := kJ_next d182_129 rfl
theorem d182_130 : decode (mB 182) 130 = .ok (.iadd, 1) := by decide +kernel
theorem s182_130 {l0 l1 l2 l3 l4 l5 : Option Value} {st : List Value} {a b : Int32} {m : kMem} {Q : Option Value → kMem → Prop} : kJ 182 130 [l0, l1, l2, l3, l4, l5] (.int b :: .int a :: st) m Q = kJ 182 131 [l0, l1, l2, l3, l4, l5] (.int (a + b) :: st) m Q := kJ_next d182_130 rfl
theorem d182_131 : decode (mB 182) 131 = .ok (.iaload, 1) := by decide +kernel
theorem s182_131 {l0 l1 l2 l3 l4 l5 : Option Value} {st : List Value} {q : Nat} {i : Int32} {mi : Nat → Nat → Int32} {ml : Nat → Nat → Int64} {mr : Nat → Nat → Option Nat} {nx : Nat} {Q : Option Value → kMem → Prop} (h : kIs nx q 10 = true) : kJ 182 131 [l0, l1, l2, l3, l4, l5] (.int i :: .ref q :: st) (mi, ml, mr, nx) Q = (vp_in i (kAl q) ∧ kJ 182 132 [l0, l1, l2, l3, l4, l5] (.int (mi q i.toNatClampNeg) :: st) (mi, ml, mr, nx) Q) := kg_aldJ d182_131 rfl (kAr_of h)
theorem d182_132 : decode (mB 182) 132 = .ok (.if_icmp .ne 7, 3) := by decide +kernel
theorem s182_132 {l0 l1 l2 l3 l4 l5 : Option Value} {st : List Value} {a b : Int32} {m : kMem} {Q : Option Value → kMem → Prop} : kJ 182 132 [l0, l1, l2, l3, l4, l5] (.int b :: .int a :: st) m Q = (if a = b then kJ 182 135 [l0, l1, l2, l3, l4, l5] st m Q else kJ 182 139 [l0, l1, l2, l3, l4, l5] st m Q) := kJ_if d182_132 rfl (fun h => kJ_next d182_132 h) (fun h => kJ_next d182_132 h)
theorem d182_135 : decode (mB 182) 135 = .ok (.iconst 1, 1) := by decide +kernel
theorem s182_135 {l0 l1 l2 l3 l4 l5 : Option Value} {st : List Value} {m : kMem} {Q : Option Value → kMem → Prop} : kJ 182 135 [l0, l1, l2, l3, l4, l5] st m Q = kJ 182 136 [l0, l1, l2, l3, l4, l5] (.int (nI 1) :: st) m Q := kJ_next d182_135 rfl
theorem d182_136 : decode (mB 182) 136 = .ok (.goto 4, 3) := by decide +kernel
theorem s182_136 {l0 l1 l2 l3 l4 l5 : Option Value} {st : List Value} {m : kMem} {Q : Option Value → kMem → Prop} : kJ 182 136 [l0, l1, l2, l3, l4, l5] st m Q = kJ 182 140 [l0, l1, l2, l3, l4, l5] st m Q := kJ_next d182_136 rfl
theorem d182_139 : decode (mB 182) 139 = .ok (.iconst 0, 1) := by decide +kernel
theorem s182_139 {l0 l1 l2 l3 l4 l5 : Option Value} {st : List Value} {m : kMem} {Q : Option Value → kMem → Prop} : kJ 182 139 [l0, l1, l2, l3, l4, l5] st m Q = kJ 182 140 [l0, l1, l2, l3, l4, l5] (.int (nI 0) :: st) m Q := kJ_next d182_139 rfl
theorem d182_140 : decode (mB 182) 140 = .ok (.istore_n 3, 1) := by decide +kernel
theorem s182_140 {l0 l1 l2 l3 l4 l5 : Option Value} {st : List Value} {x : Int32} {m : kMem} {Q : Option Value → kMem → Prop} (hp : kNL l2 = true) : kJ 182 140 [l0, l1, l2, l3, l4, l5] (.int x :: st) m Q = kJ 182 141 [l0, l1, l2, some (.int x), l4, l5] st m Q := kJ_next d182_140 (kg_sti (Nat.le_of_ble_eq_true rfl) hp)
theorem d182_141 : decode (mB 182) 141 = .ok (.iinc 4 1, 3) := by decide +kernel
theorem s182_141 {l0 l1 l2 l3 l5 : Option Value} {st : List Value} {x : Int32} {m : kMem} {Q : Option Value → kMem → Prop} (hp : kNL l3 = true) : kJ 182 141 [l0, l1, l2, l3, some (.int x), l5] st m Q = kJ 182 144 [l0, l1, l2, l3, some (.int (x + (nI 1))), l5] st m Q := kJ_next d182_141 (kg_inc rfl (Nat.le_of_ble_eq_true rfl) hp)
theorem d182_144 : decode (mB 182) 144 = .ok (.goto (-70), 3) := by decide +kernel
theorem s182_144 {l0 l1 l2 l3 l4 l5 : Option Value} {st : List Value} {m : kMem} {Q : Option Value → kMem → Prop} : kJ 182 144 [l0, l1, l2, l3, l4, l5] st m Q = kJ 182 74 [l0, l1, l2, l3, l4, l5] st m Q := kJ_next d182_144 rfl
theorem d182_147 : decode (mB 182) 147 = .ok (.iload_n 3, 1) := by decide +kernel
theorem s182_147 {l0 l1 l2 l4 l5 : Option Value} {st : List Value} {x : Int32} {m : kMem} {Q : Option Value → kMem → Prop} : kJ 182 147 [l0, l1, l2, some (.int x), l4, l5] st m Q = kJ 182 148 [l0, l1, l2, some (.int x), l4, l5] (.int x :: st) m Q := kJ_next d182_147 rfl
theorem d182_148 : decode (mB 182) 148 = .ok (.ireturn, 1) := by decide +kernel
theorem s182_148 {l0 l1 l2 l3 l4 l5 : Option Value} {x : Int32} {m : kMem} {Q : Option Value → kMem → Prop} (hx : x = 0 ∨ x = 1) : kJ 182 148 [l0, l1, l2, l3, l4, l5] [.int x] m Q = Q (some (.int x)) m := kJ_ret d182_148 (kg_retz (by decide) hx)
theorem d183_0 : decode (mB 183) 0 = .ok (.iconst 0, 1) := by decide +kernel
theorem s183_0 {l0 l1 l2 l3 l4 : Option Value} {st : List Value} {m : kMem} {Q : Option Value → kMem → Prop} : kJ 183 0 [l0, l1, l2, l3, l4] st m Q = kJ 183 1 [l0, l1, l2, l3, l4] (.int (nI 0) :: st) m Q := kJ_next d183_0 rfl
theorem d183_1 : decode (mB 183) 1 = .ok (.istore_n 3, 1) := by decide +kernel
theorem s183_1 {l0 l1 l2 l3 l4 : Option Value} {st : List Value} {x : Int32} {m : kMem} {Q : Option Value → kMem → Prop} (hp : kNL l2 = true) : kJ 183 1 [l0, l1, l2, l3, l4] (.int x :: st) m Q = kJ 183 2 [l0, l1, l2, some (.int x), l4] st m Q := kJ_next d183_1 (kg_sti (Nat.le_of_ble_eq_true rfl) hp)
theorem d183_2 : decode (mB 183) 2 = .ok (.iconst 0, 1) := by decide +kernel
theorem s183_2 {l0 l1 l2 l3 l4 : Option Value} {st : List Value} {m : kMem} {Q : Option Value → kMem → Prop} : kJ 183 2 [l0, l1, l2, l3, l4] st m Q = kJ 183 3 [l0, l1, l2, l3, l4] (.int (nI 0) :: st) m Q := kJ_next d183_2 rfl
theorem d183_3 : decode (mB 183) 3 = .ok (.istore 4, 2) := by decide +kernel
theorem s183_3 {l0 l1 l2 l3 l4 : Option Value} {st : List Value} {x : Int32} {m : kMem} {Q : Option Value → kMem → Prop} (hp : kNL l3 = true) : kJ 183 3 [l0, l1, l2, l3, l4] (.int x :: st) m Q = kJ 183 5 [l0, l1, l2, l3, some (.int x)] st m Q := kJ_next d183_3 (kg_sti (Nat.le_of_ble_eq_true rfl) hp)
theorem d183_5 : decode (mB 183) 5 = .ok (.iload 4, 2) := by decide +kernel
theorem s183_5 {l0 l1 l2 l3 : Option Value} {st : List Value} {x : Int32} {m : kMem} {Q : Option Value → kMem → Prop} : kJ 183 5 [l0, l1, l2, l3, some (.int x)] st m Q = kJ 183 7 [l0, l1, l2, l3, some (.int x)] (.int x :: st) m Q := kJ_next d183_5 rfl
theorem d183_7 : decode (mB 183) 7 = .ok (.iload_n 2, 1) := by decide +kernel
theorem s183_7 {l0 l1 l3 l4 : Option Value} {st : List Value} {x : Int32} {m : kMem} {Q : Option Value → kMem → Prop} : kJ 183 7 [l0, l1, some (.int x), l3, l4] st m Q = kJ 183 8 [l0, l1, some (.int x), l3, l4] (.int x :: st) m Q := kJ_next d183_7 rfl
theorem d183_8 : decode (mB 183) 8 = .ok (.if_icmp .ge 25, 3) := by decide +kernel
theorem s183_8 {l0 l1 l2 l3 l4 : Option Value} {st : List Value} {a b : Int32} {m : kMem} {Q : Option Value → kMem → Prop} : kJ 183 8 [l0, l1, l2, l3, l4] (.int b :: .int a :: st) m Q = (if b ≤ a then kJ 183 33 [l0, l1, l2, l3, l4] st m Q else kJ 183 11 [l0, l1, l2, l3, l4] st m Q) := kJ_if d183_8 rfl (fun h => kJ_next d183_8 h) (fun h => kJ_next d183_8 h)
theorem d183_11 : decode (mB 183) 11 = .ok (.iload_n 3, 1) := by decide +kernel
theorem s183_11 {l0 l1 l2 l4 : Option Value} {st : List Value} {x : Int32} {m : kMem} {Q : Option Value → kMem → Prop} : kJ 183 11 [l0, l1, l2, some (.int x), l4] st m Q = kJ 183 12 [l0, l1, l2, some (.int x), l4] (.int x :: st) m Q := kJ_next d183_11 rfl
theorem d183_12 : decode (mB 183) 12 = .ok (.aload_n 0, 1) := by decide +kernel
theorem s183_12 {l1 l2 l3 l4 : Option Value} {st : List Value} {x : Nat} {m : kMem} {Q : Option Value → kMem → Prop} : kJ 183 12 [some (.ref x), l1, l2, l3, l4] st m Q = kJ 183 13 [some (.ref x), l1, l2, l3, l4] (.ref x :: st) m Q := kJ_next d183_12 rfl
theorem d183_13 : decode (mB 183) 13 = .ok (.iload_n 1, 1) := by decide +kernel
theorem s183_13 {l0 l2 l3 l4 : Option Value} {st : List Value} {x : Int32} {m : kMem} {Q : Option Value → kMem → Prop} : kJ 183 13 [l0, some (.int x), l2, l3, l4] st m Q = kJ 183 14 [l0, some (.int x), l2, l3, l4] (.int x :: st) m Q := kJ_next d183_13 rfl
theorem d183_14 : decode (mB 183) 14 = .ok (.iload 4, 2) := by decide +kernel
theorem s183_14 {l0 l1 l2 l3 : Option Value} {st : List Value} {x : Int32} {m : kMem} {Q : Option Value → kMem → Prop} : kJ 183 14 [l0, l1, l2, l3, some (.int x)] st m Q = kJ 183 16 [l0, l1, l2, l3, some (.int x)] (.int x :: st) m Q := kJ_next d183_14 rfl
theorem d183_16 : decode (mB 183) 16 = .ok (.invokevirtual 288, 3) := by decide +kernel
theorem s183_16 {l0 l1 l2 l3 l4 : Option Value} {v0 : Int32} {v1 : Int32} {v2 : Nat} {v3 : Int32} {m : kMem} {Q : Option Value → kMem → Prop} (h : kIs m.2.2.2 v2 5 = true) : kJ 183 16 [l0, l1, l2, l3, l4] [.int v0, .int v1, .ref v2, .int v3] m Q = kJ 182 0 [some (.ref v2), some (.int v1), some (.int v0), none, none, none] [] m (fun v m2 => kJ 183 19 [l0, l1, l2, l3, l4] (v.toList ++ [.int v3]) m2 Q) := kJ_call d183_16 (kg_callv 182 2 rfl rfl rfl rfl (Nat.le_of_ble_eq_true rfl) (Nat.le_of_ble_eq_true rfl) (Nat.le_of_ble_eq_true rfl) h rfl)
theorem d183_19 : decode (mB 183) 19 = .ok (.invokestatic 191, 3) := by decide +kernel
theorem s183_19 {l0 l1 l2 l3 l4 : Option Value} {v0 : Int32} {v1 : Int32} {m : kMem} {Q : Option Value → kMem → Prop} : kJ 183 19 [l0, l1, l2, l3, l4] [.int v0, .int v1] m Q = kJ 108 0 [some (.int v0)] [] m (fun v m2 => kJ 183 22 [l0, l1, l2, l3, l4] (v.toList ++ [.int v1]) m2 Q) := kJ_call d183_19 (kg_calls 108 1 rfl rfl (Nat.le_of_ble_eq_true rfl) (Nat.le_of_ble_eq_true rfl) (Nat.le_of_ble_eq_true rfl) (Nat.le_of_ble_eq_true rfl))
theorem d183_22 : decode (mB 183) 22 = .ok (.iload 4, 2) := by decide +kernel
theorem s183_22 {l0 l1 l2 l3 : Option Value} {st : List Value} {x : Int32} {m : kMem} {Q : Option Value → kMem → Prop} : kJ 183 22 [l0, l1, l2, l3, some (.int x)] st m Q = kJ 183 24 [l0, l1, l2, l3, some (.int x)] (.int x :: st) m Q := kJ_next d183_22 rfl
theorem d183_24 : decode (mB 183) 24 = .ok (.ishl, 1) := by decide +kernel
theorem s183_24 {l0 l1 l2 l3 l4 : Option Value} {st : List Value} {a b : Int32} {m : kMem} {Q : Option Value → kMem → Prop} : kJ 183 24 [l0, l1, l2, l3, l4] (.int b :: .int a :: st) m Q = kJ 183 25 [l0, l1, l2, l3, l4] (.int (a <<< (b &&& 31)) :: st) m Q := kJ_next d183_24 rfl
theorem d183_25 : decode (mB 183) 25 = .ok (.ior, 1) := by decide +kernel
theorem s183_25 {l0 l1 l2 l3 l4 : Option Value} {st : List Value} {a b : Int32} {m : kMem} {Q : Option Value → kMem → Prop} : kJ 183 25 [l0, l1, l2, l3, l4] (.int b :: .int a :: st) m Q = kJ 183 26 [l0, l1, l2, l3, l4] (.int (a ||| b) :: st) m Q := kJ_next d183_25 rfl
theorem d183_26 : decode (mB 183) 26 = .ok (.istore_n 3, 1) := by decide +kernel
theorem s183_26 {l0 l1 l2 l3 l4 : Option Value} {st : List Value} {x : Int32} {m : kMem} {Q : Option Value → kMem → Prop} (hp : kNL l2 = true) : kJ 183 26 [l0, l1, l2, l3, l4] (.int x :: st) m Q = kJ 183 27 [l0, l1, l2, some (.int x), l4] st m Q := kJ_next d183_26 (kg_sti (Nat.le_of_ble_eq_true rfl) hp)
theorem d183_27 : decode (mB 183) 27 = .ok (.iinc 4 1, 3) := by decide +kernel
theorem s183_27 {l0 l1 l2 l3 : Option Value} {st : List Value} {x : Int32} {m : kMem} {Q : Option Value → kMem → Prop} (hp : kNL l3 = true) : kJ 183 27 [l0, l1, l2, l3, some (.int x)] st m Q = kJ 183 30 [l0, l1, l2, l3, some (.int (x + (nI 1)))] st m Q := kJ_next d183_27 (kg_inc rfl (Nat.le_of_ble_eq_true rfl) hp)
theorem d183_30 : decode (mB 183) 30 = .ok (.goto (-25), 3) := by decide +kernel
theorem s183_30 {l0 l1 l2 l3 l4 : Option Value} {st : List Value} {m : kMem} {Q : Option Value → kMem → Prop} : kJ 183 30 [l0, l1, l2, l3, l4] st m Q = kJ 183 5 [l0, l1, l2, l3, l4] st m Q := kJ_next d183_30 rfl
theorem d183_33 : decode (mB 183) 33 = .ok (.iload_n 3, 1) := by decide +kernel
theorem s183_33 {l0 l1 l2 l4 : Option Value} {st : List Value} {x : Int32} {m : kMem} {Q : Option Value → kMem → Prop} : kJ 183 33 [l0, l1, l2, some (.int x), l4] st m Q = kJ 183 34 [l0, l1, l2, some (.int x), l4] (.int x :: st) m Q := kJ_next d183_33 rfl
theorem d183_34 : decode (mB 183) 34 = .ok (.ireturn, 1) := by decide +kernel
theorem s183_34 {l0 l1 l2 l3 l4 : Option Value} {x : Int32} {m : kMem} {Q : Option Value → kMem → Prop} : kJ 183 34 [l0, l1, l2, l3, l4] [.int x] m Q = Q (some (.int x)) m := kJ_ret d183_34 rfl
theorem d184_0 : decode (mB 184) 0 = .ok (.aload_n 0, 1) := by decide +kernel
theorem s184_0 {l1 : Option Value} {st : List Value} {x : Nat} {m : kMem} {Q : Option Value → kMem → Prop} : kJ 184 0 [some (.ref x), l1] st m Q = kJ 184 1 [some (.ref x), l1] (.ref x :: st) m Q := kJ_next d184_0 rfl
theorem d184_1 : decode (mB 184) 1 = .ok (.iload_n 1, 1) := by decide +kernel
theorem s184_1 {l0 : Option Value} {st : List Value} {x : Int32} {m : kMem} {Q : Option Value → kMem → Prop} : kJ 184 1 [l0, some (.int x)] st m Q = kJ 184 2 [l0, some (.int x)] (.int x :: st) m Q := kJ_next d184_1 rfl
theorem d184_2 : decode (mB 184) 2 = .ok (.invokevirtual 201, 3) := by decide +kernel
theorem s184_2 {l0 l1 : Option Value} {v0 : Int32} {v1 : Nat} {m : kMem} {Q : Option Value → kMem → Prop} (h : kIs m.2.2.2 v1 5 = true) : kJ 184 2 [l0, l1] [.int v0, .ref v1] m Q = kJ 126 0 [some (.ref v1), some (.int v0)] [] m (fun v m2 => kJ 184 5 [l0, l1] (v.toList ++ []) m2 Q) := kJ_call d184_2 (kg_callv 126 1 rfl rfl rfl rfl (Nat.le_of_ble_eq_true rfl) (Nat.le_of_ble_eq_true rfl) (Nat.le_of_ble_eq_true rfl) h rfl)
theorem d184_5 : decode (mB 184) 5 = .ok (.ifCond .eq 16, 3) := by decide +kernel
theorem s184_5 {l0 l1 : Option Value} {st : List Value} {a : Int32} {m : kMem} {Q : Option Value → kMem → Prop} : kJ 184 5 [l0, l1] (.int a :: st) m Q = (if a = 0 then kJ 184 21 [l0, l1] st m Q else kJ 184 8 [l0, l1] st m Q) := kJ_if d184_5 rfl (fun h => kJ_next d184_5 h) (fun h => kJ_next d184_5 h)
theorem d184_8 : decode (mB 184) 8 = .ok (.aload_n 0, 1) := by decide +kernel
theorem s184_8 {l1 : Option Value} {st : List Value} {x : Nat} {m : kMem} {Q : Option Value → kMem → Prop} : kJ 184 8 [some (.ref x), l1] st m Q = kJ 184 9 [some (.ref x), l1] (.ref x :: st) m Q := kJ_next d184_8 rfl
theorem d184_9 : decode (mB 184) 9 = .ok (.iconst 3, 1) := by decide +kernel
theorem s184_9 {l0 l1 : Option Value} {st : List Value} {m : kMem} {Q : Option Value → kMem → Prop} : kJ 184 9 [l0, l1] st m Q = kJ 184 10 [l0, l1] (.int (nI 3) :: st) m Q := kJ_next d184_9 rfl
theorem d184_10 : decode (mB 184) 10 = .ok (.iload_n 1, 1) := by decide +kernel
theorem s184_10 {l0 : Option Value} {st : List Value} {x : Int32} {m : kMem} {Q : Option Value → kMem → Prop} : kJ 184 10 [l0, some (.int x)] st m Q = kJ 184 11 [l0, some (.int x)] (.int x :: st) m Q := kJ_next d184_10 rfl
theorem d184_11 : decode (mB 184) 11 = .ok (.imul, 1) := by decide +kernel
theorem s184_11 {l0 l1 : Option Value} {st : List Value} {a b : Int32} {m : kMem} {Q : Option Value → kMem → Prop} : kJ 184 11 [l0, l1] (.int b :: .int a :: st) m Q = kJ 184 12 [l0, l1] (.int (a * b) :: st) m Q := kJ_next d184_11 rfl
theorem d184_12 : decode (mB 184) 12 = .ok (.iconst 0, 1) := by decide +kernel
theorem s184_12 {l0 l1 : Option Value} {st : List Value} {m : kMem} {Q : Option Value → kMem → Prop} : kJ 184 12 [l0, l1] st m Q = kJ 184 13 [l0, l1] (.int (nI 0) :: st) m Q := kJ_next d184_12 rfl
theorem d184_13 : decode (mB 184) 13 = .ok (.iadd, 1) := by decide +kernel
theorem s184_13 {l0 l1 : Option Value} {st : List Value} {a b : Int32} {m : kMem} {Q : Option Value → kMem → Prop} : kJ 184 13 [l0, l1] (.int b :: .int a :: st) m Q = kJ 184 14 [l0, l1] (.int (a + b) :: st) m Q := kJ_next d184_13 rfl
theorem d184_14 : decode (mB 184) 14 = .ok (.iconst 4, 1) := by decide +kernel
theorem s184_14 {l0 l1 : Option Value} {st : List Value} {m : kMem} {Q : Option Value → kMem → Prop} : kJ 184 14 [l0, l1] st m Q = kJ 184 15 [l0, l1] (.int (nI 4) :: st) m Q := kJ_next d184_14 rfl
theorem d184_15 : decode (mB 184) 15 = .ok (.invokevirtual 291, 3) := by decide +kernel
theorem s184_15 {l0 l1 : Option Value} {v0 : Int32} {v1 : Int32} {v2 : Nat} {m : kMem} {Q : Option Value → kMem → Prop} (h : kIs m.2.2.2 v2 5 = true) : kJ 184 15 [l0, l1] [.int v0, .int v1, .ref v2] m Q = kJ 183 0 [some (.ref v2), some (.int v1), some (.int v0), none, none] [] m (fun v m2 => kJ 184 18 [l0, l1] (v.toList ++ []) m2 Q) := kJ_call d184_15 (kg_callv 183 2 rfl rfl rfl rfl (Nat.le_of_ble_eq_true rfl) (Nat.le_of_ble_eq_true rfl) (Nat.le_of_ble_eq_true rfl) h rfl)
theorem d184_18 : decode (mB 184) 18 = .ok (.goto 4, 3) := by decide +kernel
theorem s184_18 {l0 l1 : Option Value} {st : List Value} {m : kMem} {Q : Option Value → kMem → Prop} : kJ 184 18 [l0, l1] st m Q = kJ 184 22 [l0, l1] st m Q := kJ_next d184_18 rfl
theorem d184_21 : decode (mB 184) 21 = .ok (.iconst (-1), 1) := by decide +kernel
theorem s184_21 {l0 l1 : Option Value} {st : List Value} {m : kMem} {Q : Option Value → kMem → Prop} : kJ 184 21 [l0, l1] st m Q = kJ 184 22 [l0, l1] (.int (-1) :: st) m Q := kJ_next d184_21 rfl
theorem d184_22 : decode (mB 184) 22 = .ok (.ireturn, 1) := by decide +kernel
theorem s184_22 {l0 l1 : Option Value} {x : Int32} {m : kMem} {Q : Option Value → kMem → Prop} : kJ 184 22 [l0, l1] [.int x] m Q = Q (some (.int x)) m := kJ_ret d184_22 rfl
theorem d185_0 : decode (mB 185) 0 = .ok (.aload_n 0, 1) := by decide +kernel
theorem s185_0 {l1 : Option Value} {st : List Value} {x : Nat} {m : kMem} {Q : Option Value → kMem → Prop} : kJ 185 0 [some (.ref x), l1] st m Q = kJ 185 1 [some (.ref x), l1] (.ref x :: st) m Q := kJ_next d185_0 rfl
theorem d185_1 : decode (mB 185) 1 = .ok (.iload_n 1, 1) := by decide +kernel
theorem s185_1 {l0 : Option Value} {st : List Value} {x : Int32} {m : kMem} {Q : Option Value → kMem → Prop} : kJ 185 1 [l0, some (.int x)] st m Q = kJ 185 2 [l0, some (.int x)] (.int x :: st) m Q := kJ_next d185_1 rfl
theorem d185_2 : decode (mB 185) 2 = .ok (.invokevirtual 206, 3) := by decide +kernel
theorem s185_2 {l0 l1 : Option Value} {v0 : Int32} {v1 : Nat} {m : kMem} {Q : Option Value → kMem → Prop} (h : kIs m.2.2.2 v1 5 = true) : kJ 185 2 [l0, l1] [.int v0, .ref v1] m Q = kJ 127 0 [some (.ref v1), some (.int v0)] [] m (fun v m2 => kJ 185 5 [l0, l1] (v.toList ++ []) m2 Q) := kJ_call d185_2 (kg_callv 127 1 rfl rfl rfl rfl (Nat.le_of_ble_eq_true rfl) (Nat.le_of_ble_eq_true rfl) (Nat.le_of_ble_eq_true rfl) h rfl)
theorem d185_5 : decode (mB 185) 5 = .ok (.ifCond .ne 5, 3) := by decide +kernel
theorem s185_5 {l0 l1 : Option Value} {st : List Value} {a : Int32} {m : kMem} {Q : Option Value → kMem → Prop} : kJ 185 5 [l0, l1] (.int a :: st) m Q = (if a = 0 then kJ 185 8 [l0, l1] st m Q else kJ 185 10 [l0, l1] st m Q) := kJ_if d185_5 rfl (fun h => kJ_next d185_5 h) (fun h => kJ_next d185_5 h)
theorem d185_8 : decode (mB 185) 8 = .ok (.iconst (-1), 1) := by decide +kernel
theorem s185_8 {l0 l1 : Option Value} {st : List Value} {m : kMem} {Q : Option Value → kMem → Prop} : kJ 185 8 [l0, l1] st m Q = kJ 185 9 [l0, l1] (.int (-1) :: st) m Q := kJ_next d185_8 rfl
theorem d185_9 : decode (mB 185) 9 = .ok (.ireturn, 1) := by decide +kernel
theorem s185_9 {l0 l1 : Option Value} {x : Int32} {m : kMem} {Q : Option Value → kMem → Prop} : kJ 185 9 [l0, l1] [.int x] m Q = Q (some (.int x)) m := kJ_ret d185_9 rfl
theorem d185_10 : decode (mB 185) 10 = .ok (.aload_n 0, 1) := by decide +kernel
theorem s185_10 {l1 : Option Value} {st : List Value} {x : Nat} {m : kMem} {Q : Option Value → kMem → Prop} : kJ 185 10 [some (.ref x), l1] st m Q = kJ 185 11 [some (.ref x), l1] (.ref x :: st) m Q := kJ_next d185_10 rfl
theorem d185_11 : decode (mB 185) 11 = .ok (.iload_n 1, 1) := by decide +kernel
theorem s185_11 {l0 : Option Value} {st : List Value} {x : Int32} {m : kMem} {Q : Option Value → kMem → Prop} : kJ 185 11 [l0, some (.int x)] st m Q = kJ 185 12 [l0, some (.int x)] (.int x :: st) m Q := kJ_next d185_11 rfl
theorem d185_12 : decode (mB 185) 12 = .ok (.invokevirtual 221, 3) := by decide +kernel
theorem s185_12 {l0 l1 : Option Value} {v0 : Int32} {v1 : Nat} {m : kMem} {Q : Option Value → kMem → Prop} (h : kIs m.2.2.2 v1 5 = true) : kJ 185 12 [l0, l1] [.int v0, .ref v1] m Q = kJ 155 0 [some (.ref v1), some (.int v0)] [] m (fun v m2 => kJ 185 15 [l0, l1] (v.toList ++ []) m2 Q) := kJ_call d185_12 (kg_callv 155 1 rfl rfl rfl rfl (Nat.le_of_ble_eq_true rfl) (Nat.le_of_ble_eq_true rfl) (Nat.le_of_ble_eq_true rfl) h rfl)
theorem d185_15 : decode (mB 185) 15 = .ok (.iconst 2, 1) := by decide +kernel
theorem s185_15 {l0 l1 : Option Value} {st : List Value} {m : kMem} {Q : Option Value → kMem → Prop} : kJ 185 15 [l0, l1] st m Q = kJ 185 16 [l0, l1] (.int (nI 2) :: st) m Q := kJ_next d185_15 rfl
theorem d185_16 : decode (mB 185) 16 = .ok (.if_icmp .lt 8, 3) := by decide +kernel
theorem s185_16 {l0 l1 : Option Value} {st : List Value} {a b : Int32} {m : kMem} {Q : Option Value → kMem → Prop} : kJ 185 16 [l0, l1] (.int b :: .int a :: st) m Q = (if a < b then kJ 185 24 [l0, l1] st m Q else kJ 185 19 [l0, l1] st m Q) := kJ_if d185_16 rfl (fun h => kJ_next d185_16 h) (fun h => kJ_next d185_16 h)
theorem d185_19 : decode (mB 185) 19 = .ok (.bipush (-2), 2) := by decide +kernel
theorem s185_19 {l0 l1 : Option Value} {st : List Value} {m : kMem} {Q : Option Value → kMem → Prop} : kJ 185 19 [l0, l1] st m Q = kJ 185 21 [l0, l1] (.int (-2) :: st) m Q := kJ_next d185_19 rfl
theorem d185_21 : decode (mB 185) 21 = .ok (.goto 18, 3) := by decide +kernel
theorem s185_21 {l0 l1 : Option Value} {st : List Value} {m : kMem} {Q : Option Value → kMem → Prop} : kJ 185 21 [l0, l1] st m Q = kJ 185 39 [l0, l1] st m Q := kJ_next d185_21 rfl
theorem d185_24 : decode (mB 185) 24 = .ok (.aload_n 0, 1) := by decide +kernel
theorem s185_24 {l1 : Option Value} {st : List Value} {x : Nat} {m : kMem} {Q : Option Value → kMem → Prop} : kJ 185 24 [some (.ref x), l1] st m Q = kJ 185 25 [some (.ref x), l1] (.ref x :: st) m Q := kJ_next d185_24 rfl
theorem d185_25 : decode (mB 185) 25 = .ok (.bipush 16, 2) := by decide +kernel
theorem s185_25 {l0 l1 : Option Value} {st : List Value} {m : kMem} {Q : Option Value → kMem → Prop} : kJ 185 25 [l0, l1] st m Q = kJ 185 27 [l0, l1] (.int (nI 16) :: st) m Q := kJ_next d185_25 rfl
theorem d185_27 : decode (mB 185) 27 = .ok (.bipush 6, 2) := by decide +kernel
theorem s185_27 {l0 l1 : Option Value} {st : List Value} {m : kMem} {Q : Option Value → kMem → Prop} : kJ 185 27 [l0, l1] st m Q = kJ 185 29 [l0, l1] (.int (nI 6) :: st) m Q := kJ_next d185_27 rfl
theorem d185_29 : decode (mB 185) 29 = .ok (.iload_n 1, 1) := by decide +kernel
theorem s185_29 {l0 : Option Value} {st : List Value} {x : Int32} {m : kMem} {Q : Option Value → kMem → Prop} : kJ 185 29 [l0, some (.int x)] st m Q = kJ 185 30 [l0, some (.int x)] (.int x :: st) m Q := kJ_next d185_29 rfl
theorem d185_30 : decode (mB 185) 30 = .ok (.imul, 1) := by decide +kernel
theorem s185_30 {l0 l1 : Option Value} {st : List Value} {a b : Int32} {m : kMem} {Q : Option Value → kMem → Prop} : kJ 185 30 [l0, l1] (.int b :: .int a :: st) m Q = kJ 185 31 [l0, l1] (.int (a * b) :: st) m Q := kJ_next d185_30 rfl
theorem d185_31 : decode (mB 185) 31 = .ok (.iadd, 1) := by decide +kernel
theorem s185_31 {l0 l1 : Option Value} {st : List Value} {a b : Int32} {m : kMem} {Q : Option Value → kMem → Prop} : kJ 185 31 [l0, l1] (.int b :: .int a :: st) m Q = kJ 185 32 [l0, l1] (.int (a + b) :: st) m Q := kJ_next d185_31 rfl
theorem d185_32 : decode (mB 185) 32 = .ok (.iconst 3, 1) := by decide +kernel
theorem s185_32 {l0 l1 : Option Value} {st : List Value} {m : kMem} {Q : Option Value → kMem → Prop} : kJ 185 32 [l0, l1] st m Q = kJ 185 33 [l0, l1] (.int (nI 3) :: st) m Q := kJ_next d185_32 rfl
theorem d185_33 : decode (mB 185) 33 = .ok (.iadd, 1) := by decide +kernel
theorem s185_33 {l0 l1 : Option Value} {st : List Value} {a b : Int32} {m : kMem} {Q : Option Value → kMem → Prop} : kJ 185 33 [l0, l1] (.int b :: .int a :: st) m Q = kJ 185 34 [l0, l1] (.int (a + b) :: st) m Q := kJ_next d185_33 rfl
theorem d185_34 : decode (mB 185) 34 = .ok (.bipush 19, 2) := by decide +kernel
theorem s185_34 {l0 l1 : Option Value} {st : List Value} {m : kMem} {Q : Option Value → kMem → Prop} : kJ 185 34 [l0, l1] st m Q = kJ 185 36 [l0, l1] (.int (nI 19) :: st) m Q := kJ_next d185_34 rfl
theorem d185_36 : decode (mB 185) 36 = .ok (.invokevirtual 291, 3) := by decide +kernel
theorem s185_36 {l0 l1 : Option Value} {v0 : Int32} {v1 : Int32} {v2 : Nat} {m : kMem} {Q : Option Value → kMem → Prop} (h : kIs m.2.2.2 v2 5 = true) : kJ 185 36 [l0, l1] [.int v0, .int v1, .ref v2] m Q = kJ 183 0 [some (.ref v2), some (.int v1), some (.int v0), none, none] [] m (fun v m2 => kJ 185 39 [l0, l1] (v.toList ++ []) m2 Q) := kJ_call d185_36 (kg_callv 183 2 rfl rfl rfl rfl (Nat.le_of_ble_eq_true rfl) (Nat.le_of_ble_eq_true rfl) (Nat.le_of_ble_eq_true rfl) h rfl)
theorem d185_39 : decode (mB 185) 39 = .ok (.ireturn, 1) := by decide +kernel
theorem s185_39 {l0 l1 : Option Value} {x : Int32} {m : kMem} {Q : Option Value → kMem → Prop} : kJ 185 39 [l0, l1] [.int x] m Q = Q (some (.int x)) m := kJ_ret d185_39 rfl
theorem d186_0 : decode (mB 186) 0 = .ok (.iconst 0, 1) := by decide +kernel
theorem s186_0 {l0 l1 l2 l3 l4 : Option Value} {st : List Value} {m : kMem} {Q : Option Value → kMem → Prop} : kJ 186 0 [l0, l1, l2, l3, l4] st m Q = kJ 186 1 [l0, l1, l2, l3, l4] (.int (nI 0) :: st) m Q := kJ_next d186_0 rfl
theorem d186_1 : decode (mB 186) 1 = .ok (.istore_n 2, 1) := by decide +kernel
theorem s186_1 {l0 l1 l2 l3 l4 : Option Value} {st : List Value} {x : Int32} {m : kMem} {Q : Option Value → kMem → Prop} (hp : kNL l1 = true) : kJ 186 1 [l0, l1, l2, l3, l4] (.int x :: st) m Q = kJ 186 2 [l0, l1, some (.int x), l3, l4] st m Q := kJ_next d186_1 (kg_sti (Nat.le_of_ble_eq_true rfl) hp)
theorem d186_2 : decode (mB 186) 2 = .ok (.iconst 0, 1) := by decide +kernel
theorem s186_2 {l0 l1 l2 l3 l4 : Option Value} {st : List Value} {m : kMem} {Q : Option Value → kMem → Prop} : kJ 186 2 [l0, l1, l2, l3, l4] st m Q = kJ 186 3 [l0, l1, l2, l3, l4] (.int (nI 0) :: st) m Q := kJ_next d186_2 rfl
theorem d186_3 : decode (mB 186) 3 = .ok (.istore_n 3, 1) := by decide +kernel
theorem s186_3 {l0 l1 l2 l3 l4 : Option Value} {st : List Value} {x : Int32} {m : kMem} {Q : Option Value → kMem → Prop} (hp : kNL l2 = true) : kJ 186 3 [l0, l1, l2, l3, l4] (.int x :: st) m Q = kJ 186 4 [l0, l1, l2, some (.int x), l4] st m Q := kJ_next d186_3 (kg_sti (Nat.le_of_ble_eq_true rfl) hp)
theorem d186_4 : decode (mB 186) 4 = .ok (.iload_n 3, 1) := by decide +kernel
theorem s186_4 {l0 l1 l2 l4 : Option Value} {st : List Value} {x : Int32} {m : kMem} {Q : Option Value → kMem → Prop} : kJ 186 4 [l0, l1, l2, some (.int x), l4] st m Q = kJ 186 5 [l0, l1, l2, some (.int x), l4] (.int x :: st) m Q := kJ_next d186_4 rfl
theorem d186_5 : decode (mB 186) 5 = .ok (.bipush 18, 2) := by decide +kernel
theorem s186_5 {l0 l1 l2 l3 l4 : Option Value} {st : List Value} {m : kMem} {Q : Option Value → kMem → Prop} : kJ 186 5 [l0, l1, l2, l3, l4] st m Q = kJ 186 7 [l0, l1, l2, l3, l4] (.int (nI 18) :: st) m Q := kJ_next d186_5 rfl
theorem d186_7 : decode (mB 186) 7 = .ok (.if_icmp .gt 64, 3) := by decide +kernel
theorem s186_7 {l0 l1 l2 l3 l4 : Option Value} {st : List Value} {a b : Int32} {m : kMem} {Q : Option Value → kMem → Prop} : kJ 186 7 [l0, l1, l2, l3, l4] (.int b :: .int a :: st) m Q = (if b < a then kJ 186 71 [l0, l1, l2, l3, l4] st m Q else kJ 186 10 [l0, l1, l2, l3, l4] st m Q) := kJ_if d186_7 rfl (fun h => kJ_next d186_7 h) (fun h => kJ_next d186_7 h)
theorem d186_10 : decode (mB 186) 10 = .ok (.aload_n 0, 1) := by decide +kernel
theorem s186_10 {l1 l2 l3 l4 : Option Value} {st : List Value} {x : Nat} {m : kMem} {Q : Option Value → kMem → Prop} : kJ 186 10 [some (.ref x), l1, l2, l3, l4] st m Q = kJ 186 11 [some (.ref x), l1, l2, l3, l4] (.ref x :: st) m Q := kJ_next d186_10 rfl
theorem d186_11 : decode (mB 186) 11 = .ok (.bipush 16, 2) := by decide +kernel
theorem s186_11 {l0 l1 l2 l3 l4 : Option Value} {st : List Value} {m : kMem} {Q : Option Value → kMem → Prop} : kJ 186 11 [l0, l1, l2, l3, l4] st m Q = kJ 186 13 [l0, l1, l2, l3, l4] (.int (nI 16) :: st) m Q := kJ_next d186_11 rfl
theorem d186_13 : decode (mB 186) 13 = .ok (.bipush 6, 2) := by decide +kernel
theorem s186_13 {l0 l1 l2 l3 l4 : Option Value} {st : List Value} {m : kMem} {Q : Option Value → kMem → Prop} : kJ 186 13 [l0, l1, l2, l3, l4] st m Q = kJ 186 15 [l0, l1, l2, l3, l4] (.int (nI 6) :: st) m Q := kJ_next d186_13 rfl
theorem d186_15 : decode (mB 186) 15 = .ok (.iload_n 1, 1) := by decide +kernel
theorem s186_15 {l0 l2 l3 l4 : Option Value} {st : List Value} {x : Int32} {m : kMem} {Q : Option Value → kMem → Prop} : kJ 186 15 [l0, some (.int x), l2, l3, l4] st m Q = kJ 186 16 [l0, some (.int x), l2, l3, l4] (.int x :: st) m Q := kJ_next d186_15 rfl
theorem d186_16 : decode (mB 186) 16 = .ok (.imul, 1) := by decide +kernel
theorem s186_16 {l0 l1 l2 l3 l4 : Option Value} {st : List Value} {a b : Int32} {m : kMem} {Q : Option Value → kMem → Prop} : kJ 186 16 [l0, l1, l2, l3, l4] (.int b :: .int a :: st) m Q = kJ 186 17 [l0, l1, l2, l3, l4] (.int (a * b) :: st) m Q := kJ_next d186_16 rfl
theorem d186_17 : decode (mB 186) 17 = .ok (.iadd, 1) := by decide +kernel
theorem s186_17 {l0 l1 l2 l3 l4 : Option Value} {st : List Value} {a b : Int32} {m : kMem} {Q : Option Value → kMem → Prop} : kJ 186 17 [l0, l1, l2, l3, l4] (.int b :: .int a :: st) m Q = kJ 186 18 [l0, l1, l2, l3, l4] (.int (a + b) :: st) m Q := kJ_next d186_17 rfl
theorem d186_18 : decode (mB 186) 18 = .ok (.iconst 3, 1) := by decide +kernel
theorem s186_18 {l0 l1 l2 l3 l4 : Option Value} {st : List Value} {m : kMem} {Q : Option Value → kMem → Prop} : kJ 186 18 [l0, l1, l2, l3, l4] st m Q = kJ 186 19 [l0, l1, l2, l3, l4] (.int (nI 3) :: st) m Q := kJ_next d186_18 rfl
theorem d186_19 : decode (mB 186) 19 = .ok (.iadd, 1) := by decide +kernel
theorem s186_19 {l0 l1 l2 l3 l4 : Option Value} {st : List Value} {a b : Int32} {m : kMem} {Q : Option Value → kMem → Prop} : kJ 186 19 [l0, l1, l2, l3, l4] (.int b :: .int a :: st) m Q = kJ 186 20 [l0, l1, l2, l3, l4] (.int (a + b) :: st) m Q := kJ_next d186_19 rfl
theorem d186_20 : decode (mB 186) 20 = .ok (.iload_n 3, 1) := by decide +kernel
theorem s186_20 {l0 l1 l2 l4 : Option Value} {st : List Value} {x : Int32} {m : kMem} {Q : Option Value → kMem → Prop} : kJ 186 20 [l0, l1, l2, some (.int x), l4] st m Q = kJ 186 21 [l0, l1, l2, some (.int x), l4] (.int x :: st) m Q := kJ_next d186_20 rfl
theorem d186_21 : decode (mB 186) 21 = .ok (.invokevirtual 288, 3) := by decide +kernel
theorem s186_21 {l0 l1 l2 l3 l4 : Option Value} {v0 : Int32} {v1 : Int32} {v2 : Nat} {m : kMem} {Q : Option Value → kMem → Prop} (h : kIs m.2.2.2 v2 5 = true) : kJ 186 21 [l0, l1, l2, l3, l4] [.int v0, .int v1, .ref v2] m Q = kJ 182 0 [some (.ref v2), some (.int v1), some (.int v0), none, none, none] [] m (fun v m2 => kJ 186 24 [l0, l1, l2, l3, l4] (v.toList ++ []) m2 Q) := kJ_call d186_21 (kg_callv 182 2 rfl rfl rfl rfl (Nat.le_of_ble_eq_true rfl) (Nat.le_of_ble_eq_true rfl) (Nat.le_of_ble_eq_true rfl) h rfl)
theorem d186_24 : decode (mB 186) 24 = .ok (.ifCond .eq 41, 3) := by decide +kernel
theorem s186_24 {l0 l1 l2 l3 l4 : Option Value} {st : List Value} {a : Int32} {m : kMem} {Q : Option Value → kMem → Prop} : kJ 186 24 [l0, l1, l2, l3, l4] (.int a :: st) m Q = (if a = 0 then kJ 186 65 [l0, l1, l2, l3, l4] st m Q else kJ 186 27 [l0, l1, l2, l3, l4] st m Q) := kJ_if d186_24 rfl (fun h => kJ_next d186_24 h) (fun h => kJ_next d186_24 h)
theorem d186_27 : decode (mB 186) 27 = .ok (.iconst 0, 1) := by decide +kernel
theorem s186_27 {l0 l1 l2 l3 l4 : Option Value} {st : List Value} {m : kMem} {Q : Option Value → kMem → Prop} : kJ 186 27 [l0, l1, l2, l3, l4] st m Q = kJ 186 28 [l0, l1, l2, l3, l4] (.int (nI 0) :: st) m Q := kJ_next d186_27 rfl
theorem d186_28 : decode (mB 186) 28 = .ok (.istore 4, 2) := by decide +kernel
theorem s186_28 {l0 l1 l2 l3 l4 : Option Value} {st : List Value} {x : Int32} {m : kMem} {Q : Option Value → kMem → Prop} (hp : kNL l3 = true) : kJ 186 28 [l0, l1, l2, l3, l4] (.int x :: st) m Q = kJ 186 30 [l0, l1, l2, l3, some (.int x)] st m Q := kJ_next d186_28 (kg_sti (Nat.le_of_ble_eq_true rfl) hp)
theorem d186_30 : decode (mB 186) 30 = .ok (.iload 4, 2) := by decide +kernel
theorem s186_30 {l0 l1 l2 l3 : Option Value} {st : List Value} {x : Int32} {m : kMem} {Q : Option Value → kMem → Prop} : kJ 186 30 [l0, l1, l2, l3, some (.int x)] st m Q = kJ 186 32 [l0, l1, l2, l3, some (.int x)] (.int x :: st) m Q := kJ_next d186_30 rfl
theorem d186_32 : decode (mB 186) 32 = .ok (.bipush 105, 2) := by decide +kernel
theorem s186_32 {l0 l1 l2 l3 l4 : Option Value} {st : List Value} {m : kMem} {Q : Option Value → kMem → Prop} : kJ 186 32 [l0, l1, l2, l3, l4] st m Q = kJ 186 34 [l0, l1, l2, l3, l4] (.int (nI 105) :: st) m Q := kJ_next d186_32 rfl
theorem d186_34 : decode (mB 186) 34 = .ok (.if_icmp .ge 28, 3) := by decide +kernel
theorem s186_34 {l0 l1 l2 l3 l4 : Option Value} {st : List Value} {a b : Int32} {m : kMem} {Q : Option Value → kMem → Prop} : kJ 186 34 [l0, l1, l2, l3, l4] (.int b :: .int a :: st) m Q = (if b ≤ a then kJ 186 62 [l0, l1, l2, l3, l4] st m Q else kJ 186 37 [l0, l1, l2, l3, l4] st m Q) := kJ_if d186_34 rfl (fun h => kJ_next d186_34 h) (fun h => kJ_next d186_34 h)
theorem d186_37 : decode (mB 186) 37 = .ok (.aload_n 0, 1) := by decide +kernel
theorem s186_37 {l1 l2 l3 l4 : Option Value} {st : List Value} {x : Nat} {m : kMem} {Q : Option Value → kMem → Prop} : kJ 186 37 [some (.ref x), l1, l2, l3, l4] st m Q = kJ 186 38 [some (.ref x), l1, l2, l3, l4] (.ref x :: st) m Q := kJ_next d186_37 rfl
theorem d186_38 : decode (mB 186) 38 = .ok (.getfield 29, 3) := by decide +kernel
theorem s186_38 {l0 l1 l2 l3 l4 : Option Value} {st : List Value} {q : Nat} {mi : Nat → Nat → Int32} {ml : Nat → Nat → Int64} {mr : Nat → Nat → Option Nat} {nx : Nat} {Q : Option Value → kMem → Prop} (h : kIs nx q 5 = true) : kJ 186 38 [l0, l1, l2, l3, l4] (.ref q :: st) (mi, ml, mr, nx) Q = kJ 186 41 [l0, l1, l2, l3, l4] (va_rf (mr q 22) :: st) (mi, ml, mr, nx) Q := kJ_next d186_38 (kg_getr 5 22 rfl h (by decide))
theorem d186_41 : decode (mB 186) 41 = .ok (.bipush 105, 2) := by decide +kernel
theorem s186_41 {l0 l1 l2 l3 l4 : Option Value} {st : List Value} {m : kMem} {Q : Option Value → kMem → Prop} : kJ 186 41 [l0, l1, l2, l3, l4] st m Q = kJ 186 43 [l0, l1, l2, l3, l4] (.int (nI 105) :: st) m Q := kJ_next d186_41 rfl
theorem d186_43 : decode (mB 186) 43 = .ok (.iload_n 2, 1) := by decide +kernel
theorem s186_43 {l0 l1 l3 l4 : Option Value} {st : List Value} {x : Int32} {m : kMem} {Q : Option Value → kMem → Prop} : kJ 186 43 [l0, l1, some (.int x), l3, l4] st m Q = kJ 186 44 [l0, l1, some (.int x), l3, l4] (.int x :: st) m Q := kJ_next d186_43 rfl
theorem d186_44 : decode (mB 186) 44 = .ok (.imul, 1) := by decide +kernel
theorem s186_44 {l0 l1 l2 l3 l4 : Option Value} {st : List Value} {a b : Int32} {m : kMem} {Q : Option Value → kMem → Prop} : kJ 186 44 [l0, l1, l2, l3, l4] (.int b :: .int a :: st) m Q = kJ 186 45 [l0, l1, l2, l3, l4] (.int (a * b) :: st) m Q := kJ_next d186_44 rfl
theorem d186_45 : decode (mB 186) 45 = .ok (.iload 4, 2) := by decide +kernel
theorem s186_45 {l0 l1 l2 l3 : Option Value} {st : List Value} {x : Int32} {m : kMem} {Q : Option Value → kMem → Prop} : kJ 186 45 [l0, l1, l2, l3, some (.int x)] st m Q = kJ 186 47 [l0, l1, l2, l3, some (.int x)] (.int x :: st) m Q := kJ_next d186_45 rfl
theorem d186_47 : decode (mB 186) 47 = .ok (.iadd, 1) := by decide +kernel
theorem s186_47 {l0 l1 l2 l3 l4 : Option Value} {st : List Value} {a b : Int32} {m : kMem} {Q : Option Value → kMem → Prop} : kJ 186 47 [l0, l1, l2, l3, l4] (.int b :: .int a :: st) m Q = kJ 186 48 [l0, l1, l2, l3, l4] (.int (a + b) :: st) m Q := kJ_next d186_47 rfl
theorem d186_48 : decode (mB 186) 48 = .ok (.aload_n 0, 1) := by decide +kernel
theorem s186_48 {l1 l2 l3 l4 : Option Value} {st : List Value} {x : Nat} {m : kMem} {Q : Option Value → kMem → Prop} : kJ 186 48 [some (.ref x), l1, l2, l3, l4] st m Q = kJ 186 49 [some (.ref x), l1, l2, l3, l4] (.ref x :: st) m Q := kJ_next d186_48 rfl
theorem d186_49 : decode (mB 186) 49 = .ok (.getfield 26, 3) := by decide +kernel
theorem s186_49 {l0 l1 l2 l3 l4 : Option Value} {st : List Value} {q : Nat} {mi : Nat → Nat → Int32} {ml : Nat → Nat → Int64} {mr : Nat → Nat → Option Nat} {nx : Nat} {Q : Option Value → kMem → Prop} (h : kIs nx q 5 = true) : kJ 186 49 [l0, l1, l2, l3, l4] (.ref q :: st) (mi, ml, mr, nx) Q = kJ 186 52 [l0, l1, l2, l3, l4] (va_rf (mr q 21) :: st) (mi, ml, mr, nx) Q := kJ_next d186_49 (kg_getr 5 21 rfl h (by decide))
theorem d186_52 : decode (mB 186) 52 = .ok (.iload 4, 2) := by decide +kernel
theorem s186_52 {l0 l1 l2 l3 : Option Value} {st : List Value} {x : Int32} {m : kMem} {Q : Option Value → kMem → Prop} : kJ 186 52 [l0, l1, l2, l3, some (.int x)] st m Q = kJ 186 54 [l0, l1, l2, l3, some (.int x)] (.int x :: st) m Q := kJ_next d186_52 rfl
theorem d186_54 : decode (mB 186) 54 = .ok (.iaload, 1) := by decide +kernel
theorem s186_54 {l0 l1 l2 l3 l4 : Option Value} {st : List Value} {q : Nat} {i : Int32} {mi : Nat → Nat → Int32} {ml : Nat → Nat → Int64} {mr : Nat → Nat → Option Nat} {nx : Nat} {Q : Option Value → kMem → Prop} (h : kIs nx q 10 = true) : kJ 186 54 [l0, l1, l2, l3, l4] (.int i :: .ref q :: st) (mi, ml, mr, nx) Q = (vp_in i (kAl q) ∧ kJ 186 55 [l0, l1, l2, l3, l4] (.int (mi q i.toNatClampNeg) :: st) (mi, ml, mr, nx) Q) := kg_aldJ d186_54 rfl (kAr_of h)
theorem d186_55 : decode (mB 186) 55 = .ok (.iastore, 1) := by decide +kernel
theorem s186_55 {l0 l1 l2 l3 l4 : Option Value} {st : List Value} {q : Nat} {i x : Int32} {mi : Nat → Nat → Int32} {ml : Nat → Nat → Int64} {mr : Nat → Nat → Option Nat} {nx : Nat} {Q : Option Value → kMem → Prop} (h : kIs nx q 10 = true) : kJ 186 55 [l0, l1, l2, l3, l4] (.int x :: .int i :: .ref q :: st) (mi, ml, mr, nx) Q = (vp_in i (kAl q) ∧ kJ 186 56 [l0, l1, l2, l3, l4] st (kup mi q i.toNatClampNeg x, ml, mr, nx) Q) := kg_astJ d186_55 rfl (kAr_of h)
theorem d186_56 : decode (mB 186) 56 = .ok (.iinc 4 1, 3) := by decide +kernel
theorem s186_56 {l0 l1 l2 l3 : Option Value} {st : List Value} {x : Int32} {m : kMem} {Q : Option Value → kMem → Prop} (hp : kNL l3 = true) : kJ 186 56 [l0, l1, l2, l3, some (.int x)] st m Q = kJ 186 59 [l0, l1, l2, l3, some (.int (x + (nI 1)))] st m Q := kJ_next d186_56 (kg_inc rfl (Nat.le_of_ble_eq_true rfl) hp)
theorem d186_59 : decode (mB 186) 59 = .ok (.goto (-29), 3) := by decide +kernel
theorem s186_59 {l0 l1 l2 l3 l4 : Option Value} {st : List Value} {m : kMem} {Q : Option Value → kMem → Prop} : kJ 186 59 [l0, l1, l2, l3, l4] st m Q = kJ 186 30 [l0, l1, l2, l3, l4] st m Q := kJ_next d186_59 rfl
theorem d186_62 : decode (mB 186) 62 = .ok (.iinc 2 1, 3) := by decide +kernel
theorem s186_62 {l0 l1 l3 l4 : Option Value} {st : List Value} {x : Int32} {m : kMem} {Q : Option Value → kMem → Prop} (hp : kNL l1 = true) : kJ 186 62 [l0, l1, some (.int x), l3, l4] st m Q = kJ 186 65 [l0, l1, some (.int (x + (nI 1))), l3, l4] st m Q := kJ_next d186_62 (kg_inc rfl (Nat.le_of_ble_eq_true rfl) hp)
theorem d186_65 : decode (mB 186) 65 = .ok (.iinc 3 1, 3) := by decide +kernel
theorem s186_65 {l0 l1 l2 l4 : Option Value} {st : List Value} {x : Int32} {m : kMem} {Q : Option Value → kMem → Prop} (hp : kNL l2 = true) : kJ 186 65 [l0, l1, l2, some (.int x), l4] st m Q = kJ 186 68 [l0, l1, l2, some (.int (x + (nI 1))), l4] st m Q := kJ_next d186_65 (kg_inc rfl (Nat.le_of_ble_eq_true rfl) hp)
theorem d186_68 : decode (mB 186) 68 = .ok (.goto (-64), 3) := by decide +kernel
theorem s186_68 {l0 l1 l2 l3 l4 : Option Value} {st : List Value} {m : kMem} {Q : Option Value → kMem → Prop} : kJ 186 68 [l0, l1, l2, l3, l4] st m Q = kJ 186 4 [l0, l1, l2, l3, l4] st m Q := kJ_next d186_68 rfl
theorem d186_71 : decode (mB 186) 71 = .ok (.iload_n 2, 1) := by decide +kernel
theorem s186_71 {l0 l1 l3 l4 : Option Value} {st : List Value} {x : Int32} {m : kMem} {Q : Option Value → kMem → Prop} : kJ 186 71 [l0, l1, some (.int x), l3, l4] st m Q = kJ 186 72 [l0, l1, some (.int x), l3, l4] (.int x :: st) m Q := kJ_next d186_71 rfl
theorem d186_72 : decode (mB 186) 72 = .ok (.ireturn, 1) := by decide +kernel
theorem s186_72 {l0 l1 l2 l3 l4 : Option Value} {x : Int32} {m : kMem} {Q : Option Value → kMem → Prop} : kJ 186 72 [l0, l1, l2, l3, l4] [.int x] m Q = Q (some (.int x)) m := kJ_ret d186_72 rfl
