theorem d199_0 : decode (mB 199) 0 = .ok (.new 7, 3) := by decide +kernel
theorem s199_0 {l0 l1 l2 l3 : Option Value} {st : List Value} {mi : Nat → Nat → Int32} {ml : Nat → Nat → Int64} {mr : Nat → Nat → Option Nat} {nx : Nat} {Q : Option Value → kMem → Prop} (h : nx < 95) (h2 : (kAt nx).1 = 4) : kJ 199 0 [l0, l1, l2, l3] st (mi, ml, mr, nx) Q = kJ 199 3 [l0, l1, l2, l3] (.ref nx :: st) (kRow mi nx (fun _ => 0), kRow ml nx (fun _ => 0), kRow mr nx (fun _ => none), nx + 1) Q := kJ_next d199_0 (kg_new 4 rfl h h2 (by decide))
theorem d199_3 : decode (mB 199) 3 = .ok (.dup, 1) := by decide +kernel
theorem s199_3 {l0 l1 l2 l3 : Option Value} {st : List Value} {a : Nat} {m : kMem} {Q : Option Value → kMem → Prop} : kJ 199 3 [l0, l1, l2, l3] (.ref a :: st) m Q = kJ 199 4 [l0, l1, l2, l3] (.ref a :: .ref a :: st) m Q := kJ_next d199_3 rfl
theorem d199_4 : decode (mB 199) 4 = .ok (.invokespecial 9, 3) := by decide +kernel
theorem s199_4 {l0 l1 l2 l3 : Option Value} {v0 : Nat} {v1 : Nat} {m : kMem} {Q : Option Value → kMem → Prop} (h : kIs m.2.2.2 v0 4 = true) : kJ 199 4 [l0, l1, l2, l3] [.ref v0, .ref v1] m Q = kJ 51 0 [some (.ref v0), none] [] m (fun v m2 => kJ 199 7 [l0, l1, l2, l3] (v.toList ++ [.ref v1]) m2 Q) := kJ_call d199_4 (kg_spec 51 0 rfl rfl rfl rfl (Nat.le_of_ble_eq_true rfl) (Nat.le_of_ble_eq_true rfl) (Nat.le_of_ble_eq_true rfl) h rfl)
theorem d199_7 : decode (mB 199) 7 = .ok (.astore_n 1, 1) := by decide +kernel
theorem s199_7 {l0 l1 l2 l3 : Option Value} {st : List Value} {x : Nat} {m : kMem} {Q : Option Value → kMem → Prop} (hp : kNL l0 = true) : kJ 199 7 [l0, l1, l2, l3] (.ref x :: st) m Q = kJ 199 8 [l0, some (.ref x), l2, l3] st m Q := kJ_next d199_7 (kg_sta (Nat.le_of_ble_eq_true rfl) hp)
theorem d199_8 : decode (mB 199) 8 = .ok (.new 10, 3) := by decide +kernel
theorem s199_8 {l0 l1 l2 l3 : Option Value} {st : List Value} {mi : Nat → Nat → Int32} {ml : Nat → Nat → Int64} {mr : Nat → Nat → Option Nat} {nx : Nat} {Q : Option Value → kMem → Prop} (h : nx < 95) (h2 : (kAt nx).1 = 5) : kJ 199 8 [l0, l1, l2, l3] st (mi, ml, mr, nx) Q = kJ 199 11 [l0, l1, l2, l3] (.ref nx :: st) (kRow mi nx (fun _ => 0), kRow ml nx (fun _ => 0), kRow mr nx (fun _ => none), nx + 1) Q := kJ_next d199_8 (kg_new 5 rfl h h2 (by decide))
theorem d199_11 : decode (mB 199) 11 = .ok (.dup, 1) := by decide +kernel
theorem s199_11 {l0 l1 l2 l3 : Option Value} {st : List Value} {a : Nat} {m : kMem} {Q : Option Value → kMem → Prop} : kJ 199 11 [l0, l1, l2, l3] (.ref a :: st) m Q = kJ 199 12 [l0, l1, l2, l3] (.ref a :: .ref a :: st) m Q := kJ_next d199_11 rfl
theorem d199_12 : decode (mB 199) 12 = .ok (.invokespecial 12, 3) := by decide +kernel
theorem s199_12 {l0 l1 l2 l3 : Option Value} {v0 : Nat} {v1 : Nat} {m : kMem} {Q : Option Value → kMem → Prop} (h : kIs m.2.2.2 v0 5 = true) : kJ 199 12 [l0, l1, l2, l3] [.ref v0, .ref v1] m Q = kJ 106 0 [some (.ref v0), none] [] m (fun v m2 => kJ 199 15 [l0, l1, l2, l3] (v.toList ++ [.ref v1]) m2 Q) := kJ_call d199_12 (kg_spec 106 0 rfl rfl rfl rfl (Nat.le_of_ble_eq_true rfl) (Nat.le_of_ble_eq_true rfl) (Nat.le_of_ble_eq_true rfl) h rfl)
theorem d199_15 : decode (mB 199) 15 = .ok (.astore_n 2, 1) := by decide +kernel
theorem s199_15 {l0 l1 l2 l3 : Option Value} {st : List Value} {x : Nat} {m : kMem} {Q : Option Value → kMem → Prop} (hp : kNL l1 = true) : kJ 199 15 [l0, l1, l2, l3] (.ref x :: st) m Q = kJ 199 16 [l0, l1, some (.ref x), l3] st m Q := kJ_next d199_15 (kg_sta (Nat.le_of_ble_eq_true rfl) hp)
theorem d199_16 : decode (mB 199) 16 = .ok (.iconst 0, 1) := by decide +kernel
theorem s199_16 {l0 l1 l2 l3 : Option Value} {st : List Value} {m : kMem} {Q : Option Value → kMem → Prop} : kJ 199 16 [l0, l1, l2, l3] st m Q = kJ 199 17 [l0, l1, l2, l3] (.int (nI 0) :: st) m Q := kJ_next d199_16 rfl
theorem d199_17 : decode (mB 199) 17 = .ok (.istore_n 3, 1) := by decide +kernel
theorem s199_17 {l0 l1 l2 l3 : Option Value} {st : List Value} {x : Int32} {m : kMem} {Q : Option Value → kMem → Prop} (hp : kNL l2 = true) : kJ 199 17 [l0, l1, l2, l3] (.int x :: st) m Q = kJ 199 18 [l0, l1, l2, some (.int x)] st m Q := kJ_next d199_17 (kg_sti (Nat.le_of_ble_eq_true rfl) hp)
theorem d199_18 : decode (mB 199) 18 = .ok (.iload_n 3, 1) := by decide +kernel
theorem s199_18 {l0 l1 l2 : Option Value} {st : List Value} {x : Int32} {m : kMem} {Q : Option Value → kMem → Prop} : kJ 199 18 [l0, l1, l2, some (.int x)] st m Q = kJ 199 19 [l0, l1, l2, some (.int x)] (.int x :: st) m Q := kJ_next d199_18 rfl
theorem d199_19 : decode (mB 199) 19 = .ok (.aload_n 0, 1) := by decide +kernel
theorem s199_19 {l1 l2 l3 : Option Value} {st : List Value} {x : Nat} {m : kMem} {Q : Option Value → kMem → Prop} : kJ 199 19 [some (.ref x), l1, l2, l3] st m Q = kJ 199 20 [some (.ref x), l1, l2, l3] (.ref x :: st) m Q := kJ_next d199_19 rfl
theorem d199_21 : decode (mB 199) 21 = .ok (.iconst 5, 1) := by decide +kernel
theorem s199_21 {l0 l1 l2 l3 : Option Value} {st : List Value} {m : kMem} {Q : Option Value → kMem → Prop} : kJ 199 21 [l0, l1, l2, l3] st m Q = kJ 199 22 [l0, l1, l2, l3] (.int (nI 5) :: st) m Q := kJ_next d199_21 rfl
theorem d199_22 : decode (mB 199) 22 = .ok (.isub, 1) := by decide +kernel
theorem s199_22 {l0 l1 l2 l3 : Option Value} {st : List Value} {a b : Int32} {m : kMem} {Q : Option Value → kMem → Prop} : kJ 199 22 [l0, l1, l2, l3] (.int b :: .int a :: st) m Q = kJ 199 23 [l0, l1, l2, l3] (.int (a - b) :: st) m Q := kJ_next d199_22 rfl
theorem d199_23 : decode (mB 199) 23 = .ok (.if_icmp .gt 1399, 3) := by decide +kernel
theorem s199_23 {l0 l1 l2 l3 : Option Value} {st : List Value} {a b : Int32} {m : kMem} {Q : Option Value → kMem → Prop} : kJ 199 23 [l0, l1, l2, l3] (.int b :: .int a :: st) m Q = (if b < a then kJ 199 1422 [l0, l1, l2, l3] st m Q else kJ 199 26 [l0, l1, l2, l3] st m Q) := kJ_if d199_23 rfl (fun h => kJ_next d199_23 h) (fun h => kJ_next d199_23 h)
theorem d199_26 : decode (mB 199) 26 = .ok (.aload_n 0, 1) := by decide +kernel
theorem s199_26 {l1 l2 l3 : Option Value} {st : List Value} {x : Nat} {m : kMem} {Q : Option Value → kMem → Prop} : kJ 199 26 [some (.ref x), l1, l2, l3] st m Q = kJ 199 27 [some (.ref x), l1, l2, l3] (.ref x :: st) m Q := kJ_next d199_26 rfl
theorem d199_27 : decode (mB 199) 27 = .ok (.iload_n 3, 1) := by decide +kernel
theorem s199_27 {l0 l1 l2 : Option Value} {st : List Value} {x : Int32} {m : kMem} {Q : Option Value → kMem → Prop} : kJ 199 27 [l0, l1, l2, some (.int x)] st m Q = kJ 199 28 [l0, l1, l2, some (.int x)] (.int x :: st) m Q := kJ_next d199_27 rfl
theorem d199_28 : decode (mB 199) 28 = .ok (.iaload, 1) := by decide +kernel
theorem s199_28 {l0 l1 l2 l3 : Option Value} {st : List Value} {q : Nat} {i : Int32} {mi : Nat → Nat → Int32} {ml : Nat → Nat → Int64} {mr : Nat → Nat → Option Nat} {nx : Nat} {Q : Option Value → kMem → Prop} (h : kIs nx q 10 = true) : kJ 199 28 [l0, l1, l2, l3] (.int i :: .ref q :: st) (mi, ml, mr, nx) Q = (vp_in i (kAl q) ∧ kJ 199 29 [l0, l1, l2, l3] (.int (mi q i.toNatClampNeg) :: st) (mi, ml, mr, nx) Q) := kg_aldJ d199_28 rfl (kAr_of h)
theorem d199_29 : decode (mB 199) 29 = .ok (.bipush 63, 2) := by decide +kernel
theorem s199_29 {l0 l1 l2 l3 : Option Value} {st : List Value} {m : kMem} {Q : Option Value → kMem → Prop} : kJ 199 29 [l0, l1, l2, l3] st m Q = kJ 199 31 [l0, l1, l2, l3] (.int (nI 63) :: st) m Q := kJ_next d199_29 rfl
theorem d199_31 : decode (mB 199) 31 = .ok (.iand, 1) := by decide +kernel
theorem s199_31 {l0 l1 l2 l3 : Option Value} {st : List Value} {a b : Int32} {m : kMem} {Q : Option Value → kMem → Prop} : kJ 199 31 [l0, l1, l2, l3] (.int b :: .int a :: st) m Q = kJ 199 32 [l0, l1, l2, l3] (.int (a &&& b) :: st) m Q := kJ_next d199_31 rfl
theorem d199_32 : decode (mB 199) 32 = .ok (.tableswitch 1384 0 37 #[168, 191, 214, 227, 240, 263, 296, 329, 362, 405, 438, 461, 514, 537, 560, 593, 626, 649, 692, 725, 768, 801, 834, 877, 931, 975, 1018, 1041, 1064, 1087, 1120, 1163, 1186, 1209, 1252, 1295, 1348, 1361], 168) := by decide +kernel
theorem s199_32 {l0 l1 l2 l3 : Option Value} {st : List Value} {a : Int32} {m : kMem} {Q : Option Value → kMem → Prop} : kJ 199 32 [l0, l1, l2, l3] (.int a :: st) m Q = (if a = (nI 0) then kJ 199 200 [l0, l1, l2, l3] st m Q else if a = (nI 1) then kJ 199 223 [l0, l1, l2, l3] st m Q else if a = (nI 2) then kJ 199 246 [l0, l1, l2, l3] st m Q else if a = (nI 3) then kJ 199 259 [l0, l1, l2, l3] st m Q else if a = (nI 4) then kJ 199 272 [l0, l1, l2, l3] st m Q else if a = (nI 5) then kJ 199 295 [l0, l1, l2, l3] st m Q else if a = (nI 6) then kJ 199 328 [l0, l1, l2, l3] st m Q else if a = (nI 7) then kJ 199 361 [l0, l1, l2, l3] st m Q else if a = (nI 8) then kJ 199 394 [l0, l1, l2, l3] st m Q else if a = (nI 9) then kJ 199 437 [l0, l1, l2, l3] st m Q else if a = (nI 10) then kJ 199 470 [l0, l1, l2, l3] st m Q else if a = (nI 11) then kJ 199 493 [l0, l1, l2, l3] st m Q else if a = (nI 12) then kJ 199 546 [l0, l1, l2, l3] st m Q else if a = (nI 13) then kJ 199 569 [l0, l1, l2, l3] st m Q else if a = (nI 14) then kJ 199 592 [l0, l1, l2, l3] st m Q else if a = (nI 15) then kJ 199 625 [l0, l1, l2, l3] st m Q else if a = (nI 16) then kJ 199 658 [l0, l1, l2, l3] st m Q else if a = (nI 17) then kJ 199 681 [l0, l1, l2, l3] st m Q else if a = (nI 18) then kJ 199 724 [l0, l1, l2, l3] st m Q else if a = (nI 19) then kJ 199 757 [l0, l1, l2, l3] st m Q else if a = (nI 20) then kJ 199 800 [l0, l1, l2, l3] st m Q else if a = (nI 21) then kJ 199 833 [l0, l1, l2, l3] st m Q else if a = (nI 22) then kJ 199 866 [l0, l1, l2, l3] st m Q else if a = (nI 23) then kJ 199 909 [l0, l1, l2, l3] st m Q else if a = (nI 24) then kJ 199 963 [l0, l1, l2, l3] st m Q else if a = (nI 25) then kJ 199 1007 [l0, l1, l2, l3] st m Q else if a = (nI 26) then kJ 199 1050 [l0, l1, l2, l3] st m Q else if a = (nI 27) then kJ 199 1073 [l0, l1, l2, l3] st m Q else if a = (nI 28) then kJ 199 1096 [l0, l1, l2, l3] st m Q else if a = (nI 29) then kJ 199 1119 [l0, l1, l2, l3] st m Q else if a = (nI 30) then kJ 199 1152 [l0, l1, l2, l3] st m Q else if a = (nI 31) then kJ 199 1195 [l0, l1, l2, l3] st m Q else if a = (nI 32) then kJ 199 1218 [l0, l1, l2, l3] st m Q else if a = (nI 33) then kJ 199 1241 [l0, l1, l2, l3] st m Q else if a = (nI 34) then kJ 199 1284 [l0, l1, l2, l3] st m Q else if a = (nI 35) then kJ 199 1327 [l0, l1, l2, l3] st m Q else if a = (nI 36) then kJ 199 1380 [l0, l1, l2, l3] st m Q else if a = (nI 37) then kJ 199 1393 [l0, l1, l2, l3] st m Q else kJ 199 1416 [l0, l1, l2, l3] st m Q) := by
  by_cases h0 : a = nI 0
  · subst h0; exact kJ_next d199_32 rfl
  rw [if_neg h0]
  by_cases h1 : a = nI 1
  · subst h1; exact kJ_next d199_32 rfl
  rw [if_neg h1]
  by_cases h2 : a = nI 2
  · subst h2; exact kJ_next d199_32 rfl
  rw [if_neg h2]
  by_cases h3 : a = nI 3
  · subst h3; exact kJ_next d199_32 rfl
  rw [if_neg h3]
  by_cases h4 : a = nI 4
  · subst h4; exact kJ_next d199_32 rfl
  rw [if_neg h4]
  by_cases h5 : a = nI 5
  · subst h5; exact kJ_next d199_32 rfl
  rw [if_neg h5]
  by_cases h6 : a = nI 6
  · subst h6; exact kJ_next d199_32 rfl
  rw [if_neg h6]
  by_cases h7 : a = nI 7
  · subst h7; exact kJ_next d199_32 rfl
  rw [if_neg h7]
  by_cases h8 : a = nI 8
  · subst h8; exact kJ_next d199_32 rfl
  rw [if_neg h8]
  by_cases h9 : a = nI 9
  · subst h9; exact kJ_next d199_32 rfl
  rw [if_neg h9]
  by_cases h10 : a = nI 10
  · subst h10; exact kJ_next d199_32 rfl
  rw [if_neg h10]
  by_cases h11 : a = nI 11
  · subst h11; exact kJ_next d199_32 rfl
  rw [if_neg h11]
  by_cases h12 : a = nI 12
  · subst h12; exact kJ_next d199_32 rfl
  rw [if_neg h12]
  by_cases h13 : a = nI 13
  · subst h13; exact kJ_next d199_32 rfl
  rw [if_neg h13]
  by_cases h14 : a = nI 14
  · subst h14; exact kJ_next d199_32 rfl
  rw [if_neg h14]
  by_cases h15 : a = nI 15
  · subst h15; exact kJ_next d199_32 rfl
  rw [if_neg h15]
  by_cases h16 : a = nI 16
  · subst h16; exact kJ_next d199_32 rfl
  rw [if_neg h16]
  by_cases h17 : a = nI 17
  · subst h17; exact kJ_next d199_32 rfl
  rw [if_neg h17]
  by_cases h18 : a = nI 18
  · subst h18; exact kJ_next d199_32 rfl
  rw [if_neg h18]
  by_cases h19 : a = nI 19
  · subst h19; exact kJ_next d199_32 rfl
  rw [if_neg h19]
  by_cases h20 : a = nI 20
  · subst h20; exact kJ_next d199_32 rfl
  rw [if_neg h20]
  by_cases h21 : a = nI 21
  · subst h21; exact kJ_next d199_32 rfl
  rw [if_neg h21]
  by_cases h22 : a = nI 22
  · subst h22; exact kJ_next d199_32 rfl
  rw [if_neg h22]
  by_cases h23 : a = nI 23
  · subst h23; exact kJ_next d199_32 rfl
  rw [if_neg h23]
  by_cases h24 : a = nI 24
  · subst h24; exact kJ_next d199_32 rfl
  rw [if_neg h24]
  by_cases h25 : a = nI 25
  · subst h25; exact kJ_next d199_32 rfl
  rw [if_neg h25]
  by_cases h26 : a = nI 26
  · subst h26; exact kJ_next d199_32 rfl
  rw [if_neg h26]
  by_cases h27 : a = nI 27
  · subst h27; exact kJ_next d199_32 rfl
  rw [if_neg h27]
  by_cases h28 : a = nI 28
  · subst h28; exact kJ_next d199_32 rfl
  rw [if_neg h28]
  by_cases h29 : a = nI 29
  · subst h29; exact kJ_next d199_32 rfl
  rw [if_neg h29]
  by_cases h30 : a = nI 30
  · subst h30; exact kJ_next d199_32 rfl
  rw [if_neg h30]
  by_cases h31 : a = nI 31
  · subst h31; exact kJ_next d199_32 rfl
  rw [if_neg h31]
  by_cases h32 : a = nI 32
  · subst h32; exact kJ_next d199_32 rfl
  rw [if_neg h32]
  by_cases h33 : a = nI 33
  · subst h33; exact kJ_next d199_32 rfl
  rw [if_neg h33]
  by_cases h34 : a = nI 34
  · subst h34; exact kJ_next d199_32 rfl
  rw [if_neg h34]
  by_cases h35 : a = nI 35
  · subst h35; exact kJ_next d199_32 rfl
  rw [if_neg h35]
  by_cases h36 : a = nI 36
  · subst h36; exact kJ_next d199_32 rfl
  rw [if_neg h36]
  by_cases h37 : a = nI 37
  · subst h37; exact kJ_next d199_32 rfl
  rw [if_neg h37]
  have hz : ∀ j, j < 0 → a ≠ nI j := fun j hj => absurd hj (Nat.not_lt_zero j)
  refine kJ_next d199_32 (if_pos (c := a.toInt < 0 ∨ (37 : Int) < a.toInt) ?_)
  have hr := kg_rng (a := a) (n := 37) (by decide) (fun j hj => by
    rcases Nat.lt_or_ge j 0 with hl | hl
    · exact hz j hl
    · have hj2 : j = 0 ∨ j = 1 ∨ j = 2 ∨ j = 3 ∨ j = 4 ∨ j = 5 ∨ j = 6 ∨ j = 7 ∨ j = 8 ∨ j = 9 ∨ j = 10 ∨ j = 11 ∨ j = 12 ∨ j = 13 ∨ j = 14 ∨ j = 15 ∨ j = 16 ∨ j = 17 ∨ j = 18 ∨ j = 19 ∨ j = 20 ∨ j = 21 ∨ j = 22 ∨ j = 23 ∨ j = 24 ∨ j = 25 ∨ j = 26 ∨ j = 27 ∨ j = 28 ∨ j = 29 ∨ j = 30 ∨ j = 31 ∨ j = 32 ∨ j = 33 ∨ j = 34 ∨ j = 35 ∨ j = 36 ∨ j = 37 := by omega
      rcases hj2 with rfl | rfl | rfl | rfl | rfl | rfl | rfl | rfl | rfl | rfl | rfl | rfl | rfl | rfl | rfl | rfl | rfl | rfl | rfl | rfl | rfl | rfl | rfl | rfl | rfl | rfl | rfl | rfl | rfl | rfl | rfl | rfl | rfl | rfl | rfl | rfl | rfl | rfl
      · exact h0
      · exact h1
      · exact h2
      · exact h3
      · exact h4
      · exact h5
      · exact h6
      · exact h7
      · exact h8
      · exact h9
      · exact h10
      · exact h11
      · exact h12
      · exact h13
      · exact h14
      · exact h15
      · exact h16
      · exact h17
      · exact h18
      · exact h19
      · exact h20
      · exact h21
      · exact h22
      · exact h23
      · exact h24
      · exact h25
      · exact h26
      · exact h27
      · exact h28
      · exact h29
      · exact h30
      · exact h31
      · exact h32
      · exact h33
      · exact h34
      · exact h35
      · exact h36
      · exact h37
    )
  omega
theorem d199_200 : decode (mB 199) 200 = .ok (.aload_n 1, 1) := by decide +kernel
theorem s199_200 {l0 l2 l3 : Option Value} {st : List Value} {x : Nat} {m : kMem} {Q : Option Value → kMem → Prop} : kJ 199 200 [l0, some (.ref x), l2, l3] st m Q = kJ 199 201 [l0, some (.ref x), l2, l3] (.ref x :: st) m Q := kJ_next d199_200 rfl
theorem d199_201 : decode (mB 199) 201 = .ok (.aload_n 0, 1) := by decide +kernel
theorem s199_201 {l1 l2 l3 : Option Value} {st : List Value} {x : Nat} {m : kMem} {Q : Option Value → kMem → Prop} : kJ 199 201 [some (.ref x), l1, l2, l3] st m Q = kJ 199 202 [some (.ref x), l1, l2, l3] (.ref x :: st) m Q := kJ_next d199_201 rfl
theorem d199_202 : decode (mB 199) 202 = .ok (.iload_n 3, 1) := by decide +kernel
theorem s199_202 {l0 l1 l2 : Option Value} {st : List Value} {x : Int32} {m : kMem} {Q : Option Value → kMem → Prop} : kJ 199 202 [l0, l1, l2, some (.int x)] st m Q = kJ 199 203 [l0, l1, l2, some (.int x)] (.int x :: st) m Q := kJ_next d199_202 rfl
theorem d199_203 : decode (mB 199) 203 = .ok (.iconst 1, 1) := by decide +kernel
theorem s199_203 {l0 l1 l2 l3 : Option Value} {st : List Value} {m : kMem} {Q : Option Value → kMem → Prop} : kJ 199 203 [l0, l1, l2, l3] st m Q = kJ 199 204 [l0, l1, l2, l3] (.int (nI 1) :: st) m Q := kJ_next d199_203 rfl
theorem d199_204 : decode (mB 199) 204 = .ok (.iadd, 1) := by decide +kernel
theorem s199_204 {l0 l1 l2 l3 : Option Value} {st : List Value} {a b : Int32} {m : kMem} {Q : Option Value → kMem → Prop} : kJ 199 204 [l0, l1, l2, l3] (.int b :: .int a :: st) m Q = kJ 199 205 [l0, l1, l2, l3] (.int (a + b) :: st) m Q := kJ_next d199_204 rfl
theorem d199_205 : decode (mB 199) 205 = .ok (.iaload, 1) := by decide +kernel
theorem s199_205 {l0 l1 l2 l3 : Option Value} {st : List Value} {q : Nat} {i : Int32} {mi : Nat → Nat → Int32} {ml : Nat → Nat → Int64} {mr : Nat → Nat → Option Nat} {nx : Nat} {Q : Option Value → kMem → Prop} (h : kIs nx q 10 = true) : kJ 199 205 [l0, l1, l2, l3] (.int i :: .ref q :: st) (mi, ml, mr, nx) Q = (vp_in i (kAl q) ∧ kJ 199 206 [l0, l1, l2, l3] (.int (mi q i.toNatClampNeg) :: st) (mi, ml, mr, nx) Q) := kg_aldJ d199_205 rfl (kAr_of h)
theorem d199_206 : decode (mB 199) 206 = .ok (.invokevirtual 13, 3) := by decide +kernel
theorem s199_206 {l0 l1 l2 l3 : Option Value} {v0 : Int32} {v1 : Nat} {m : kMem} {Q : Option Value → kMem → Prop} (h : kIs m.2.2.2 v1 4 = true) : kJ 199 206 [l0, l1, l2, l3] [.int v0, .ref v1] m Q = kJ 52 0 [some (.ref v1), some (.int v0)] [] m (fun v m2 => kJ 199 209 [l0, l1, l2, l3] (v.toList ++ []) m2 Q) := kJ_call d199_206 (kg_callv 52 1 rfl rfl rfl rfl (Nat.le_of_ble_eq_true rfl) (Nat.le_of_ble_eq_true rfl) (Nat.le_of_ble_eq_true rfl) h rfl)
theorem d199_209 : decode (mB 199) 209 = .ok (.aload_n 2, 1) := by decide +kernel
theorem s199_209 {l0 l1 l3 : Option Value} {st : List Value} {x : Nat} {m : kMem} {Q : Option Value → kMem → Prop} : kJ 199 209 [l0, l1, some (.ref x), l3] st m Q = kJ 199 210 [l0, l1, some (.ref x), l3] (.ref x :: st) m Q := kJ_next d199_209 rfl
theorem d199_210 : decode (mB 199) 210 = .ok (.aload_n 0, 1) := by decide +kernel
theorem s199_210 {l1 l2 l3 : Option Value} {st : List Value} {x : Nat} {m : kMem} {Q : Option Value → kMem → Prop} : kJ 199 210 [some (.ref x), l1, l2, l3] st m Q = kJ 199 211 [some (.ref x), l1, l2, l3] (.ref x :: st) m Q := kJ_next d199_210 rfl
theorem d199_211 : decode (mB 199) 211 = .ok (.iload_n 3, 1) := by decide +kernel
theorem s199_211 {l0 l1 l2 : Option Value} {st : List Value} {x : Int32} {m : kMem} {Q : Option Value → kMem → Prop} : kJ 199 211 [l0, l1, l2, some (.int x)] st m Q = kJ 199 212 [l0, l1, l2, some (.int x)] (.int x :: st) m Q := kJ_next d199_211 rfl
theorem d199_212 : decode (mB 199) 212 = .ok (.iconst 1, 1) := by decide +kernel
theorem s199_212 {l0 l1 l2 l3 : Option Value} {st : List Value} {m : kMem} {Q : Option Value → kMem → Prop} : kJ 199 212 [l0, l1, l2, l3] st m Q = kJ 199 213 [l0, l1, l2, l3] (.int (nI 1) :: st) m Q := kJ_next d199_212 rfl
theorem d199_213 : decode (mB 199) 213 = .ok (.iadd, 1) := by decide +kernel
theorem s199_213 {l0 l1 l2 l3 : Option Value} {st : List Value} {a b : Int32} {m : kMem} {Q : Option Value → kMem → Prop} : kJ 199 213 [l0, l1, l2, l3] (.int b :: .int a :: st) m Q = kJ 199 214 [l0, l1, l2, l3] (.int (a + b) :: st) m Q := kJ_next d199_213 rfl
theorem d199_214 : decode (mB 199) 214 = .ok (.iaload, 1) := by decide +kernel
theorem s199_214 {l0 l1 l2 l3 : Option Value} {st : List Value} {q : Nat} {i : Int32} {mi : Nat → Nat → Int32} {ml : Nat → Nat → Int64} {mr : Nat → Nat → Option Nat} {nx : Nat} {Q : Option Value → kMem → Prop} (h : kIs nx q 10 = true) : kJ 199 214 [l0, l1, l2, l3] (.int i :: .ref q :: st) (mi, ml, mr, nx) Q = (vp_in i (kAl q) ∧ kJ 199 215 [l0, l1, l2, l3] (.int (mi q i.toNatClampNeg) :: st) (mi, ml, mr, nx) Q) := kg_aldJ d199_214 rfl (kAr_of h)
theorem d199_215 : decode (mB 199) 215 = .ok (.invokevirtual 17, 3) := by decide +kernel
theorem s199_215 {l0 l1 l2 l3 : Option Value} {v0 : Int32} {v1 : Nat} {v2 : Int32} {m : kMem} {Q : Option Value → kMem → Prop} (h : kIs m.2.2.2 v1 5 = true) : kJ 199 215 [l0, l1, l2, l3] [.int v0, .ref v1, .int v2] m Q = kJ 112 0 [some (.ref v1), some (.int v0)] [] m (fun v m2 => kJ 199 218 [l0, l1, l2, l3] (v.toList ++ [.int v2]) m2 Q) := kJ_call d199_215 (kg_callv 112 1 rfl rfl rfl rfl (Nat.le_of_ble_eq_true rfl) (Nat.le_of_ble_eq_true rfl) (Nat.le_of_ble_eq_true rfl) h rfl)
theorem d199_218 : decode (mB 199) 218 = .ok (.if_icmp .eq 1198, 3) := by decide +kernel
theorem s199_218 {l0 l1 l2 l3 : Option Value} {st : List Value} {a b : Int32} {m : kMem} {Q : Option Value → kMem → Prop} : kJ 199 218 [l0, l1, l2, l3] (.int b :: .int a :: st) m Q = (if a = b then kJ 199 1416 [l0, l1, l2, l3] st m Q else kJ 199 221 [l0, l1, l2, l3] st m Q) := kJ_if d199_218 rfl (fun h => kJ_next d199_218 h) (fun h => kJ_next d199_218 h)
theorem d199_221 : decode (mB 199) 221 = .ok (.iconst 0, 1) := by decide +kernel
theorem s199_221 {l0 l1 l2 l3 : Option Value} {st : List Value} {m : kMem} {Q : Option Value → kMem → Prop} : kJ 199 221 [l0, l1, l2, l3] st m Q = kJ 199 222 [l0, l1, l2, l3] (.int (nI 0) :: st) m Q := kJ_next d199_221 rfl
theorem d199_222 : decode (mB 199) 222 = .ok (.ireturn, 1) := by decide +kernel
theorem s199_222 {l0 l1 l2 l3 : Option Value} {x : Int32} {m : kMem} {Q : Option Value → kMem → Prop} (hx : x = 0 ∨ x = 1) : kJ 199 222 [l0, l1, l2, l3] [.int x] m Q = Q (some (.int x)) m := kJ_ret d199_222 (kg_retz (by decide) hx)
theorem d199_223 : decode (mB 199) 223 = .ok (.aload_n 1, 1) := by decide +kernel
theorem s199_223 {l0 l2 l3 : Option Value} {st : List Value} {x : Nat} {m : kMem} {Q : Option Value → kMem → Prop} : kJ 199 223 [l0, some (.ref x), l2, l3] st m Q = kJ 199 224 [l0, some (.ref x), l2, l3] (.ref x :: st) m Q := kJ_next d199_223 rfl
theorem d199_224 : decode (mB 199) 224 = .ok (.aload_n 0, 1) := by decide +kernel
theorem s199_224 {l1 l2 l3 : Option Value} {st : List Value} {x : Nat} {m : kMem} {Q : Option Value → kMem → Prop} : kJ 199 224 [some (.ref x), l1, l2, l3] st m Q = kJ 199 225 [some (.ref x), l1, l2, l3] (.ref x :: st) m Q := kJ_next d199_224 rfl
theorem d199_225 : decode (mB 199) 225 = .ok (.iload_n 3, 1) := by decide +kernel
theorem s199_225 {l0 l1 l2 : Option Value} {st : List Value} {x : Int32} {m : kMem} {Q : Option Value → kMem → Prop} : kJ 199 225 [l0, l1, l2, some (.int x)] st m Q = kJ 199 226 [l0, l1, l2, some (.int x)] (.int x :: st) m Q := kJ_next d199_225 rfl
theorem d199_226 : decode (mB 199) 226 = .ok (.iconst 1, 1) := by decide +kernel
theorem s199_226 {l0 l1 l2 l3 : Option Value} {st : List Value} {m : kMem} {Q : Option Value → kMem → Prop} : kJ 199 226 [l0, l1, l2, l3] st m Q = kJ 199 227 [l0, l1, l2, l3] (.int (nI 1) :: st) m Q := kJ_next d199_226 rfl
theorem d199_227 : decode (mB 199) 227 = .ok (.iadd, 1) := by decide +kernel
theorem s199_227 {l0 l1 l2 l3 : Option Value} {st : List Value} {a b : Int32} {m : kMem} {Q : Option Value → kMem → Prop} : kJ 199 227 [l0, l1, l2, l3] (.int b :: .int a :: st) m Q = kJ 199 228 [l0, l1, l2, l3] (.int (a + b) :: st) m Q := kJ_next d199_227 rfl
theorem d199_228 : decode (mB 199) 228 = .ok (.iaload, 1) := by decide +kernel
theorem s199_228 {l0 l1 l2 l3 : Option Value} {st : List Value} {q : Nat} {i : Int32} {mi : Nat → Nat → Int32} {ml : Nat → Nat → Int64} {mr : Nat → Nat → Option Nat} {nx : Nat} {Q : Option Value → kMem → Prop} (h : kIs nx q 10 = true) : kJ 199 228 [l0, l1, l2, l3] (.int i :: .ref q :: st) (mi, ml, mr, nx) Q = (vp_in i (kAl q) ∧ kJ 199 229 [l0, l1, l2, l3] (.int (mi q i.toNatClampNeg) :: st) (mi, ml, mr, nx) Q) := kg_aldJ d199_228 rfl (kAr_of h)
theorem d199_229 : decode (mB 199) 229 = .ok (.invokevirtual 18, 3) := by decide +kernel
theorem s199_229 {l0 l1 l2 l3 : Option Value} {v0 : Int32} {v1 : Nat} {m : kMem} {Q : Option Value → kMem → Prop} (h : kIs m.2.2.2 v1 4 = true) : kJ 199 229 [l0, l1, l2, l3] [.int v0, .ref v1] m Q = kJ 53 0 [some (.ref v1), some (.int v0), none] [] m (fun v m2 => kJ 199 232 [l0, l1, l2, l3] (v.toList ++ []) m2 Q) := kJ_call d199_229 (kg_callv 53 1 rfl rfl rfl rfl (Nat.le_of_ble_eq_true rfl) (Nat.le_of_ble_eq_true rfl) (Nat.le_of_ble_eq_true rfl) h rfl)
theorem d199_232 : decode (mB 199) 232 = .ok (.aload_n 2, 1) := by decide +kernel
theorem s199_232 {l0 l1 l3 : Option Value} {st : List Value} {x : Nat} {m : kMem} {Q : Option Value → kMem → Prop} : kJ 199 232 [l0, l1, some (.ref x), l3] st m Q = kJ 199 233 [l0, l1, some (.ref x), l3] (.ref x :: st) m Q := kJ_next d199_232 rfl
theorem d199_233 : decode (mB 199) 233 = .ok (.aload_n 0, 1) := by decide +kernel
theorem s199_233 {l1 l2 l3 : Option Value} {st : List Value} {x : Nat} {m : kMem} {Q : Option Value → kMem → Prop} : kJ 199 233 [some (.ref x), l1, l2, l3] st m Q = kJ 199 234 [some (.ref x), l1, l2, l3] (.ref x :: st) m Q := kJ_next d199_233 rfl
theorem d199_234 : decode (mB 199) 234 = .ok (.iload_n 3, 1) := by decide +kernel
theorem s199_234 {l0 l1 l2 : Option Value} {st : List Value} {x : Int32} {m : kMem} {Q : Option Value → kMem → Prop} : kJ 199 234 [l0, l1, l2, some (.int x)] st m Q = kJ 199 235 [l0, l1, l2, some (.int x)] (.int x :: st) m Q := kJ_next d199_234 rfl
theorem d199_235 : decode (mB 199) 235 = .ok (.iconst 1, 1) := by decide +kernel
theorem s199_235 {l0 l1 l2 l3 : Option Value} {st : List Value} {m : kMem} {Q : Option Value → kMem → Prop} : kJ 199 235 [l0, l1, l2, l3] st m Q = kJ 199 236 [l0, l1, l2, l3] (.int (nI 1) :: st) m Q := kJ_next d199_235 rfl
theorem d199_236 : decode (mB 199) 236 = .ok (.iadd, 1) := by decide +kernel
theorem s199_236 {l0 l1 l2 l3 : Option Value} {st : List Value} {a b : Int32} {m : kMem} {Q : Option Value → kMem → Prop} : kJ 199 236 [l0, l1, l2, l3] (.int b :: .int a :: st) m Q = kJ 199 237 [l0, l1, l2, l3] (.int (a + b) :: st) m Q := kJ_next d199_236 rfl
theorem d199_237 : decode (mB 199) 237 = .ok (.iaload, 1) := by decide +kernel
theorem s199_237 {l0 l1 l2 l3 : Option Value} {st : List Value} {q : Nat} {i : Int32} {mi : Nat → Nat → Int32} {ml : Nat → Nat → Int64} {mr : Nat → Nat → Option Nat} {nx : Nat} {Q : Option Value → kMem → Prop} (h : kIs nx q 10 = true) : kJ 199 237 [l0, l1, l2, l3] (.int i :: .ref q :: st) (mi, ml, mr, nx) Q = (vp_in i (kAl q) ∧ kJ 199 238 [l0, l1, l2, l3] (.int (mi q i.toNatClampNeg) :: st) (mi, ml, mr, nx) Q) := kg_aldJ d199_237 rfl (kAr_of h)
theorem d199_238 : decode (mB 199) 238 = .ok (.invokevirtual 21, 3) := by decide +kernel
theorem s199_238 {l0 l1 l2 l3 : Option Value} {v0 : Int32} {v1 : Nat} {v2 : Int32} {m : kMem} {Q : Option Value → kMem → Prop} (h : kIs m.2.2.2 v1 5 = true) : kJ 199 238 [l0, l1, l2, l3] [.int v0, .ref v1, .int v2] m Q = kJ 113 0 [some (.ref v1), some (.int v0), none] [] m (fun v m2 => kJ 199 241 [l0, l1, l2, l3] (v.toList ++ [.int v2]) m2 Q) := kJ_call d199_238 (kg_callv 113 1 rfl rfl rfl rfl (Nat.le_of_ble_eq_true rfl) (Nat.le_of_ble_eq_true rfl) (Nat.le_of_ble_eq_true rfl) h rfl)
theorem d199_241 : decode (mB 199) 241 = .ok (.if_icmp .eq 1175, 3) := by decide +kernel
theorem s199_241 {l0 l1 l2 l3 : Option Value} {st : List Value} {a b : Int32} {m : kMem} {Q : Option Value → kMem → Prop} : kJ 199 241 [l0, l1, l2, l3] (.int b :: .int a :: st) m Q = (if a = b then kJ 199 1416 [l0, l1, l2, l3] st m Q else kJ 199 244 [l0, l1, l2, l3] st m Q) := kJ_if d199_241 rfl (fun h => kJ_next d199_241 h) (fun h => kJ_next d199_241 h)
theorem d199_244 : decode (mB 199) 244 = .ok (.iconst 0, 1) := by decide +kernel
theorem s199_244 {l0 l1 l2 l3 : Option Value} {st : List Value} {m : kMem} {Q : Option Value → kMem → Prop} : kJ 199 244 [l0, l1, l2, l3] st m Q = kJ 199 245 [l0, l1, l2, l3] (.int (nI 0) :: st) m Q := kJ_next d199_244 rfl
theorem d199_245 : decode (mB 199) 245 = .ok (.ireturn, 1) := by decide +kernel
theorem s199_245 {l0 l1 l2 l3 : Option Value} {x : Int32} {m : kMem} {Q : Option Value → kMem → Prop} (hx : x = 0 ∨ x = 1) : kJ 199 245 [l0, l1, l2, l3] [.int x] m Q = Q (some (.int x)) m := kJ_ret d199_245 (kg_retz (by decide) hx)
theorem d199_246 : decode (mB 199) 246 = .ok (.aload_n 1, 1) := by decide +kernel
theorem s199_246 {l0 l2 l3 : Option Value} {st : List Value} {x : Nat} {m : kMem} {Q : Option Value → kMem → Prop} : kJ 199 246 [l0, some (.ref x), l2, l3] st m Q = kJ 199 247 [l0, some (.ref x), l2, l3] (.ref x :: st) m Q := kJ_next d199_246 rfl
theorem d199_247 : decode (mB 199) 247 = .ok (.invokevirtual 22, 3) := by decide +kernel
theorem s199_247 {l0 l1 l2 l3 : Option Value} {v0 : Nat} {m : kMem} {Q : Option Value → kMem → Prop} (h : kIs m.2.2.2 v0 4 = true) : kJ 199 247 [l0, l1, l2, l3] [.ref v0] m Q = kJ 54 0 [some (.ref v0), none] [] m (fun v m2 => kJ 199 250 [l0, l1, l2, l3] (v.toList ++ []) m2 Q) := kJ_call d199_247 (kg_callv 54 0 rfl rfl rfl rfl (Nat.le_of_ble_eq_true rfl) (Nat.le_of_ble_eq_true rfl) (Nat.le_of_ble_eq_true rfl) h rfl)
theorem d199_250 : decode (mB 199) 250 = .ok (.aload_n 2, 1) := by decide +kernel
theorem s199_250 {l0 l1 l3 : Option Value} {st : List Value} {x : Nat} {m : kMem} {Q : Option Value → kMem → Prop} : kJ 199 250 [l0, l1, some (.ref x), l3] st m Q = kJ 199 251 [l0, l1, some (.ref x), l3] (.ref x :: st) m Q := kJ_next d199_250 rfl
theorem d199_251 : decode (mB 199) 251 = .ok (.invokevirtual 26, 3) := by decide +kernel
theorem s199_251 {l0 l1 l2 l3 : Option Value} {v0 : Nat} {v1 : Int32} {m : kMem} {Q : Option Value → kMem → Prop} (h : kIs m.2.2.2 v0 5 = true) : kJ 199 251 [l0, l1, l2, l3] [.ref v0, .int v1] m Q = kJ 124 0 [some (.ref v0), none] [] m (fun v m2 => kJ 199 254 [l0, l1, l2, l3] (v.toList ++ [.int v1]) m2 Q) := kJ_call d199_251 (kg_callv 124 0 rfl rfl rfl rfl (Nat.le_of_ble_eq_true rfl) (Nat.le_of_ble_eq_true rfl) (Nat.le_of_ble_eq_true rfl) h rfl)
theorem d199_254 : decode (mB 199) 254 = .ok (.if_icmp .eq 1162, 3) := by decide +kernel
theorem s199_254 {l0 l1 l2 l3 : Option Value} {st : List Value} {a b : Int32} {m : kMem} {Q : Option Value → kMem → Prop} : kJ 199 254 [l0, l1, l2, l3] (.int b :: .int a :: st) m Q = (if a = b then kJ 199 1416 [l0, l1, l2, l3] st m Q else kJ 199 257 [l0, l1, l2, l3] st m Q) := kJ_if d199_254 rfl (fun h => kJ_next d199_254 h) (fun h => kJ_next d199_254 h)
theorem d199_257 : decode (mB 199) 257 = .ok (.iconst 0, 1) := by decide +kernel
theorem s199_257 {l0 l1 l2 l3 : Option Value} {st : List Value} {m : kMem} {Q : Option Value → kMem → Prop} : kJ 199 257 [l0, l1, l2, l3] st m Q = kJ 199 258 [l0, l1, l2, l3] (.int (nI 0) :: st) m Q := kJ_next d199_257 rfl
theorem d199_258 : decode (mB 199) 258 = .ok (.ireturn, 1) := by decide +kernel
theorem s199_258 {l0 l1 l2 l3 : Option Value} {x : Int32} {m : kMem} {Q : Option Value → kMem → Prop} (hx : x = 0 ∨ x = 1) : kJ 199 258 [l0, l1, l2, l3] [.int x] m Q = Q (some (.int x)) m := kJ_ret d199_258 (kg_retz (by decide) hx)
theorem d199_259 : decode (mB 199) 259 = .ok (.aload_n 1, 1) := by decide +kernel
theorem s199_259 {l0 l2 l3 : Option Value} {st : List Value} {x : Nat} {m : kMem} {Q : Option Value → kMem → Prop} : kJ 199 259 [l0, some (.ref x), l2, l3] st m Q = kJ 199 260 [l0, some (.ref x), l2, l3] (.ref x :: st) m Q := kJ_next d199_259 rfl
theorem d199_260 : decode (mB 199) 260 = .ok (.invokevirtual 27, 3) := by decide +kernel
theorem s199_260 {l0 l1 l2 l3 : Option Value} {v0 : Nat} {m : kMem} {Q : Option Value → kMem → Prop} (h : kIs m.2.2.2 v0 4 = true) : kJ 199 260 [l0, l1, l2, l3] [.ref v0] m Q = kJ 55 0 [some (.ref v0)] [] m (fun v m2 => kJ 199 263 [l0, l1, l2, l3] (v.toList ++ []) m2 Q) := kJ_call d199_260 (kg_callv 55 0 rfl rfl rfl rfl (Nat.le_of_ble_eq_true rfl) (Nat.le_of_ble_eq_true rfl) (Nat.le_of_ble_eq_true rfl) h rfl)
theorem d199_263 : decode (mB 199) 263 = .ok (.aload_n 2, 1) := by decide +kernel
theorem s199_263 {l0 l1 l3 : Option Value} {st : List Value} {x : Nat} {m : kMem} {Q : Option Value → kMem → Prop} : kJ 199 263 [l0, l1, some (.ref x), l3] st m Q = kJ 199 264 [l0, l1, some (.ref x), l3] (.ref x :: st) m Q := kJ_next d199_263 rfl
theorem d199_264 : decode (mB 199) 264 = .ok (.invokevirtual 30, 3) := by decide +kernel
theorem s199_264 {l0 l1 l2 l3 : Option Value} {v0 : Nat} {v1 : Int32} {m : kMem} {Q : Option Value → kMem → Prop} (h : kIs m.2.2.2 v0 5 = true) : kJ 199 264 [l0, l1, l2, l3] [.ref v0, .int v1] m Q = kJ 125 0 [some (.ref v0)] [] m (fun v m2 => kJ 199 267 [l0, l1, l2, l3] (v.toList ++ [.int v1]) m2 Q) := kJ_call d199_264 (kg_callv 125 0 rfl rfl rfl rfl (Nat.le_of_ble_eq_true rfl) (Nat.le_of_ble_eq_true rfl) (Nat.le_of_ble_eq_true rfl) h rfl)
theorem d199_267 : decode (mB 199) 267 = .ok (.if_icmp .eq 1149, 3) := by decide +kernel
theorem s199_267 {l0 l1 l2 l3 : Option Value} {st : List Value} {a b : Int32} {m : kMem} {Q : Option Value → kMem → Prop} : kJ 199 267 [l0, l1, l2, l3] (.int b :: .int a :: st) m Q = (if a = b then kJ 199 1416 [l0, l1, l2, l3] st m Q else kJ 199 270 [l0, l1, l2, l3] st m Q) := kJ_if d199_267 rfl (fun h => kJ_next d199_267 h) (fun h => kJ_next d199_267 h)
theorem d199_270 : decode (mB 199) 270 = .ok (.iconst 0, 1) := by decide +kernel
theorem s199_270 {l0 l1 l2 l3 : Option Value} {st : List Value} {m : kMem} {Q : Option Value → kMem → Prop} : kJ 199 270 [l0, l1, l2, l3] st m Q = kJ 199 271 [l0, l1, l2, l3] (.int (nI 0) :: st) m Q := kJ_next d199_270 rfl
theorem d199_271 : decode (mB 199) 271 = .ok (.ireturn, 1) := by decide +kernel
theorem s199_271 {l0 l1 l2 l3 : Option Value} {x : Int32} {m : kMem} {Q : Option Value → kMem → Prop} (hx : x = 0 ∨ x = 1) : kJ 199 271 [l0, l1, l2, l3] [.int x] m Q = Q (some (.int x)) m := kJ_ret d199_271 (kg_retz (by decide) hx)
theorem d199_272 : decode (mB 199) 272 = .ok (.aload_n 1, 1) := by decide +kernel
theorem s199_272 {l0 l2 l3 : Option Value} {st : List Value} {x : Nat} {m : kMem} {Q : Option Value → kMem → Prop} : kJ 199 272 [l0, some (.ref x), l2, l3] st m Q = kJ 199 273 [l0, some (.ref x), l2, l3] (.ref x :: st) m Q := kJ_next d199_272 rfl
theorem d199_273 : decode (mB 199) 273 = .ok (.aload_n 0, 1) := by decide +kernel
theorem s199_273 {l1 l2 l3 : Option Value} {st : List Value} {x : Nat} {m : kMem} {Q : Option Value → kMem → Prop} : kJ 199 273 [some (.ref x), l1, l2, l3] st m Q = kJ 199 274 [some (.ref x), l1, l2, l3] (.ref x :: st) m Q := kJ_next d199_273 rfl
theorem d199_274 : decode (mB 199) 274 = .ok (.iload_n 3, 1) := by decide +kernel
theorem s199_274 {l0 l1 l2 : Option Value} {st : List Value} {x : Int32} {m : kMem} {Q : Option Value → kMem → Prop} : kJ 199 274 [l0, l1, l2, some (.int x)] st m Q = kJ 199 275 [l0, l1, l2, some (.int x)] (.int x :: st) m Q := kJ_next d199_274 rfl
theorem d199_275 : decode (mB 199) 275 = .ok (.iconst 1, 1) := by decide +kernel
theorem s199_275 {l0 l1 l2 l3 : Option Value} {st : List Value} {m : kMem} {Q : Option Value → kMem → Prop} : kJ 199 275 [l0, l1, l2, l3] st m Q = kJ 199 276 [l0, l1, l2, l3] (.int (nI 1) :: st) m Q := kJ_next d199_275 rfl
theorem d199_276 : decode (mB 199) 276 = .ok (.iadd, 1) := by decide +kernel
theorem s199_276 {l0 l1 l2 l3 : Option Value} {st : List Value} {a b : Int32} {m : kMem} {Q : Option Value → kMem → Prop} : kJ 199 276 [l0, l1, l2, l3] (.int b :: .int a :: st) m Q = kJ 199 277 [l0, l1, l2, l3] (.int (a + b) :: st) m Q := kJ_next d199_276 rfl
theorem d199_277 : decode (mB 199) 277 = .ok (.iaload, 1) := by decide +kernel
theorem s199_277 {l0 l1 l2 l3 : Option Value} {st : List Value} {q : Nat} {i : Int32} {mi : Nat → Nat → Int32} {ml : Nat → Nat → Int64} {mr : Nat → Nat → Option Nat} {nx : Nat} {Q : Option Value → kMem → Prop} (h : kIs nx q 10 = true) : kJ 199 277 [l0, l1, l2, l3] (.int i :: .ref q :: st) (mi, ml, mr, nx) Q = (vp_in i (kAl q) ∧ kJ 199 278 [l0, l1, l2, l3] (.int (mi q i.toNatClampNeg) :: st) (mi, ml, mr, nx) Q) := kg_aldJ d199_277 rfl (kAr_of h)
theorem d199_278 : decode (mB 199) 278 = .ok (.invokevirtual 31, 3) := by decide +kernel
theorem s199_278 {l0 l1 l2 l3 : Option Value} {v0 : Int32} {v1 : Nat} {m : kMem} {Q : Option Value → kMem → Prop} (h : kIs m.2.2.2 v1 4 = true) : kJ 199 278 [l0, l1, l2, l3] [.int v0, .ref v1] m Q = kJ 56 0 [some (.ref v1), some (.int v0)] [] m (fun v m2 => kJ 199 281 [l0, l1, l2, l3] (v.toList ++ []) m2 Q) := kJ_call d199_278 (kg_callv 56 1 rfl rfl rfl rfl (Nat.le_of_ble_eq_true rfl) (Nat.le_of_ble_eq_true rfl) (Nat.le_of_ble_eq_true rfl) h rfl)
theorem d199_281 : decode (mB 199) 281 = .ok (.aload_n 2, 1) := by decide +kernel
theorem s199_281 {l0 l1 l3 : Option Value} {st : List Value} {x : Nat} {m : kMem} {Q : Option Value → kMem → Prop} : kJ 199 281 [l0, l1, some (.ref x), l3] st m Q = kJ 199 282 [l0, l1, some (.ref x), l3] (.ref x :: st) m Q := kJ_next d199_281 rfl
theorem d199_282 : decode (mB 199) 282 = .ok (.aload_n 0, 1) := by decide +kernel
theorem s199_282 {l1 l2 l3 : Option Value} {st : List Value} {x : Nat} {m : kMem} {Q : Option Value → kMem → Prop} : kJ 199 282 [some (.ref x), l1, l2, l3] st m Q = kJ 199 283 [some (.ref x), l1, l2, l3] (.ref x :: st) m Q := kJ_next d199_282 rfl
theorem d199_283 : decode (mB 199) 283 = .ok (.iload_n 3, 1) := by decide +kernel
theorem s199_283 {l0 l1 l2 : Option Value} {st : List Value} {x : Int32} {m : kMem} {Q : Option Value → kMem → Prop} : kJ 199 283 [l0, l1, l2, some (.int x)] st m Q = kJ 199 284 [l0, l1, l2, some (.int x)] (.int x :: st) m Q := kJ_next d199_283 rfl
theorem d199_284 : decode (mB 199) 284 = .ok (.iconst 1, 1) := by decide +kernel
theorem s199_284 {l0 l1 l2 l3 : Option Value} {st : List Value} {m : kMem} {Q : Option Value → kMem → Prop} : kJ 199 284 [l0, l1, l2, l3] st m Q = kJ 199 285 [l0, l1, l2, l3] (.int (nI 1) :: st) m Q := kJ_next d199_284 rfl
theorem d199_285 : decode (mB 199) 285 = .ok (.iadd, 1) := by decide +kernel
theorem s199_285 {l0 l1 l2 l3 : Option Value} {st : List Value} {a b : Int32} {m : kMem} {Q : Option Value → kMem → Prop} : kJ 199 285 [l0, l1, l2, l3] (.int b :: .int a :: st) m Q = kJ 199 286 [l0, l1, l2, l3] (.int (a + b) :: st) m Q := kJ_next d199_285 rfl
theorem d199_286 : decode (mB 199) 286 = .ok (.iaload, 1) := by decide +kernel
theorem s199_286 {l0 l1 l2 l3 : Option Value} {st : List Value} {q : Nat} {i : Int32} {mi : Nat → Nat → Int32} {ml : Nat → Nat → Int64} {mr : Nat → Nat → Option Nat} {nx : Nat} {Q : Option Value → kMem → Prop} (h : kIs nx q 10 = true) : kJ 199 286 [l0, l1, l2, l3] (.int i :: .ref q :: st) (mi, ml, mr, nx) Q = (vp_in i (kAl q) ∧ kJ 199 287 [l0, l1, l2, l3] (.int (mi q i.toNatClampNeg) :: st) (mi, ml, mr, nx) Q) := kg_aldJ d199_286 rfl (kAr_of h)
theorem d199_287 : decode (mB 199) 287 = .ok (.invokevirtual 34, 3) := by decide +kernel
theorem s199_287 {l0 l1 l2 l3 : Option Value} {v0 : Int32} {v1 : Nat} {v2 : Int32} {m : kMem} {Q : Option Value → kMem → Prop} (h : kIs m.2.2.2 v1 5 = true) : kJ 199 287 [l0, l1, l2, l3] [.int v0, .ref v1, .int v2] m Q = kJ 149 0 [some (.ref v1), some (.int v0)] [] m (fun v m2 => kJ 199 290 [l0, l1, l2, l3] (v.toList ++ [.int v2]) m2 Q) := kJ_call d199_287 (kg_callv 149 1 rfl rfl rfl rfl (Nat.le_of_ble_eq_true rfl) (Nat.le_of_ble_eq_true rfl) (Nat.le_of_ble_eq_true rfl) h rfl)
theorem d199_290 : decode (mB 199) 290 = .ok (.if_icmp .eq 1126, 3) := by decide +kernel
theorem s199_290 {l0 l1 l2 l3 : Option Value} {st : List Value} {a b : Int32} {m : kMem} {Q : Option Value → kMem → Prop} : kJ 199 290 [l0, l1, l2, l3] (.int b :: .int a :: st) m Q = (if a = b then kJ 199 1416 [l0, l1, l2, l3] st m Q else kJ 199 293 [l0, l1, l2, l3] st m Q) := kJ_if d199_290 rfl (fun h => kJ_next d199_290 h) (fun h => kJ_next d199_290 h)
theorem d199_293 : decode (mB 199) 293 = .ok (.iconst 0, 1) := by decide +kernel
theorem s199_293 {l0 l1 l2 l3 : Option Value} {st : List Value} {m : kMem} {Q : Option Value → kMem → Prop} : kJ 199 293 [l0, l1, l2, l3] st m Q = kJ 199 294 [l0, l1, l2, l3] (.int (nI 0) :: st) m Q := kJ_next d199_293 rfl
theorem d199_294 : decode (mB 199) 294 = .ok (.ireturn, 1) := by decide +kernel
theorem s199_294 {l0 l1 l2 l3 : Option Value} {x : Int32} {m : kMem} {Q : Option Value → kMem → Prop} (hx : x = 0 ∨ x = 1) : kJ 199 294 [l0, l1, l2, l3] [.int x] m Q = Q (some (.int x)) m := kJ_ret d199_294 (kg_retz (by decide) hx)
theorem d199_295 : decode (mB 199) 295 = .ok (.aload_n 1, 1) := by decide +kernel
theorem s199_295 {l0 l2 l3 : Option Value} {st : List Value} {x : Nat} {m : kMem} {Q : Option Value → kMem → Prop} : kJ 199 295 [l0, some (.ref x), l2, l3] st m Q = kJ 199 296 [l0, some (.ref x), l2, l3] (.ref x :: st) m Q := kJ_next d199_295 rfl
theorem d199_296 : decode (mB 199) 296 = .ok (.aload_n 0, 1) := by decide +kernel
theorem s199_296 {l1 l2 l3 : Option Value} {st : List Value} {x : Nat} {m : kMem} {Q : Option Value → kMem → Prop} : kJ 199 296 [some (.ref x), l1, l2, l3] st m Q = kJ 199 297 [some (.ref x), l1, l2, l3] (.ref x :: st) m Q := kJ_next d199_296 rfl
theorem d199_297 : decode (mB 199) 297 = .ok (.iload_n 3, 1) := by decide +kernel
theorem s199_297 {l0 l1 l2 : Option Value} {st : List Value} {x : Int32} {m : kMem} {Q : Option Value → kMem → Prop} : kJ 199 297 [l0, l1, l2, some (.int x)] st m Q = kJ 199 298 [l0, l1, l2, some (.int x)] (.int x :: st) m Q := kJ_next d199_297 rfl
theorem d199_298 : decode (mB 199) 298 = .ok (.iconst 1, 1) := by decide +kernel
theorem s199_298 {l0 l1 l2 l3 : Option Value} {st : List Value} {m : kMem} {Q : Option Value → kMem → Prop} : kJ 199 298 [l0, l1, l2, l3] st m Q = kJ 199 299 [l0, l1, l2, l3] (.int (nI 1) :: st) m Q := kJ_next d199_298 rfl
theorem d199_299 : decode (mB 199) 299 = .ok (.iadd, 1) := by decide +kernel
theorem s199_299 {l0 l1 l2 l3 : Option Value} {st : List Value} {a b : Int32} {m : kMem} {Q : Option Value → kMem → Prop} : kJ 199 299 [l0, l1, l2, l3] (.int b :: .int a :: st) m Q = kJ 199 300 [l0, l1, l2, l3] (.int (a + b) :: st) m Q := kJ_next d199_299 rfl
theorem d199_300 : decode (mB 199) 300 = .ok (.iaload, 1) := by decide +kernel
theorem s199_300 {l0 l1 l2 l3 : Option Value} {st : List Value} {q : Nat} {i : Int32} {mi : Nat → Nat → Int32} {ml : Nat → Nat → Int64} {mr : Nat → Nat → Option Nat} {nx : Nat} {Q : Option Value → kMem → Prop} (h : kIs nx q 10 = true) : kJ 199 300 [l0, l1, l2, l3] (.int i :: .ref q :: st) (mi, ml, mr, nx) Q = (vp_in i (kAl q) ∧ kJ 199 301 [l0, l1, l2, l3] (.int (mi q i.toNatClampNeg) :: st) (mi, ml, mr, nx) Q) := kg_aldJ d199_300 rfl (kAr_of h)
theorem d199_301 : decode (mB 199) 301 = .ok (.aload_n 0, 1) := by decide +kernel
theorem s199_301 {l1 l2 l3 : Option Value} {st : List Value} {x : Nat} {m : kMem} {Q : Option Value → kMem → Prop} : kJ 199 301 [some (.ref x), l1, l2, l3] st m Q = kJ 199 302 [some (.ref x), l1, l2, l3] (.ref x :: st) m Q := kJ_next d199_301 rfl
theorem d199_302 : decode (mB 199) 302 = .ok (.iload_n 3, 1) := by decide +kernel
theorem s199_302 {l0 l1 l2 : Option Value} {st : List Value} {x : Int32} {m : kMem} {Q : Option Value → kMem → Prop} : kJ 199 302 [l0, l1, l2, some (.int x)] st m Q = kJ 199 303 [l0, l1, l2, some (.int x)] (.int x :: st) m Q := kJ_next d199_302 rfl
theorem d199_303 : decode (mB 199) 303 = .ok (.iconst 2, 1) := by decide +kernel
theorem s199_303 {l0 l1 l2 l3 : Option Value} {st : List Value} {m : kMem} {Q : Option Value → kMem → Prop} : kJ 199 303 [l0, l1, l2, l3] st m Q = kJ 199 304 [l0, l1, l2, l3] (.int (nI 2) :: st) m Q := kJ_next d199_303 rfl
theorem d199_304 : decode (mB 199) 304 = .ok (.iadd, 1) := by decide +kernel
theorem s199_304 {l0 l1 l2 l3 : Option Value} {st : List Value} {a b : Int32} {m : kMem} {Q : Option Value → kMem → Prop} : kJ 199 304 [l0, l1, l2, l3] (.int b :: .int a :: st) m Q = kJ 199 305 [l0, l1, l2, l3] (.int (a + b) :: st) m Q := kJ_next d199_304 rfl
theorem d199_305 : decode (mB 199) 305 = .ok (.iaload, 1) := by decide +kernel
theorem s199_305 {l0 l1 l2 l3 : Option Value} {st : List Value} {q : Nat} {i : Int32} {mi : Nat → Nat → Int32} {ml : Nat → Nat → Int64} {mr : Nat → Nat → Option Nat} {nx : Nat} {Q : Option Value → kMem → Prop} (h : kIs nx q 10 = true) : kJ 199 305 [l0, l1, l2, l3] (.int i :: .ref q :: st) (mi, ml, mr, nx) Q = (vp_in i (kAl q) ∧ kJ 199 306 [l0, l1, l2, l3] (.int (mi q i.toNatClampNeg) :: st) (mi, ml, mr, nx) Q) := kg_aldJ d199_305 rfl (kAr_of h)
theorem d199_306 : decode (mB 199) 306 = .ok (.invokevirtual 35, 3) := by decide +kernel
theorem s199_306 {l0 l1 l2 l3 : Option Value} {v0 : Int32} {v1 : Int32} {v2 : Nat} {m : kMem} {Q : Option Value → kMem → Prop} (h : kIs m.2.2.2 v2 4 = true) : kJ 199 306 [l0, l1, l2, l3] [.int v0, .int v1, .ref v2] m Q = kJ 57 0 [some (.ref v2), some (.int v1), some (.int v0)] [] m (fun v m2 => kJ 199 309 [l0, l1, l2, l3] (v.toList ++ []) m2 Q) := kJ_call d199_306 (kg_callv 57 2 rfl rfl rfl rfl (Nat.le_of_ble_eq_true rfl) (Nat.le_of_ble_eq_true rfl) (Nat.le_of_ble_eq_true rfl) h rfl)
theorem d199_309 : decode (mB 199) 309 = .ok (.aload_n 2, 1) := by decide +kernel
theorem s199_309 {l0 l1 l3 : Option Value} {st : List Value} {x : Nat} {m : kMem} {Q : Option Value → kMem → Prop} : kJ 199 309 [l0, l1, some (.ref x), l3] st m Q = kJ 199 310 [l0, l1, some (.ref x), l3] (.ref x :: st) m Q := kJ_next d199_309 rfl
theorem d199_310 : decode (mB 199) 310 = .ok (.aload_n 0, 1) := by decide +kernel
theorem s199_310 {l1 l2 l3 : Option Value} {st : List Value} {x : Nat} {m : kMem} {Q : Option Value → kMem → Prop} : kJ 199 310 [some (.ref x), l1, l2, l3] st m Q = kJ 199 311 [some (.ref x), l1, l2, l3] (.ref x :: st) m Q := kJ_next d199_310 rfl
theorem d199_311 : decode (mB 199) 311 = .ok (.iload_n 3, 1) := by decide +kernel
theorem s199_311 {l0 l1 l2 : Option Value} {st : List Value} {x : Int32} {m : kMem} {Q : Option Value → kMem → Prop} : kJ 199 311 [l0, l1, l2, some (.int x)] st m Q = kJ 199 312 [l0, l1, l2, some (.int x)] (.int x :: st) m Q := kJ_next d199_311 rfl
theorem d199_312 : decode (mB 199) 312 = .ok (.iconst 1, 1) := by decide +kernel
theorem s199_312 {l0 l1 l2 l3 : Option Value} {st : List Value} {m : kMem} {Q : Option Value → kMem → Prop} : kJ 199 312 [l0, l1, l2, l3] st m Q = kJ 199 313 [l0, l1, l2, l3] (.int (nI 1) :: st) m Q := kJ_next d199_312 rfl
theorem d199_313 : decode (mB 199) 313 = .ok (.iadd, 1) := by decide +kernel
theorem s199_313 {l0 l1 l2 l3 : Option Value} {st : List Value} {a b : Int32} {m : kMem} {Q : Option Value → kMem → Prop} : kJ 199 313 [l0, l1, l2, l3] (.int b :: .int a :: st) m Q = kJ 199 314 [l0, l1, l2, l3] (.int (a + b) :: st) m Q := kJ_next d199_313 rfl
theorem d199_314 : decode (mB 199) 314 = .ok (.iaload, 1) := by decide +kernel
theorem s199_314 {l0 l1 l2 l3 : Option Value} {st : List Value} {q : Nat} {i : Int32} {mi : Nat → Nat → Int32} {ml : Nat → Nat → Int64} {mr : Nat → Nat → Option Nat} {nx : Nat} {Q : Option Value → kMem → Prop} (h : kIs nx q 10 = true) : kJ 199 314 [l0, l1, l2, l3] (.int i :: .ref q :: st) (mi, ml, mr, nx) Q = (vp_in i (kAl q) ∧ kJ 199 315 [l0, l1, l2, l3] (.int (mi q i.toNatClampNeg) :: st) (mi, ml, mr, nx) Q) := kg_aldJ d199_314 rfl (kAr_of h)
theorem d199_315 : decode (mB 199) 315 = .ok (.aload_n 0, 1) := by decide +kernel
theorem s199_315 {l1 l2 l3 : Option Value} {st : List Value} {x : Nat} {m : kMem} {Q : Option Value → kMem → Prop} : kJ 199 315 [some (.ref x), l1, l2, l3] st m Q = kJ 199 316 [some (.ref x), l1, l2, l3] (.ref x :: st) m Q := kJ_next d199_315 rfl
theorem d199_316 : decode (mB 199) 316 = .ok (.iload_n 3, 1) := by decide +kernel
theorem s199_316 {l0 l1 l2 : Option Value} {st : List Value} {x : Int32} {m : kMem} {Q : Option Value → kMem → Prop} : kJ 199 316 [l0, l1, l2, some (.int x)] st m Q = kJ 199 317 [l0, l1, l2, some (.int x)] (.int x :: st) m Q := kJ_next d199_316 rfl
theorem d199_317 : decode (mB 199) 317 = .ok (.iconst 2, 1) := by decide +kernel
theorem s199_317 {l0 l1 l2 l3 : Option Value} {st : List Value} {m : kMem} {Q : Option Value → kMem → Prop} : kJ 199 317 [l0, l1, l2, l3] st m Q = kJ 199 318 [l0, l1, l2, l3] (.int (nI 2) :: st) m Q := kJ_next d199_317 rfl
theorem d199_318 : decode (mB 199) 318 = .ok (.iadd, 1) := by decide +kernel
theorem s199_318 {l0 l1 l2 l3 : Option Value} {st : List Value} {a b : Int32} {m : kMem} {Q : Option Value → kMem → Prop} : kJ 199 318 [l0, l1, l2, l3] (.int b :: .int a :: st) m Q = kJ 199 319 [l0, l1, l2, l3] (.int (a + b) :: st) m Q := kJ_next d199_318 rfl
theorem d199_319 : decode (mB 199) 319 = .ok (.iaload, 1) := by decide +kernel
theorem s199_319 {l0 l1 l2 l3 : Option Value} {st : List Value} {q : Nat} {i : Int32} {mi : Nat → Nat → Int32} {ml : Nat → Nat → Int64} {mr : Nat → Nat → Option Nat} {nx : Nat} {Q : Option Value → kMem → Prop} (h : kIs nx q 10 = true) : kJ 199 319 [l0, l1, l2, l3] (.int i :: .ref q :: st) (mi, ml, mr, nx) Q = (vp_in i (kAl q) ∧ kJ 199 320 [l0, l1, l2, l3] (.int (mi q i.toNatClampNeg) :: st) (mi, ml, mr, nx) Q) := kg_aldJ d199_319 rfl (kAr_of h)
theorem d199_320 : decode (mB 199) 320 = .ok (.invokevirtual 39, 3) := by decide +kernel
theorem s199_320 {l0 l1 l2 l3 : Option Value} {v0 : Int32} {v1 : Int32} {v2 : Nat} {v3 : Int32} {m : kMem} {Q : Option Value → kMem → Prop} (h : kIs m.2.2.2 v2 5 = true) : kJ 199 320 [l0, l1, l2, l3] [.int v0, .int v1, .ref v2, .int v3] m Q = kJ 150 0 [some (.ref v2), some (.int v1), some (.int v0), none, none] [] m (fun v m2 => kJ 199 323 [l0, l1, l2, l3] (v.toList ++ [.int v3]) m2 Q) := kJ_call d199_320 (kg_callv 150 2 rfl rfl rfl rfl (Nat.le_of_ble_eq_true rfl) (Nat.le_of_ble_eq_true rfl) (Nat.le_of_ble_eq_true rfl) h rfl)
theorem d199_323 : decode (mB 199) 323 = .ok (.if_icmp .eq 1093, 3) := by decide +kernel
theorem s199_323 {l0 l1 l2 l3 : Option Value} {st : List Value} {a b : Int32} {m : kMem} {Q : Option Value → kMem → Prop} : kJ 199 323 [l0, l1, l2, l3] (.int b :: .int a :: st) m Q = (if a = b then kJ 199 1416 [l0, l1, l2, l3] st m Q else kJ 199 326 [l0, l1, l2, l3] st m Q) := kJ_if d199_323 rfl (fun h => kJ_next d199_323 h) (fun h => kJ_next d199_323 h)
theorem d199_326 : decode (mB 199) 326 = .ok (.iconst 0, 1) := by decide +kernel
theorem s199_326 {l0 l1 l2 l3 : Option Value} {st : List Value} {m : kMem} {Q : Option Value → kMem → Prop} : kJ 199 326 [l0, l1, l2, l3] st m Q = kJ 199 327 [l0, l1, l2, l3] (.int (nI 0) :: st) m Q := kJ_next d199_326 rfl
theorem d199_327 : decode (mB 199) 327 = .ok (.ireturn, 1) := by decide +kernel
theorem s199_327 {l0 l1 l2 l3 : Option Value} {x : Int32} {m : kMem} {Q : Option Value → kMem → Prop} (hx : x = 0 ∨ x = 1) : kJ 199 327 [l0, l1, l2, l3] [.int x] m Q = Q (some (.int x)) m := kJ_ret d199_327 (kg_retz (by decide) hx)
theorem d199_328 : decode (mB 199) 328 = .ok (.aload_n 1, 1) := by decide +kernel
theorem s199_328 {l0 l2 l3 : Option Value} {st : List Value} {x : Nat} {m : kMem} {Q : Option Value → kMem → Prop} : kJ 199 328 [l0, some (.ref x), l2, l3] st m Q = kJ 199 329 [l0, some (.ref x), l2, l3] (.ref x :: st) m Q := kJ_next d199_328 rfl
theorem d199_329 : decode (mB 199) 329 = .ok (.aload_n 0, 1) := by decide +kernel
theorem s199_329 {l1 l2 l3 : Option Value} {st : List Value} {x : Nat} {m : kMem} {Q : Option Value → kMem → Prop} : kJ 199 329 [some (.ref x), l1, l2, l3] st m Q = kJ 199 330 [some (.ref x), l1, l2, l3] (.ref x :: st) m Q := kJ_next d199_329 rfl
theorem d199_330 : decode (mB 199) 330 = .ok (.iload_n 3, 1) := by decide +kernel
theorem s199_330 {l0 l1 l2 : Option Value} {st : List Value} {x : Int32} {m : kMem} {Q : Option Value → kMem → Prop} : kJ 199 330 [l0, l1, l2, some (.int x)] st m Q = kJ 199 331 [l0, l1, l2, some (.int x)] (.int x :: st) m Q := kJ_next d199_330 rfl
theorem d199_331 : decode (mB 199) 331 = .ok (.iconst 1, 1) := by decide +kernel
theorem s199_331 {l0 l1 l2 l3 : Option Value} {st : List Value} {m : kMem} {Q : Option Value → kMem → Prop} : kJ 199 331 [l0, l1, l2, l3] st m Q = kJ 199 332 [l0, l1, l2, l3] (.int (nI 1) :: st) m Q := kJ_next d199_331 rfl
theorem d199_332 : decode (mB 199) 332 = .ok (.iadd, 1) := by decide +kernel
theorem s199_332 {l0 l1 l2 l3 : Option Value} {st : List Value} {a b : Int32} {m : kMem} {Q : Option Value → kMem → Prop} : kJ 199 332 [l0, l1, l2, l3] (.int b :: .int a :: st) m Q = kJ 199 333 [l0, l1, l2, l3] (.int (a + b) :: st) m Q := kJ_next d199_332 rfl
theorem d199_333 : decode (mB 199) 333 = .ok (.iaload, 1) := by decide +kernel
theorem s199_333 {l0 l1 l2 l3 : Option Value} {st : List Value} {q : Nat} {i : Int32} {mi : Nat → Nat → Int32} {ml : Nat → Nat → Int64} {mr : Nat → Nat → Option Nat} {nx : Nat} {Q : Option Value → kMem → Prop} (h : kIs nx q 10 = true) : kJ 199 333 [l0, l1, l2, l3] (.int i :: .ref q :: st) (mi, ml, mr, nx) Q = (vp_in i (kAl q) ∧ kJ 199 334 [l0, l1, l2, l3] (.int (mi q i.toNatClampNeg) :: st) (mi, ml, mr, nx) Q) := kg_aldJ d199_333 rfl (kAr_of h)
theorem d199_334 : decode (mB 199) 334 = .ok (.aload_n 0, 1) := by decide +kernel
theorem s199_334 {l1 l2 l3 : Option Value} {st : List Value} {x : Nat} {m : kMem} {Q : Option Value → kMem → Prop} : kJ 199 334 [some (.ref x), l1, l2, l3] st m Q = kJ 199 335 [some (.ref x), l1, l2, l3] (.ref x :: st) m Q := kJ_next d199_334 rfl
theorem d199_335 : decode (mB 199) 335 = .ok (.iload_n 3, 1) := by decide +kernel
theorem s199_335 {l0 l1 l2 : Option Value} {st : List Value} {x : Int32} {m : kMem} {Q : Option Value → kMem → Prop} : kJ 199 335 [l0, l1, l2, some (.int x)] st m Q = kJ 199 336 [l0, l1, l2, some (.int x)] (.int x :: st) m Q := kJ_next d199_335 rfl
theorem d199_336 : decode (mB 199) 336 = .ok (.iconst 2, 1) := by decide +kernel
theorem s199_336 {l0 l1 l2 l3 : Option Value} {st : List Value} {m : kMem} {Q : Option Value → kMem → Prop} : kJ 199 336 [l0, l1, l2, l3] st m Q = kJ 199 337 [l0, l1, l2, l3] (.int (nI 2) :: st) m Q := kJ_next d199_336 rfl
theorem d199_337 : decode (mB 199) 337 = .ok (.iadd, 1) := by decide +kernel
theorem s199_337 {l0 l1 l2 l3 : Option Value} {st : List Value} {a b : Int32} {m : kMem} {Q : Option Value → kMem → Prop} : kJ 199 337 [l0, l1, l2, l3] (.int b :: .int a :: st) m Q = kJ 199 338 [l0, l1, l2, l3] (.int (a + b) :: st) m Q := kJ_next d199_337 rfl
theorem d199_338 : decode (mB 199) 338 = .ok (.iaload, 1) := by decide +kernel
theorem s199_338 {l0 l1 l2 l3 : Option Value} {st : List Value} {q : Nat} {i : Int32} {mi : Nat → Nat → Int32} {ml : Nat → Nat → Int64} {mr : Nat → Nat → Option Nat} {nx : Nat} {Q : Option Value → kMem → Prop} (h : kIs nx q 10 = true) : kJ 199 338 [l0, l1, l2, l3] (.int i :: .ref q :: st) (mi, ml, mr, nx) Q = (vp_in i (kAl q) ∧ kJ 199 339 [l0, l1, l2, l3] (.int (mi q i.toNatClampNeg) :: st) (mi, ml, mr, nx) Q) := kg_aldJ d199_338 rfl (kAr_of h)
theorem d199_339 : decode (mB 199) 339 = .ok (.invokevirtual 40, 3) := by decide +kernel
theorem s199_339 {l0 l1 l2 l3 : Option Value} {v0 : Int32} {v1 : Int32} {v2 : Nat} {m : kMem} {Q : Option Value → kMem → Prop} (h : kIs m.2.2.2 v2 4 = true) : kJ 199 339 [l0, l1, l2, l3] [.int v0, .int v1, .ref v2] m Q = kJ 58 0 [some (.ref v2), some (.int v1), some (.int v0)] [] m (fun v m2 => kJ 199 342 [l0, l1, l2, l3] (v.toList ++ []) m2 Q) := kJ_call d199_339 (kg_callv 58 2 rfl rfl rfl rfl (Nat.le_of_ble_eq_true rfl) (Nat.le_of_ble_eq_true rfl) (Nat.le_of_ble_eq_true rfl) h rfl)
theorem d199_342 : decode (mB 199) 342 = .ok (.aload_n 2, 1) := by decide +kernel
theorem s199_342 {l0 l1 l3 : Option Value} {st : List Value} {x : Nat} {m : kMem} {Q : Option Value → kMem → Prop} : kJ 199 342 [l0, l1, some (.ref x), l3] st m Q = kJ 199 343 [l0, l1, some (.ref x), l3] (.ref x :: st) m Q := kJ_next d199_342 rfl
theorem d199_343 : decode (mB 199) 343 = .ok (.aload_n 0, 1) := by decide +kernel
theorem s199_343 {l1 l2 l3 : Option Value} {st : List Value} {x : Nat} {m : kMem} {Q : Option Value → kMem → Prop} : kJ 199 343 [some (.ref x), l1, l2, l3] st m Q = kJ 199 344 [some (.ref x), l1, l2, l3] (.ref x :: st) m Q := kJ_next d199_343 rfl
theorem d199_344 : decode (mB 199) 344 = .ok (.iload_n 3, 1) := by decide +kernel
theorem s199_344 {l0 l1 l2 : Option Value} {st : List Value} {x : Int32} {m : kMem} {Q : Option Value → kMem → Prop} : kJ 199 344 [l0, l1, l2, some (.int x)] st m Q = kJ 199 345 [l0, l1, l2, some (.int x)] (.int x :: st) m Q := kJ_next d199_344 rfl
theorem d199_345 : decode (mB 199) 345 = .ok (.iconst 1, 1) := by decide +kernel
theorem s199_345 {l0 l1 l2 l3 : Option Value} {st : List Value} {m : kMem} {Q : Option Value → kMem → Prop} : kJ 199 345 [l0, l1, l2, l3] st m Q = kJ 199 346 [l0, l1, l2, l3] (.int (nI 1) :: st) m Q := kJ_next d199_345 rfl
theorem d199_346 : decode (mB 199) 346 = .ok (.iadd, 1) := by decide +kernel
theorem s199_346 {l0 l1 l2 l3 : Option Value} {st : List Value} {a b : Int32} {m : kMem} {Q : Option Value → kMem → Prop} : kJ 199 346 [l0, l1, l2, l3] (.int b :: .int a :: st) m Q = kJ 199 347 [l0, l1, l2, l3] (.int (a + b) :: st) m Q := kJ_next d199_346 rfl
theorem d199_347 : decode (mB 199) 347 = .ok (.iaload, 1) := by decide +kernel
theorem s199_347 {l0 l1 l2 l3 : Option Value} {st : List Value} {q : Nat} {i : Int32} {mi : Nat → Nat → Int32} {ml : Nat → Nat → Int64} {mr : Nat → Nat → Option Nat} {nx : Nat} {Q : Option Value → kMem → Prop} (h : kIs nx q 10 = true) : kJ 199 347 [l0, l1, l2, l3] (.int i :: .ref q :: st) (mi, ml, mr, nx) Q = (vp_in i (kAl q) ∧ kJ 199 348 [l0, l1, l2, l3] (.int (mi q i.toNatClampNeg) :: st) (mi, ml, mr, nx) Q) := kg_aldJ d199_347 rfl (kAr_of h)
theorem d199_348 : decode (mB 199) 348 = .ok (.aload_n 0, 1) := by decide +kernel
theorem s199_348 {l1 l2 l3 : Option Value} {st : List Value} {x : Nat} {m : kMem} {Q : Option Value → kMem → Prop} : kJ 199 348 [some (.ref x), l1, l2, l3] st m Q = kJ 199 349 [some (.ref x), l1, l2, l3] (.ref x :: st) m Q := kJ_next d199_348 rfl
theorem d199_349 : decode (mB 199) 349 = .ok (.iload_n 3, 1) := by decide +kernel
theorem s199_349 {l0 l1 l2 : Option Value} {st : List Value} {x : Int32} {m : kMem} {Q : Option Value → kMem → Prop} : kJ 199 349 [l0, l1, l2, some (.int x)] st m Q = kJ 199 350 [l0, l1, l2, some (.int x)] (.int x :: st) m Q := kJ_next d199_349 rfl
theorem d199_350 : decode (mB 199) 350 = .ok (.iconst 2, 1) := by decide +kernel
theorem s199_350 {l0 l1 l2 l3 : Option Value} {st : List Value} {m : kMem} {Q : Option Value → kMem → Prop} : kJ 199 350 [l0, l1, l2, l3] st m Q = kJ 199 351 [l0, l1, l2, l3] (.int (nI 2) :: st) m Q := kJ_next d199_350 rfl
theorem d199_351 : decode (mB 199) 351 = .ok (.iadd, 1) := by decide +kernel
theorem s199_351 {l0 l1 l2 l3 : Option Value} {st : List Value} {a b : Int32} {m : kMem} {Q : Option Value → kMem → Prop} : kJ 199 351 [l0, l1, l2, l3] (.int b :: .int a :: st) m Q = kJ 199 352 [l0, l1, l2, l3] (.int (a + b) :: st) m Q := kJ_next d199_351 rfl
theorem d199_352 : decode (mB 199) 352 = .ok (.iaload, 1) := by decide +kernel
theorem s199_352 {l0 l1 l2 l3 : Option Value} {st : List Value} {q : Nat} {i : Int32} {mi : Nat → Nat → Int32} {ml : Nat → Nat → Int64} {mr : Nat → Nat → Option Nat} {nx : Nat} {Q : Option Value → kMem → Prop} (h : kIs nx q 10 = true) : kJ 199 352 [l0, l1, l2, l3] (.int i :: .ref q :: st) (mi, ml, mr, nx) Q = (vp_in i (kAl q) ∧ kJ 199 353 [l0, l1, l2, l3] (.int (mi q i.toNatClampNeg) :: st) (mi, ml, mr, nx) Q) := kg_aldJ d199_352 rfl (kAr_of h)
theorem d199_353 : decode (mB 199) 353 = .ok (.invokevirtual 43, 3) := by decide +kernel
theorem s199_353 {l0 l1 l2 l3 : Option Value} {v0 : Int32} {v1 : Int32} {v2 : Nat} {v3 : Int32} {m : kMem} {Q : Option Value → kMem → Prop} (h : kIs m.2.2.2 v2 5 = true) : kJ 199 353 [l0, l1, l2, l3] [.int v0, .int v1, .ref v2, .int v3] m Q = kJ 151 0 [some (.ref v2), some (.int v1), some (.int v0)] [] m (fun v m2 => kJ 199 356 [l0, l1, l2, l3] (v.toList ++ [.int v3]) m2 Q) := kJ_call d199_353 (kg_callv 151 2 rfl rfl rfl rfl (Nat.le_of_ble_eq_true rfl) (Nat.le_of_ble_eq_true rfl) (Nat.le_of_ble_eq_true rfl) h rfl)
theorem d199_356 : decode (mB 199) 356 = .ok (.if_icmp .eq 1060, 3) := by decide +kernel
theorem s199_356 {l0 l1 l2 l3 : Option Value} {st : List Value} {a b : Int32} {m : kMem} {Q : Option Value → kMem → Prop} : kJ 199 356 [l0, l1, l2, l3] (.int b :: .int a :: st) m Q = (if a = b then kJ 199 1416 [l0, l1, l2, l3] st m Q else kJ 199 359 [l0, l1, l2, l3] st m Q) := kJ_if d199_356 rfl (fun h => kJ_next d199_356 h) (fun h => kJ_next d199_356 h)
theorem d199_359 : decode (mB 199) 359 = .ok (.iconst 0, 1) := by decide +kernel
theorem s199_359 {l0 l1 l2 l3 : Option Value} {st : List Value} {m : kMem} {Q : Option Value → kMem → Prop} : kJ 199 359 [l0, l1, l2, l3] st m Q = kJ 199 360 [l0, l1, l2, l3] (.int (nI 0) :: st) m Q := kJ_next d199_359 rfl
theorem d199_360 : decode (mB 199) 360 = .ok (.ireturn, 1) := by decide +kernel
theorem s199_360 {l0 l1 l2 l3 : Option Value} {x : Int32} {m : kMem} {Q : Option Value → kMem → Prop} (hx : x = 0 ∨ x = 1) : kJ 199 360 [l0, l1, l2, l3] [.int x] m Q = Q (some (.int x)) m := kJ_ret d199_360 (kg_retz (by decide) hx)
theorem d199_361 : decode (mB 199) 361 = .ok (.aload_n 1, 1) := by decide +kernel
theorem s199_361 {l0 l2 l3 : Option Value} {st : List Value} {x : Nat} {m : kMem} {Q : Option Value → kMem → Prop} : kJ 199 361 [l0, some (.ref x), l2, l3] st m Q = kJ 199 362 [l0, some (.ref x), l2, l3] (.ref x :: st) m Q := kJ_next d199_361 rfl
theorem d199_362 : decode (mB 199) 362 = .ok (.aload_n 0, 1) := by decide +kernel
theorem s199_362 {l1 l2 l3 : Option Value} {st : List Value} {x : Nat} {m : kMem} {Q : Option Value → kMem → Prop} : kJ 199 362 [some (.ref x), l1, l2, l3] st m Q = kJ 199 363 [some (.ref x), l1, l2, l3] (.ref x :: st) m Q := kJ_next d199_362 rfl
theorem d199_363 : decode (mB 199) 363 = .ok (.iload_n 3, 1) := by decide +kernel
theorem s199_363 {l0 l1 l2 : Option Value} {st : List Value} {x : Int32} {m : kMem} {Q : Option Value → kMem → Prop} : kJ 199 363 [l0, l1, l2, some (.int x)] st m Q = kJ 199 364 [l0, l1, l2, some (.int x)] (.int x :: st) m Q := kJ_next d199_363 rfl
theorem d199_364 : decode (mB 199) 364 = .ok (.iconst 1, 1) := by decide +kernel
theorem s199_364 {l0 l1 l2 l3 : Option Value} {st : List Value} {m : kMem} {Q : Option Value → kMem → Prop} : kJ 199 364 [l0, l1, l2, l3] st m Q = kJ 199 365 [l0, l1, l2, l3] (.int (nI 1) :: st) m Q := kJ_next d199_364 rfl
theorem d199_365 : decode (mB 199) 365 = .ok (.iadd, 1) := by decide +kernel
theorem s199_365 {l0 l1 l2 l3 : Option Value} {st : List Value} {a b : Int32} {m : kMem} {Q : Option Value → kMem → Prop} : kJ 199 365 [l0, l1, l2, l3] (.int b :: .int a :: st) m Q = kJ 199 366 [l0, l1, l2, l3] (.int (a + b) :: st) m Q := kJ_next d199_365 rfl
theorem d199_366 : decode (mB 199) 366 = .ok (.iaload, 1) := by decide +kernel
theorem s199_366 {l0 l1 l2 l3 : Option Value} {st : List Value} {q : Nat} {i : Int32} {mi : Nat → Nat → Int32} {ml : Nat → Nat → Int64} {mr : Nat → Nat → Option Nat} {nx : Nat} {Q : Option Value → kMem → Prop} (h : kIs nx q 10 = true) : kJ 199 366 [l0, l1, l2, l3] (.int i :: .ref q :: st) (mi, ml, mr, nx) Q = (vp_in i (kAl q) ∧ kJ 199 367 [l0, l1, l2, l3] (.int (mi q i.toNatClampNeg) :: st) (mi, ml, mr, nx) Q) := kg_aldJ d199_366 rfl (kAr_of h)
theorem d199_367 : decode (mB 199) 367 = .ok (.aload_n 0, 1) := by decide +kernel
theorem s199_367 {l1 l2 l3 : Option Value} {st : List Value} {x : Nat} {m : kMem} {Q : Option Value → kMem → Prop} : kJ 199 367 [some (.ref x), l1, l2, l3] st m Q = kJ 199 368 [some (.ref x), l1, l2, l3] (.ref x :: st) m Q := kJ_next d199_367 rfl
theorem d199_368 : decode (mB 199) 368 = .ok (.iload_n 3, 1) := by decide +kernel
theorem s199_368 {l0 l1 l2 : Option Value} {st : List Value} {x : Int32} {m : kMem} {Q : Option Value → kMem → Prop} : kJ 199 368 [l0, l1, l2, some (.int x)] st m Q = kJ 199 369 [l0, l1, l2, some (.int x)] (.int x :: st) m Q := kJ_next d199_368 rfl
theorem d199_369 : decode (mB 199) 369 = .ok (.iconst 2, 1) := by decide +kernel
theorem s199_369 {l0 l1 l2 l3 : Option Value} {st : List Value} {m : kMem} {Q : Option Value → kMem → Prop} : kJ 199 369 [l0, l1, l2, l3] st m Q = kJ 199 370 [l0, l1, l2, l3] (.int (nI 2) :: st) m Q := kJ_next d199_369 rfl
theorem d199_370 : decode (mB 199) 370 = .ok (.iadd, 1) := by decide +kernel
theorem s199_370 {l0 l1 l2 l3 : Option Value} {st : List Value} {a b : Int32} {m : kMem} {Q : Option Value → kMem → Prop} : kJ 199 370 [l0, l1, l2, l3] (.int b :: .int a :: st) m Q = kJ 199 371 [l0, l1, l2, l3] (.int (a + b) :: st) m Q := kJ_next d199_370 rfl
theorem d199_371 : decode (mB 199) 371 = .ok (.iaload, 1) := by decide +kernel
theorem s199_371 {l0 l1 l2 l3 : Option Value} {st : List Value} {q : Nat} {i : Int32} {mi : Nat → Nat → Int32} {ml : Nat → Nat → Int64} {mr : Nat → Nat → Option Nat} {nx : Nat} {Q : Option Value → kMem → Prop} (h : kIs nx q 10 = true) : kJ 199 371 [l0, l1, l2, l3] (.int i :: .ref q :: st) (mi, ml, mr, nx) Q = (vp_in i (kAl q) ∧ kJ 199 372 [l0, l1, l2, l3] (.int (mi q i.toNatClampNeg) :: st) (mi, ml, mr, nx) Q) := kg_aldJ d199_371 rfl (kAr_of h)
theorem d199_372 : decode (mB 199) 372 = .ok (.invokevirtual 44, 3) := by decide +kernel
theorem s199_372 {l0 l1 l2 l3 : Option Value} {v0 : Int32} {v1 : Int32} {v2 : Nat} {m : kMem} {Q : Option Value → kMem → Prop} (h : kIs m.2.2.2 v2 4 = true) : kJ 199 372 [l0, l1, l2, l3] [.int v0, .int v1, .ref v2] m Q = kJ 59 0 [some (.ref v2), some (.int v1), some (.int v0)] [] m (fun v m2 => kJ 199 375 [l0, l1, l2, l3] (v.toList ++ []) m2 Q) := kJ_call d199_372 (kg_callv 59 2 rfl rfl rfl rfl (Nat.le_of_ble_eq_true rfl) (Nat.le_of_ble_eq_true rfl) (Nat.le_of_ble_eq_true rfl) h rfl)
theorem d199_375 : decode (mB 199) 375 = .ok (.aload_n 2, 1) := by decide +kernel
theorem s199_375 {l0 l1 l3 : Option Value} {st : List Value} {x : Nat} {m : kMem} {Q : Option Value → kMem → Prop} : kJ 199 375 [l0, l1, some (.ref x), l3] st m Q = kJ 199 376 [l0, l1, some (.ref x), l3] (.ref x :: st) m Q := kJ_next d199_375 rfl
theorem d199_376 : decode (mB 199) 376 = .ok (.aload_n 0, 1) := by decide +kernel
theorem s199_376 {l1 l2 l3 : Option Value} {st : List Value} {x : Nat} {m : kMem} {Q : Option Value → kMem → Prop} : kJ 199 376 [some (.ref x), l1, l2, l3] st m Q = kJ 199 377 [some (.ref x), l1, l2, l3] (.ref x :: st) m Q := kJ_next d199_376 rfl
theorem d199_377 : decode (mB 199) 377 = .ok (.iload_n 3, 1) := by decide +kernel
theorem s199_377 {l0 l1 l2 : Option Value} {st : List Value} {x : Int32} {m : kMem} {Q : Option Value → kMem → Prop} : kJ 199 377 [l0, l1, l2, some (.int x)] st m Q = kJ 199 378 [l0, l1, l2, some (.int x)] (.int x :: st) m Q := kJ_next d199_377 rfl
theorem d199_378 : decode (mB 199) 378 = .ok (.iconst 1, 1) := by decide +kernel
theorem s199_378 {l0 l1 l2 l3 : Option Value} {st : List Value} {m : kMem} {Q : Option Value → kMem → Prop} : kJ 199 378 [l0, l1, l2, l3] st m Q = kJ 199 379 [l0, l1, l2, l3] (.int (nI 1) :: st) m Q := kJ_next d199_378 rfl
theorem d199_379 : decode (mB 199) 379 = .ok (.iadd, 1) := by decide +kernel
theorem s199_379 {l0 l1 l2 l3 : Option Value} {st : List Value} {a b : Int32} {m : kMem} {Q : Option Value → kMem → Prop} : kJ 199 379 [l0, l1, l2, l3] (.int b :: .int a :: st) m Q = kJ 199 380 [l0, l1, l2, l3] (.int (a + b) :: st) m Q := kJ_next d199_379 rfl
theorem d199_380 : decode (mB 199) 380 = .ok (.iaload, 1) := by decide +kernel
theorem s199_380 {l0 l1 l2 l3 : Option Value} {st : List Value} {q : Nat} {i : Int32} {mi : Nat → Nat → Int32} {ml : Nat → Nat → Int64} {mr : Nat → Nat → Option Nat} {nx : Nat} {Q : Option Value → kMem → Prop} (h : kIs nx q 10 = true) : kJ 199 380 [l0, l1, l2, l3] (.int i :: .ref q :: st) (mi, ml, mr, nx) Q = (vp_in i (kAl q) ∧ kJ 199 381 [l0, l1, l2, l3] (.int (mi q i.toNatClampNeg) :: st) (mi, ml, mr, nx) Q) := kg_aldJ d199_380 rfl (kAr_of h)
theorem d199_381 : decode (mB 199) 381 = .ok (.aload_n 0, 1) := by decide +kernel
theorem s199_381 {l1 l2 l3 : Option Value} {st : List Value} {x : Nat} {m : kMem} {Q : Option Value → kMem → Prop} : kJ 199 381 [some (.ref x), l1, l2, l3] st m Q = kJ 199 382 [some (.ref x), l1, l2, l3] (.ref x :: st) m Q := kJ_next d199_381 rfl
theorem d199_382 : decode (mB 199) 382 = .ok (.iload_n 3, 1) := by decide +kernel
theorem s199_382 {l0 l1 l2 : Option Value} {st : List Value} {x : Int32} {m : kMem} {Q : Option Value → kMem → Prop} : kJ 199 382 [l0, l1, l2, some (.int x)] st m Q = kJ 199 383 [l0, l1, l2, some (.int x)] (.int x :: st) m Q := kJ_next d199_382 rfl
theorem d199_383 : decode (mB 199) 383 = .ok (.iconst 2, 1) := by decide +kernel
theorem s199_383 {l0 l1 l2 l3 : Option Value} {st : List Value} {m : kMem} {Q : Option Value → kMem → Prop} : kJ 199 383 [l0, l1, l2, l3] st m Q = kJ 199 384 [l0, l1, l2, l3] (.int (nI 2) :: st) m Q := kJ_next d199_383 rfl
theorem d199_384 : decode (mB 199) 384 = .ok (.iadd, 1) := by decide +kernel
theorem s199_384 {l0 l1 l2 l3 : Option Value} {st : List Value} {a b : Int32} {m : kMem} {Q : Option Value → kMem → Prop} : kJ 199 384 [l0, l1, l2, l3] (.int b :: .int a :: st) m Q = kJ 199 385 [l0, l1, l2, l3] (.int (a + b) :: st) m Q := kJ_next d199_384 rfl
theorem d199_385 : decode (mB 199) 385 = .ok (.iaload, 1) := by decide +kernel
theorem s199_385 {l0 l1 l2 l3 : Option Value} {st : List Value} {q : Nat} {i : Int32} {mi : Nat → Nat → Int32} {ml : Nat → Nat → Int64} {mr : Nat → Nat → Option Nat} {nx : Nat} {Q : Option Value → kMem → Prop} (h : kIs nx q 10 = true) : kJ 199 385 [l0, l1, l2, l3] (.int i :: .ref q :: st) (mi, ml, mr, nx) Q = (vp_in i (kAl q) ∧ kJ 199 386 [l0, l1, l2, l3] (.int (mi q i.toNatClampNeg) :: st) (mi, ml, mr, nx) Q) := kg_aldJ d199_385 rfl (kAr_of h)
theorem d199_386 : decode (mB 199) 386 = .ok (.invokevirtual 47, 3) := by decide +kernel
theorem s199_386 {l0 l1 l2 l3 : Option Value} {v0 : Int32} {v1 : Int32} {v2 : Nat} {v3 : Int32} {m : kMem} {Q : Option Value → kMem → Prop} (h : kIs m.2.2.2 v2 5 = true) : kJ 199 386 [l0, l1, l2, l3] [.int v0, .int v1, .ref v2, .int v3] m Q = kJ 152 0 [some (.ref v2), some (.int v1), some (.int v0)] [] m (fun v m2 => kJ 199 389 [l0, l1, l2, l3] (v.toList ++ [.int v3]) m2 Q) := kJ_call d199_386 (kg_callv 152 2 rfl rfl rfl rfl (Nat.le_of_ble_eq_true rfl) (Nat.le_of_ble_eq_true rfl) (Nat.le_of_ble_eq_true rfl) h rfl)
theorem d199_389 : decode (mB 199) 389 = .ok (.if_icmp .eq 1027, 3) := by decide +kernel
theorem s199_389 {l0 l1 l2 l3 : Option Value} {st : List Value} {a b : Int32} {m : kMem} {Q : Option Value → kMem → Prop} : kJ 199 389 [l0, l1, l2, l3] (.int b :: .int a :: st) m Q = (if a = b then kJ 199 1416 [l0, l1, l2, l3] st m Q else kJ 199 392 [l0, l1, l2, l3] st m Q) := kJ_if d199_389 rfl (fun h => kJ_next d199_389 h) (fun h => kJ_next d199_389 h)
theorem d199_392 : decode (mB 199) 392 = .ok (.iconst 0, 1) := by decide +kernel
theorem s199_392 {l0 l1 l2 l3 : Option Value} {st : List Value} {m : kMem} {Q : Option Value → kMem → Prop} : kJ 199 392 [l0, l1, l2, l3] st m Q = kJ 199 393 [l0, l1, l2, l3] (.int (nI 0) :: st) m Q := kJ_next d199_392 rfl
theorem d199_393 : decode (mB 199) 393 = .ok (.ireturn, 1) := by decide +kernel
theorem s199_393 {l0 l1 l2 l3 : Option Value} {x : Int32} {m : kMem} {Q : Option Value → kMem → Prop} (hx : x = 0 ∨ x = 1) : kJ 199 393 [l0, l1, l2, l3] [.int x] m Q = Q (some (.int x)) m := kJ_ret d199_393 (kg_retz (by decide) hx)
theorem d199_394 : decode (mB 199) 394 = .ok (.aload_n 1, 1) := by decide +kernel
theorem s199_394 {l0 l2 l3 : Option Value} {st : List Value} {x : Nat} {m : kMem} {Q : Option Value → kMem → Prop} : kJ 199 394 [l0, some (.ref x), l2, l3] st m Q = kJ 199 395 [l0, some (.ref x), l2, l3] (.ref x :: st) m Q := kJ_next d199_394 rfl
theorem d199_395 : decode (mB 199) 395 = .ok (.aload_n 0, 1) := by decide +kernel
theorem s199_395 {l1 l2 l3 : Option Value} {st : List Value} {x : Nat} {m : kMem} {Q : Option Value → kMem → Prop} : kJ 199 395 [some (.ref x), l1, l2, l3] st m Q = kJ 199 396 [some (.ref x), l1, l2, l3] (.ref x :: st) m Q := kJ_next d199_395 rfl
theorem d199_396 : decode (mB 199) 396 = .ok (.iload_n 3, 1) := by decide +kernel
theorem s199_396 {l0 l1 l2 : Option Value} {st : List Value} {x : Int32} {m : kMem} {Q : Option Value → kMem → Prop} : kJ 199 396 [l0, l1, l2, some (.int x)] st m Q = kJ 199 397 [l0, l1, l2, some (.int x)] (.int x :: st) m Q := kJ_next d199_396 rfl
theorem d199_397 : decode (mB 199) 397 = .ok (.iconst 1, 1) := by decide +kernel
theorem s199_397 {l0 l1 l2 l3 : Option Value} {st : List Value} {m : kMem} {Q : Option Value → kMem → Prop} : kJ 199 397 [l0, l1, l2, l3] st m Q = kJ 199 398 [l0, l1, l2, l3] (.int (nI 1) :: st) m Q := kJ_next d199_397 rfl
theorem d199_398 : decode (mB 199) 398 = .ok (.iadd, 1) := by decide +kernel
theorem s199_398 {l0 l1 l2 l3 : Option Value} {st : List Value} {a b : Int32} {m : kMem} {Q : Option Value → kMem → Prop} : kJ 199 398 [l0, l1, l2, l3] (.int b :: .int a :: st) m Q = kJ 199 399 [l0, l1, l2, l3] (.int (a + b) :: st) m Q := kJ_next d199_398 rfl
theorem d199_399 : decode (mB 199) 399 = .ok (.iaload, 1) := by decide +kernel
theorem s199_399 {l0 l1 l2 l3 : Option Value} {st : List Value} {q : Nat} {i : Int32} {mi : Nat → Nat → Int32} {ml : Nat → Nat → Int64} {mr : Nat → Nat → Option Nat} {nx : Nat} {Q : Option Value → kMem → Prop} (h : kIs nx q 10 = true) : kJ 199 399 [l0, l1, l2, l3] (.int i :: .ref q :: st) (mi, ml, mr, nx) Q = (vp_in i (kAl q) ∧ kJ 199 400 [l0, l1, l2, l3] (.int (mi q i.toNatClampNeg) :: st) (mi, ml, mr, nx) Q) := kg_aldJ d199_399 rfl (kAr_of h)
theorem d199_400 : decode (mB 199) 400 = .ok (.aload_n 0, 1) := by decide +kernel
theorem s199_400 {l1 l2 l3 : Option Value} {st : List Value} {x : Nat} {m : kMem} {Q : Option Value → kMem → Prop} : kJ 199 400 [some (.ref x), l1, l2, l3] st m Q = kJ 199 401 [some (.ref x), l1, l2, l3] (.ref x :: st) m Q := kJ_next d199_400 rfl
theorem d199_401 : decode (mB 199) 401 = .ok (.iload_n 3, 1) := by decide +kernel
theorem s199_401 {l0 l1 l2 : Option Value} {st : List Value} {x : Int32} {m : kMem} {Q : Option Value → kMem → Prop} : kJ 199 401 [l0, l1, l2, some (.int x)] st m Q = kJ 199 402 [l0, l1, l2, some (.int x)] (.int x :: st) m Q := kJ_next d199_401 rfl
theorem d199_402 : decode (mB 199) 402 = .ok (.iconst 2, 1) := by decide +kernel
theorem s199_402 {l0 l1 l2 l3 : Option Value} {st : List Value} {m : kMem} {Q : Option Value → kMem → Prop} : kJ 199 402 [l0, l1, l2, l3] st m Q = kJ 199 403 [l0, l1, l2, l3] (.int (nI 2) :: st) m Q := kJ_next d199_402 rfl
theorem d199_403 : decode (mB 199) 403 = .ok (.iadd, 1) := by decide +kernel
theorem s199_403 {l0 l1 l2 l3 : Option Value} {st : List Value} {a b : Int32} {m : kMem} {Q : Option Value → kMem → Prop} : kJ 199 403 [l0, l1, l2, l3] (.int b :: .int a :: st) m Q = kJ 199 404 [l0, l1, l2, l3] (.int (a + b) :: st) m Q := kJ_next d199_403 rfl
theorem d199_404 : decode (mB 199) 404 = .ok (.iaload, 1) := by decide +kernel
theorem s199_404 {l0 l1 l2 l3 : Option Value} {st : List Value} {q : Nat} {i : Int32} {mi : Nat → Nat → Int32} {ml : Nat → Nat → Int64} {mr : Nat → Nat → Option Nat} {nx : Nat} {Q : Option Value → kMem → Prop} (h : kIs nx q 10 = true) : kJ 199 404 [l0, l1, l2, l3] (.int i :: .ref q :: st) (mi, ml, mr, nx) Q = (vp_in i (kAl q) ∧ kJ 199 405 [l0, l1, l2, l3] (.int (mi q i.toNatClampNeg) :: st) (mi, ml, mr, nx) Q) := kg_aldJ d199_404 rfl (kAr_of h)
theorem d199_405 : decode (mB 199) 405 = .ok (.aload_n 0, 1) := by decide +kernel
theorem s199_405 {l1 l2 l3 : Option Value} {st : List Value} {x : Nat} {m : kMem} {Q : Option Value → kMem → Prop} : kJ 199 405 [some (.ref x), l1, l2, l3] st m Q = kJ 199 406 [some (.ref x), l1, l2, l3] (.ref x :: st) m Q := kJ_next d199_405 rfl
theorem d199_406 : decode (mB 199) 406 = .ok (.iload_n 3, 1) := by decide +kernel
theorem s199_406 {l0 l1 l2 : Option Value} {st : List Value} {x : Int32} {m : kMem} {Q : Option Value → kMem → Prop} : kJ 199 406 [l0, l1, l2, some (.int x)] st m Q = kJ 199 407 [l0, l1, l2, some (.int x)] (.int x :: st) m Q := kJ_next d199_406 rfl
theorem d199_407 : decode (mB 199) 407 = .ok (.iconst 3, 1) := by decide +kernel
theorem s199_407 {l0 l1 l2 l3 : Option Value} {st : List Value} {m : kMem} {Q : Option Value → kMem → Prop} : kJ 199 407 [l0, l1, l2, l3] st m Q = kJ 199 408 [l0, l1, l2, l3] (.int (nI 3) :: st) m Q := kJ_next d199_407 rfl
theorem d199_408 : decode (mB 199) 408 = .ok (.iadd, 1) := by decide +kernel
theorem s199_408 {l0 l1 l2 l3 : Option Value} {st : List Value} {a b : Int32} {m : kMem} {Q : Option Value → kMem → Prop} : kJ 199 408 [l0, l1, l2, l3] (.int b :: .int a :: st) m Q = kJ 199 409 [l0, l1, l2, l3] (.int (a + b) :: st) m Q := kJ_next d199_408 rfl
theorem d199_409 : decode (mB 199) 409 = .ok (.iaload, 1) := by decide +kernel
theorem s199_409 {l0 l1 l2 l3 : Option Value} {st : List Value} {q : Nat} {i : Int32} {mi : Nat → Nat → Int32} {ml : Nat → Nat → Int64} {mr : Nat → Nat → Option Nat} {nx : Nat} {Q : Option Value → kMem → Prop} (h : kIs nx q 10 = true) : kJ 199 409 [l0, l1, l2, l3] (.int i :: .ref q :: st) (mi, ml, mr, nx) Q = (vp_in i (kAl q) ∧ kJ 199 410 [l0, l1, l2, l3] (.int (mi q i.toNatClampNeg) :: st) (mi, ml, mr, nx) Q) := kg_aldJ d199_409 rfl (kAr_of h)
theorem d199_410 : decode (mB 199) 410 = .ok (.invokevirtual 48, 3) := by decide +kernel
theorem s199_410 {l0 l1 l2 l3 : Option Value} {v0 : Int32} {v1 : Int32} {v2 : Int32} {v3 : Nat} {m : kMem} {Q : Option Value → kMem → Prop} (h : kIs m.2.2.2 v3 4 = true) : kJ 199 410 [l0, l1, l2, l3] [.int v0, .int v1, .int v2, .ref v3] m Q = kJ 60 0 [some (.ref v3), some (.int v2), some (.int v1), some (.int v0)] [] m (fun v m2 => kJ 199 413 [l0, l1, l2, l3] (v.toList ++ []) m2 Q) := kJ_call d199_410 (kg_callv 60 3 rfl rfl rfl rfl (Nat.le_of_ble_eq_true rfl) (Nat.le_of_ble_eq_true rfl) (Nat.le_of_ble_eq_true rfl) h rfl)
theorem d199_413 : decode (mB 199) 413 = .ok (.aload_n 2, 1) := by decide +kernel
theorem s199_413 {l0 l1 l3 : Option Value} {st : List Value} {x : Nat} {m : kMem} {Q : Option Value → kMem → Prop} : kJ 199 413 [l0, l1, some (.ref x), l3] st m Q = kJ 199 414 [l0, l1, some (.ref x), l3] (.ref x :: st) m Q := kJ_next d199_413 rfl
theorem d199_414 : decode (mB 199) 414 = .ok (.aload_n 0, 1) := by decide +kernel
theorem s199_414 {l1 l2 l3 : Option Value} {st : List Value} {x : Nat} {m : kMem} {Q : Option Value → kMem → Prop} : kJ 199 414 [some (.ref x), l1, l2, l3] st m Q = kJ 199 415 [some (.ref x), l1, l2, l3] (.ref x :: st) m Q := kJ_next d199_414 rfl
theorem d199_415 : decode (mB 199) 415 = .ok (.iload_n 3, 1) := by decide +kernel
theorem s199_415 {l0 l1 l2 : Option Value} {st : List Value} {x : Int32} {m : kMem} {Q : Option Value → kMem → Prop} : kJ 199 415 [l0, l1, l2, some (.int x)] st m Q = kJ 199 416 [l0, l1, l2, some (.int x)] (.int x :: st) m Q := kJ_next d199_415 rfl
theorem d199_416 : decode (mB 199) 416 = .ok (.iconst 1, 1) := by decide +kernel
theorem s199_416 {l0 l1 l2 l3 : Option Value} {st : List Value} {m : kMem} {Q : Option Value → kMem → Prop} : kJ 199 416 [l0, l1, l2, l3] st m Q = kJ 199 417 [l0, l1, l2, l3] (.int (nI 1) :: st) m Q := kJ_next d199_416 rfl
theorem d199_417 : decode (mB 199) 417 = .ok (.iadd, 1) := by decide +kernel
theorem s199_417 {l0 l1 l2 l3 : Option Value} {st : List Value} {a b : Int32} {m : kMem} {Q : Option Value → kMem → Prop} : kJ 199 417 [l0, l1, l2, l3] (.int b :: .int a :: st) m Q = kJ 199 418 [l0, l1, l2, l3] (.int (a + b) :: st) m Q := kJ_next d199_417 rfl
theorem d199_418 : decode (mB 199) 418 = .ok (.iaload, 1) := by decide +kernel
theorem s199_418 {l0 l1 l2 l3 : Option Value} {st : List Value} {q : Nat} {i : Int32} {mi : Nat → Nat → Int32} {ml : Nat → Nat → Int64} {mr : Nat → Nat → Option Nat} {nx : Nat} {Q : Option Value → kMem → Prop} (h : kIs nx q 10 = true) : kJ 199 418 [l0, l1, l2, l3] (.int i :: .ref q :: st) (mi, ml, mr, nx) Q = (vp_in i (kAl q) ∧ kJ 199 419 [l0, l1, l2, l3] (.int (mi q i.toNatClampNeg) :: st) (mi, ml, mr, nx) Q) := kg_aldJ d199_418 rfl (kAr_of h)
theorem d199_419 : decode (mB 199) 419 = .ok (.aload_n 0, 1) := by decide +kernel
theorem s199_419 {l1 l2 l3 : Option Value} {st : List Value} {x : Nat} {m : kMem} {Q : Option Value → kMem → Prop} : kJ 199 419 [some (.ref x), l1, l2, l3] st m Q = kJ 199 420 [some (.ref x), l1, l2, l3] (.ref x :: st) m Q := kJ_next d199_419 rfl
theorem d199_420 : decode (mB 199) 420 = .ok (.iload_n 3, 1) := by decide +kernel
theorem s199_420 {l0 l1 l2 : Option Value} {st : List Value} {x : Int32} {m : kMem} {Q : Option Value → kMem → Prop} : kJ 199 420 [l0, l1, l2, some (.int x)] st m Q = kJ 199 421 [l0, l1, l2, some (.int x)] (.int x :: st) m Q := kJ_next d199_420 rfl
theorem d199_421 : decode (mB 199) 421 = .ok (.iconst 2, 1) := by decide +kernel
theorem s199_421 {l0 l1 l2 l3 : Option Value} {st : List Value} {m : kMem} {Q : Option Value → kMem → Prop} : kJ 199 421 [l0, l1, l2, l3] st m Q = kJ 199 422 [l0, l1, l2, l3] (.int (nI 2) :: st) m Q := kJ_next d199_421 rfl
theorem d199_422 : decode (mB 199) 422 = .ok (.iadd, 1) := by decide +kernel
theorem s199_422 {l0 l1 l2 l3 : Option Value} {st : List Value} {a b : Int32} {m : kMem} {Q : Option Value → kMem → Prop} : kJ 199 422 [l0, l1, l2, l3] (.int b :: .int a :: st) m Q = kJ 199 423 [l0, l1, l2, l3] (.int (a + b) :: st) m Q := kJ_next d199_422 rfl
theorem d199_423 : decode (mB 199) 423 = .ok (.iaload, 1) := by decide +kernel
theorem s199_423 {l0 l1 l2 l3 : Option Value} {st : List Value} {q : Nat} {i : Int32} {mi : Nat → Nat → Int32} {ml : Nat → Nat → Int64} {mr : Nat → Nat → Option Nat} {nx : Nat} {Q : Option Value → kMem → Prop} (h : kIs nx q 10 = true) : kJ 199 423 [l0, l1, l2, l3] (.int i :: .ref q :: st) (mi, ml, mr, nx) Q = (vp_in i (kAl q) ∧ kJ 199 424 [l0, l1, l2, l3] (.int (mi q i.toNatClampNeg) :: st) (mi, ml, mr, nx) Q) := kg_aldJ d199_423 rfl (kAr_of h)
theorem d199_424 : decode (mB 199) 424 = .ok (.aload_n 0, 1) := by decide +kernel
theorem s199_424 {l1 l2 l3 : Option Value} {st : List Value} {x : Nat} {m : kMem} {Q : Option Value → kMem → Prop} : kJ 199 424 [some (.ref x), l1, l2, l3] st m Q = kJ 199 425 [some (.ref x), l1, l2, l3] (.ref x :: st) m Q := kJ_next d199_424 rfl
theorem d199_425 : decode (mB 199) 425 = .ok (.iload_n 3, 1) := by decide +kernel
theorem s199_425 {l0 l1 l2 : Option Value} {st : List Value} {x : Int32} {m : kMem} {Q : Option Value → kMem → Prop} : kJ 199 425 [l0, l1, l2, some (.int x)] st m Q = kJ 199 426 [l0, l1, l2, some (.int x)] (.int x :: st) m Q := kJ_next d199_425 rfl
theorem d199_426 : decode (mB 199) 426 = .ok (.iconst 3, 1) := by decide +kernel
theorem s199_426 {l0 l1 l2 l3 : Option Value} {st : List Value} {m : kMem} {Q : Option Value → kMem → Prop} : kJ 199 426 [l0, l1, l2, l3] st m Q = kJ 199 427 [l0, l1, l2, l3] (.int (nI 3) :: st) m Q := kJ_next d199_426 rfl
theorem d199_427 : decode (mB 199) 427 = .ok (.iadd, 1) := by decide +kernel
theorem s199_427 {l0 l1 l2 l3 : Option Value} {st : List Value} {a b : Int32} {m : kMem} {Q : Option Value → kMem → Prop} : kJ 199 427 [l0, l1, l2, l3] (.int b :: .int a :: st) m Q = kJ 199 428 [l0, l1, l2, l3] (.int (a + b) :: st) m Q := kJ_next d199_427 rfl
theorem d199_428 : decode (mB 199) 428 = .ok (.iaload, 1) := by decide +kernel
theorem s199_428 {l0 l1 l2 l3 : Option Value} {st : List Value} {q : Nat} {i : Int32} {mi : Nat → Nat → Int32} {ml : Nat → Nat → Int64} {mr : Nat → Nat → Option Nat} {nx : Nat} {Q : Option Value → kMem → Prop} (h : kIs nx q 10 = true) : kJ 199 428 [l0, l1, l2, l3] (.int i :: .ref q :: st) (mi, ml, mr, nx) Q = (vp_in i (kAl q) ∧ kJ 199 429 [l0, l1, l2, l3] (.int (mi q i.toNatClampNeg) :: st) (mi, ml, mr, nx) Q) := kg_aldJ d199_428 rfl (kAr_of h)
theorem d199_429 : decode (mB 199) 429 = .ok (.invokevirtual 52, 3) := by decide +kernel
theorem s199_429 {l0 l1 l2 l3 : Option Value} {v0 : Int32} {v1 : Int32} {v2 : Int32} {v3 : Nat} {v4 : Int32} {m : kMem} {Q : Option Value → kMem → Prop} (h : kIs m.2.2.2 v3 5 = true) : kJ 199 429 [l0, l1, l2, l3] [.int v0, .int v1, .int v2, .ref v3, .int v4] m Q = kJ 154 0 [some (.ref v3), some (.int v2), some (.int v1), some (.int v0), none] [] m (fun v m2 => kJ 199 432 [l0, l1, l2, l3] (v.toList ++ [.int v4]) m2 Q) := kJ_call d199_429 (kg_callv 154 3 rfl rfl rfl rfl (Nat.le_of_ble_eq_true rfl) (Nat.le_of_ble_eq_true rfl) (Nat.le_of_ble_eq_true rfl) h rfl)
theorem d199_432 : decode (mB 199) 432 = .ok (.if_icmp .eq 984, 3) := by decide +kernel
theorem s199_432 {l0 l1 l2 l3 : Option Value} {st : List Value} {a b : Int32} {m : kMem} {Q : Option Value → kMem → Prop} : kJ 199 432 [l0, l1, l2, l3] (.int b :: .int a :: st) m Q = (if a = b then kJ 199 1416 [l0, l1, l2, l3] st m Q else kJ 199 435 [l0, l1, l2, l3] st m Q) := kJ_if d199_432 rfl (fun h => kJ_next d199_432 h) (fun h => kJ_next d199_432 h)
theorem d199_435 : decode (mB 199) 435 = .ok (.iconst 0, 1) := by decide +kernel
theorem s199_435 {l0 l1 l2 l3 : Option Value} {st : List Value} {m : kMem} {Q : Option Value → kMem → Prop} : kJ 199 435 [l0, l1, l2, l3] st m Q = kJ 199 436 [l0, l1, l2, l3] (.int (nI 0) :: st) m Q := kJ_next d199_435 rfl
theorem d199_436 : decode (mB 199) 436 = .ok (.ireturn, 1) := by decide +kernel
theorem s199_436 {l0 l1 l2 l3 : Option Value} {x : Int32} {m : kMem} {Q : Option Value → kMem → Prop} (hx : x = 0 ∨ x = 1) : kJ 199 436 [l0, l1, l2, l3] [.int x] m Q = Q (some (.int x)) m := kJ_ret d199_436 (kg_retz (by decide) hx)
theorem d199_437 : decode (mB 199) 437 = .ok (.aload_n 1, 1) := by decide +kernel
theorem s199_437 {l0 l2 l3 : Option Value} {st : List Value} {x : Nat} {m : kMem} {Q : Option Value → kMem → Prop} : kJ 199 437 [l0, some (.ref x), l2, l3] st m Q = kJ 199 438 [l0, some (.ref x), l2, l3] (.ref x :: st) m Q := kJ_next d199_437 rfl
theorem d199_438 : decode (mB 199) 438 = .ok (.aload_n 0, 1) := by decide +kernel
theorem s199_438 {l1 l2 l3 : Option Value} {st : List Value} {x : Nat} {m : kMem} {Q : Option Value → kMem → Prop} : kJ 199 438 [some (.ref x), l1, l2, l3] st m Q = kJ 199 439 [some (.ref x), l1, l2, l3] (.ref x :: st) m Q := kJ_next d199_438 rfl
theorem d199_439 : decode (mB 199) 439 = .ok (.iload_n 3, 1) := by decide +kernel
theorem s199_439 {l0 l1 l2 : Option Value} {st : List Value} {x : Int32} {m : kMem} {Q : Option Value → kMem → Prop} : kJ 199 439 [l0, l1, l2, some (.int x)] st m Q = kJ 199 440 [l0, l1, l2, some (.int x)] (.int x :: st) m Q := kJ_next d199_439 rfl
theorem d199_440 : decode (mB 199) 440 = .ok (.iconst 1, 1) := by decide +kernel
theorem s199_440 {l0 l1 l2 l3 : Option Value} {st : List Value} {m : kMem} {Q : Option Value → kMem → Prop} : kJ 199 440 [l0, l1, l2, l3] st m Q = kJ 199 441 [l0, l1, l2, l3] (.int (nI 1) :: st) m Q := kJ_next d199_440 rfl
theorem d199_441 : decode (mB 199) 441 = .ok (.iadd, 1) := by decide +kernel
theorem s199_441 {l0 l1 l2 l3 : Option Value} {st : List Value} {a b : Int32} {m : kMem} {Q : Option Value → kMem → Prop} : kJ 199 441 [l0, l1, l2, l3] (.int b :: .int a :: st) m Q = kJ 199 442 [l0, l1, l2, l3] (.int (a + b) :: st) m Q := kJ_next d199_441 rfl
theorem d199_442 : decode (mB 199) 442 = .ok (.iaload, 1) := by decide +kernel
theorem s199_442 {l0 l1 l2 l3 : Option Value} {st : List Value} {q : Nat} {i : Int32} {mi : Nat → Nat → Int32} {ml : Nat → Nat → Int64} {mr : Nat → Nat → Option Nat} {nx : Nat} {Q : Option Value → kMem → Prop} (h : kIs nx q 10 = true) : kJ 199 442 [l0, l1, l2, l3] (.int i :: .ref q :: st) (mi, ml, mr, nx) Q = (vp_in i (kAl q) ∧ kJ 199 443 [l0, l1, l2, l3] (.int (mi q i.toNatClampNeg) :: st) (mi, ml, mr, nx) Q) := kg_aldJ d199_442 rfl (kAr_of h)
theorem d199_443 : decode (mB 199) 443 = .ok (.aload_n 0, 1) := by decide +kernel
theorem s199_443 {l1 l2 l3 : Option Value} {st : List Value} {x : Nat} {m : kMem} {Q : Option Value → kMem → Prop} : kJ 199 443 [some (.ref x), l1, l2, l3] st m Q = kJ 199 444 [some (.ref x), l1, l2, l3] (.ref x :: st) m Q := kJ_next d199_443 rfl
theorem d199_444 : decode (mB 199) 444 = .ok (.iload_n 3, 1) := by decide +kernel
theorem s199_444 {l0 l1 l2 : Option Value} {st : List Value} {x : Int32} {m : kMem} {Q : Option Value → kMem → Prop} : kJ 199 444 [l0, l1, l2, some (.int x)] st m Q = kJ 199 445 [l0, l1, l2, some (.int x)] (.int x :: st) m Q := kJ_next d199_444 rfl
theorem d199_445 : decode (mB 199) 445 = .ok (.iconst 2, 1) := by decide +kernel
theorem s199_445 {l0 l1 l2 l3 : Option Value} {st : List Value} {m : kMem} {Q : Option Value → kMem → Prop} : kJ 199 445 [l0, l1, l2, l3] st m Q = kJ 199 446 [l0, l1, l2, l3] (.int (nI 2) :: st) m Q := kJ_next d199_445 rfl
theorem d199_446 : decode (mB 199) 446 = .ok (.iadd, 1) := by decide +kernel
theorem s199_446 {l0 l1 l2 l3 : Option Value} {st : List Value} {a b : Int32} {m : kMem} {Q : Option Value → kMem → Prop} : kJ 199 446 [l0, l1, l2, l3] (.int b :: .int a :: st) m Q = kJ 199 447 [l0, l1, l2, l3] (.int (a + b) :: st) m Q := kJ_next d199_446 rfl
theorem d199_447 : decode (mB 199) 447 = .ok (.iaload, 1) := by decide +kernel
theorem s199_447 {l0 l1 l2 l3 : Option Value} {st : List Value} {q : Nat} {i : Int32} {mi : Nat → Nat → Int32} {ml : Nat → Nat → Int64} {mr : Nat → Nat → Option Nat} {nx : Nat} {Q : Option Value → kMem → Prop} (h : kIs nx q 10 = true) : kJ 199 447 [l0, l1, l2, l3] (.int i :: .ref q :: st) (mi, ml, mr, nx) Q = (vp_in i (kAl q) ∧ kJ 199 448 [l0, l1, l2, l3] (.int (mi q i.toNatClampNeg) :: st) (mi, ml, mr, nx) Q) := kg_aldJ d199_447 rfl (kAr_of h)
theorem d199_448 : decode (mB 199) 448 = .ok (.invokevirtual 53, 3) := by decide +kernel
theorem s199_448 {l0 l1 l2 l3 : Option Value} {v0 : Int32} {v1 : Int32} {v2 : Nat} {m : kMem} {Q : Option Value → kMem → Prop} (h : kIs m.2.2.2 v2 4 = true) : kJ 199 448 [l0, l1, l2, l3] [.int v0, .int v1, .ref v2] m Q = kJ 61 0 [some (.ref v2), some (.int v1), some (.int v0)] [] m (fun v m2 => kJ 199 451 [l0, l1, l2, l3] (v.toList ++ []) m2 Q) := kJ_call d199_448 (kg_callv 61 2 rfl rfl rfl rfl (Nat.le_of_ble_eq_true rfl) (Nat.le_of_ble_eq_true rfl) (Nat.le_of_ble_eq_true rfl) h rfl)
theorem d199_451 : decode (mB 199) 451 = .ok (.aload_n 2, 1) := by decide +kernel
theorem s199_451 {l0 l1 l3 : Option Value} {st : List Value} {x : Nat} {m : kMem} {Q : Option Value → kMem → Prop} : kJ 199 451 [l0, l1, some (.ref x), l3] st m Q = kJ 199 452 [l0, l1, some (.ref x), l3] (.ref x :: st) m Q := kJ_next d199_451 rfl
theorem d199_452 : decode (mB 199) 452 = .ok (.aload_n 0, 1) := by decide +kernel
theorem s199_452 {l1 l2 l3 : Option Value} {st : List Value} {x : Nat} {m : kMem} {Q : Option Value → kMem → Prop} : kJ 199 452 [some (.ref x), l1, l2, l3] st m Q = kJ 199 453 [some (.ref x), l1, l2, l3] (.ref x :: st) m Q := kJ_next d199_452 rfl
theorem d199_453 : decode (mB 199) 453 = .ok (.iload_n 3, 1) := by decide +kernel
theorem s199_453 {l0 l1 l2 : Option Value} {st : List Value} {x : Int32} {m : kMem} {Q : Option Value → kMem → Prop} : kJ 199 453 [l0, l1, l2, some (.int x)] st m Q = kJ 199 454 [l0, l1, l2, some (.int x)] (.int x :: st) m Q := kJ_next d199_453 rfl
theorem d199_454 : decode (mB 199) 454 = .ok (.iconst 1, 1) := by decide +kernel
theorem s199_454 {l0 l1 l2 l3 : Option Value} {st : List Value} {m : kMem} {Q : Option Value → kMem → Prop} : kJ 199 454 [l0, l1, l2, l3] st m Q = kJ 199 455 [l0, l1, l2, l3] (.int (nI 1) :: st) m Q := kJ_next d199_454 rfl
theorem d199_455 : decode (mB 199) 455 = .ok (.iadd, 1) := by decide +kernel
theorem s199_455 {l0 l1 l2 l3 : Option Value} {st : List Value} {a b : Int32} {m : kMem} {Q : Option Value → kMem → Prop} : kJ 199 455 [l0, l1, l2, l3] (.int b :: .int a :: st) m Q = kJ 199 456 [l0, l1, l2, l3] (.int (a + b) :: st) m Q := kJ_next d199_455 rfl
theorem d199_456 : decode (mB 199) 456 = .ok (.iaload, 1) := by decide +kernel
theorem s199_456 {l0 l1 l2 l3 : Option Value} {st : List Value} {q : Nat} {i : Int32} {mi : Nat → Nat → Int32} {ml : Nat → Nat → Int64} {mr : Nat → Nat → Option Nat} {nx : Nat} {Q : Option Value → kMem → Prop} (h : kIs nx q 10 = true) : kJ 199 456 [l0, l1, l2, l3] (.int i :: .ref q :: st) (mi, ml, mr, nx) Q = (vp_in i (kAl q) ∧ kJ 199 457 [l0, l1, l2, l3] (.int (mi q i.toNatClampNeg) :: st) (mi, ml, mr, nx) Q) := kg_aldJ d199_456 rfl (kAr_of h)
theorem d199_457 : decode (mB 199) 457 = .ok (.aload_n 0, 1) := by decide +kernel
theorem s199_457 {l1 l2 l3 : Option Value} {st : List Value} {x : Nat} {m : kMem} {Q : Option Value → kMem → Prop} : kJ 199 457 [some (.ref x), l1, l2, l3] st m Q = kJ 199 458 [some (.ref x), l1, l2, l3] (.ref x :: st) m Q := kJ_next d199_457 rfl
theorem d199_458 : decode (mB 199) 458 = .ok (.iload_n 3, 1) := by decide +kernel
theorem s199_458 {l0 l1 l2 : Option Value} {st : List Value} {x : Int32} {m : kMem} {Q : Option Value → kMem → Prop} : kJ 199 458 [l0, l1, l2, some (.int x)] st m Q = kJ 199 459 [l0, l1, l2, some (.int x)] (.int x :: st) m Q := kJ_next d199_458 rfl
theorem d199_459 : decode (mB 199) 459 = .ok (.iconst 2, 1) := by decide +kernel
theorem s199_459 {l0 l1 l2 l3 : Option Value} {st : List Value} {m : kMem} {Q : Option Value → kMem → Prop} : kJ 199 459 [l0, l1, l2, l3] st m Q = kJ 199 460 [l0, l1, l2, l3] (.int (nI 2) :: st) m Q := kJ_next d199_459 rfl
theorem d199_460 : decode (mB 199) 460 = .ok (.iadd, 1) := by decide +kernel
theorem s199_460 {l0 l1 l2 l3 : Option Value} {st : List Value} {a b : Int32} {m : kMem} {Q : Option Value → kMem → Prop} : kJ 199 460 [l0, l1, l2, l3] (.int b :: .int a :: st) m Q = kJ 199 461 [l0, l1, l2, l3] (.int (a + b) :: st) m Q := kJ_next d199_460 rfl
theorem d199_461 : decode (mB 199) 461 = .ok (.iaload, 1) := by decide +kernel
theorem s199_461 {l0 l1 l2 l3 : Option Value} {st : List Value} {q : Nat} {i : Int32} {mi : Nat → Nat → Int32} {ml : Nat → Nat → Int64} {mr : Nat → Nat → Option Nat} {nx : Nat} {Q : Option Value → kMem → Prop} (h : kIs nx q 10 = true) : kJ 199 461 [l0, l1, l2, l3] (.int i :: .ref q :: st) (mi, ml, mr, nx) Q = (vp_in i (kAl q) ∧ kJ 199 462 [l0, l1, l2, l3] (.int (mi q i.toNatClampNeg) :: st) (mi, ml, mr, nx) Q) := kg_aldJ d199_461 rfl (kAr_of h)
theorem d199_462 : decode (mB 199) 462 = .ok (.invokevirtual 56, 3) := by decide +kernel
theorem s199_462 {l0 l1 l2 l3 : Option Value} {v0 : Int32} {v1 : Int32} {v2 : Nat} {v3 : Int32} {m : kMem} {Q : Option Value → kMem → Prop} (h : kIs m.2.2.2 v2 5 = true) : kJ 199 462 [l0, l1, l2, l3] [.int v0, .int v1, .ref v2, .int v3] m Q = kJ 156 0 [some (.ref v2), some (.int v1), some (.int v0)] [] m (fun v m2 => kJ 199 465 [l0, l1, l2, l3] (v.toList ++ [.int v3]) m2 Q) := kJ_call d199_462 (kg_callv 156 2 rfl rfl rfl rfl (Nat.le_of_ble_eq_true rfl) (Nat.le_of_ble_eq_true rfl) (Nat.le_of_ble_eq_true rfl) h rfl)
theorem d199_465 : decode (mB 199) 465 = .ok (.if_icmp .eq 951, 3) := by decide +kernel
theorem s199_465 {l0 l1 l2 l3 : Option Value} {st : List Value} {a b : Int32} {m : kMem} {Q : Option Value → kMem → Prop} : kJ 199 465 [l0, l1, l2, l3] (.int b :: .int a :: st) m Q = (if a = b then kJ 199 1416 [l0, l1, l2, l3] st m Q else kJ 199 468 [l0, l1, l2, l3] st m Q) := kJ_if d199_465 rfl (fun h => kJ_next d199_465 h) (fun h => kJ_next d199_465 h)
theorem d199_468 : decode (mB 199) 468 = .ok (.iconst 0, 1) := by decide +kernel
theorem s199_468 {l0 l1 l2 l3 : Option Value} {st : List Value} {m : kMem} {Q : Option Value → kMem → Prop} : kJ 199 468 [l0, l1, l2, l3] st m Q = kJ 199 469 [l0, l1, l2, l3] (.int (nI 0) :: st) m Q := kJ_next d199_468 rfl
theorem d199_469 : decode (mB 199) 469 = .ok (.ireturn, 1) := by decide +kernel
theorem s199_469 {l0 l1 l2 l3 : Option Value} {x : Int32} {m : kMem} {Q : Option Value → kMem → Prop} (hx : x = 0 ∨ x = 1) : kJ 199 469 [l0, l1, l2, l3] [.int x] m Q = Q (some (.int x)) m := kJ_ret d199_469 (kg_retz (by decide) hx)
theorem d199_470 : decode (mB 199) 470 = .ok (.aload_n 1, 1) := by decide +kernel
theorem s199_470 {l0 l2 l3 : Option Value} {st : List Value} {x : Nat} {m : kMem} {Q : Option Value → kMem → Prop} : kJ 199 470 [l0, some (.ref x), l2, l3] st m Q = kJ 199 471 [l0, some (.ref x), l2, l3] (.ref x :: st) m Q := kJ_next d199_470 rfl
theorem d199_471 : decode (mB 199) 471 = .ok (.aload_n 0, 1) := by decide +kernel
theorem s199_471 {l1 l2 l3 : Option Value} {st : List Value} {x : Nat} {m : kMem} {Q : Option Value → kMem → Prop} : kJ 199 471 [some (.ref x), l1, l2, l3] st m Q = kJ 199 472 [some (.ref x), l1, l2, l3] (.ref x :: st) m Q := kJ_next d199_471 rfl
theorem d199_472 : decode (mB 199) 472 = .ok (.iload_n 3, 1) := by decide +kernel
theorem s199_472 {l0 l1 l2 : Option Value} {st : List Value} {x : Int32} {m : kMem} {Q : Option Value → kMem → Prop} : kJ 199 472 [l0, l1, l2, some (.int x)] st m Q = kJ 199 473 [l0, l1, l2, some (.int x)] (.int x :: st) m Q := kJ_next d199_472 rfl
theorem d199_473 : decode (mB 199) 473 = .ok (.iconst 1, 1) := by decide +kernel
theorem s199_473 {l0 l1 l2 l3 : Option Value} {st : List Value} {m : kMem} {Q : Option Value → kMem → Prop} : kJ 199 473 [l0, l1, l2, l3] st m Q = kJ 199 474 [l0, l1, l2, l3] (.int (nI 1) :: st) m Q := kJ_next d199_473 rfl
theorem d199_474 : decode (mB 199) 474 = .ok (.iadd, 1) := by decide +kernel
theorem s199_474 {l0 l1 l2 l3 : Option Value} {st : List Value} {a b : Int32} {m : kMem} {Q : Option Value → kMem → Prop} : kJ 199 474 [l0, l1, l2, l3] (.int b :: .int a :: st) m Q = kJ 199 475 [l0, l1, l2, l3] (.int (a + b) :: st) m Q := kJ_next d199_474 rfl
theorem d199_475 : decode (mB 199) 475 = .ok (.iaload, 1) := by decide +kernel
theorem s199_475 {l0 l1 l2 l3 : Option Value} {st : List Value} {q : Nat} {i : Int32} {mi : Nat → Nat → Int32} {ml : Nat → Nat → Int64} {mr : Nat → Nat → Option Nat} {nx : Nat} {Q : Option Value → kMem → Prop} (h : kIs nx q 10 = true) : kJ 199 475 [l0, l1, l2, l3] (.int i :: .ref q :: st) (mi, ml, mr, nx) Q = (vp_in i (kAl q) ∧ kJ 199 476 [l0, l1, l2, l3] (.int (mi q i.toNatClampNeg) :: st) (mi, ml, mr, nx) Q) := kg_aldJ d199_475 rfl (kAr_of h)
theorem d199_476 : decode (mB 199) 476 = .ok (.invokevirtual 57, 3) := by decide +kernel
theorem s199_476 {l0 l1 l2 l3 : Option Value} {v0 : Int32} {v1 : Nat} {m : kMem} {Q : Option Value → kMem → Prop} (h : kIs m.2.2.2 v1 4 = true) : kJ 199 476 [l0, l1, l2, l3] [.int v0, .ref v1] m Q = kJ 62 0 [some (.ref v1), some (.int v0), none] [] m (fun v m2 => kJ 199 479 [l0, l1, l2, l3] (v.toList ++ []) m2 Q) := kJ_call d199_476 (kg_callv 62 1 rfl rfl rfl rfl (Nat.le_of_ble_eq_true rfl) (Nat.le_of_ble_eq_true rfl) (Nat.le_of_ble_eq_true rfl) h rfl)
theorem d199_479 : decode (mB 199) 479 = .ok (.aload_n 2, 1) := by decide +kernel
theorem s199_479 {l0 l1 l3 : Option Value} {st : List Value} {x : Nat} {m : kMem} {Q : Option Value → kMem → Prop} : kJ 199 479 [l0, l1, some (.ref x), l3] st m Q = kJ 199 480 [l0, l1, some (.ref x), l3] (.ref x :: st) m Q := kJ_next d199_479 rfl
theorem d199_480 : decode (mB 199) 480 = .ok (.aload_n 0, 1) := by decide +kernel
theorem s199_480 {l1 l2 l3 : Option Value} {st : List Value} {x : Nat} {m : kMem} {Q : Option Value → kMem → Prop} : kJ 199 480 [some (.ref x), l1, l2, l3] st m Q = kJ 199 481 [some (.ref x), l1, l2, l3] (.ref x :: st) m Q := kJ_next d199_480 rfl
theorem d199_481 : decode (mB 199) 481 = .ok (.iload_n 3, 1) := by decide +kernel
theorem s199_481 {l0 l1 l2 : Option Value} {st : List Value} {x : Int32} {m : kMem} {Q : Option Value → kMem → Prop} : kJ 199 481 [l0, l1, l2, some (.int x)] st m Q = kJ 199 482 [l0, l1, l2, some (.int x)] (.int x :: st) m Q := kJ_next d199_481 rfl
theorem d199_482 : decode (mB 199) 482 = .ok (.iconst 1, 1) := by decide +kernel
theorem s199_482 {l0 l1 l2 l3 : Option Value} {st : List Value} {m : kMem} {Q : Option Value → kMem → Prop} : kJ 199 482 [l0, l1, l2, l3] st m Q = kJ 199 483 [l0, l1, l2, l3] (.int (nI 1) :: st) m Q := kJ_next d199_482 rfl
theorem d199_483 : decode (mB 199) 483 = .ok (.iadd, 1) := by decide +kernel
theorem s199_483 {l0 l1 l2 l3 : Option Value} {st : List Value} {a b : Int32} {m : kMem} {Q : Option Value → kMem → Prop} : kJ 199 483 [l0, l1, l2, l3] (.int b :: .int a :: st) m Q = kJ 199 484 [l0, l1, l2, l3] (.int (a + b) :: st) m Q := kJ_next d199_483 rfl
theorem d199_484 : decode (mB 199) 484 = .ok (.iaload, 1) := by decide +kernel
theorem s199_484 {l0 l1 l2 l3 : Option Value} {st : List Value} {q : Nat} {i : Int32} {mi : Nat → Nat → Int32} {ml : Nat → Nat → Int64} {mr : Nat → Nat → Option Nat} {nx : Nat} {Q : Option Value → kMem → Prop} (h : kIs nx q 10 = true) : kJ 199 484 [l0, l1, l2, l3] (.int i :: .ref q :: st) (mi, ml, mr, nx) Q = (vp_in i (kAl q) ∧ kJ 199 485 [l0, l1, l2, l3] (.int (mi q i.toNatClampNeg) :: st) (mi, ml, mr, nx) Q) := kg_aldJ d199_484 rfl (kAr_of h)
theorem d199_485 : decode (mB 199) 485 = .ok (.invokevirtual 60, 3) := by decide +kernel
theorem s199_485 {l0 l1 l2 l3 : Option Value} {v0 : Int32} {v1 : Nat} {v2 : Int32} {m : kMem} {Q : Option Value → kMem → Prop} (h : kIs m.2.2.2 v1 5 = true) : kJ 199 485 [l0, l1, l2, l3] [.int v0, .ref v1, .int v2] m Q = kJ 157 0 [some (.ref v1), some (.int v0)] [] m (fun v m2 => kJ 199 488 [l0, l1, l2, l3] (v.toList ++ [.int v2]) m2 Q) := kJ_call d199_485 (kg_callv 157 1 rfl rfl rfl rfl (Nat.le_of_ble_eq_true rfl) (Nat.le_of_ble_eq_true rfl) (Nat.le_of_ble_eq_true rfl) h rfl)
theorem d199_488 : decode (mB 199) 488 = .ok (.if_icmp .eq 928, 3) := by decide +kernel
theorem s199_488 {l0 l1 l2 l3 : Option Value} {st : List Value} {a b : Int32} {m : kMem} {Q : Option Value → kMem → Prop} : kJ 199 488 [l0, l1, l2, l3] (.int b :: .int a :: st) m Q = (if a = b then kJ 199 1416 [l0, l1, l2, l3] st m Q else kJ 199 491 [l0, l1, l2, l3] st m Q) := kJ_if d199_488 rfl (fun h => kJ_next d199_488 h) (fun h => kJ_next d199_488 h)
theorem d199_491 : decode (mB 199) 491 = .ok (.iconst 0, 1) := by decide +kernel
theorem s199_491 {l0 l1 l2 l3 : Option Value} {st : List Value} {m : kMem} {Q : Option Value → kMem → Prop} : kJ 199 491 [l0, l1, l2, l3] st m Q = kJ 199 492 [l0, l1, l2, l3] (.int (nI 0) :: st) m Q := kJ_next d199_491 rfl
theorem d199_492 : decode (mB 199) 492 = .ok (.ireturn, 1) := by decide +kernel
theorem s199_492 {l0 l1 l2 l3 : Option Value} {x : Int32} {m : kMem} {Q : Option Value → kMem → Prop} (hx : x = 0 ∨ x = 1) : kJ 199 492 [l0, l1, l2, l3] [.int x] m Q = Q (some (.int x)) m := kJ_ret d199_492 (kg_retz (by decide) hx)
theorem d199_493 : decode (mB 199) 493 = .ok (.aload_n 1, 1) := by decide +kernel
theorem s199_493 {l0 l2 l3 : Option Value} {st : List Value} {x : Nat} {m : kMem} {Q : Option Value → kMem → Prop} : kJ 199 493 [l0, some (.ref x), l2, l3] st m Q = kJ 199 494 [l0, some (.ref x), l2, l3] (.ref x :: st) m Q := kJ_next d199_493 rfl
theorem d199_494 : decode (mB 199) 494 = .ok (.aload_n 0, 1) := by decide +kernel
theorem s199_494 {l1 l2 l3 : Option Value} {st : List Value} {x : Nat} {m : kMem} {Q : Option Value → kMem → Prop} : kJ 199 494 [some (.ref x), l1, l2, l3] st m Q = kJ 199 495 [some (.ref x), l1, l2, l3] (.ref x :: st) m Q := kJ_next d199_494 rfl
theorem d199_495 : decode (mB 199) 495 = .ok (.iload_n 3, 1) := by decide +kernel
theorem s199_495 {l0 l1 l2 : Option Value} {st : List Value} {x : Int32} {m : kMem} {Q : Option Value → kMem → Prop} : kJ 199 495 [l0, l1, l2, some (.int x)] st m Q = kJ 199 496 [l0, l1, l2, some (.int x)] (.int x :: st) m Q := kJ_next d199_495 rfl
theorem d199_496 : decode (mB 199) 496 = .ok (.iconst 1, 1) := by decide +kernel
theorem s199_496 {l0 l1 l2 l3 : Option Value} {st : List Value} {m : kMem} {Q : Option Value → kMem → Prop} : kJ 199 496 [l0, l1, l2, l3] st m Q = kJ 199 497 [l0, l1, l2, l3] (.int (nI 1) :: st) m Q := kJ_next d199_496 rfl
theorem d199_497 : decode (mB 199) 497 = .ok (.iadd, 1) := by decide +kernel
theorem s199_497 {l0 l1 l2 l3 : Option Value} {st : List Value} {a b : Int32} {m : kMem} {Q : Option Value → kMem → Prop} : kJ 199 497 [l0, l1, l2, l3] (.int b :: .int a :: st) m Q = kJ 199 498 [l0, l1, l2, l3] (.int (a + b) :: st) m Q := kJ_next d199_497 rfl
theorem d199_498 : decode (mB 199) 498 = .ok (.iaload, 1) := by decide +kernel
theorem s199_498 {l0 l1 l2 l3 : Option Value} {st : List Value} {q : Nat} {i : Int32} {mi : Nat → Nat → Int32} {ml : Nat → Nat → Int64} {mr : Nat → Nat → Option Nat} {nx : Nat} {Q : Option Value → kMem → Prop} (h : kIs nx q 10 = true) : kJ 199 498 [l0, l1, l2, l3] (.int i :: .ref q :: st) (mi, ml, mr, nx) Q = (vp_in i (kAl q) ∧ kJ 199 499 [l0, l1, l2, l3] (.int (mi q i.toNatClampNeg) :: st) (mi, ml, mr, nx) Q) := kg_aldJ d199_498 rfl (kAr_of h)
theorem d199_499 : decode (mB 199) 499 = .ok (.aload_n 0, 1) := by decide +kernel
theorem s199_499 {l1 l2 l3 : Option Value} {st : List Value} {x : Nat} {m : kMem} {Q : Option Value → kMem → Prop} : kJ 199 499 [some (.ref x), l1, l2, l3] st m Q = kJ 199 500 [some (.ref x), l1, l2, l3] (.ref x :: st) m Q := kJ_next d199_499 rfl
theorem d199_500 : decode (mB 199) 500 = .ok (.iload_n 3, 1) := by decide +kernel
theorem s199_500 {l0 l1 l2 : Option Value} {st : List Value} {x : Int32} {m : kMem} {Q : Option Value → kMem → Prop} : kJ 199 500 [l0, l1, l2, some (.int x)] st m Q = kJ 199 501 [l0, l1, l2, some (.int x)] (.int x :: st) m Q := kJ_next d199_500 rfl
theorem d199_501 : decode (mB 199) 501 = .ok (.iconst 2, 1) := by decide +kernel
theorem s199_501 {l0 l1 l2 l3 : Option Value} {st : List Value} {m : kMem} {Q : Option Value → kMem → Prop} : kJ 199 501 [l0, l1, l2, l3] st m Q = kJ 199 502 [l0, l1, l2, l3] (.int (nI 2) :: st) m Q := kJ_next d199_501 rfl
theorem d199_502 : decode (mB 199) 502 = .ok (.iadd, 1) := by decide +kernel
theorem s199_502 {l0 l1 l2 l3 : Option Value} {st : List Value} {a b : Int32} {m : kMem} {Q : Option Value → kMem → Prop} : kJ 199 502 [l0, l1, l2, l3] (.int b :: .int a :: st) m Q = kJ 199 503 [l0, l1, l2, l3] (.int (a + b) :: st) m Q := kJ_next d199_502 rfl
theorem d199_503 : decode (mB 199) 503 = .ok (.iaload, 1) := by decide +kernel
theorem s199_503 {l0 l1 l2 l3 : Option Value} {st : List Value} {q : Nat} {i : Int32} {mi : Nat → Nat → Int32} {ml : Nat → Nat → Int64} {mr : Nat → Nat → Option Nat} {nx : Nat} {Q : Option Value → kMem → Prop} (h : kIs nx q 10 = true) : kJ 199 503 [l0, l1, l2, l3] (.int i :: .ref q :: st) (mi, ml, mr, nx) Q = (vp_in i (kAl q) ∧ kJ 199 504 [l0, l1, l2, l3] (.int (mi q i.toNatClampNeg) :: st) (mi, ml, mr, nx) Q) := kg_aldJ d199_503 rfl (kAr_of h)
theorem d199_504 : decode (mB 199) 504 = .ok (.aload_n 0, 1) := by decide +kernel
theorem s199_504 {l1 l2 l3 : Option Value} {st : List Value} {x : Nat} {m : kMem} {Q : Option Value → kMem → Prop} : kJ 199 504 [some (.ref x), l1, l2, l3] st m Q = kJ 199 505 [some (.ref x), l1, l2, l3] (.ref x :: st) m Q := kJ_next d199_504 rfl
theorem d199_505 : decode (mB 199) 505 = .ok (.iload_n 3, 1) := by decide +kernel
theorem s199_505 {l0 l1 l2 : Option Value} {st : List Value} {x : Int32} {m : kMem} {Q : Option Value → kMem → Prop} : kJ 199 505 [l0, l1, l2, some (.int x)] st m Q = kJ 199 506 [l0, l1, l2, some (.int x)] (.int x :: st) m Q := kJ_next d199_505 rfl
theorem d199_506 : decode (mB 199) 506 = .ok (.iconst 3, 1) := by decide +kernel
theorem s199_506 {l0 l1 l2 l3 : Option Value} {st : List Value} {m : kMem} {Q : Option Value → kMem → Prop} : kJ 199 506 [l0, l1, l2, l3] st m Q = kJ 199 507 [l0, l1, l2, l3] (.int (nI 3) :: st) m Q := kJ_next d199_506 rfl
theorem d199_507 : decode (mB 199) 507 = .ok (.iadd, 1) := by decide +kernel
theorem s199_507 {l0 l1 l2 l3 : Option Value} {st : List Value} {a b : Int32} {m : kMem} {Q : Option Value → kMem → Prop} : kJ 199 507 [l0, l1, l2, l3] (.int b :: .int a :: st) m Q = kJ 199 508 [l0, l1, l2, l3] (.int (a + b) :: st) m Q := kJ_next d199_507 rfl
theorem d199_508 : decode (mB 199) 508 = .ok (.iaload, 1) := by decide +kernel
theorem s199_508 {l0 l1 l2 l3 : Option Value} {st : List Value} {q : Nat} {i : Int32} {mi : Nat → Nat → Int32} {ml : Nat → Nat → Int64} {mr : Nat → Nat → Option Nat} {nx : Nat} {Q : Option Value → kMem → Prop} (h : kIs nx q 10 = true) : kJ 199 508 [l0, l1, l2, l3] (.int i :: .ref q :: st) (mi, ml, mr, nx) Q = (vp_in i (kAl q) ∧ kJ 199 509 [l0, l1, l2, l3] (.int (mi q i.toNatClampNeg) :: st) (mi, ml, mr, nx) Q) := kg_aldJ d199_508 rfl (kAr_of h)
theorem d199_509 : decode (mB 199) 509 = .ok (.aload_n 0, 1) := by decide +kernel
theorem s199_509 {l1 l2 l3 : Option Value} {st : List Value} {x : Nat} {m : kMem} {Q : Option Value → kMem → Prop} : kJ 199 509 [some (.ref x), l1, l2, l3] st m Q = kJ 199 510 [some (.ref x), l1, l2, l3] (.ref x :: st) m Q := kJ_next d199_509 rfl
theorem d199_510 : decode (mB 199) 510 = .ok (.iload_n 3, 1) := by decide +kernel
theorem s199_510 {l0 l1 l2 : Option Value} {st : List Value} {x : Int32} {m : kMem} {Q : Option Value → kMem → Prop} : kJ 199 510 [l0, l1, l2, some (.int x)] st m Q = kJ 199 511 [l0, l1, l2, some (.int x)] (.int x :: st) m Q := kJ_next d199_510 rfl
theorem d199_511 : decode (mB 199) 511 = .ok (.iconst 4, 1) := by decide +kernel
theorem s199_511 {l0 l1 l2 l3 : Option Value} {st : List Value} {m : kMem} {Q : Option Value → kMem → Prop} : kJ 199 511 [l0, l1, l2, l3] st m Q = kJ 199 512 [l0, l1, l2, l3] (.int (nI 4) :: st) m Q := kJ_next d199_511 rfl
theorem d199_512 : decode (mB 199) 512 = .ok (.iadd, 1) := by decide +kernel
theorem s199_512 {l0 l1 l2 l3 : Option Value} {st : List Value} {a b : Int32} {m : kMem} {Q : Option Value → kMem → Prop} : kJ 199 512 [l0, l1, l2, l3] (.int b :: .int a :: st) m Q = kJ 199 513 [l0, l1, l2, l3] (.int (a + b) :: st) m Q := kJ_next d199_512 rfl
theorem d199_513 : decode (mB 199) 513 = .ok (.iaload, 1) := by decide +kernel
theorem s199_513 {l0 l1 l2 l3 : Option Value} {st : List Value} {q : Nat} {i : Int32} {mi : Nat → Nat → Int32} {ml : Nat → Nat → Int64} {mr : Nat → Nat → Option Nat} {nx : Nat} {Q : Option Value → kMem → Prop} (h : kIs nx q 10 = true) : kJ 199 513 [l0, l1, l2, l3] (.int i :: .ref q :: st) (mi, ml, mr, nx) Q = (vp_in i (kAl q) ∧ kJ 199 514 [l0, l1, l2, l3] (.int (mi q i.toNatClampNeg) :: st) (mi, ml, mr, nx) Q) := kg_aldJ d199_513 rfl (kAr_of h)
theorem d199_514 : decode (mB 199) 514 = .ok (.invokevirtual 61, 3) := by decide +kernel
theorem s199_514 {l0 l1 l2 l3 : Option Value} {v0 : Int32} {v1 : Int32} {v2 : Int32} {v3 : Int32} {v4 : Nat} {m : kMem} {Q : Option Value → kMem → Prop} (h : kIs m.2.2.2 v4 4 = true) : kJ 199 514 [l0, l1, l2, l3] [.int v0, .int v1, .int v2, .int v3, .ref v4] m Q = kJ 63 0 [some (.ref v4), some (.int v3), some (.int v2), some (.int v1), some (.int v0)] [] m (fun v m2 => kJ 199 517 [l0, l1, l2, l3] (v.toList ++ []) m2 Q) := kJ_call d199_514 (kg_callv 63 4 rfl rfl rfl rfl (Nat.le_of_ble_eq_true rfl) (Nat.le_of_ble_eq_true rfl) (Nat.le_of_ble_eq_true rfl) h rfl)
theorem d199_517 : decode (mB 199) 517 = .ok (.aload_n 2, 1) := by decide +kernel
theorem s199_517 {l0 l1 l3 : Option Value} {st : List Value} {x : Nat} {m : kMem} {Q : Option Value → kMem → Prop} : kJ 199 517 [l0, l1, some (.ref x), l3] st m Q = kJ 199 518 [l0, l1, some (.ref x), l3] (.ref x :: st) m Q := kJ_next d199_517 rfl
theorem d199_518 : decode (mB 199) 518 = .ok (.aload_n 0, 1) := by decide +kernel
theorem s199_518 {l1 l2 l3 : Option Value} {st : List Value} {x : Nat} {m : kMem} {Q : Option Value → kMem → Prop} : kJ 199 518 [some (.ref x), l1, l2, l3] st m Q = kJ 199 519 [some (.ref x), l1, l2, l3] (.ref x :: st) m Q := kJ_next d199_518 rfl
theorem d199_519 : decode (mB 199) 519 = .ok (.iload_n 3, 1) := by decide +kernel
theorem s199_519 {l0 l1 l2 : Option Value} {st : List Value} {x : Int32} {m : kMem} {Q : Option Value → kMem → Prop} : kJ 199 519 [l0, l1, l2, some (.int x)] st m Q = kJ 199 520 [l0, l1, l2, some (.int x)] (.int x :: st) m Q := kJ_next d199_519 rfl
theorem d199_520 : decode (mB 199) 520 = .ok (.iconst 1, 1) := by decide +kernel
theorem s199_520 {l0 l1 l2 l3 : Option Value} {st : List Value} {m : kMem} {Q : Option Value → kMem → Prop} : kJ 199 520 [l0, l1, l2, l3] st m Q = kJ 199 521 [l0, l1, l2, l3] (.int (nI 1) :: st) m Q := kJ_next d199_520 rfl
theorem d199_521 : decode (mB 199) 521 = .ok (.iadd, 1) := by decide +kernel
theorem s199_521 {l0 l1 l2 l3 : Option Value} {st : List Value} {a b : Int32} {m : kMem} {Q : Option Value → kMem → Prop} : kJ 199 521 [l0, l1, l2, l3] (.int b :: .int a :: st) m Q = kJ 199 522 [l0, l1, l2, l3] (.int (a + b) :: st) m Q := kJ_next d199_521 rfl
theorem d199_522 : decode (mB 199) 522 = .ok (.iaload, 1) := by decide +kernel
theorem s199_522 {l0 l1 l2 l3 : Option Value} {st : List Value} {q : Nat} {i : Int32} {mi : Nat → Nat → Int32} {ml : Nat → Nat → Int64} {mr : Nat → Nat → Option Nat} {nx : Nat} {Q : Option Value → kMem → Prop} (h : kIs nx q 10 = true) : kJ 199 522 [l0, l1, l2, l3] (.int i :: .ref q :: st) (mi, ml, mr, nx) Q = (vp_in i (kAl q) ∧ kJ 199 523 [l0, l1, l2, l3] (.int (mi q i.toNatClampNeg) :: st) (mi, ml, mr, nx) Q) := kg_aldJ d199_522 rfl (kAr_of h)
theorem d199_523 : decode (mB 199) 523 = .ok (.aload_n 0, 1) := by decide +kernel
theorem s199_523 {l1 l2 l3 : Option Value} {st : List Value} {x : Nat} {m : kMem} {Q : Option Value → kMem → Prop} : kJ 199 523 [some (.ref x), l1, l2, l3] st m Q = kJ 199 524 [some (.ref x), l1, l2, l3] (.ref x :: st) m Q := kJ_next d199_523 rfl
theorem d199_524 : decode (mB 199) 524 = .ok (.iload_n 3, 1) := by decide +kernel
theorem s199_524 {l0 l1 l2 : Option Value} {st : List Value} {x : Int32} {m : kMem} {Q : Option Value → kMem → Prop} : kJ 199 524 [l0, l1, l2, some (.int x)] st m Q = kJ 199 525 [l0, l1, l2, some (.int x)] (.int x :: st) m Q := kJ_next d199_524 rfl
theorem d199_525 : decode (mB 199) 525 = .ok (.iconst 2, 1) := by decide +kernel
theorem s199_525 {l0 l1 l2 l3 : Option Value} {st : List Value} {m : kMem} {Q : Option Value → kMem → Prop} : kJ 199 525 [l0, l1, l2, l3] st m Q = kJ 199 526 [l0, l1, l2, l3] (.int (nI 2) :: st) m Q := kJ_next d199_525 rfl
theorem d199_526 : decode (mB 199) 526 = .ok (.iadd, 1) := by decide +kernel
theorem s199_526 {l0 l1 l2 l3 : Option Value} {st : List Value} {a b : Int32} {m : kMem} {Q : Option Value → kMem → Prop} : kJ 199 526 [l0, l1, l2, l3] (.int b :: .int a :: st) m Q = kJ 199 527 [l0, l1, l2, l3] (.int (a + b) :: st) m Q := kJ_next d199_526 rfl
theorem d199_527 : decode (mB 199) 527 = .ok (.iaload, 1) := by decide +kernel
theorem s199_527 {l0 l1 l2 l3 : Option Value} {st : List Value} {q : Nat} {i : Int32} {mi : Nat → Nat → Int32} {ml : Nat → Nat → Int64} {mr : Nat → Nat → Option Nat} {nx : Nat} {Q : Option Value → kMem → Prop} (h : kIs nx q 10 = true) : kJ 199 527 [l0, l1, l2, l3] (.int i :: .ref q :: st) (mi, ml, mr, nx) Q = (vp_in i (kAl q) ∧ kJ 199 528 [l0, l1, l2, l3] (.int (mi q i.toNatClampNeg) :: st) (mi, ml, mr, nx) Q) := kg_aldJ d199_527 rfl (kAr_of h)
theorem d199_528 : decode (mB 199) 528 = .ok (.aload_n 0, 1) := by decide +kernel
theorem s199_528 {l1 l2 l3 : Option Value} {st : List Value} {x : Nat} {m : kMem} {Q : Option Value → kMem → Prop} : kJ 199 528 [some (.ref x), l1, l2, l3] st m Q = kJ 199 529 [some (.ref x), l1, l2, l3] (.ref x :: st) m Q := kJ_next d199_528 rfl
theorem d199_529 : decode (mB 199) 529 = .ok (.iload_n 3, 1) := by decide +kernel
theorem s199_529 {l0 l1 l2 : Option Value} {st : List Value} {x : Int32} {m : kMem} {Q : Option Value → kMem → Prop} : kJ 199 529 [l0, l1, l2, some (.int x)] st m Q = kJ 199 530 [l0, l1, l2, some (.int x)] (.int x :: st) m Q := kJ_next d199_529 rfl
theorem d199_530 : decode (mB 199) 530 = .ok (.iconst 3, 1) := by decide +kernel
theorem s199_530 {l0 l1 l2 l3 : Option Value} {st : List Value} {m : kMem} {Q : Option Value → kMem → Prop} : kJ 199 530 [l0, l1, l2, l3] st m Q = kJ 199 531 [l0, l1, l2, l3] (.int (nI 3) :: st) m Q := kJ_next d199_530 rfl
theorem d199_531 : decode (mB 199) 531 = .ok (.iadd, 1) := by decide +kernel
theorem s199_531 {l0 l1 l2 l3 : Option Value} {st : List Value} {a b : Int32} {m : kMem} {Q : Option Value → kMem → Prop} : kJ 199 531 [l0, l1, l2, l3] (.int b :: .int a :: st) m Q = kJ 199 532 [l0, l1, l2, l3] (.int (a + b) :: st) m Q := kJ_next d199_531 rfl
theorem d199_532 : decode (mB 199) 532 = .ok (.iaload, 1) := by decide +kernel
theorem s199_532 {l0 l1 l2 l3 : Option Value} {st : List Value} {q : Nat} {i : Int32} {mi : Nat → Nat → Int32} {ml : Nat → Nat → Int64} {mr : Nat → Nat → Option Nat} {nx : Nat} {Q : Option Value → kMem → Prop} (h : kIs nx q 10 = true) : kJ 199 532 [l0, l1, l2, l3] (.int i :: .ref q :: st) (mi, ml, mr, nx) Q = (vp_in i (kAl q) ∧ kJ 199 533 [l0, l1, l2, l3] (.int (mi q i.toNatClampNeg) :: st) (mi, ml, mr, nx) Q) := kg_aldJ d199_532 rfl (kAr_of h)
theorem d199_533 : decode (mB 199) 533 = .ok (.aload_n 0, 1) := by decide +kernel
theorem s199_533 {l1 l2 l3 : Option Value} {st : List Value} {x : Nat} {m : kMem} {Q : Option Value → kMem → Prop} : kJ 199 533 [some (.ref x), l1, l2, l3] st m Q = kJ 199 534 [some (.ref x), l1, l2, l3] (.ref x :: st) m Q := kJ_next d199_533 rfl
theorem d199_534 : decode (mB 199) 534 = .ok (.iload_n 3, 1) := by decide +kernel
theorem s199_534 {l0 l1 l2 : Option Value} {st : List Value} {x : Int32} {m : kMem} {Q : Option Value → kMem → Prop} : kJ 199 534 [l0, l1, l2, some (.int x)] st m Q = kJ 199 535 [l0, l1, l2, some (.int x)] (.int x :: st) m Q := kJ_next d199_534 rfl
theorem d199_535 : decode (mB 199) 535 = .ok (.iconst 4, 1) := by decide +kernel
theorem s199_535 {l0 l1 l2 l3 : Option Value} {st : List Value} {m : kMem} {Q : Option Value → kMem → Prop} : kJ 199 535 [l0, l1, l2, l3] st m Q = kJ 199 536 [l0, l1, l2, l3] (.int (nI 4) :: st) m Q := kJ_next d199_535 rfl
theorem d199_536 : decode (mB 199) 536 = .ok (.iadd, 1) := by decide +kernel
theorem s199_536 {l0 l1 l2 l3 : Option Value} {st : List Value} {a b : Int32} {m : kMem} {Q : Option Value → kMem → Prop} : kJ 199 536 [l0, l1, l2, l3] (.int b :: .int a :: st) m Q = kJ 199 537 [l0, l1, l2, l3] (.int (a + b) :: st) m Q := kJ_next d199_536 rfl
theorem d199_537 : decode (mB 199) 537 = .ok (.iaload, 1) := by decide +kernel
theorem s199_537 {l0 l1 l2 l3 : Option Value} {st : List Value} {q : Nat} {i : Int32} {mi : Nat → Nat → Int32} {ml : Nat → Nat → Int64} {mr : Nat → Nat → Option Nat} {nx : Nat} {Q : Option Value → kMem → Prop} (h : kIs nx q 10 = true) : kJ 199 537 [l0, l1, l2, l3] (.int i :: .ref q :: st) (mi, ml, mr, nx) Q = (vp_in i (kAl q) ∧ kJ 199 538 [l0, l1, l2, l3] (.int (mi q i.toNatClampNeg) :: st) (mi, ml, mr, nx) Q) := kg_aldJ d199_537 rfl (kAr_of h)
theorem d199_538 : decode (mB 199) 538 = .ok (.invokevirtual 65, 3) := by decide +kernel
theorem s199_538 {l0 l1 l2 l3 : Option Value} {v0 : Int32} {v1 : Int32} {v2 : Int32} {v3 : Int32} {v4 : Nat} {v5 : Int32} {m : kMem} {Q : Option Value → kMem → Prop} (h : kIs m.2.2.2 v4 5 = true) : kJ 199 538 [l0, l1, l2, l3] [.int v0, .int v1, .int v2, .int v3, .ref v4, .int v5] m Q = kJ 158 0 [some (.ref v4), some (.int v3), some (.int v2), some (.int v1), some (.int v0), none] [] m (fun v m2 => kJ 199 541 [l0, l1, l2, l3] (v.toList ++ [.int v5]) m2 Q) := kJ_call d199_538 (kg_callv 158 4 rfl rfl rfl rfl (Nat.le_of_ble_eq_true rfl) (Nat.le_of_ble_eq_true rfl) (Nat.le_of_ble_eq_true rfl) h rfl)
theorem d199_541 : decode (mB 199) 541 = .ok (.if_icmp .eq 875, 3) := by decide +kernel
theorem s199_541 {l0 l1 l2 l3 : Option Value} {st : List Value} {a b : Int32} {m : kMem} {Q : Option Value → kMem → Prop} : kJ 199 541 [l0, l1, l2, l3] (.int b :: .int a :: st) m Q = (if a = b then kJ 199 1416 [l0, l1, l2, l3] st m Q else kJ 199 544 [l0, l1, l2, l3] st m Q) := kJ_if d199_541 rfl (fun h => kJ_next d199_541 h) (fun h => kJ_next d199_541 h)
theorem d199_544 : decode (mB 199) 544 = .ok (.iconst 0, 1) := by decide +kernel
theorem s199_544 {l0 l1 l2 l3 : Option Value} {st : List Value} {m : kMem} {Q : Option Value → kMem → Prop} : kJ 199 544 [l0, l1, l2, l3] st m Q = kJ 199 545 [l0, l1, l2, l3] (.int (nI 0) :: st) m Q := kJ_next d199_544 rfl
theorem d199_545 : decode (mB 199) 545 = .ok (.ireturn, 1) := by decide +kernel
theorem s199_545 {l0 l1 l2 l3 : Option Value} {x : Int32} {m : kMem} {Q : Option Value → kMem → Prop} (hx : x = 0 ∨ x = 1) : kJ 199 545 [l0, l1, l2, l3] [.int x] m Q = Q (some (.int x)) m := kJ_ret d199_545 (kg_retz (by decide) hx)
theorem d199_546 : decode (mB 199) 546 = .ok (.aload_n 1, 1) := by decide +kernel
theorem s199_546 {l0 l2 l3 : Option Value} {st : List Value} {x : Nat} {m : kMem} {Q : Option Value → kMem → Prop} : kJ 199 546 [l0, some (.ref x), l2, l3] st m Q = kJ 199 547 [l0, some (.ref x), l2, l3] (.ref x :: st) m Q := kJ_next d199_546 rfl
theorem d199_547 : decode (mB 199) 547 = .ok (.aload_n 0, 1) := by decide +kernel
theorem s199_547 {l1 l2 l3 : Option Value} {st : List Value} {x : Nat} {m : kMem} {Q : Option Value → kMem → Prop} : kJ 199 547 [some (.ref x), l1, l2, l3] st m Q = kJ 199 548 [some (.ref x), l1, l2, l3] (.ref x :: st) m Q := kJ_next d199_547 rfl
theorem d199_548 : decode (mB 199) 548 = .ok (.iload_n 3, 1) := by decide +kernel
theorem s199_548 {l0 l1 l2 : Option Value} {st : List Value} {x : Int32} {m : kMem} {Q : Option Value → kMem → Prop} : kJ 199 548 [l0, l1, l2, some (.int x)] st m Q = kJ 199 549 [l0, l1, l2, some (.int x)] (.int x :: st) m Q := kJ_next d199_548 rfl
theorem d199_549 : decode (mB 199) 549 = .ok (.iconst 1, 1) := by decide +kernel
theorem s199_549 {l0 l1 l2 l3 : Option Value} {st : List Value} {m : kMem} {Q : Option Value → kMem → Prop} : kJ 199 549 [l0, l1, l2, l3] st m Q = kJ 199 550 [l0, l1, l2, l3] (.int (nI 1) :: st) m Q := kJ_next d199_549 rfl
theorem d199_550 : decode (mB 199) 550 = .ok (.iadd, 1) := by decide +kernel
theorem s199_550 {l0 l1 l2 l3 : Option Value} {st : List Value} {a b : Int32} {m : kMem} {Q : Option Value → kMem → Prop} : kJ 199 550 [l0, l1, l2, l3] (.int b :: .int a :: st) m Q = kJ 199 551 [l0, l1, l2, l3] (.int (a + b) :: st) m Q := kJ_next d199_550 rfl
theorem d199_551 : decode (mB 199) 551 = .ok (.iaload, 1) := by decide +kernel
theorem s199_551 {l0 l1 l2 l3 : Option Value} {st : List Value} {q : Nat} {i : Int32} {mi : Nat → Nat → Int32} {ml : Nat → Nat → Int64} {mr : Nat → Nat → Option Nat} {nx : Nat} {Q : Option Value → kMem → Prop} (h : kIs nx q 10 = true) : kJ 199 551 [l0, l1, l2, l3] (.int i :: .ref q :: st) (mi, ml, mr, nx) Q = (vp_in i (kAl q) ∧ kJ 199 552 [l0, l1, l2, l3] (.int (mi q i.toNatClampNeg) :: st) (mi, ml, mr, nx) Q) := kg_aldJ d199_551 rfl (kAr_of h)
theorem d199_552 : decode (mB 199) 552 = .ok (.invokevirtual 66, 3) := by decide +kernel
theorem s199_552 {l0 l1 l2 l3 : Option Value} {v0 : Int32} {v1 : Nat} {m : kMem} {Q : Option Value → kMem → Prop} (h : kIs m.2.2.2 v1 4 = true) : kJ 199 552 [l0, l1, l2, l3] [.int v0, .ref v1] m Q = kJ 64 0 [some (.ref v1), some (.int v0), none] [] m (fun v m2 => kJ 199 555 [l0, l1, l2, l3] (v.toList ++ []) m2 Q) := kJ_call d199_552 (kg_callv 64 1 rfl rfl rfl rfl (Nat.le_of_ble_eq_true rfl) (Nat.le_of_ble_eq_true rfl) (Nat.le_of_ble_eq_true rfl) h rfl)
theorem d199_555 : decode (mB 199) 555 = .ok (.aload_n 2, 1) := by decide +kernel
theorem s199_555 {l0 l1 l3 : Option Value} {st : List Value} {x : Nat} {m : kMem} {Q : Option Value → kMem → Prop} : kJ 199 555 [l0, l1, some (.ref x), l3] st m Q = kJ 199 556 [l0, l1, some (.ref x), l3] (.ref x :: st) m Q := kJ_next d199_555 rfl
theorem d199_556 : decode (mB 199) 556 = .ok (.aload_n 0, 1) := by decide +kernel
theorem s199_556 {l1 l2 l3 : Option Value} {st : List Value} {x : Nat} {m : kMem} {Q : Option Value → kMem → Prop} : kJ 199 556 [some (.ref x), l1, l2, l3] st m Q = kJ 199 557 [some (.ref x), l1, l2, l3] (.ref x :: st) m Q := kJ_next d199_556 rfl
theorem d199_557 : decode (mB 199) 557 = .ok (.iload_n 3, 1) := by decide +kernel
theorem s199_557 {l0 l1 l2 : Option Value} {st : List Value} {x : Int32} {m : kMem} {Q : Option Value → kMem → Prop} : kJ 199 557 [l0, l1, l2, some (.int x)] st m Q = kJ 199 558 [l0, l1, l2, some (.int x)] (.int x :: st) m Q := kJ_next d199_557 rfl
theorem d199_558 : decode (mB 199) 558 = .ok (.iconst 1, 1) := by decide +kernel
theorem s199_558 {l0 l1 l2 l3 : Option Value} {st : List Value} {m : kMem} {Q : Option Value → kMem → Prop} : kJ 199 558 [l0, l1, l2, l3] st m Q = kJ 199 559 [l0, l1, l2, l3] (.int (nI 1) :: st) m Q := kJ_next d199_558 rfl
theorem d199_559 : decode (mB 199) 559 = .ok (.iadd, 1) := by decide +kernel
theorem s199_559 {l0 l1 l2 l3 : Option Value} {st : List Value} {a b : Int32} {m : kMem} {Q : Option Value → kMem → Prop} : kJ 199 559 [l0, l1, l2, l3] (.int b :: .int a :: st) m Q = kJ 199 560 [l0, l1, l2, l3] (.int (a + b) :: st) m Q := kJ_next d199_559 rfl
theorem d199_560 : decode (mB 199) 560 = .ok (.iaload, 1) := by decide +kernel
theorem s199_560 {l0 l1 l2 l3 : Option Value} {st : List Value} {q : Nat} {i : Int32} {mi : Nat → Nat → Int32} {ml : Nat → Nat → Int64} {mr : Nat → Nat → Option Nat} {nx : Nat} {Q : Option Value → kMem → Prop} (h : kIs nx q 10 = true) : kJ 199 560 [l0, l1, l2, l3] (.int i :: .ref q :: st) (mi, ml, mr, nx) Q = (vp_in i (kAl q) ∧ kJ 199 561 [l0, l1, l2, l3] (.int (mi q i.toNatClampNeg) :: st) (mi, ml, mr, nx) Q) := kg_aldJ d199_560 rfl (kAr_of h)
theorem d199_561 : decode (mB 199) 561 = .ok (.invokevirtual 69, 3) := by decide +kernel
theorem s199_561 {l0 l1 l2 l3 : Option Value} {v0 : Int32} {v1 : Nat} {v2 : Int32} {m : kMem} {Q : Option Value → kMem → Prop} (h : kIs m.2.2.2 v1 5 = true) : kJ 199 561 [l0, l1, l2, l3] [.int v0, .ref v1, .int v2] m Q = kJ 159 0 [some (.ref v1), some (.int v0)] [] m (fun v m2 => kJ 199 564 [l0, l1, l2, l3] (v.toList ++ [.int v2]) m2 Q) := kJ_call d199_561 (kg_callv 159 1 rfl rfl rfl rfl (Nat.le_of_ble_eq_true rfl) (Nat.le_of_ble_eq_true rfl) (Nat.le_of_ble_eq_true rfl) h rfl)
theorem d199_564 : decode (mB 199) 564 = .ok (.if_icmp .eq 852, 3) := by decide +kernel
theorem s199_564 {l0 l1 l2 l3 : Option Value} {st : List Value} {a b : Int32} {m : kMem} {Q : Option Value → kMem → Prop} : kJ 199 564 [l0, l1, l2, l3] (.int b :: .int a :: st) m Q = (if a = b then kJ 199 1416 [l0, l1, l2, l3] st m Q else kJ 199 567 [l0, l1, l2, l3] st m Q) := kJ_if d199_564 rfl (fun h => kJ_next d199_564 h) (fun h => kJ_next d199_564 h)
theorem d199_567 : decode (mB 199) 567 = .ok (.iconst 0, 1) := by decide +kernel
theorem s199_567 {l0 l1 l2 l3 : Option Value} {st : List Value} {m : kMem} {Q : Option Value → kMem → Prop} : kJ 199 567 [l0, l1, l2, l3] st m Q = kJ 199 568 [l0, l1, l2, l3] (.int (nI 0) :: st) m Q := kJ_next d199_567 rfl
theorem d199_568 : decode (mB 199) 568 = .ok (.ireturn, 1) := by decide +kernel
theorem s199_568 {l0 l1 l2 l3 : Option Value} {x : Int32} {m : kMem} {Q : Option Value → kMem → Prop} (hx : x = 0 ∨ x = 1) : kJ 199 568 [l0, l1, l2, l3] [.int x] m Q = Q (some (.int x)) m := kJ_ret d199_568 (kg_retz (by decide) hx)
theorem d199_569 : decode (mB 199) 569 = .ok (.aload_n 1, 1) := by decide +kernel
theorem s199_569 {l0 l2 l3 : Option Value} {st : List Value} {x : Nat} {m : kMem} {Q : Option Value → kMem → Prop} : kJ 199 569 [l0, some (.ref x), l2, l3] st m Q = kJ 199 570 [l0, some (.ref x), l2, l3] (.ref x :: st) m Q := kJ_next d199_569 rfl
theorem d199_570 : decode (mB 199) 570 = .ok (.aload_n 0, 1) := by decide +kernel
theorem s199_570 {l1 l2 l3 : Option Value} {st : List Value} {x : Nat} {m : kMem} {Q : Option Value → kMem → Prop} : kJ 199 570 [some (.ref x), l1, l2, l3] st m Q = kJ 199 571 [some (.ref x), l1, l2, l3] (.ref x :: st) m Q := kJ_next d199_570 rfl
theorem d199_571 : decode (mB 199) 571 = .ok (.iload_n 3, 1) := by decide +kernel
theorem s199_571 {l0 l1 l2 : Option Value} {st : List Value} {x : Int32} {m : kMem} {Q : Option Value → kMem → Prop} : kJ 199 571 [l0, l1, l2, some (.int x)] st m Q = kJ 199 572 [l0, l1, l2, some (.int x)] (.int x :: st) m Q := kJ_next d199_571 rfl
theorem d199_572 : decode (mB 199) 572 = .ok (.iconst 1, 1) := by decide +kernel
theorem s199_572 {l0 l1 l2 l3 : Option Value} {st : List Value} {m : kMem} {Q : Option Value → kMem → Prop} : kJ 199 572 [l0, l1, l2, l3] st m Q = kJ 199 573 [l0, l1, l2, l3] (.int (nI 1) :: st) m Q := kJ_next d199_572 rfl
theorem d199_573 : decode (mB 199) 573 = .ok (.iadd, 1) := by decide +kernel
theorem s199_573 {l0 l1 l2 l3 : Option Value} {st : List Value} {a b : Int32} {m : kMem} {Q : Option Value → kMem → Prop} : kJ 199 573 [l0, l1, l2, l3] (.int b :: .int a :: st) m Q = kJ 199 574 [l0, l1, l2, l3] (.int (a + b) :: st) m Q := kJ_next d199_573 rfl
theorem d199_574 : decode (mB 199) 574 = .ok (.iaload, 1) := by decide +kernel
theorem s199_574 {l0 l1 l2 l3 : Option Value} {st : List Value} {q : Nat} {i : Int32} {mi : Nat → Nat → Int32} {ml : Nat → Nat → Int64} {mr : Nat → Nat → Option Nat} {nx : Nat} {Q : Option Value → kMem → Prop} (h : kIs nx q 10 = true) : kJ 199 574 [l0, l1, l2, l3] (.int i :: .ref q :: st) (mi, ml, mr, nx) Q = (vp_in i (kAl q) ∧ kJ 199 575 [l0, l1, l2, l3] (.int (mi q i.toNatClampNeg) :: st) (mi, ml, mr, nx) Q) := kg_aldJ d199_574 rfl (kAr_of h)
theorem d199_575 : decode (mB 199) 575 = .ok (.invokevirtual 70, 3) := by decide +kernel
theorem s199_575 {l0 l1 l2 l3 : Option Value} {v0 : Int32} {v1 : Nat} {m : kMem} {Q : Option Value → kMem → Prop} (h : kIs m.2.2.2 v1 4 = true) : kJ 199 575 [l0, l1, l2, l3] [.int v0, .ref v1] m Q = kJ 65 0 [some (.ref v1), some (.int v0), none] [] m (fun v m2 => kJ 199 578 [l0, l1, l2, l3] (v.toList ++ []) m2 Q) := kJ_call d199_575 (kg_callv 65 1 rfl rfl rfl rfl (Nat.le_of_ble_eq_true rfl) (Nat.le_of_ble_eq_true rfl) (Nat.le_of_ble_eq_true rfl) h rfl)
theorem d199_578 : decode (mB 199) 578 = .ok (.aload_n 2, 1) := by decide +kernel
theorem s199_578 {l0 l1 l3 : Option Value} {st : List Value} {x : Nat} {m : kMem} {Q : Option Value → kMem → Prop} : kJ 199 578 [l0, l1, some (.ref x), l3] st m Q = kJ 199 579 [l0, l1, some (.ref x), l3] (.ref x :: st) m Q := kJ_next d199_578 rfl
theorem d199_579 : decode (mB 199) 579 = .ok (.aload_n 0, 1) := by decide +kernel
theorem s199_579 {l1 l2 l3 : Option Value} {st : List Value} {x : Nat} {m : kMem} {Q : Option Value → kMem → Prop} : kJ 199 579 [some (.ref x), l1, l2, l3] st m Q = kJ 199 580 [some (.ref x), l1, l2, l3] (.ref x :: st) m Q := kJ_next d199_579 rfl
theorem d199_580 : decode (mB 199) 580 = .ok (.iload_n 3, 1) := by decide +kernel
theorem s199_580 {l0 l1 l2 : Option Value} {st : List Value} {x : Int32} {m : kMem} {Q : Option Value → kMem → Prop} : kJ 199 580 [l0, l1, l2, some (.int x)] st m Q = kJ 199 581 [l0, l1, l2, some (.int x)] (.int x :: st) m Q := kJ_next d199_580 rfl
theorem d199_581 : decode (mB 199) 581 = .ok (.iconst 1, 1) := by decide +kernel
theorem s199_581 {l0 l1 l2 l3 : Option Value} {st : List Value} {m : kMem} {Q : Option Value → kMem → Prop} : kJ 199 581 [l0, l1, l2, l3] st m Q = kJ 199 582 [l0, l1, l2, l3] (.int (nI 1) :: st) m Q := kJ_next d199_581 rfl
theorem d199_582 : decode (mB 199) 582 = .ok (.iadd, 1) := by decide +kernel
theorem s199_582 {l0 l1 l2 l3 : Option Value} {st : List Value} {a b : Int32} {m : kMem} {Q : Option Value → kMem → Prop} : kJ 199 582 [l0, l1, l2, l3] (.int b :: .int a :: st) m Q = kJ 199 583 [l0, l1, l2, l3] (.int (a + b) :: st) m Q := kJ_next d199_582 rfl
theorem d199_583 : decode (mB 199) 583 = .ok (.iaload, 1) := by decide +kernel
theorem s199_583 {l0 l1 l2 l3 : Option Value} {st : List Value} {q : Nat} {i : Int32} {mi : Nat → Nat → Int32} {ml : Nat → Nat → Int64} {mr : Nat → Nat → Option Nat} {nx : Nat} {Q : Option Value → kMem → Prop} (h : kIs nx q 10 = true) : kJ 199 583 [l0, l1, l2, l3] (.int i :: .ref q :: st) (mi, ml, mr, nx) Q = (vp_in i (kAl q) ∧ kJ 199 584 [l0, l1, l2, l3] (.int (mi q i.toNatClampNeg) :: st) (mi, ml, mr, nx) Q) := kg_aldJ d199_583 rfl (kAr_of h)
theorem d199_584 : decode (mB 199) 584 = .ok (.invokevirtual 73, 3) := by decide +kernel
theorem s199_584 {l0 l1 l2 l3 : Option Value} {v0 : Int32} {v1 : Nat} {v2 : Int32} {m : kMem} {Q : Option Value → kMem → Prop} (h : kIs m.2.2.2 v1 5 = true) : kJ 199 584 [l0, l1, l2, l3] [.int v0, .ref v1, .int v2] m Q = kJ 160 0 [some (.ref v1), some (.int v0)] [] m (fun v m2 => kJ 199 587 [l0, l1, l2, l3] (v.toList ++ [.int v2]) m2 Q) := kJ_call d199_584 (kg_callv 160 1 rfl rfl rfl rfl (Nat.le_of_ble_eq_true rfl) (Nat.le_of_ble_eq_true rfl) (Nat.le_of_ble_eq_true rfl) h rfl)
theorem d199_587 : decode (mB 199) 587 = .ok (.if_icmp .eq 829, 3) := by decide +kernel
theorem s199_587 {l0 l1 l2 l3 : Option Value} {st : List Value} {a b : Int32} {m : kMem} {Q : Option Value → kMem → Prop} : kJ 199 587 [l0, l1, l2, l3] (.int b :: .int a :: st) m Q = (if a = b then kJ 199 1416 [l0, l1, l2, l3] st m Q else kJ 199 590 [l0, l1, l2, l3] st m Q) := kJ_if d199_587 rfl (fun h => kJ_next d199_587 h) (fun h => kJ_next d199_587 h)
theorem d199_590 : decode (mB 199) 590 = .ok (.iconst 0, 1) := by decide +kernel
theorem s199_590 {l0 l1 l2 l3 : Option Value} {st : List Value} {m : kMem} {Q : Option Value → kMem → Prop} : kJ 199 590 [l0, l1, l2, l3] st m Q = kJ 199 591 [l0, l1, l2, l3] (.int (nI 0) :: st) m Q := kJ_next d199_590 rfl
theorem d199_591 : decode (mB 199) 591 = .ok (.ireturn, 1) := by decide +kernel
theorem s199_591 {l0 l1 l2 l3 : Option Value} {x : Int32} {m : kMem} {Q : Option Value → kMem → Prop} (hx : x = 0 ∨ x = 1) : kJ 199 591 [l0, l1, l2, l3] [.int x] m Q = Q (some (.int x)) m := kJ_ret d199_591 (kg_retz (by decide) hx)
theorem d199_592 : decode (mB 199) 592 = .ok (.aload_n 1, 1) := by decide +kernel
theorem s199_592 {l0 l2 l3 : Option Value} {st : List Value} {x : Nat} {m : kMem} {Q : Option Value → kMem → Prop} : kJ 199 592 [l0, some (.ref x), l2, l3] st m Q = kJ 199 593 [l0, some (.ref x), l2, l3] (.ref x :: st) m Q := kJ_next d199_592 rfl
theorem d199_593 : decode (mB 199) 593 = .ok (.aload_n 0, 1) := by decide +kernel
theorem s199_593 {l1 l2 l3 : Option Value} {st : List Value} {x : Nat} {m : kMem} {Q : Option Value → kMem → Prop} : kJ 199 593 [some (.ref x), l1, l2, l3] st m Q = kJ 199 594 [some (.ref x), l1, l2, l3] (.ref x :: st) m Q := kJ_next d199_593 rfl
theorem d199_594 : decode (mB 199) 594 = .ok (.iload_n 3, 1) := by decide +kernel
theorem s199_594 {l0 l1 l2 : Option Value} {st : List Value} {x : Int32} {m : kMem} {Q : Option Value → kMem → Prop} : kJ 199 594 [l0, l1, l2, some (.int x)] st m Q = kJ 199 595 [l0, l1, l2, some (.int x)] (.int x :: st) m Q := kJ_next d199_594 rfl
theorem d199_595 : decode (mB 199) 595 = .ok (.iconst 1, 1) := by decide +kernel
theorem s199_595 {l0 l1 l2 l3 : Option Value} {st : List Value} {m : kMem} {Q : Option Value → kMem → Prop} : kJ 199 595 [l0, l1, l2, l3] st m Q = kJ 199 596 [l0, l1, l2, l3] (.int (nI 1) :: st) m Q := kJ_next d199_595 rfl
theorem d199_596 : decode (mB 199) 596 = .ok (.iadd, 1) := by decide +kernel
theorem s199_596 {l0 l1 l2 l3 : Option Value} {st : List Value} {a b : Int32} {m : kMem} {Q : Option Value → kMem → Prop} : kJ 199 596 [l0, l1, l2, l3] (.int b :: .int a :: st) m Q = kJ 199 597 [l0, l1, l2, l3] (.int (a + b) :: st) m Q := kJ_next d199_596 rfl
theorem d199_597 : decode (mB 199) 597 = .ok (.iaload, 1) := by decide +kernel
theorem s199_597 {l0 l1 l2 l3 : Option Value} {st : List Value} {q : Nat} {i : Int32} {mi : Nat → Nat → Int32} {ml : Nat → Nat → Int64} {mr : Nat → Nat → Option Nat} {nx : Nat} {Q : Option Value → kMem → Prop} (h : kIs nx q 10 = true) : kJ 199 597 [l0, l1, l2, l3] (.int i :: .ref q :: st) (mi, ml, mr, nx) Q = (vp_in i (kAl q) ∧ kJ 199 598 [l0, l1, l2, l3] (.int (mi q i.toNatClampNeg) :: st) (mi, ml, mr, nx) Q) := kg_aldJ d199_597 rfl (kAr_of h)
theorem d199_598 : decode (mB 199) 598 = .ok (.aload_n 0, 1) := by decide +kernel
theorem s199_598 {l1 l2 l3 : Option Value} {st : List Value} {x : Nat} {m : kMem} {Q : Option Value → kMem → Prop} : kJ 199 598 [some (.ref x), l1, l2, l3] st m Q = kJ 199 599 [some (.ref x), l1, l2, l3] (.ref x :: st) m Q := kJ_next d199_598 rfl
theorem d199_599 : decode (mB 199) 599 = .ok (.iload_n 3, 1) := by decide +kernel
theorem s199_599 {l0 l1 l2 : Option Value} {st : List Value} {x : Int32} {m : kMem} {Q : Option Value → kMem → Prop} : kJ 199 599 [l0, l1, l2, some (.int x)] st m Q = kJ 199 600 [l0, l1, l2, some (.int x)] (.int x :: st) m Q := kJ_next d199_599 rfl
theorem d199_600 : decode (mB 199) 600 = .ok (.iconst 2, 1) := by decide +kernel
theorem s199_600 {l0 l1 l2 l3 : Option Value} {st : List Value} {m : kMem} {Q : Option Value → kMem → Prop} : kJ 199 600 [l0, l1, l2, l3] st m Q = kJ 199 601 [l0, l1, l2, l3] (.int (nI 2) :: st) m Q := kJ_next d199_600 rfl
theorem d199_601 : decode (mB 199) 601 = .ok (.iadd, 1) := by decide +kernel
theorem s199_601 {l0 l1 l2 l3 : Option Value} {st : List Value} {a b : Int32} {m : kMem} {Q : Option Value → kMem → Prop} : kJ 199 601 [l0, l1, l2, l3] (.int b :: .int a :: st) m Q = kJ 199 602 [l0, l1, l2, l3] (.int (a + b) :: st) m Q := kJ_next d199_601 rfl
theorem d199_602 : decode (mB 199) 602 = .ok (.iaload, 1) := by decide +kernel
theorem s199_602 {l0 l1 l2 l3 : Option Value} {st : List Value} {q : Nat} {i : Int32} {mi : Nat → Nat → Int32} {ml : Nat → Nat → Int64} {mr : Nat → Nat → Option Nat} {nx : Nat} {Q : Option Value → kMem → Prop} (h : kIs nx q 10 = true) : kJ 199 602 [l0, l1, l2, l3] (.int i :: .ref q :: st) (mi, ml, mr, nx) Q = (vp_in i (kAl q) ∧ kJ 199 603 [l0, l1, l2, l3] (.int (mi q i.toNatClampNeg) :: st) (mi, ml, mr, nx) Q) := kg_aldJ d199_602 rfl (kAr_of h)
theorem d199_603 : decode (mB 199) 603 = .ok (.invokevirtual 74, 3) := by decide +kernel
theorem s199_603 {l0 l1 l2 l3 : Option Value} {v0 : Int32} {v1 : Int32} {v2 : Nat} {m : kMem} {Q : Option Value → kMem → Prop} (h : kIs m.2.2.2 v2 4 = true) : kJ 199 603 [l0, l1, l2, l3] [.int v0, .int v1, .ref v2] m Q = kJ 66 0 [some (.ref v2), some (.int v1), some (.int v0)] [] m (fun v m2 => kJ 199 606 [l0, l1, l2, l3] (v.toList ++ []) m2 Q) := kJ_call d199_603 (kg_callv 66 2 rfl rfl rfl rfl (Nat.le_of_ble_eq_true rfl) (Nat.le_of_ble_eq_true rfl) (Nat.le_of_ble_eq_true rfl) h rfl)
theorem d199_606 : decode (mB 199) 606 = .ok (.aload_n 2, 1) := by decide +kernel
theorem s199_606 {l0 l1 l3 : Option Value} {st : List Value} {x : Nat} {m : kMem} {Q : Option Value → kMem → Prop} : kJ 199 606 [l0, l1, some (.ref x), l3] st m Q = kJ 199 607 [l0, l1, some (.ref x), l3] (.ref x :: st) m Q := kJ_next d199_606 rfl
theorem d199_607 : decode (mB 199) 607 = .ok (.aload_n 0, 1) := by decide +kernel
theorem s199_607 {l1 l2 l3 : Option Value} {st : List Value} {x : Nat} {m : kMem} {Q : Option Value → kMem → Prop} : kJ 199 607 [some (.ref x), l1, l2, l3] st m Q = kJ 199 608 [some (.ref x), l1, l2, l3] (.ref x :: st) m Q := kJ_next d199_607 rfl
theorem d199_608 : decode (mB 199) 608 = .ok (.iload_n 3, 1) := by decide +kernel
theorem s199_608 {l0 l1 l2 : Option Value} {st : List Value} {x : Int32} {m : kMem} {Q : Option Value → kMem → Prop} : kJ 199 608 [l0, l1, l2, some (.int x)] st m Q = kJ 199 609 [l0, l1, l2, some (.int x)] (.int x :: st) m Q := kJ_next d199_608 rfl
theorem d199_609 : decode (mB 199) 609 = .ok (.iconst 1, 1) := by decide +kernel
theorem s199_609 {l0 l1 l2 l3 : Option Value} {st : List Value} {m : kMem} {Q : Option Value → kMem → Prop} : kJ 199 609 [l0, l1, l2, l3] st m Q = kJ 199 610 [l0, l1, l2, l3] (.int (nI 1) :: st) m Q := kJ_next d199_609 rfl
theorem d199_610 : decode (mB 199) 610 = .ok (.iadd, 1) := by decide +kernel
theorem s199_610 {l0 l1 l2 l3 : Option Value} {st : List Value} {a b : Int32} {m : kMem} {Q : Option Value → kMem → Prop} : kJ 199 610 [l0, l1, l2, l3] (.int b :: .int a :: st) m Q = kJ 199 611 [l0, l1, l2, l3] (.int (a + b) :: st) m Q := kJ_next d199_610 rfl
theorem d199_611 : decode (mB 199) 611 = .ok (.iaload, 1) := by decide +kernel
theorem s199_611 {l0 l1 l2 l3 : Option Value} {st : List Value} {q : Nat} {i : Int32} {mi : Nat → Nat → Int32} {ml : Nat → Nat → Int64} {mr : Nat → Nat → Option Nat} {nx : Nat} {Q : Option Value → kMem → Prop} (h : kIs nx q 10 = true) : kJ 199 611 [l0, l1, l2, l3] (.int i :: .ref q :: st) (mi, ml, mr, nx) Q = (vp_in i (kAl q) ∧ kJ 199 612 [l0, l1, l2, l3] (.int (mi q i.toNatClampNeg) :: st) (mi, ml, mr, nx) Q) := kg_aldJ d199_611 rfl (kAr_of h)
theorem d199_612 : decode (mB 199) 612 = .ok (.aload_n 0, 1) := by decide +kernel
theorem s199_612 {l1 l2 l3 : Option Value} {st : List Value} {x : Nat} {m : kMem} {Q : Option Value → kMem → Prop} : kJ 199 612 [some (.ref x), l1, l2, l3] st m Q = kJ 199 613 [some (.ref x), l1, l2, l3] (.ref x :: st) m Q := kJ_next d199_612 rfl
theorem d199_613 : decode (mB 199) 613 = .ok (.iload_n 3, 1) := by decide +kernel
theorem s199_613 {l0 l1 l2 : Option Value} {st : List Value} {x : Int32} {m : kMem} {Q : Option Value → kMem → Prop} : kJ 199 613 [l0, l1, l2, some (.int x)] st m Q = kJ 199 614 [l0, l1, l2, some (.int x)] (.int x :: st) m Q := kJ_next d199_613 rfl
theorem d199_614 : decode (mB 199) 614 = .ok (.iconst 2, 1) := by decide +kernel
theorem s199_614 {l0 l1 l2 l3 : Option Value} {st : List Value} {m : kMem} {Q : Option Value → kMem → Prop} : kJ 199 614 [l0, l1, l2, l3] st m Q = kJ 199 615 [l0, l1, l2, l3] (.int (nI 2) :: st) m Q := kJ_next d199_614 rfl
theorem d199_615 : decode (mB 199) 615 = .ok (.iadd, 1) := by decide +kernel
theorem s199_615 {l0 l1 l2 l3 : Option Value} {st : List Value} {a b : Int32} {m : kMem} {Q : Option Value → kMem → Prop} : kJ 199 615 [l0, l1, l2, l3] (.int b :: .int a :: st) m Q = kJ 199 616 [l0, l1, l2, l3] (.int (a + b) :: st) m Q := kJ_next d199_615 rfl
theorem d199_616 : decode (mB 199) 616 = .ok (.iaload, 1) := by decide +kernel
theorem s199_616 {l0 l1 l2 l3 : Option Value} {st : List Value} {q : Nat} {i : Int32} {mi : Nat → Nat → Int32} {ml : Nat → Nat → Int64} {mr : Nat → Nat → Option Nat} {nx : Nat} {Q : Option Value → kMem → Prop} (h : kIs nx q 10 = true) : kJ 199 616 [l0, l1, l2, l3] (.int i :: .ref q :: st) (mi, ml, mr, nx) Q = (vp_in i (kAl q) ∧ kJ 199 617 [l0, l1, l2, l3] (.int (mi q i.toNatClampNeg) :: st) (mi, ml, mr, nx) Q) := kg_aldJ d199_616 rfl (kAr_of h)
theorem d199_617 : decode (mB 199) 617 = .ok (.invokevirtual 77, 3) := by decide +kernel
theorem s199_617 {l0 l1 l2 l3 : Option Value} {v0 : Int32} {v1 : Int32} {v2 : Nat} {v3 : Int32} {m : kMem} {Q : Option Value → kMem → Prop} (h : kIs m.2.2.2 v2 5 = true) : kJ 199 617 [l0, l1, l2, l3] [.int v0, .int v1, .ref v2, .int v3] m Q = kJ 162 0 [some (.ref v2), some (.int v1), some (.int v0), none, none, none] [] m (fun v m2 => kJ 199 620 [l0, l1, l2, l3] (v.toList ++ [.int v3]) m2 Q) := kJ_call d199_617 (kg_callv 162 2 rfl rfl rfl rfl (Nat.le_of_ble_eq_true rfl) (Nat.le_of_ble_eq_true rfl) (Nat.le_of_ble_eq_true rfl) h rfl)
theorem d199_620 : decode (mB 199) 620 = .ok (.if_icmp .eq 796, 3) := by decide +kernel
theorem s199_620 {l0 l1 l2 l3 : Option Value} {st : List Value} {a b : Int32} {m : kMem} {Q : Option Value → kMem → Prop} : kJ 199 620 [l0, l1, l2, l3] (.int b :: .int a :: st) m Q = (if a = b then kJ 199 1416 [l0, l1, l2, l3] st m Q else kJ 199 623 [l0, l1, l2, l3] st m Q) := kJ_if d199_620 rfl (fun h => kJ_next d199_620 h) (fun h => kJ_next d199_620 h)
theorem d199_623 : decode (mB 199) 623 = .ok (.iconst 0, 1) := by decide +kernel
theorem s199_623 {l0 l1 l2 l3 : Option Value} {st : List Value} {m : kMem} {Q : Option Value → kMem → Prop} : kJ 199 623 [l0, l1, l2, l3] st m Q = kJ 199 624 [l0, l1, l2, l3] (.int (nI 0) :: st) m Q := kJ_next d199_623 rfl
theorem d199_624 : decode (mB 199) 624 = .ok (.ireturn, 1) := by decide +kernel
theorem s199_624 {l0 l1 l2 l3 : Option Value} {x : Int32} {m : kMem} {Q : Option Value → kMem → Prop} (hx : x = 0 ∨ x = 1) : kJ 199 624 [l0, l1, l2, l3] [.int x] m Q = Q (some (.int x)) m := kJ_ret d199_624 (kg_retz (by decide) hx)
theorem d199_625 : decode (mB 199) 625 = .ok (.aload_n 1, 1) := by decide +kernel
theorem s199_625 {l0 l2 l3 : Option Value} {st : List Value} {x : Nat} {m : kMem} {Q : Option Value → kMem → Prop} : kJ 199 625 [l0, some (.ref x), l2, l3] st m Q = kJ 199 626 [l0, some (.ref x), l2, l3] (.ref x :: st) m Q := kJ_next d199_625 rfl
theorem d199_626 : decode (mB 199) 626 = .ok (.aload_n 0, 1) := by decide +kernel
theorem s199_626 {l1 l2 l3 : Option Value} {st : List Value} {x : Nat} {m : kMem} {Q : Option Value → kMem → Prop} : kJ 199 626 [some (.ref x), l1, l2, l3] st m Q = kJ 199 627 [some (.ref x), l1, l2, l3] (.ref x :: st) m Q := kJ_next d199_626 rfl
theorem d199_627 : decode (mB 199) 627 = .ok (.iload_n 3, 1) := by decide +kernel
theorem s199_627 {l0 l1 l2 : Option Value} {st : List Value} {x : Int32} {m : kMem} {Q : Option Value → kMem → Prop} : kJ 199 627 [l0, l1, l2, some (.int x)] st m Q = kJ 199 628 [l0, l1, l2, some (.int x)] (.int x :: st) m Q := kJ_next d199_627 rfl
theorem d199_628 : decode (mB 199) 628 = .ok (.iconst 1, 1) := by decide +kernel
theorem s199_628 {l0 l1 l2 l3 : Option Value} {st : List Value} {m : kMem} {Q : Option Value → kMem → Prop} : kJ 199 628 [l0, l1, l2, l3] st m Q = kJ 199 629 [l0, l1, l2, l3] (.int (nI 1) :: st) m Q := kJ_next d199_628 rfl
theorem d199_629 : decode (mB 199) 629 = .ok (.iadd, 1) := by decide +kernel
theorem s199_629 {l0 l1 l2 l3 : Option Value} {st : List Value} {a b : Int32} {m : kMem} {Q : Option Value → kMem → Prop} : kJ 199 629 [l0, l1, l2, l3] (.int b :: .int a :: st) m Q = kJ 199 630 [l0, l1, l2, l3] (.int (a + b) :: st) m Q := kJ_next d199_629 rfl
theorem d199_630 : decode (mB 199) 630 = .ok (.iaload, 1) := by decide +kernel
theorem s199_630 {l0 l1 l2 l3 : Option Value} {st : List Value} {q : Nat} {i : Int32} {mi : Nat → Nat → Int32} {ml : Nat → Nat → Int64} {mr : Nat → Nat → Option Nat} {nx : Nat} {Q : Option Value → kMem → Prop} (h : kIs nx q 10 = true) : kJ 199 630 [l0, l1, l2, l3] (.int i :: .ref q :: st) (mi, ml, mr, nx) Q = (vp_in i (kAl q) ∧ kJ 199 631 [l0, l1, l2, l3] (.int (mi q i.toNatClampNeg) :: st) (mi, ml, mr, nx) Q) := kg_aldJ d199_630 rfl (kAr_of h)
theorem d199_631 : decode (mB 199) 631 = .ok (.aload_n 0, 1) := by decide +kernel
theorem s199_631 {l1 l2 l3 : Option Value} {st : List Value} {x : Nat} {m : kMem} {Q : Option Value → kMem → Prop} : kJ 199 631 [some (.ref x), l1, l2, l3] st m Q = kJ 199 632 [some (.ref x), l1, l2, l3] (.ref x :: st) m Q := kJ_next d199_631 rfl
theorem d199_632 : decode (mB 199) 632 = .ok (.iload_n 3, 1) := by decide +kernel
theorem s199_632 {l0 l1 l2 : Option Value} {st : List Value} {x : Int32} {m : kMem} {Q : Option Value → kMem → Prop} : kJ 199 632 [l0, l1, l2, some (.int x)] st m Q = kJ 199 633 [l0, l1, l2, some (.int x)] (.int x :: st) m Q := kJ_next d199_632 rfl
theorem d199_633 : decode (mB 199) 633 = .ok (.iconst 2, 1) := by decide +kernel
theorem s199_633 {l0 l1 l2 l3 : Option Value} {st : List Value} {m : kMem} {Q : Option Value → kMem → Prop} : kJ 199 633 [l0, l1, l2, l3] st m Q = kJ 199 634 [l0, l1, l2, l3] (.int (nI 2) :: st) m Q := kJ_next d199_633 rfl
theorem d199_634 : decode (mB 199) 634 = .ok (.iadd, 1) := by decide +kernel
theorem s199_634 {l0 l1 l2 l3 : Option Value} {st : List Value} {a b : Int32} {m : kMem} {Q : Option Value → kMem → Prop} : kJ 199 634 [l0, l1, l2, l3] (.int b :: .int a :: st) m Q = kJ 199 635 [l0, l1, l2, l3] (.int (a + b) :: st) m Q := kJ_next d199_634 rfl
theorem d199_635 : decode (mB 199) 635 = .ok (.iaload, 1) := by decide +kernel
theorem s199_635 {l0 l1 l2 l3 : Option Value} {st : List Value} {q : Nat} {i : Int32} {mi : Nat → Nat → Int32} {ml : Nat → Nat → Int64} {mr : Nat → Nat → Option Nat} {nx : Nat} {Q : Option Value → kMem → Prop} (h : kIs nx q 10 = true) : kJ 199 635 [l0, l1, l2, l3] (.int i :: .ref q :: st) (mi, ml, mr, nx) Q = (vp_in i (kAl q) ∧ kJ 199 636 [l0, l1, l2, l3] (.int (mi q i.toNatClampNeg) :: st) (mi, ml, mr, nx) Q) := kg_aldJ d199_635 rfl (kAr_of h)
theorem d199_636 : decode (mB 199) 636 = .ok (.invokevirtual 78, 3) := by decide +kernel
theorem s199_636 {l0 l1 l2 l3 : Option Value} {v0 : Int32} {v1 : Int32} {v2 : Nat} {m : kMem} {Q : Option Value → kMem → Prop} (h : kIs m.2.2.2 v2 4 = true) : kJ 199 636 [l0, l1, l2, l3] [.int v0, .int v1, .ref v2] m Q = kJ 67 0 [some (.ref v2), some (.int v1), some (.int v0)] [] m (fun v m2 => kJ 199 639 [l0, l1, l2, l3] (v.toList ++ []) m2 Q) := kJ_call d199_636 (kg_callv 67 2 rfl rfl rfl rfl (Nat.le_of_ble_eq_true rfl) (Nat.le_of_ble_eq_true rfl) (Nat.le_of_ble_eq_true rfl) h rfl)
theorem d199_639 : decode (mB 199) 639 = .ok (.aload_n 2, 1) := by decide +kernel
theorem s199_639 {l0 l1 l3 : Option Value} {st : List Value} {x : Nat} {m : kMem} {Q : Option Value → kMem → Prop} : kJ 199 639 [l0, l1, some (.ref x), l3] st m Q = kJ 199 640 [l0, l1, some (.ref x), l3] (.ref x :: st) m Q := kJ_next d199_639 rfl
theorem d199_640 : decode (mB 199) 640 = .ok (.aload_n 0, 1) := by decide +kernel
theorem s199_640 {l1 l2 l3 : Option Value} {st : List Value} {x : Nat} {m : kMem} {Q : Option Value → kMem → Prop} : kJ 199 640 [some (.ref x), l1, l2, l3] st m Q = kJ 199 641 [some (.ref x), l1, l2, l3] (.ref x :: st) m Q := kJ_next d199_640 rfl
theorem d199_641 : decode (mB 199) 641 = .ok (.iload_n 3, 1) := by decide +kernel
theorem s199_641 {l0 l1 l2 : Option Value} {st : List Value} {x : Int32} {m : kMem} {Q : Option Value → kMem → Prop} : kJ 199 641 [l0, l1, l2, some (.int x)] st m Q = kJ 199 642 [l0, l1, l2, some (.int x)] (.int x :: st) m Q := kJ_next d199_641 rfl
theorem d199_642 : decode (mB 199) 642 = .ok (.iconst 1, 1) := by decide +kernel
theorem s199_642 {l0 l1 l2 l3 : Option Value} {st : List Value} {m : kMem} {Q : Option Value → kMem → Prop} : kJ 199 642 [l0, l1, l2, l3] st m Q = kJ 199 643 [l0, l1, l2, l3] (.int (nI 1) :: st) m Q := kJ_next d199_642 rfl
theorem d199_643 : decode (mB 199) 643 = .ok (.iadd, 1) := by decide +kernel
theorem s199_643 {l0 l1 l2 l3 : Option Value} {st : List Value} {a b : Int32} {m : kMem} {Q : Option Value → kMem → Prop} : kJ 199 643 [l0, l1, l2, l3] (.int b :: .int a :: st) m Q = kJ 199 644 [l0, l1, l2, l3] (.int (a + b) :: st) m Q := kJ_next d199_643 rfl
theorem d199_644 : decode (mB 199) 644 = .ok (.iaload, 1) := by decide +kernel
theorem s199_644 {l0 l1 l2 l3 : Option Value} {st : List Value} {q : Nat} {i : Int32} {mi : Nat → Nat → Int32} {ml : Nat → Nat → Int64} {mr : Nat → Nat → Option Nat} {nx : Nat} {Q : Option Value → kMem → Prop} (h : kIs nx q 10 = true) : kJ 199 644 [l0, l1, l2, l3] (.int i :: .ref q :: st) (mi, ml, mr, nx) Q = (vp_in i (kAl q) ∧ kJ 199 645 [l0, l1, l2, l3] (.int (mi q i.toNatClampNeg) :: st) (mi, ml, mr, nx) Q) := kg_aldJ d199_644 rfl (kAr_of h)
theorem d199_645 : decode (mB 199) 645 = .ok (.aload_n 0, 1) := by decide +kernel
theorem s199_645 {l1 l2 l3 : Option Value} {st : List Value} {x : Nat} {m : kMem} {Q : Option Value → kMem → Prop} : kJ 199 645 [some (.ref x), l1, l2, l3] st m Q = kJ 199 646 [some (.ref x), l1, l2, l3] (.ref x :: st) m Q := kJ_next d199_645 rfl
theorem d199_646 : decode (mB 199) 646 = .ok (.iload_n 3, 1) := by decide +kernel
theorem s199_646 {l0 l1 l2 : Option Value} {st : List Value} {x : Int32} {m : kMem} {Q : Option Value → kMem → Prop} : kJ 199 646 [l0, l1, l2, some (.int x)] st m Q = kJ 199 647 [l0, l1, l2, some (.int x)] (.int x :: st) m Q := kJ_next d199_646 rfl
theorem d199_647 : decode (mB 199) 647 = .ok (.iconst 2, 1) := by decide +kernel
theorem s199_647 {l0 l1 l2 l3 : Option Value} {st : List Value} {m : kMem} {Q : Option Value → kMem → Prop} : kJ 199 647 [l0, l1, l2, l3] st m Q = kJ 199 648 [l0, l1, l2, l3] (.int (nI 2) :: st) m Q := kJ_next d199_647 rfl
theorem d199_648 : decode (mB 199) 648 = .ok (.iadd, 1) := by decide +kernel
theorem s199_648 {l0 l1 l2 l3 : Option Value} {st : List Value} {a b : Int32} {m : kMem} {Q : Option Value → kMem → Prop} : kJ 199 648 [l0, l1, l2, l3] (.int b :: .int a :: st) m Q = kJ 199 649 [l0, l1, l2, l3] (.int (a + b) :: st) m Q := kJ_next d199_648 rfl
theorem d199_649 : decode (mB 199) 649 = .ok (.iaload, 1) := by decide +kernel
theorem s199_649 {l0 l1 l2 l3 : Option Value} {st : List Value} {q : Nat} {i : Int32} {mi : Nat → Nat → Int32} {ml : Nat → Nat → Int64} {mr : Nat → Nat → Option Nat} {nx : Nat} {Q : Option Value → kMem → Prop} (h : kIs nx q 10 = true) : kJ 199 649 [l0, l1, l2, l3] (.int i :: .ref q :: st) (mi, ml, mr, nx) Q = (vp_in i (kAl q) ∧ kJ 199 650 [l0, l1, l2, l3] (.int (mi q i.toNatClampNeg) :: st) (mi, ml, mr, nx) Q) := kg_aldJ d199_649 rfl (kAr_of h)
theorem d199_650 : decode (mB 199) 650 = .ok (.invokevirtual 81, 3) := by decide +kernel
theorem s199_650 {l0 l1 l2 l3 : Option Value} {v0 : Int32} {v1 : Int32} {v2 : Nat} {v3 : Int32} {m : kMem} {Q : Option Value → kMem → Prop} (h : kIs m.2.2.2 v2 5 = true) : kJ 199 650 [l0, l1, l2, l3] [.int v0, .int v1, .ref v2, .int v3] m Q = kJ 163 0 [some (.ref v2), some (.int v1), some (.int v0)] [] m (fun v m2 => kJ 199 653 [l0, l1, l2, l3] (v.toList ++ [.int v3]) m2 Q) := kJ_call d199_650 (kg_callv 163 2 rfl rfl rfl rfl (Nat.le_of_ble_eq_true rfl) (Nat.le_of_ble_eq_true rfl) (Nat.le_of_ble_eq_true rfl) h rfl)
theorem d199_653 : decode (mB 199) 653 = .ok (.if_icmp .eq 763, 3) := by decide +kernel
theorem s199_653 {l0 l1 l2 l3 : Option Value} {st : List Value} {a b : Int32} {m : kMem} {Q : Option Value → kMem → Prop} : kJ 199 653 [l0, l1, l2, l3] (.int b :: .int a :: st) m Q = (if a = b then kJ 199 1416 [l0, l1, l2, l3] st m Q else kJ 199 656 [l0, l1, l2, l3] st m Q) := kJ_if d199_653 rfl (fun h => kJ_next d199_653 h) (fun h => kJ_next d199_653 h)
theorem d199_656 : decode (mB 199) 656 = .ok (.iconst 0, 1) := by decide +kernel
theorem s199_656 {l0 l1 l2 l3 : Option Value} {st : List Value} {m : kMem} {Q : Option Value → kMem → Prop} : kJ 199 656 [l0, l1, l2, l3] st m Q = kJ 199 657 [l0, l1, l2, l3] (.int (nI 0) :: st) m Q := kJ_next d199_656 rfl
theorem d199_657 : decode (mB 199) 657 = .ok (.ireturn, 1) := by decide +kernel
theorem s199_657 {l0 l1 l2 l3 : Option Value} {x : Int32} {m : kMem} {Q : Option Value → kMem → Prop} (hx : x = 0 ∨ x = 1) : kJ 199 657 [l0, l1, l2, l3] [.int x] m Q = Q (some (.int x)) m := kJ_ret d199_657 (kg_retz (by decide) hx)
theorem d199_658 : decode (mB 199) 658 = .ok (.aload_n 1, 1) := by decide +kernel
theorem s199_658 {l0 l2 l3 : Option Value} {st : List Value} {x : Nat} {m : kMem} {Q : Option Value → kMem → Prop} : kJ 199 658 [l0, some (.ref x), l2, l3] st m Q = kJ 199 659 [l0, some (.ref x), l2, l3] (.ref x :: st) m Q := kJ_next d199_658 rfl
theorem d199_659 : decode (mB 199) 659 = .ok (.aload_n 0, 1) := by decide +kernel
theorem s199_659 {l1 l2 l3 : Option Value} {st : List Value} {x : Nat} {m : kMem} {Q : Option Value → kMem → Prop} : kJ 199 659 [some (.ref x), l1, l2, l3] st m Q = kJ 199 660 [some (.ref x), l1, l2, l3] (.ref x :: st) m Q := kJ_next d199_659 rfl
theorem d199_660 : decode (mB 199) 660 = .ok (.iload_n 3, 1) := by decide +kernel
theorem s199_660 {l0 l1 l2 : Option Value} {st : List Value} {x : Int32} {m : kMem} {Q : Option Value → kMem → Prop} : kJ 199 660 [l0, l1, l2, some (.int x)] st m Q = kJ 199 661 [l0, l1, l2, some (.int x)] (.int x :: st) m Q := kJ_next d199_660 rfl
theorem d199_661 : decode (mB 199) 661 = .ok (.iconst 1, 1) := by decide +kernel
theorem s199_661 {l0 l1 l2 l3 : Option Value} {st : List Value} {m : kMem} {Q : Option Value → kMem → Prop} : kJ 199 661 [l0, l1, l2, l3] st m Q = kJ 199 662 [l0, l1, l2, l3] (.int (nI 1) :: st) m Q := kJ_next d199_661 rfl
theorem d199_662 : decode (mB 199) 662 = .ok (.iadd, 1) := by decide +kernel
theorem s199_662 {l0 l1 l2 l3 : Option Value} {st : List Value} {a b : Int32} {m : kMem} {Q : Option Value → kMem → Prop} : kJ 199 662 [l0, l1, l2, l3] (.int b :: .int a :: st) m Q = kJ 199 663 [l0, l1, l2, l3] (.int (a + b) :: st) m Q := kJ_next d199_662 rfl
theorem d199_663 : decode (mB 199) 663 = .ok (.iaload, 1) := by decide +kernel
theorem s199_663 {l0 l1 l2 l3 : Option Value} {st : List Value} {q : Nat} {i : Int32} {mi : Nat → Nat → Int32} {ml : Nat → Nat → Int64} {mr : Nat → Nat → Option Nat} {nx : Nat} {Q : Option Value → kMem → Prop} (h : kIs nx q 10 = true) : kJ 199 663 [l0, l1, l2, l3] (.int i :: .ref q :: st) (mi, ml, mr, nx) Q = (vp_in i (kAl q) ∧ kJ 199 664 [l0, l1, l2, l3] (.int (mi q i.toNatClampNeg) :: st) (mi, ml, mr, nx) Q) := kg_aldJ d199_663 rfl (kAr_of h)
theorem d199_664 : decode (mB 199) 664 = .ok (.invokevirtual 82, 3) := by decide +kernel
theorem s199_664 {l0 l1 l2 l3 : Option Value} {v0 : Int32} {v1 : Nat} {m : kMem} {Q : Option Value → kMem → Prop} (h : kIs m.2.2.2 v1 4 = true) : kJ 199 664 [l0, l1, l2, l3] [.int v0, .ref v1] m Q = kJ 68 0 [some (.ref v1), some (.int v0), none] [] m (fun v m2 => kJ 199 667 [l0, l1, l2, l3] (v.toList ++ []) m2 Q) := kJ_call d199_664 (kg_callv 68 1 rfl rfl rfl rfl (Nat.le_of_ble_eq_true rfl) (Nat.le_of_ble_eq_true rfl) (Nat.le_of_ble_eq_true rfl) h rfl)
theorem d199_667 : decode (mB 199) 667 = .ok (.aload_n 2, 1) := by decide +kernel
theorem s199_667 {l0 l1 l3 : Option Value} {st : List Value} {x : Nat} {m : kMem} {Q : Option Value → kMem → Prop} : kJ 199 667 [l0, l1, some (.ref x), l3] st m Q = kJ 199 668 [l0, l1, some (.ref x), l3] (.ref x :: st) m Q := kJ_next d199_667 rfl
theorem d199_668 : decode (mB 199) 668 = .ok (.aload_n 0, 1) := by decide +kernel
theorem s199_668 {l1 l2 l3 : Option Value} {st : List Value} {x : Nat} {m : kMem} {Q : Option Value → kMem → Prop} : kJ 199 668 [some (.ref x), l1, l2, l3] st m Q = kJ 199 669 [some (.ref x), l1, l2, l3] (.ref x :: st) m Q := kJ_next d199_668 rfl
theorem d199_669 : decode (mB 199) 669 = .ok (.iload_n 3, 1) := by decide +kernel
theorem s199_669 {l0 l1 l2 : Option Value} {st : List Value} {x : Int32} {m : kMem} {Q : Option Value → kMem → Prop} : kJ 199 669 [l0, l1, l2, some (.int x)] st m Q = kJ 199 670 [l0, l1, l2, some (.int x)] (.int x :: st) m Q := kJ_next d199_669 rfl
theorem d199_670 : decode (mB 199) 670 = .ok (.iconst 1, 1) := by decide +kernel
theorem s199_670 {l0 l1 l2 l3 : Option Value} {st : List Value} {m : kMem} {Q : Option Value → kMem → Prop} : kJ 199 670 [l0, l1, l2, l3] st m Q = kJ 199 671 [l0, l1, l2, l3] (.int (nI 1) :: st) m Q := kJ_next d199_670 rfl
theorem d199_671 : decode (mB 199) 671 = .ok (.iadd, 1) := by decide +kernel
theorem s199_671 {l0 l1 l2 l3 : Option Value} {st : List Value} {a b : Int32} {m : kMem} {Q : Option Value → kMem → Prop} : kJ 199 671 [l0, l1, l2, l3] (.int b :: .int a :: st) m Q = kJ 199 672 [l0, l1, l2, l3] (.int (a + b) :: st) m Q := kJ_next d199_671 rfl
theorem d199_672 : decode (mB 199) 672 = .ok (.iaload, 1) := by decide +kernel
theorem s199_672 {l0 l1 l2 l3 : Option Value} {st : List Value} {q : Nat} {i : Int32} {mi : Nat → Nat → Int32} {ml : Nat → Nat → Int64} {mr : Nat → Nat → Option Nat} {nx : Nat} {Q : Option Value → kMem → Prop} (h : kIs nx q 10 = true) : kJ 199 672 [l0, l1, l2, l3] (.int i :: .ref q :: st) (mi, ml, mr, nx) Q = (vp_in i (kAl q) ∧ kJ 199 673 [l0, l1, l2, l3] (.int (mi q i.toNatClampNeg) :: st) (mi, ml, mr, nx) Q) := kg_aldJ d199_672 rfl (kAr_of h)
theorem d199_673 : decode (mB 199) 673 = .ok (.invokevirtual 85, 3) := by decide +kernel
theorem s199_673 {l0 l1 l2 l3 : Option Value} {v0 : Int32} {v1 : Nat} {v2 : Int32} {m : kMem} {Q : Option Value → kMem → Prop} (h : kIs m.2.2.2 v1 5 = true) : kJ 199 673 [l0, l1, l2, l3] [.int v0, .ref v1, .int v2] m Q = kJ 164 0 [some (.ref v1), some (.int v0), none] [] m (fun v m2 => kJ 199 676 [l0, l1, l2, l3] (v.toList ++ [.int v2]) m2 Q) := kJ_call d199_673 (kg_callv 164 1 rfl rfl rfl rfl (Nat.le_of_ble_eq_true rfl) (Nat.le_of_ble_eq_true rfl) (Nat.le_of_ble_eq_true rfl) h rfl)
theorem d199_676 : decode (mB 199) 676 = .ok (.if_icmp .eq 740, 3) := by decide +kernel
theorem s199_676 {l0 l1 l2 l3 : Option Value} {st : List Value} {a b : Int32} {m : kMem} {Q : Option Value → kMem → Prop} : kJ 199 676 [l0, l1, l2, l3] (.int b :: .int a :: st) m Q = (if a = b then kJ 199 1416 [l0, l1, l2, l3] st m Q else kJ 199 679 [l0, l1, l2, l3] st m Q) := kJ_if d199_676 rfl (fun h => kJ_next d199_676 h) (fun h => kJ_next d199_676 h)
theorem d199_679 : decode (mB 199) 679 = .ok (.iconst 0, 1) := by decide +kernel
theorem s199_679 {l0 l1 l2 l3 : Option Value} {st : List Value} {m : kMem} {Q : Option Value → kMem → Prop} : kJ 199 679 [l0, l1, l2, l3] st m Q = kJ 199 680 [l0, l1, l2, l3] (.int (nI 0) :: st) m Q := kJ_next d199_679 rfl
theorem d199_680 : decode (mB 199) 680 = .ok (.ireturn, 1) := by decide +kernel
theorem s199_680 {l0 l1 l2 l3 : Option Value} {x : Int32} {m : kMem} {Q : Option Value → kMem → Prop} (hx : x = 0 ∨ x = 1) : kJ 199 680 [l0, l1, l2, l3] [.int x] m Q = Q (some (.int x)) m := kJ_ret d199_680 (kg_retz (by decide) hx)
theorem d199_681 : decode (mB 199) 681 = .ok (.aload_n 1, 1) := by decide +kernel
theorem s199_681 {l0 l2 l3 : Option Value} {st : List Value} {x : Nat} {m : kMem} {Q : Option Value → kMem → Prop} : kJ 199 681 [l0, some (.ref x), l2, l3] st m Q = kJ 199 682 [l0, some (.ref x), l2, l3] (.ref x :: st) m Q := kJ_next d199_681 rfl
theorem d199_682 : decode (mB 199) 682 = .ok (.aload_n 0, 1) := by decide +kernel
theorem s199_682 {l1 l2 l3 : Option Value} {st : List Value} {x : Nat} {m : kMem} {Q : Option Value → kMem → Prop} : kJ 199 682 [some (.ref x), l1, l2, l3] st m Q = kJ 199 683 [some (.ref x), l1, l2, l3] (.ref x :: st) m Q := kJ_next d199_682 rfl
theorem d199_683 : decode (mB 199) 683 = .ok (.iload_n 3, 1) := by decide +kernel
theorem s199_683 {l0 l1 l2 : Option Value} {st : List Value} {x : Int32} {m : kMem} {Q : Option Value → kMem → Prop} : kJ 199 683 [l0, l1, l2, some (.int x)] st m Q = kJ 199 684 [l0, l1, l2, some (.int x)] (.int x :: st) m Q := kJ_next d199_683 rfl
theorem d199_684 : decode (mB 199) 684 = .ok (.iconst 1, 1) := by decide +kernel
theorem s199_684 {l0 l1 l2 l3 : Option Value} {st : List Value} {m : kMem} {Q : Option Value → kMem → Prop} : kJ 199 684 [l0, l1, l2, l3] st m Q = kJ 199 685 [l0, l1, l2, l3] (.int (nI 1) :: st) m Q := kJ_next d199_684 rfl
theorem d199_685 : decode (mB 199) 685 = .ok (.iadd, 1) := by decide +kernel
theorem s199_685 {l0 l1 l2 l3 : Option Value} {st : List Value} {a b : Int32} {m : kMem} {Q : Option Value → kMem → Prop} : kJ 199 685 [l0, l1, l2, l3] (.int b :: .int a :: st) m Q = kJ 199 686 [l0, l1, l2, l3] (.int (a + b) :: st) m Q := kJ_next d199_685 rfl
theorem d199_686 : decode (mB 199) 686 = .ok (.iaload, 1) := by decide +kernel
theorem s199_686 {l0 l1 l2 l3 : Option Value} {st : List Value} {q : Nat} {i : Int32} {mi : Nat → Nat → Int32} {ml : Nat → Nat → Int64} {mr : Nat → Nat → Option Nat} {nx : Nat} {Q : Option Value → kMem → Prop} (h : kIs nx q 10 = true) : kJ 199 686 [l0, l1, l2, l3] (.int i :: .ref q :: st) (mi, ml, mr, nx) Q = (vp_in i (kAl q) ∧ kJ 199 687 [l0, l1, l2, l3] (.int (mi q i.toNatClampNeg) :: st) (mi, ml, mr, nx) Q) := kg_aldJ d199_686 rfl (kAr_of h)
theorem d199_687 : decode (mB 199) 687 = .ok (.aload_n 0, 1) := by decide +kernel
theorem s199_687 {l1 l2 l3 : Option Value} {st : List Value} {x : Nat} {m : kMem} {Q : Option Value → kMem → Prop} : kJ 199 687 [some (.ref x), l1, l2, l3] st m Q = kJ 199 688 [some (.ref x), l1, l2, l3] (.ref x :: st) m Q := kJ_next d199_687 rfl
theorem d199_688 : decode (mB 199) 688 = .ok (.iload_n 3, 1) := by decide +kernel
theorem s199_688 {l0 l1 l2 : Option Value} {st : List Value} {x : Int32} {m : kMem} {Q : Option Value → kMem → Prop} : kJ 199 688 [l0, l1, l2, some (.int x)] st m Q = kJ 199 689 [l0, l1, l2, some (.int x)] (.int x :: st) m Q := kJ_next d199_688 rfl
theorem d199_689 : decode (mB 199) 689 = .ok (.iconst 2, 1) := by decide +kernel
theorem s199_689 {l0 l1 l2 l3 : Option Value} {st : List Value} {m : kMem} {Q : Option Value → kMem → Prop} : kJ 199 689 [l0, l1, l2, l3] st m Q = kJ 199 690 [l0, l1, l2, l3] (.int (nI 2) :: st) m Q := kJ_next d199_689 rfl
theorem d199_690 : decode (mB 199) 690 = .ok (.iadd, 1) := by decide +kernel
theorem s199_690 {l0 l1 l2 l3 : Option Value} {st : List Value} {a b : Int32} {m : kMem} {Q : Option Value → kMem → Prop} : kJ 199 690 [l0, l1, l2, l3] (.int b :: .int a :: st) m Q = kJ 199 691 [l0, l1, l2, l3] (.int (a + b) :: st) m Q := kJ_next d199_690 rfl
theorem d199_691 : decode (mB 199) 691 = .ok (.iaload, 1) := by decide +kernel
theorem s199_691 {l0 l1 l2 l3 : Option Value} {st : List Value} {q : Nat} {i : Int32} {mi : Nat → Nat → Int32} {ml : Nat → Nat → Int64} {mr : Nat → Nat → Option Nat} {nx : Nat} {Q : Option Value → kMem → Prop} (h : kIs nx q 10 = true) : kJ 199 691 [l0, l1, l2, l3] (.int i :: .ref q :: st) (mi, ml, mr, nx) Q = (vp_in i (kAl q) ∧ kJ 199 692 [l0, l1, l2, l3] (.int (mi q i.toNatClampNeg) :: st) (mi, ml, mr, nx) Q) := kg_aldJ d199_691 rfl (kAr_of h)
theorem d199_692 : decode (mB 199) 692 = .ok (.aload_n 0, 1) := by decide +kernel
theorem s199_692 {l1 l2 l3 : Option Value} {st : List Value} {x : Nat} {m : kMem} {Q : Option Value → kMem → Prop} : kJ 199 692 [some (.ref x), l1, l2, l3] st m Q = kJ 199 693 [some (.ref x), l1, l2, l3] (.ref x :: st) m Q := kJ_next d199_692 rfl
theorem d199_693 : decode (mB 199) 693 = .ok (.iload_n 3, 1) := by decide +kernel
theorem s199_693 {l0 l1 l2 : Option Value} {st : List Value} {x : Int32} {m : kMem} {Q : Option Value → kMem → Prop} : kJ 199 693 [l0, l1, l2, some (.int x)] st m Q = kJ 199 694 [l0, l1, l2, some (.int x)] (.int x :: st) m Q := kJ_next d199_693 rfl
theorem d199_694 : decode (mB 199) 694 = .ok (.iconst 3, 1) := by decide +kernel
theorem s199_694 {l0 l1 l2 l3 : Option Value} {st : List Value} {m : kMem} {Q : Option Value → kMem → Prop} : kJ 199 694 [l0, l1, l2, l3] st m Q = kJ 199 695 [l0, l1, l2, l3] (.int (nI 3) :: st) m Q := kJ_next d199_694 rfl
theorem d199_695 : decode (mB 199) 695 = .ok (.iadd, 1) := by decide +kernel
theorem s199_695 {l0 l1 l2 l3 : Option Value} {st : List Value} {a b : Int32} {m : kMem} {Q : Option Value → kMem → Prop} : kJ 199 695 [l0, l1, l2, l3] (.int b :: .int a :: st) m Q = kJ 199 696 [l0, l1, l2, l3] (.int (a + b) :: st) m Q := kJ_next d199_695 rfl
theorem d199_696 : decode (mB 199) 696 = .ok (.iaload, 1) := by decide +kernel
theorem s199_696 {l0 l1 l2 l3 : Option Value} {st : List Value} {q : Nat} {i : Int32} {mi : Nat → Nat → Int32} {ml : Nat → Nat → Int64} {mr : Nat → Nat → Option Nat} {nx : Nat} {Q : Option Value → kMem → Prop} (h : kIs nx q 10 = true) : kJ 199 696 [l0, l1, l2, l3] (.int i :: .ref q :: st) (mi, ml, mr, nx) Q = (vp_in i (kAl q) ∧ kJ 199 697 [l0, l1, l2, l3] (.int (mi q i.toNatClampNeg) :: st) (mi, ml, mr, nx) Q) := kg_aldJ d199_696 rfl (kAr_of h)
theorem d199_697 : decode (mB 199) 697 = .ok (.invokevirtual 86, 3) := by decide +kernel
theorem s199_697 {l0 l1 l2 l3 : Option Value} {v0 : Int32} {v1 : Int32} {v2 : Int32} {v3 : Nat} {m : kMem} {Q : Option Value → kMem → Prop} (h : kIs m.2.2.2 v3 4 = true) : kJ 199 697 [l0, l1, l2, l3] [.int v0, .int v1, .int v2, .ref v3] m Q = kJ 69 0 [some (.ref v3), some (.int v2), some (.int v1), some (.int v0), none] [] m (fun v m2 => kJ 199 700 [l0, l1, l2, l3] (v.toList ++ []) m2 Q) := kJ_call d199_697 (kg_callv 69 3 rfl rfl rfl rfl (Nat.le_of_ble_eq_true rfl) (Nat.le_of_ble_eq_true rfl) (Nat.le_of_ble_eq_true rfl) h rfl)
theorem d199_700 : decode (mB 199) 700 = .ok (.aload_n 2, 1) := by decide +kernel
theorem s199_700 {l0 l1 l3 : Option Value} {st : List Value} {x : Nat} {m : kMem} {Q : Option Value → kMem → Prop} : kJ 199 700 [l0, l1, some (.ref x), l3] st m Q = kJ 199 701 [l0, l1, some (.ref x), l3] (.ref x :: st) m Q := kJ_next d199_700 rfl
theorem d199_701 : decode (mB 199) 701 = .ok (.aload_n 0, 1) := by decide +kernel
theorem s199_701 {l1 l2 l3 : Option Value} {st : List Value} {x : Nat} {m : kMem} {Q : Option Value → kMem → Prop} : kJ 199 701 [some (.ref x), l1, l2, l3] st m Q = kJ 199 702 [some (.ref x), l1, l2, l3] (.ref x :: st) m Q := kJ_next d199_701 rfl
theorem d199_702 : decode (mB 199) 702 = .ok (.iload_n 3, 1) := by decide +kernel
theorem s199_702 {l0 l1 l2 : Option Value} {st : List Value} {x : Int32} {m : kMem} {Q : Option Value → kMem → Prop} : kJ 199 702 [l0, l1, l2, some (.int x)] st m Q = kJ 199 703 [l0, l1, l2, some (.int x)] (.int x :: st) m Q := kJ_next d199_702 rfl
theorem d199_703 : decode (mB 199) 703 = .ok (.iconst 1, 1) := by decide +kernel
theorem s199_703 {l0 l1 l2 l3 : Option Value} {st : List Value} {m : kMem} {Q : Option Value → kMem → Prop} : kJ 199 703 [l0, l1, l2, l3] st m Q = kJ 199 704 [l0, l1, l2, l3] (.int (nI 1) :: st) m Q := kJ_next d199_703 rfl
theorem d199_704 : decode (mB 199) 704 = .ok (.iadd, 1) := by decide +kernel
theorem s199_704 {l0 l1 l2 l3 : Option Value} {st : List Value} {a b : Int32} {m : kMem} {Q : Option Value → kMem → Prop} : kJ 199 704 [l0, l1, l2, l3] (.int b :: .int a :: st) m Q = kJ 199 705 [l0, l1, l2, l3] (.int (a + b) :: st) m Q := kJ_next d199_704 rfl
theorem d199_705 : decode (mB 199) 705 = .ok (.iaload, 1) := by decide +kernel
theorem s199_705 {l0 l1 l2 l3 : Option Value} {st : List Value} {q : Nat} {i : Int32} {mi : Nat → Nat → Int32} {ml : Nat → Nat → Int64} {mr : Nat → Nat → Option Nat} {nx : Nat} {Q : Option Value → kMem → Prop} (h : kIs nx q 10 = true) : kJ 199 705 [l0, l1, l2, l3] (.int i :: .ref q :: st) (mi, ml, mr, nx) Q = (vp_in i (kAl q) ∧ kJ 199 706 [l0, l1, l2, l3] (.int (mi q i.toNatClampNeg) :: st) (mi, ml, mr, nx) Q) := kg_aldJ d199_705 rfl (kAr_of h)
theorem d199_706 : decode (mB 199) 706 = .ok (.aload_n 0, 1) := by decide +kernel
theorem s199_706 {l1 l2 l3 : Option Value} {st : List Value} {x : Nat} {m : kMem} {Q : Option Value → kMem → Prop} : kJ 199 706 [some (.ref x), l1, l2, l3] st m Q = kJ 199 707 [some (.ref x), l1, l2, l3] (.ref x :: st) m Q := kJ_next d199_706 rfl
theorem d199_707 : decode (mB 199) 707 = .ok (.iload_n 3, 1) := by decide +kernel
theorem s199_707 {l0 l1 l2 : Option Value} {st : List Value} {x : Int32} {m : kMem} {Q : Option Value → kMem → Prop} : kJ 199 707 [l0, l1, l2, some (.int x)] st m Q = kJ 199 708 [l0, l1, l2, some (.int x)] (.int x :: st) m Q := kJ_next d199_707 rfl
theorem d199_708 : decode (mB 199) 708 = .ok (.iconst 2, 1) := by decide +kernel
theorem s199_708 {l0 l1 l2 l3 : Option Value} {st : List Value} {m : kMem} {Q : Option Value → kMem → Prop} : kJ 199 708 [l0, l1, l2, l3] st m Q = kJ 199 709 [l0, l1, l2, l3] (.int (nI 2) :: st) m Q := kJ_next d199_708 rfl
theorem d199_709 : decode (mB 199) 709 = .ok (.iadd, 1) := by decide +kernel
theorem s199_709 {l0 l1 l2 l3 : Option Value} {st : List Value} {a b : Int32} {m : kMem} {Q : Option Value → kMem → Prop} : kJ 199 709 [l0, l1, l2, l3] (.int b :: .int a :: st) m Q = kJ 199 710 [l0, l1, l2, l3] (.int (a + b) :: st) m Q := kJ_next d199_709 rfl
theorem d199_710 : decode (mB 199) 710 = .ok (.iaload, 1) := by decide +kernel
theorem s199_710 {l0 l1 l2 l3 : Option Value} {st : List Value} {q : Nat} {i : Int32} {mi : Nat → Nat → Int32} {ml : Nat → Nat → Int64} {mr : Nat → Nat → Option Nat} {nx : Nat} {Q : Option Value → kMem → Prop} (h : kIs nx q 10 = true) : kJ 199 710 [l0, l1, l2, l3] (.int i :: .ref q :: st) (mi, ml, mr, nx) Q = (vp_in i (kAl q) ∧ kJ 199 711 [l0, l1, l2, l3] (.int (mi q i.toNatClampNeg) :: st) (mi, ml, mr, nx) Q) := kg_aldJ d199_710 rfl (kAr_of h)
theorem d199_711 : decode (mB 199) 711 = .ok (.aload_n 0, 1) := by decide +kernel
theorem s199_711 {l1 l2 l3 : Option Value} {st : List Value} {x : Nat} {m : kMem} {Q : Option Value → kMem → Prop} : kJ 199 711 [some (.ref x), l1, l2, l3] st m Q = kJ 199 712 [some (.ref x), l1, l2, l3] (.ref x :: st) m Q := kJ_next d199_711 rfl
theorem d199_712 : decode (mB 199) 712 = .ok (.iload_n 3, 1) := by decide +kernel
theorem s199_712 {l0 l1 l2 : Option Value} {st : List Value} {x : Int32} {m : kMem} {Q : Option Value → kMem → Prop} : kJ 199 712 [l0, l1, l2, some (.int x)] st m Q = kJ 199 713 [l0, l1, l2, some (.int x)] (.int x :: st) m Q := kJ_next d199_712 rfl
theorem d199_713 : decode (mB 199) 713 = .ok (.iconst 3, 1) := by decide +kernel
theorem s199_713 {l0 l1 l2 l3 : Option Value} {st : List Value} {m : kMem} {Q : Option Value → kMem → Prop} : kJ 199 713 [l0, l1, l2, l3] st m Q = kJ 199 714 [l0, l1, l2, l3] (.int (nI 3) :: st) m Q := kJ_next d199_713 rfl
theorem d199_714 : decode (mB 199) 714 = .ok (.iadd, 1) := by decide +kernel
theorem s199_714 {l0 l1 l2 l3 : Option Value} {st : List Value} {a b : Int32} {m : kMem} {Q : Option Value → kMem → Prop} : kJ 199 714 [l0, l1, l2, l3] (.int b :: .int a :: st) m Q = kJ 199 715 [l0, l1, l2, l3] (.int (a + b) :: st) m Q := kJ_next d199_714 rfl
theorem d199_715 : decode (mB 199) 715 = .ok (.iaload, 1) := by decide +kernel
theorem s199_715 {l0 l1 l2 l3 : Option Value} {st : List Value} {q : Nat} {i : Int32} {mi : Nat → Nat → Int32} {ml : Nat → Nat → Int64} {mr : Nat → Nat → Option Nat} {nx : Nat} {Q : Option Value → kMem → Prop} (h : kIs nx q 10 = true) : kJ 199 715 [l0, l1, l2, l3] (.int i :: .ref q :: st) (mi, ml, mr, nx) Q = (vp_in i (kAl q) ∧ kJ 199 716 [l0, l1, l2, l3] (.int (mi q i.toNatClampNeg) :: st) (mi, ml, mr, nx) Q) := kg_aldJ d199_715 rfl (kAr_of h)
theorem d199_716 : decode (mB 199) 716 = .ok (.invokevirtual 89, 3) := by decide +kernel
theorem s199_716 {l0 l1 l2 l3 : Option Value} {v0 : Int32} {v1 : Int32} {v2 : Int32} {v3 : Nat} {v4 : Int32} {m : kMem} {Q : Option Value → kMem → Prop} (h : kIs m.2.2.2 v3 5 = true) : kJ 199 716 [l0, l1, l2, l3] [.int v0, .int v1, .int v2, .ref v3, .int v4] m Q = kJ 169 0 [some (.ref v3), some (.int v2), some (.int v1), some (.int v0)] [] m (fun v m2 => kJ 199 719 [l0, l1, l2, l3] (v.toList ++ [.int v4]) m2 Q) := kJ_call d199_716 (kg_callv 169 3 rfl rfl rfl rfl (Nat.le_of_ble_eq_true rfl) (Nat.le_of_ble_eq_true rfl) (Nat.le_of_ble_eq_true rfl) h rfl)
theorem d199_719 : decode (mB 199) 719 = .ok (.if_icmp .eq 697, 3) := by decide +kernel
theorem s199_719 {l0 l1 l2 l3 : Option Value} {st : List Value} {a b : Int32} {m : kMem} {Q : Option Value → kMem → Prop} : kJ 199 719 [l0, l1, l2, l3] (.int b :: .int a :: st) m Q = (if a = b then kJ 199 1416 [l0, l1, l2, l3] st m Q else kJ 199 722 [l0, l1, l2, l3] st m Q) := kJ_if d199_719 rfl (fun h => kJ_next d199_719 h) (fun h => kJ_next d199_719 h)
theorem d199_722 : decode (mB 199) 722 = .ok (.iconst 0, 1) := by decide +kernel
theorem s199_722 {l0 l1 l2 l3 : Option Value} {st : List Value} {m : kMem} {Q : Option Value → kMem → Prop} : kJ 199 722 [l0, l1, l2, l3] st m Q = kJ 199 723 [l0, l1, l2, l3] (.int (nI 0) :: st) m Q := kJ_next d199_722 rfl
theorem d199_723 : decode (mB 199) 723 = .ok (.ireturn, 1) := by decide +kernel
theorem s199_723 {l0 l1 l2 l3 : Option Value} {x : Int32} {m : kMem} {Q : Option Value → kMem → Prop} (hx : x = 0 ∨ x = 1) : kJ 199 723 [l0, l1, l2, l3] [.int x] m Q = Q (some (.int x)) m := kJ_ret d199_723 (kg_retz (by decide) hx)
theorem d199_724 : decode (mB 199) 724 = .ok (.aload_n 1, 1) := by decide +kernel
theorem s199_724 {l0 l2 l3 : Option Value} {st : List Value} {x : Nat} {m : kMem} {Q : Option Value → kMem → Prop} : kJ 199 724 [l0, some (.ref x), l2, l3] st m Q = kJ 199 725 [l0, some (.ref x), l2, l3] (.ref x :: st) m Q := kJ_next d199_724 rfl
theorem d199_725 : decode (mB 199) 725 = .ok (.aload_n 0, 1) := by decide +kernel
theorem s199_725 {l1 l2 l3 : Option Value} {st : List Value} {x : Nat} {m : kMem} {Q : Option Value → kMem → Prop} : kJ 199 725 [some (.ref x), l1, l2, l3] st m Q = kJ 199 726 [some (.ref x), l1, l2, l3] (.ref x :: st) m Q := kJ_next d199_725 rfl
theorem d199_726 : decode (mB 199) 726 = .ok (.iload_n 3, 1) := by decide +kernel
theorem s199_726 {l0 l1 l2 : Option Value} {st : List Value} {x : Int32} {m : kMem} {Q : Option Value → kMem → Prop} : kJ 199 726 [l0, l1, l2, some (.int x)] st m Q = kJ 199 727 [l0, l1, l2, some (.int x)] (.int x :: st) m Q := kJ_next d199_726 rfl
theorem d199_727 : decode (mB 199) 727 = .ok (.iconst 1, 1) := by decide +kernel
theorem s199_727 {l0 l1 l2 l3 : Option Value} {st : List Value} {m : kMem} {Q : Option Value → kMem → Prop} : kJ 199 727 [l0, l1, l2, l3] st m Q = kJ 199 728 [l0, l1, l2, l3] (.int (nI 1) :: st) m Q := kJ_next d199_727 rfl
theorem d199_728 : decode (mB 199) 728 = .ok (.iadd, 1) := by decide +kernel
theorem s199_728 {l0 l1 l2 l3 : Option Value} {st : List Value} {a b : Int32} {m : kMem} {Q : Option Value → kMem → Prop} : kJ 199 728 [l0, l1, l2, l3] (.int b :: .int a :: st) m Q = kJ 199 729 [l0, l1, l2, l3] (.int (a + b) :: st) m Q := kJ_next d199_728 rfl
theorem d199_729 : decode (mB 199) 729 = .ok (.iaload, 1) := by decide +kernel
theorem s199_729 {l0 l1 l2 l3 : Option Value} {st : List Value} {q : Nat} {i : Int32} {mi : Nat → Nat → Int32} {ml : Nat → Nat → Int64} {mr : Nat → Nat → Option Nat} {nx : Nat} {Q : Option Value → kMem → Prop} (h : kIs nx q 10 = true) : kJ 199 729 [l0, l1, l2, l3] (.int i :: .ref q :: st) (mi, ml, mr, nx) Q = (vp_in i (kAl q) ∧ kJ 199 730 [l0, l1, l2, l3] (.int (mi q i.toNatClampNeg) :: st) (mi, ml, mr, nx) Q) := kg_aldJ d199_729 rfl (kAr_of h)
theorem d199_730 : decode (mB 199) 730 = .ok (.aload_n 0, 1) := by decide +kernel
theorem s199_730 {l1 l2 l3 : Option Value} {st : List Value} {x : Nat} {m : kMem} {Q : Option Value → kMem → Prop} : kJ 199 730 [some (.ref x), l1, l2, l3] st m Q = kJ 199 731 [some (.ref x), l1, l2, l3] (.ref x :: st) m Q := kJ_next d199_730 rfl
theorem d199_731 : decode (mB 199) 731 = .ok (.iload_n 3, 1) := by decide +kernel
theorem s199_731 {l0 l1 l2 : Option Value} {st : List Value} {x : Int32} {m : kMem} {Q : Option Value → kMem → Prop} : kJ 199 731 [l0, l1, l2, some (.int x)] st m Q = kJ 199 732 [l0, l1, l2, some (.int x)] (.int x :: st) m Q := kJ_next d199_731 rfl
theorem d199_732 : decode (mB 199) 732 = .ok (.iconst 2, 1) := by decide +kernel
theorem s199_732 {l0 l1 l2 l3 : Option Value} {st : List Value} {m : kMem} {Q : Option Value → kMem → Prop} : kJ 199 732 [l0, l1, l2, l3] st m Q = kJ 199 733 [l0, l1, l2, l3] (.int (nI 2) :: st) m Q := kJ_next d199_732 rfl
theorem d199_733 : decode (mB 199) 733 = .ok (.iadd, 1) := by decide +kernel
theorem s199_733 {l0 l1 l2 l3 : Option Value} {st : List Value} {a b : Int32} {m : kMem} {Q : Option Value → kMem → Prop} : kJ 199 733 [l0, l1, l2, l3] (.int b :: .int a :: st) m Q = kJ 199 734 [l0, l1, l2, l3] (.int (a + b) :: st) m Q := kJ_next d199_733 rfl
theorem d199_734 : decode (mB 199) 734 = .ok (.iaload, 1) := by decide +kernel
theorem s199_734 {l0 l1 l2 l3 : Option Value} {st : List Value} {q : Nat} {i : Int32} {mi : Nat → Nat → Int32} {ml : Nat → Nat → Int64} {mr : Nat → Nat → Option Nat} {nx : Nat} {Q : Option Value → kMem → Prop} (h : kIs nx q 10 = true) : kJ 199 734 [l0, l1, l2, l3] (.int i :: .ref q :: st) (mi, ml, mr, nx) Q = (vp_in i (kAl q) ∧ kJ 199 735 [l0, l1, l2, l3] (.int (mi q i.toNatClampNeg) :: st) (mi, ml, mr, nx) Q) := kg_aldJ d199_734 rfl (kAr_of h)
theorem d199_735 : decode (mB 199) 735 = .ok (.invokevirtual 90, 3) := by decide +kernel
theorem s199_735 {l0 l1 l2 l3 : Option Value} {v0 : Int32} {v1 : Int32} {v2 : Nat} {m : kMem} {Q : Option Value → kMem → Prop} (h : kIs m.2.2.2 v2 4 = true) : kJ 199 735 [l0, l1, l2, l3] [.int v0, .int v1, .ref v2] m Q = kJ 70 0 [some (.ref v2), some (.int v1), some (.int v0), none] [] m (fun v m2 => kJ 199 738 [l0, l1, l2, l3] (v.toList ++ []) m2 Q) := kJ_call d199_735 (kg_callv 70 2 rfl rfl rfl rfl (Nat.le_of_ble_eq_true rfl) (Nat.le_of_ble_eq_true rfl) (Nat.le_of_ble_eq_true rfl) h rfl)
theorem d199_738 : decode (mB 199) 738 = .ok (.aload_n 2, 1) := by decide +kernel
theorem s199_738 {l0 l1 l3 : Option Value} {st : List Value} {x : Nat} {m : kMem} {Q : Option Value → kMem → Prop} : kJ 199 738 [l0, l1, some (.ref x), l3] st m Q = kJ 199 739 [l0, l1, some (.ref x), l3] (.ref x :: st) m Q := kJ_next d199_738 rfl
theorem d199_739 : decode (mB 199) 739 = .ok (.aload_n 0, 1) := by decide +kernel
theorem s199_739 {l1 l2 l3 : Option Value} {st : List Value} {x : Nat} {m : kMem} {Q : Option Value → kMem → Prop} : kJ 199 739 [some (.ref x), l1, l2, l3] st m Q = kJ 199 740 [some (.ref x), l1, l2, l3] (.ref x :: st) m Q := kJ_next d199_739 rfl
theorem d199_740 : decode (mB 199) 740 = .ok (.iload_n 3, 1) := by decide +kernel
theorem s199_740 {l0 l1 l2 : Option Value} {st : List Value} {x : Int32} {m : kMem} {Q : Option Value → kMem → Prop} : kJ 199 740 [l0, l1, l2, some (.int x)] st m Q = kJ 199 741 [l0, l1, l2, some (.int x)] (.int x :: st) m Q := kJ_next d199_740 rfl
theorem d199_741 : decode (mB 199) 741 = .ok (.iconst 1, 1) := by decide +kernel
theorem s199_741 {l0 l1 l2 l3 : Option Value} {st : List Value} {m : kMem} {Q : Option Value → kMem → Prop} : kJ 199 741 [l0, l1, l2, l3] st m Q = kJ 199 742 [l0, l1, l2, l3] (.int (nI 1) :: st) m Q := kJ_next d199_741 rfl
theorem d199_742 : decode (mB 199) 742 = .ok (.iadd, 1) := by decide +kernel
theorem s199_742 {l0 l1 l2 l3 : Option Value} {st : List Value} {a b : Int32} {m : kMem} {Q : Option Value → kMem → Prop} : kJ 199 742 [l0, l1, l2, l3] (.int b :: .int a :: st) m Q = kJ 199 743 [l0, l1, l2, l3] (.int (a + b) :: st) m Q := kJ_next d199_742 rfl
theorem d199_743 : decode (mB 199) 743 = .ok (.iaload, 1) := by decide +kernel
theorem s199_743 {l0 l1 l2 l3 : Option Value} {st : List Value} {q : Nat} {i : Int32} {mi : Nat → Nat → Int32} {ml : Nat → Nat → Int64} {mr : Nat → Nat → Option Nat} {nx : Nat} {Q : Option Value → kMem → Prop} (h : kIs nx q 10 = true) : kJ 199 743 [l0, l1, l2, l3] (.int i :: .ref q :: st) (mi, ml, mr, nx) Q = (vp_in i (kAl q) ∧ kJ 199 744 [l0, l1, l2, l3] (.int (mi q i.toNatClampNeg) :: st) (mi, ml, mr, nx) Q) := kg_aldJ d199_743 rfl (kAr_of h)
theorem d199_744 : decode (mB 199) 744 = .ok (.aload_n 0, 1) := by decide +kernel
theorem s199_744 {l1 l2 l3 : Option Value} {st : List Value} {x : Nat} {m : kMem} {Q : Option Value → kMem → Prop} : kJ 199 744 [some (.ref x), l1, l2, l3] st m Q = kJ 199 745 [some (.ref x), l1, l2, l3] (.ref x :: st) m Q := kJ_next d199_744 rfl
theorem d199_745 : decode (mB 199) 745 = .ok (.iload_n 3, 1) := by decide +kernel
theorem s199_745 {l0 l1 l2 : Option Value} {st : List Value} {x : Int32} {m : kMem} {Q : Option Value → kMem → Prop} : kJ 199 745 [l0, l1, l2, some (.int x)] st m Q = kJ 199 746 [l0, l1, l2, some (.int x)] (.int x :: st) m Q := kJ_next d199_745 rfl
theorem d199_746 : decode (mB 199) 746 = .ok (.iconst 2, 1) := by decide +kernel
theorem s199_746 {l0 l1 l2 l3 : Option Value} {st : List Value} {m : kMem} {Q : Option Value → kMem → Prop} : kJ 199 746 [l0, l1, l2, l3] st m Q = kJ 199 747 [l0, l1, l2, l3] (.int (nI 2) :: st) m Q := kJ_next d199_746 rfl
theorem d199_747 : decode (mB 199) 747 = .ok (.iadd, 1) := by decide +kernel
theorem s199_747 {l0 l1 l2 l3 : Option Value} {st : List Value} {a b : Int32} {m : kMem} {Q : Option Value → kMem → Prop} : kJ 199 747 [l0, l1, l2, l3] (.int b :: .int a :: st) m Q = kJ 199 748 [l0, l1, l2, l3] (.int (a + b) :: st) m Q := kJ_next d199_747 rfl
theorem d199_748 : decode (mB 199) 748 = .ok (.iaload, 1) := by decide +kernel
theorem s199_748 {l0 l1 l2 l3 : Option Value} {st : List Value} {q : Nat} {i : Int32} {mi : Nat → Nat → Int32} {ml : Nat → Nat → Int64} {mr : Nat → Nat → Option Nat} {nx : Nat} {Q : Option Value → kMem → Prop} (h : kIs nx q 10 = true) : kJ 199 748 [l0, l1, l2, l3] (.int i :: .ref q :: st) (mi, ml, mr, nx) Q = (vp_in i (kAl q) ∧ kJ 199 749 [l0, l1, l2, l3] (.int (mi q i.toNatClampNeg) :: st) (mi, ml, mr, nx) Q) := kg_aldJ d199_748 rfl (kAr_of h)
theorem d199_749 : decode (mB 199) 749 = .ok (.invokevirtual 93, 3) := by decide +kernel
theorem s199_749 {l0 l1 l2 l3 : Option Value} {v0 : Int32} {v1 : Int32} {v2 : Nat} {v3 : Int32} {m : kMem} {Q : Option Value → kMem → Prop} (h : kIs m.2.2.2 v2 5 = true) : kJ 199 749 [l0, l1, l2, l3] [.int v0, .int v1, .ref v2, .int v3] m Q = kJ 170 0 [some (.ref v2), some (.int v1), some (.int v0), none] [] m (fun v m2 => kJ 199 752 [l0, l1, l2, l3] (v.toList ++ [.int v3]) m2 Q) := kJ_call d199_749 (kg_callv 170 2 rfl rfl rfl rfl (Nat.le_of_ble_eq_true rfl) (Nat.le_of_ble_eq_true rfl) (Nat.le_of_ble_eq_true rfl) h rfl)
theorem d199_752 : decode (mB 199) 752 = .ok (.if_icmp .eq 664, 3) := by decide +kernel
theorem s199_752 {l0 l1 l2 l3 : Option Value} {st : List Value} {a b : Int32} {m : kMem} {Q : Option Value → kMem → Prop} : kJ 199 752 [l0, l1, l2, l3] (.int b :: .int a :: st) m Q = (if a = b then kJ 199 1416 [l0, l1, l2, l3] st m Q else kJ 199 755 [l0, l1, l2, l3] st m Q) := kJ_if d199_752 rfl (fun h => kJ_next d199_752 h) (fun h => kJ_next d199_752 h)
theorem d199_755 : decode (mB 199) 755 = .ok (.iconst 0, 1) := by decide +kernel
theorem s199_755 {l0 l1 l2 l3 : Option Value} {st : List Value} {m : kMem} {Q : Option Value → kMem → Prop} : kJ 199 755 [l0, l1, l2, l3] st m Q = kJ 199 756 [l0, l1, l2, l3] (.int (nI 0) :: st) m Q := kJ_next d199_755 rfl
theorem d199_756 : decode (mB 199) 756 = .ok (.ireturn, 1) := by decide +kernel
theorem s199_756 {l0 l1 l2 l3 : Option Value} {x : Int32} {m : kMem} {Q : Option Value → kMem → Prop} (hx : x = 0 ∨ x = 1) : kJ 199 756 [l0, l1, l2, l3] [.int x] m Q = Q (some (.int x)) m := kJ_ret d199_756 (kg_retz (by decide) hx)
theorem d199_757 : decode (mB 199) 757 = .ok (.aload_n 1, 1) := by decide +kernel
theorem s199_757 {l0 l2 l3 : Option Value} {st : List Value} {x : Nat} {m : kMem} {Q : Option Value → kMem → Prop} : kJ 199 757 [l0, some (.ref x), l2, l3] st m Q = kJ 199 758 [l0, some (.ref x), l2, l3] (.ref x :: st) m Q := kJ_next d199_757 rfl
theorem d199_758 : decode (mB 199) 758 = .ok (.aload_n 0, 1) := by decide +kernel
theorem s199_758 {l1 l2 l3 : Option Value} {st : List Value} {x : Nat} {m : kMem} {Q : Option Value → kMem → Prop} : kJ 199 758 [some (.ref x), l1, l2, l3] st m Q = kJ 199 759 [some (.ref x), l1, l2, l3] (.ref x :: st) m Q := kJ_next d199_758 rfl
theorem d199_759 : decode (mB 199) 759 = .ok (.iload_n 3, 1) := by decide +kernel
theorem s199_759 {l0 l1 l2 : Option Value} {st : List Value} {x : Int32} {m : kMem} {Q : Option Value → kMem → Prop} : kJ 199 759 [l0, l1, l2, some (.int x)] st m Q = kJ 199 760 [l0, l1, l2, some (.int x)] (.int x :: st) m Q := kJ_next d199_759 rfl
theorem d199_760 : decode (mB 199) 760 = .ok (.iconst 1, 1) := by decide +kernel
theorem s199_760 {l0 l1 l2 l3 : Option Value} {st : List Value} {m : kMem} {Q : Option Value → kMem → Prop} : kJ 199 760 [l0, l1, l2, l3] st m Q = kJ 199 761 [l0, l1, l2, l3] (.int (nI 1) :: st) m Q := kJ_next d199_760 rfl
theorem d199_761 : decode (mB 199) 761 = .ok (.iadd, 1) := by decide +kernel
theorem s199_761 {l0 l1 l2 l3 : Option Value} {st : List Value} {a b : Int32} {m : kMem} {Q : Option Value → kMem → Prop} : kJ 199 761 [l0, l1, l2, l3] (.int b :: .int a :: st) m Q = kJ 199 762 [l0, l1, l2, l3] (.int (a + b) :: st) m Q := kJ_next d199_761 rfl
theorem d199_762 : decode (mB 199) 762 = .ok (.iaload, 1) := by decide +kernel
theorem s199_762 {l0 l1 l2 l3 : Option Value} {st : List Value} {q : Nat} {i : Int32} {mi : Nat → Nat → Int32} {ml : Nat → Nat → Int64} {mr : Nat → Nat → Option Nat} {nx : Nat} {Q : Option Value → kMem → Prop} (h : kIs nx q 10 = true) : kJ 199 762 [l0, l1, l2, l3] (.int i :: .ref q :: st) (mi, ml, mr, nx) Q = (vp_in i (kAl q) ∧ kJ 199 763 [l0, l1, l2, l3] (.int (mi q i.toNatClampNeg) :: st) (mi, ml, mr, nx) Q) := kg_aldJ d199_762 rfl (kAr_of h)
theorem d199_763 : decode (mB 199) 763 = .ok (.aload_n 0, 1) := by decide +kernel
theorem s199_763 {l1 l2 l3 : Option Value} {st : List Value} {x : Nat} {m : kMem} {Q : Option Value → kMem → Prop} : kJ 199 763 [some (.ref x), l1, l2, l3] st m Q = kJ 199 764 [some (.ref x), l1, l2, l3] (.ref x :: st) m Q := kJ_next d199_763 rfl
theorem d199_764 : decode (mB 199) 764 = .ok (.iload_n 3, 1) := by decide +kernel
theorem s199_764 {l0 l1 l2 : Option Value} {st : List Value} {x : Int32} {m : kMem} {Q : Option Value → kMem → Prop} : kJ 199 764 [l0, l1, l2, some (.int x)] st m Q = kJ 199 765 [l0, l1, l2, some (.int x)] (.int x :: st) m Q := kJ_next d199_764 rfl
theorem d199_765 : decode (mB 199) 765 = .ok (.iconst 2, 1) := by decide +kernel
theorem s199_765 {l0 l1 l2 l3 : Option Value} {st : List Value} {m : kMem} {Q : Option Value → kMem → Prop} : kJ 199 765 [l0, l1, l2, l3] st m Q = kJ 199 766 [l0, l1, l2, l3] (.int (nI 2) :: st) m Q := kJ_next d199_765 rfl
theorem d199_766 : decode (mB 199) 766 = .ok (.iadd, 1) := by decide +kernel
theorem s199_766 {l0 l1 l2 l3 : Option Value} {st : List Value} {a b : Int32} {m : kMem} {Q : Option Value → kMem → Prop} : kJ 199 766 [l0, l1, l2, l3] (.int b :: .int a :: st) m Q = kJ 199 767 [l0, l1, l2, l3] (.int (a + b) :: st) m Q := kJ_next d199_766 rfl
theorem d199_767 : decode (mB 199) 767 = .ok (.iaload, 1) := by decide +kernel
theorem s199_767 {l0 l1 l2 l3 : Option Value} {st : List Value} {q : Nat} {i : Int32} {mi : Nat → Nat → Int32} {ml : Nat → Nat → Int64} {mr : Nat → Nat → Option Nat} {nx : Nat} {Q : Option Value → kMem → Prop} (h : kIs nx q 10 = true) : kJ 199 767 [l0, l1, l2, l3] (.int i :: .ref q :: st) (mi, ml, mr, nx) Q = (vp_in i (kAl q) ∧ kJ 199 768 [l0, l1, l2, l3] (.int (mi q i.toNatClampNeg) :: st) (mi, ml, mr, nx) Q) := kg_aldJ d199_767 rfl (kAr_of h)
theorem d199_768 : decode (mB 199) 768 = .ok (.aload_n 0, 1) := by decide +kernel
theorem s199_768 {l1 l2 l3 : Option Value} {st : List Value} {x : Nat} {m : kMem} {Q : Option Value → kMem → Prop} : kJ 199 768 [some (.ref x), l1, l2, l3] st m Q = kJ 199 769 [some (.ref x), l1, l2, l3] (.ref x :: st) m Q := kJ_next d199_768 rfl
theorem d199_769 : decode (mB 199) 769 = .ok (.iload_n 3, 1) := by decide +kernel
theorem s199_769 {l0 l1 l2 : Option Value} {st : List Value} {x : Int32} {m : kMem} {Q : Option Value → kMem → Prop} : kJ 199 769 [l0, l1, l2, some (.int x)] st m Q = kJ 199 770 [l0, l1, l2, some (.int x)] (.int x :: st) m Q := kJ_next d199_769 rfl
theorem d199_770 : decode (mB 199) 770 = .ok (.iconst 3, 1) := by decide +kernel
theorem s199_770 {l0 l1 l2 l3 : Option Value} {st : List Value} {m : kMem} {Q : Option Value → kMem → Prop} : kJ 199 770 [l0, l1, l2, l3] st m Q = kJ 199 771 [l0, l1, l2, l3] (.int (nI 3) :: st) m Q := kJ_next d199_770 rfl
theorem d199_771 : decode (mB 199) 771 = .ok (.iadd, 1) := by decide +kernel
theorem s199_771 {l0 l1 l2 l3 : Option Value} {st : List Value} {a b : Int32} {m : kMem} {Q : Option Value → kMem → Prop} : kJ 199 771 [l0, l1, l2, l3] (.int b :: .int a :: st) m Q = kJ 199 772 [l0, l1, l2, l3] (.int (a + b) :: st) m Q := kJ_next d199_771 rfl
theorem d199_772 : decode (mB 199) 772 = .ok (.iaload, 1) := by decide +kernel
theorem s199_772 {l0 l1 l2 l3 : Option Value} {st : List Value} {q : Nat} {i : Int32} {mi : Nat → Nat → Int32} {ml : Nat → Nat → Int64} {mr : Nat → Nat → Option Nat} {nx : Nat} {Q : Option Value → kMem → Prop} (h : kIs nx q 10 = true) : kJ 199 772 [l0, l1, l2, l3] (.int i :: .ref q :: st) (mi, ml, mr, nx) Q = (vp_in i (kAl q) ∧ kJ 199 773 [l0, l1, l2, l3] (.int (mi q i.toNatClampNeg) :: st) (mi, ml, mr, nx) Q) := kg_aldJ d199_772 rfl (kAr_of h)
theorem d199_773 : decode (mB 199) 773 = .ok (.invokevirtual 94, 3) := by decide +kernel
theorem s199_773 {l0 l1 l2 l3 : Option Value} {v0 : Int32} {v1 : Int32} {v2 : Int32} {v3 : Nat} {m : kMem} {Q : Option Value → kMem → Prop} (h : kIs m.2.2.2 v3 4 = true) : kJ 199 773 [l0, l1, l2, l3] [.int v0, .int v1, .int v2, .ref v3] m Q = kJ 71 0 [some (.ref v3), some (.int v2), some (.int v1), some (.int v0), none] [] m (fun v m2 => kJ 199 776 [l0, l1, l2, l3] (v.toList ++ []) m2 Q) := kJ_call d199_773 (kg_callv 71 3 rfl rfl rfl rfl (Nat.le_of_ble_eq_true rfl) (Nat.le_of_ble_eq_true rfl) (Nat.le_of_ble_eq_true rfl) h rfl)
theorem d199_776 : decode (mB 199) 776 = .ok (.aload_n 2, 1) := by decide +kernel
theorem s199_776 {l0 l1 l3 : Option Value} {st : List Value} {x : Nat} {m : kMem} {Q : Option Value → kMem → Prop} : kJ 199 776 [l0, l1, some (.ref x), l3] st m Q = kJ 199 777 [l0, l1, some (.ref x), l3] (.ref x :: st) m Q := kJ_next d199_776 rfl
theorem d199_777 : decode (mB 199) 777 = .ok (.aload_n 0, 1) := by decide +kernel
theorem s199_777 {l1 l2 l3 : Option Value} {st : List Value} {x : Nat} {m : kMem} {Q : Option Value → kMem → Prop} : kJ 199 777 [some (.ref x), l1, l2, l3] st m Q = kJ 199 778 [some (.ref x), l1, l2, l3] (.ref x :: st) m Q := kJ_next d199_777 rfl
theorem d199_778 : decode (mB 199) 778 = .ok (.iload_n 3, 1) := by decide +kernel
theorem s199_778 {l0 l1 l2 : Option Value} {st : List Value} {x : Int32} {m : kMem} {Q : Option Value → kMem → Prop} : kJ 199 778 [l0, l1, l2, some (.int x)] st m Q = kJ 199 779 [l0, l1, l2, some (.int x)] (.int x :: st) m Q := kJ_next d199_778 rfl
theorem d199_779 : decode (mB 199) 779 = .ok (.iconst 1, 1) := by decide +kernel
theorem s199_779 {l0 l1 l2 l3 : Option Value} {st : List Value} {m : kMem} {Q : Option Value → kMem → Prop} : kJ 199 779 [l0, l1, l2, l3] st m Q = kJ 199 780 [l0, l1, l2, l3] (.int (nI 1) :: st) m Q := kJ_next d199_779 rfl
theorem d199_780 : decode (mB 199) 780 = .ok (.iadd, 1) := by decide +kernel
theorem s199_780 {l0 l1 l2 l3 : Option Value} {st : List Value} {a b : Int32} {m : kMem} {Q : Option Value → kMem → Prop} : kJ 199 780 [l0, l1, l2, l3] (.int b :: .int a :: st) m Q = kJ 199 781 [l0, l1, l2, l3] (.int (a + b) :: st) m Q := kJ_next d199_780 rfl
theorem d199_781 : decode (mB 199) 781 = .ok (.iaload, 1) := by decide +kernel
theorem s199_781 {l0 l1 l2 l3 : Option Value} {st : List Value} {q : Nat} {i : Int32} {mi : Nat → Nat → Int32} {ml : Nat → Nat → Int64} {mr : Nat → Nat → Option Nat} {nx : Nat} {Q : Option Value → kMem → Prop} (h : kIs nx q 10 = true) : kJ 199 781 [l0, l1, l2, l3] (.int i :: .ref q :: st) (mi, ml, mr, nx) Q = (vp_in i (kAl q) ∧ kJ 199 782 [l0, l1, l2, l3] (.int (mi q i.toNatClampNeg) :: st) (mi, ml, mr, nx) Q) := kg_aldJ d199_781 rfl (kAr_of h)
theorem d199_782 : decode (mB 199) 782 = .ok (.aload_n 0, 1) := by decide +kernel
theorem s199_782 {l1 l2 l3 : Option Value} {st : List Value} {x : Nat} {m : kMem} {Q : Option Value → kMem → Prop} : kJ 199 782 [some (.ref x), l1, l2, l3] st m Q = kJ 199 783 [some (.ref x), l1, l2, l3] (.ref x :: st) m Q := kJ_next d199_782 rfl
theorem d199_783 : decode (mB 199) 783 = .ok (.iload_n 3, 1) := by decide +kernel
theorem s199_783 {l0 l1 l2 : Option Value} {st : List Value} {x : Int32} {m : kMem} {Q : Option Value → kMem → Prop} : kJ 199 783 [l0, l1, l2, some (.int x)] st m Q = kJ 199 784 [l0, l1, l2, some (.int x)] (.int x :: st) m Q := kJ_next d199_783 rfl
theorem d199_784 : decode (mB 199) 784 = .ok (.iconst 2, 1) := by decide +kernel
theorem s199_784 {l0 l1 l2 l3 : Option Value} {st : List Value} {m : kMem} {Q : Option Value → kMem → Prop} : kJ 199 784 [l0, l1, l2, l3] st m Q = kJ 199 785 [l0, l1, l2, l3] (.int (nI 2) :: st) m Q := kJ_next d199_784 rfl
theorem d199_785 : decode (mB 199) 785 = .ok (.iadd, 1) := by decide +kernel
theorem s199_785 {l0 l1 l2 l3 : Option Value} {st : List Value} {a b : Int32} {m : kMem} {Q : Option Value → kMem → Prop} : kJ 199 785 [l0, l1, l2, l3] (.int b :: .int a :: st) m Q = kJ 199 786 [l0, l1, l2, l3] (.int (a + b) :: st) m Q := kJ_next d199_785 rfl
theorem d199_786 : decode (mB 199) 786 = .ok (.iaload, 1) := by decide +kernel
theorem s199_786 {l0 l1 l2 l3 : Option Value} {st : List Value} {q : Nat} {i : Int32} {mi : Nat → Nat → Int32} {ml : Nat → Nat → Int64} {mr : Nat → Nat → Option Nat} {nx : Nat} {Q : Option Value → kMem → Prop} (h : kIs nx q 10 = true) : kJ 199 786 [l0, l1, l2, l3] (.int i :: .ref q :: st) (mi, ml, mr, nx) Q = (vp_in i (kAl q) ∧ kJ 199 787 [l0, l1, l2, l3] (.int (mi q i.toNatClampNeg) :: st) (mi, ml, mr, nx) Q) := kg_aldJ d199_786 rfl (kAr_of h)
theorem d199_787 : decode (mB 199) 787 = .ok (.aload_n 0, 1) := by decide +kernel
theorem s199_787 {l1 l2 l3 : Option Value} {st : List Value} {x : Nat} {m : kMem} {Q : Option Value → kMem → Prop} : kJ 199 787 [some (.ref x), l1, l2, l3] st m Q = kJ 199 788 [some (.ref x), l1, l2, l3] (.ref x :: st) m Q := kJ_next d199_787 rfl
theorem d199_788 : decode (mB 199) 788 = .ok (.iload_n 3, 1) := by decide +kernel
theorem s199_788 {l0 l1 l2 : Option Value} {st : List Value} {x : Int32} {m : kMem} {Q : Option Value → kMem → Prop} : kJ 199 788 [l0, l1, l2, some (.int x)] st m Q = kJ 199 789 [l0, l1, l2, some (.int x)] (.int x :: st) m Q := kJ_next d199_788 rfl
theorem d199_789 : decode (mB 199) 789 = .ok (.iconst 3, 1) := by decide +kernel
theorem s199_789 {l0 l1 l2 l3 : Option Value} {st : List Value} {m : kMem} {Q : Option Value → kMem → Prop} : kJ 199 789 [l0, l1, l2, l3] st m Q = kJ 199 790 [l0, l1, l2, l3] (.int (nI 3) :: st) m Q := kJ_next d199_789 rfl
theorem d199_790 : decode (mB 199) 790 = .ok (.iadd, 1) := by decide +kernel
theorem s199_790 {l0 l1 l2 l3 : Option Value} {st : List Value} {a b : Int32} {m : kMem} {Q : Option Value → kMem → Prop} : kJ 199 790 [l0, l1, l2, l3] (.int b :: .int a :: st) m Q = kJ 199 791 [l0, l1, l2, l3] (.int (a + b) :: st) m Q := kJ_next d199_790 rfl
theorem d199_791 : decode (mB 199) 791 = .ok (.iaload, 1) := by decide +kernel
theorem s199_791 {l0 l1 l2 l3 : Option Value} {st : List Value} {q : Nat} {i : Int32} {mi : Nat → Nat → Int32} {ml : Nat → Nat → Int64} {mr : Nat → Nat → Option Nat} {nx : Nat} {Q : Option Value → kMem → Prop} (h : kIs nx q 10 = true) : kJ 199 791 [l0, l1, l2, l3] (.int i :: .ref q :: st) (mi, ml, mr, nx) Q = (vp_in i (kAl q) ∧ kJ 199 792 [l0, l1, l2, l3] (.int (mi q i.toNatClampNeg) :: st) (mi, ml, mr, nx) Q) := kg_aldJ d199_791 rfl (kAr_of h)
theorem d199_792 : decode (mB 199) 792 = .ok (.invokevirtual 97, 3) := by decide +kernel
theorem s199_792 {l0 l1 l2 l3 : Option Value} {v0 : Int32} {v1 : Int32} {v2 : Int32} {v3 : Nat} {v4 : Int32} {m : kMem} {Q : Option Value → kMem → Prop} (h : kIs m.2.2.2 v3 5 = true) : kJ 199 792 [l0, l1, l2, l3] [.int v0, .int v1, .int v2, .ref v3, .int v4] m Q = kJ 171 0 [some (.ref v3), some (.int v2), some (.int v1), some (.int v0)] [] m (fun v m2 => kJ 199 795 [l0, l1, l2, l3] (v.toList ++ [.int v4]) m2 Q) := kJ_call d199_792 (kg_callv 171 3 rfl rfl rfl rfl (Nat.le_of_ble_eq_true rfl) (Nat.le_of_ble_eq_true rfl) (Nat.le_of_ble_eq_true rfl) h rfl)
theorem d199_795 : decode (mB 199) 795 = .ok (.if_icmp .eq 621, 3) := by decide +kernel
theorem s199_795 {l0 l1 l2 l3 : Option Value} {st : List Value} {a b : Int32} {m : kMem} {Q : Option Value → kMem → Prop} : kJ 199 795 [l0, l1, l2, l3] (.int b :: .int a :: st) m Q = (if a = b then kJ 199 1416 [l0, l1, l2, l3] st m Q else kJ 199 798 [l0, l1, l2, l3] st m Q) := kJ_if d199_795 rfl (fun h => kJ_next d199_795 h) (fun h => kJ_next d199_795 h)
theorem d199_798 : decode (mB 199) 798 = .ok (.iconst 0, 1) := by decide +kernel
theorem s199_798 {l0 l1 l2 l3 : Option Value} {st : List Value} {m : kMem} {Q : Option Value → kMem → Prop} : kJ 199 798 [l0, l1, l2, l3] st m Q = kJ 199 799 [l0, l1, l2, l3] (.int (nI 0) :: st) m Q := kJ_next d199_798 rfl
theorem d199_799 : decode (mB 199) 799 = .ok (.ireturn, 1) := by decide +kernel
theorem s199_799 {l0 l1 l2 l3 : Option Value} {x : Int32} {m : kMem} {Q : Option Value → kMem → Prop} (hx : x = 0 ∨ x = 1) : kJ 199 799 [l0, l1, l2, l3] [.int x] m Q = Q (some (.int x)) m := kJ_ret d199_799 (kg_retz (by decide) hx)
theorem d199_800 : decode (mB 199) 800 = .ok (.aload_n 1, 1) := by decide +kernel
theorem s199_800 {l0 l2 l3 : Option Value} {st : List Value} {x : Nat} {m : kMem} {Q : Option Value → kMem → Prop} : kJ 199 800 [l0, some (.ref x), l2, l3] st m Q = kJ 199 801 [l0, some (.ref x), l2, l3] (.ref x :: st) m Q := kJ_next d199_800 rfl
theorem d199_801 : decode (mB 199) 801 = .ok (.aload_n 0, 1) := by decide +kernel
theorem s199_801 {l1 l2 l3 : Option Value} {st : List Value} {x : Nat} {m : kMem} {Q : Option Value → kMem → Prop} : kJ 199 801 [some (.ref x), l1, l2, l3] st m Q = kJ 199 802 [some (.ref x), l1, l2, l3] (.ref x :: st) m Q := kJ_next d199_801 rfl
theorem d199_802 : decode (mB 199) 802 = .ok (.iload_n 3, 1) := by decide +kernel
theorem s199_802 {l0 l1 l2 : Option Value} {st : List Value} {x : Int32} {m : kMem} {Q : Option Value → kMem → Prop} : kJ 199 802 [l0, l1, l2, some (.int x)] st m Q = kJ 199 803 [l0, l1, l2, some (.int x)] (.int x :: st) m Q := kJ_next d199_802 rfl
theorem d199_803 : decode (mB 199) 803 = .ok (.iconst 1, 1) := by decide +kernel
theorem s199_803 {l0 l1 l2 l3 : Option Value} {st : List Value} {m : kMem} {Q : Option Value → kMem → Prop} : kJ 199 803 [l0, l1, l2, l3] st m Q = kJ 199 804 [l0, l1, l2, l3] (.int (nI 1) :: st) m Q := kJ_next d199_803 rfl
theorem d199_804 : decode (mB 199) 804 = .ok (.iadd, 1) := by decide +kernel
theorem s199_804 {l0 l1 l2 l3 : Option Value} {st : List Value} {a b : Int32} {m : kMem} {Q : Option Value → kMem → Prop} : kJ 199 804 [l0, l1, l2, l3] (.int b :: .int a :: st) m Q = kJ 199 805 [l0, l1, l2, l3] (.int (a + b) :: st) m Q := kJ_next d199_804 rfl
theorem d199_805 : decode (mB 199) 805 = .ok (.iaload, 1) := by decide +kernel
theorem s199_805 {l0 l1 l2 l3 : Option Value} {st : List Value} {q : Nat} {i : Int32} {mi : Nat → Nat → Int32} {ml : Nat → Nat → Int64} {mr : Nat → Nat → Option Nat} {nx : Nat} {Q : Option Value → kMem → Prop} (h : kIs nx q 10 = true) : kJ 199 805 [l0, l1, l2, l3] (.int i :: .ref q :: st) (mi, ml, mr, nx) Q = (vp_in i (kAl q) ∧ kJ 199 806 [l0, l1, l2, l3] (.int (mi q i.toNatClampNeg) :: st) (mi, ml, mr, nx) Q) := kg_aldJ d199_805 rfl (kAr_of h)
theorem d199_806 : decode (mB 199) 806 = .ok (.aload_n 0, 1) := by decide +kernel
theorem s199_806 {l1 l2 l3 : Option Value} {st : List Value} {x : Nat} {m : kMem} {Q : Option Value → kMem → Prop} : kJ 199 806 [some (.ref x), l1, l2, l3] st m Q = kJ 199 807 [some (.ref x), l1, l2, l3] (.ref x :: st) m Q := kJ_next d199_806 rfl
theorem d199_807 : decode (mB 199) 807 = .ok (.iload_n 3, 1) := by decide +kernel
theorem s199_807 {l0 l1 l2 : Option Value} {st : List Value} {x : Int32} {m : kMem} {Q : Option Value → kMem → Prop} : kJ 199 807 [l0, l1, l2, some (.int x)] st m Q = kJ 199 808 [l0, l1, l2, some (.int x)] (.int x :: st) m Q := kJ_next d199_807 rfl
theorem d199_808 : decode (mB 199) 808 = .ok (.iconst 2, 1) := by decide +kernel
theorem s199_808 {l0 l1 l2 l3 : Option Value} {st : List Value} {m : kMem} {Q : Option Value → kMem → Prop} : kJ 199 808 [l0, l1, l2, l3] st m Q = kJ 199 809 [l0, l1, l2, l3] (.int (nI 2) :: st) m Q := kJ_next d199_808 rfl
theorem d199_809 : decode (mB 199) 809 = .ok (.iadd, 1) := by decide +kernel
theorem s199_809 {l0 l1 l2 l3 : Option Value} {st : List Value} {a b : Int32} {m : kMem} {Q : Option Value → kMem → Prop} : kJ 199 809 [l0, l1, l2, l3] (.int b :: .int a :: st) m Q = kJ 199 810 [l0, l1, l2, l3] (.int (a + b) :: st) m Q := kJ_next d199_809 rfl
theorem d199_810 : decode (mB 199) 810 = .ok (.iaload, 1) := by decide +kernel
theorem s199_810 {l0 l1 l2 l3 : Option Value} {st : List Value} {q : Nat} {i : Int32} {mi : Nat → Nat → Int32} {ml : Nat → Nat → Int64} {mr : Nat → Nat → Option Nat} {nx : Nat} {Q : Option Value → kMem → Prop} (h : kIs nx q 10 = true) : kJ 199 810 [l0, l1, l2, l3] (.int i :: .ref q :: st) (mi, ml, mr, nx) Q = (vp_in i (kAl q) ∧ kJ 199 811 [l0, l1, l2, l3] (.int (mi q i.toNatClampNeg) :: st) (mi, ml, mr, nx) Q) := kg_aldJ d199_810 rfl (kAr_of h)
theorem d199_811 : decode (mB 199) 811 = .ok (.invokevirtual 98, 3) := by decide +kernel
theorem s199_811 {l0 l1 l2 l3 : Option Value} {v0 : Int32} {v1 : Int32} {v2 : Nat} {m : kMem} {Q : Option Value → kMem → Prop} (h : kIs m.2.2.2 v2 4 = true) : kJ 199 811 [l0, l1, l2, l3] [.int v0, .int v1, .ref v2] m Q = kJ 72 0 [some (.ref v2), some (.int v1), some (.int v0), none, none] [] m (fun v m2 => kJ 199 814 [l0, l1, l2, l3] (v.toList ++ []) m2 Q) := kJ_call d199_811 (kg_callv 72 2 rfl rfl rfl rfl (Nat.le_of_ble_eq_true rfl) (Nat.le_of_ble_eq_true rfl) (Nat.le_of_ble_eq_true rfl) h rfl)
theorem d199_814 : decode (mB 199) 814 = .ok (.aload_n 2, 1) := by decide +kernel
theorem s199_814 {l0 l1 l3 : Option Value} {st : List Value} {x : Nat} {m : kMem} {Q : Option Value → kMem → Prop} : kJ 199 814 [l0, l1, some (.ref x), l3] st m Q = kJ 199 815 [l0, l1, some (.ref x), l3] (.ref x :: st) m Q := kJ_next d199_814 rfl
theorem d199_815 : decode (mB 199) 815 = .ok (.aload_n 0, 1) := by decide +kernel
theorem s199_815 {l1 l2 l3 : Option Value} {st : List Value} {x : Nat} {m : kMem} {Q : Option Value → kMem → Prop} : kJ 199 815 [some (.ref x), l1, l2, l3] st m Q = kJ 199 816 [some (.ref x), l1, l2, l3] (.ref x :: st) m Q := kJ_next d199_815 rfl
theorem d199_816 : decode (mB 199) 816 = .ok (.iload_n 3, 1) := by decide +kernel
theorem s199_816 {l0 l1 l2 : Option Value} {st : List Value} {x : Int32} {m : kMem} {Q : Option Value → kMem → Prop} : kJ 199 816 [l0, l1, l2, some (.int x)] st m Q = kJ 199 817 [l0, l1, l2, some (.int x)] (.int x :: st) m Q := kJ_next d199_816 rfl
theorem d199_817 : decode (mB 199) 817 = .ok (.iconst 1, 1) := by decide +kernel
theorem s199_817 {l0 l1 l2 l3 : Option Value} {st : List Value} {m : kMem} {Q : Option Value → kMem → Prop} : kJ 199 817 [l0, l1, l2, l3] st m Q = kJ 199 818 [l0, l1, l2, l3] (.int (nI 1) :: st) m Q := kJ_next d199_817 rfl
theorem d199_818 : decode (mB 199) 818 = .ok (.iadd, 1) := by decide +kernel
theorem s199_818 {l0 l1 l2 l3 : Option Value} {st : List Value} {a b : Int32} {m : kMem} {Q : Option Value → kMem → Prop} : kJ 199 818 [l0, l1, l2, l3] (.int b :: .int a :: st) m Q = kJ 199 819 [l0, l1, l2, l3] (.int (a + b) :: st) m Q := kJ_next d199_818 rfl
theorem d199_819 : decode (mB 199) 819 = .ok (.iaload, 1) := by decide +kernel
theorem s199_819 {l0 l1 l2 l3 : Option Value} {st : List Value} {q : Nat} {i : Int32} {mi : Nat → Nat → Int32} {ml : Nat → Nat → Int64} {mr : Nat → Nat → Option Nat} {nx : Nat} {Q : Option Value → kMem → Prop} (h : kIs nx q 10 = true) : kJ 199 819 [l0, l1, l2, l3] (.int i :: .ref q :: st) (mi, ml, mr, nx) Q = (vp_in i (kAl q) ∧ kJ 199 820 [l0, l1, l2, l3] (.int (mi q i.toNatClampNeg) :: st) (mi, ml, mr, nx) Q) := kg_aldJ d199_819 rfl (kAr_of h)
theorem d199_820 : decode (mB 199) 820 = .ok (.aload_n 0, 1) := by decide +kernel
theorem s199_820 {l1 l2 l3 : Option Value} {st : List Value} {x : Nat} {m : kMem} {Q : Option Value → kMem → Prop} : kJ 199 820 [some (.ref x), l1, l2, l3] st m Q = kJ 199 821 [some (.ref x), l1, l2, l3] (.ref x :: st) m Q := kJ_next d199_820 rfl
theorem d199_821 : decode (mB 199) 821 = .ok (.iload_n 3, 1) := by decide +kernel
theorem s199_821 {l0 l1 l2 : Option Value} {st : List Value} {x : Int32} {m : kMem} {Q : Option Value → kMem → Prop} : kJ 199 821 [l0, l1, l2, some (.int x)] st m Q = kJ 199 822 [l0, l1, l2, some (.int x)] (.int x :: st) m Q := kJ_next d199_821 rfl
theorem d199_822 : decode (mB 199) 822 = .ok (.iconst 2, 1) := by decide +kernel
theorem s199_822 {l0 l1 l2 l3 : Option Value} {st : List Value} {m : kMem} {Q : Option Value → kMem → Prop} : kJ 199 822 [l0, l1, l2, l3] st m Q = kJ 199 823 [l0, l1, l2, l3] (.int (nI 2) :: st) m Q := kJ_next d199_822 rfl
theorem d199_823 : decode (mB 199) 823 = .ok (.iadd, 1) := by decide +kernel
theorem s199_823 {l0 l1 l2 l3 : Option Value} {st : List Value} {a b : Int32} {m : kMem} {Q : Option Value → kMem → Prop} : kJ 199 823 [l0, l1, l2, l3] (.int b :: .int a :: st) m Q = kJ 199 824 [l0, l1, l2, l3] (.int (a + b) :: st) m Q := kJ_next d199_823 rfl
theorem d199_824 : decode (mB 199) 824 = .ok (.iaload, 1) := by decide +kernel
theorem s199_824 {l0 l1 l2 l3 : Option Value} {st : List Value} {q : Nat} {i : Int32} {mi : Nat → Nat → Int32} {ml : Nat → Nat → Int64} {mr : Nat → Nat → Option Nat} {nx : Nat} {Q : Option Value → kMem → Prop} (h : kIs nx q 10 = true) : kJ 199 824 [l0, l1, l2, l3] (.int i :: .ref q :: st) (mi, ml, mr, nx) Q = (vp_in i (kAl q) ∧ kJ 199 825 [l0, l1, l2, l3] (.int (mi q i.toNatClampNeg) :: st) (mi, ml, mr, nx) Q) := kg_aldJ d199_824 rfl (kAr_of h)
theorem d199_825 : decode (mB 199) 825 = .ok (.invokevirtual 101, 3) := by decide +kernel
theorem s199_825 {l0 l1 l2 l3 : Option Value} {v0 : Int32} {v1 : Int32} {v2 : Nat} {v3 : Int32} {m : kMem} {Q : Option Value → kMem → Prop} (h : kIs m.2.2.2 v2 5 = true) : kJ 199 825 [l0, l1, l2, l3] [.int v0, .int v1, .ref v2, .int v3] m Q = kJ 172 0 [some (.ref v2), some (.int v1), some (.int v0), none, none] [] m (fun v m2 => kJ 199 828 [l0, l1, l2, l3] (v.toList ++ [.int v3]) m2 Q) := kJ_call d199_825 (kg_callv 172 2 rfl rfl rfl rfl (Nat.le_of_ble_eq_true rfl) (Nat.le_of_ble_eq_true rfl) (Nat.le_of_ble_eq_true rfl) h rfl)
theorem d199_828 : decode (mB 199) 828 = .ok (.if_icmp .eq 588, 3) := by decide +kernel
theorem s199_828 {l0 l1 l2 l3 : Option Value} {st : List Value} {a b : Int32} {m : kMem} {Q : Option Value → kMem → Prop} : kJ 199 828 [l0, l1, l2, l3] (.int b :: .int a :: st) m Q = (if a = b then kJ 199 1416 [l0, l1, l2, l3] st m Q else kJ 199 831 [l0, l1, l2, l3] st m Q) := kJ_if d199_828 rfl (fun h => kJ_next d199_828 h) (fun h => kJ_next d199_828 h)
theorem d199_831 : decode (mB 199) 831 = .ok (.iconst 0, 1) := by decide +kernel
theorem s199_831 {l0 l1 l2 l3 : Option Value} {st : List Value} {m : kMem} {Q : Option Value → kMem → Prop} : kJ 199 831 [l0, l1, l2, l3] st m Q = kJ 199 832 [l0, l1, l2, l3] (.int (nI 0) :: st) m Q := kJ_next d199_831 rfl
theorem d199_832 : decode (mB 199) 832 = .ok (.ireturn, 1) := by decide +kernel
theorem s199_832 {l0 l1 l2 l3 : Option Value} {x : Int32} {m : kMem} {Q : Option Value → kMem → Prop} (hx : x = 0 ∨ x = 1) : kJ 199 832 [l0, l1, l2, l3] [.int x] m Q = Q (some (.int x)) m := kJ_ret d199_832 (kg_retz (by decide) hx)
theorem d199_833 : decode (mB 199) 833 = .ok (.aload_n 1, 1) := by decide +kernel
theorem s199_833 {l0 l2 l3 : Option Value} {st : List Value} {x : Nat} {m : kMem} {Q : Option Value → kMem → Prop} : kJ 199 833 [l0, some (.ref x), l2, l3] st m Q = kJ 199 834 [l0, some (.ref x), l2, l3] (.ref x :: st) m Q := kJ_next d199_833 rfl
theorem d199_834 : decode (mB 199) 834 = .ok (.aload_n 0, 1) := by decide +kernel
theorem s199_834 {l1 l2 l3 : Option Value} {st : List Value} {x : Nat} {m : kMem} {Q : Option Value → kMem → Prop} : kJ 199 834 [some (.ref x), l1, l2, l3] st m Q = kJ 199 835 [some (.ref x), l1, l2, l3] (.ref x :: st) m Q := kJ_next d199_834 rfl
theorem d199_835 : decode (mB 199) 835 = .ok (.iload_n 3, 1) := by decide +kernel
theorem s199_835 {l0 l1 l2 : Option Value} {st : List Value} {x : Int32} {m : kMem} {Q : Option Value → kMem → Prop} : kJ 199 835 [l0, l1, l2, some (.int x)] st m Q = kJ 199 836 [l0, l1, l2, some (.int x)] (.int x :: st) m Q := kJ_next d199_835 rfl
theorem d199_836 : decode (mB 199) 836 = .ok (.iconst 1, 1) := by decide +kernel
theorem s199_836 {l0 l1 l2 l3 : Option Value} {st : List Value} {m : kMem} {Q : Option Value → kMem → Prop} : kJ 199 836 [l0, l1, l2, l3] st m Q = kJ 199 837 [l0, l1, l2, l3] (.int (nI 1) :: st) m Q := kJ_next d199_836 rfl
theorem d199_837 : decode (mB 199) 837 = .ok (.iadd, 1) := by decide +kernel
theorem s199_837 {l0 l1 l2 l3 : Option Value} {st : List Value} {a b : Int32} {m : kMem} {Q : Option Value → kMem → Prop} : kJ 199 837 [l0, l1, l2, l3] (.int b :: .int a :: st) m Q = kJ 199 838 [l0, l1, l2, l3] (.int (a + b) :: st) m Q := kJ_next d199_837 rfl
theorem d199_838 : decode (mB 199) 838 = .ok (.iaload, 1) := by decide +kernel
theorem s199_838 {l0 l1 l2 l3 : Option Value} {st : List Value} {q : Nat} {i : Int32} {mi : Nat → Nat → Int32} {ml : Nat → Nat → Int64} {mr : Nat → Nat → Option Nat} {nx : Nat} {Q : Option Value → kMem → Prop} (h : kIs nx q 10 = true) : kJ 199 838 [l0, l1, l2, l3] (.int i :: .ref q :: st) (mi, ml, mr, nx) Q = (vp_in i (kAl q) ∧ kJ 199 839 [l0, l1, l2, l3] (.int (mi q i.toNatClampNeg) :: st) (mi, ml, mr, nx) Q) := kg_aldJ d199_838 rfl (kAr_of h)
theorem d199_839 : decode (mB 199) 839 = .ok (.aload_n 0, 1) := by decide +kernel
theorem s199_839 {l1 l2 l3 : Option Value} {st : List Value} {x : Nat} {m : kMem} {Q : Option Value → kMem → Prop} : kJ 199 839 [some (.ref x), l1, l2, l3] st m Q = kJ 199 840 [some (.ref x), l1, l2, l3] (.ref x :: st) m Q := kJ_next d199_839 rfl
theorem d199_840 : decode (mB 199) 840 = .ok (.iload_n 3, 1) := by decide +kernel
theorem s199_840 {l0 l1 l2 : Option Value} {st : List Value} {x : Int32} {m : kMem} {Q : Option Value → kMem → Prop} : kJ 199 840 [l0, l1, l2, some (.int x)] st m Q = kJ 199 841 [l0, l1, l2, some (.int x)] (.int x :: st) m Q := kJ_next d199_840 rfl
theorem d199_841 : decode (mB 199) 841 = .ok (.iconst 2, 1) := by decide +kernel
theorem s199_841 {l0 l1 l2 l3 : Option Value} {st : List Value} {m : kMem} {Q : Option Value → kMem → Prop} : kJ 199 841 [l0, l1, l2, l3] st m Q = kJ 199 842 [l0, l1, l2, l3] (.int (nI 2) :: st) m Q := kJ_next d199_841 rfl
theorem d199_842 : decode (mB 199) 842 = .ok (.iadd, 1) := by decide +kernel
theorem s199_842 {l0 l1 l2 l3 : Option Value} {st : List Value} {a b : Int32} {m : kMem} {Q : Option Value → kMem → Prop} : kJ 199 842 [l0, l1, l2, l3] (.int b :: .int a :: st) m Q = kJ 199 843 [l0, l1, l2, l3] (.int (a + b) :: st) m Q := kJ_next d199_842 rfl
theorem d199_843 : decode (mB 199) 843 = .ok (.iaload, 1) := by decide +kernel
theorem s199_843 {l0 l1 l2 l3 : Option Value} {st : List Value} {q : Nat} {i : Int32} {mi : Nat → Nat → Int32} {ml : Nat → Nat → Int64} {mr : Nat → Nat → Option Nat} {nx : Nat} {Q : Option Value → kMem → Prop} (h : kIs nx q 10 = true) : kJ 199 843 [l0, l1, l2, l3] (.int i :: .ref q :: st) (mi, ml, mr, nx) Q = (vp_in i (kAl q) ∧ kJ 199 844 [l0, l1, l2, l3] (.int (mi q i.toNatClampNeg) :: st) (mi, ml, mr, nx) Q) := kg_aldJ d199_843 rfl (kAr_of h)
theorem d199_844 : decode (mB 199) 844 = .ok (.invokevirtual 102, 3) := by decide +kernel
theorem s199_844 {l0 l1 l2 l3 : Option Value} {v0 : Int32} {v1 : Int32} {v2 : Nat} {m : kMem} {Q : Option Value → kMem → Prop} (h : kIs m.2.2.2 v2 4 = true) : kJ 199 844 [l0, l1, l2, l3] [.int v0, .int v1, .ref v2] m Q = kJ 73 0 [some (.ref v2), some (.int v1), some (.int v0), none] [] m (fun v m2 => kJ 199 847 [l0, l1, l2, l3] (v.toList ++ []) m2 Q) := kJ_call d199_844 (kg_callv 73 2 rfl rfl rfl rfl (Nat.le_of_ble_eq_true rfl) (Nat.le_of_ble_eq_true rfl) (Nat.le_of_ble_eq_true rfl) h rfl)
theorem d199_847 : decode (mB 199) 847 = .ok (.aload_n 2, 1) := by decide +kernel
theorem s199_847 {l0 l1 l3 : Option Value} {st : List Value} {x : Nat} {m : kMem} {Q : Option Value → kMem → Prop} : kJ 199 847 [l0, l1, some (.ref x), l3] st m Q = kJ 199 848 [l0, l1, some (.ref x), l3] (.ref x :: st) m Q := kJ_next d199_847 rfl
theorem d199_848 : decode (mB 199) 848 = .ok (.aload_n 0, 1) := by decide +kernel
theorem s199_848 {l1 l2 l3 : Option Value} {st : List Value} {x : Nat} {m : kMem} {Q : Option Value → kMem → Prop} : kJ 199 848 [some (.ref x), l1, l2, l3] st m Q = kJ 199 849 [some (.ref x), l1, l2, l3] (.ref x :: st) m Q := kJ_next d199_848 rfl
theorem d199_849 : decode (mB 199) 849 = .ok (.iload_n 3, 1) := by decide +kernel
theorem s199_849 {l0 l1 l2 : Option Value} {st : List Value} {x : Int32} {m : kMem} {Q : Option Value → kMem → Prop} : kJ 199 849 [l0, l1, l2, some (.int x)] st m Q = kJ 199 850 [l0, l1, l2, some (.int x)] (.int x :: st) m Q := kJ_next d199_849 rfl
theorem d199_850 : decode (mB 199) 850 = .ok (.iconst 1, 1) := by decide +kernel
theorem s199_850 {l0 l1 l2 l3 : Option Value} {st : List Value} {m : kMem} {Q : Option Value → kMem → Prop} : kJ 199 850 [l0, l1, l2, l3] st m Q = kJ 199 851 [l0, l1, l2, l3] (.int (nI 1) :: st) m Q := kJ_next d199_850 rfl
theorem d199_851 : decode (mB 199) 851 = .ok (.iadd, 1) := by decide +kernel
theorem s199_851 {l0 l1 l2 l3 : Option Value} {st : List Value} {a b : Int32} {m : kMem} {Q : Option Value → kMem → Prop} : kJ 199 851 [l0, l1, l2, l3] (.int b :: .int a :: st) m Q = kJ 199 852 [l0, l1, l2, l3] (.int (a + b) :: st) m Q := kJ_next d199_851 rfl
theorem d199_852 : decode (mB 199) 852 = .ok (.iaload, 1) := by decide +kernel
theorem s199_852 {l0 l1 l2 l3 : Option Value} {st : List Value} {q : Nat} {i : Int32} {mi : Nat → Nat → Int32} {ml : Nat → Nat → Int64} {mr : Nat → Nat → Option Nat} {nx : Nat} {Q : Option Value → kMem → Prop} (h : kIs nx q 10 = true) : kJ 199 852 [l0, l1, l2, l3] (.int i :: .ref q :: st) (mi, ml, mr, nx) Q = (vp_in i (kAl q) ∧ kJ 199 853 [l0, l1, l2, l3] (.int (mi q i.toNatClampNeg) :: st) (mi, ml, mr, nx) Q) := kg_aldJ d199_852 rfl (kAr_of h)
theorem d199_853 : decode (mB 199) 853 = .ok (.aload_n 0, 1) := by decide +kernel
theorem s199_853 {l1 l2 l3 : Option Value} {st : List Value} {x : Nat} {m : kMem} {Q : Option Value → kMem → Prop} : kJ 199 853 [some (.ref x), l1, l2, l3] st m Q = kJ 199 854 [some (.ref x), l1, l2, l3] (.ref x :: st) m Q := kJ_next d199_853 rfl
theorem d199_854 : decode (mB 199) 854 = .ok (.iload_n 3, 1) := by decide +kernel
theorem s199_854 {l0 l1 l2 : Option Value} {st : List Value} {x : Int32} {m : kMem} {Q : Option Value → kMem → Prop} : kJ 199 854 [l0, l1, l2, some (.int x)] st m Q = kJ 199 855 [l0, l1, l2, some (.int x)] (.int x :: st) m Q := kJ_next d199_854 rfl
theorem d199_855 : decode (mB 199) 855 = .ok (.iconst 2, 1) := by decide +kernel
theorem s199_855 {l0 l1 l2 l3 : Option Value} {st : List Value} {m : kMem} {Q : Option Value → kMem → Prop} : kJ 199 855 [l0, l1, l2, l3] st m Q = kJ 199 856 [l0, l1, l2, l3] (.int (nI 2) :: st) m Q := kJ_next d199_855 rfl
theorem d199_856 : decode (mB 199) 856 = .ok (.iadd, 1) := by decide +kernel
theorem s199_856 {l0 l1 l2 l3 : Option Value} {st : List Value} {a b : Int32} {m : kMem} {Q : Option Value → kMem → Prop} : kJ 199 856 [l0, l1, l2, l3] (.int b :: .int a :: st) m Q = kJ 199 857 [l0, l1, l2, l3] (.int (a + b) :: st) m Q := kJ_next d199_856 rfl
theorem d199_857 : decode (mB 199) 857 = .ok (.iaload, 1) := by decide +kernel
theorem s199_857 {l0 l1 l2 l3 : Option Value} {st : List Value} {q : Nat} {i : Int32} {mi : Nat → Nat → Int32} {ml : Nat → Nat → Int64} {mr : Nat → Nat → Option Nat} {nx : Nat} {Q : Option Value → kMem → Prop} (h : kIs nx q 10 = true) : kJ 199 857 [l0, l1, l2, l3] (.int i :: .ref q :: st) (mi, ml, mr, nx) Q = (vp_in i (kAl q) ∧ kJ 199 858 [l0, l1, l2, l3] (.int (mi q i.toNatClampNeg) :: st) (mi, ml, mr, nx) Q) := kg_aldJ d199_857 rfl (kAr_of h)
theorem d199_858 : decode (mB 199) 858 = .ok (.invokevirtual 105, 3) := by decide +kernel
theorem s199_858 {l0 l1 l2 l3 : Option Value} {v0 : Int32} {v1 : Int32} {v2 : Nat} {v3 : Int32} {m : kMem} {Q : Option Value → kMem → Prop} (h : kIs m.2.2.2 v2 5 = true) : kJ 199 858 [l0, l1, l2, l3] [.int v0, .int v1, .ref v2, .int v3] m Q = kJ 173 0 [some (.ref v2), some (.int v1), some (.int v0), none] [] m (fun v m2 => kJ 199 861 [l0, l1, l2, l3] (v.toList ++ [.int v3]) m2 Q) := kJ_call d199_858 (kg_callv 173 2 rfl rfl rfl rfl (Nat.le_of_ble_eq_true rfl) (Nat.le_of_ble_eq_true rfl) (Nat.le_of_ble_eq_true rfl) h rfl)
theorem d199_861 : decode (mB 199) 861 = .ok (.if_icmp .eq 555, 3) := by decide +kernel
theorem s199_861 {l0 l1 l2 l3 : Option Value} {st : List Value} {a b : Int32} {m : kMem} {Q : Option Value → kMem → Prop} : kJ 199 861 [l0, l1, l2, l3] (.int b :: .int a :: st) m Q = (if a = b then kJ 199 1416 [l0, l1, l2, l3] st m Q else kJ 199 864 [l0, l1, l2, l3] st m Q) := kJ_if d199_861 rfl (fun h => kJ_next d199_861 h) (fun h => kJ_next d199_861 h)
theorem d199_864 : decode (mB 199) 864 = .ok (.iconst 0, 1) := by decide +kernel
theorem s199_864 {l0 l1 l2 l3 : Option Value} {st : List Value} {m : kMem} {Q : Option Value → kMem → Prop} : kJ 199 864 [l0, l1, l2, l3] st m Q = kJ 199 865 [l0, l1, l2, l3] (.int (nI 0) :: st) m Q := kJ_next d199_864 rfl
theorem d199_865 : decode (mB 199) 865 = .ok (.ireturn, 1) := by decide +kernel
theorem s199_865 {l0 l1 l2 l3 : Option Value} {x : Int32} {m : kMem} {Q : Option Value → kMem → Prop} (hx : x = 0 ∨ x = 1) : kJ 199 865 [l0, l1, l2, l3] [.int x] m Q = Q (some (.int x)) m := kJ_ret d199_865 (kg_retz (by decide) hx)
theorem d199_866 : decode (mB 199) 866 = .ok (.aload_n 1, 1) := by decide +kernel
theorem s199_866 {l0 l2 l3 : Option Value} {st : List Value} {x : Nat} {m : kMem} {Q : Option Value → kMem → Prop} : kJ 199 866 [l0, some (.ref x), l2, l3] st m Q = kJ 199 867 [l0, some (.ref x), l2, l3] (.ref x :: st) m Q := kJ_next d199_866 rfl
theorem d199_867 : decode (mB 199) 867 = .ok (.aload_n 0, 1) := by decide +kernel
theorem s199_867 {l1 l2 l3 : Option Value} {st : List Value} {x : Nat} {m : kMem} {Q : Option Value → kMem → Prop} : kJ 199 867 [some (.ref x), l1, l2, l3] st m Q = kJ 199 868 [some (.ref x), l1, l2, l3] (.ref x :: st) m Q := kJ_next d199_867 rfl
theorem d199_868 : decode (mB 199) 868 = .ok (.iload_n 3, 1) := by decide +kernel
theorem s199_868 {l0 l1 l2 : Option Value} {st : List Value} {x : Int32} {m : kMem} {Q : Option Value → kMem → Prop} : kJ 199 868 [l0, l1, l2, some (.int x)] st m Q = kJ 199 869 [l0, l1, l2, some (.int x)] (.int x :: st) m Q := kJ_next d199_868 rfl
theorem d199_869 : decode (mB 199) 869 = .ok (.iconst 1, 1) := by decide +kernel
theorem s199_869 {l0 l1 l2 l3 : Option Value} {st : List Value} {m : kMem} {Q : Option Value → kMem → Prop} : kJ 199 869 [l0, l1, l2, l3] st m Q = kJ 199 870 [l0, l1, l2, l3] (.int (nI 1) :: st) m Q := kJ_next d199_869 rfl
theorem d199_870 : decode (mB 199) 870 = .ok (.iadd, 1) := by decide +kernel
theorem s199_870 {l0 l1 l2 l3 : Option Value} {st : List Value} {a b : Int32} {m : kMem} {Q : Option Value → kMem → Prop} : kJ 199 870 [l0, l1, l2, l3] (.int b :: .int a :: st) m Q = kJ 199 871 [l0, l1, l2, l3] (.int (a + b) :: st) m Q := kJ_next d199_870 rfl
theorem d199_871 : decode (mB 199) 871 = .ok (.iaload, 1) := by decide +kernel
theorem s199_871 {l0 l1 l2 l3 : Option Value} {st : List Value} {q : Nat} {i : Int32} {mi : Nat → Nat → Int32} {ml : Nat → Nat → Int64} {mr : Nat → Nat → Option Nat} {nx : Nat} {Q : Option Value → kMem → Prop} (h : kIs nx q 10 = true) : kJ 199 871 [l0, l1, l2, l3] (.int i :: .ref q :: st) (mi, ml, mr, nx) Q = (vp_in i (kAl q) ∧ kJ 199 872 [l0, l1, l2, l3] (.int (mi q i.toNatClampNeg) :: st) (mi, ml, mr, nx) Q) := kg_aldJ d199_871 rfl (kAr_of h)
theorem d199_872 : decode (mB 199) 872 = .ok (.aload_n 0, 1) := by decide +kernel
theorem s199_872 {l1 l2 l3 : Option Value} {st : List Value} {x : Nat} {m : kMem} {Q : Option Value → kMem → Prop} : kJ 199 872 [some (.ref x), l1, l2, l3] st m Q = kJ 199 873 [some (.ref x), l1, l2, l3] (.ref x :: st) m Q := kJ_next d199_872 rfl
theorem d199_873 : decode (mB 199) 873 = .ok (.iload_n 3, 1) := by decide +kernel
theorem s199_873 {l0 l1 l2 : Option Value} {st : List Value} {x : Int32} {m : kMem} {Q : Option Value → kMem → Prop} : kJ 199 873 [l0, l1, l2, some (.int x)] st m Q = kJ 199 874 [l0, l1, l2, some (.int x)] (.int x :: st) m Q := kJ_next d199_873 rfl
theorem d199_874 : decode (mB 199) 874 = .ok (.iconst 2, 1) := by decide +kernel
theorem s199_874 {l0 l1 l2 l3 : Option Value} {st : List Value} {m : kMem} {Q : Option Value → kMem → Prop} : kJ 199 874 [l0, l1, l2, l3] st m Q = kJ 199 875 [l0, l1, l2, l3] (.int (nI 2) :: st) m Q := kJ_next d199_874 rfl
theorem d199_875 : decode (mB 199) 875 = .ok (.iadd, 1) := by decide +kernel
theorem s199_875 {l0 l1 l2 l3 : Option Value} {st : List Value} {a b : Int32} {m : kMem} {Q : Option Value → kMem → Prop} : kJ 199 875 [l0, l1, l2, l3] (.int b :: .int a :: st) m Q = kJ 199 876 [l0, l1, l2, l3] (.int (a + b) :: st) m Q := kJ_next d199_875 rfl
theorem d199_876 : decode (mB 199) 876 = .ok (.iaload, 1) := by decide +kernel
theorem s199_876 {l0 l1 l2 l3 : Option Value} {st : List Value} {q : Nat} {i : Int32} {mi : Nat → Nat → Int32} {ml : Nat → Nat → Int64} {mr : Nat → Nat → Option Nat} {nx : Nat} {Q : Option Value → kMem → Prop} (h : kIs nx q 10 = true) : kJ 199 876 [l0, l1, l2, l3] (.int i :: .ref q :: st) (mi, ml, mr, nx) Q = (vp_in i (kAl q) ∧ kJ 199 877 [l0, l1, l2, l3] (.int (mi q i.toNatClampNeg) :: st) (mi, ml, mr, nx) Q) := kg_aldJ d199_876 rfl (kAr_of h)
theorem d199_877 : decode (mB 199) 877 = .ok (.aload_n 0, 1) := by decide +kernel
theorem s199_877 {l1 l2 l3 : Option Value} {st : List Value} {x : Nat} {m : kMem} {Q : Option Value → kMem → Prop} : kJ 199 877 [some (.ref x), l1, l2, l3] st m Q = kJ 199 878 [some (.ref x), l1, l2, l3] (.ref x :: st) m Q := kJ_next d199_877 rfl
theorem d199_878 : decode (mB 199) 878 = .ok (.iload_n 3, 1) := by decide +kernel
theorem s199_878 {l0 l1 l2 : Option Value} {st : List Value} {x : Int32} {m : kMem} {Q : Option Value → kMem → Prop} : kJ 199 878 [l0, l1, l2, some (.int x)] st m Q = kJ 199 879 [l0, l1, l2, some (.int x)] (.int x :: st) m Q := kJ_next d199_878 rfl
theorem d199_879 : decode (mB 199) 879 = .ok (.iconst 3, 1) := by decide +kernel
theorem s199_879 {l0 l1 l2 l3 : Option Value} {st : List Value} {m : kMem} {Q : Option Value → kMem → Prop} : kJ 199 879 [l0, l1, l2, l3] st m Q = kJ 199 880 [l0, l1, l2, l3] (.int (nI 3) :: st) m Q := kJ_next d199_879 rfl
theorem d199_880 : decode (mB 199) 880 = .ok (.iadd, 1) := by decide +kernel
theorem s199_880 {l0 l1 l2 l3 : Option Value} {st : List Value} {a b : Int32} {m : kMem} {Q : Option Value → kMem → Prop} : kJ 199 880 [l0, l1, l2, l3] (.int b :: .int a :: st) m Q = kJ 199 881 [l0, l1, l2, l3] (.int (a + b) :: st) m Q := kJ_next d199_880 rfl
theorem d199_881 : decode (mB 199) 881 = .ok (.iaload, 1) := by decide +kernel
theorem s199_881 {l0 l1 l2 l3 : Option Value} {st : List Value} {q : Nat} {i : Int32} {mi : Nat → Nat → Int32} {ml : Nat → Nat → Int64} {mr : Nat → Nat → Option Nat} {nx : Nat} {Q : Option Value → kMem → Prop} (h : kIs nx q 10 = true) : kJ 199 881 [l0, l1, l2, l3] (.int i :: .ref q :: st) (mi, ml, mr, nx) Q = (vp_in i (kAl q) ∧ kJ 199 882 [l0, l1, l2, l3] (.int (mi q i.toNatClampNeg) :: st) (mi, ml, mr, nx) Q) := kg_aldJ d199_881 rfl (kAr_of h)
theorem d199_882 : decode (mB 199) 882 = .ok (.invokevirtual 106, 3) := by decide +kernel
theorem s199_882 {l0 l1 l2 l3 : Option Value} {v0 : Int32} {v1 : Int32} {v2 : Int32} {v3 : Nat} {m : kMem} {Q : Option Value → kMem → Prop} (h : kIs m.2.2.2 v3 4 = true) : kJ 199 882 [l0, l1, l2, l3] [.int v0, .int v1, .int v2, .ref v3] m Q = kJ 74 0 [some (.ref v3), some (.int v2), some (.int v1), some (.int v0), none] [] m (fun v m2 => kJ 199 885 [l0, l1, l2, l3] (v.toList ++ []) m2 Q) := kJ_call d199_882 (kg_callv 74 3 rfl rfl rfl rfl (Nat.le_of_ble_eq_true rfl) (Nat.le_of_ble_eq_true rfl) (Nat.le_of_ble_eq_true rfl) h rfl)
theorem d199_885 : decode (mB 199) 885 = .ok (.aload_n 2, 1) := by decide +kernel
theorem s199_885 {l0 l1 l3 : Option Value} {st : List Value} {x : Nat} {m : kMem} {Q : Option Value → kMem → Prop} : kJ 199 885 [l0, l1, some (.ref x), l3] st m Q = kJ 199 886 [l0, l1, some (.ref x), l3] (.ref x :: st) m Q := kJ_next d199_885 rfl
theorem d199_886 : decode (mB 199) 886 = .ok (.aload_n 0, 1) := by decide +kernel
theorem s199_886 {l1 l2 l3 : Option Value} {st : List Value} {x : Nat} {m : kMem} {Q : Option Value → kMem → Prop} : kJ 199 886 [some (.ref x), l1, l2, l3] st m Q = kJ 199 887 [some (.ref x), l1, l2, l3] (.ref x :: st) m Q := kJ_next d199_886 rfl
theorem d199_887 : decode (mB 199) 887 = .ok (.iload_n 3, 1) := by decide +kernel
theorem s199_887 {l0 l1 l2 : Option Value} {st : List Value} {x : Int32} {m : kMem} {Q : Option Value → kMem → Prop} : kJ 199 887 [l0, l1, l2, some (.int x)] st m Q = kJ 199 888 [l0, l1, l2, some (.int x)] (.int x :: st) m Q := kJ_next d199_887 rfl
theorem d199_888 : decode (mB 199) 888 = .ok (.iconst 1, 1) := by decide +kernel
theorem s199_888 {l0 l1 l2 l3 : Option Value} {st : List Value} {m : kMem} {Q : Option Value → kMem → Prop} : kJ 199 888 [l0, l1, l2, l3] st m Q = kJ 199 889 [l0, l1, l2, l3] (.int (nI 1) :: st) m Q := kJ_next d199_888 rfl
theorem d199_889 : decode (mB 199) 889 = .ok (.iadd, 1) := by decide +kernel
theorem s199_889 {l0 l1 l2 l3 : Option Value} {st : List Value} {a b : Int32} {m : kMem} {Q : Option Value → kMem → Prop} : kJ 199 889 [l0, l1, l2, l3] (.int b :: .int a :: st) m Q = kJ 199 890 [l0, l1, l2, l3] (.int (a + b) :: st) m Q := kJ_next d199_889 rfl
theorem d199_890 : decode (mB 199) 890 = .ok (.iaload, 1) := by decide +kernel
theorem s199_890 {l0 l1 l2 l3 : Option Value} {st : List Value} {q : Nat} {i : Int32} {mi : Nat → Nat → Int32} {ml : Nat → Nat → Int64} {mr : Nat → Nat → Option Nat} {nx : Nat} {Q : Option Value → kMem → Prop} (h : kIs nx q 10 = true) : kJ 199 890 [l0, l1, l2, l3] (.int i :: .ref q :: st) (mi, ml, mr, nx) Q = (vp_in i (kAl q) ∧ kJ 199 891 [l0, l1, l2, l3] (.int (mi q i.toNatClampNeg) :: st) (mi, ml, mr, nx) Q) := kg_aldJ d199_890 rfl (kAr_of h)
theorem d199_891 : decode (mB 199) 891 = .ok (.aload_n 0, 1) := by decide +kernel
theorem s199_891 {l1 l2 l3 : Option Value} {st : List Value} {x : Nat} {m : kMem} {Q : Option Value → kMem → Prop} : kJ 199 891 [some (.ref x), l1, l2, l3] st m Q = kJ 199 892 [some (.ref x), l1, l2, l3] (.ref x :: st) m Q := kJ_next d199_891 rfl
theorem d199_892 : decode (mB 199) 892 = .ok (.iload_n 3, 1) := by decide +kernel
theorem s199_892 {l0 l1 l2 : Option Value} {st : List Value} {x : Int32} {m : kMem} {Q : Option Value → kMem → Prop} : kJ 199 892 [l0, l1, l2, some (.int x)] st m Q = kJ 199 893 [l0, l1, l2, some (.int x)] (.int x :: st) m Q := kJ_next d199_892 rfl
theorem d199_893 : decode (mB 199) 893 = .ok (.iconst 2, 1) := by decide +kernel
theorem s199_893 {l0 l1 l2 l3 : Option Value} {st : List Value} {m : kMem} {Q : Option Value → kMem → Prop} : kJ 199 893 [l0, l1, l2, l3] st m Q = kJ 199 894 [l0, l1, l2, l3] (.int (nI 2) :: st) m Q := kJ_next d199_893 rfl
theorem d199_894 : decode (mB 199) 894 = .ok (.iadd, 1) := by decide +kernel
theorem s199_894 {l0 l1 l2 l3 : Option Value} {st : List Value} {a b : Int32} {m : kMem} {Q : Option Value → kMem → Prop} : kJ 199 894 [l0, l1, l2, l3] (.int b :: .int a :: st) m Q = kJ 199 895 [l0, l1, l2, l3] (.int (a + b) :: st) m Q := kJ_next d199_894 rfl
theorem d199_895 : decode (mB 199) 895 = .ok (.iaload, 1) := by decide +kernel
theorem s199_895 {l0 l1 l2 l3 : Option Value} {st : List Value} {q : Nat} {i : Int32} {mi : Nat → Nat → Int32} {ml : Nat → Nat → Int64} {mr : Nat → Nat → Option Nat} {nx : Nat} {Q : Option Value → kMem → Prop} (h : kIs nx q 10 = true) : kJ 199 895 [l0, l1, l2, l3] (.int i :: .ref q :: st) (mi, ml, mr, nx) Q = (vp_in i (kAl q) ∧ kJ 199 896 [l0, l1, l2, l3] (.int (mi q i.toNatClampNeg) :: st) (mi, ml, mr, nx) Q) := kg_aldJ d199_895 rfl (kAr_of h)
theorem d199_896 : decode (mB 199) 896 = .ok (.aload_n 0, 1) := by decide +kernel
theorem s199_896 {l1 l2 l3 : Option Value} {st : List Value} {x : Nat} {m : kMem} {Q : Option Value → kMem → Prop} : kJ 199 896 [some (.ref x), l1, l2, l3] st m Q = kJ 199 897 [some (.ref x), l1, l2, l3] (.ref x :: st) m Q := kJ_next d199_896 rfl
theorem d199_897 : decode (mB 199) 897 = .ok (.iload_n 3, 1) := by decide +kernel
theorem s199_897 {l0 l1 l2 : Option Value} {st : List Value} {x : Int32} {m : kMem} {Q : Option Value → kMem → Prop} : kJ 199 897 [l0, l1, l2, some (.int x)] st m Q = kJ 199 898 [l0, l1, l2, some (.int x)] (.int x :: st) m Q := kJ_next d199_897 rfl
theorem d199_898 : decode (mB 199) 898 = .ok (.iconst 3, 1) := by decide +kernel
theorem s199_898 {l0 l1 l2 l3 : Option Value} {st : List Value} {m : kMem} {Q : Option Value → kMem → Prop} : kJ 199 898 [l0, l1, l2, l3] st m Q = kJ 199 899 [l0, l1, l2, l3] (.int (nI 3) :: st) m Q := kJ_next d199_898 rfl
theorem d199_899 : decode (mB 199) 899 = .ok (.iadd, 1) := by decide +kernel
theorem s199_899 {l0 l1 l2 l3 : Option Value} {st : List Value} {a b : Int32} {m : kMem} {Q : Option Value → kMem → Prop} : kJ 199 899 [l0, l1, l2, l3] (.int b :: .int a :: st) m Q = kJ 199 900 [l0, l1, l2, l3] (.int (a + b) :: st) m Q := kJ_next d199_899 rfl
theorem d199_900 : decode (mB 199) 900 = .ok (.iaload, 1) := by decide +kernel
theorem s199_900 {l0 l1 l2 l3 : Option Value} {st : List Value} {q : Nat} {i : Int32} {mi : Nat → Nat → Int32} {ml : Nat → Nat → Int64} {mr : Nat → Nat → Option Nat} {nx : Nat} {Q : Option Value → kMem → Prop} (h : kIs nx q 10 = true) : kJ 199 900 [l0, l1, l2, l3] (.int i :: .ref q :: st) (mi, ml, mr, nx) Q = (vp_in i (kAl q) ∧ kJ 199 901 [l0, l1, l2, l3] (.int (mi q i.toNatClampNeg) :: st) (mi, ml, mr, nx) Q) := kg_aldJ d199_900 rfl (kAr_of h)
theorem d199_901 : decode (mB 199) 901 = .ok (.invokevirtual 109, 3) := by decide +kernel
theorem s199_901 {l0 l1 l2 l3 : Option Value} {v0 : Int32} {v1 : Int32} {v2 : Int32} {v3 : Nat} {v4 : Int32} {m : kMem} {Q : Option Value → kMem → Prop} (h : kIs m.2.2.2 v3 5 = true) : kJ 199 901 [l0, l1, l2, l3] [.int v0, .int v1, .int v2, .ref v3, .int v4] m Q = kJ 174 0 [some (.ref v3), some (.int v2), some (.int v1), some (.int v0)] [] m (fun v m2 => kJ 199 904 [l0, l1, l2, l3] (v.toList ++ [.int v4]) m2 Q) := kJ_call d199_901 (kg_callv 174 3 rfl rfl rfl rfl (Nat.le_of_ble_eq_true rfl) (Nat.le_of_ble_eq_true rfl) (Nat.le_of_ble_eq_true rfl) h rfl)
theorem d199_904 : decode (mB 199) 904 = .ok (.if_icmp .eq 512, 3) := by decide +kernel
theorem s199_904 {l0 l1 l2 l3 : Option Value} {st : List Value} {a b : Int32} {m : kMem} {Q : Option Value → kMem → Prop} : kJ 199 904 [l0, l1, l2, l3] (.int b :: .int a :: st) m Q = (if a = b then kJ 199 1416 [l0, l1, l2, l3] st m Q else kJ 199 907 [l0, l1, l2, l3] st m Q) := kJ_if d199_904 rfl (fun h => kJ_next d199_904 h) (fun h => kJ_next d199_904 h)
theorem d199_907 : decode (mB 199) 907 = .ok (.iconst 0, 1) := by decide +kernel
theorem s199_907 {l0 l1 l2 l3 : Option Value} {st : List Value} {m : kMem} {Q : Option Value → kMem → Prop} : kJ 199 907 [l0, l1, l2, l3] st m Q = kJ 199 908 [l0, l1, l2, l3] (.int (nI 0) :: st) m Q := kJ_next d199_907 rfl
theorem d199_908 : decode (mB 199) 908 = .ok (.ireturn, 1) := by decide +kernel
theorem s199_908 {l0 l1 l2 l3 : Option Value} {x : Int32} {m : kMem} {Q : Option Value → kMem → Prop} (hx : x = 0 ∨ x = 1) : kJ 199 908 [l0, l1, l2, l3] [.int x] m Q = Q (some (.int x)) m := kJ_ret d199_908 (kg_retz (by decide) hx)
theorem d199_909 : decode (mB 199) 909 = .ok (.aload_n 1, 1) := by decide +kernel
theorem s199_909 {l0 l2 l3 : Option Value} {st : List Value} {x : Nat} {m : kMem} {Q : Option Value → kMem → Prop} : kJ 199 909 [l0, some (.ref x), l2, l3] st m Q = kJ 199 910 [l0, some (.ref x), l2, l3] (.ref x :: st) m Q := kJ_next d199_909 rfl
theorem d199_910 : decode (mB 199) 910 = .ok (.aload_n 0, 1) := by decide +kernel
theorem s199_910 {l1 l2 l3 : Option Value} {st : List Value} {x : Nat} {m : kMem} {Q : Option Value → kMem → Prop} : kJ 199 910 [some (.ref x), l1, l2, l3] st m Q = kJ 199 911 [some (.ref x), l1, l2, l3] (.ref x :: st) m Q := kJ_next d199_910 rfl
theorem d199_911 : decode (mB 199) 911 = .ok (.iload_n 3, 1) := by decide +kernel
theorem s199_911 {l0 l1 l2 : Option Value} {st : List Value} {x : Int32} {m : kMem} {Q : Option Value → kMem → Prop} : kJ 199 911 [l0, l1, l2, some (.int x)] st m Q = kJ 199 912 [l0, l1, l2, some (.int x)] (.int x :: st) m Q := kJ_next d199_911 rfl
theorem d199_912 : decode (mB 199) 912 = .ok (.iconst 1, 1) := by decide +kernel
theorem s199_912 {l0 l1 l2 l3 : Option Value} {st : List Value} {m : kMem} {Q : Option Value → kMem → Prop} : kJ 199 912 [l0, l1, l2, l3] st m Q = kJ 199 913 [l0, l1, l2, l3] (.int (nI 1) :: st) m Q := kJ_next d199_912 rfl
theorem d199_913 : decode (mB 199) 913 = .ok (.iadd, 1) := by decide +kernel
theorem s199_913 {l0 l1 l2 l3 : Option Value} {st : List Value} {a b : Int32} {m : kMem} {Q : Option Value → kMem → Prop} : kJ 199 913 [l0, l1, l2, l3] (.int b :: .int a :: st) m Q = kJ 199 914 [l0, l1, l2, l3] (.int (a + b) :: st) m Q := kJ_next d199_913 rfl
theorem d199_914 : decode (mB 199) 914 = .ok (.iaload, 1) := by decide +kernel
theorem s199_914 {l0 l1 l2 l3 : Option Value} {st : List Value} {q : Nat} {i : Int32} {mi : Nat → Nat → Int32} {ml : Nat → Nat → Int64} {mr : Nat → Nat → Option Nat} {nx : Nat} {Q : Option Value → kMem → Prop} (h : kIs nx q 10 = true) : kJ 199 914 [l0, l1, l2, l3] (.int i :: .ref q :: st) (mi, ml, mr, nx) Q = (vp_in i (kAl q) ∧ kJ 199 915 [l0, l1, l2, l3] (.int (mi q i.toNatClampNeg) :: st) (mi, ml, mr, nx) Q) := kg_aldJ d199_914 rfl (kAr_of h)
theorem d199_915 : decode (mB 199) 915 = .ok (.aload_n 0, 1) := by decide +kernel
theorem s199_915 {l1 l2 l3 : Option Value} {st : List Value} {x : Nat} {m : kMem} {Q : Option Value → kMem → Prop} : kJ 199 915 [some (.ref x), l1, l2, l3] st m Q = kJ 199 916 [some (.ref x), l1, l2, l3] (.ref x :: st) m Q := kJ_next d199_915 rfl
theorem d199_916 : decode (mB 199) 916 = .ok (.iload_n 3, 1) := by decide +kernel
theorem s199_916 {l0 l1 l2 : Option Value} {st : List Value} {x : Int32} {m : kMem} {Q : Option Value → kMem → Prop} : kJ 199 916 [l0, l1, l2, some (.int x)] st m Q = kJ 199 917 [l0, l1, l2, some (.int x)] (.int x :: st) m Q := kJ_next d199_916 rfl
theorem d199_917 : decode (mB 199) 917 = .ok (.iconst 2, 1) := by decide +kernel
theorem s199_917 {l0 l1 l2 l3 : Option Value} {st : List Value} {m : kMem} {Q : Option Value → kMem → Prop} : kJ 199 917 [l0, l1, l2, l3] st m Q = kJ 199 918 [l0, l1, l2, l3] (.int (nI 2) :: st) m Q := kJ_next d199_917 rfl
theorem d199_918 : decode (mB 199) 918 = .ok (.iadd, 1) := by decide +kernel
theorem s199_918 {l0 l1 l2 l3 : Option Value} {st : List Value} {a b : Int32} {m : kMem} {Q : Option Value → kMem → Prop} : kJ 199 918 [l0, l1, l2, l3] (.int b :: .int a :: st) m Q = kJ 199 919 [l0, l1, l2, l3] (.int (a + b) :: st) m Q := kJ_next d199_918 rfl
theorem d199_919 : decode (mB 199) 919 = .ok (.iaload, 1) := by decide +kernel
theorem s199_919 {l0 l1 l2 l3 : Option Value} {st : List Value} {q : Nat} {i : Int32} {mi : Nat → Nat → Int32} {ml : Nat → Nat → Int64} {mr : Nat → Nat → Option Nat} {nx : Nat} {Q : Option Value → kMem → Prop} (h : kIs nx q 10 = true) : kJ 199 919 [l0, l1, l2, l3] (.int i :: .ref q :: st) (mi, ml, mr, nx) Q = (vp_in i (kAl q) ∧ kJ 199 920 [l0, l1, l2, l3] (.int (mi q i.toNatClampNeg) :: st) (mi, ml, mr, nx) Q) := kg_aldJ d199_919 rfl (kAr_of h)
theorem d199_920 : decode (mB 199) 920 = .ok (.aload_n 0, 1) := by decide +kernel
theorem s199_920 {l1 l2 l3 : Option Value} {st : List Value} {x : Nat} {m : kMem} {Q : Option Value → kMem → Prop} : kJ 199 920 [some (.ref x), l1, l2, l3] st m Q = kJ 199 921 [some (.ref x), l1, l2, l3] (.ref x :: st) m Q := kJ_next d199_920 rfl
theorem d199_921 : decode (mB 199) 921 = .ok (.iload_n 3, 1) := by decide +kernel
theorem s199_921 {l0 l1 l2 : Option Value} {st : List Value} {x : Int32} {m : kMem} {Q : Option Value → kMem → Prop} : kJ 199 921 [l0, l1, l2, some (.int x)] st m Q = kJ 199 922 [l0, l1, l2, some (.int x)] (.int x :: st) m Q := kJ_next d199_921 rfl
theorem d199_922 : decode (mB 199) 922 = .ok (.iconst 3, 1) := by decide +kernel
theorem s199_922 {l0 l1 l2 l3 : Option Value} {st : List Value} {m : kMem} {Q : Option Value → kMem → Prop} : kJ 199 922 [l0, l1, l2, l3] st m Q = kJ 199 923 [l0, l1, l2, l3] (.int (nI 3) :: st) m Q := kJ_next d199_922 rfl
theorem d199_923 : decode (mB 199) 923 = .ok (.iadd, 1) := by decide +kernel
theorem s199_923 {l0 l1 l2 l3 : Option Value} {st : List Value} {a b : Int32} {m : kMem} {Q : Option Value → kMem → Prop} : kJ 199 923 [l0, l1, l2, l3] (.int b :: .int a :: st) m Q = kJ 199 924 [l0, l1, l2, l3] (.int (a + b) :: st) m Q := kJ_next d199_923 rfl
theorem d199_924 : decode (mB 199) 924 = .ok (.iaload, 1) := by decide +kernel
theorem s199_924 {l0 l1 l2 l3 : Option Value} {st : List Value} {q : Nat} {i : Int32} {mi : Nat → Nat → Int32} {ml : Nat → Nat → Int64} {mr : Nat → Nat → Option Nat} {nx : Nat} {Q : Option Value → kMem → Prop} (h : kIs nx q 10 = true) : kJ 199 924 [l0, l1, l2, l3] (.int i :: .ref q :: st) (mi, ml, mr, nx) Q = (vp_in i (kAl q) ∧ kJ 199 925 [l0, l1, l2, l3] (.int (mi q i.toNatClampNeg) :: st) (mi, ml, mr, nx) Q) := kg_aldJ d199_924 rfl (kAr_of h)
theorem d199_925 : decode (mB 199) 925 = .ok (.aload_n 0, 1) := by decide +kernel
theorem s199_925 {l1 l2 l3 : Option Value} {st : List Value} {x : Nat} {m : kMem} {Q : Option Value → kMem → Prop} : kJ 199 925 [some (.ref x), l1, l2, l3] st m Q = kJ 199 926 [some (.ref x), l1, l2, l3] (.ref x :: st) m Q := kJ_next d199_925 rfl
theorem d199_926 : decode (mB 199) 926 = .ok (.iload_n 3, 1) := by decide +kernel
theorem s199_926 {l0 l1 l2 : Option Value} {st : List Value} {x : Int32} {m : kMem} {Q : Option Value → kMem → Prop} : kJ 199 926 [l0, l1, l2, some (.int x)] st m Q = kJ 199 927 [l0, l1, l2, some (.int x)] (.int x :: st) m Q := kJ_next d199_926 rfl
theorem d199_927 : decode (mB 199) 927 = .ok (.iconst 4, 1) := by decide +kernel
theorem s199_927 {l0 l1 l2 l3 : Option Value} {st : List Value} {m : kMem} {Q : Option Value → kMem → Prop} : kJ 199 927 [l0, l1, l2, l3] st m Q = kJ 199 928 [l0, l1, l2, l3] (.int (nI 4) :: st) m Q := kJ_next d199_927 rfl
theorem d199_928 : decode (mB 199) 928 = .ok (.iadd, 1) := by decide +kernel
theorem s199_928 {l0 l1 l2 l3 : Option Value} {st : List Value} {a b : Int32} {m : kMem} {Q : Option Value → kMem → Prop} : kJ 199 928 [l0, l1, l2, l3] (.int b :: .int a :: st) m Q = kJ 199 929 [l0, l1, l2, l3] (.int (a + b) :: st) m Q := kJ_next d199_928 rfl
theorem d199_929 : decode (mB 199) 929 = .ok (.iaload, 1) := by decide +kernel
theorem s199_929 {l0 l1 l2 l3 : Option Value} {st : List Value} {q : Nat} {i : Int32} {mi : Nat → Nat → Int32} {ml : Nat → Nat → Int64} {mr : Nat → Nat → Option Nat} {nx : Nat} {Q : Option Value → kMem → Prop} (h : kIs nx q 10 = true) : kJ 199 929 [l0, l1, l2, l3] (.int i :: .ref q :: st) (mi, ml, mr, nx) Q = (vp_in i (kAl q) ∧ kJ 199 930 [l0, l1, l2, l3] (.int (mi q i.toNatClampNeg) :: st) (mi, ml, mr, nx) Q) := kg_aldJ d199_929 rfl (kAr_of h)
theorem d199_930 : decode (mB 199) 930 = .ok (.invokevirtual 110, 3) := by decide +kernel
theorem s199_930 {l0 l1 l2 l3 : Option Value} {v0 : Int32} {v1 : Int32} {v2 : Int32} {v3 : Int32} {v4 : Nat} {m : kMem} {Q : Option Value → kMem → Prop} (h : kIs m.2.2.2 v4 4 = true) : kJ 199 930 [l0, l1, l2, l3] [.int v0, .int v1, .int v2, .int v3, .ref v4] m Q = kJ 75 0 [some (.ref v4), some (.int v3), some (.int v2), some (.int v1), some (.int v0), none, none, none] [] m (fun v m2 => kJ 199 933 [l0, l1, l2, l3] (v.toList ++ []) m2 Q) := kJ_call d199_930 (kg_callv 75 4 rfl rfl rfl rfl (Nat.le_of_ble_eq_true rfl) (Nat.le_of_ble_eq_true rfl) (Nat.le_of_ble_eq_true rfl) h rfl)
theorem d199_933 : decode (mB 199) 933 = .ok (.aload_n 2, 1) := by decide +kernel
theorem s199_933 {l0 l1 l3 : Option Value} {st : List Value} {x : Nat} {m : kMem} {Q : Option Value → kMem → Prop} : kJ 199 933 [l0, l1, some (.ref x), l3] st m Q = kJ 199 934 [l0, l1, some (.ref x), l3] (.ref x :: st) m Q := kJ_next d199_933 rfl
theorem d199_934 : decode (mB 199) 934 = .ok (.aload_n 0, 1) := by decide +kernel
theorem s199_934 {l1 l2 l3 : Option Value} {st : List Value} {x : Nat} {m : kMem} {Q : Option Value → kMem → Prop} : kJ 199 934 [some (.ref x), l1, l2, l3] st m Q = kJ 199 935 [some (.ref x), l1, l2, l3] (.ref x :: st) m Q := kJ_next d199_934 rfl
theorem d199_935 : decode (mB 199) 935 = .ok (.iload_n 3, 1) := by decide +kernel
theorem s199_935 {l0 l1 l2 : Option Value} {st : List Value} {x : Int32} {m : kMem} {Q : Option Value → kMem → Prop} : kJ 199 935 [l0, l1, l2, some (.int x)] st m Q = kJ 199 936 [l0, l1, l2, some (.int x)] (.int x :: st) m Q := kJ_next d199_935 rfl
theorem d199_936 : decode (mB 199) 936 = .ok (.iconst 1, 1) := by decide +kernel
theorem s199_936 {l0 l1 l2 l3 : Option Value} {st : List Value} {m : kMem} {Q : Option Value → kMem → Prop} : kJ 199 936 [l0, l1, l2, l3] st m Q = kJ 199 937 [l0, l1, l2, l3] (.int (nI 1) :: st) m Q := kJ_next d199_936 rfl
theorem d199_937 : decode (mB 199) 937 = .ok (.iadd, 1) := by decide +kernel
theorem s199_937 {l0 l1 l2 l3 : Option Value} {st : List Value} {a b : Int32} {m : kMem} {Q : Option Value → kMem → Prop} : kJ 199 937 [l0, l1, l2, l3] (.int b :: .int a :: st) m Q = kJ 199 938 [l0, l1, l2, l3] (.int (a + b) :: st) m Q := kJ_next d199_937 rfl
theorem d199_938 : decode (mB 199) 938 = .ok (.iaload, 1) := by decide +kernel
theorem s199_938 {l0 l1 l2 l3 : Option Value} {st : List Value} {q : Nat} {i : Int32} {mi : Nat → Nat → Int32} {ml : Nat → Nat → Int64} {mr : Nat → Nat → Option Nat} {nx : Nat} {Q : Option Value → kMem → Prop} (h : kIs nx q 10 = true) : kJ 199 938 [l0, l1, l2, l3] (.int i :: .ref q :: st) (mi, ml, mr, nx) Q = (vp_in i (kAl q) ∧ kJ 199 939 [l0, l1, l2, l3] (.int (mi q i.toNatClampNeg) :: st) (mi, ml, mr, nx) Q) := kg_aldJ d199_938 rfl (kAr_of h)
theorem d199_939 : decode (mB 199) 939 = .ok (.aload_n 0, 1) := by decide +kernel
theorem s199_939 {l1 l2 l3 : Option Value} {st : List Value} {x : Nat} {m : kMem} {Q : Option Value → kMem → Prop} : kJ 199 939 [some (.ref x), l1, l2, l3] st m Q = kJ 199 940 [some (.ref x), l1, l2, l3] (.ref x :: st) m Q := kJ_next d199_939 rfl
theorem d199_940 : decode (mB 199) 940 = .ok (.iload_n 3, 1) := by decide +kernel
theorem s199_940 {l0 l1 l2 : Option Value} {st : List Value} {x : Int32} {m : kMem} {Q : Option Value → kMem → Prop} : kJ 199 940 [l0, l1, l2, some (.int x)] st m Q = kJ 199 941 [l0, l1, l2, some (.int x)] (.int x :: st) m Q := kJ_next d199_940 rfl
theorem d199_941 : decode (mB 199) 941 = .ok (.iconst 2, 1) := by decide +kernel
theorem s199_941 {l0 l1 l2 l3 : Option Value} {st : List Value} {m : kMem} {Q : Option Value → kMem → Prop} : kJ 199 941 [l0, l1, l2, l3] st m Q = kJ 199 942 [l0, l1, l2, l3] (.int (nI 2) :: st) m Q := kJ_next d199_941 rfl
theorem d199_942 : decode (mB 199) 942 = .ok (.iadd, 1) := by decide +kernel
theorem s199_942 {l0 l1 l2 l3 : Option Value} {st : List Value} {a b : Int32} {m : kMem} {Q : Option Value → kMem → Prop} : kJ 199 942 [l0, l1, l2, l3] (.int b :: .int a :: st) m Q = kJ 199 943 [l0, l1, l2, l3] (.int (a + b) :: st) m Q := kJ_next d199_942 rfl
theorem d199_943 : decode (mB 199) 943 = .ok (.iaload, 1) := by decide +kernel
theorem s199_943 {l0 l1 l2 l3 : Option Value} {st : List Value} {q : Nat} {i : Int32} {mi : Nat → Nat → Int32} {ml : Nat → Nat → Int64} {mr : Nat → Nat → Option Nat} {nx : Nat} {Q : Option Value → kMem → Prop} (h : kIs nx q 10 = true) : kJ 199 943 [l0, l1, l2, l3] (.int i :: .ref q :: st) (mi, ml, mr, nx) Q = (vp_in i (kAl q) ∧ kJ 199 944 [l0, l1, l2, l3] (.int (mi q i.toNatClampNeg) :: st) (mi, ml, mr, nx) Q) := kg_aldJ d199_943 rfl (kAr_of h)
theorem d199_944 : decode (mB 199) 944 = .ok (.aload_n 0, 1) := by decide +kernel
theorem s199_944 {l1 l2 l3 : Option Value} {st : List Value} {x : Nat} {m : kMem} {Q : Option Value → kMem → Prop} : kJ 199 944 [some (.ref x), l1, l2, l3] st m Q = kJ 199 945 [some (.ref x), l1, l2, l3] (.ref x :: st) m Q := kJ_next d199_944 rfl
theorem d199_945 : decode (mB 199) 945 = .ok (.iload_n 3, 1) := by decide +kernel
theorem s199_945 {l0 l1 l2 : Option Value} {st : List Value} {x : Int32} {m : kMem} {Q : Option Value → kMem → Prop} : kJ 199 945 [l0, l1, l2, some (.int x)] st m Q = kJ 199 946 [l0, l1, l2, some (.int x)] (.int x :: st) m Q := kJ_next d199_945 rfl
theorem d199_946 : decode (mB 199) 946 = .ok (.iconst 3, 1) := by decide +kernel
theorem s199_946 {l0 l1 l2 l3 : Option Value} {st : List Value} {m : kMem} {Q : Option Value → kMem → Prop} : kJ 199 946 [l0, l1, l2, l3] st m Q = kJ 199 947 [l0, l1, l2, l3] (.int (nI 3) :: st) m Q := kJ_next d199_946 rfl
theorem d199_947 : decode (mB 199) 947 = .ok (.iadd, 1) := by decide +kernel
theorem s199_947 {l0 l1 l2 l3 : Option Value} {st : List Value} {a b : Int32} {m : kMem} {Q : Option Value → kMem → Prop} : kJ 199 947 [l0, l1, l2, l3] (.int b :: .int a :: st) m Q = kJ 199 948 [l0, l1, l2, l3] (.int (a + b) :: st) m Q := kJ_next d199_947 rfl
theorem d199_948 : decode (mB 199) 948 = .ok (.iaload, 1) := by decide +kernel
theorem s199_948 {l0 l1 l2 l3 : Option Value} {st : List Value} {q : Nat} {i : Int32} {mi : Nat → Nat → Int32} {ml : Nat → Nat → Int64} {mr : Nat → Nat → Option Nat} {nx : Nat} {Q : Option Value → kMem → Prop} (h : kIs nx q 10 = true) : kJ 199 948 [l0, l1, l2, l3] (.int i :: .ref q :: st) (mi, ml, mr, nx) Q = (vp_in i (kAl q) ∧ kJ 199 949 [l0, l1, l2, l3] (.int (mi q i.toNatClampNeg) :: st) (mi, ml, mr, nx) Q) := kg_aldJ d199_948 rfl (kAr_of h)
theorem d199_949 : decode (mB 199) 949 = .ok (.aload_n 0, 1) := by decide +kernel
theorem s199_949 {l1 l2 l3 : Option Value} {st : List Value} {x : Nat} {m : kMem} {Q : Option Value → kMem → Prop} : kJ 199 949 [some (.ref x), l1, l2, l3] st m Q = kJ 199 950 [some (.ref x), l1, l2, l3] (.ref x :: st) m Q := kJ_next d199_949 rfl
theorem d199_950 : decode (mB 199) 950 = .ok (.iload_n 3, 1) := by decide +kernel
theorem s199_950 {l0 l1 l2 : Option Value} {st : List Value} {x : Int32} {m : kMem} {Q : Option Value → kMem → Prop} : kJ 199 950 [l0, l1, l2, some (.int x)] st m Q = kJ 199 951 [l0, l1, l2, some (.int x)] (.int x :: st) m Q := kJ_next d199_950 rfl
theorem d199_951 : decode (mB 199) 951 = .ok (.iconst 4, 1) := by decide +kernel
theorem s199_951 {l0 l1 l2 l3 : Option Value} {st : List Value} {m : kMem} {Q : Option Value → kMem → Prop} : kJ 199 951 [l0, l1, l2, l3] st m Q = kJ 199 952 [l0, l1, l2, l3] (.int (nI 4) :: st) m Q := kJ_next d199_951 rfl
theorem d199_952 : decode (mB 199) 952 = .ok (.iadd, 1) := by decide +kernel
theorem s199_952 {l0 l1 l2 l3 : Option Value} {st : List Value} {a b : Int32} {m : kMem} {Q : Option Value → kMem → Prop} : kJ 199 952 [l0, l1, l2, l3] (.int b :: .int a :: st) m Q = kJ 199 953 [l0, l1, l2, l3] (.int (a + b) :: st) m Q := kJ_next d199_952 rfl
theorem d199_953 : decode (mB 199) 953 = .ok (.iaload, 1) := by decide +kernel
theorem s199_953 {l0 l1 l2 l3 : Option Value} {st : List Value} {q : Nat} {i : Int32} {mi : Nat → Nat → Int32} {ml : Nat → Nat → Int64} {mr : Nat → Nat → Option Nat} {nx : Nat} {Q : Option Value → kMem → Prop} (h : kIs nx q 10 = true) : kJ 199 953 [l0, l1, l2, l3] (.int i :: .ref q :: st) (mi, ml, mr, nx) Q = (vp_in i (kAl q) ∧ kJ 199 954 [l0, l1, l2, l3] (.int (mi q i.toNatClampNeg) :: st) (mi, ml, mr, nx) Q) := kg_aldJ d199_953 rfl (kAr_of h)
theorem d199_954 : decode (mB 199) 954 = .ok (.invokevirtual 114, 3) := by decide +kernel
theorem s199_954 {l0 l1 l2 l3 : Option Value} {v0 : Int32} {v1 : Int32} {v2 : Int32} {v3 : Int32} {v4 : Nat} {v5 : Int64} {m : kMem} {Q : Option Value → kMem → Prop} (h : kIs m.2.2.2 v4 5 = true) : kJ 199 954 [l0, l1, l2, l3] [.int v0, .int v1, .int v2, .int v3, .ref v4, .long v5] m Q = kJ 178 0 [some (.ref v4), some (.int v3), some (.int v2), some (.int v1), some (.int v0)] [] m (fun v m2 => kJ 199 957 [l0, l1, l2, l3] (v.toList ++ [.long v5]) m2 Q) := kJ_call d199_954 (kg_callv 178 4 rfl rfl rfl rfl (Nat.le_of_ble_eq_true rfl) (Nat.le_of_ble_eq_true rfl) (Nat.le_of_ble_eq_true rfl) h rfl)
theorem d199_957 : decode (mB 199) 957 = .ok (.lcmp, 1) := by decide +kernel
theorem s199_957 {l0 l1 l2 l3 : Option Value} {st : List Value} {a b : Int64} {m : kMem} {Q : Option Value → kMem → Prop} : kJ 199 957 [l0, l1, l2, l3] (.long b :: .long a :: st) m Q = kJ 199 958 [l0, l1, l2, l3] (.int (lg_cmp a b) :: st) m Q := kJ_next d199_957 rfl
theorem d199_958 : decode (mB 199) 958 = .ok (.ifCond .eq 458, 3) := by decide +kernel
theorem s199_958 {l0 l1 l2 l3 : Option Value} {st : List Value} {a : Int32} {m : kMem} {Q : Option Value → kMem → Prop} : kJ 199 958 [l0, l1, l2, l3] (.int a :: st) m Q = (if a = 0 then kJ 199 1416 [l0, l1, l2, l3] st m Q else kJ 199 961 [l0, l1, l2, l3] st m Q) := kJ_if d199_958 rfl (fun h => kJ_next d199_958 h) (fun h => kJ_next d199_958 h)
theorem d199_961 : decode (mB 199) 961 = .ok (.iconst 0, 1) := by decide +kernel
theorem s199_961 {l0 l1 l2 l3 : Option Value} {st : List Value} {m : kMem} {Q : Option Value → kMem → Prop} : kJ 199 961 [l0, l1, l2, l3] st m Q = kJ 199 962 [l0, l1, l2, l3] (.int (nI 0) :: st) m Q := kJ_next d199_961 rfl
theorem d199_962 : decode (mB 199) 962 = .ok (.ireturn, 1) := by decide +kernel
theorem s199_962 {l0 l1 l2 l3 : Option Value} {x : Int32} {m : kMem} {Q : Option Value → kMem → Prop} (hx : x = 0 ∨ x = 1) : kJ 199 962 [l0, l1, l2, l3] [.int x] m Q = Q (some (.int x)) m := kJ_ret d199_962 (kg_retz (by decide) hx)
theorem d199_963 : decode (mB 199) 963 = .ok (.aload_n 1, 1) := by decide +kernel
theorem s199_963 {l0 l2 l3 : Option Value} {st : List Value} {x : Nat} {m : kMem} {Q : Option Value → kMem → Prop} : kJ 199 963 [l0, some (.ref x), l2, l3] st m Q = kJ 199 964 [l0, some (.ref x), l2, l3] (.ref x :: st) m Q := kJ_next d199_963 rfl
theorem d199_964 : decode (mB 199) 964 = .ok (.aload_n 0, 1) := by decide +kernel
theorem s199_964 {l1 l2 l3 : Option Value} {st : List Value} {x : Nat} {m : kMem} {Q : Option Value → kMem → Prop} : kJ 199 964 [some (.ref x), l1, l2, l3] st m Q = kJ 199 965 [some (.ref x), l1, l2, l3] (.ref x :: st) m Q := kJ_next d199_964 rfl
theorem d199_965 : decode (mB 199) 965 = .ok (.iload_n 3, 1) := by decide +kernel
theorem s199_965 {l0 l1 l2 : Option Value} {st : List Value} {x : Int32} {m : kMem} {Q : Option Value → kMem → Prop} : kJ 199 965 [l0, l1, l2, some (.int x)] st m Q = kJ 199 966 [l0, l1, l2, some (.int x)] (.int x :: st) m Q := kJ_next d199_965 rfl
theorem d199_966 : decode (mB 199) 966 = .ok (.iconst 1, 1) := by decide +kernel
theorem s199_966 {l0 l1 l2 l3 : Option Value} {st : List Value} {m : kMem} {Q : Option Value → kMem → Prop} : kJ 199 966 [l0, l1, l2, l3] st m Q = kJ 199 967 [l0, l1, l2, l3] (.int (nI 1) :: st) m Q := kJ_next d199_966 rfl
theorem d199_967 : decode (mB 199) 967 = .ok (.iadd, 1) := by decide +kernel
theorem s199_967 {l0 l1 l2 l3 : Option Value} {st : List Value} {a b : Int32} {m : kMem} {Q : Option Value → kMem → Prop} : kJ 199 967 [l0, l1, l2, l3] (.int b :: .int a :: st) m Q = kJ 199 968 [l0, l1, l2, l3] (.int (a + b) :: st) m Q := kJ_next d199_967 rfl
theorem d199_968 : decode (mB 199) 968 = .ok (.iaload, 1) := by decide +kernel
theorem s199_968 {l0 l1 l2 l3 : Option Value} {st : List Value} {q : Nat} {i : Int32} {mi : Nat → Nat → Int32} {ml : Nat → Nat → Int64} {mr : Nat → Nat → Option Nat} {nx : Nat} {Q : Option Value → kMem → Prop} (h : kIs nx q 10 = true) : kJ 199 968 [l0, l1, l2, l3] (.int i :: .ref q :: st) (mi, ml, mr, nx) Q = (vp_in i (kAl q) ∧ kJ 199 969 [l0, l1, l2, l3] (.int (mi q i.toNatClampNeg) :: st) (mi, ml, mr, nx) Q) := kg_aldJ d199_968 rfl (kAr_of h)
theorem d199_969 : decode (mB 199) 969 = .ok (.aload_n 0, 1) := by decide +kernel
theorem s199_969 {l1 l2 l3 : Option Value} {st : List Value} {x : Nat} {m : kMem} {Q : Option Value → kMem → Prop} : kJ 199 969 [some (.ref x), l1, l2, l3] st m Q = kJ 199 970 [some (.ref x), l1, l2, l3] (.ref x :: st) m Q := kJ_next d199_969 rfl
theorem d199_970 : decode (mB 199) 970 = .ok (.iload_n 3, 1) := by decide +kernel
theorem s199_970 {l0 l1 l2 : Option Value} {st : List Value} {x : Int32} {m : kMem} {Q : Option Value → kMem → Prop} : kJ 199 970 [l0, l1, l2, some (.int x)] st m Q = kJ 199 971 [l0, l1, l2, some (.int x)] (.int x :: st) m Q := kJ_next d199_970 rfl
theorem d199_971 : decode (mB 199) 971 = .ok (.iconst 2, 1) := by decide +kernel
theorem s199_971 {l0 l1 l2 l3 : Option Value} {st : List Value} {m : kMem} {Q : Option Value → kMem → Prop} : kJ 199 971 [l0, l1, l2, l3] st m Q = kJ 199 972 [l0, l1, l2, l3] (.int (nI 2) :: st) m Q := kJ_next d199_971 rfl
theorem d199_972 : decode (mB 199) 972 = .ok (.iadd, 1) := by decide +kernel
theorem s199_972 {l0 l1 l2 l3 : Option Value} {st : List Value} {a b : Int32} {m : kMem} {Q : Option Value → kMem → Prop} : kJ 199 972 [l0, l1, l2, l3] (.int b :: .int a :: st) m Q = kJ 199 973 [l0, l1, l2, l3] (.int (a + b) :: st) m Q := kJ_next d199_972 rfl
theorem d199_973 : decode (mB 199) 973 = .ok (.iaload, 1) := by decide +kernel
theorem s199_973 {l0 l1 l2 l3 : Option Value} {st : List Value} {q : Nat} {i : Int32} {mi : Nat → Nat → Int32} {ml : Nat → Nat → Int64} {mr : Nat → Nat → Option Nat} {nx : Nat} {Q : Option Value → kMem → Prop} (h : kIs nx q 10 = true) : kJ 199 973 [l0, l1, l2, l3] (.int i :: .ref q :: st) (mi, ml, mr, nx) Q = (vp_in i (kAl q) ∧ kJ 199 974 [l0, l1, l2, l3] (.int (mi q i.toNatClampNeg) :: st) (mi, ml, mr, nx) Q) := kg_aldJ d199_973 rfl (kAr_of h)
theorem d199_974 : decode (mB 199) 974 = .ok (.aload_n 0, 1) := by decide +kernel
theorem s199_974 {l1 l2 l3 : Option Value} {st : List Value} {x : Nat} {m : kMem} {Q : Option Value → kMem → Prop} : kJ 199 974 [some (.ref x), l1, l2, l3] st m Q = kJ 199 975 [some (.ref x), l1, l2, l3] (.ref x :: st) m Q := kJ_next d199_974 rfl
theorem d199_975 : decode (mB 199) 975 = .ok (.iload_n 3, 1) := by decide +kernel
theorem s199_975 {l0 l1 l2 : Option Value} {st : List Value} {x : Int32} {m : kMem} {Q : Option Value → kMem → Prop} : kJ 199 975 [l0, l1, l2, some (.int x)] st m Q = kJ 199 976 [l0, l1, l2, some (.int x)] (.int x :: st) m Q := kJ_next d199_975 rfl
theorem d199_976 : decode (mB 199) 976 = .ok (.iconst 3, 1) := by decide +kernel
theorem s199_976 {l0 l1 l2 l3 : Option Value} {st : List Value} {m : kMem} {Q : Option Value → kMem → Prop} : kJ 199 976 [l0, l1, l2, l3] st m Q = kJ 199 977 [l0, l1, l2, l3] (.int (nI 3) :: st) m Q := kJ_next d199_976 rfl
theorem d199_977 : decode (mB 199) 977 = .ok (.iadd, 1) := by decide +kernel
theorem s199_977 {l0 l1 l2 l3 : Option Value} {st : List Value} {a b : Int32} {m : kMem} {Q : Option Value → kMem → Prop} : kJ 199 977 [l0, l1, l2, l3] (.int b :: .int a :: st) m Q = kJ 199 978 [l0, l1, l2, l3] (.int (a + b) :: st) m Q := kJ_next d199_977 rfl
theorem d199_978 : decode (mB 199) 978 = .ok (.iaload, 1) := by decide +kernel
theorem s199_978 {l0 l1 l2 l3 : Option Value} {st : List Value} {q : Nat} {i : Int32} {mi : Nat → Nat → Int32} {ml : Nat → Nat → Int64} {mr : Nat → Nat → Option Nat} {nx : Nat} {Q : Option Value → kMem → Prop} (h : kIs nx q 10 = true) : kJ 199 978 [l0, l1, l2, l3] (.int i :: .ref q :: st) (mi, ml, mr, nx) Q = (vp_in i (kAl q) ∧ kJ 199 979 [l0, l1, l2, l3] (.int (mi q i.toNatClampNeg) :: st) (mi, ml, mr, nx) Q) := kg_aldJ d199_978 rfl (kAr_of h)
theorem d199_979 : decode (mB 199) 979 = .ok (.invokevirtual 115, 3) := by decide +kernel
theorem s199_979 {l0 l1 l2 l3 : Option Value} {v0 : Int32} {v1 : Int32} {v2 : Int32} {v3 : Nat} {m : kMem} {Q : Option Value → kMem → Prop} (h : kIs m.2.2.2 v3 4 = true) : kJ 199 979 [l0, l1, l2, l3] [.int v0, .int v1, .int v2, .ref v3] m Q = kJ 76 0 [some (.ref v3), some (.int v2), some (.int v1), some (.int v0), none, none, none] [] m (fun v m2 => kJ 199 982 [l0, l1, l2, l3] (v.toList ++ []) m2 Q) := kJ_call d199_979 (kg_callv 76 3 rfl rfl rfl rfl (Nat.le_of_ble_eq_true rfl) (Nat.le_of_ble_eq_true rfl) (Nat.le_of_ble_eq_true rfl) h rfl)
theorem d199_982 : decode (mB 199) 982 = .ok (.aload_n 2, 1) := by decide +kernel
theorem s199_982 {l0 l1 l3 : Option Value} {st : List Value} {x : Nat} {m : kMem} {Q : Option Value → kMem → Prop} : kJ 199 982 [l0, l1, some (.ref x), l3] st m Q = kJ 199 983 [l0, l1, some (.ref x), l3] (.ref x :: st) m Q := kJ_next d199_982 rfl
theorem d199_983 : decode (mB 199) 983 = .ok (.aload_n 0, 1) := by decide +kernel
theorem s199_983 {l1 l2 l3 : Option Value} {st : List Value} {x : Nat} {m : kMem} {Q : Option Value → kMem → Prop} : kJ 199 983 [some (.ref x), l1, l2, l3] st m Q = kJ 199 984 [some (.ref x), l1, l2, l3] (.ref x :: st) m Q := kJ_next d199_983 rfl
theorem d199_984 : decode (mB 199) 984 = .ok (.iload_n 3, 1) := by decide +kernel
theorem s199_984 {l0 l1 l2 : Option Value} {st : List Value} {x : Int32} {m : kMem} {Q : Option Value → kMem → Prop} : kJ 199 984 [l0, l1, l2, some (.int x)] st m Q = kJ 199 985 [l0, l1, l2, some (.int x)] (.int x :: st) m Q := kJ_next d199_984 rfl
theorem d199_985 : decode (mB 199) 985 = .ok (.iconst 1, 1) := by decide +kernel
theorem s199_985 {l0 l1 l2 l3 : Option Value} {st : List Value} {m : kMem} {Q : Option Value → kMem → Prop} : kJ 199 985 [l0, l1, l2, l3] st m Q = kJ 199 986 [l0, l1, l2, l3] (.int (nI 1) :: st) m Q := kJ_next d199_985 rfl
theorem d199_986 : decode (mB 199) 986 = .ok (.iadd, 1) := by decide +kernel
theorem s199_986 {l0 l1 l2 l3 : Option Value} {st : List Value} {a b : Int32} {m : kMem} {Q : Option Value → kMem → Prop} : kJ 199 986 [l0, l1, l2, l3] (.int b :: .int a :: st) m Q = kJ 199 987 [l0, l1, l2, l3] (.int (a + b) :: st) m Q := kJ_next d199_986 rfl
theorem d199_987 : decode (mB 199) 987 = .ok (.iaload, 1) := by decide +kernel
theorem s199_987 {l0 l1 l2 l3 : Option Value} {st : List Value} {q : Nat} {i : Int32} {mi : Nat → Nat → Int32} {ml : Nat → Nat → Int64} {mr : Nat → Nat → Option Nat} {nx : Nat} {Q : Option Value → kMem → Prop} (h : kIs nx q 10 = true) : kJ 199 987 [l0, l1, l2, l3] (.int i :: .ref q :: st) (mi, ml, mr, nx) Q = (vp_in i (kAl q) ∧ kJ 199 988 [l0, l1, l2, l3] (.int (mi q i.toNatClampNeg) :: st) (mi, ml, mr, nx) Q) := kg_aldJ d199_987 rfl (kAr_of h)
theorem d199_988 : decode (mB 199) 988 = .ok (.aload_n 0, 1) := by decide +kernel
theorem s199_988 {l1 l2 l3 : Option Value} {st : List Value} {x : Nat} {m : kMem} {Q : Option Value → kMem → Prop} : kJ 199 988 [some (.ref x), l1, l2, l3] st m Q = kJ 199 989 [some (.ref x), l1, l2, l3] (.ref x :: st) m Q := kJ_next d199_988 rfl
theorem d199_989 : decode (mB 199) 989 = .ok (.iload_n 3, 1) := by decide +kernel
theorem s199_989 {l0 l1 l2 : Option Value} {st : List Value} {x : Int32} {m : kMem} {Q : Option Value → kMem → Prop} : kJ 199 989 [l0, l1, l2, some (.int x)] st m Q = kJ 199 990 [l0, l1, l2, some (.int x)] (.int x :: st) m Q := kJ_next d199_989 rfl
theorem d199_990 : decode (mB 199) 990 = .ok (.iconst 2, 1) := by decide +kernel
theorem s199_990 {l0 l1 l2 l3 : Option Value} {st : List Value} {m : kMem} {Q : Option Value → kMem → Prop} : kJ 199 990 [l0, l1, l2, l3] st m Q = kJ 199 991 [l0, l1, l2, l3] (.int (nI 2) :: st) m Q := kJ_next d199_990 rfl
theorem d199_991 : decode (mB 199) 991 = .ok (.iadd, 1) := by decide +kernel
theorem s199_991 {l0 l1 l2 l3 : Option Value} {st : List Value} {a b : Int32} {m : kMem} {Q : Option Value → kMem → Prop} : kJ 199 991 [l0, l1, l2, l3] (.int b :: .int a :: st) m Q = kJ 199 992 [l0, l1, l2, l3] (.int (a + b) :: st) m Q := kJ_next d199_991 rfl
theorem d199_992 : decode (mB 199) 992 = .ok (.iaload, 1) := by decide +kernel
theorem s199_992 {l0 l1 l2 l3 : Option Value} {st : List Value} {q : Nat} {i : Int32} {mi : Nat → Nat → Int32} {ml : Nat → Nat → Int64} {mr : Nat → Nat → Option Nat} {nx : Nat} {Q : Option Value → kMem → Prop} (h : kIs nx q 10 = true) : kJ 199 992 [l0, l1, l2, l3] (.int i :: .ref q :: st) (mi, ml, mr, nx) Q = (vp_in i (kAl q) ∧ kJ 199 993 [l0, l1, l2, l3] (.int (mi q i.toNatClampNeg) :: st) (mi, ml, mr, nx) Q) := kg_aldJ d199_992 rfl (kAr_of h)
theorem d199_993 : decode (mB 199) 993 = .ok (.aload_n 0, 1) := by decide +kernel
theorem s199_993 {l1 l2 l3 : Option Value} {st : List Value} {x : Nat} {m : kMem} {Q : Option Value → kMem → Prop} : kJ 199 993 [some (.ref x), l1, l2, l3] st m Q = kJ 199 994 [some (.ref x), l1, l2, l3] (.ref x :: st) m Q := kJ_next d199_993 rfl
theorem d199_994 : decode (mB 199) 994 = .ok (.iload_n 3, 1) := by decide +kernel
theorem s199_994 {l0 l1 l2 : Option Value} {st : List Value} {x : Int32} {m : kMem} {Q : Option Value → kMem → Prop} : kJ 199 994 [l0, l1, l2, some (.int x)] st m Q = kJ 199 995 [l0, l1, l2, some (.int x)] (.int x :: st) m Q := kJ_next d199_994 rfl
theorem d199_995 : decode (mB 199) 995 = .ok (.iconst 3, 1) := by decide +kernel
theorem s199_995 {l0 l1 l2 l3 : Option Value} {st : List Value} {m : kMem} {Q : Option Value → kMem → Prop} : kJ 199 995 [l0, l1, l2, l3] st m Q = kJ 199 996 [l0, l1, l2, l3] (.int (nI 3) :: st) m Q := kJ_next d199_995 rfl
theorem d199_996 : decode (mB 199) 996 = .ok (.iadd, 1) := by decide +kernel
theorem s199_996 {l0 l1 l2 l3 : Option Value} {st : List Value} {a b : Int32} {m : kMem} {Q : Option Value → kMem → Prop} : kJ 199 996 [l0, l1, l2, l3] (.int b :: .int a :: st) m Q = kJ 199 997 [l0, l1, l2, l3] (.int (a + b) :: st) m Q := kJ_next d199_996 rfl
theorem d199_997 : decode (mB 199) 997 = .ok (.iaload, 1) := by decide +kernel
theorem s199_997 {l0 l1 l2 l3 : Option Value} {st : List Value} {q : Nat} {i : Int32} {mi : Nat → Nat → Int32} {ml : Nat → Nat → Int64} {mr : Nat → Nat → Option Nat} {nx : Nat} {Q : Option Value → kMem → Prop} (h : kIs nx q 10 = true) : kJ 199 997 [l0, l1, l2, l3] (.int i :: .ref q :: st) (mi, ml, mr, nx) Q = (vp_in i (kAl q) ∧ kJ 199 998 [l0, l1, l2, l3] (.int (mi q i.toNatClampNeg) :: st) (mi, ml, mr, nx) Q) := kg_aldJ d199_997 rfl (kAr_of h)
theorem d199_998 : decode (mB 199) 998 = .ok (.invokevirtual 119, 3) := by decide +kernel
theorem s199_998 {l0 l1 l2 l3 : Option Value} {v0 : Int32} {v1 : Int32} {v2 : Int32} {v3 : Nat} {v4 : Int64} {m : kMem} {Q : Option Value → kMem → Prop} (h : kIs m.2.2.2 v3 5 = true) : kJ 199 998 [l0, l1, l2, l3] [.int v0, .int v1, .int v2, .ref v3, .long v4] m Q = kJ 179 0 [some (.ref v3), some (.int v2), some (.int v1), some (.int v0)] [] m (fun v m2 => kJ 199 1001 [l0, l1, l2, l3] (v.toList ++ [.long v4]) m2 Q) := kJ_call d199_998 (kg_callv 179 3 rfl rfl rfl rfl (Nat.le_of_ble_eq_true rfl) (Nat.le_of_ble_eq_true rfl) (Nat.le_of_ble_eq_true rfl) h rfl)
theorem d199_1001 : decode (mB 199) 1001 = .ok (.lcmp, 1) := by decide +kernel
theorem s199_1001 {l0 l1 l2 l3 : Option Value} {st : List Value} {a b : Int64} {m : kMem} {Q : Option Value → kMem → Prop} : kJ 199 1001 [l0, l1, l2, l3] (.long b :: .long a :: st) m Q = kJ 199 1002 [l0, l1, l2, l3] (.int (lg_cmp a b) :: st) m Q := kJ_next d199_1001 rfl
theorem d199_1002 : decode (mB 199) 1002 = .ok (.ifCond .eq 414, 3) := by decide +kernel
theorem s199_1002 {l0 l1 l2 l3 : Option Value} {st : List Value} {a : Int32} {m : kMem} {Q : Option Value → kMem → Prop} : kJ 199 1002 [l0, l1, l2, l3] (.int a :: st) m Q = (if a = 0 then kJ 199 1416 [l0, l1, l2, l3] st m Q else kJ 199 1005 [l0, l1, l2, l3] st m Q) := kJ_if d199_1002 rfl (fun h => kJ_next d199_1002 h) (fun h => kJ_next d199_1002 h)
theorem d199_1005 : decode (mB 199) 1005 = .ok (.iconst 0, 1) := by decide +kernel
theorem s199_1005 {l0 l1 l2 l3 : Option Value} {st : List Value} {m : kMem} {Q : Option Value → kMem → Prop} : kJ 199 1005 [l0, l1, l2, l3] st m Q = kJ 199 1006 [l0, l1, l2, l3] (.int (nI 0) :: st) m Q := kJ_next d199_1005 rfl
theorem d199_1006 : decode (mB 199) 1006 = .ok (.ireturn, 1) := by decide +kernel
theorem s199_1006 {l0 l1 l2 l3 : Option Value} {x : Int32} {m : kMem} {Q : Option Value → kMem → Prop} (hx : x = 0 ∨ x = 1) : kJ 199 1006 [l0, l1, l2, l3] [.int x] m Q = Q (some (.int x)) m := kJ_ret d199_1006 (kg_retz (by decide) hx)
theorem d199_1007 : decode (mB 199) 1007 = .ok (.aload_n 1, 1) := by decide +kernel
theorem s199_1007 {l0 l2 l3 : Option Value} {st : List Value} {x : Nat} {m : kMem} {Q : Option Value → kMem → Prop} : kJ 199 1007 [l0, some (.ref x), l2, l3] st m Q = kJ 199 1008 [l0, some (.ref x), l2, l3] (.ref x :: st) m Q := kJ_next d199_1007 rfl
theorem d199_1008 : decode (mB 199) 1008 = .ok (.aload_n 0, 1) := by decide +kernel
theorem s199_1008 {l1 l2 l3 : Option Value} {st : List Value} {x : Nat} {m : kMem} {Q : Option Value → kMem → Prop} : kJ 199 1008 [some (.ref x), l1, l2, l3] st m Q = kJ 199 1009 [some (.ref x), l1, l2, l3] (.ref x :: st) m Q := kJ_next d199_1008 rfl
theorem d199_1009 : decode (mB 199) 1009 = .ok (.iload_n 3, 1) := by decide +kernel
theorem s199_1009 {l0 l1 l2 : Option Value} {st : List Value} {x : Int32} {m : kMem} {Q : Option Value → kMem → Prop} : kJ 199 1009 [l0, l1, l2, some (.int x)] st m Q = kJ 199 1010 [l0, l1, l2, some (.int x)] (.int x :: st) m Q := kJ_next d199_1009 rfl
theorem d199_1010 : decode (mB 199) 1010 = .ok (.iconst 1, 1) := by decide +kernel
theorem s199_1010 {l0 l1 l2 l3 : Option Value} {st : List Value} {m : kMem} {Q : Option Value → kMem → Prop} : kJ 199 1010 [l0, l1, l2, l3] st m Q = kJ 199 1011 [l0, l1, l2, l3] (.int (nI 1) :: st) m Q := kJ_next d199_1010 rfl
theorem d199_1011 : decode (mB 199) 1011 = .ok (.iadd, 1) := by decide +kernel
theorem s199_1011 {l0 l1 l2 l3 : Option Value} {st : List Value} {a b : Int32} {m : kMem} {Q : Option Value → kMem → Prop} : kJ 199 1011 [l0, l1, l2, l3] (.int b :: .int a :: st) m Q = kJ 199 1012 [l0, l1, l2, l3] (.int (a + b) :: st) m Q := kJ_next d199_1011 rfl
theorem d199_1012 : decode (mB 199) 1012 = .ok (.iaload, 1) := by decide +kernel
theorem s199_1012 {l0 l1 l2 l3 : Option Value} {st : List Value} {q : Nat} {i : Int32} {mi : Nat → Nat → Int32} {ml : Nat → Nat → Int64} {mr : Nat → Nat → Option Nat} {nx : Nat} {Q : Option Value → kMem → Prop} (h : kIs nx q 10 = true) : kJ 199 1012 [l0, l1, l2, l3] (.int i :: .ref q :: st) (mi, ml, mr, nx) Q = (vp_in i (kAl q) ∧ kJ 199 1013 [l0, l1, l2, l3] (.int (mi q i.toNatClampNeg) :: st) (mi, ml, mr, nx) Q) := kg_aldJ d199_1012 rfl (kAr_of h)
theorem d199_1013 : decode (mB 199) 1013 = .ok (.aload_n 0, 1) := by decide +kernel
theorem s199_1013 {l1 l2 l3 : Option Value} {st : List Value} {x : Nat} {m : kMem} {Q : Option Value → kMem → Prop} : kJ 199 1013 [some (.ref x), l1, l2, l3] st m Q = kJ 199 1014 [some (.ref x), l1, l2, l3] (.ref x :: st) m Q := kJ_next d199_1013 rfl
theorem d199_1014 : decode (mB 199) 1014 = .ok (.iload_n 3, 1) := by decide +kernel
theorem s199_1014 {l0 l1 l2 : Option Value} {st : List Value} {x : Int32} {m : kMem} {Q : Option Value → kMem → Prop} : kJ 199 1014 [l0, l1, l2, some (.int x)] st m Q = kJ 199 1015 [l0, l1, l2, some (.int x)] (.int x :: st) m Q := kJ_next d199_1014 rfl
theorem d199_1015 : decode (mB 199) 1015 = .ok (.iconst 2, 1) := by decide +kernel
theorem s199_1015 {l0 l1 l2 l3 : Option Value} {st : List Value} {m : kMem} {Q : Option Value → kMem → Prop} : kJ 199 1015 [l0, l1, l2, l3] st m Q = kJ 199 1016 [l0, l1, l2, l3] (.int (nI 2) :: st) m Q := kJ_next d199_1015 rfl
theorem d199_1016 : decode (mB 199) 1016 = .ok (.iadd, 1) := by decide +kernel
theorem s199_1016 {l0 l1 l2 l3 : Option Value} {st : List Value} {a b : Int32} {m : kMem} {Q : Option Value → kMem → Prop} : kJ 199 1016 [l0, l1, l2, l3] (.int b :: .int a :: st) m Q = kJ 199 1017 [l0, l1, l2, l3] (.int (a + b) :: st) m Q := kJ_next d199_1016 rfl
theorem d199_1017 : decode (mB 199) 1017 = .ok (.iaload, 1) := by decide +kernel
theorem s199_1017 {l0 l1 l2 l3 : Option Value} {st : List Value} {q : Nat} {i : Int32} {mi : Nat → Nat → Int32} {ml : Nat → Nat → Int64} {mr : Nat → Nat → Option Nat} {nx : Nat} {Q : Option Value → kMem → Prop} (h : kIs nx q 10 = true) : kJ 199 1017 [l0, l1, l2, l3] (.int i :: .ref q :: st) (mi, ml, mr, nx) Q = (vp_in i (kAl q) ∧ kJ 199 1018 [l0, l1, l2, l3] (.int (mi q i.toNatClampNeg) :: st) (mi, ml, mr, nx) Q) := kg_aldJ d199_1017 rfl (kAr_of h)
theorem d199_1018 : decode (mB 199) 1018 = .ok (.aload_n 0, 1) := by decide +kernel
theorem s199_1018 {l1 l2 l3 : Option Value} {st : List Value} {x : Nat} {m : kMem} {Q : Option Value → kMem → Prop} : kJ 199 1018 [some (.ref x), l1, l2, l3] st m Q = kJ 199 1019 [some (.ref x), l1, l2, l3] (.ref x :: st) m Q := kJ_next d199_1018 rfl
theorem d199_1019 : decode (mB 199) 1019 = .ok (.iload_n 3, 1) := by decide +kernel
theorem s199_1019 {l0 l1 l2 : Option Value} {st : List Value} {x : Int32} {m : kMem} {Q : Option Value → kMem → Prop} : kJ 199 1019 [l0, l1, l2, some (.int x)] st m Q = kJ 199 1020 [l0, l1, l2, some (.int x)] (.int x :: st) m Q := kJ_next d199_1019 rfl
theorem d199_1020 : decode (mB 199) 1020 = .ok (.iconst 3, 1) := by decide +kernel
theorem s199_1020 {l0 l1 l2 l3 : Option Value} {st : List Value} {m : kMem} {Q : Option Value → kMem → Prop} : kJ 199 1020 [l0, l1, l2, l3] st m Q = kJ 199 1021 [l0, l1, l2, l3] (.int (nI 3) :: st) m Q := kJ_next d199_1020 rfl
theorem d199_1021 : decode (mB 199) 1021 = .ok (.iadd, 1) := by decide +kernel
theorem s199_1021 {l0 l1 l2 l3 : Option Value} {st : List Value} {a b : Int32} {m : kMem} {Q : Option Value → kMem → Prop} : kJ 199 1021 [l0, l1, l2, l3] (.int b :: .int a :: st) m Q = kJ 199 1022 [l0, l1, l2, l3] (.int (a + b) :: st) m Q := kJ_next d199_1021 rfl
theorem d199_1022 : decode (mB 199) 1022 = .ok (.iaload, 1) := by decide +kernel
theorem s199_1022 {l0 l1 l2 l3 : Option Value} {st : List Value} {q : Nat} {i : Int32} {mi : Nat → Nat → Int32} {ml : Nat → Nat → Int64} {mr : Nat → Nat → Option Nat} {nx : Nat} {Q : Option Value → kMem → Prop} (h : kIs nx q 10 = true) : kJ 199 1022 [l0, l1, l2, l3] (.int i :: .ref q :: st) (mi, ml, mr, nx) Q = (vp_in i (kAl q) ∧ kJ 199 1023 [l0, l1, l2, l3] (.int (mi q i.toNatClampNeg) :: st) (mi, ml, mr, nx) Q) := kg_aldJ d199_1022 rfl (kAr_of h)
theorem d199_1023 : decode (mB 199) 1023 = .ok (.invokevirtual 120, 3) := by decide +kernel
theorem s199_1023 {l0 l1 l2 l3 : Option Value} {v0 : Int32} {v1 : Int32} {v2 : Int32} {v3 : Nat} {m : kMem} {Q : Option Value → kMem → Prop} (h : kIs m.2.2.2 v3 4 = true) : kJ 199 1023 [l0, l1, l2, l3] [.int v0, .int v1, .int v2, .ref v3] m Q = kJ 77 0 [some (.ref v3), some (.int v2), some (.int v1), some (.int v0)] [] m (fun v m2 => kJ 199 1026 [l0, l1, l2, l3] (v.toList ++ []) m2 Q) := kJ_call d199_1023 (kg_callv 77 3 rfl rfl rfl rfl (Nat.le_of_ble_eq_true rfl) (Nat.le_of_ble_eq_true rfl) (Nat.le_of_ble_eq_true rfl) h rfl)
theorem d199_1026 : decode (mB 199) 1026 = .ok (.aload_n 2, 1) := by decide +kernel
theorem s199_1026 {l0 l1 l3 : Option Value} {st : List Value} {x : Nat} {m : kMem} {Q : Option Value → kMem → Prop} : kJ 199 1026 [l0, l1, some (.ref x), l3] st m Q = kJ 199 1027 [l0, l1, some (.ref x), l3] (.ref x :: st) m Q := kJ_next d199_1026 rfl
theorem d199_1027 : decode (mB 199) 1027 = .ok (.aload_n 0, 1) := by decide +kernel
theorem s199_1027 {l1 l2 l3 : Option Value} {st : List Value} {x : Nat} {m : kMem} {Q : Option Value → kMem → Prop} : kJ 199 1027 [some (.ref x), l1, l2, l3] st m Q = kJ 199 1028 [some (.ref x), l1, l2, l3] (.ref x :: st) m Q := kJ_next d199_1027 rfl
theorem d199_1028 : decode (mB 199) 1028 = .ok (.iload_n 3, 1) := by decide +kernel
theorem s199_1028 {l0 l1 l2 : Option Value} {st : List Value} {x : Int32} {m : kMem} {Q : Option Value → kMem → Prop} : kJ 199 1028 [l0, l1, l2, some (.int x)] st m Q = kJ 199 1029 [l0, l1, l2, some (.int x)] (.int x :: st) m Q := kJ_next d199_1028 rfl
theorem d199_1029 : decode (mB 199) 1029 = .ok (.iconst 1, 1) := by decide +kernel
theorem s199_1029 {l0 l1 l2 l3 : Option Value} {st : List Value} {m : kMem} {Q : Option Value → kMem → Prop} : kJ 199 1029 [l0, l1, l2, l3] st m Q = kJ 199 1030 [l0, l1, l2, l3] (.int (nI 1) :: st) m Q := kJ_next d199_1029 rfl
theorem d199_1030 : decode (mB 199) 1030 = .ok (.iadd, 1) := by decide +kernel
theorem s199_1030 {l0 l1 l2 l3 : Option Value} {st : List Value} {a b : Int32} {m : kMem} {Q : Option Value → kMem → Prop} : kJ 199 1030 [l0, l1, l2, l3] (.int b :: .int a :: st) m Q = kJ 199 1031 [l0, l1, l2, l3] (.int (a + b) :: st) m Q := kJ_next d199_1030 rfl
theorem d199_1031 : decode (mB 199) 1031 = .ok (.iaload, 1) := by decide +kernel
theorem s199_1031 {l0 l1 l2 l3 : Option Value} {st : List Value} {q : Nat} {i : Int32} {mi : Nat → Nat → Int32} {ml : Nat → Nat → Int64} {mr : Nat → Nat → Option Nat} {nx : Nat} {Q : Option Value → kMem → Prop} (h : kIs nx q 10 = true) : kJ 199 1031 [l0, l1, l2, l3] (.int i :: .ref q :: st) (mi, ml, mr, nx) Q = (vp_in i (kAl q) ∧ kJ 199 1032 [l0, l1, l2, l3] (.int (mi q i.toNatClampNeg) :: st) (mi, ml, mr, nx) Q) := kg_aldJ d199_1031 rfl (kAr_of h)
theorem d199_1032 : decode (mB 199) 1032 = .ok (.aload_n 0, 1) := by decide +kernel
theorem s199_1032 {l1 l2 l3 : Option Value} {st : List Value} {x : Nat} {m : kMem} {Q : Option Value → kMem → Prop} : kJ 199 1032 [some (.ref x), l1, l2, l3] st m Q = kJ 199 1033 [some (.ref x), l1, l2, l3] (.ref x :: st) m Q := kJ_next d199_1032 rfl
theorem d199_1033 : decode (mB 199) 1033 = .ok (.iload_n 3, 1) := by decide +kernel
theorem s199_1033 {l0 l1 l2 : Option Value} {st : List Value} {x : Int32} {m : kMem} {Q : Option Value → kMem → Prop} : kJ 199 1033 [l0, l1, l2, some (.int x)] st m Q = kJ 199 1034 [l0, l1, l2, some (.int x)] (.int x :: st) m Q := kJ_next d199_1033 rfl
theorem d199_1034 : decode (mB 199) 1034 = .ok (.iconst 2, 1) := by decide +kernel
theorem s199_1034 {l0 l1 l2 l3 : Option Value} {st : List Value} {m : kMem} {Q : Option Value → kMem → Prop} : kJ 199 1034 [l0, l1, l2, l3] st m Q = kJ 199 1035 [l0, l1, l2, l3] (.int (nI 2) :: st) m Q := kJ_next d199_1034 rfl
theorem d199_1035 : decode (mB 199) 1035 = .ok (.iadd, 1) := by decide +kernel
theorem s199_1035 {l0 l1 l2 l3 : Option Value} {st : List Value} {a b : Int32} {m : kMem} {Q : Option Value → kMem → Prop} : kJ 199 1035 [l0, l1, l2, l3] (.int b :: .int a :: st) m Q = kJ 199 1036 [l0, l1, l2, l3] (.int (a + b) :: st) m Q := kJ_next d199_1035 rfl
theorem d199_1036 : decode (mB 199) 1036 = .ok (.iaload, 1) := by decide +kernel
theorem s199_1036 {l0 l1 l2 l3 : Option Value} {st : List Value} {q : Nat} {i : Int32} {mi : Nat → Nat → Int32} {ml : Nat → Nat → Int64} {mr : Nat → Nat → Option Nat} {nx : Nat} {Q : Option Value → kMem → Prop} (h : kIs nx q 10 = true) : kJ 199 1036 [l0, l1, l2, l3] (.int i :: .ref q :: st) (mi, ml, mr, nx) Q = (vp_in i (kAl q) ∧ kJ 199 1037 [l0, l1, l2, l3] (.int (mi q i.toNatClampNeg) :: st) (mi, ml, mr, nx) Q) := kg_aldJ d199_1036 rfl (kAr_of h)
theorem d199_1037 : decode (mB 199) 1037 = .ok (.aload_n 0, 1) := by decide +kernel
theorem s199_1037 {l1 l2 l3 : Option Value} {st : List Value} {x : Nat} {m : kMem} {Q : Option Value → kMem → Prop} : kJ 199 1037 [some (.ref x), l1, l2, l3] st m Q = kJ 199 1038 [some (.ref x), l1, l2, l3] (.ref x :: st) m Q := kJ_next d199_1037 rfl
theorem d199_1038 : decode (mB 199) 1038 = .ok (.iload_n 3, 1) := by decide +kernel
theorem s199_1038 {l0 l1 l2 : Option Value} {st : List Value} {x : Int32} {m : kMem} {Q : Option Value → kMem → Prop} : kJ 199 1038 [l0, l1, l2, some (.int x)] st m Q = kJ 199 1039 [l0, l1, l2, some (.int x)] (.int x :: st) m Q := kJ_next d199_1038 rfl
theorem d199_1039 : decode (mB 199) 1039 = .ok (.iconst 3, 1) := by decide +kernel
theorem s199_1039 {l0 l1 l2 l3 : Option Value} {st : List Value} {m : kMem} {Q : Option Value → kMem → Prop} : kJ 199 1039 [l0, l1, l2, l3] st m Q = kJ 199 1040 [l0, l1, l2, l3] (.int (nI 3) :: st) m Q := kJ_next d199_1039 rfl
theorem d199_1040 : decode (mB 199) 1040 = .ok (.iadd, 1) := by decide +kernel
theorem s199_1040 {l0 l1 l2 l3 : Option Value} {st : List Value} {a b : Int32} {m : kMem} {Q : Option Value → kMem → Prop} : kJ 199 1040 [l0, l1, l2, l3] (.int b :: .int a :: st) m Q = kJ 199 1041 [l0, l1, l2, l3] (.int (a + b) :: st) m Q := kJ_next d199_1040 rfl
theorem d199_1041 : decode (mB 199) 1041 = .ok (.iaload, 1) := by decide +kernel
theorem s199_1041 {l0 l1 l2 l3 : Option Value} {st : List Value} {q : Nat} {i : Int32} {mi : Nat → Nat → Int32} {ml : Nat → Nat → Int64} {mr : Nat → Nat → Option Nat} {nx : Nat} {Q : Option Value → kMem → Prop} (h : kIs nx q 10 = true) : kJ 199 1041 [l0, l1, l2, l3] (.int i :: .ref q :: st) (mi, ml, mr, nx) Q = (vp_in i (kAl q) ∧ kJ 199 1042 [l0, l1, l2, l3] (.int (mi q i.toNatClampNeg) :: st) (mi, ml, mr, nx) Q) := kg_aldJ d199_1041 rfl (kAr_of h)
theorem d199_1042 : decode (mB 199) 1042 = .ok (.invokevirtual 123, 3) := by decide +kernel
theorem s199_1042 {l0 l1 l2 l3 : Option Value} {v0 : Int32} {v1 : Int32} {v2 : Int32} {v3 : Nat} {v4 : Int32} {m : kMem} {Q : Option Value → kMem → Prop} (h : kIs m.2.2.2 v3 5 = true) : kJ 199 1042 [l0, l1, l2, l3] [.int v0, .int v1, .int v2, .ref v3, .int v4] m Q = kJ 180 0 [some (.ref v3), some (.int v2), some (.int v1), some (.int v0), none] [] m (fun v m2 => kJ 199 1045 [l0, l1, l2, l3] (v.toList ++ [.int v4]) m2 Q) := kJ_call d199_1042 (kg_callv 180 3 rfl rfl rfl rfl (Nat.le_of_ble_eq_true rfl) (Nat.le_of_ble_eq_true rfl) (Nat.le_of_ble_eq_true rfl) h rfl)
theorem d199_1045 : decode (mB 199) 1045 = .ok (.if_icmp .eq 371, 3) := by decide +kernel
theorem s199_1045 {l0 l1 l2 l3 : Option Value} {st : List Value} {a b : Int32} {m : kMem} {Q : Option Value → kMem → Prop} : kJ 199 1045 [l0, l1, l2, l3] (.int b :: .int a :: st) m Q = (if a = b then kJ 199 1416 [l0, l1, l2, l3] st m Q else kJ 199 1048 [l0, l1, l2, l3] st m Q) := kJ_if d199_1045 rfl (fun h => kJ_next d199_1045 h) (fun h => kJ_next d199_1045 h)
theorem d199_1048 : decode (mB 199) 1048 = .ok (.iconst 0, 1) := by decide +kernel
theorem s199_1048 {l0 l1 l2 l3 : Option Value} {st : List Value} {m : kMem} {Q : Option Value → kMem → Prop} : kJ 199 1048 [l0, l1, l2, l3] st m Q = kJ 199 1049 [l0, l1, l2, l3] (.int (nI 0) :: st) m Q := kJ_next d199_1048 rfl
theorem d199_1049 : decode (mB 199) 1049 = .ok (.ireturn, 1) := by decide +kernel
theorem s199_1049 {l0 l1 l2 l3 : Option Value} {x : Int32} {m : kMem} {Q : Option Value → kMem → Prop} (hx : x = 0 ∨ x = 1) : kJ 199 1049 [l0, l1, l2, l3] [.int x] m Q = Q (some (.int x)) m := kJ_ret d199_1049 (kg_retz (by decide) hx)
theorem d199_1050 : decode (mB 199) 1050 = .ok (.aload_n 1, 1) := by decide +kernel
theorem s199_1050 {l0 l2 l3 : Option Value} {st : List Value} {x : Nat} {m : kMem} {Q : Option Value → kMem → Prop} : kJ 199 1050 [l0, some (.ref x), l2, l3] st m Q = kJ 199 1051 [l0, some (.ref x), l2, l3] (.ref x :: st) m Q := kJ_next d199_1050 rfl
theorem d199_1051 : decode (mB 199) 1051 = .ok (.aload_n 0, 1) := by decide +kernel
theorem s199_1051 {l1 l2 l3 : Option Value} {st : List Value} {x : Nat} {m : kMem} {Q : Option Value → kMem → Prop} : kJ 199 1051 [some (.ref x), l1, l2, l3] st m Q = kJ 199 1052 [some (.ref x), l1, l2, l3] (.ref x :: st) m Q := kJ_next d199_1051 rfl
theorem d199_1052 : decode (mB 199) 1052 = .ok (.iload_n 3, 1) := by decide +kernel
theorem s199_1052 {l0 l1 l2 : Option Value} {st : List Value} {x : Int32} {m : kMem} {Q : Option Value → kMem → Prop} : kJ 199 1052 [l0, l1, l2, some (.int x)] st m Q = kJ 199 1053 [l0, l1, l2, some (.int x)] (.int x :: st) m Q := kJ_next d199_1052 rfl
theorem d199_1053 : decode (mB 199) 1053 = .ok (.iconst 1, 1) := by decide +kernel
theorem s199_1053 {l0 l1 l2 l3 : Option Value} {st : List Value} {m : kMem} {Q : Option Value → kMem → Prop} : kJ 199 1053 [l0, l1, l2, l3] st m Q = kJ 199 1054 [l0, l1, l2, l3] (.int (nI 1) :: st) m Q := kJ_next d199_1053 rfl
theorem d199_1054 : decode (mB 199) 1054 = .ok (.iadd, 1) := by decide +kernel
theorem s199_1054 {l0 l1 l2 l3 : Option Value} {st : List Value} {a b : Int32} {m : kMem} {Q : Option Value → kMem → Prop} : kJ 199 1054 [l0, l1, l2, l3] (.int b :: .int a :: st) m Q = kJ 199 1055 [l0, l1, l2, l3] (.int (a + b) :: st) m Q := kJ_next d199_1054 rfl
theorem d199_1055 : decode (mB 199) 1055 = .ok (.iaload, 1) := by decide +kernel
theorem s199_1055 {l0 l1 l2 l3 : Option Value} {st : List Value} {q : Nat} {i : Int32} {mi : Nat → Nat → Int32} {ml : Nat → Nat → Int64} {mr : Nat → Nat → Option Nat} {nx : Nat} {Q : Option Value → kMem → Prop} (h : kIs nx q 10 = true) : kJ 199 1055 [l0, l1, l2, l3] (.int i :: .ref q :: st) (mi, ml, mr, nx) Q = (vp_in i (kAl q) ∧ kJ 199 1056 [l0, l1, l2, l3] (.int (mi q i.toNatClampNeg) :: st) (mi, ml, mr, nx) Q) := kg_aldJ d199_1055 rfl (kAr_of h)
theorem d199_1056 : decode (mB 199) 1056 = .ok (.invokevirtual 124, 3) := by decide +kernel
theorem s199_1056 {l0 l1 l2 l3 : Option Value} {v0 : Int32} {v1 : Nat} {m : kMem} {Q : Option Value → kMem → Prop} (h : kIs m.2.2.2 v1 4 = true) : kJ 199 1056 [l0, l1, l2, l3] [.int v0, .ref v1] m Q = kJ 78 0 [some (.ref v1), some (.int v0), none] [] m (fun v m2 => kJ 199 1059 [l0, l1, l2, l3] (v.toList ++ []) m2 Q) := kJ_call d199_1056 (kg_callv 78 1 rfl rfl rfl rfl (Nat.le_of_ble_eq_true rfl) (Nat.le_of_ble_eq_true rfl) (Nat.le_of_ble_eq_true rfl) h rfl)
theorem d199_1059 : decode (mB 199) 1059 = .ok (.aload_n 2, 1) := by decide +kernel
theorem s199_1059 {l0 l1 l3 : Option Value} {st : List Value} {x : Nat} {m : kMem} {Q : Option Value → kMem → Prop} : kJ 199 1059 [l0, l1, some (.ref x), l3] st m Q = kJ 199 1060 [l0, l1, some (.ref x), l3] (.ref x :: st) m Q := kJ_next d199_1059 rfl
theorem d199_1060 : decode (mB 199) 1060 = .ok (.aload_n 0, 1) := by decide +kernel
theorem s199_1060 {l1 l2 l3 : Option Value} {st : List Value} {x : Nat} {m : kMem} {Q : Option Value → kMem → Prop} : kJ 199 1060 [some (.ref x), l1, l2, l3] st m Q = kJ 199 1061 [some (.ref x), l1, l2, l3] (.ref x :: st) m Q := kJ_next d199_1060 rfl
theorem d199_1061 : decode (mB 199) 1061 = .ok (.iload_n 3, 1) := by decide +kernel
theorem s199_1061 {l0 l1 l2 : Option Value} {st : List Value} {x : Int32} {m : kMem} {Q : Option Value → kMem → Prop} : kJ 199 1061 [l0, l1, l2, some (.int x)] st m Q = kJ 199 1062 [l0, l1, l2, some (.int x)] (.int x :: st) m Q := kJ_next d199_1061 rfl
theorem d199_1062 : decode (mB 199) 1062 = .ok (.iconst 1, 1) := by decide +kernel
theorem s199_1062 {l0 l1 l2 l3 : Option Value} {st : List Value} {m : kMem} {Q : Option Value → kMem → Prop} : kJ 199 1062 [l0, l1, l2, l3] st m Q = kJ 199 1063 [l0, l1, l2, l3] (.int (nI 1) :: st) m Q := kJ_next d199_1062 rfl
theorem d199_1063 : decode (mB 199) 1063 = .ok (.iadd, 1) := by decide +kernel
theorem s199_1063 {l0 l1 l2 l3 : Option Value} {st : List Value} {a b : Int32} {m : kMem} {Q : Option Value → kMem → Prop} : kJ 199 1063 [l0, l1, l2, l3] (.int b :: .int a :: st) m Q = kJ 199 1064 [l0, l1, l2, l3] (.int (a + b) :: st) m Q := kJ_next d199_1063 rfl
theorem d199_1064 : decode (mB 199) 1064 = .ok (.iaload, 1) := by decide +kernel
theorem s199_1064 {l0 l1 l2 l3 : Option Value} {st : List Value} {q : Nat} {i : Int32} {mi : Nat → Nat → Int32} {ml : Nat → Nat → Int64} {mr : Nat → Nat → Option Nat} {nx : Nat} {Q : Option Value → kMem → Prop} (h : kIs nx q 10 = true) : kJ 199 1064 [l0, l1, l2, l3] (.int i :: .ref q :: st) (mi, ml, mr, nx) Q = (vp_in i (kAl q) ∧ kJ 199 1065 [l0, l1, l2, l3] (.int (mi q i.toNatClampNeg) :: st) (mi, ml, mr, nx) Q) := kg_aldJ d199_1064 rfl (kAr_of h)
theorem d199_1065 : decode (mB 199) 1065 = .ok (.invokevirtual 127, 3) := by decide +kernel
theorem s199_1065 {l0 l1 l2 l3 : Option Value} {v0 : Int32} {v1 : Nat} {v2 : Int32} {m : kMem} {Q : Option Value → kMem → Prop} (h : kIs m.2.2.2 v1 5 = true) : kJ 199 1065 [l0, l1, l2, l3] [.int v0, .ref v1, .int v2] m Q = kJ 181 0 [some (.ref v1), some (.int v0)] [] m (fun v m2 => kJ 199 1068 [l0, l1, l2, l3] (v.toList ++ [.int v2]) m2 Q) := kJ_call d199_1065 (kg_callv 181 1 rfl rfl rfl rfl (Nat.le_of_ble_eq_true rfl) (Nat.le_of_ble_eq_true rfl) (Nat.le_of_ble_eq_true rfl) h rfl)
theorem d199_1068 : decode (mB 199) 1068 = .ok (.if_icmp .eq 348, 3) := by decide +kernel
theorem s199_1068 {l0 l1 l2 l3 : Option Value} {st : List Value} {a b : Int32} {m : kMem} {Q : Option Value → kMem → Prop} : kJ 199 1068 [l0, l1, l2, l3] (.int b :: .int a :: st) m Q = (if a = b then kJ 199 1416 [l0, l1, l2, l3] st m Q else kJ 199 1071 [l0, l1, l2, l3] st m Q) := kJ_if d199_1068 rfl (fun h => kJ_next d199_1068 h) (fun h => kJ_next d199_1068 h)
theorem d199_1071 : decode (mB 199) 1071 = .ok (.iconst 0, 1) := by decide +kernel
theorem s199_1071 {l0 l1 l2 l3 : Option Value} {st : List Value} {m : kMem} {Q : Option Value → kMem → Prop} : kJ 199 1071 [l0, l1, l2, l3] st m Q = kJ 199 1072 [l0, l1, l2, l3] (.int (nI 0) :: st) m Q := kJ_next d199_1071 rfl
theorem d199_1072 : decode (mB 199) 1072 = .ok (.ireturn, 1) := by decide +kernel
theorem s199_1072 {l0 l1 l2 l3 : Option Value} {x : Int32} {m : kMem} {Q : Option Value → kMem → Prop} (hx : x = 0 ∨ x = 1) : kJ 199 1072 [l0, l1, l2, l3] [.int x] m Q = Q (some (.int x)) m := kJ_ret d199_1072 (kg_retz (by decide) hx)
theorem d199_1073 : decode (mB 199) 1073 = .ok (.aload_n 1, 1) := by decide +kernel
theorem s199_1073 {l0 l2 l3 : Option Value} {st : List Value} {x : Nat} {m : kMem} {Q : Option Value → kMem → Prop} : kJ 199 1073 [l0, some (.ref x), l2, l3] st m Q = kJ 199 1074 [l0, some (.ref x), l2, l3] (.ref x :: st) m Q := kJ_next d199_1073 rfl
theorem d199_1074 : decode (mB 199) 1074 = .ok (.aload_n 0, 1) := by decide +kernel
theorem s199_1074 {l1 l2 l3 : Option Value} {st : List Value} {x : Nat} {m : kMem} {Q : Option Value → kMem → Prop} : kJ 199 1074 [some (.ref x), l1, l2, l3] st m Q = kJ 199 1075 [some (.ref x), l1, l2, l3] (.ref x :: st) m Q := kJ_next d199_1074 rfl
theorem d199_1075 : decode (mB 199) 1075 = .ok (.iload_n 3, 1) := by decide +kernel
theorem s199_1075 {l0 l1 l2 : Option Value} {st : List Value} {x : Int32} {m : kMem} {Q : Option Value → kMem → Prop} : kJ 199 1075 [l0, l1, l2, some (.int x)] st m Q = kJ 199 1076 [l0, l1, l2, some (.int x)] (.int x :: st) m Q := kJ_next d199_1075 rfl
theorem d199_1076 : decode (mB 199) 1076 = .ok (.iconst 1, 1) := by decide +kernel
theorem s199_1076 {l0 l1 l2 l3 : Option Value} {st : List Value} {m : kMem} {Q : Option Value → kMem → Prop} : kJ 199 1076 [l0, l1, l2, l3] st m Q = kJ 199 1077 [l0, l1, l2, l3] (.int (nI 1) :: st) m Q := kJ_next d199_1076 rfl
theorem d199_1077 : decode (mB 199) 1077 = .ok (.iadd, 1) := by decide +kernel
theorem s199_1077 {l0 l1 l2 l3 : Option Value} {st : List Value} {a b : Int32} {m : kMem} {Q : Option Value → kMem → Prop} : kJ 199 1077 [l0, l1, l2, l3] (.int b :: .int a :: st) m Q = kJ 199 1078 [l0, l1, l2, l3] (.int (a + b) :: st) m Q := kJ_next d199_1077 rfl
theorem d199_1078 : decode (mB 199) 1078 = .ok (.iaload, 1) := by decide +kernel
theorem s199_1078 {l0 l1 l2 l3 : Option Value} {st : List Value} {q : Nat} {i : Int32} {mi : Nat → Nat → Int32} {ml : Nat → Nat → Int64} {mr : Nat → Nat → Option Nat} {nx : Nat} {Q : Option Value → kMem → Prop} (h : kIs nx q 10 = true) : kJ 199 1078 [l0, l1, l2, l3] (.int i :: .ref q :: st) (mi, ml, mr, nx) Q = (vp_in i (kAl q) ∧ kJ 199 1079 [l0, l1, l2, l3] (.int (mi q i.toNatClampNeg) :: st) (mi, ml, mr, nx) Q) := kg_aldJ d199_1078 rfl (kAr_of h)
theorem d199_1079 : decode (mB 199) 1079 = .ok (.invokevirtual 128, 3) := by decide +kernel
theorem s199_1079 {l0 l1 l2 l3 : Option Value} {v0 : Int32} {v1 : Nat} {m : kMem} {Q : Option Value → kMem → Prop} (h : kIs m.2.2.2 v1 4 = true) : kJ 199 1079 [l0, l1, l2, l3] [.int v0, .ref v1] m Q = kJ 79 0 [some (.ref v1), some (.int v0), none, none] [] m (fun v m2 => kJ 199 1082 [l0, l1, l2, l3] (v.toList ++ []) m2 Q) := kJ_call d199_1079 (kg_callv 79 1 rfl rfl rfl rfl (Nat.le_of_ble_eq_true rfl) (Nat.le_of_ble_eq_true rfl) (Nat.le_of_ble_eq_true rfl) h rfl)
theorem d199_1082 : decode (mB 199) 1082 = .ok (.aload_n 2, 1) := by decide +kernel
theorem s199_1082 {l0 l1 l3 : Option Value} {st : List Value} {x : Nat} {m : kMem} {Q : Option Value → kMem → Prop} : kJ 199 1082 [l0, l1, some (.ref x), l3] st m Q = kJ 199 1083 [l0, l1, some (.ref x), l3] (.ref x :: st) m Q := kJ_next d199_1082 rfl
theorem d199_1083 : decode (mB 199) 1083 = .ok (.aload_n 0, 1) := by decide +kernel
theorem s199_1083 {l1 l2 l3 : Option Value} {st : List Value} {x : Nat} {m : kMem} {Q : Option Value → kMem → Prop} : kJ 199 1083 [some (.ref x), l1, l2, l3] st m Q = kJ 199 1084 [some (.ref x), l1, l2, l3] (.ref x :: st) m Q := kJ_next d199_1083 rfl
theorem d199_1084 : decode (mB 199) 1084 = .ok (.iload_n 3, 1) := by decide +kernel
theorem s199_1084 {l0 l1 l2 : Option Value} {st : List Value} {x : Int32} {m : kMem} {Q : Option Value → kMem → Prop} : kJ 199 1084 [l0, l1, l2, some (.int x)] st m Q = kJ 199 1085 [l0, l1, l2, some (.int x)] (.int x :: st) m Q := kJ_next d199_1084 rfl
theorem d199_1085 : decode (mB 199) 1085 = .ok (.iconst 1, 1) := by decide +kernel
theorem s199_1085 {l0 l1 l2 l3 : Option Value} {st : List Value} {m : kMem} {Q : Option Value → kMem → Prop} : kJ 199 1085 [l0, l1, l2, l3] st m Q = kJ 199 1086 [l0, l1, l2, l3] (.int (nI 1) :: st) m Q := kJ_next d199_1085 rfl
theorem d199_1086 : decode (mB 199) 1086 = .ok (.iadd, 1) := by decide +kernel
theorem s199_1086 {l0 l1 l2 l3 : Option Value} {st : List Value} {a b : Int32} {m : kMem} {Q : Option Value → kMem → Prop} : kJ 199 1086 [l0, l1, l2, l3] (.int b :: .int a :: st) m Q = kJ 199 1087 [l0, l1, l2, l3] (.int (a + b) :: st) m Q := kJ_next d199_1086 rfl
theorem d199_1087 : decode (mB 199) 1087 = .ok (.iaload, 1) := by decide +kernel
theorem s199_1087 {l0 l1 l2 l3 : Option Value} {st : List Value} {q : Nat} {i : Int32} {mi : Nat → Nat → Int32} {ml : Nat → Nat → Int64} {mr : Nat → Nat → Option Nat} {nx : Nat} {Q : Option Value → kMem → Prop} (h : kIs nx q 10 = true) : kJ 199 1087 [l0, l1, l2, l3] (.int i :: .ref q :: st) (mi, ml, mr, nx) Q = (vp_in i (kAl q) ∧ kJ 199 1088 [l0, l1, l2, l3] (.int (mi q i.toNatClampNeg) :: st) (mi, ml, mr, nx) Q) := kg_aldJ d199_1087 rfl (kAr_of h)
theorem d199_1088 : decode (mB 199) 1088 = .ok (.invokevirtual 131, 3) := by decide +kernel
theorem s199_1088 {l0 l1 l2 l3 : Option Value} {v0 : Int32} {v1 : Nat} {v2 : Int32} {m : kMem} {Q : Option Value → kMem → Prop} (h : kIs m.2.2.2 v1 5 = true) : kJ 199 1088 [l0, l1, l2, l3] [.int v0, .ref v1, .int v2] m Q = kJ 184 0 [some (.ref v1), some (.int v0)] [] m (fun v m2 => kJ 199 1091 [l0, l1, l2, l3] (v.toList ++ [.int v2]) m2 Q) := kJ_call d199_1088 (kg_callv 184 1 rfl rfl rfl rfl (Nat.le_of_ble_eq_true rfl) (Nat.le_of_ble_eq_true rfl) (Nat.le_of_ble_eq_true rfl) h rfl)
theorem d199_1091 : decode (mB 199) 1091 = .ok (.if_icmp .eq 325, 3) := by decide +kernel
theorem s199_1091 {l0 l1 l2 l3 : Option Value} {st : List Value} {a b : Int32} {m : kMem} {Q : Option Value → kMem → Prop} : kJ 199 1091 [l0, l1, l2, l3] (.int b :: .int a :: st) m Q = (if a = b then kJ 199 1416 [l0, l1, l2, l3] st m Q else kJ 199 1094 [l0, l1, l2, l3] st m Q) := kJ_if d199_1091 rfl (fun h => kJ_next d199_1091 h) (fun h => kJ_next d199_1091 h)
theorem d199_1094 : decode (mB 199) 1094 = .ok (.iconst 0, 1) := by decide +kernel
theorem s199_1094 {l0 l1 l2 l3 : Option Value} {st : List Value} {m : kMem} {Q : Option Value → kMem → Prop} : kJ 199 1094 [l0, l1, l2, l3] st m Q = kJ 199 1095 [l0, l1, l2, l3] (.int (nI 0) :: st) m Q := kJ_next d199_1094 rfl
theorem d199_1095 : decode (mB 199) 1095 = .ok (.ireturn, 1) := by decide +kernel
theorem s199_1095 {l0 l1 l2 l3 : Option Value} {x : Int32} {m : kMem} {Q : Option Value → kMem → Prop} (hx : x = 0 ∨ x = 1) : kJ 199 1095 [l0, l1, l2, l3] [.int x] m Q = Q (some (.int x)) m := kJ_ret d199_1095 (kg_retz (by decide) hx)
theorem d199_1096 : decode (mB 199) 1096 = .ok (.aload_n 1, 1) := by decide +kernel
theorem s199_1096 {l0 l2 l3 : Option Value} {st : List Value} {x : Nat} {m : kMem} {Q : Option Value → kMem → Prop} : kJ 199 1096 [l0, some (.ref x), l2, l3] st m Q = kJ 199 1097 [l0, some (.ref x), l2, l3] (.ref x :: st) m Q := kJ_next d199_1096 rfl
theorem d199_1097 : decode (mB 199) 1097 = .ok (.aload_n 0, 1) := by decide +kernel
theorem s199_1097 {l1 l2 l3 : Option Value} {st : List Value} {x : Nat} {m : kMem} {Q : Option Value → kMem → Prop} : kJ 199 1097 [some (.ref x), l1, l2, l3] st m Q = kJ 199 1098 [some (.ref x), l1, l2, l3] (.ref x :: st) m Q := kJ_next d199_1097 rfl
theorem d199_1098 : decode (mB 199) 1098 = .ok (.iload_n 3, 1) := by decide +kernel
theorem s199_1098 {l0 l1 l2 : Option Value} {st : List Value} {x : Int32} {m : kMem} {Q : Option Value → kMem → Prop} : kJ 199 1098 [l0, l1, l2, some (.int x)] st m Q = kJ 199 1099 [l0, l1, l2, some (.int x)] (.int x :: st) m Q := kJ_next d199_1098 rfl
theorem d199_1099 : decode (mB 199) 1099 = .ok (.iconst 1, 1) := by decide +kernel
theorem s199_1099 {l0 l1 l2 l3 : Option Value} {st : List Value} {m : kMem} {Q : Option Value → kMem → Prop} : kJ 199 1099 [l0, l1, l2, l3] st m Q = kJ 199 1100 [l0, l1, l2, l3] (.int (nI 1) :: st) m Q := kJ_next d199_1099 rfl
theorem d199_1100 : decode (mB 199) 1100 = .ok (.iadd, 1) := by decide +kernel
theorem s199_1100 {l0 l1 l2 l3 : Option Value} {st : List Value} {a b : Int32} {m : kMem} {Q : Option Value → kMem → Prop} : kJ 199 1100 [l0, l1, l2, l3] (.int b :: .int a :: st) m Q = kJ 199 1101 [l0, l1, l2, l3] (.int (a + b) :: st) m Q := kJ_next d199_1100 rfl
theorem d199_1101 : decode (mB 199) 1101 = .ok (.iaload, 1) := by decide +kernel
theorem s199_1101 {l0 l1 l2 l3 : Option Value} {st : List Value} {q : Nat} {i : Int32} {mi : Nat → Nat → Int32} {ml : Nat → Nat → Int64} {mr : Nat → Nat → Option Nat} {nx : Nat} {Q : Option Value → kMem → Prop} (h : kIs nx q 10 = true) : kJ 199 1101 [l0, l1, l2, l3] (.int i :: .ref q :: st) (mi, ml, mr, nx) Q = (vp_in i (kAl q) ∧ kJ 199 1102 [l0, l1, l2, l3] (.int (mi q i.toNatClampNeg) :: st) (mi, ml, mr, nx) Q) := kg_aldJ d199_1101 rfl (kAr_of h)
theorem d199_1102 : decode (mB 199) 1102 = .ok (.invokevirtual 132, 3) := by decide +kernel
theorem s199_1102 {l0 l1 l2 l3 : Option Value} {v0 : Int32} {v1 : Nat} {m : kMem} {Q : Option Value → kMem → Prop} (h : kIs m.2.2.2 v1 4 = true) : kJ 199 1102 [l0, l1, l2, l3] [.int v0, .ref v1] m Q = kJ 80 0 [some (.ref v1), some (.int v0), none, none] [] m (fun v m2 => kJ 199 1105 [l0, l1, l2, l3] (v.toList ++ []) m2 Q) := kJ_call d199_1102 (kg_callv 80 1 rfl rfl rfl rfl (Nat.le_of_ble_eq_true rfl) (Nat.le_of_ble_eq_true rfl) (Nat.le_of_ble_eq_true rfl) h rfl)
theorem d199_1105 : decode (mB 199) 1105 = .ok (.aload_n 2, 1) := by decide +kernel
theorem s199_1105 {l0 l1 l3 : Option Value} {st : List Value} {x : Nat} {m : kMem} {Q : Option Value → kMem → Prop} : kJ 199 1105 [l0, l1, some (.ref x), l3] st m Q = kJ 199 1106 [l0, l1, some (.ref x), l3] (.ref x :: st) m Q := kJ_next d199_1105 rfl
theorem d199_1106 : decode (mB 199) 1106 = .ok (.aload_n 0, 1) := by decide +kernel
theorem s199_1106 {l1 l2 l3 : Option Value} {st : List Value} {x : Nat} {m : kMem} {Q : Option Value → kMem → Prop} : kJ 199 1106 [some (.ref x), l1, l2, l3] st m Q = kJ 199 1107 [some (.ref x), l1, l2, l3] (.ref x :: st) m Q := kJ_next d199_1106 rfl
theorem d199_1107 : decode (mB 199) 1107 = .ok (.iload_n 3, 1) := by decide +kernel
theorem s199_1107 {l0 l1 l2 : Option Value} {st : List Value} {x : Int32} {m : kMem} {Q : Option Value → kMem → Prop} : kJ 199 1107 [l0, l1, l2, some (.int x)] st m Q = kJ 199 1108 [l0, l1, l2, some (.int x)] (.int x :: st) m Q := kJ_next d199_1107 rfl
theorem d199_1108 : decode (mB 199) 1108 = .ok (.iconst 1, 1) := by decide +kernel
theorem s199_1108 {l0 l1 l2 l3 : Option Value} {st : List Value} {m : kMem} {Q : Option Value → kMem → Prop} : kJ 199 1108 [l0, l1, l2, l3] st m Q = kJ 199 1109 [l0, l1, l2, l3] (.int (nI 1) :: st) m Q := kJ_next d199_1108 rfl
theorem d199_1109 : decode (mB 199) 1109 = .ok (.iadd, 1) := by decide +kernel
theorem s199_1109 {l0 l1 l2 l3 : Option Value} {st : List Value} {a b : Int32} {m : kMem} {Q : Option Value → kMem → Prop} : kJ 199 1109 [l0, l1, l2, l3] (.int b :: .int a :: st) m Q = kJ 199 1110 [l0, l1, l2, l3] (.int (a + b) :: st) m Q := kJ_next d199_1109 rfl
theorem d199_1110 : decode (mB 199) 1110 = .ok (.iaload, 1) := by decide +kernel
theorem s199_1110 {l0 l1 l2 l3 : Option Value} {st : List Value} {q : Nat} {i : Int32} {mi : Nat → Nat → Int32} {ml : Nat → Nat → Int64} {mr : Nat → Nat → Option Nat} {nx : Nat} {Q : Option Value → kMem → Prop} (h : kIs nx q 10 = true) : kJ 199 1110 [l0, l1, l2, l3] (.int i :: .ref q :: st) (mi, ml, mr, nx) Q = (vp_in i (kAl q) ∧ kJ 199 1111 [l0, l1, l2, l3] (.int (mi q i.toNatClampNeg) :: st) (mi, ml, mr, nx) Q) := kg_aldJ d199_1110 rfl (kAr_of h)
theorem d199_1111 : decode (mB 199) 1111 = .ok (.invokevirtual 135, 3) := by decide +kernel
theorem s199_1111 {l0 l1 l2 l3 : Option Value} {v0 : Int32} {v1 : Nat} {v2 : Int32} {m : kMem} {Q : Option Value → kMem → Prop} (h : kIs m.2.2.2 v1 5 = true) : kJ 199 1111 [l0, l1, l2, l3] [.int v0, .ref v1, .int v2] m Q = kJ 185 0 [some (.ref v1), some (.int v0)] [] m (fun v m2 => kJ 199 1114 [l0, l1, l2, l3] (v.toList ++ [.int v2]) m2 Q) := kJ_call d199_1111 (kg_callv 185 1 rfl rfl rfl rfl (Nat.le_of_ble_eq_true rfl) (Nat.le_of_ble_eq_true rfl) (Nat.le_of_ble_eq_true rfl) h rfl)
theorem d199_1114 : decode (mB 199) 1114 = .ok (.if_icmp .eq 302, 3) := by decide +kernel
theorem s199_1114 {l0 l1 l2 l3 : Option Value} {st : List Value} {a b : Int32} {m : kMem} {Q : Option Value → kMem → Prop} : kJ 199 1114 [l0, l1, l2, l3] (.int b :: .int a :: st) m Q = (if a = b then kJ 199 1416 [l0, l1, l2, l3] st m Q else kJ 199 1117 [l0, l1, l2, l3] st m Q) := kJ_if d199_1114 rfl (fun h => kJ_next d199_1114 h) (fun h => kJ_next d199_1114 h)
theorem d199_1117 : decode (mB 199) 1117 = .ok (.iconst 0, 1) := by decide +kernel
theorem s199_1117 {l0 l1 l2 l3 : Option Value} {st : List Value} {m : kMem} {Q : Option Value → kMem → Prop} : kJ 199 1117 [l0, l1, l2, l3] st m Q = kJ 199 1118 [l0, l1, l2, l3] (.int (nI 0) :: st) m Q := kJ_next d199_1117 rfl
theorem d199_1118 : decode (mB 199) 1118 = .ok (.ireturn, 1) := by decide +kernel
theorem s199_1118 {l0 l1 l2 l3 : Option Value} {x : Int32} {m : kMem} {Q : Option Value → kMem → Prop} (hx : x = 0 ∨ x = 1) : kJ 199 1118 [l0, l1, l2, l3] [.int x] m Q = Q (some (.int x)) m := kJ_ret d199_1118 (kg_retz (by decide) hx)
theorem d199_1119 : decode (mB 199) 1119 = .ok (.aload_n 1, 1) := by decide +kernel
theorem s199_1119 {l0 l2 l3 : Option Value} {st : List Value} {x : Nat} {m : kMem} {Q : Option Value → kMem → Prop} : kJ 199 1119 [l0, some (.ref x), l2, l3] st m Q = kJ 199 1120 [l0, some (.ref x), l2, l3] (.ref x :: st) m Q := kJ_next d199_1119 rfl
theorem d199_1120 : decode (mB 199) 1120 = .ok (.aload_n 0, 1) := by decide +kernel
theorem s199_1120 {l1 l2 l3 : Option Value} {st : List Value} {x : Nat} {m : kMem} {Q : Option Value → kMem → Prop} : kJ 199 1120 [some (.ref x), l1, l2, l3] st m Q = kJ 199 1121 [some (.ref x), l1, l2, l3] (.ref x :: st) m Q := kJ_next d199_1120 rfl
theorem d199_1121 : decode (mB 199) 1121 = .ok (.iload_n 3, 1) := by decide +kernel
theorem s199_1121 {l0 l1 l2 : Option Value} {st : List Value} {x : Int32} {m : kMem} {Q : Option Value → kMem → Prop} : kJ 199 1121 [l0, l1, l2, some (.int x)] st m Q = kJ 199 1122 [l0, l1, l2, some (.int x)] (.int x :: st) m Q := kJ_next d199_1121 rfl
theorem d199_1122 : decode (mB 199) 1122 = .ok (.iconst 1, 1) := by decide +kernel
theorem s199_1122 {l0 l1 l2 l3 : Option Value} {st : List Value} {m : kMem} {Q : Option Value → kMem → Prop} : kJ 199 1122 [l0, l1, l2, l3] st m Q = kJ 199 1123 [l0, l1, l2, l3] (.int (nI 1) :: st) m Q := kJ_next d199_1122 rfl
theorem d199_1123 : decode (mB 199) 1123 = .ok (.iadd, 1) := by decide +kernel
theorem s199_1123 {l0 l1 l2 l3 : Option Value} {st : List Value} {a b : Int32} {m : kMem} {Q : Option Value → kMem → Prop} : kJ 199 1123 [l0, l1, l2, l3] (.int b :: .int a :: st) m Q = kJ 199 1124 [l0, l1, l2, l3] (.int (a + b) :: st) m Q := kJ_next d199_1123 rfl
theorem d199_1124 : decode (mB 199) 1124 = .ok (.iaload, 1) := by decide +kernel
theorem s199_1124 {l0 l1 l2 l3 : Option Value} {st : List Value} {q : Nat} {i : Int32} {mi : Nat → Nat → Int32} {ml : Nat → Nat → Int64} {mr : Nat → Nat → Option Nat} {nx : Nat} {Q : Option Value → kMem → Prop} (h : kIs nx q 10 = true) : kJ 199 1124 [l0, l1, l2, l3] (.int i :: .ref q :: st) (mi, ml, mr, nx) Q = (vp_in i (kAl q) ∧ kJ 199 1125 [l0, l1, l2, l3] (.int (mi q i.toNatClampNeg) :: st) (mi, ml, mr, nx) Q) := kg_aldJ d199_1124 rfl (kAr_of h)
theorem d199_1125 : decode (mB 199) 1125 = .ok (.aload_n 0, 1) := by decide +kernel
theorem s199_1125 {l1 l2 l3 : Option Value} {st : List Value} {x : Nat} {m : kMem} {Q : Option Value → kMem → Prop} : kJ 199 1125 [some (.ref x), l1, l2, l3] st m Q = kJ 199 1126 [some (.ref x), l1, l2, l3] (.ref x :: st) m Q := kJ_next d199_1125 rfl
theorem d199_1126 : decode (mB 199) 1126 = .ok (.iload_n 3, 1) := by decide +kernel
theorem s199_1126 {l0 l1 l2 : Option Value} {st : List Value} {x : Int32} {m : kMem} {Q : Option Value → kMem → Prop} : kJ 199 1126 [l0, l1, l2, some (.int x)] st m Q = kJ 199 1127 [l0, l1, l2, some (.int x)] (.int x :: st) m Q := kJ_next d199_1126 rfl
theorem d199_1127 : decode (mB 199) 1127 = .ok (.iconst 2, 1) := by decide +kernel
theorem s199_1127 {l0 l1 l2 l3 : Option Value} {st : List Value} {m : kMem} {Q : Option Value → kMem → Prop} : kJ 199 1127 [l0, l1, l2, l3] st m Q = kJ 199 1128 [l0, l1, l2, l3] (.int (nI 2) :: st) m Q := kJ_next d199_1127 rfl
theorem d199_1128 : decode (mB 199) 1128 = .ok (.iadd, 1) := by decide +kernel
theorem s199_1128 {l0 l1 l2 l3 : Option Value} {st : List Value} {a b : Int32} {m : kMem} {Q : Option Value → kMem → Prop} : kJ 199 1128 [l0, l1, l2, l3] (.int b :: .int a :: st) m Q = kJ 199 1129 [l0, l1, l2, l3] (.int (a + b) :: st) m Q := kJ_next d199_1128 rfl
theorem d199_1129 : decode (mB 199) 1129 = .ok (.iaload, 1) := by decide +kernel
theorem s199_1129 {l0 l1 l2 l3 : Option Value} {st : List Value} {q : Nat} {i : Int32} {mi : Nat → Nat → Int32} {ml : Nat → Nat → Int64} {mr : Nat → Nat → Option Nat} {nx : Nat} {Q : Option Value → kMem → Prop} (h : kIs nx q 10 = true) : kJ 199 1129 [l0, l1, l2, l3] (.int i :: .ref q :: st) (mi, ml, mr, nx) Q = (vp_in i (kAl q) ∧ kJ 199 1130 [l0, l1, l2, l3] (.int (mi q i.toNatClampNeg) :: st) (mi, ml, mr, nx) Q) := kg_aldJ d199_1129 rfl (kAr_of h)
theorem d199_1130 : decode (mB 199) 1130 = .ok (.invokevirtual 136, 3) := by decide +kernel
theorem s199_1130 {l0 l1 l2 l3 : Option Value} {v0 : Int32} {v1 : Int32} {v2 : Nat} {m : kMem} {Q : Option Value → kMem → Prop} (h : kIs m.2.2.2 v2 4 = true) : kJ 199 1130 [l0, l1, l2, l3] [.int v0, .int v1, .ref v2] m Q = kJ 81 0 [some (.ref v2), some (.int v1), some (.int v0), none, none, none, none, none, none] [] m (fun v m2 => kJ 199 1133 [l0, l1, l2, l3] (v.toList ++ []) m2 Q) := kJ_call d199_1130 (kg_callv 81 2 rfl rfl rfl rfl (Nat.le_of_ble_eq_true rfl) (Nat.le_of_ble_eq_true rfl) (Nat.le_of_ble_eq_true rfl) h rfl)
theorem d199_1133 : decode (mB 199) 1133 = .ok (.aload_n 2, 1) := by decide +kernel
theorem s199_1133 {l0 l1 l3 : Option Value} {st : List Value} {x : Nat} {m : kMem} {Q : Option Value → kMem → Prop} : kJ 199 1133 [l0, l1, some (.ref x), l3] st m Q = kJ 199 1134 [l0, l1, some (.ref x), l3] (.ref x :: st) m Q := kJ_next d199_1133 rfl
theorem d199_1134 : decode (mB 199) 1134 = .ok (.aload_n 0, 1) := by decide +kernel
theorem s199_1134 {l1 l2 l3 : Option Value} {st : List Value} {x : Nat} {m : kMem} {Q : Option Value → kMem → Prop} : kJ 199 1134 [some (.ref x), l1, l2, l3] st m Q = kJ 199 1135 [some (.ref x), l1, l2, l3] (.ref x :: st) m Q := kJ_next d199_1134 rfl
theorem d199_1135 : decode (mB 199) 1135 = .ok (.iload_n 3, 1) := by decide +kernel
theorem s199_1135 {l0 l1 l2 : Option Value} {st : List Value} {x : Int32} {m : kMem} {Q : Option Value → kMem → Prop} : kJ 199 1135 [l0, l1, l2, some (.int x)] st m Q = kJ 199 1136 [l0, l1, l2, some (.int x)] (.int x :: st) m Q := kJ_next d199_1135 rfl
theorem d199_1136 : decode (mB 199) 1136 = .ok (.iconst 1, 1) := by decide +kernel
theorem s199_1136 {l0 l1 l2 l3 : Option Value} {st : List Value} {m : kMem} {Q : Option Value → kMem → Prop} : kJ 199 1136 [l0, l1, l2, l3] st m Q = kJ 199 1137 [l0, l1, l2, l3] (.int (nI 1) :: st) m Q := kJ_next d199_1136 rfl
theorem d199_1137 : decode (mB 199) 1137 = .ok (.iadd, 1) := by decide +kernel
theorem s199_1137 {l0 l1 l2 l3 : Option Value} {st : List Value} {a b : Int32} {m : kMem} {Q : Option Value → kMem → Prop} : kJ 199 1137 [l0, l1, l2, l3] (.int b :: .int a :: st) m Q = kJ 199 1138 [l0, l1, l2, l3] (.int (a + b) :: st) m Q := kJ_next d199_1137 rfl
theorem d199_1138 : decode (mB 199) 1138 = .ok (.iaload, 1) := by decide +kernel
theorem s199_1138 {l0 l1 l2 l3 : Option Value} {st : List Value} {q : Nat} {i : Int32} {mi : Nat → Nat → Int32} {ml : Nat → Nat → Int64} {mr : Nat → Nat → Option Nat} {nx : Nat} {Q : Option Value → kMem → Prop} (h : kIs nx q 10 = true) : kJ 199 1138 [l0, l1, l2, l3] (.int i :: .ref q :: st) (mi, ml, mr, nx) Q = (vp_in i (kAl q) ∧ kJ 199 1139 [l0, l1, l2, l3] (.int (mi q i.toNatClampNeg) :: st) (mi, ml, mr, nx) Q) := kg_aldJ d199_1138 rfl (kAr_of h)
theorem d199_1139 : decode (mB 199) 1139 = .ok (.aload_n 0, 1) := by decide +kernel
theorem s199_1139 {l1 l2 l3 : Option Value} {st : List Value} {x : Nat} {m : kMem} {Q : Option Value → kMem → Prop} : kJ 199 1139 [some (.ref x), l1, l2, l3] st m Q = kJ 199 1140 [some (.ref x), l1, l2, l3] (.ref x :: st) m Q := kJ_next d199_1139 rfl
theorem d199_1140 : decode (mB 199) 1140 = .ok (.iload_n 3, 1) := by decide +kernel
theorem s199_1140 {l0 l1 l2 : Option Value} {st : List Value} {x : Int32} {m : kMem} {Q : Option Value → kMem → Prop} : kJ 199 1140 [l0, l1, l2, some (.int x)] st m Q = kJ 199 1141 [l0, l1, l2, some (.int x)] (.int x :: st) m Q := kJ_next d199_1140 rfl
theorem d199_1141 : decode (mB 199) 1141 = .ok (.iconst 2, 1) := by decide +kernel
theorem s199_1141 {l0 l1 l2 l3 : Option Value} {st : List Value} {m : kMem} {Q : Option Value → kMem → Prop} : kJ 199 1141 [l0, l1, l2, l3] st m Q = kJ 199 1142 [l0, l1, l2, l3] (.int (nI 2) :: st) m Q := kJ_next d199_1141 rfl
theorem d199_1142 : decode (mB 199) 1142 = .ok (.iadd, 1) := by decide +kernel
theorem s199_1142 {l0 l1 l2 l3 : Option Value} {st : List Value} {a b : Int32} {m : kMem} {Q : Option Value → kMem → Prop} : kJ 199 1142 [l0, l1, l2, l3] (.int b :: .int a :: st) m Q = kJ 199 1143 [l0, l1, l2, l3] (.int (a + b) :: st) m Q := kJ_next d199_1142 rfl
theorem d199_1143 : decode (mB 199) 1143 = .ok (.iaload, 1) := by decide +kernel
theorem s199_1143 {l0 l1 l2 l3 : Option Value} {st : List Value} {q : Nat} {i : Int32} {mi : Nat → Nat → Int32} {ml : Nat → Nat → Int64} {mr : Nat → Nat → Option Nat} {nx : Nat} {Q : Option Value → kMem → Prop} (h : kIs nx q 10 = true) : kJ 199 1143 [l0, l1, l2, l3] (.int i :: .ref q :: st) (mi, ml, mr, nx) Q = (vp_in i (kAl q) ∧ kJ 199 1144 [l0, l1, l2, l3] (.int (mi q i.toNatClampNeg) :: st) (mi, ml, mr, nx) Q) := kg_aldJ d199_1143 rfl (kAr_of h)
theorem d199_1144 : decode (mB 199) 1144 = .ok (.invokevirtual 139, 3) := by decide +kernel
theorem s199_1144 {l0 l1 l2 l3 : Option Value} {v0 : Int32} {v1 : Int32} {v2 : Nat} {v3 : Int32} {m : kMem} {Q : Option Value → kMem → Prop} (h : kIs m.2.2.2 v2 5 = true) : kJ 199 1144 [l0, l1, l2, l3] [.int v0, .int v1, .ref v2, .int v3] m Q = kJ 187 0 [some (.ref v2), some (.int v1), some (.int v0), none, none, none, none, none, none, none, none] [] m (fun v m2 => kJ 199 1147 [l0, l1, l2, l3] (v.toList ++ [.int v3]) m2 Q) := kJ_call d199_1144 (kg_callv 187 2 rfl rfl rfl rfl (Nat.le_of_ble_eq_true rfl) (Nat.le_of_ble_eq_true rfl) (Nat.le_of_ble_eq_true rfl) h rfl)
theorem d199_1147 : decode (mB 199) 1147 = .ok (.if_icmp .eq 269, 3) := by decide +kernel
theorem s199_1147 {l0 l1 l2 l3 : Option Value} {st : List Value} {a b : Int32} {m : kMem} {Q : Option Value → kMem → Prop} : kJ 199 1147 [l0, l1, l2, l3] (.int b :: .int a :: st) m Q = (if a = b then kJ 199 1416 [l0, l1, l2, l3] st m Q else kJ 199 1150 [l0, l1, l2, l3] st m Q) := kJ_if d199_1147 rfl (fun h => kJ_next d199_1147 h) (fun h => kJ_next d199_1147 h)
theorem d199_1150 : decode (mB 199) 1150 = .ok (.iconst 0, 1) := by decide +kernel
theorem s199_1150 {l0 l1 l2 l3 : Option Value} {st : List Value} {m : kMem} {Q : Option Value → kMem → Prop} : kJ 199 1150 [l0, l1, l2, l3] st m Q = kJ 199 1151 [l0, l1, l2, l3] (.int (nI 0) :: st) m Q := kJ_next d199_1150 rfl
theorem d199_1151 : decode (mB 199) 1151 = .ok (.ireturn, 1) := by decide +kernel
theorem s199_1151 {l0 l1 l2 l3 : Option Value} {x : Int32} {m : kMem} {Q : Option Value → kMem → Prop} (hx : x = 0 ∨ x = 1) : kJ 199 1151 [l0, l1, l2, l3] [.int x] m Q = Q (some (.int x)) m := kJ_ret d199_1151 (kg_retz (by decide) hx)
theorem d199_1152 : decode (mB 199) 1152 = .ok (.aload_n 1, 1) := by decide +kernel
theorem s199_1152 {l0 l2 l3 : Option Value} {st : List Value} {x : Nat} {m : kMem} {Q : Option Value → kMem → Prop} : kJ 199 1152 [l0, some (.ref x), l2, l3] st m Q = kJ 199 1153 [l0, some (.ref x), l2, l3] (.ref x :: st) m Q := kJ_next d199_1152 rfl
theorem d199_1153 : decode (mB 199) 1153 = .ok (.aload_n 0, 1) := by decide +kernel
theorem s199_1153 {l1 l2 l3 : Option Value} {st : List Value} {x : Nat} {m : kMem} {Q : Option Value → kMem → Prop} : kJ 199 1153 [some (.ref x), l1, l2, l3] st m Q = kJ 199 1154 [some (.ref x), l1, l2, l3] (.ref x :: st) m Q := kJ_next d199_1153 rfl
theorem d199_1154 : decode (mB 199) 1154 = .ok (.iload_n 3, 1) := by decide +kernel
theorem s199_1154 {l0 l1 l2 : Option Value} {st : List Value} {x : Int32} {m : kMem} {Q : Option Value → kMem → Prop} : kJ 199 1154 [l0, l1, l2, some (.int x)] st m Q = kJ 199 1155 [l0, l1, l2, some (.int x)] (.int x :: st) m Q := kJ_next d199_1154 rfl
theorem d199_1155 : decode (mB 199) 1155 = .ok (.iconst 1, 1) := by decide +kernel
theorem s199_1155 {l0 l1 l2 l3 : Option Value} {st : List Value} {m : kMem} {Q : Option Value → kMem → Prop} : kJ 199 1155 [l0, l1, l2, l3] st m Q = kJ 199 1156 [l0, l1, l2, l3] (.int (nI 1) :: st) m Q := kJ_next d199_1155 rfl
theorem d199_1156 : decode (mB 199) 1156 = .ok (.iadd, 1) := by decide +kernel
theorem s199_1156 {l0 l1 l2 l3 : Option Value} {st : List Value} {a b : Int32} {m : kMem} {Q : Option Value → kMem → Prop} : kJ 199 1156 [l0, l1, l2, l3] (.int b :: .int a :: st) m Q = kJ 199 1157 [l0, l1, l2, l3] (.int (a + b) :: st) m Q := kJ_next d199_1156 rfl
theorem d199_1157 : decode (mB 199) 1157 = .ok (.iaload, 1) := by decide +kernel
theorem s199_1157 {l0 l1 l2 l3 : Option Value} {st : List Value} {q : Nat} {i : Int32} {mi : Nat → Nat → Int32} {ml : Nat → Nat → Int64} {mr : Nat → Nat → Option Nat} {nx : Nat} {Q : Option Value → kMem → Prop} (h : kIs nx q 10 = true) : kJ 199 1157 [l0, l1, l2, l3] (.int i :: .ref q :: st) (mi, ml, mr, nx) Q = (vp_in i (kAl q) ∧ kJ 199 1158 [l0, l1, l2, l3] (.int (mi q i.toNatClampNeg) :: st) (mi, ml, mr, nx) Q) := kg_aldJ d199_1157 rfl (kAr_of h)
theorem d199_1158 : decode (mB 199) 1158 = .ok (.aload_n 0, 1) := by decide +kernel
theorem s199_1158 {l1 l2 l3 : Option Value} {st : List Value} {x : Nat} {m : kMem} {Q : Option Value → kMem → Prop} : kJ 199 1158 [some (.ref x), l1, l2, l3] st m Q = kJ 199 1159 [some (.ref x), l1, l2, l3] (.ref x :: st) m Q := kJ_next d199_1158 rfl
theorem d199_1159 : decode (mB 199) 1159 = .ok (.iload_n 3, 1) := by decide +kernel
theorem s199_1159 {l0 l1 l2 : Option Value} {st : List Value} {x : Int32} {m : kMem} {Q : Option Value → kMem → Prop} : kJ 199 1159 [l0, l1, l2, some (.int x)] st m Q = kJ 199 1160 [l0, l1, l2, some (.int x)] (.int x :: st) m Q := kJ_next d199_1159 rfl
theorem d199_1160 : decode (mB 199) 1160 = .ok (.iconst 2, 1) := by decide +kernel
theorem s199_1160 {l0 l1 l2 l3 : Option Value} {st : List Value} {m : kMem} {Q : Option Value → kMem → Prop} : kJ 199 1160 [l0, l1, l2, l3] st m Q = kJ 199 1161 [l0, l1, l2, l3] (.int (nI 2) :: st) m Q := kJ_next d199_1160 rfl
theorem d199_1161 : decode (mB 199) 1161 = .ok (.iadd, 1) := by decide +kernel
theorem s199_1161 {l0 l1 l2 l3 : Option Value} {st : List Value} {a b : Int32} {m : kMem} {Q : Option Value → kMem → Prop} : kJ 199 1161 [l0, l1, l2, l3] (.int b :: .int a :: st) m Q = kJ 199 1162 [l0, l1, l2, l3] (.int (a + b) :: st) m Q := kJ_next d199_1161 rfl
theorem d199_1162 : decode (mB 199) 1162 = .ok (.iaload, 1) := by decide +kernel
theorem s199_1162 {l0 l1 l2 l3 : Option Value} {st : List Value} {q : Nat} {i : Int32} {mi : Nat → Nat → Int32} {ml : Nat → Nat → Int64} {mr : Nat → Nat → Option Nat} {nx : Nat} {Q : Option Value → kMem → Prop} (h : kIs nx q 10 = true) : kJ 199 1162 [l0, l1, l2, l3] (.int i :: .ref q :: st) (mi, ml, mr, nx) Q = (vp_in i (kAl q) ∧ kJ 199 1163 [l0, l1, l2, l3] (.int (mi q i.toNatClampNeg) :: st) (mi, ml, mr, nx) Q) := kg_aldJ d199_1162 rfl (kAr_of h)
theorem d199_1163 : decode (mB 199) 1163 = .ok (.aload_n 0, 1) := by decide +kernel
theorem s199_1163 {l1 l2 l3 : Option Value} {st : List Value} {x : Nat} {m : kMem} {Q : Option Value → kMem → Prop} : kJ 199 1163 [some (.ref x), l1, l2, l3] st m Q = kJ 199 1164 [some (.ref x), l1, l2, l3] (.ref x :: st) m Q := kJ_next d199_1163 rfl
theorem d199_1164 : decode (mB 199) 1164 = .ok (.iload_n 3, 1) := by decide +kernel
theorem s199_1164 {l0 l1 l2 : Option Value} {st : List Value} {x : Int32} {m : kMem} {Q : Option Value → kMem → Prop} : kJ 199 1164 [l0, l1, l2, some (.int x)] st m Q = kJ 199 1165 [l0, l1, l2, some (.int x)] (.int x :: st) m Q := kJ_next d199_1164 rfl
theorem d199_1165 : decode (mB 199) 1165 = .ok (.iconst 3, 1) := by decide +kernel
theorem s199_1165 {l0 l1 l2 l3 : Option Value} {st : List Value} {m : kMem} {Q : Option Value → kMem → Prop} : kJ 199 1165 [l0, l1, l2, l3] st m Q = kJ 199 1166 [l0, l1, l2, l3] (.int (nI 3) :: st) m Q := kJ_next d199_1165 rfl
theorem d199_1166 : decode (mB 199) 1166 = .ok (.iadd, 1) := by decide +kernel
theorem s199_1166 {l0 l1 l2 l3 : Option Value} {st : List Value} {a b : Int32} {m : kMem} {Q : Option Value → kMem → Prop} : kJ 199 1166 [l0, l1, l2, l3] (.int b :: .int a :: st) m Q = kJ 199 1167 [l0, l1, l2, l3] (.int (a + b) :: st) m Q := kJ_next d199_1166 rfl
theorem d199_1167 : decode (mB 199) 1167 = .ok (.iaload, 1) := by decide +kernel
theorem s199_1167 {l0 l1 l2 l3 : Option Value} {st : List Value} {q : Nat} {i : Int32} {mi : Nat → Nat → Int32} {ml : Nat → Nat → Int64} {mr : Nat → Nat → Option Nat} {nx : Nat} {Q : Option Value → kMem → Prop} (h : kIs nx q 10 = true) : kJ 199 1167 [l0, l1, l2, l3] (.int i :: .ref q :: st) (mi, ml, mr, nx) Q = (vp_in i (kAl q) ∧ kJ 199 1168 [l0, l1, l2, l3] (.int (mi q i.toNatClampNeg) :: st) (mi, ml, mr, nx) Q) := kg_aldJ d199_1167 rfl (kAr_of h)
theorem d199_1168 : decode (mB 199) 1168 = .ok (.invokevirtual 140, 3) := by decide +kernel
theorem s199_1168 {l0 l1 l2 l3 : Option Value} {v0 : Int32} {v1 : Int32} {v2 : Int32} {v3 : Nat} {m : kMem} {Q : Option Value → kMem → Prop} (h : kIs m.2.2.2 v3 4 = true) : kJ 199 1168 [l0, l1, l2, l3] [.int v0, .int v1, .int v2, .ref v3] m Q = kJ 82 0 [some (.ref v3), some (.int v2), some (.int v1), some (.int v0), none, none, none, none, none] [] m (fun v m2 => kJ 199 1171 [l0, l1, l2, l3] (v.toList ++ []) m2 Q) := kJ_call d199_1168 (kg_callv 82 3 rfl rfl rfl rfl (Nat.le_of_ble_eq_true rfl) (Nat.le_of_ble_eq_true rfl) (Nat.le_of_ble_eq_true rfl) h rfl)
theorem d199_1171 : decode (mB 199) 1171 = .ok (.aload_n 2, 1) := by decide +kernel
theorem s199_1171 {l0 l1 l3 : Option Value} {st : List Value} {x : Nat} {m : kMem} {Q : Option Value → kMem → Prop} : kJ 199 1171 [l0, l1, some (.ref x), l3] st m Q = kJ 199 1172 [l0, l1, some (.ref x), l3] (.ref x :: st) m Q := kJ_next d199_1171 rfl
theorem d199_1172 : decode (mB 199) 1172 = .ok (.aload_n 0, 1) := by decide +kernel
theorem s199_1172 {l1 l2 l3 : Option Value} {st : List Value} {x : Nat} {m : kMem} {Q : Option Value → kMem → Prop} : kJ 199 1172 [some (.ref x), l1, l2, l3] st m Q = kJ 199 1173 [some (.ref x), l1, l2, l3] (.ref x :: st) m Q := kJ_next d199_1172 rfl
theorem d199_1173 : decode (mB 199) 1173 = .ok (.iload_n 3, 1) := by decide +kernel
theorem s199_1173 {l0 l1 l2 : Option Value} {st : List Value} {x : Int32} {m : kMem} {Q : Option Value → kMem → Prop} : kJ 199 1173 [l0, l1, l2, some (.int x)] st m Q = kJ 199 1174 [l0, l1, l2, some (.int x)] (.int x :: st) m Q := kJ_next d199_1173 rfl
theorem d199_1174 : decode (mB 199) 1174 = .ok (.iconst 1, 1) := by decide +kernel
theorem s199_1174 {l0 l1 l2 l3 : Option Value} {st : List Value} {m : kMem} {Q : Option Value → kMem → Prop} : kJ 199 1174 [l0, l1, l2, l3] st m Q = kJ 199 1175 [l0, l1, l2, l3] (.int (nI 1) :: st) m Q := kJ_next d199_1174 rfl
theorem d199_1175 : decode (mB 199) 1175 = .ok (.iadd, 1) := by decide +kernel
theorem s199_1175 {l0 l1 l2 l3 : Option Value} {st : List Value} {a b : Int32} {m : kMem} {Q : Option Value → kMem → Prop} : kJ 199 1175 [l0, l1, l2, l3] (.int b :: .int a :: st) m Q = kJ 199 1176 [l0, l1, l2, l3] (.int (a + b) :: st) m Q := kJ_next d199_1175 rfl
theorem d199_1176 : decode (mB 199) 1176 = .ok (.iaload, 1) := by decide +kernel
theorem s199_1176 {l0 l1 l2 l3 : Option Value} {st : List Value} {q : Nat} {i : Int32} {mi : Nat → Nat → Int32} {ml : Nat → Nat → Int64} {mr : Nat → Nat → Option Nat} {nx : Nat} {Q : Option Value → kMem → Prop} (h : kIs nx q 10 = true) : kJ 199 1176 [l0, l1, l2, l3] (.int i :: .ref q :: st) (mi, ml, mr, nx) Q = (vp_in i (kAl q) ∧ kJ 199 1177 [l0, l1, l2, l3] (.int (mi q i.toNatClampNeg) :: st) (mi, ml, mr, nx) Q) := kg_aldJ d199_1176 rfl (kAr_of h)
theorem d199_1177 : decode (mB 199) 1177 = .ok (.aload_n 0, 1) := by decide +kernel
theorem s199_1177 {l1 l2 l3 : Option Value} {st : List Value} {x : Nat} {m : kMem} {Q : Option Value → kMem → Prop} : kJ 199 1177 [some (.ref x), l1, l2, l3] st m Q = kJ 199 1178 [some (.ref x), l1, l2, l3] (.ref x :: st) m Q := kJ_next d199_1177 rfl
theorem d199_1178 : decode (mB 199) 1178 = .ok (.iload_n 3, 1) := by decide +kernel
theorem s199_1178 {l0 l1 l2 : Option Value} {st : List Value} {x : Int32} {m : kMem} {Q : Option Value → kMem → Prop} : kJ 199 1178 [l0, l1, l2, some (.int x)] st m Q = kJ 199 1179 [l0, l1, l2, some (.int x)] (.int x :: st) m Q := kJ_next d199_1178 rfl
theorem d199_1179 : decode (mB 199) 1179 = .ok (.iconst 2, 1) := by decide +kernel
theorem s199_1179 {l0 l1 l2 l3 : Option Value} {st : List Value} {m : kMem} {Q : Option Value → kMem → Prop} : kJ 199 1179 [l0, l1, l2, l3] st m Q = kJ 199 1180 [l0, l1, l2, l3] (.int (nI 2) :: st) m Q := kJ_next d199_1179 rfl
theorem d199_1180 : decode (mB 199) 1180 = .ok (.iadd, 1) := by decide +kernel
theorem s199_1180 {l0 l1 l2 l3 : Option Value} {st : List Value} {a b : Int32} {m : kMem} {Q : Option Value → kMem → Prop} : kJ 199 1180 [l0, l1, l2, l3] (.int b :: .int a :: st) m Q = kJ 199 1181 [l0, l1, l2, l3] (.int (a + b) :: st) m Q := kJ_next d199_1180 rfl
theorem d199_1181 : decode (mB 199) 1181 = .ok (.iaload, 1) := by decide +kernel
theorem s199_1181 {l0 l1 l2 l3 : Option Value} {st : List Value} {q : Nat} {i : Int32} {mi : Nat → Nat → Int32} {ml : Nat → Nat → Int64} {mr : Nat → Nat → Option Nat} {nx : Nat} {Q : Option Value → kMem → Prop} (h : kIs nx q 10 = true) : kJ 199 1181 [l0, l1, l2, l3] (.int i :: .ref q :: st) (mi, ml, mr, nx) Q = (vp_in i (kAl q) ∧ kJ 199 1182 [l0, l1, l2, l3] (.int (mi q i.toNatClampNeg) :: st) (mi, ml, mr, nx) Q) := kg_aldJ d199_1181 rfl (kAr_of h)
theorem d199_1182 : decode (mB 199) 1182 = .ok (.aload_n 0, 1) := by decide +kernel
theorem s199_1182 {l1 l2 l3 : Option Value} {st : List Value} {x : Nat} {m : kMem} {Q : Option Value → kMem → Prop} : kJ 199 1182 [some (.ref x), l1, l2, l3] st m Q = kJ 199 1183 [some (.ref x), l1, l2, l3] (.ref x :: st) m Q := kJ_next d199_1182 rfl
theorem d199_1183 : decode (mB 199) 1183 = .ok (.iload_n 3, 1) := by decide +kernel
theorem s199_1183 {l0 l1 l2 : Option Value} {st : List Value} {x : Int32} {m : kMem} {Q : Option Value → kMem → Prop} : kJ 199 1183 [l0, l1, l2, some (.int x)] st m Q = kJ 199 1184 [l0, l1, l2, some (.int x)] (.int x :: st) m Q := kJ_next d199_1183 rfl
theorem d199_1184 : decode (mB 199) 1184 = .ok (.iconst 3, 1) := by decide +kernel
theorem s199_1184 {l0 l1 l2 l3 : Option Value} {st : List Value} {m : kMem} {Q : Option Value → kMem → Prop} : kJ 199 1184 [l0, l1, l2, l3] st m Q = kJ 199 1185 [l0, l1, l2, l3] (.int (nI 3) :: st) m Q := kJ_next d199_1184 rfl
theorem d199_1185 : decode (mB 199) 1185 = .ok (.iadd, 1) := by decide +kernel
theorem s199_1185 {l0 l1 l2 l3 : Option Value} {st : List Value} {a b : Int32} {m : kMem} {Q : Option Value → kMem → Prop} : kJ 199 1185 [l0, l1, l2, l3] (.int b :: .int a :: st) m Q = kJ 199 1186 [l0, l1, l2, l3] (.int (a + b) :: st) m Q := kJ_next d199_1185 rfl
theorem d199_1186 : decode (mB 199) 1186 = .ok (.iaload, 1) := by decide +kernel
theorem s199_1186 {l0 l1 l2 l3 : Option Value} {st : List Value} {q : Nat} {i : Int32} {mi : Nat → Nat → Int32} {ml : Nat → Nat → Int64} {mr : Nat → Nat → Option Nat} {nx : Nat} {Q : Option Value → kMem → Prop} (h : kIs nx q 10 = true) : kJ 199 1186 [l0, l1, l2, l3] (.int i :: .ref q :: st) (mi, ml, mr, nx) Q = (vp_in i (kAl q) ∧ kJ 199 1187 [l0, l1, l2, l3] (.int (mi q i.toNatClampNeg) :: st) (mi, ml, mr, nx) Q) := kg_aldJ d199_1186 rfl (kAr_of h)
theorem d199_1187 : decode (mB 199) 1187 = .ok (.invokevirtual 143, 3) := by decide +kernel
theorem s199_1187 {l0 l1 l2 l3 : Option Value} {v0 : Int32} {v1 : Int32} {v2 : Int32} {v3 : Nat} {v4 : Int32} {m : kMem} {Q : Option Value → kMem → Prop} (h : kIs m.2.2.2 v3 5 = true) : kJ 199 1187 [l0, l1, l2, l3] [.int v0, .int v1, .int v2, .ref v3, .int v4] m Q = kJ 188 0 [some (.ref v3), some (.int v2), some (.int v1), some (.int v0), none, none, none, none] [] m (fun v m2 => kJ 199 1190 [l0, l1, l2, l3] (v.toList ++ [.int v4]) m2 Q) := kJ_call d199_1187 (kg_callv 188 3 rfl rfl rfl rfl (Nat.le_of_ble_eq_true rfl) (Nat.le_of_ble_eq_true rfl) (Nat.le_of_ble_eq_true rfl) h rfl)
theorem d199_1190 : decode (mB 199) 1190 = .ok (.if_icmp .eq 226, 3) := by decide +kernel
theorem s199_1190 {l0 l1 l2 l3 : Option Value} {st : List Value} {a b : Int32} {m : kMem} {Q : Option Value → kMem → Prop} : kJ 199 1190 [l0, l1, l2, l3] (.int b :: .int a :: st) m Q = (if a = b then kJ 199 1416 [l0, l1, l2, l3] st m Q else kJ 199 1193 [l0, l1, l2, l3] st m Q) := kJ_if d199_1190 rfl (fun h => kJ_next d199_1190 h) (fun h => kJ_next d199_1190 h)
theorem d199_1193 : decode (mB 199) 1193 = .ok (.iconst 0, 1) := by decide +kernel
theorem s199_1193 {l0 l1 l2 l3 : Option Value} {st : List Value} {m : kMem} {Q : Option Value → kMem → Prop} : kJ 199 1193 [l0, l1, l2, l3] st m Q = kJ 199 1194 [l0, l1, l2, l3] (.int (nI 0) :: st) m Q := kJ_next d199_1193 rfl
theorem d199_1194 : decode (mB 199) 1194 = .ok (.ireturn, 1) := by decide +kernel
theorem s199_1194 {l0 l1 l2 l3 : Option Value} {x : Int32} {m : kMem} {Q : Option Value → kMem → Prop} (hx : x = 0 ∨ x = 1) : kJ 199 1194 [l0, l1, l2, l3] [.int x] m Q = Q (some (.int x)) m := kJ_ret d199_1194 (kg_retz (by decide) hx)
theorem d199_1195 : decode (mB 199) 1195 = .ok (.aload_n 1, 1) := by decide +kernel
theorem s199_1195 {l0 l2 l3 : Option Value} {st : List Value} {x : Nat} {m : kMem} {Q : Option Value → kMem → Prop} : kJ 199 1195 [l0, some (.ref x), l2, l3] st m Q = kJ 199 1196 [l0, some (.ref x), l2, l3] (.ref x :: st) m Q := kJ_next d199_1195 rfl
theorem d199_1196 : decode (mB 199) 1196 = .ok (.aload_n 0, 1) := by decide +kernel
theorem s199_1196 {l1 l2 l3 : Option Value} {st : List Value} {x : Nat} {m : kMem} {Q : Option Value → kMem → Prop} : kJ 199 1196 [some (.ref x), l1, l2, l3] st m Q = kJ 199 1197 [some (.ref x), l1, l2, l3] (.ref x :: st) m Q := kJ_next d199_1196 rfl
theorem d199_1197 : decode (mB 199) 1197 = .ok (.iload_n 3, 1) := by decide +kernel
theorem s199_1197 {l0 l1 l2 : Option Value} {st : List Value} {x : Int32} {m : kMem} {Q : Option Value → kMem → Prop} : kJ 199 1197 [l0, l1, l2, some (.int x)] st m Q = kJ 199 1198 [l0, l1, l2, some (.int x)] (.int x :: st) m Q := kJ_next d199_1197 rfl
theorem d199_1198 : decode (mB 199) 1198 = .ok (.iconst 1, 1) := by decide +kernel
theorem s199_1198 {l0 l1 l2 l3 : Option Value} {st : List Value} {m : kMem} {Q : Option Value → kMem → Prop} : kJ 199 1198 [l0, l1, l2, l3] st m Q = kJ 199 1199 [l0, l1, l2, l3] (.int (nI 1) :: st) m Q := kJ_next d199_1198 rfl
theorem d199_1199 : decode (mB 199) 1199 = .ok (.iadd, 1) := by decide +kernel
theorem s199_1199 {l0 l1 l2 l3 : Option Value} {st : List Value} {a b : Int32} {m : kMem} {Q : Option Value → kMem → Prop} : kJ 199 1199 [l0, l1, l2, l3] (.int b :: .int a :: st) m Q = kJ 199 1200 [l0, l1, l2, l3] (.int (a + b) :: st) m Q := kJ_next d199_1199 rfl
theorem d199_1200 : decode (mB 199) 1200 = .ok (.iaload, 1) := by decide +kernel
theorem s199_1200 {l0 l1 l2 l3 : Option Value} {st : List Value} {q : Nat} {i : Int32} {mi : Nat → Nat → Int32} {ml : Nat → Nat → Int64} {mr : Nat → Nat → Option Nat} {nx : Nat} {Q : Option Value → kMem → Prop} (h : kIs nx q 10 = true) : kJ 199 1200 [l0, l1, l2, l3] (.int i :: .ref q :: st) (mi, ml, mr, nx) Q = (vp_in i (kAl q) ∧ kJ 199 1201 [l0, l1, l2, l3] (.int (mi q i.toNatClampNeg) :: st) (mi, ml, mr, nx) Q) := kg_aldJ d199_1200 rfl (kAr_of h)
theorem d199_1201 : decode (mB 199) 1201 = .ok (.invokevirtual 144, 3) := by decide +kernel
theorem s199_1201 {l0 l1 l2 l3 : Option Value} {v0 : Int32} {v1 : Nat} {m : kMem} {Q : Option Value → kMem → Prop} (h : kIs m.2.2.2 v1 4 = true) : kJ 199 1201 [l0, l1, l2, l3] [.int v0, .ref v1] m Q = kJ 83 0 [some (.ref v1), some (.int v0), none] [] m (fun v m2 => kJ 199 1204 [l0, l1, l2, l3] (v.toList ++ []) m2 Q) := kJ_call d199_1201 (kg_callv 83 1 rfl rfl rfl rfl (Nat.le_of_ble_eq_true rfl) (Nat.le_of_ble_eq_true rfl) (Nat.le_of_ble_eq_true rfl) h rfl)
theorem d199_1204 : decode (mB 199) 1204 = .ok (.aload_n 2, 1) := by decide +kernel
theorem s199_1204 {l0 l1 l3 : Option Value} {st : List Value} {x : Nat} {m : kMem} {Q : Option Value → kMem → Prop} : kJ 199 1204 [l0, l1, some (.ref x), l3] st m Q = kJ 199 1205 [l0, l1, some (.ref x), l3] (.ref x :: st) m Q := kJ_next d199_1204 rfl
theorem d199_1205 : decode (mB 199) 1205 = .ok (.aload_n 0, 1) := by decide +kernel
theorem s199_1205 {l1 l2 l3 : Option Value} {st : List Value} {x : Nat} {m : kMem} {Q : Option Value → kMem → Prop} : kJ 199 1205 [some (.ref x), l1, l2, l3] st m Q = kJ 199 1206 [some (.ref x), l1, l2, l3] (.ref x :: st) m Q := kJ_next d199_1205 rfl
theorem d199_1206 : decode (mB 199) 1206 = .ok (.iload_n 3, 1) := by decide +kernel
theorem s199_1206 {l0 l1 l2 : Option Value} {st : List Value} {x : Int32} {m : kMem} {Q : Option Value → kMem → Prop} : kJ 199 1206 [l0, l1, l2, some (.int x)] st m Q = kJ 199 1207 [l0, l1, l2, some (.int x)] (.int x :: st) m Q := kJ_next d199_1206 rfl
theorem d199_1207 : decode (mB 199) 1207 = .ok (.iconst 1, 1) := by decide +kernel
theorem s199_1207 {l0 l1 l2 l3 : Option Value} {st : List Value} {m : kMem} {Q : Option Value → kMem → Prop} : kJ 199 1207 [l0, l1, l2, l3] st m Q = kJ 199 1208 [l0, l1, l2, l3] (.int (nI 1) :: st) m Q := kJ_next d199_1207 rfl
theorem d199_1208 : decode (mB 199) 1208 = .ok (.iadd, 1) := by decide +kernel
theorem s199_1208 {l0 l1 l2 l3 : Option Value} {st : List Value} {a b : Int32} {m : kMem} {Q : Option Value → kMem → Prop} : kJ 199 1208 [l0, l1, l2, l3] (.int b :: .int a :: st) m Q = kJ 199 1209 [l0, l1, l2, l3] (.int (a + b) :: st) m Q := kJ_next d199_1208 rfl
theorem d199_1209 : decode (mB 199) 1209 = .ok (.iaload, 1) := by decide +kernel
theorem s199_1209 {l0 l1 l2 l3 : Option Value} {st : List Value} {q : Nat} {i : Int32} {mi : Nat → Nat → Int32} {ml : Nat → Nat → Int64} {mr : Nat → Nat → Option Nat} {nx : Nat} {Q : Option Value → kMem → Prop} (h : kIs nx q 10 = true) : kJ 199 1209 [l0, l1, l2, l3] (.int i :: .ref q :: st) (mi, ml, mr, nx) Q = (vp_in i (kAl q) ∧ kJ 199 1210 [l0, l1, l2, l3] (.int (mi q i.toNatClampNeg) :: st) (mi, ml, mr, nx) Q) := kg_aldJ d199_1209 rfl (kAr_of h)
theorem d199_1210 : decode (mB 199) 1210 = .ok (.invokevirtual 147, 3) := by decide +kernel
theorem s199_1210 {l0 l1 l2 l3 : Option Value} {v0 : Int32} {v1 : Nat} {v2 : Int32} {m : kMem} {Q : Option Value → kMem → Prop} (h : kIs m.2.2.2 v1 5 = true) : kJ 199 1210 [l0, l1, l2, l3] [.int v0, .ref v1, .int v2] m Q = kJ 190 0 [some (.ref v1), some (.int v0), none] [] m (fun v m2 => kJ 199 1213 [l0, l1, l2, l3] (v.toList ++ [.int v2]) m2 Q) := kJ_call d199_1210 (kg_callv 190 1 rfl rfl rfl rfl (Nat.le_of_ble_eq_true rfl) (Nat.le_of_ble_eq_true rfl) (Nat.le_of_ble_eq_true rfl) h rfl)
theorem d199_1213 : decode (mB 199) 1213 = .ok (.if_icmp .eq 203, 3) := by decide +kernel
theorem s199_1213 {l0 l1 l2 l3 : Option Value} {st : List Value} {a b : Int32} {m : kMem} {Q : Option Value → kMem → Prop} : kJ 199 1213 [l0, l1, l2, l3] (.int b :: .int a :: st) m Q = (if a = b then kJ 199 1416 [l0, l1, l2, l3] st m Q else kJ 199 1216 [l0, l1, l2, l3] st m Q) := kJ_if d199_1213 rfl (fun h => kJ_next d199_1213 h) (fun h => kJ_next d199_1213 h)
theorem d199_1216 : decode (mB 199) 1216 = .ok (.iconst 0, 1) := by decide +kernel
theorem s199_1216 {l0 l1 l2 l3 : Option Value} {st : List Value} {m : kMem} {Q : Option Value → kMem → Prop} : kJ 199 1216 [l0, l1, l2, l3] st m Q = kJ 199 1217 [l0, l1, l2, l3] (.int (nI 0) :: st) m Q := kJ_next d199_1216 rfl
theorem d199_1217 : decode (mB 199) 1217 = .ok (.ireturn, 1) := by decide +kernel
theorem s199_1217 {l0 l1 l2 l3 : Option Value} {x : Int32} {m : kMem} {Q : Option Value → kMem → Prop} (hx : x = 0 ∨ x = 1) : kJ 199 1217 [l0, l1, l2, l3] [.int x] m Q = Q (some (.int x)) m := kJ_ret d199_1217 (kg_retz (by decide) hx)
theorem d199_1218 : decode (mB 199) 1218 = .ok (.aload_n 1, 1) := by decide +kernel
theorem s199_1218 {l0 l2 l3 : Option Value} {st : List Value} {x : Nat} {m : kMem} {Q : Option Value → kMem → Prop} : kJ 199 1218 [l0, some (.ref x), l2, l3] st m Q = kJ 199 1219 [l0, some (.ref x), l2, l3] (.ref x :: st) m Q := kJ_next d199_1218 rfl
theorem d199_1219 : decode (mB 199) 1219 = .ok (.aload_n 0, 1) := by decide +kernel
theorem s199_1219 {l1 l2 l3 : Option Value} {st : List Value} {x : Nat} {m : kMem} {Q : Option Value → kMem → Prop} : kJ 199 1219 [some (.ref x), l1, l2, l3] st m Q = kJ 199 1220 [some (.ref x), l1, l2, l3] (.ref x :: st) m Q := kJ_next d199_1219 rfl
theorem d199_1220 : decode (mB 199) 1220 = .ok (.iload_n 3, 1) := by decide +kernel
theorem s199_1220 {l0 l1 l2 : Option Value} {st : List Value} {x : Int32} {m : kMem} {Q : Option Value → kMem → Prop} : kJ 199 1220 [l0, l1, l2, some (.int x)] st m Q = kJ 199 1221 [l0, l1, l2, some (.int x)] (.int x :: st) m Q := kJ_next d199_1220 rfl
theorem d199_1221 : decode (mB 199) 1221 = .ok (.iconst 1, 1) := by decide +kernel
theorem s199_1221 {l0 l1 l2 l3 : Option Value} {st : List Value} {m : kMem} {Q : Option Value → kMem → Prop} : kJ 199 1221 [l0, l1, l2, l3] st m Q = kJ 199 1222 [l0, l1, l2, l3] (.int (nI 1) :: st) m Q := kJ_next d199_1221 rfl
theorem d199_1222 : decode (mB 199) 1222 = .ok (.iadd, 1) := by decide +kernel
theorem s199_1222 {l0 l1 l2 l3 : Option Value} {st : List Value} {a b : Int32} {m : kMem} {Q : Option Value → kMem → Prop} : kJ 199 1222 [l0, l1, l2, l3] (.int b :: .int a :: st) m Q = kJ 199 1223 [l0, l1, l2, l3] (.int (a + b) :: st) m Q := kJ_next d199_1222 rfl
theorem d199_1223 : decode (mB 199) 1223 = .ok (.iaload, 1) := by decide +kernel
theorem s199_1223 {l0 l1 l2 l3 : Option Value} {st : List Value} {q : Nat} {i : Int32} {mi : Nat → Nat → Int32} {ml : Nat → Nat → Int64} {mr : Nat → Nat → Option Nat} {nx : Nat} {Q : Option Value → kMem → Prop} (h : kIs nx q 10 = true) : kJ 199 1223 [l0, l1, l2, l3] (.int i :: .ref q :: st) (mi, ml, mr, nx) Q = (vp_in i (kAl q) ∧ kJ 199 1224 [l0, l1, l2, l3] (.int (mi q i.toNatClampNeg) :: st) (mi, ml, mr, nx) Q) := kg_aldJ d199_1223 rfl (kAr_of h)
theorem d199_1224 : decode (mB 199) 1224 = .ok (.invokevirtual 148, 3) := by decide +kernel
theorem s199_1224 {l0 l1 l2 l3 : Option Value} {v0 : Int32} {v1 : Nat} {m : kMem} {Q : Option Value → kMem → Prop} (h : kIs m.2.2.2 v1 4 = true) : kJ 199 1224 [l0, l1, l2, l3] [.int v0, .ref v1] m Q = kJ 84 0 [some (.ref v1), some (.int v0)] [] m (fun v m2 => kJ 199 1227 [l0, l1, l2, l3] (v.toList ++ []) m2 Q) := kJ_call d199_1224 (kg_callv 84 1 rfl rfl rfl rfl (Nat.le_of_ble_eq_true rfl) (Nat.le_of_ble_eq_true rfl) (Nat.le_of_ble_eq_true rfl) h rfl)
theorem d199_1227 : decode (mB 199) 1227 = .ok (.aload_n 2, 1) := by decide +kernel
theorem s199_1227 {l0 l1 l3 : Option Value} {st : List Value} {x : Nat} {m : kMem} {Q : Option Value → kMem → Prop} : kJ 199 1227 [l0, l1, some (.ref x), l3] st m Q = kJ 199 1228 [l0, l1, some (.ref x), l3] (.ref x :: st) m Q := kJ_next d199_1227 rfl
theorem d199_1228 : decode (mB 199) 1228 = .ok (.aload_n 0, 1) := by decide +kernel
theorem s199_1228 {l1 l2 l3 : Option Value} {st : List Value} {x : Nat} {m : kMem} {Q : Option Value → kMem → Prop} : kJ 199 1228 [some (.ref x), l1, l2, l3] st m Q = kJ 199 1229 [some (.ref x), l1, l2, l3] (.ref x :: st) m Q := kJ_next d199_1228 rfl
theorem d199_1229 : decode (mB 199) 1229 = .ok (.iload_n 3, 1) := by decide +kernel
theorem s199_1229 {l0 l1 l2 : Option Value} {st : List Value} {x : Int32} {m : kMem} {Q : Option Value → kMem → Prop} : kJ 199 1229 [l0, l1, l2, some (.int x)] st m Q = kJ 199 1230 [l0, l1, l2, some (.int x)] (.int x :: st) m Q := kJ_next d199_1229 rfl
theorem d199_1230 : decode (mB 199) 1230 = .ok (.iconst 1, 1) := by decide +kernel
theorem s199_1230 {l0 l1 l2 l3 : Option Value} {st : List Value} {m : kMem} {Q : Option Value → kMem → Prop} : kJ 199 1230 [l0, l1, l2, l3] st m Q = kJ 199 1231 [l0, l1, l2, l3] (.int (nI 1) :: st) m Q := kJ_next d199_1230 rfl
theorem d199_1231 : decode (mB 199) 1231 = .ok (.iadd, 1) := by decide +kernel
theorem s199_1231 {l0 l1 l2 l3 : Option Value} {st : List Value} {a b : Int32} {m : kMem} {Q : Option Value → kMem → Prop} : kJ 199 1231 [l0, l1, l2, l3] (.int b :: .int a :: st) m Q = kJ 199 1232 [l0, l1, l2, l3] (.int (a + b) :: st) m Q := kJ_next d199_1231 rfl
theorem d199_1232 : decode (mB 199) 1232 = .ok (.iaload, 1) := by decide +kernel
theorem s199_1232 {l0 l1 l2 l3 : Option Value} {st : List Value} {q : Nat} {i : Int32} {mi : Nat → Nat → Int32} {ml : Nat → Nat → Int64} {mr : Nat → Nat → Option Nat} {nx : Nat} {Q : Option Value → kMem → Prop} (h : kIs nx q 10 = true) : kJ 199 1232 [l0, l1, l2, l3] (.int i :: .ref q :: st) (mi, ml, mr, nx) Q = (vp_in i (kAl q) ∧ kJ 199 1233 [l0, l1, l2, l3] (.int (mi q i.toNatClampNeg) :: st) (mi, ml, mr, nx) Q) := kg_aldJ d199_1232 rfl (kAr_of h)
theorem d199_1233 : decode (mB 199) 1233 = .ok (.invokevirtual 151, 3) := by decide +kernel
theorem s199_1233 {l0 l1 l2 l3 : Option Value} {v0 : Int32} {v1 : Nat} {v2 : Int32} {m : kMem} {Q : Option Value → kMem → Prop} (h : kIs m.2.2.2 v1 5 = true) : kJ 199 1233 [l0, l1, l2, l3] [.int v0, .ref v1, .int v2] m Q = kJ 191 0 [some (.ref v1), some (.int v0)] [] m (fun v m2 => kJ 199 1236 [l0, l1, l2, l3] (v.toList ++ [.int v2]) m2 Q) := kJ_call d199_1233 (kg_callv 191 1 rfl rfl rfl rfl (Nat.le_of_ble_eq_true rfl) (Nat.le_of_ble_eq_true rfl) (Nat.le_of_ble_eq_true rfl) h rfl)
theorem d199_1236 : decode (mB 199) 1236 = .ok (.if_icmp .eq 180, 3) := by decide +kernel
theorem s199_1236 {l0 l1 l2 l3 : Option Value} {st : List Value} {a b : Int32} {m : kMem} {Q : Option Value → kMem → Prop} : kJ 199 1236 [l0, l1, l2, l3] (.int b :: .int a :: st) m Q = (if a = b then kJ 199 1416 [l0, l1, l2, l3] st m Q else kJ 199 1239 [l0, l1, l2, l3] st m Q) := kJ_if d199_1236 rfl (fun h => kJ_next d199_1236 h) (fun h => kJ_next d199_1236 h)
theorem d199_1239 : decode (mB 199) 1239 = .ok (.iconst 0, 1) := by decide +kernel
theorem s199_1239 {l0 l1 l2 l3 : Option Value} {st : List Value} {m : kMem} {Q : Option Value → kMem → Prop} : kJ 199 1239 [l0, l1, l2, l3] st m Q = kJ 199 1240 [l0, l1, l2, l3] (.int (nI 0) :: st) m Q := kJ_next d199_1239 rfl
theorem d199_1240 : decode (mB 199) 1240 = .ok (.ireturn, 1) := by decide +kernel
theorem s199_1240 {l0 l1 l2 l3 : Option Value} {x : Int32} {m : kMem} {Q : Option Value → kMem → Prop} (hx : x = 0 ∨ x = 1) : kJ 199 1240 [l0, l1, l2, l3] [.int x] m Q = Q (some (.int x)) m := kJ_ret d199_1240 (kg_retz (by decide) hx)
theorem d199_1241 : decode (mB 199) 1241 = .ok (.aload_n 1, 1) := by decide +kernel
theorem s199_1241 {l0 l2 l3 : Option Value} {st : List Value} {x : Nat} {m : kMem} {Q : Option Value → kMem → Prop} : kJ 199 1241 [l0, some (.ref x), l2, l3] st m Q = kJ 199 1242 [l0, some (.ref x), l2, l3] (.ref x :: st) m Q := kJ_next d199_1241 rfl
theorem d199_1242 : decode (mB 199) 1242 = .ok (.aload_n 0, 1) := by decide +kernel
theorem s199_1242 {l1 l2 l3 : Option Value} {st : List Value} {x : Nat} {m : kMem} {Q : Option Value → kMem → Prop} : kJ 199 1242 [some (.ref x), l1, l2, l3] st m Q = kJ 199 1243 [some (.ref x), l1, l2, l3] (.ref x :: st) m Q := kJ_next d199_1242 rfl
theorem d199_1243 : decode (mB 199) 1243 = .ok (.iload_n 3, 1) := by decide +kernel
theorem s199_1243 {l0 l1 l2 : Option Value} {st : List Value} {x : Int32} {m : kMem} {Q : Option Value → kMem → Prop} : kJ 199 1243 [l0, l1, l2, some (.int x)] st m Q = kJ 199 1244 [l0, l1, l2, some (.int x)] (.int x :: st) m Q := kJ_next d199_1243 rfl
theorem d199_1244 : decode (mB 199) 1244 = .ok (.iconst 1, 1) := by decide +kernel
theorem s199_1244 {l0 l1 l2 l3 : Option Value} {st : List Value} {m : kMem} {Q : Option Value → kMem → Prop} : kJ 199 1244 [l0, l1, l2, l3] st m Q = kJ 199 1245 [l0, l1, l2, l3] (.int (nI 1) :: st) m Q := kJ_next d199_1244 rfl
theorem d199_1245 : decode (mB 199) 1245 = .ok (.iadd, 1) := by decide +kernel
theorem s199_1245 {l0 l1 l2 l3 : Option Value} {st : List Value} {a b : Int32} {m : kMem} {Q : Option Value → kMem → Prop} : kJ 199 1245 [l0, l1, l2, l3] (.int b :: .int a :: st) m Q = kJ 199 1246 [l0, l1, l2, l3] (.int (a + b) :: st) m Q := kJ_next d199_1245 rfl
theorem d199_1246 : decode (mB 199) 1246 = .ok (.iaload, 1) := by decide +kernel
theorem s199_1246 {l0 l1 l2 l3 : Option Value} {st : List Value} {q : Nat} {i : Int32} {mi : Nat → Nat → Int32} {ml : Nat → Nat → Int64} {mr : Nat → Nat → Option Nat} {nx : Nat} {Q : Option Value → kMem → Prop} (h : kIs nx q 10 = true) : kJ 199 1246 [l0, l1, l2, l3] (.int i :: .ref q :: st) (mi, ml, mr, nx) Q = (vp_in i (kAl q) ∧ kJ 199 1247 [l0, l1, l2, l3] (.int (mi q i.toNatClampNeg) :: st) (mi, ml, mr, nx) Q) := kg_aldJ d199_1246 rfl (kAr_of h)
theorem d199_1247 : decode (mB 199) 1247 = .ok (.aload_n 0, 1) := by decide +kernel
theorem s199_1247 {l1 l2 l3 : Option Value} {st : List Value} {x : Nat} {m : kMem} {Q : Option Value → kMem → Prop} : kJ 199 1247 [some (.ref x), l1, l2, l3] st m Q = kJ 199 1248 [some (.ref x), l1, l2, l3] (.ref x :: st) m Q := kJ_next d199_1247 rfl
theorem d199_1248 : decode (mB 199) 1248 = .ok (.iload_n 3, 1) := by decide +kernel
theorem s199_1248 {l0 l1 l2 : Option Value} {st : List Value} {x : Int32} {m : kMem} {Q : Option Value → kMem → Prop} : kJ 199 1248 [l0, l1, l2, some (.int x)] st m Q = kJ 199 1249 [l0, l1, l2, some (.int x)] (.int x :: st) m Q := kJ_next d199_1248 rfl
theorem d199_1249 : decode (mB 199) 1249 = .ok (.iconst 2, 1) := by decide +kernel
theorem s199_1249 {l0 l1 l2 l3 : Option Value} {st : List Value} {m : kMem} {Q : Option Value → kMem → Prop} : kJ 199 1249 [l0, l1, l2, l3] st m Q = kJ 199 1250 [l0, l1, l2, l3] (.int (nI 2) :: st) m Q := kJ_next d199_1249 rfl
theorem d199_1250 : decode (mB 199) 1250 = .ok (.iadd, 1) := by decide +kernel
theorem s199_1250 {l0 l1 l2 l3 : Option Value} {st : List Value} {a b : Int32} {m : kMem} {Q : Option Value → kMem → Prop} : kJ 199 1250 [l0, l1, l2, l3] (.int b :: .int a :: st) m Q = kJ 199 1251 [l0, l1, l2, l3] (.int (a + b) :: st) m Q := kJ_next d199_1250 rfl
theorem d199_1251 : decode (mB 199) 1251 = .ok (.iaload, 1) := by decide +kernel
theorem s199_1251 {l0 l1 l2 l3 : Option Value} {st : List Value} {q : Nat} {i : Int32} {mi : Nat → Nat → Int32} {ml : Nat → Nat → Int64} {mr : Nat → Nat → Option Nat} {nx : Nat} {Q : Option Value → kMem → Prop} (h : kIs nx q 10 = true) : kJ 199 1251 [l0, l1, l2, l3] (.int i :: .ref q :: st) (mi, ml, mr, nx) Q = (vp_in i (kAl q) ∧ kJ 199 1252 [l0, l1, l2, l3] (.int (mi q i.toNatClampNeg) :: st) (mi, ml, mr, nx) Q) := kg_aldJ d199_1251 rfl (kAr_of h)
theorem d199_1252 : decode (mB 199) 1252 = .ok (.aload_n 0, 1) := by decide +kernel
theorem s199_1252 {l1 l2 l3 : Option Value} {st : List Value} {x : Nat} {m : kMem} {Q : Option Value → kMem → Prop} : kJ 199 1252 [some (.ref x), l1, l2, l3] st m Q = kJ 199 1253 [some (.ref x), l1, l2, l3] (.ref x :: st) m Q := kJ_next d199_1252 rfl
theorem d199_1253 : decode (mB 199) 1253 = .ok (.iload_n 3, 1) := by decide +kernel
theorem s199_1253 {l0 l1 l2 : Option Value} {st : List Value} {x : Int32} {m : kMem} {Q : Option Value → kMem → Prop} : kJ 199 1253 [l0, l1, l2, some (.int x)] st m Q = kJ 199 1254 [l0, l1, l2, some (.int x)] (.int x :: st) m Q := kJ_next d199_1253 rfl
theorem d199_1254 : decode (mB 199) 1254 = .ok (.iconst 3, 1) := by decide +kernel
theorem s199_1254 {l0 l1 l2 l3 : Option Value} {st : List Value} {m : kMem} {Q : Option Value → kMem → Prop} : kJ 199 1254 [l0, l1, l2, l3] st m Q = kJ 199 1255 [l0, l1, l2, l3] (.int (nI 3) :: st) m Q := kJ_next d199_1254 rfl
theorem d199_1255 : decode (mB 199) 1255 = .ok (.iadd, 1) := by decide +kernel
theorem s199_1255 {l0 l1 l2 l3 : Option Value} {st : List Value} {a b : Int32} {m : kMem} {Q : Option Value → kMem → Prop} : kJ 199 1255 [l0, l1, l2, l3] (.int b :: .int a :: st) m Q = kJ 199 1256 [l0, l1, l2, l3] (.int (a + b) :: st) m Q := kJ_next d199_1255 rfl
theorem d199_1256 : decode (mB 199) 1256 = .ok (.iaload, 1) := by decide +kernel
theorem s199_1256 {l0 l1 l2 l3 : Option Value} {st : List Value} {q : Nat} {i : Int32} {mi : Nat → Nat → Int32} {ml : Nat → Nat → Int64} {mr : Nat → Nat → Option Nat} {nx : Nat} {Q : Option Value → kMem → Prop} (h : kIs nx q 10 = true) : kJ 199 1256 [l0, l1, l2, l3] (.int i :: .ref q :: st) (mi, ml, mr, nx) Q = (vp_in i (kAl q) ∧ kJ 199 1257 [l0, l1, l2, l3] (.int (mi q i.toNatClampNeg) :: st) (mi, ml, mr, nx) Q) := kg_aldJ d199_1256 rfl (kAr_of h)
theorem d199_1257 : decode (mB 199) 1257 = .ok (.invokevirtual 152, 3) := by decide +kernel
theorem s199_1257 {l0 l1 l2 l3 : Option Value} {v0 : Int32} {v1 : Int32} {v2 : Int32} {v3 : Nat} {m : kMem} {Q : Option Value → kMem → Prop} (h : kIs m.2.2.2 v3 4 = true) : kJ 199 1257 [l0, l1, l2, l3] [.int v0, .int v1, .int v2, .ref v3] m Q = kJ 85 0 [some (.ref v3), some (.int v2), some (.int v1), some (.int v0)] [] m (fun v m2 => kJ 199 1260 [l0, l1, l2, l3] (v.toList ++ []) m2 Q) := kJ_call d199_1257 (kg_callv 85 3 rfl rfl rfl rfl (Nat.le_of_ble_eq_true rfl) (Nat.le_of_ble_eq_true rfl) (Nat.le_of_ble_eq_true rfl) h rfl)
theorem d199_1260 : decode (mB 199) 1260 = .ok (.aload_n 2, 1) := by decide +kernel
theorem s199_1260 {l0 l1 l3 : Option Value} {st : List Value} {x : Nat} {m : kMem} {Q : Option Value → kMem → Prop} : kJ 199 1260 [l0, l1, some (.ref x), l3] st m Q = kJ 199 1261 [l0, l1, some (.ref x), l3] (.ref x :: st) m Q := kJ_next d199_1260 rfl
theorem d199_1261 : decode (mB 199) 1261 = .ok (.aload_n 0, 1) := by decide +kernel
theorem s199_1261 {l1 l2 l3 : Option Value} {st : List Value} {x : Nat} {m : kMem} {Q : Option Value → kMem → Prop} : kJ 199 1261 [some (.ref x), l1, l2, l3] st m Q = kJ 199 1262 [some (.ref x), l1, l2, l3] (.ref x :: st) m Q := kJ_next d199_1261 rfl
theorem d199_1262 : decode (mB 199) 1262 = .ok (.iload_n 3, 1) := by decide +kernel
theorem s199_1262 {l0 l1 l2 : Option Value} {st : List Value} {x : Int32} {m : kMem} {Q : Option Value → kMem → Prop} : kJ 199 1262 [l0, l1, l2, some (.int x)] st m Q = kJ 199 1263 [l0, l1, l2, some (.int x)] (.int x :: st) m Q := kJ_next d199_1262 rfl
theorem d199_1263 : decode (mB 199) 1263 = .ok (.iconst 1, 1) := by decide +kernel
theorem s199_1263 {l0 l1 l2 l3 : Option Value} {st : List Value} {m : kMem} {Q : Option Value → kMem → Prop} : kJ 199 1263 [l0, l1, l2, l3] st m Q = kJ 199 1264 [l0, l1, l2, l3] (.int (nI 1) :: st) m Q := kJ_next d199_1263 rfl
theorem d199_1264 : decode (mB 199) 1264 = .ok (.iadd, 1) := by decide +kernel
theorem s199_1264 {l0 l1 l2 l3 : Option Value} {st : List Value} {a b : Int32} {m : kMem} {Q : Option Value → kMem → Prop} : kJ 199 1264 [l0, l1, l2, l3] (.int b :: .int a :: st) m Q = kJ 199 1265 [l0, l1, l2, l3] (.int (a + b) :: st) m Q := kJ_next d199_1264 rfl
theorem d199_1265 : decode (mB 199) 1265 = .ok (.iaload, 1) := by decide +kernel
theorem s199_1265 {l0 l1 l2 l3 : Option Value} {st : List Value} {q : Nat} {i : Int32} {mi : Nat → Nat → Int32} {ml : Nat → Nat → Int64} {mr : Nat → Nat → Option Nat} {nx : Nat} {Q : Option Value → kMem → Prop} (h : kIs nx q 10 = true) : kJ 199 1265 [l0, l1, l2, l3] (.int i :: .ref q :: st) (mi, ml, mr, nx) Q = (vp_in i (kAl q) ∧ kJ 199 1266 [l0, l1, l2, l3] (.int (mi q i.toNatClampNeg) :: st) (mi, ml, mr, nx) Q) := kg_aldJ d199_1265 rfl (kAr_of h)
theorem d199_1266 : decode (mB 199) 1266 = .ok (.aload_n 0, 1) := by decide +kernel
theorem s199_1266 {l1 l2 l3 : Option Value} {st : List Value} {x : Nat} {m : kMem} {Q : Option Value → kMem → Prop} : kJ 199 1266 [some (.ref x), l1, l2, l3] st m Q = kJ 199 1267 [some (.ref x), l1, l2, l3] (.ref x :: st) m Q := kJ_next d199_1266 rfl
theorem d199_1267 : decode (mB 199) 1267 = .ok (.iload_n 3, 1) := by decide +kernel
theorem s199_1267 {l0 l1 l2 : Option Value} {st : List Value} {x : Int32} {m : kMem} {Q : Option Value → kMem → Prop} : kJ 199 1267 [l0, l1, l2, some (.int x)] st m Q = kJ 199 1268 [l0, l1, l2, some (.int x)] (.int x :: st) m Q := kJ_next d199_1267 rfl
theorem d199_1268 : decode (mB 199) 1268 = .ok (.iconst 2, 1) := by decide +kernel
theorem s199_1268 {l0 l1 l2 l3 : Option Value} {st : List Value} {m : kMem} {Q : Option Value → kMem → Prop} : kJ 199 1268 [l0, l1, l2, l3] st m Q = kJ 199 1269 [l0, l1, l2, l3] (.int (nI 2) :: st) m Q := kJ_next d199_1268 rfl
theorem d199_1269 : decode (mB 199) 1269 = .ok (.iadd, 1) := by decide +kernel
theorem s199_1269 {l0 l1 l2 l3 : Option Value} {st : List Value} {a b : Int32} {m : kMem} {Q : Option Value → kMem → Prop} : kJ 199 1269 [l0, l1, l2, l3] (.int b :: .int a :: st) m Q = kJ 199 1270 [l0, l1, l2, l3] (.int (a + b) :: st) m Q := kJ_next d199_1269 rfl
theorem d199_1270 : decode (mB 199) 1270 = .ok (.iaload, 1) := by decide +kernel
theorem s199_1270 {l0 l1 l2 l3 : Option Value} {st : List Value} {q : Nat} {i : Int32} {mi : Nat → Nat → Int32} {ml : Nat → Nat → Int64} {mr : Nat → Nat → Option Nat} {nx : Nat} {Q : Option Value → kMem → Prop} (h : kIs nx q 10 = true) : kJ 199 1270 [l0, l1, l2, l3] (.int i :: .ref q :: st) (mi, ml, mr, nx) Q = (vp_in i (kAl q) ∧ kJ 199 1271 [l0, l1, l2, l3] (.int (mi q i.toNatClampNeg) :: st) (mi, ml, mr, nx) Q) := kg_aldJ d199_1270 rfl (kAr_of h)
theorem d199_1271 : decode (mB 199) 1271 = .ok (.aload_n 0, 1) := by decide +kernel
theorem s199_1271 {l1 l2 l3 : Option Value} {st : List Value} {x : Nat} {m : kMem} {Q : Option Value → kMem → Prop} : kJ 199 1271 [some (.ref x), l1, l2, l3] st m Q = kJ 199 1272 [some (.ref x), l1, l2, l3] (.ref x :: st) m Q := kJ_next d199_1271 rfl
theorem d199_1272 : decode (mB 199) 1272 = .ok (.iload_n 3, 1) := by decide +kernel
theorem s199_1272 {l0 l1 l2 : Option Value} {st : List Value} {x : Int32} {m : kMem} {Q : Option Value → kMem → Prop} : kJ 199 1272 [l0, l1, l2, some (.int x)] st m Q = kJ 199 1273 [l0, l1, l2, some (.int x)] (.int x :: st) m Q := kJ_next d199_1272 rfl
theorem d199_1273 : decode (mB 199) 1273 = .ok (.iconst 3, 1) := by decide +kernel
theorem s199_1273 {l0 l1 l2 l3 : Option Value} {st : List Value} {m : kMem} {Q : Option Value → kMem → Prop} : kJ 199 1273 [l0, l1, l2, l3] st m Q = kJ 199 1274 [l0, l1, l2, l3] (.int (nI 3) :: st) m Q := kJ_next d199_1273 rfl
theorem d199_1274 : decode (mB 199) 1274 = .ok (.iadd, 1) := by decide +kernel
theorem s199_1274 {l0 l1 l2 l3 : Option Value} {st : List Value} {a b : Int32} {m : kMem} {Q : Option Value → kMem → Prop} : kJ 199 1274 [l0, l1, l2, l3] (.int b :: .int a :: st) m Q = kJ 199 1275 [l0, l1, l2, l3] (.int (a + b) :: st) m Q := kJ_next d199_1274 rfl
theorem d199_1275 : decode (mB 199) 1275 = .ok (.iaload, 1) := by decide +kernel
theorem s199_1275 {l0 l1 l2 l3 : Option Value} {st : List Value} {q : Nat} {i : Int32} {mi : Nat → Nat → Int32} {ml : Nat → Nat → Int64} {mr : Nat → Nat → Option Nat} {nx : Nat} {Q : Option Value → kMem → Prop} (h : kIs nx q 10 = true) : kJ 199 1275 [l0, l1, l2, l3] (.int i :: .ref q :: st) (mi, ml, mr, nx) Q = (vp_in i (kAl q) ∧ kJ 199 1276 [l0, l1, l2, l3] (.int (mi q i.toNatClampNeg) :: st) (mi, ml, mr, nx) Q) := kg_aldJ d199_1275 rfl (kAr_of h)
theorem d199_1276 : decode (mB 199) 1276 = .ok (.invokevirtual 155, 3) := by decide +kernel
theorem s199_1276 {l0 l1 l2 l3 : Option Value} {v0 : Int32} {v1 : Int32} {v2 : Int32} {v3 : Nat} {v4 : Int32} {m : kMem} {Q : Option Value → kMem → Prop} (h : kIs m.2.2.2 v3 5 = true) : kJ 199 1276 [l0, l1, l2, l3] [.int v0, .int v1, .int v2, .ref v3, .int v4] m Q = kJ 193 0 [some (.ref v3), some (.int v2), some (.int v1), some (.int v0), none] [] m (fun v m2 => kJ 199 1279 [l0, l1, l2, l3] (v.toList ++ [.int v4]) m2 Q) := kJ_call d199_1276 (kg_callv 193 3 rfl rfl rfl rfl (Nat.le_of_ble_eq_true rfl) (Nat.le_of_ble_eq_true rfl) (Nat.le_of_ble_eq_true rfl) h rfl)
theorem d199_1279 : decode (mB 199) 1279 = .ok (.if_icmp .eq 137, 3) := by decide +kernel
theorem s199_1279 {l0 l1 l2 l3 : Option Value} {st : List Value} {a b : Int32} {m : kMem} {Q : Option Value → kMem → Prop} : kJ 199 1279 [l0, l1, l2, l3] (.int b :: .int a :: st) m Q = (if a = b then kJ 199 1416 [l0, l1, l2, l3] st m Q else kJ 199 1282 [l0, l1, l2, l3] st m Q) := kJ_if d199_1279 rfl (fun h => kJ_next d199_1279 h) (fun h => kJ_next d199_1279 h)
theorem d199_1282 : decode (mB 199) 1282 = .ok (.iconst 0, 1) := by decide +kernel
theorem s199_1282 {l0 l1 l2 l3 : Option Value} {st : List Value} {m : kMem} {Q : Option Value → kMem → Prop} : kJ 199 1282 [l0, l1, l2, l3] st m Q = kJ 199 1283 [l0, l1, l2, l3] (.int (nI 0) :: st) m Q := kJ_next d199_1282 rfl
theorem d199_1283 : decode (mB 199) 1283 = .ok (.ireturn, 1) := by decide +kernel
theorem s199_1283 {l0 l1 l2 l3 : Option Value} {x : Int32} {m : kMem} {Q : Option Value → kMem → Prop} (hx : x = 0 ∨ x = 1) : kJ 199 1283 [l0, l1, l2, l3] [.int x] m Q = Q (some (.int x)) m := kJ_ret d199_1283 (kg_retz (by decide) hx)
theorem d199_1284 : decode (mB 199) 1284 = .ok (.aload_n 1, 1) := by decide +kernel
theorem s199_1284 {l0 l2 l3 : Option Value} {st : List Value} {x : Nat} {m : kMem} {Q : Option Value → kMem → Prop} : kJ 199 1284 [l0, some (.ref x), l2, l3] st m Q = kJ 199 1285 [l0, some (.ref x), l2, l3] (.ref x :: st) m Q := kJ_next d199_1284 rfl
theorem d199_1285 : decode (mB 199) 1285 = .ok (.aload_n 0, 1) := by decide +kernel
theorem s199_1285 {l1 l2 l3 : Option Value} {st : List Value} {x : Nat} {m : kMem} {Q : Option Value → kMem → Prop} : kJ 199 1285 [some (.ref x), l1, l2, l3] st m Q = kJ 199 1286 [some (.ref x), l1, l2, l3] (.ref x :: st) m Q := kJ_next d199_1285 rfl
theorem d199_1286 : decode (mB 199) 1286 = .ok (.iload_n 3, 1) := by decide +kernel
theorem s199_1286 {l0 l1 l2 : Option Value} {st : List Value} {x : Int32} {m : kMem} {Q : Option Value → kMem → Prop} : kJ 199 1286 [l0, l1, l2, some (.int x)] st m Q = kJ 199 1287 [l0, l1, l2, some (.int x)] (.int x :: st) m Q := kJ_next d199_1286 rfl
theorem d199_1287 : decode (mB 199) 1287 = .ok (.iconst 1, 1) := by decide +kernel
theorem s199_1287 {l0 l1 l2 l3 : Option Value} {st : List Value} {m : kMem} {Q : Option Value → kMem → Prop} : kJ 199 1287 [l0, l1, l2, l3] st m Q = kJ 199 1288 [l0, l1, l2, l3] (.int (nI 1) :: st) m Q := kJ_next d199_1287 rfl
theorem d199_1288 : decode (mB 199) 1288 = .ok (.iadd, 1) := by decide +kernel
theorem s199_1288 {l0 l1 l2 l3 : Option Value} {st : List Value} {a b : Int32} {m : kMem} {Q : Option Value → kMem → Prop} : kJ 199 1288 [l0, l1, l2, l3] (.int b :: .int a :: st) m Q = kJ 199 1289 [l0, l1, l2, l3] (.int (a + b) :: st) m Q := kJ_next d199_1288 rfl
theorem d199_1289 : decode (mB 199) 1289 = .ok (.iaload, 1) := by decide +kernel
theorem s199_1289 {l0 l1 l2 l3 : Option Value} {st : List Value} {q : Nat} {i : Int32} {mi : Nat → Nat → Int32} {ml : Nat → Nat → Int64} {mr : Nat → Nat → Option Nat} {nx : Nat} {Q : Option Value → kMem → Prop} (h : kIs nx q 10 = true) : kJ 199 1289 [l0, l1, l2, l3] (.int i :: .ref q :: st) (mi, ml, mr, nx) Q = (vp_in i (kAl q) ∧ kJ 199 1290 [l0, l1, l2, l3] (.int (mi q i.toNatClampNeg) :: st) (mi, ml, mr, nx) Q) := kg_aldJ d199_1289 rfl (kAr_of h)
theorem d199_1290 : decode (mB 199) 1290 = .ok (.aload_n 0, 1) := by decide +kernel
theorem s199_1290 {l1 l2 l3 : Option Value} {st : List Value} {x : Nat} {m : kMem} {Q : Option Value → kMem → Prop} : kJ 199 1290 [some (.ref x), l1, l2, l3] st m Q = kJ 199 1291 [some (.ref x), l1, l2, l3] (.ref x :: st) m Q := kJ_next d199_1290 rfl
theorem d199_1291 : decode (mB 199) 1291 = .ok (.iload_n 3, 1) := by decide +kernel
theorem s199_1291 {l0 l1 l2 : Option Value} {st : List Value} {x : Int32} {m : kMem} {Q : Option Value → kMem → Prop} : kJ 199 1291 [l0, l1, l2, some (.int x)] st m Q = kJ 199 1292 [l0, l1, l2, some (.int x)] (.int x :: st) m Q := kJ_next d199_1291 rfl
theorem d199_1292 : decode (mB 199) 1292 = .ok (.iconst 2, 1) := by decide +kernel
theorem s199_1292 {l0 l1 l2 l3 : Option Value} {st : List Value} {m : kMem} {Q : Option Value → kMem → Prop} : kJ 199 1292 [l0, l1, l2, l3] st m Q = kJ 199 1293 [l0, l1, l2, l3] (.int (nI 2) :: st) m Q := kJ_next d199_1292 rfl
theorem d199_1293 : decode (mB 199) 1293 = .ok (.iadd, 1) := by decide +kernel
theorem s199_1293 {l0 l1 l2 l3 : Option Value} {st : List Value} {a b : Int32} {m : kMem} {Q : Option Value → kMem → Prop} : kJ 199 1293 [l0, l1, l2, l3] (.int b :: .int a :: st) m Q = kJ 199 1294 [l0, l1, l2, l3] (.int (a + b) :: st) m Q := kJ_next d199_1293 rfl
theorem d199_1294 : decode (mB 199) 1294 = .ok (.iaload, 1) := by decide +kernel
theorem s199_1294 {l0 l1 l2 l3 : Option Value} {st : List Value} {q : Nat} {i : Int32} {mi : Nat → Nat → Int32} {ml : Nat → Nat → Int64} {mr : Nat → Nat → Option Nat} {nx : Nat} {Q : Option Value → kMem → Prop} (h : kIs nx q 10 = true) : kJ 199 1294 [l0, l1, l2, l3] (.int i :: .ref q :: st) (mi, ml, mr, nx) Q = (vp_in i (kAl q) ∧ kJ 199 1295 [l0, l1, l2, l3] (.int (mi q i.toNatClampNeg) :: st) (mi, ml, mr, nx) Q) := kg_aldJ d199_1294 rfl (kAr_of h)
theorem d199_1295 : decode (mB 199) 1295 = .ok (.aload_n 0, 1) := by decide +kernel
theorem s199_1295 {l1 l2 l3 : Option Value} {st : List Value} {x : Nat} {m : kMem} {Q : Option Value → kMem → Prop} : kJ 199 1295 [some (.ref x), l1, l2, l3] st m Q = kJ 199 1296 [some (.ref x), l1, l2, l3] (.ref x :: st) m Q := kJ_next d199_1295 rfl
theorem d199_1296 : decode (mB 199) 1296 = .ok (.iload_n 3, 1) := by decide +kernel
theorem s199_1296 {l0 l1 l2 : Option Value} {st : List Value} {x : Int32} {m : kMem} {Q : Option Value → kMem → Prop} : kJ 199 1296 [l0, l1, l2, some (.int x)] st m Q = kJ 199 1297 [l0, l1, l2, some (.int x)] (.int x :: st) m Q := kJ_next d199_1296 rfl
theorem d199_1297 : decode (mB 199) 1297 = .ok (.iconst 3, 1) := by decide +kernel
theorem s199_1297 {l0 l1 l2 l3 : Option Value} {st : List Value} {m : kMem} {Q : Option Value → kMem → Prop} : kJ 199 1297 [l0, l1, l2, l3] st m Q = kJ 199 1298 [l0, l1, l2, l3] (.int (nI 3) :: st) m Q := kJ_next d199_1297 rfl
theorem d199_1298 : decode (mB 199) 1298 = .ok (.iadd, 1) := by decide +kernel
theorem s199_1298 {l0 l1 l2 l3 : Option Value} {st : List Value} {a b : Int32} {m : kMem} {Q : Option Value → kMem → Prop} : kJ 199 1298 [l0, l1, l2, l3] (.int b :: .int a :: st) m Q = kJ 199 1299 [l0, l1, l2, l3] (.int (a + b) :: st) m Q := kJ_next d199_1298 rfl
theorem d199_1299 : decode (mB 199) 1299 = .ok (.iaload, 1) := by decide +kernel
theorem s199_1299 {l0 l1 l2 l3 : Option Value} {st : List Value} {q : Nat} {i : Int32} {mi : Nat → Nat → Int32} {ml : Nat → Nat → Int64} {mr : Nat → Nat → Option Nat} {nx : Nat} {Q : Option Value → kMem → Prop} (h : kIs nx q 10 = true) : kJ 199 1299 [l0, l1, l2, l3] (.int i :: .ref q :: st) (mi, ml, mr, nx) Q = (vp_in i (kAl q) ∧ kJ 199 1300 [l0, l1, l2, l3] (.int (mi q i.toNatClampNeg) :: st) (mi, ml, mr, nx) Q) := kg_aldJ d199_1299 rfl (kAr_of h)
theorem d199_1300 : decode (mB 199) 1300 = .ok (.invokevirtual 156, 3) := by decide +kernel
theorem s199_1300 {l0 l1 l2 l3 : Option Value} {v0 : Int32} {v1 : Int32} {v2 : Int32} {v3 : Nat} {m : kMem} {Q : Option Value → kMem → Prop} (h : kIs m.2.2.2 v3 4 = true) : kJ 199 1300 [l0, l1, l2, l3] [.int v0, .int v1, .int v2, .ref v3] m Q = kJ 86 0 [some (.ref v3), some (.int v2), some (.int v1), some (.int v0), none] [] m (fun v m2 => kJ 199 1303 [l0, l1, l2, l3] (v.toList ++ []) m2 Q) := kJ_call d199_1300 (kg_callv 86 3 rfl rfl rfl rfl (Nat.le_of_ble_eq_true rfl) (Nat.le_of_ble_eq_true rfl) (Nat.le_of_ble_eq_true rfl) h rfl)
theorem d199_1303 : decode (mB 199) 1303 = .ok (.aload_n 2, 1) := by decide +kernel
theorem s199_1303 {l0 l1 l3 : Option Value} {st : List Value} {x : Nat} {m : kMem} {Q : Option Value → kMem → Prop} : kJ 199 1303 [l0, l1, some (.ref x), l3] st m Q = kJ 199 1304 [l0, l1, some (.ref x), l3] (.ref x :: st) m Q := kJ_next d199_1303 rfl
theorem d199_1304 : decode (mB 199) 1304 = .ok (.aload_n 0, 1) := by decide +kernel
theorem s199_1304 {l1 l2 l3 : Option Value} {st : List Value} {x : Nat} {m : kMem} {Q : Option Value → kMem → Prop} : kJ 199 1304 [some (.ref x), l1, l2, l3] st m Q = kJ 199 1305 [some (.ref x), l1, l2, l3] (.ref x :: st) m Q := kJ_next d199_1304 rfl
theorem d199_1305 : decode (mB 199) 1305 = .ok (.iload_n 3, 1) := by decide +kernel
theorem s199_1305 {l0 l1 l2 : Option Value} {st : List Value} {x : Int32} {m : kMem} {Q : Option Value → kMem → Prop} : kJ 199 1305 [l0, l1, l2, some (.int x)] st m Q = kJ 199 1306 [l0, l1, l2, some (.int x)] (.int x :: st) m Q := kJ_next d199_1305 rfl
theorem d199_1306 : decode (mB 199) 1306 = .ok (.iconst 1, 1) := by decide +kernel
theorem s199_1306 {l0 l1 l2 l3 : Option Value} {st : List Value} {m : kMem} {Q : Option Value → kMem → Prop} : kJ 199 1306 [l0, l1, l2, l3] st m Q = kJ 199 1307 [l0, l1, l2, l3] (.int (nI 1) :: st) m Q := kJ_next d199_1306 rfl
theorem d199_1307 : decode (mB 199) 1307 = .ok (.iadd, 1) := by decide +kernel
theorem s199_1307 {l0 l1 l2 l3 : Option Value} {st : List Value} {a b : Int32} {m : kMem} {Q : Option Value → kMem → Prop} : kJ 199 1307 [l0, l1, l2, l3] (.int b :: .int a :: st) m Q = kJ 199 1308 [l0, l1, l2, l3] (.int (a + b) :: st) m Q := kJ_next d199_1307 rfl
theorem d199_1308 : decode (mB 199) 1308 = .ok (.iaload, 1) := by decide +kernel
theorem s199_1308 {l0 l1 l2 l3 : Option Value} {st : List Value} {q : Nat} {i : Int32} {mi : Nat → Nat → Int32} {ml : Nat → Nat → Int64} {mr : Nat → Nat → Option Nat} {nx : Nat} {Q : Option Value → kMem → Prop} (h : kIs nx q 10 = true) : kJ 199 1308 [l0, l1, l2, l3] (.int i :: .ref q :: st) (mi, ml, mr, nx) Q = (vp_in i (kAl q) ∧ kJ 199 1309 [l0, l1, l2, l3] (.int (mi q i.toNatClampNeg) :: st) (mi, ml, mr, nx) Q) := kg_aldJ d199_1308 rfl (kAr_of h)
theorem d199_1309 : decode (mB 199) 1309 = .ok (.aload_n 0, 1) := by decide +kernel
theorem s199_1309 {l1 l2 l3 : Option Value} {st : List Value} {x : Nat} {m : kMem} {Q : Option Value → kMem → Prop} : kJ 199 1309 [some (.ref x), l1, l2, l3] st m Q = kJ 199 1310 [some (.ref x), l1, l2, l3] (.ref x :: st) m Q := kJ_next d199_1309 rfl
theorem d199_1310 : decode (mB 199) 1310 = .ok (.iload_n 3, 1) := by decide +kernel
theorem s199_1310 {l0 l1 l2 : Option Value} {st : List Value} {x : Int32} {m : kMem} {Q : Option Value → kMem → Prop} : kJ 199 1310 [l0, l1, l2, some (.int x)] st m Q = kJ 199 1311 [l0, l1, l2, some (.int x)] (.int x :: st) m Q := kJ_next d199_1310 rfl
theorem d199_1311 : decode (mB 199) 1311 = .ok (.iconst 2, 1) := by decide +kernel
theorem s199_1311 {l0 l1 l2 l3 : Option Value} {st : List Value} {m : kMem} {Q : Option Value → kMem → Prop} : kJ 199 1311 [l0, l1, l2, l3] st m Q = kJ 199 1312 [l0, l1, l2, l3] (.int (nI 2) :: st) m Q := kJ_next d199_1311 rfl
theorem d199_1312 : decode (mB 199) 1312 = .ok (.iadd, 1) := by decide +kernel
theorem s199_1312 {l0 l1 l2 l3 : Option Value} {st : List Value} {a b : Int32} {m : kMem} {Q : Option Value → kMem → Prop} : kJ 199 1312 [l0, l1, l2, l3] (.int b :: .int a :: st) m Q = kJ 199 1313 [l0, l1, l2, l3] (.int (a + b) :: st) m Q := kJ_next d199_1312 rfl
theorem d199_1313 : decode (mB 199) 1313 = .ok (.iaload, 1) := by decide +kernel
theorem s199_1313 {l0 l1 l2 l3 : Option Value} {st : List Value} {q : Nat} {i : Int32} {mi : Nat → Nat → Int32} {ml : Nat → Nat → Int64} {mr : Nat → Nat → Option Nat} {nx : Nat} {Q : Option Value → kMem → Prop} (h : kIs nx q 10 = true) : kJ 199 1313 [l0, l1, l2, l3] (.int i :: .ref q :: st) (mi, ml, mr, nx) Q = (vp_in i (kAl q) ∧ kJ 199 1314 [l0, l1, l2, l3] (.int (mi q i.toNatClampNeg) :: st) (mi, ml, mr, nx) Q) := kg_aldJ d199_1313 rfl (kAr_of h)
theorem d199_1314 : decode (mB 199) 1314 = .ok (.aload_n 0, 1) := by decide +kernel
theorem s199_1314 {l1 l2 l3 : Option Value} {st : List Value} {x : Nat} {m : kMem} {Q : Option Value → kMem → Prop} : kJ 199 1314 [some (.ref x), l1, l2, l3] st m Q = kJ 199 1315 [some (.ref x), l1, l2, l3] (.ref x :: st) m Q := kJ_next d199_1314 rfl
theorem d199_1315 : decode (mB 199) 1315 = .ok (.iload_n 3, 1) := by decide +kernel
theorem s199_1315 {l0 l1 l2 : Option Value} {st : List Value} {x : Int32} {m : kMem} {Q : Option Value → kMem → Prop} : kJ 199 1315 [l0, l1, l2, some (.int x)] st m Q = kJ 199 1316 [l0, l1, l2, some (.int x)] (.int x :: st) m Q := kJ_next d199_1315 rfl
theorem d199_1316 : decode (mB 199) 1316 = .ok (.iconst 3, 1) := by decide +kernel
theorem s199_1316 {l0 l1 l2 l3 : Option Value} {st : List Value} {m : kMem} {Q : Option Value → kMem → Prop} : kJ 199 1316 [l0, l1, l2, l3] st m Q = kJ 199 1317 [l0, l1, l2, l3] (.int (nI 3) :: st) m Q := kJ_next d199_1316 rfl
theorem d199_1317 : decode (mB 199) 1317 = .ok (.iadd, 1) := by decide +kernel
theorem s199_1317 {l0 l1 l2 l3 : Option Value} {st : List Value} {a b : Int32} {m : kMem} {Q : Option Value → kMem → Prop} : kJ 199 1317 [l0, l1, l2, l3] (.int b :: .int a :: st) m Q = kJ 199 1318 [l0, l1, l2, l3] (.int (a + b) :: st) m Q := kJ_next d199_1317 rfl
theorem d199_1318 : decode (mB 199) 1318 = .ok (.iaload, 1) := by decide +kernel
theorem s199_1318 {l0 l1 l2 l3 : Option Value} {st : List Value} {q : Nat} {i : Int32} {mi : Nat → Nat → Int32} {ml : Nat → Nat → Int64} {mr : Nat → Nat → Option Nat} {nx : Nat} {Q : Option Value → kMem → Prop} (h : kIs nx q 10 = true) : kJ 199 1318 [l0, l1, l2, l3] (.int i :: .ref q :: st) (mi, ml, mr, nx) Q = (vp_in i (kAl q) ∧ kJ 199 1319 [l0, l1, l2, l3] (.int (mi q i.toNatClampNeg) :: st) (mi, ml, mr, nx) Q) := kg_aldJ d199_1318 rfl (kAr_of h)
theorem d199_1319 : decode (mB 199) 1319 = .ok (.invokevirtual 159, 3) := by decide +kernel
theorem s199_1319 {l0 l1 l2 l3 : Option Value} {v0 : Int32} {v1 : Int32} {v2 : Int32} {v3 : Nat} {v4 : Int32} {m : kMem} {Q : Option Value → kMem → Prop} (h : kIs m.2.2.2 v3 5 = true) : kJ 199 1319 [l0, l1, l2, l3] [.int v0, .int v1, .int v2, .ref v3, .int v4] m Q = kJ 194 0 [some (.ref v3), some (.int v2), some (.int v1), some (.int v0)] [] m (fun v m2 => kJ 199 1322 [l0, l1, l2, l3] (v.toList ++ [.int v4]) m2 Q) := kJ_call d199_1319 (kg_callv 194 3 rfl rfl rfl rfl (Nat.le_of_ble_eq_true rfl) (Nat.le_of_ble_eq_true rfl) (Nat.le_of_ble_eq_true rfl) h rfl)
theorem d199_1322 : decode (mB 199) 1322 = .ok (.if_icmp .eq 94, 3) := by decide +kernel
theorem s199_1322 {l0 l1 l2 l3 : Option Value} {st : List Value} {a b : Int32} {m : kMem} {Q : Option Value → kMem → Prop} : kJ 199 1322 [l0, l1, l2, l3] (.int b :: .int a :: st) m Q = (if a = b then kJ 199 1416 [l0, l1, l2, l3] st m Q else kJ 199 1325 [l0, l1, l2, l3] st m Q) := kJ_if d199_1322 rfl (fun h => kJ_next d199_1322 h) (fun h => kJ_next d199_1322 h)
theorem d199_1325 : decode (mB 199) 1325 = .ok (.iconst 0, 1) := by decide +kernel
theorem s199_1325 {l0 l1 l2 l3 : Option Value} {st : List Value} {m : kMem} {Q : Option Value → kMem → Prop} : kJ 199 1325 [l0, l1, l2, l3] st m Q = kJ 199 1326 [l0, l1, l2, l3] (.int (nI 0) :: st) m Q := kJ_next d199_1325 rfl
theorem d199_1326 : decode (mB 199) 1326 = .ok (.ireturn, 1) := by decide +kernel
theorem s199_1326 {l0 l1 l2 l3 : Option Value} {x : Int32} {m : kMem} {Q : Option Value → kMem → Prop} (hx : x = 0 ∨ x = 1) : kJ 199 1326 [l0, l1, l2, l3] [.int x] m Q = Q (some (.int x)) m := kJ_ret d199_1326 (kg_retz (by decide) hx)
theorem d199_1327 : decode (mB 199) 1327 = .ok (.aload_n 1, 1) := by decide +kernel
theorem s199_1327 {l0 l2 l3 : Option Value} {st : List Value} {x : Nat} {m : kMem} {Q : Option Value → kMem → Prop} : kJ 199 1327 [l0, some (.ref x), l2, l3] st m Q = kJ 199 1328 [l0, some (.ref x), l2, l3] (.ref x :: st) m Q := kJ_next d199_1327 rfl
theorem d199_1328 : decode (mB 199) 1328 = .ok (.aload_n 0, 1) := by decide +kernel
theorem s199_1328 {l1 l2 l3 : Option Value} {st : List Value} {x : Nat} {m : kMem} {Q : Option Value → kMem → Prop} : kJ 199 1328 [some (.ref x), l1, l2, l3] st m Q = kJ 199 1329 [some (.ref x), l1, l2, l3] (.ref x :: st) m Q := kJ_next d199_1328 rfl
theorem d199_1329 : decode (mB 199) 1329 = .ok (.iload_n 3, 1) := by decide +kernel
theorem s199_1329 {l0 l1 l2 : Option Value} {st : List Value} {x : Int32} {m : kMem} {Q : Option Value → kMem → Prop} : kJ 199 1329 [l0, l1, l2, some (.int x)] st m Q = kJ 199 1330 [l0, l1, l2, some (.int x)] (.int x :: st) m Q := kJ_next d199_1329 rfl
theorem d199_1330 : decode (mB 199) 1330 = .ok (.iconst 1, 1) := by decide +kernel
theorem s199_1330 {l0 l1 l2 l3 : Option Value} {st : List Value} {m : kMem} {Q : Option Value → kMem → Prop} : kJ 199 1330 [l0, l1, l2, l3] st m Q = kJ 199 1331 [l0, l1, l2, l3] (.int (nI 1) :: st) m Q := kJ_next d199_1330 rfl
theorem d199_1331 : decode (mB 199) 1331 = .ok (.iadd, 1) := by decide +kernel
theorem s199_1331 {l0 l1 l2 l3 : Option Value} {st : List Value} {a b : Int32} {m : kMem} {Q : Option Value → kMem → Prop} : kJ 199 1331 [l0, l1, l2, l3] (.int b :: .int a :: st) m Q = kJ 199 1332 [l0, l1, l2, l3] (.int (a + b) :: st) m Q := kJ_next d199_1331 rfl
theorem d199_1332 : decode (mB 199) 1332 = .ok (.iaload, 1) := by decide +kernel
theorem s199_1332 {l0 l1 l2 l3 : Option Value} {st : List Value} {q : Nat} {i : Int32} {mi : Nat → Nat → Int32} {ml : Nat → Nat → Int64} {mr : Nat → Nat → Option Nat} {nx : Nat} {Q : Option Value → kMem → Prop} (h : kIs nx q 10 = true) : kJ 199 1332 [l0, l1, l2, l3] (.int i :: .ref q :: st) (mi, ml, mr, nx) Q = (vp_in i (kAl q) ∧ kJ 199 1333 [l0, l1, l2, l3] (.int (mi q i.toNatClampNeg) :: st) (mi, ml, mr, nx) Q) := kg_aldJ d199_1332 rfl (kAr_of h)
theorem d199_1333 : decode (mB 199) 1333 = .ok (.aload_n 0, 1) := by decide +kernel
theorem s199_1333 {l1 l2 l3 : Option Value} {st : List Value} {x : Nat} {m : kMem} {Q : Option Value → kMem → Prop} : kJ 199 1333 [some (.ref x), l1, l2, l3] st m Q = kJ 199 1334 [some (.ref x), l1, l2, l3] (.ref x :: st) m Q := kJ_next d199_1333 rfl
theorem d199_1334 : decode (mB 199) 1334 = .ok (.iload_n 3, 1) := by decide +kernel
theorem s199_1334 {l0 l1 l2 : Option Value} {st : List Value} {x : Int32} {m : kMem} {Q : Option Value → kMem → Prop} : kJ 199 1334 [l0, l1, l2, some (.int x)] st m Q = kJ 199 1335 [l0, l1, l2, some (.int x)] (.int x :: st) m Q := kJ_next d199_1334 rfl
theorem d199_1335 : decode (mB 199) 1335 = .ok (.iconst 2, 1) := by decide +kernel
theorem s199_1335 {l0 l1 l2 l3 : Option Value} {st : List Value} {m : kMem} {Q : Option Value → kMem → Prop} : kJ 199 1335 [l0, l1, l2, l3] st m Q = kJ 199 1336 [l0, l1, l2, l3] (.int (nI 2) :: st) m Q := kJ_next d199_1335 rfl
theorem d199_1336 : decode (mB 199) 1336 = .ok (.iadd, 1) := by decide +kernel
theorem s199_1336 {l0 l1 l2 l3 : Option Value} {st : List Value} {a b : Int32} {m : kMem} {Q : Option Value → kMem → Prop} : kJ 199 1336 [l0, l1, l2, l3] (.int b :: .int a :: st) m Q = kJ 199 1337 [l0, l1, l2, l3] (.int (a + b) :: st) m Q := kJ_next d199_1336 rfl
theorem d199_1337 : decode (mB 199) 1337 = .ok (.iaload, 1) := by decide +kernel
theorem s199_1337 {l0 l1 l2 l3 : Option Value} {st : List Value} {q : Nat} {i : Int32} {mi : Nat → Nat → Int32} {ml : Nat → Nat → Int64} {mr : Nat → Nat → Option Nat} {nx : Nat} {Q : Option Value → kMem → Prop} (h : kIs nx q 10 = true) : kJ 199 1337 [l0, l1, l2, l3] (.int i :: .ref q :: st) (mi, ml, mr, nx) Q = (vp_in i (kAl q) ∧ kJ 199 1338 [l0, l1, l2, l3] (.int (mi q i.toNatClampNeg) :: st) (mi, ml, mr, nx) Q) := kg_aldJ d199_1337 rfl (kAr_of h)
theorem d199_1338 : decode (mB 199) 1338 = .ok (.aload_n 0, 1) := by decide +kernel
theorem s199_1338 {l1 l2 l3 : Option Value} {st : List Value} {x : Nat} {m : kMem} {Q : Option Value → kMem → Prop} : kJ 199 1338 [some (.ref x), l1, l2, l3] st m Q = kJ 199 1339 [some (.ref x), l1, l2, l3] (.ref x :: st) m Q := kJ_next d199_1338 rfl
theorem d199_1339 : decode (mB 199) 1339 = .ok (.iload_n 3, 1) := by decide +kernel
theorem s199_1339 {l0 l1 l2 : Option Value} {st : List Value} {x : Int32} {m : kMem} {Q : Option Value → kMem → Prop} : kJ 199 1339 [l0, l1, l2, some (.int x)] st m Q = kJ 199 1340 [l0, l1, l2, some (.int x)] (.int x :: st) m Q := kJ_next d199_1339 rfl
theorem d199_1340 : decode (mB 199) 1340 = .ok (.iconst 3, 1) := by decide +kernel
theorem s199_1340 {l0 l1 l2 l3 : Option Value} {st : List Value} {m : kMem} {Q : Option Value → kMem → Prop} : kJ 199 1340 [l0, l1, l2, l3] st m Q = kJ 199 1341 [l0, l1, l2, l3] (.int (nI 3) :: st) m Q := kJ_next d199_1340 rfl
theorem d199_1341 : decode (mB 199) 1341 = .ok (.iadd, 1) := by decide +kernel
theorem s199_1341 {l0 l1 l2 l3 : Option Value} {st : List Value} {a b : Int32} {m : kMem} {Q : Option Value → kMem → Prop} : kJ 199 1341 [l0, l1, l2, l3] (.int b :: .int a :: st) m Q = kJ 199 1342 [l0, l1, l2, l3] (.int (a + b) :: st) m Q := kJ_next d199_1341 rfl
theorem d199_1342 : decode (mB 199) 1342 = .ok (.iaload, 1) := by decide +kernel
theorem s199_1342 {l0 l1 l2 l3 : Option Value} {st : List Value} {q : Nat} {i : Int32} {mi : Nat → Nat → Int32} {ml : Nat → Nat → Int64} {mr : Nat → Nat → Option Nat} {nx : Nat} {Q : Option Value → kMem → Prop} (h : kIs nx q 10 = true) : kJ 199 1342 [l0, l1, l2, l3] (.int i :: .ref q :: st) (mi, ml, mr, nx) Q = (vp_in i (kAl q) ∧ kJ 199 1343 [l0, l1, l2, l3] (.int (mi q i.toNatClampNeg) :: st) (mi, ml, mr, nx) Q) := kg_aldJ d199_1342 rfl (kAr_of h)
theorem d199_1343 : decode (mB 199) 1343 = .ok (.aload_n 0, 1) := by decide +kernel
theorem s199_1343 {l1 l2 l3 : Option Value} {st : List Value} {x : Nat} {m : kMem} {Q : Option Value → kMem → Prop} : kJ 199 1343 [some (.ref x), l1, l2, l3] st m Q = kJ 199 1344 [some (.ref x), l1, l2, l3] (.ref x :: st) m Q := kJ_next d199_1343 rfl
theorem d199_1344 : decode (mB 199) 1344 = .ok (.iload_n 3, 1) := by decide +kernel
theorem s199_1344 {l0 l1 l2 : Option Value} {st : List Value} {x : Int32} {m : kMem} {Q : Option Value → kMem → Prop} : kJ 199 1344 [l0, l1, l2, some (.int x)] st m Q = kJ 199 1345 [l0, l1, l2, some (.int x)] (.int x :: st) m Q := kJ_next d199_1344 rfl
theorem d199_1345 : decode (mB 199) 1345 = .ok (.iconst 4, 1) := by decide +kernel
theorem s199_1345 {l0 l1 l2 l3 : Option Value} {st : List Value} {m : kMem} {Q : Option Value → kMem → Prop} : kJ 199 1345 [l0, l1, l2, l3] st m Q = kJ 199 1346 [l0, l1, l2, l3] (.int (nI 4) :: st) m Q := kJ_next d199_1345 rfl
theorem d199_1346 : decode (mB 199) 1346 = .ok (.iadd, 1) := by decide +kernel
theorem s199_1346 {l0 l1 l2 l3 : Option Value} {st : List Value} {a b : Int32} {m : kMem} {Q : Option Value → kMem → Prop} : kJ 199 1346 [l0, l1, l2, l3] (.int b :: .int a :: st) m Q = kJ 199 1347 [l0, l1, l2, l3] (.int (a + b) :: st) m Q := kJ_next d199_1346 rfl
theorem d199_1347 : decode (mB 199) 1347 = .ok (.iaload, 1) := by decide +kernel
theorem s199_1347 {l0 l1 l2 l3 : Option Value} {st : List Value} {q : Nat} {i : Int32} {mi : Nat → Nat → Int32} {ml : Nat → Nat → Int64} {mr : Nat → Nat → Option Nat} {nx : Nat} {Q : Option Value → kMem → Prop} (h : kIs nx q 10 = true) : kJ 199 1347 [l0, l1, l2, l3] (.int i :: .ref q :: st) (mi, ml, mr, nx) Q = (vp_in i (kAl q) ∧ kJ 199 1348 [l0, l1, l2, l3] (.int (mi q i.toNatClampNeg) :: st) (mi, ml, mr, nx) Q) := kg_aldJ d199_1347 rfl (kAr_of h)
theorem d199_1348 : decode (mB 199) 1348 = .ok (.invokevirtual 160, 3) := by decide +kernel
theorem s199_1348 {l0 l1 l2 l3 : Option Value} {v0 : Int32} {v1 : Int32} {v2 : Int32} {v3 : Int32} {v4 : Nat} {m : kMem} {Q : Option Value → kMem → Prop} (h : kIs m.2.2.2 v4 4 = true) : kJ 199 1348 [l0, l1, l2, l3] [.int v0, .int v1, .int v2, .int v3, .ref v4] m Q = kJ 87 0 [some (.ref v4), some (.int v3), some (.int v2), some (.int v1), some (.int v0), none, none, none, none, none, none, none] [] m (fun v m2 => kJ 199 1351 [l0, l1, l2, l3] (v.toList ++ []) m2 Q) := kJ_call d199_1348 (kg_callv 87 4 rfl rfl rfl rfl (Nat.le_of_ble_eq_true rfl) (Nat.le_of_ble_eq_true rfl) (Nat.le_of_ble_eq_true rfl) h rfl)
theorem d199_1351 : decode (mB 199) 1351 = .ok (.aload_n 2, 1) := by decide +kernel
theorem s199_1351 {l0 l1 l3 : Option Value} {st : List Value} {x : Nat} {m : kMem} {Q : Option Value → kMem → Prop} : kJ 199 1351 [l0, l1, some (.ref x), l3] st m Q = kJ 199 1352 [l0, l1, some (.ref x), l3] (.ref x :: st) m Q := kJ_next d199_1351 rfl
theorem d199_1352 : decode (mB 199) 1352 = .ok (.aload_n 0, 1) := by decide +kernel
theorem s199_1352 {l1 l2 l3 : Option Value} {st : List Value} {x : Nat} {m : kMem} {Q : Option Value → kMem → Prop} : kJ 199 1352 [some (.ref x), l1, l2, l3] st m Q = kJ 199 1353 [some (.ref x), l1, l2, l3] (.ref x :: st) m Q := kJ_next d199_1352 rfl
theorem d199_1353 : decode (mB 199) 1353 = .ok (.iload_n 3, 1) := by decide +kernel
theorem s199_1353 {l0 l1 l2 : Option Value} {st : List Value} {x : Int32} {m : kMem} {Q : Option Value → kMem → Prop} : kJ 199 1353 [l0, l1, l2, some (.int x)] st m Q = kJ 199 1354 [l0, l1, l2, some (.int x)] (.int x :: st) m Q := kJ_next d199_1353 rfl
theorem d199_1354 : decode (mB 199) 1354 = .ok (.iconst 1, 1) := by decide +kernel
theorem s199_1354 {l0 l1 l2 l3 : Option Value} {st : List Value} {m : kMem} {Q : Option Value → kMem → Prop} : kJ 199 1354 [l0, l1, l2, l3] st m Q = kJ 199 1355 [l0, l1, l2, l3] (.int (nI 1) :: st) m Q := kJ_next d199_1354 rfl
theorem d199_1355 : decode (mB 199) 1355 = .ok (.iadd, 1) := by decide +kernel
theorem s199_1355 {l0 l1 l2 l3 : Option Value} {st : List Value} {a b : Int32} {m : kMem} {Q : Option Value → kMem → Prop} : kJ 199 1355 [l0, l1, l2, l3] (.int b :: .int a :: st) m Q = kJ 199 1356 [l0, l1, l2, l3] (.int (a + b) :: st) m Q := kJ_next d199_1355 rfl
theorem d199_1356 : decode (mB 199) 1356 = .ok (.iaload, 1) := by decide +kernel
theorem s199_1356 {l0 l1 l2 l3 : Option Value} {st : List Value} {q : Nat} {i : Int32} {mi : Nat → Nat → Int32} {ml : Nat → Nat → Int64} {mr : Nat → Nat → Option Nat} {nx : Nat} {Q : Option Value → kMem → Prop} (h : kIs nx q 10 = true) : kJ 199 1356 [l0, l1, l2, l3] (.int i :: .ref q :: st) (mi, ml, mr, nx) Q = (vp_in i (kAl q) ∧ kJ 199 1357 [l0, l1, l2, l3] (.int (mi q i.toNatClampNeg) :: st) (mi, ml, mr, nx) Q) := kg_aldJ d199_1356 rfl (kAr_of h)
theorem d199_1357 : decode (mB 199) 1357 = .ok (.aload_n 0, 1) := by decide +kernel
theorem s199_1357 {l1 l2 l3 : Option Value} {st : List Value} {x : Nat} {m : kMem} {Q : Option Value → kMem → Prop} : kJ 199 1357 [some (.ref x), l1, l2, l3] st m Q = kJ 199 1358 [some (.ref x), l1, l2, l3] (.ref x :: st) m Q := kJ_next d199_1357 rfl
theorem d199_1358 : decode (mB 199) 1358 = .ok (.iload_n 3, 1) := by decide +kernel
theorem s199_1358 {l0 l1 l2 : Option Value} {st : List Value} {x : Int32} {m : kMem} {Q : Option Value → kMem → Prop} : kJ 199 1358 [l0, l1, l2, some (.int x)] st m Q = kJ 199 1359 [l0, l1, l2, some (.int x)] (.int x :: st) m Q := kJ_next d199_1358 rfl
theorem d199_1359 : decode (mB 199) 1359 = .ok (.iconst 2, 1) := by decide +kernel
theorem s199_1359 {l0 l1 l2 l3 : Option Value} {st : List Value} {m : kMem} {Q : Option Value → kMem → Prop} : kJ 199 1359 [l0, l1, l2, l3] st m Q = kJ 199 1360 [l0, l1, l2, l3] (.int (nI 2) :: st) m Q := kJ_next d199_1359 rfl
theorem d199_1360 : decode (mB 199) 1360 = .ok (.iadd, 1) := by decide +kernel
theorem s199_1360 {l0 l1 l2 l3 : Option Value} {st : List Value} {a b : Int32} {m : kMem} {Q : Option Value → kMem → Prop} : kJ 199 1360 [l0, l1, l2, l3] (.int b :: .int a :: st) m Q = kJ 199 1361 [l0, l1, l2, l3] (.int (a + b) :: st) m Q := kJ_next d199_1360 rfl
theorem d199_1361 : decode (mB 199) 1361 = .ok (.iaload, 1) := by decide +kernel
theorem s199_1361 {l0 l1 l2 l3 : Option Value} {st : List Value} {q : Nat} {i : Int32} {mi : Nat → Nat → Int32} {ml : Nat → Nat → Int64} {mr : Nat → Nat → Option Nat} {nx : Nat} {Q : Option Value → kMem → Prop} (h : kIs nx q 10 = true) : kJ 199 1361 [l0, l1, l2, l3] (.int i :: .ref q :: st) (mi, ml, mr, nx) Q = (vp_in i (kAl q) ∧ kJ 199 1362 [l0, l1, l2, l3] (.int (mi q i.toNatClampNeg) :: st) (mi, ml, mr, nx) Q) := kg_aldJ d199_1361 rfl (kAr_of h)
theorem d199_1362 : decode (mB 199) 1362 = .ok (.aload_n 0, 1) := by decide +kernel
theorem s199_1362 {l1 l2 l3 : Option Value} {st : List Value} {x : Nat} {m : kMem} {Q : Option Value → kMem → Prop} : kJ 199 1362 [some (.ref x), l1, l2, l3] st m Q = kJ 199 1363 [some (.ref x), l1, l2, l3] (.ref x :: st) m Q := kJ_next d199_1362 rfl
theorem d199_1363 : decode (mB 199) 1363 = .ok (.iload_n 3, 1) := by decide +kernel
theorem s199_1363 {l0 l1 l2 : Option Value} {st : List Value} {x : Int32} {m : kMem} {Q : Option Value → kMem → Prop} : kJ 199 1363 [l0, l1, l2, some (.int x)] st m Q = kJ 199 1364 [l0, l1, l2, some (.int x)] (.int x :: st) m Q := kJ_next d199_1363 rfl
theorem d199_1364 : decode (mB 199) 1364 = .ok (.iconst 3, 1) := by decide +kernel
theorem s199_1364 {l0 l1 l2 l3 : Option Value} {st : List Value} {m : kMem} {Q : Option Value → kMem → Prop} : kJ 199 1364 [l0, l1, l2, l3] st m Q = kJ 199 1365 [l0, l1, l2, l3] (.int (nI 3) :: st) m Q := kJ_next d199_1364 rfl
theorem d199_1365 : decode (mB 199) 1365 = .ok (.iadd, 1) := by decide +kernel
theorem s199_1365 {l0 l1 l2 l3 : Option Value} {st : List Value} {a b : Int32} {m : kMem} {Q : Option Value → kMem → Prop} : kJ 199 1365 [l0, l1, l2, l3] (.int b :: .int a :: st) m Q = kJ 199 1366 [l0, l1, l2, l3] (.int (a + b) :: st) m Q := kJ_next d199_1365 rfl
theorem d199_1366 : decode (mB 199) 1366 = .ok (.iaload, 1) := by decide +kernel
theorem s199_1366 {l0 l1 l2 l3 : Option Value} {st : List Value} {q : Nat} {i : Int32} {mi : Nat → Nat → Int32} {ml : Nat → Nat → Int64} {mr : Nat → Nat → Option Nat} {nx : Nat} {Q : Option Value → kMem → Prop} (h : kIs nx q 10 = true) : kJ 199 1366 [l0, l1, l2, l3] (.int i :: .ref q :: st) (mi, ml, mr, nx) Q = (vp_in i (kAl q) ∧ kJ 199 1367 [l0, l1, l2, l3] (.int (mi q i.toNatClampNeg) :: st) (mi, ml, mr, nx) Q) := kg_aldJ d199_1366 rfl (kAr_of h)
theorem d199_1367 : decode (mB 199) 1367 = .ok (.aload_n 0, 1) := by decide +kernel
theorem s199_1367 {l1 l2 l3 : Option Value} {st : List Value} {x : Nat} {m : kMem} {Q : Option Value → kMem → Prop} : kJ 199 1367 [some (.ref x), l1, l2, l3] st m Q = kJ 199 1368 [some (.ref x), l1, l2, l3] (.ref x :: st) m Q := kJ_next d199_1367 rfl
theorem d199_1368 : decode (mB 199) 1368 = .ok (.iload_n 3, 1) := by decide +kernel
theorem s199_1368 {l0 l1 l2 : Option Value} {st : List Value} {x : Int32} {m : kMem} {Q : Option Value → kMem → Prop} : kJ 199 1368 [l0, l1, l2, some (.int x)] st m Q = kJ 199 1369 [l0, l1, l2, some (.int x)] (.int x :: st) m Q := kJ_next d199_1368 rfl
theorem d199_1369 : decode (mB 199) 1369 = .ok (.iconst 4, 1) := by decide +kernel
theorem s199_1369 {l0 l1 l2 l3 : Option Value} {st : List Value} {m : kMem} {Q : Option Value → kMem → Prop} : kJ 199 1369 [l0, l1, l2, l3] st m Q = kJ 199 1370 [l0, l1, l2, l3] (.int (nI 4) :: st) m Q := kJ_next d199_1369 rfl
theorem d199_1370 : decode (mB 199) 1370 = .ok (.iadd, 1) := by decide +kernel
theorem s199_1370 {l0 l1 l2 l3 : Option Value} {st : List Value} {a b : Int32} {m : kMem} {Q : Option Value → kMem → Prop} : kJ 199 1370 [l0, l1, l2, l3] (.int b :: .int a :: st) m Q = kJ 199 1371 [l0, l1, l2, l3] (.int (a + b) :: st) m Q := kJ_next d199_1370 rfl
theorem d199_1371 : decode (mB 199) 1371 = .ok (.iaload, 1) := by decide +kernel
theorem s199_1371 {l0 l1 l2 l3 : Option Value} {st : List Value} {q : Nat} {i : Int32} {mi : Nat → Nat → Int32} {ml : Nat → Nat → Int64} {mr : Nat → Nat → Option Nat} {nx : Nat} {Q : Option Value → kMem → Prop} (h : kIs nx q 10 = true) : kJ 199 1371 [l0, l1, l2, l3] (.int i :: .ref q :: st) (mi, ml, mr, nx) Q = (vp_in i (kAl q) ∧ kJ 199 1372 [l0, l1, l2, l3] (.int (mi q i.toNatClampNeg) :: st) (mi, ml, mr, nx) Q) := kg_aldJ d199_1371 rfl (kAr_of h)
theorem d199_1372 : decode (mB 199) 1372 = .ok (.invokevirtual 163, 3) := by decide +kernel
theorem s199_1372 {l0 l1 l2 l3 : Option Value} {v0 : Int32} {v1 : Int32} {v2 : Int32} {v3 : Int32} {v4 : Nat} {v5 : Int32} {m : kMem} {Q : Option Value → kMem → Prop} (h : kIs m.2.2.2 v4 5 = true) : kJ 199 1372 [l0, l1, l2, l3] [.int v0, .int v1, .int v2, .int v3, .ref v4, .int v5] m Q = kJ 195 0 [some (.ref v4), some (.int v3), some (.int v2), some (.int v1), some (.int v0), none, none, none, none, none, none] [] m (fun v m2 => kJ 199 1375 [l0, l1, l2, l3] (v.toList ++ [.int v5]) m2 Q) := kJ_call d199_1372 (kg_callv 195 4 rfl rfl rfl rfl (Nat.le_of_ble_eq_true rfl) (Nat.le_of_ble_eq_true rfl) (Nat.le_of_ble_eq_true rfl) h rfl)
theorem d199_1375 : decode (mB 199) 1375 = .ok (.if_icmp .eq 41, 3) := by decide +kernel
theorem s199_1375 {l0 l1 l2 l3 : Option Value} {st : List Value} {a b : Int32} {m : kMem} {Q : Option Value → kMem → Prop} : kJ 199 1375 [l0, l1, l2, l3] (.int b :: .int a :: st) m Q = (if a = b then kJ 199 1416 [l0, l1, l2, l3] st m Q else kJ 199 1378 [l0, l1, l2, l3] st m Q) := kJ_if d199_1375 rfl (fun h => kJ_next d199_1375 h) (fun h => kJ_next d199_1375 h)
theorem d199_1378 : decode (mB 199) 1378 = .ok (.iconst 0, 1) := by decide +kernel
theorem s199_1378 {l0 l1 l2 l3 : Option Value} {st : List Value} {m : kMem} {Q : Option Value → kMem → Prop} : kJ 199 1378 [l0, l1, l2, l3] st m Q = kJ 199 1379 [l0, l1, l2, l3] (.int (nI 0) :: st) m Q := kJ_next d199_1378 rfl
theorem d199_1379 : decode (mB 199) 1379 = .ok (.ireturn, 1) := by decide +kernel
theorem s199_1379 {l0 l1 l2 l3 : Option Value} {x : Int32} {m : kMem} {Q : Option Value → kMem → Prop} (hx : x = 0 ∨ x = 1) : kJ 199 1379 [l0, l1, l2, l3] [.int x] m Q = Q (some (.int x)) m := kJ_ret d199_1379 (kg_retz (by decide) hx)
theorem d199_1380 : decode (mB 199) 1380 = .ok (.aload_n 1, 1) := by decide +kernel
theorem s199_1380 {l0 l2 l3 : Option Value} {st : List Value} {x : Nat} {m : kMem} {Q : Option Value → kMem → Prop} : kJ 199 1380 [l0, some (.ref x), l2, l3] st m Q = kJ 199 1381 [l0, some (.ref x), l2, l3] (.ref x :: st) m Q := kJ_next d199_1380 rfl
theorem d199_1381 : decode (mB 199) 1381 = .ok (.invokevirtual 164, 3) := by decide +kernel
theorem s199_1381 {l0 l1 l2 l3 : Option Value} {v0 : Nat} {m : kMem} {Q : Option Value → kMem → Prop} (h : kIs m.2.2.2 v0 4 = true) : kJ 199 1381 [l0, l1, l2, l3] [.ref v0] m Q = kJ 88 0 [some (.ref v0)] [] m (fun v m2 => kJ 199 1384 [l0, l1, l2, l3] (v.toList ++ []) m2 Q) := kJ_call d199_1381 (kg_callv 88 0 rfl rfl rfl rfl (Nat.le_of_ble_eq_true rfl) (Nat.le_of_ble_eq_true rfl) (Nat.le_of_ble_eq_true rfl) h rfl)
theorem d199_1384 : decode (mB 199) 1384 = .ok (.aload_n 2, 1) := by decide +kernel
theorem s199_1384 {l0 l1 l3 : Option Value} {st : List Value} {x : Nat} {m : kMem} {Q : Option Value → kMem → Prop} : kJ 199 1384 [l0, l1, some (.ref x), l3] st m Q = kJ 199 1385 [l0, l1, some (.ref x), l3] (.ref x :: st) m Q := kJ_next d199_1384 rfl
theorem d199_1385 : decode (mB 199) 1385 = .ok (.invokevirtual 167, 3) := by decide +kernel
theorem s199_1385 {l0 l1 l2 l3 : Option Value} {v0 : Nat} {v1 : Int32} {m : kMem} {Q : Option Value → kMem → Prop} (h : kIs m.2.2.2 v0 5 = true) : kJ 199 1385 [l0, l1, l2, l3] [.ref v0, .int v1] m Q = kJ 196 0 [some (.ref v0)] [] m (fun v m2 => kJ 199 1388 [l0, l1, l2, l3] (v.toList ++ [.int v1]) m2 Q) := kJ_call d199_1385 (kg_callv 196 0 rfl rfl rfl rfl (Nat.le_of_ble_eq_true rfl) (Nat.le_of_ble_eq_true rfl) (Nat.le_of_ble_eq_true rfl) h rfl)
theorem d199_1388 : decode (mB 199) 1388 = .ok (.if_icmp .eq 28, 3) := by decide +kernel
theorem s199_1388 {l0 l1 l2 l3 : Option Value} {st : List Value} {a b : Int32} {m : kMem} {Q : Option Value → kMem → Prop} : kJ 199 1388 [l0, l1, l2, l3] (.int b :: .int a :: st) m Q = (if a = b then kJ 199 1416 [l0, l1, l2, l3] st m Q else kJ 199 1391 [l0, l1, l2, l3] st m Q) := kJ_if d199_1388 rfl (fun h => kJ_next d199_1388 h) (fun h => kJ_next d199_1388 h)
theorem d199_1391 : decode (mB 199) 1391 = .ok (.iconst 0, 1) := by decide +kernel
theorem s199_1391 {l0 l1 l2 l3 : Option Value} {st : List Value} {m : kMem} {Q : Option Value → kMem → Prop} : kJ 199 1391 [l0, l1, l2, l3] st m Q = kJ 199 1392 [l0, l1, l2, l3] (.int (nI 0) :: st) m Q := kJ_next d199_1391 rfl
theorem d199_1392 : decode (mB 199) 1392 = .ok (.ireturn, 1) := by decide +kernel
theorem s199_1392 {l0 l1 l2 l3 : Option Value} {x : Int32} {m : kMem} {Q : Option Value → kMem → Prop} (hx : x = 0 ∨ x = 1) : kJ 199 1392 [l0, l1, l2, l3] [.int x] m Q = Q (some (.int x)) m := kJ_ret d199_1392 (kg_retz (by decide) hx)
theorem d199_1393 : decode (mB 199) 1393 = .ok (.aload_n 1, 1) := by decide +kernel
theorem s199_1393 {l0 l2 l3 : Option Value} {st : List Value} {x : Nat} {m : kMem} {Q : Option Value → kMem → Prop} : kJ 199 1393 [l0, some (.ref x), l2, l3] st m Q = kJ 199 1394 [l0, some (.ref x), l2, l3] (.ref x :: st) m Q := kJ_next d199_1393 rfl
theorem d199_1394 : decode (mB 199) 1394 = .ok (.aload_n 0, 1) := by decide +kernel
theorem s199_1394 {l1 l2 l3 : Option Value} {st : List Value} {x : Nat} {m : kMem} {Q : Option Value → kMem → Prop} : kJ 199 1394 [some (.ref x), l1, l2, l3] st m Q = kJ 199 1395 [some (.ref x), l1, l2, l3] (.ref x :: st) m Q := kJ_next d199_1394 rfl
theorem d199_1395 : decode (mB 199) 1395 = .ok (.iload_n 3, 1) := by decide +kernel
theorem s199_1395 {l0 l1 l2 : Option Value} {st : List Value} {x : Int32} {m : kMem} {Q : Option Value → kMem → Prop} : kJ 199 1395 [l0, l1, l2, some (.int x)] st m Q = kJ 199 1396 [l0, l1, l2, some (.int x)] (.int x :: st) m Q := kJ_next d199_1395 rfl
theorem d199_1396 : decode (mB 199) 1396 = .ok (.iconst 1, 1) := by decide +kernel
theorem s199_1396 {l0 l1 l2 l3 : Option Value} {st : List Value} {m : kMem} {Q : Option Value → kMem → Prop} : kJ 199 1396 [l0, l1, l2, l3] st m Q = kJ 199 1397 [l0, l1, l2, l3] (.int (nI 1) :: st) m Q := kJ_next d199_1396 rfl
theorem d199_1397 : decode (mB 199) 1397 = .ok (.iadd, 1) := by decide +kernel
theorem s199_1397 {l0 l1 l2 l3 : Option Value} {st : List Value} {a b : Int32} {m : kMem} {Q : Option Value → kMem → Prop} : kJ 199 1397 [l0, l1, l2, l3] (.int b :: .int a :: st) m Q = kJ 199 1398 [l0, l1, l2, l3] (.int (a + b) :: st) m Q := kJ_next d199_1397 rfl
theorem d199_1398 : decode (mB 199) 1398 = .ok (.iaload, 1) := by decide +kernel
theorem s199_1398 {l0 l1 l2 l3 : Option Value} {st : List Value} {q : Nat} {i : Int32} {mi : Nat → Nat → Int32} {ml : Nat → Nat → Int64} {mr : Nat → Nat → Option Nat} {nx : Nat} {Q : Option Value → kMem → Prop} (h : kIs nx q 10 = true) : kJ 199 1398 [l0, l1, l2, l3] (.int i :: .ref q :: st) (mi, ml, mr, nx) Q = (vp_in i (kAl q) ∧ kJ 199 1399 [l0, l1, l2, l3] (.int (mi q i.toNatClampNeg) :: st) (mi, ml, mr, nx) Q) := kg_aldJ d199_1398 rfl (kAr_of h)
theorem d199_1399 : decode (mB 199) 1399 = .ok (.invokevirtual 168, 3) := by decide +kernel
theorem s199_1399 {l0 l1 l2 l3 : Option Value} {v0 : Int32} {v1 : Nat} {m : kMem} {Q : Option Value → kMem → Prop} (h : kIs m.2.2.2 v1 4 = true) : kJ 199 1399 [l0, l1, l2, l3] [.int v0, .ref v1] m Q = kJ 89 0 [some (.ref v1), some (.int v0)] [] m (fun v m2 => kJ 199 1402 [l0, l1, l2, l3] (v.toList ++ []) m2 Q) := kJ_call d199_1399 (kg_callv 89 1 rfl rfl rfl rfl (Nat.le_of_ble_eq_true rfl) (Nat.le_of_ble_eq_true rfl) (Nat.le_of_ble_eq_true rfl) h rfl)
theorem d199_1402 : decode (mB 199) 1402 = .ok (.aload_n 2, 1) := by decide +kernel
theorem s199_1402 {l0 l1 l3 : Option Value} {st : List Value} {x : Nat} {m : kMem} {Q : Option Value → kMem → Prop} : kJ 199 1402 [l0, l1, some (.ref x), l3] st m Q = kJ 199 1403 [l0, l1, some (.ref x), l3] (.ref x :: st) m Q := kJ_next d199_1402 rfl
theorem d199_1403 : decode (mB 199) 1403 = .ok (.aload_n 0, 1) := by decide +kernel
theorem s199_1403 {l1 l2 l3 : Option Value} {st : List Value} {x : Nat} {m : kMem} {Q : Option Value → kMem → Prop} : kJ 199 1403 [some (.ref x), l1, l2, l3] st m Q = kJ 199 1404 [some (.ref x), l1, l2, l3] (.ref x :: st) m Q := kJ_next d199_1403 rfl
theorem d199_1404 : decode (mB 199) 1404 = .ok (.iload_n 3, 1) := by decide +kernel
theorem s199_1404 {l0 l1 l2 : Option Value} {st : List Value} {x : Int32} {m : kMem} {Q : Option Value → kMem → Prop} : kJ 199 1404 [l0, l1, l2, some (.int x)] st m Q = kJ 199 1405 [l0, l1, l2, some (.int x)] (.int x :: st) m Q := kJ_next d199_1404 rfl
theorem d199_1405 : decode (mB 199) 1405 = .ok (.iconst 1, 1) := by decide +kernel
theorem s199_1405 {l0 l1 l2 l3 : Option Value} {st : List Value} {m : kMem} {Q : Option Value → kMem → Prop} : kJ 199 1405 [l0, l1, l2, l3] st m Q = kJ 199 1406 [l0, l1, l2, l3] (.int (nI 1) :: st) m Q := kJ_next d199_1405 rfl
theorem d199_1406 : decode (mB 199) 1406 = .ok (.iadd, 1) := by decide +kernel
theorem s199_1406 {l0 l1 l2 l3 : Option Value} {st : List Value} {a b : Int32} {m : kMem} {Q : Option Value → kMem → Prop} : kJ 199 1406 [l0, l1, l2, l3] (.int b :: .int a :: st) m Q = kJ 199 1407 [l0, l1, l2, l3] (.int (a + b) :: st) m Q := kJ_next d199_1406 rfl
theorem d199_1407 : decode (mB 199) 1407 = .ok (.iaload, 1) := by decide +kernel
theorem s199_1407 {l0 l1 l2 l3 : Option Value} {st : List Value} {q : Nat} {i : Int32} {mi : Nat → Nat → Int32} {ml : Nat → Nat → Int64} {mr : Nat → Nat → Option Nat} {nx : Nat} {Q : Option Value → kMem → Prop} (h : kIs nx q 10 = true) : kJ 199 1407 [l0, l1, l2, l3] (.int i :: .ref q :: st) (mi, ml, mr, nx) Q = (vp_in i (kAl q) ∧ kJ 199 1408 [l0, l1, l2, l3] (.int (mi q i.toNatClampNeg) :: st) (mi, ml, mr, nx) Q) := kg_aldJ d199_1407 rfl (kAr_of h)
theorem d199_1408 : decode (mB 199) 1408 = .ok (.invokevirtual 171, 3) := by decide +kernel
theorem s199_1408 {l0 l1 l2 l3 : Option Value} {v0 : Int32} {v1 : Nat} {v2 : Int32} {m : kMem} {Q : Option Value → kMem → Prop} (h : kIs m.2.2.2 v1 5 = true) : kJ 199 1408 [l0, l1, l2, l3] [.int v0, .ref v1, .int v2] m Q = kJ 197 0 [some (.ref v1), some (.int v0), none, none, none] [] m (fun v m2 => kJ 199 1411 [l0, l1, l2, l3] (v.toList ++ [.int v2]) m2 Q) := kJ_call d199_1408 (kg_callv 197 1 rfl rfl rfl rfl (Nat.le_of_ble_eq_true rfl) (Nat.le_of_ble_eq_true rfl) (Nat.le_of_ble_eq_true rfl) h rfl)
theorem d199_1411 : decode (mB 199) 1411 = .ok (.if_icmp .eq 5, 3) := by decide +kernel
theorem s199_1411 {l0 l1 l2 l3 : Option Value} {st : List Value} {a b : Int32} {m : kMem} {Q : Option Value → kMem → Prop} : kJ 199 1411 [l0, l1, l2, l3] (.int b :: .int a :: st) m Q = (if a = b then kJ 199 1416 [l0, l1, l2, l3] st m Q else kJ 199 1414 [l0, l1, l2, l3] st m Q) := kJ_if d199_1411 rfl (fun h => kJ_next d199_1411 h) (fun h => kJ_next d199_1411 h)
theorem d199_1414 : decode (mB 199) 1414 = .ok (.iconst 0, 1) := by decide +kernel
theorem s199_1414 {l0 l1 l2 l3 : Option Value} {st : List Value} {m : kMem} {Q : Option Value → kMem → Prop} : kJ 199 1414 [l0, l1, l2, l3] st m Q = kJ 199 1415 [l0, l1, l2, l3] (.int (nI 0) :: st) m Q := kJ_next d199_1414 rfl
theorem d199_1415 : decode (mB 199) 1415 = .ok (.ireturn, 1) := by decide +kernel
theorem s199_1415 {l0 l1 l2 l3 : Option Value} {x : Int32} {m : kMem} {Q : Option Value → kMem → Prop} (hx : x = 0 ∨ x = 1) : kJ 199 1415 [l0, l1, l2, l3] [.int x] m Q = Q (some (.int x)) m := kJ_ret d199_1415 (kg_retz (by decide) hx)
theorem d199_1416 : decode (mB 199) 1416 = .ok (.iinc 3 5, 3) := by decide +kernel
theorem s199_1416 {l0 l1 l2 : Option Value} {st : List Value} {x : Int32} {m : kMem} {Q : Option Value → kMem → Prop} (hp : kNL l2 = true) : kJ 199 1416 [l0, l1, l2, some (.int x)] st m Q = kJ 199 1419 [l0, l1, l2, some (.int (x + (nI 5)))] st m Q := kJ_next d199_1416 (kg_inc rfl (Nat.le_of_ble_eq_true rfl) hp)
theorem d199_1419 : decode (mB 199) 1419 = .ok (.goto (-1401), 3) := by decide +kernel
theorem s199_1419 {l0 l1 l2 l3 : Option Value} {st : List Value} {m : kMem} {Q : Option Value → kMem → Prop} : kJ 199 1419 [l0, l1, l2, l3] st m Q = kJ 199 18 [l0, l1, l2, l3] st m Q := kJ_next d199_1419 rfl
theorem d199_1422 : decode (mB 199) 1422 = .ok (.iconst 1, 1) := by decide +kernel
theorem s199_1422 {l0 l1 l2 l3 : Option Value} {st : List Value} {m : kMem} {Q : Option Value → kMem → Prop} : kJ 199 1422 [l0, l1, l2, l3] st m Q = kJ 199 1423 [l0, l1, l2, l3] (.int (nI 1) :: st) m Q := kJ_next d199_1422 rfl
theorem d199_1423 : decode (mB 199) 1423 = .ok (.ireturn, 1) := by decide +kernel
theorem s199_1423 {l0 l1 l2 l3 : Option Value} {x : Int32} {m : kMem} {Q : Option Value → kMem → Prop} (hx : x = 0 ∨ x = 1) : kJ 199 1423 [l0, l1, l2, l3] [.int x] m Q = Q (some (.int x)) m := kJ_ret d199_1423 (kg_retz (by decide) hx)
