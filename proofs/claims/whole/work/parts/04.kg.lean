/-! single instructions of kst, for the equations -/
section KG
variable {pc k i n : Nat} {ls : kLcs} {st r : List Value} {m : kMem}
theorem kg_sti {x : Int32} (hi : i < ls.length) (hp : kPre ls i = true) : kSt1 pc i ls (.int x :: r) m 0 = kGo pc (ls.set i (some (.int x))) r m := if_pos ⟨rfl, hi, hp⟩
theorem kg_sta {x : Nat} (hi : i < ls.length) (hp : kPre ls i = true) : kSt1 pc i ls (.ref x :: r) m 2 = kGo pc (ls.set i (some (.ref x))) r m := if_pos ⟨rfl, hi, hp⟩
theorem kg_stl {x : Int64} (hi : i + 1 < ls.length) (hp : kPre ls i = true) : kSt1 pc i ls (.long x :: r) m 1 = kGo pc ((ls.set i (some (.long x))).set (i + 1) none) r m := if_pos ⟨rfl, hi, hp⟩
theorem kg_inc {y : Nat} {c : Int} {x : Int32} (hx : ls.getD k none = some (.int x)) (hi : k < ls.length) (hp : kPre ls k = true) : kst y pc (.iinc k c) 3 ls st m = kGo (pc + 3) (ls.set k (some (.int (x + Int32.ofInt c)))) st m := by
  simp only [kst, if_true, hx]
  exact if_pos ⟨hi, hp⟩
theorem kg_idiv {y : Nat} {a b : Int32} (hb : ¬ b = 0) : kst y pc .idiv 1 ls (.int b :: .int a :: st) m = kGo (pc + 1) ls (.int (a / b) :: st) m := if_pos (c := ¬ b = 0) hb
theorem kg_irem {y : Nat} {a b : Int32} (hb : ¬ b = 0) : kst y pc .irem 1 ls (.int b :: .int a :: st) m = kGo (pc + 1) ls (.int (a - a / b * b) :: st) m := if_pos (c := ¬ b = 0) hb
theorem kg_ldiv {y : Nat} {a b : Int64} (hb : ¬ b = 0) : kst y pc .ldiv 1 ls (.long b :: .long a :: st) m = kGo (pc + 1) ls (.long (a / b) :: st) m := if_pos (c := ¬ b = 0) hb
theorem kg_lrem {y : Nat} {a b : Int64} (hb : ¬ b = 0) : kst y pc .lrem 1 ls (.long b :: .long a :: st) m = kGo (pc + 1) ls (.long (a - a / b * b) :: st) m := if_pos (c := ¬ b = 0) hb
theorem kg_geti {y idx q : Nat} (ci k : Nat) (hk : kLook (kFl (oC y)) idx = some (ci, k)) (h : kIs m.2.2.2 q ci = true) (ht : kTy ci k < 2) : kst y pc (.getfield idx) 3 ls (.ref q :: r) m = kGo (pc + 3) ls (.int (m.1 q k) :: r) m := by
  simp only [kst, kGet, hk, h, if_true, if_pos ht]
theorem kg_getl {y idx q : Nat} (ci k : Nat) (hk : kLook (kFl (oC y)) idx = some (ci, k)) (h : kIs m.2.2.2 q ci = true) (ht : kTy ci k = 2) : kst y pc (.getfield idx) 3 ls (.ref q :: r) m = kGo (pc + 3) ls (.long (m.2.1 q k) :: r) m := by
  simp [kst, kGet, hk, h, ht]
theorem kg_getr {y idx q : Nat} (ci k : Nat) (hk : kLook (kFl (oC y)) idx = some (ci, k)) (h : kIs m.2.2.2 q ci = true) (ht : kTy ci k = 3) : kst y pc (.getfield idx) 3 ls (.ref q :: r) m = kGo (pc + 3) ls (va_rf (m.2.2.1 q k) :: r) m := by
  simp [kst, kGet, hk, h, ht]
theorem kg_puti {y idx q : Nat} {x : Int32} (ci k : Nat) (hk : kLook (kFl (oC y)) idx = some (ci, k)) (h : kIs m.2.2.2 q ci = true) (hf : (kTt ci k).2.2.2 = false) (ht : kTy ci k = 0 ∨ (kTy ci k = 1 ∧ (x = 0 ∨ x = 1))) : kst y pc (.putfield idx) 3 ls (.int x :: .ref q :: r) m = kGo (pc + 3) ls r (kup m.1 q k x, m.2) := by
  simp only [kst, if_true, kPut, hk]
  exact if_pos ⟨h, hf, ht⟩
theorem kg_putl {y idx q : Nat} {x : Int64} (ci k : Nat) (hk : kLook (kFl (oC y)) idx = some (ci, k)) (h : kIs m.2.2.2 q ci = true) (hf : (kTt ci k).2.2.2 = false) (ht : kTy ci k = 2) : kst y pc (.putfield idx) 3 ls (.long x :: .ref q :: r) m = kGo (pc + 3) ls r (m.1, kupL m.2.1 q k x, m.2.2) := by
  simp only [kst, if_true, kPut, hk]
  exact if_pos ⟨h, hf, ht⟩
theorem kg_aldJ {y pc' len kd q : Nat} {i : Int32} {ins : ClassFile.Instr} {Q : Option Value → kMem → Prop} (hd : decode (mB y) pc = .ok (ins, len)) (hs : kst y pc ins len ls (.int i :: .ref q :: r) m = kAld pc' kd ls (.int i :: .ref q :: r) m) (h : kAr m.2.2.2 q kd = some n) :
    kJ y pc ls (.int i :: .ref q :: r) m Q = (vp_in i n ∧ kJ y pc' ls (.int (m.1 q i.toNatClampNeg) :: r) m Q) := by
  simp only [kAld, h] at hs
  by_cases hi : vp_in i n
  · rw [kJ_next hd (hs.trans (if_pos hi))]
    exact propext ⟨fun x => ⟨hi, x⟩, fun x => x.2⟩
  · rw [kJ_none hd (hs.trans (if_neg hi))]
    exact propext ⟨fun x => x.elim, fun x => hi x.1⟩
theorem kg_astJ {y pc' len kd q : Nat} {i x : Int32} {ins : ClassFile.Instr} {Q : Option Value → kMem → Prop} (hd : decode (mB y) pc = .ok (ins, len)) (hs : kst y pc ins len ls (.int x :: .int i :: .ref q :: r) m = kAst pc' kd ls (.int x :: .int i :: .ref q :: r) m) (h : kAr m.2.2.2 q kd = some n) :
    kJ y pc ls (.int x :: .int i :: .ref q :: r) m Q = (vp_in i n ∧ kJ y pc' ls r (kup m.1 q i.toNatClampNeg (if kd = 10 then x else x &&& 1), m.2) Q) := by
  simp only [kAst, h] at hs
  by_cases hi : vp_in i n
  · rw [kJ_next hd (hs.trans (if_pos hi))]
    exact propext ⟨fun x => ⟨hi, x⟩, fun x => x.2⟩
  · rw [kJ_none hd (hs.trans (if_neg hi))]
    exact propext ⟨fun x => x.elim, fun x => hi x.1⟩
theorem kg_aalJ {y pc' len q : Nat} {i : Int32} {ins : ClassFile.Instr} {Q : Option Value → kMem → Prop} (hd : decode (mB y) pc = .ok (ins, len)) (hs : kst y pc ins len ls (.int i :: .ref q :: r) m = kAaL pc' ls (.int i :: .ref q :: r) m) (h : kAr m.2.2.2 q 12 = some n ∨ kAr m.2.2.2 q 13 = some n) :
    kJ y pc ls (.int i :: .ref q :: r) m Q = (vp_in i n ∧ kJ y pc' ls (va_rf (m.2.2.1 q i.toNatClampNeg) :: r) m Q) := by
  have hs2 : kst y pc ins len ls (.int i :: .ref q :: r) m = if ¬ (i < 0 ∨ n ≤ i.toNatClampNeg) then kGo pc' ls (va_rf (m.2.2.1 q i.toNatClampNeg) :: r) m else none := by
    rw [hs]
    rcases h with h | h
    · simp only [kAaL, h]
    · have h12 : kAr m.2.2.2 q 12 = none := by
        unfold kAr at h ⊢
        split at h
        · next hc => exact if_neg (fun z => by have := z.2.symm.trans hc.2; cases this)
        · cases h
      simp only [kAaL, h12, h]
  by_cases hi : vp_in i n
  · rw [kJ_next hd (hs2.trans (if_pos hi))]
    exact propext ⟨fun x => ⟨hi, x⟩, fun x => x.2⟩
  · rw [kJ_none hd (hs2.trans (if_neg hi))]
    exact propext ⟨fun x => x.elim, fun x => hi x.1⟩
theorem kg_calls {y idx : Nat} (y' n : Nat) (hk : kLook (kCll (oC y)) idx = some (y', n)) (hz : kStat y' = true) (h1 : n ≤ st.length) (h2 : mK y' < mK y) (h3 : (kSlots (st.take n).reverse).length ≤ mL y') (h4 : ((st.drop n).map fun v => v.category).sum ≤ 8) : kst y pc (.invokestatic idx) 3 ls st m = some (.inr (.inl (y', (st.take n).reverse, pc + 3, ls, st.drop n, m))) := by
  simp only [kst, if_true, hk]
  exact if_pos ⟨h1, hz, h2, h3, h4⟩
theorem kg_callv {y q idx : Nat} (y' n : Nat) (hk : kLook (kCll (oC y)) idx = some (y', n)) (hz : kStat y' = false) (hz2 : kInit y' = false) (h0 : st.drop n = .ref q :: r) (h2 : mK y' < mK y) (h3 : (kSlots (.ref q :: (st.take n).reverse)).length ≤ mL y') (h4 : (r.map fun v => v.category).sum ≤ 8) (h5 : kIs m.2.2.2 q (oC y') = true) (h6 : (st.take n).length = n) : kst y pc (.invokevirtual idx) 3 ls st m = some (.inr (.inl (y', .ref q :: (st.take n).reverse, pc + 3, ls, r, m))) := by
  simp only [kst, if_true, hk, kCallV, h0]
  exact if_pos ⟨hz, hz2, h2, h3, h4, h5, h6⟩
theorem kg_cpy {y idx s d n0 n1 : Nat} {nn dp sp : Int32} (hk : kLook (kCll (oC y)) idx = none) (hk2 : kLook (kPl (oC y)) idx = some 1) (h0 : kAr m.2.2.2 s 10 = some n0) (h1 : kAr m.2.2.2 d 10 = some n1) (c1 : ¬ sp < 0) (c2 : ¬ dp < 0) (c3 : ¬ nn < 0) (c4 : sp.toNatClampNeg + nn.toNatClampNeg ≤ n0) (c5 : dp.toNatClampNeg + nn.toNatClampNeg ≤ n1) (c6 : (r.map fun v => v.category).sum ≤ 4) :
    kst y pc (.invokestatic idx) 3 ls (.int nn :: .int dp :: .ref d :: .int sp :: .ref s :: r) m = kGo (pc + 3) ls r (kRow m.1 d (va_cpy (m.1 s) (m.1 d) sp.toNatClampNeg dp.toNatClampNeg nn.toNatClampNeg), m.2) := by
  simp only [kst, if_true, hk, hk2, kCpy, h0, h1]
  exact if_pos ⟨c1, c2, c3, c4, c5, c6⟩
theorem kg_len {y idx q : Nat} (hk : kLook (kCll (oC y)) idx = none) (hk2 : kLook (kPl (oC y)) idx = some 2) (h : 1000 ≤ q ∧ q < 1006) (h2 : (r.map fun v => v.category).sum ≤ 8) : kst y pc (.invokevirtual idx) 3 ls (.ref q :: r) m = kGo (pc + 3) ls (.int (nI (kTx (q - 1000)).length) :: r) m := by
  simp only [kst, if_true, hk, hk2, kLen]
  exact if_pos ⟨h.1, h.2, h2⟩
theorem kg_chr {y idx q : Nat} {i : Int32} (hk : kLook (kCll (oC y)) idx = none) (hk2 : kLook (kPl (oC y)) idx = some 3) (h : 1000 ≤ q ∧ q < 1006) (hi : vp_in i (kTx (q - 1000)).length) (h2 : (r.map fun v => v.category).sum ≤ 8) : kst y pc (.invokevirtual idx) 3 ls (.int i :: .ref q :: r) m = kGo (pc + 3) ls (.int ((kTx (q - 1000)).getD i.toNatClampNeg 0) :: r) m := by
  simp only [kst, if_true, hk, hk2, kChr]
  exact if_pos ⟨h.1, h.2, hi, h2⟩
theorem kg_max {y idx : Nat} {a b : Int32} (hk : kLook (kCll (oC y)) idx = none) (hk2 : kLook (kPl (oC y)) idx = some 4) (h2 : (r.map fun v => v.category).sum ≤ 8) : kst y pc (.invokestatic idx) 3 ls (.int b :: .int a :: r) m = kGo (pc + 3) ls (.int (if a < b then b else a) :: r) m := by
  simp only [kst, if_true, hk, hk2, kMx2]
  exact if_pos h2
theorem kg_min {y idx : Nat} {a b : Int32} (hk : kLook (kCll (oC y)) idx = none) (hk2 : kLook (kPl (oC y)) idx = some 5) (h2 : (r.map fun v => v.category).sum ≤ 8) : kst y pc (.invokestatic idx) 3 ls (.int b :: .int a :: r) m = kGo (pc + 3) ls (.int (if b < a then b else a) :: r) m := by
  simp only [kst, if_true, hk, hk2, kMx2]
  exact if_pos h2
theorem kg_retz {y : Nat} {x : Int32} (hr : mR y = some .boolean) (hx : x = 0 ∨ x = 1) : kst y pc .ireturn 1 ls [.int x] m = some (.inr (.inr (some (.int x), m))) := by
  simp only [kst, if_true, kRet, hr]
  exact if_pos ⟨trivial, hx⟩
theorem kg_rng {a : Int32} {n : Nat} (hn : n < 2 ^ 31) (h : ∀ j, j ≤ n → a ≠ nI j) : a.toInt < 0 ∨ (n : Int) < a.toInt := by
  by_cases h1 : a < 0
  · left
    have := Int32.lt_iff_toInt_lt.mp h1
    simpa using this
  · obtain ⟨j, hj, rfl⟩ := nI_of h1
    right
    rw [nI_toInt hj]
    by_cases h2 : j ≤ n
    · exact absurd rfl (h j h2)
    · omega
end KG
