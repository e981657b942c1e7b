/-! single instructions of the constructors -/
def kAl (q : Nat) : Nat := (kAt q).2
theorem kAr_of {nx q kd : Nat} (h : kIs nx q kd = true) : kAr nx q kd = some (kAl q) := if_pos (kIs_spec h)
theorem kAr_or {nx q : Nat} (h : kIs nx q 12 = true ∨ kIs nx q 13 = true) : kAr nx q 12 = some (kAl q) ∨ kAr nx q 13 = some (kAl q) := h.imp kAr_of kAr_of
section KG2
variable {pc : Nat} {ls : kLcs} {st r : List Value} {mi : Nat → Nat → Int32} {ml : Nat → Nat → Int64} {mr : Nat → Nat → Option Nat} {nx : Nat} {m : kMem}
theorem kg_putr {y idx q x : Nat} (ci k : Nat) (hk : kLook (kFl (oC y)) idx = some (ci, k)) (h : kIs m.2.2.2 q ci = true) (hf : (kTt ci k).2.2.2 = true) (ht : kTy ci k = 3) (hi : ((mN y).name == "<init>") = true) (ho : oC y = ci) (hx : x < 1000) : kst y pc (.putfield idx) 3 ls (.ref x :: .ref q :: r) m = kGo (pc + 3) ls r (m.1, m.2.1, kupR m.2.2.1 q k (some x), m.2.2.2) := by
  simp only [kst, if_true, kPut, hk]
  exact if_pos ⟨h, hf, ht, hi, ho, hx⟩
theorem kg_new {y idx : Nat} (ci : Nat) (hk : kLook (kNl (oC y)) idx = some ci) (h : nx < 95) (h2 : (kAt nx).1 = ci) (h3 : ci < 6) : kst y pc (.new idx) 3 ls st (mi, ml, mr, nx) = kGo (pc + 3) ls (.ref nx :: st) (kRow mi nx (fun _ => 0), kRow ml nx (fun _ => 0), kRow mr nx (fun _ => none), nx + 1) := by
  simp only [kst, if_true, kNw, hk]
  exact if_pos ⟨h, h2, h3⟩
theorem kg_mk {kd : Nat} {n : Int32} (h : nx < 95) (h2 : kAt nx = (kd, n.toNatClampNeg)) (h3 : ¬ n < 0) (h4 : n.toNatClampNeg ≤ 2000) : kMk pc kd ls (.int n :: st) (mi, ml, mr, nx) = kGo pc ls (.ref nx :: st) (kRow mi nx (fun _ => 0), kRow ml nx (fun _ => 0), kRow mr nx (fun _ => none), nx + 1) := if_pos ⟨h, h2, h3, h4⟩
theorem kg_newa {y : Nat} {at0 : ClassFile.ArrayType} {kd : Nat} {n : Int32} (h : nx < 95) (h2 : kAt nx = (kd, n.toNatClampNeg)) (h3 : ¬ n < 0) (h4 : n.toNatClampNeg ≤ 2000) (hat : kst y pc (.newarray at0) 2 ls (.int n :: st) (mi, ml, mr, nx) = kMk (pc + 2) kd ls (.int n :: st) (mi, ml, mr, nx) := by rfl) : kst y pc (.newarray at0) 2 ls (.int n :: st) (mi, ml, mr, nx) = kGo (pc + 2) ls (.ref nx :: st) (kRow mi nx (fun _ => 0), kRow ml nx (fun _ => 0), kRow mr nx (fun _ => none), nx + 1) := hat.trans (kg_mk h h2 h3 h4)
theorem kg_anew1 {y idx : Nat} {n : Int32} (hk : kLook (kNl (oC y)) idx = some 1) (h : nx < 95) (h2 : kAt nx = (12, n.toNatClampNeg)) (h3 : ¬ n < 0) (h4 : n.toNatClampNeg ≤ 2000) : kst y pc (.anewarray idx) 3 ls (.int n :: st) (mi, ml, mr, nx) = kGo (pc + 3) ls (.ref nx :: st) (kRow mi nx (fun _ => 0), kRow ml nx (fun _ => 0), kRow mr nx (fun _ => none), nx + 1) := by
  simp only [kst, if_true, hk]
  exact kg_mk h h2 h3 h4
theorem kg_anew2 {y idx : Nat} {n : Int32} (hk : kLook (kNl (oC y)) idx = some 2) (h : nx < 95) (h2 : kAt nx = (13, n.toNatClampNeg)) (h3 : ¬ n < 0) (h4 : n.toNatClampNeg ≤ 2000) : kst y pc (.anewarray idx) 3 ls (.int n :: st) (mi, ml, mr, nx) = kGo (pc + 3) ls (.ref nx :: st) (kRow mi nx (fun _ => 0), kRow ml nx (fun _ => 0), kRow mr nx (fun _ => none), nx + 1) := by
  simp only [kst, if_true, hk]
  exact kg_mk h h2 h3 h4
theorem kg_spec {y q idx : Nat} (y' n : Nat) (hk : kLook (kCll (oC y)) idx = some (y', n)) (hz : kStat y' = false) (hz2 : kInit y' = true) (h0 : st.drop n = .ref q :: r) (h2 : mK y' < mK y) (h3 : (kSlots (.ref q :: (st.take n).reverse)).length ≤ mL y') (h4 : (r.map fun v => v.category).sum ≤ 8) (h5 : kIs m.2.2.2 q (oC y') = true) (h6 : (st.take n).length = n) : kst y pc (.invokespecial idx) 3 ls st m = some (.inr (.inl (y', .ref q :: (st.take n).reverse, pc + 3, ls, r, m))) := by
  simp only [kst, if_true, hk, kCallV, h0]
  exact if_pos ⟨hz, hz2, h2, h3, h4, h5, h6⟩
theorem kg_obj {y idx q : Nat} (hk : kLook (kCll (oC y)) idx = none) (hk2 : kLook (kPl (oC y)) idx = some 0) (h2 : (r.map fun v => v.category).sum ≤ 8) : kst y pc (.invokespecial idx) 3 ls (.ref q :: r) m = kGo (pc + 3) ls r m := by
  simp only [kst, if_true, hk, hk2]
  exact if_pos h2
theorem kg_aasJ {y pc' len q n v ci kd : Nat} {i : Int32} {ins : ClassFile.Instr} {Q : Option Value → kMem → Prop} (hd : decode (mB y) pc = .ok (ins, len)) (hs : kst y pc ins len ls (.ref v :: .int i :: .ref q :: r) m = kAaS pc' ls (.ref v :: .int i :: .ref q :: r) m) (h : kAr m.2.2.2 q kd = some n) (hk : (kd = 12 ∧ ci = 1) ∨ (kd = 13 ∧ ci = 2)) (hv : kIs m.2.2.2 v ci = true) (hv2 : v < 1000) :
    kJ y pc ls (.ref v :: .int i :: .ref q :: r) m Q = (vp_in i n ∧ kJ y pc' ls r (m.1, m.2.1, kupR m.2.2.1 q i.toNatClampNeg (some v), m.2.2.2) Q) := by
  have hs2 : kst y pc ins len ls (.ref v :: .int i :: .ref q :: r) m = if ¬ (i < 0 ∨ n ≤ i.toNatClampNeg) ∧ kIs m.2.2.2 v ci = true ∧ v < 1000 then kGo pc' ls r (m.1, m.2.1, kupR m.2.2.1 q i.toNatClampNeg (some v), m.2.2.2) else none := by
    rw [hs]
    rcases hk with ⟨rfl, rfl⟩ | ⟨rfl, rfl⟩
    · simp only [kAaS, h]
    · have h12 : kAr m.2.2.2 q 12 = none := by
        unfold kAr at h ⊢
        split at h
        · next hc => exact if_neg (fun z => by have := z.2.symm.trans hc.2; cases this)
        · cases h
      simp only [kAaS, h12, h]
  by_cases hi : vp_in i n
  · rw [kJ_next hd (hs2.trans (if_pos ⟨hi, hv, hv2⟩))]
    exact propext ⟨fun x => ⟨hi, x⟩, fun x => x.2⟩
  · rw [kJ_none hd (hs2.trans (if_neg (fun z => hi z.1)))]
    exact propext ⟨fun x => x.elim, fun x => hi x.1⟩
theorem kg_aasK {y pc' len q v : Nat} {i : Int32} {ins : ClassFile.Instr} {Q : Option Value → kMem → Prop} (hd : decode (mB y) pc = .ok (ins, len)) (hs : kst y pc ins len ls (.ref v :: .int i :: .ref q :: r) m = kAaS pc' ls (.ref v :: .int i :: .ref q :: r) m) (h : (kIs m.2.2.2 q 12 = true ∧ kIs m.2.2.2 v 1 = true) ∨ (kIs m.2.2.2 q 13 = true ∧ kIs m.2.2.2 v 2 = true)) (hv2 : v < 1000) :
    kJ y pc ls (.ref v :: .int i :: .ref q :: r) m Q = (vp_in i (kAl q) ∧ kJ y pc' ls r (m.1, m.2.1, kupR m.2.2.1 q i.toNatClampNeg (some v), m.2.2.2) Q) := by
  rcases h with ⟨h1, h2⟩ | ⟨h1, h2⟩
  · exact kg_aasJ hd hs (kAr_of h1) (Or.inl ⟨rfl, rfl⟩) h2 hv2
  · exact kg_aasJ hd hs (kAr_of h1) (Or.inr ⟨rfl, rfl⟩) h2 hv2
/-! what simp needs beside the equations -/
theorem kNL_n : kNL none = true := rfl
theorem kNL_i (x : Int32) : kNL (some (.int x)) = true := rfl
theorem kNL_r (x : Nat) : kNL (some (.ref x)) = true := rfl
theorem va_rf_s (q : Nat) : va_rf (some q) = .ref q := rfl
theorem kOl_n : (none : Option Value).toList = [] := rfl
theorem kOl_s (v : Value) : (some v).toList = [v] := rfl
theorem kap_n (l : List Value) : [] ++ l = l := rfl
theorem kap_c (a : Value) (l k : List Value) : (a :: l) ++ k = a :: (l ++ k) := rfl
end KG2
