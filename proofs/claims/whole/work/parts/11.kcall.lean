theorem kVc : ∀ y, y < 199 → kVirt y = true → oC y < 6 := by decide +kernel
theorem kGo_ncall {pc : Nat} {ls : kLcs} {st : List Value} {m : kMem} {z : kCal} (h : kGo pc ls st m = some (.inr (.inl z))) : False := by cases h
def kNc (r : Option kOut) : Prop := ∀ z : kCal, ¬ r = some (.inr (.inl z))
theorem kNc_none : kNc none := fun _ h => by cases h
theorem kNc_go {pc : Nat} {ls : kLcs} {st : List Value} {m : kMem} : kNc (kGo pc ls st m) := fun _ h => by cases h
theorem kNc_ret {v : Option Value} {m : kMem} : kNc (some (.inr (.inr (v, m)))) := fun _ h => by cases h
theorem kNc_ite {c : Prop} [Decidable c] {A B : Option kOut} (ha : kNc A) (hb : kNc B) : kNc (if c then A else B) := by split <;> assumption
theorem kNc_jmp {m : kMem} {pc : Nat} {off : Int} {ls : kLcs} {st : List Value} : kNc (kJmp pc off ls st m) := kNc_ite kNc_go kNc_none
theorem kNc_br {cnd : ClassFile.Cond} {a b : Int32} {A B : Option kOut} (ha : kNc A) (hb : kNc B) : kNc (kBr cnd a b A B) := by
  unfold kBr
  split <;> first | exact kNc_ite ha hb | exact kNc_ite hb ha
theorem kNc_ld {m : kMem} {pc i t : Nat} {ls : kLcs} {st : List Value} : kNc (kLd pc i ls st m t) := by
  unfold kLd; split <;> first | exact kNc_ite kNc_go kNc_none | exact kNc_none
theorem kNc_st {m : kMem} {pc i t : Nat} {ls : kLcs} {st : List Value} : kNc (kSt1 pc i ls st m t) := by
  unfold kSt1; split <;> first | exact kNc_ite kNc_go kNc_none | exact kNc_none
theorem kNc_bin {m : kMem} {f : Int32 → Int32 → Int32} {pc : Nat} {ls : kLcs} {st : List Value} : kNc (kBin f pc ls st m) := by
  unfold kBin; split <;> first | exact kNc_go | exact kNc_none
theorem kNc_binL {m : kMem} {f : Int64 → Int64 → Int64} {pc : Nat} {ls : kLcs} {st : List Value} : kNc (kBinL f pc ls st m) := by
  unfold kBinL; split <;> first | exact kNc_go | exact kNc_none
theorem kNc_un {m : kMem} {f : Int32 → Int32} {pc : Nat} {ls : kLcs} {st : List Value} : kNc (kUn f pc ls st m) := by
  unfold kUn; split <;> first | exact kNc_go | exact kNc_none
theorem kNc_get {m : kMem} {o pc idx : Nat} {ls : kLcs} {st : List Value} : kNc (kGet o pc idx ls st m) := by
  unfold kGet; split <;> first | exact kNc_ite (kNc_ite kNc_go (kNc_ite kNc_go kNc_go)) kNc_none | exact kNc_none
theorem kNc_put {m : kMem} {o pc idx : Nat} {b : Bool} {ls : kLcs} {st : List Value} : kNc (kPut o pc idx b ls st m) := by
  unfold kPut; split <;> first | exact kNc_ite kNc_go kNc_none | exact kNc_none
theorem kNc_ald {m : kMem} {pc kd : Nat} {ls : kLcs} {st : List Value} : kNc (kAld pc kd ls st m) := by
  unfold kAld; repeat' split
  all_goals first | exact kNc_go | exact kNc_none
theorem kNc_ast {m : kMem} {pc kd : Nat} {ls : kLcs} {st : List Value} : kNc (kAst pc kd ls st m) := by
  unfold kAst; repeat' split
  all_goals first | exact kNc_go | exact kNc_none
theorem kNc_aal {m : kMem} {pc : Nat} {ls : kLcs} {st : List Value} : kNc (kAaL pc ls st m) := by
  unfold kAaL; repeat' split
  all_goals first | exact kNc_go | exact kNc_none
theorem kNc_aas {m : kMem} {pc : Nat} {ls : kLcs} {st : List Value} : kNc (kAaS pc ls st m) := by
  unfold kAaS; repeat' split
  all_goals first | exact kNc_go | exact kNc_none
theorem kNc_mk {m : kMem} {pc kd : Nat} {ls : kLcs} {st : List Value} : kNc (kMk pc kd ls st m) := by
  unfold kMk; split <;> first | exact kNc_ite kNc_go kNc_none | exact kNc_none
theorem kNc_nw {m : kMem} {o pc idx : Nat} {ls : kLcs} {st : List Value} : kNc (kNw o pc idx ls st m) := by
  unfold kNw; split <;> first | exact kNc_ite kNc_go kNc_none | exact kNc_none
theorem kNc_cpy {m : kMem} {pc : Nat} {ls : kLcs} {st : List Value} : kNc (kCpy pc ls st m) := by
  unfold kCpy; repeat' split
  all_goals first | exact kNc_go | exact kNc_none
theorem kNc_len {m : kMem} {pc : Nat} {ls : kLcs} {st : List Value} : kNc (kLen pc ls st m) := by
  unfold kLen; split <;> first | exact kNc_ite kNc_go kNc_none | exact kNc_none
theorem kNc_chr {m : kMem} {pc : Nat} {ls : kLcs} {st : List Value} : kNc (kChr pc ls st m) := by
  unfold kChr; split <;> first | exact kNc_ite kNc_go kNc_none | exact kNc_none
theorem kNc_mx {m : kMem} {b : Bool} {pc : Nat} {ls : kLcs} {st : List Value} : kNc (kMx2 b pc ls st m) := by
  unfold kMx2; split <;> first | exact kNc_ite kNc_go kNc_none | exact kNc_none
theorem kNc_rt {m : kMem} {y t : Nat} {st : List Value} : kNc (kRet y st m t) := by
  unfold kRet; split <;> first | exact kNc_ite kNc_ret kNc_none | exact kNc_none
def kNoInv (i : ClassFile.Instr) : Bool := match i with
  | .invokestatic _ => false
  | .invokevirtual _ => false
  | .invokespecial _ => false
  | _ => true
theorem kst_nc {y pc len : Nat} {i : ClassFile.Instr} {ls : kLcs} {st : List Value} {m : kMem} (hi : kNoInv i = true) : kNc (kst y pc i len ls st m) := by
  unfold kst
  split
  all_goals first | (exact absurd hi Bool.false_ne_true) | (repeat' split)
  all_goals first | exact kNc_none | exact kNc_go | exact kNc_ld | exact kNc_st | exact kNc_bin | exact kNc_binL | exact kNc_un | exact kNc_jmp | exact kNc_br kNc_jmp kNc_go | exact kNc_get | exact kNc_put | exact kNc_ald | exact kNc_ast | exact kNc_aal | exact kNc_aas | exact kNc_mk | exact kNc_nw | exact kNc_rt
/-- which steps are calls -/
theorem kst_calls {y pc len y' pc' : Nat} {i : ClassFile.Instr} {ls ls' : kLcs} {st st' as : List Value} {m m1 : kMem} (h : kst y pc i len ls st m = some (.inr (.inl (y', as, pc', ls', st', m1)))) :
    (∃ k n, i = .invokestatic k ∧ len = 3 ∧ kLook (kCll (oC y)) k = some (y', n) ∧ n ≤ st.length ∧ kStat y' = true ∧ mK y' < mK y ∧ (kSlots (st.take n).reverse).length ≤ mL y' ∧ ((st.drop n).map fun v => v.category).sum ≤ 8 ∧ as = (st.take n).reverse ∧ pc' = pc + 3 ∧ ls' = ls ∧ st' = st.drop n) ∨
    (∃ b k n q, (i = if b then .invokespecial k else .invokevirtual k) ∧ len = 3 ∧ kLook (kCll (oC y)) k = some (y', n) ∧ st.drop n = .ref q :: st' ∧ kStat y' = false ∧ kInit y' = b ∧ mK y' < mK y ∧ (kSlots (.ref q :: (st.take n).reverse)).length ≤ mL y' ∧ (st'.map fun v => v.category).sum ≤ 8 ∧ kIs m.2.2.2 q (oC y') = true ∧ (st.take n).length = n ∧ as = .ref q :: (st.take n).reverse ∧ pc' = pc + 3 ∧ ls' = ls) := by
  have cv : ∀ {b : Bool} {y2 n k : Nat}, (i = if b then .invokespecial k else .invokevirtual k) → len = 3 → kLook (kCll (oC y)) k = some (y2, n) → kCallV b y (pc + 3) y2 n ls st m = some (.inr (.inl (y', as, pc', ls', st', m1))) → (∃ b k n q, (i = if b then .invokespecial k else .invokevirtual k) ∧ len = 3 ∧ kLook (kCll (oC y)) k = some (y', n) ∧ st.drop n = .ref q :: st' ∧ kStat y' = false ∧ kInit y' = b ∧ mK y' < mK y ∧ (kSlots (.ref q :: (st.take n).reverse)).length ≤ mL y' ∧ (st'.map fun v => v.category).sum ≤ 8 ∧ kIs m.2.2.2 q (oC y') = true ∧ (st.take n).length = n ∧ as = .ref q :: (st.take n).reverse ∧ pc' = pc + 3 ∧ ls' = ls) := by
    intro b y2 n k e1 e2 hk h1
    unfold kCallV at h1
    split at h1
    · next q r hdr =>
      obtain ⟨⟨c1, c2, c3, c4, c5, c6, c7⟩, h2⟩ := kIf_inv h1
      cases h2
      exact ⟨b, k, n, q, e1, e2, hk, hdr, c1, c2, c3, c4, c5, c6, c7, rfl, rfl, rfl⟩
    · cases h1
  cases i
  all_goals first | (have h9 : (none : Option kOut) = some (.inr (.inl (y', as, pc', ls', st', m1))) := h; cases h9; done) | skip
  case invokestatic k =>
    obtain ⟨rfl, h1⟩ := kIf_inv h
    split at h1
    · next y2 n hk =>
      obtain ⟨⟨c1, c2, c3, c4, c5⟩, h2⟩ := kIf_inv h1
      cases h2
      exact Or.inl ⟨k, n, rfl, rfl, hk, c1, c2, c3, c4, c5, rfl, rfl, rfl, rfl⟩
    · exfalso
      split at h1
      · exact kNc_cpy _ h1
      · exact kNc_mx _ h1
      · exact kNc_mx _ h1
      · cases h1
  case invokevirtual k =>
    obtain ⟨rfl, h1⟩ := kIf_inv h
    split at h1
    · next y2 n hk => exact Or.inr (cv (b := false) rfl rfl hk h1)
    · exfalso
      split at h1
      · exact kNc_len _ h1
      · exact kNc_chr _ h1
      · cases h1
  case invokespecial k =>
    obtain ⟨rfl, h1⟩ := kIf_inv h
    split at h1
    · next y2 n hk => exact Or.inr (cv (b := true) rfl rfl hk h1)
    · exfalso
      split at h1
      · exact kGo_ncall (kIf_inv h1).2
      · cases h1
  all_goals exact absurd h (kst_nc rfl _)
section KST
variable {p : Program} {l : Launch} {e : Env} {R : Room} {s : State} {mm : MethodId} {args : Array Value} {below : List Frame} {meth : Method} {c : Code} {Q : State → Prop}
variable {E : kEn}
/-- a call: the callee's contract, then what is behind it -/
theorem k_call {y pc len pc' nx0 cells slots y' : Nat} {i : ClassFile.Instr} {ls ls' : kLcs} {st st' as : List Value} {m m1 m2 : kMem} {rv : Option Value} {H : Heap} {locs : List Loc} {LS : Array Slot} (C : kCtx E y p R s mm meth c) (hd : decode (mB y) pc = .ok (i, len)) (hs : kst y pc i len ls st m = some (.inr (.inl (y', as, pc', ls', st', m1)))) (hR : kRep E m H) (hS : va_S (kA E) s.heap H locs) (hL : kLR E LS ls) (hll : ls.length = mL y)
    (h0 : s.heap.size = eB E + nx0) (hc : m.2.2.2 = nx0 + cells) (hsl : kSlt m.2.2.2 = kSlt nx0 + slots) (hRc : m2.2.2.2 ≤ nx0 + R.cells) (hRs : kSlt m2.2.2.2 ≤ kSlt nx0 + R.slots) (hnx : m.2.2.2 ≤ m2.2.2.2)
    (hM : y' < 199 → (kSlots as).length ≤ mL y' → kMt l E y' as m rv m2)
    (kk : ∀ (H1 : Heap) (locs1 : List Loc) (LS1 : Array Slot) (cells1 slots1 : Nat), ls'.length = mL y → m2.2.2.2 = nx0 + cells1 → kSlt m2.2.2.2 = kSlt nx0 + slots1 → kRep E m2 H1 → va_S (kA E) s.heap H1 locs1 → kLR E LS1 ls' → W p l e R s mm args below meth c H1 locs1 cells1 slots1 Q (F0 mm pc' LS1 ((rv.toList ++ st').map (kVa E)))) :
    W p l e R s mm args below meth c H locs cells slots Q (F0 mm pc LS (st.map (kVa E))) := by
  have hx : p.tables.exec = Jvm.exec := C.1
  have hb : c.code = mB y := C.2.1
  have hml : c.maxLocals = mL y := C.2.2.1
  have hown : s.vm.findClass (kOn (oC y)) = some mm.cls := C.2.2.2.1
  have hLS : LS.size = mL y := hL.1.trans hll
  have hF : kFix E s := C.2.2.2.2.1
  have hmono := kSlt_mono hnx
  have hf : cells + (m2.2.2.2 - m.2.2.2) ≤ R.cells ∧ slots + (kSlt m2.2.2.2 - kSlt m.2.2.2) ≤ R.slots := by omega
  have fin : ∀ (H1 : Heap) (locs1 : List Loc), pc' = pc + 3 → ls' = ls → kRep E m2 H1 → va_S (kA E) s.heap H1 locs1 → W p l e R s mm args below meth c H1 locs1 (cells + (m2.2.2.2 - m.2.2.2)) (slots + (kSlt m2.2.2.2 - kSlt m.2.2.2)) Q (F0 mm (pc + 3) LS ((rv.map (kVa E)).toList ++ st'.map (kVa E))) := by
    intro H1 locs1 e1 e2 hR1 hS1
    subst e1; subst e2
    have h9 := kk H1 locs1 LS (cells + (m2.2.2.2 - m.2.2.2)) (slots + (kSlt m2.2.2.2 - kSlt m.2.2.2)) hll (by omega) (by omega) hR1 hS1 hL
    have e3 : (rv.toList ++ st').map (kVa E) = (rv.map (kVa E)).toList ++ st'.map (kVa E) := by
      cases rv <;> simp
    rw [e3] at h9
    exact h9
  have stat : ∀ {k n : Nat}, i = .invokestatic k → len = 3 → kLook (kCll (oC y)) k = some (y', n) → n ≤ st.length → kStat y' = true → mK y' < mK y → (kSlots (st.take n).reverse).length ≤ mL y' → ((st.drop n).map fun v => v.category).sum ≤ 8 → as = (st.take n).reverse → pc' = pc + 3 → ls' = ls → st' = st.drop n → W p l e R s mm args below meth c H locs cells slots Q (F0 mm pc LS (st.map (kVa E))) := by
    intro k n e1 e2 hk hn hst hmk hsl2 hsum ea ep el es
    subst e1; subst e2; subst ea
    obtain ⟨hy, hcls, hB1, hB2⟩ := kt_call (mc := m2.2.2.2 - m.2.2.2) (ms := kSlt m2.2.2.2 - kSlt m.2.2.2) (args := args) hk C hmk
    have hw := kMs y' hy
    rw [hst, if_pos rfl] at hw
    have hstat : (Cond.static (mN y')).before args s = true := kt_w C hw rfl
    refine kt_size hR hS h0 hc (fun hz => ?_)
    have hMt := hM hy hsl2
    have hmap : ((st.take n).reverse.map (kVa E)).reverse ++ (st.drop n).map (kVa E) = st.map (kVa E) := by
      rw [List.map_reverse, List.reverse_reverse, ← List.map_append, List.take_append_drop]
    have hlen : ((st.take n).reverse.map (kVa E)).length = n := by
      simp [hn]
    obtain ⟨hlk, -, -⟩ := kC _ _ (kLook_mem hk)
    rcases hlk with hlk | hlk
    · refine kt_after (rv := rv) (m' := m2) (va_runS (As := (st.take n).reverse.map (kVa E)) (rest := (st.drop n).map (kVa E)) ⟨hx, hb, hml, hown, kt_wd C⟩ hMt ⟨hB1 hlk, hstat⟩ ⟨kPc_blind, kt_pre C hR hS hz _⟩ rfl hlen hLS hmap.symm (by show 2 * 0 + _ ≤ 8; rw [kVa_sum]; omega) hd hf) hS (fun H1 locs1 hR1 hS1 => ?_)
      rw [← es]
      exact fin H1 locs1 ep el hR1 hS1
    · refine kt_after (rv := rv) (m' := m2) (va_runSN (As := (st.take n).reverse.map (kVa E)) (rest := (st.drop n).map (kVa E)) ⟨hx, hb, hml, hown, kt_wd C⟩ hMt ⟨hB2 hlk, hstat, trivial⟩ ⟨kPc_blind, kt_pre C hR hS hz _⟩ rfl hlen hLS hmap.symm (by show 2 * 0 + _ ≤ 8; rw [kVa_sum]; omega) hd hf) hS (fun H1 locs1 hR1 hS1 => ?_)
      rw [← es]
      exact fin H1 locs1 ep el hR1 hS1
  have virt : ∀ {k n q : Nat} {r : List Value} {b : Bool}, (i = if b then .invokespecial k else .invokevirtual k) → len = 3 → kLook (kCll (oC y)) k = some (y', n) → st.drop n = .ref q :: r → kStat y' = false → kInit y' = b → mK y' < mK y → (kSlots (.ref q :: (st.take n).reverse)).length ≤ mL y' → (r.map fun v => v.category).sum ≤ 8 → kIs m.2.2.2 q (oC y') = true → (st.take n).length = n → as = .ref q :: (st.take n).reverse → pc' = pc + 3 → ls' = ls → st' = r → W p l e R s mm args below meth c H locs cells slots Q (F0 mm pc LS (st.map (kVa E))) := by
    intro k n q r b e1 e2 hk hdr hst hin hmk hsl2 hsum his htl ea ep el es
    subst e2; subst ea; subst es
    obtain ⟨hy, hcls, hB1, hB2⟩ := kt_call (mc := m2.2.2.2 - m.2.2.2) (ms := kSlt m2.2.2.2 - kSlt m.2.2.2) (args := args) hk C hmk
    have hw := kMs y' hy
    rw [hst, if_neg (by decide)] at hw
    have hinst : (Cond.instanceMethod (mN y')).before args s = true := kt_w C hw rfl
    refine kt_size hR hS h0 hc (fun hz => ?_)
    have hMt := hM hy hsl2
    obtain ⟨g1, g2⟩ := kIs_spec his
    have hq95 : q < 95 := Nat.lt_of_lt_of_le g1 hR.1
    have hmap : ((st.take n).reverse.map (kVa E)).reverse ++ (.ref (eB E + q) :: st'.map (kVa E)) = st.map (kVa E) := by
      rw [← kVa_ref (E := E) (q := q) (by omega), ← List.map_cons, ← hdr, List.map_reverse, List.reverse_reverse, ← List.map_append, List.take_append_drop]
    have hlen : ((st.take n).reverse.map (kVa E)).length = n := by
      rw [List.length_map, List.length_reverse, htl]
    have hpre : ∀ U : State, U.heap = H → s.WarmedH U.vm → kPc E m (.ref q :: (st.take n).reverse) (Value.ref (eB E + q) :: (st.take n).reverse.map (kVa E)).toArray U := by
      have h9 := kt_pre C hR hS hz (.ref q :: (st.take n).reverse)
      rw [List.map_cons, kVa_ref (by omega)] at h9
      exact h9
    obtain ⟨hlk, -, -⟩ := kC _ _ (kLook_mem hk)
    cases b with
    | true =>
      rw [if_pos rfl] at e1
      subst e1
      obtain ⟨hnm, hrn⟩ := kInN y' hy hin
      have hwI : ((st.take n).reverse.map (kVa E)).length = n := hlen
      rcases hlk with hlk | hlk
      · have hcb := hB1 hlk
        unfold kMt at hMt
        rw [hrn] at hcb hMt
        refine kt_after (rv := rv) (m' := m2) (va_runI (b := eB E + q) (As := (st.take n).reverse.map (kVa E)) (rest := st'.map (kVa E)) ⟨hx, hb, hml, hown, kt_wd C⟩ hMt ⟨hcb, hnm, hinst⟩ ⟨kPc_blind, hpre⟩ rfl hlen hLS hmap.symm (by show 2 * 0 + _ ≤ 8; rw [kVa_sum]; omega) hd hf) hS (fun H1 locs1 hR1 hS1 => fin H1 locs1 ep el hR1 hS1)
      · have hcb := hB2 hlk
        unfold kMt at hMt
        rw [hrn] at hcb hMt
        refine kt_after (rv := rv) (m' := m2) (va_runIN (b := eB E + q) (As := (st.take n).reverse.map (kVa E)) (rest := st'.map (kVa E)) ⟨hx, hb, hml, hown, kt_wd C⟩ hMt ⟨hcb, hnm, hinst⟩ ⟨kPc_blind, hpre⟩ rfl hlen hLS hmap.symm (by show 2 * 0 + _ ≤ 8; rw [kVa_sum]; omega) hd hf) hS (fun H1 locs1 hR1 hS1 => fin H1 locs1 ep el hR1 hS1)
    | false =>
      rw [if_neg (by decide)] at e1
      subst e1
      have hsel : (Cond.selects (mN y').cls (mN y') (mN y')).before args s = true := kt_w C (kMv y' hy (by simp [kVirt, hst, hin])) rfl
      have hoc6 : oC y' < 6 := kVc y' hy (by simp [kVirt, hst, hin])
      have hrecv : ∃ cellB : Cell, H[eB E + q]? = some cellB ∧ cellB.vm.isStatics = false ∧ s.vm.findClass (mN y').cls = some cellB.cls := by
        have h9 := va_recv (q := (kRn (oC y'), kTt (oC y'), kNf (oC y'))) hF.2.2.2.1 hR.2.1 (kCl_at _ hoc6) (q0 := q) (a := eB E + q) (fs := kFs E m q (oC y')) (by rw [kW_get g1, kCe_obj g2 hoc6])
        rw [hcls, ← kRnOn _ hoc6]
        exact h9
      rcases hlk with hlk | hlk
      · exact kt_after (rv := rv) (m' := m2) (va_runV (b := eB E + q) (As := (st.take n).reverse.map (kVa E)) (rest := st'.map (kVa E)) ⟨hx, hb, hml, hown, kt_wd C⟩ hMt ⟨hB1 hlk, hinst, hsel⟩ ⟨kPc_blind, hrecv, hpre⟩ rfl hlen hLS hmap.symm (by show 2 * 0 + _ ≤ 8; rw [kVa_sum]; omega) hd hf) hS (fun H1 locs1 hR1 hS1 => fin H1 locs1 ep el hR1 hS1)
      · exact kt_after (rv := rv) (m' := m2) (va_runVN (b := eB E + q) (As := (st.take n).reverse.map (kVa E)) (rest := st'.map (kVa E)) ⟨hx, hb, hml, hown, kt_wd C⟩ hMt ⟨hB2 hlk, hinst, hsel⟩ ⟨kPc_blind, hrecv, hpre⟩ rfl hlen hLS hmap.symm (by show 2 * 0 + _ ≤ 8; rw [kVa_sum]; omega) hd hf) hS (fun H1 locs1 hR1 hS1 => fin H1 locs1 ep el hR1 hS1)
  have hcall := kst_calls hs
  rcases hcall with ⟨k, n, a1, a2, a3, a4, a5, a6, a7, a8, a9, a10, a11, a12⟩ | ⟨b, k, n, q, a1, a2, a3, a4, a5, a6, a7, a8, a9, a10, a11, a12, a13, a14⟩
  · exact stat a1 a2 a3 a4 a5 a6 a7 a8 a9 a10 a11 a12
  · exact virt a1 a2 a3 a4 a5 a6 a7 a8 a9 a10 a11 a12 a13 a14 rfl
end KST
