/-! what kst's returns and calls leave -/
def kNr (r : Option kOut) : Prop := ∀ z : Option Value × kMem, ¬ r = some (.inr (.inr z))
theorem kNr_none : kNr none := fun _ h => by cases h
theorem kNr_go {pc : Nat} {ls : kLcs} {st : List Value} {m : kMem} : kNr (kGo pc ls st m) := fun _ h => by cases h
theorem kNr_call {z : kCal} : kNr (some (.inr (.inl z))) := fun _ h => by cases h
theorem kNr_ite {c : Prop} [Decidable c] {A B : Option kOut} (ha : kNr A) (hb : kNr B) : kNr (if c then A else B) := by split <;> assumption
theorem kNr_jmp {m : kMem} {pc : Nat} {off : Int} {ls : kLcs} {st : List Value} : kNr (kJmp pc off ls st m) := kNr_ite kNr_go kNr_none
theorem kNr_br {cnd : ClassFile.Cond} {a b : Int32} {A B : Option kOut} (ha : kNr A) (hb : kNr B) : kNr (kBr cnd a b A B) := by
  unfold kBr
  split <;> first | exact kNr_ite ha hb | exact kNr_ite hb ha
theorem kNr_ld {m : kMem} {pc i t : Nat} {ls : kLcs} {st : List Value} : kNr (kLd pc i ls st m t) := by
  unfold kLd; split <;> first | exact kNr_ite kNr_go kNr_none | exact kNr_none
theorem kNr_st {m : kMem} {pc i t : Nat} {ls : kLcs} {st : List Value} : kNr (kSt1 pc i ls st m t) := by
  unfold kSt1; split <;> first | exact kNr_ite kNr_go kNr_none | exact kNr_none
theorem kNr_bin {m : kMem} {f : Int32 → Int32 → Int32} {pc : Nat} {ls : kLcs} {st : List Value} : kNr (kBin f pc ls st m) := by
  unfold kBin; split <;> first | exact kNr_go | exact kNr_none
theorem kNr_binL {m : kMem} {f : Int64 → Int64 → Int64} {pc : Nat} {ls : kLcs} {st : List Value} : kNr (kBinL f pc ls st m) := by
  unfold kBinL; split <;> first | exact kNr_go | exact kNr_none
theorem kNr_un {m : kMem} {f : Int32 → Int32} {pc : Nat} {ls : kLcs} {st : List Value} : kNr (kUn f pc ls st m) := by
  unfold kUn; split <;> first | exact kNr_go | exact kNr_none
theorem kNr_get {m : kMem} {o pc idx : Nat} {ls : kLcs} {st : List Value} : kNr (kGet o pc idx ls st m) := by
  unfold kGet; split <;> first | exact kNr_ite (kNr_ite kNr_go (kNr_ite kNr_go kNr_go)) kNr_none | exact kNr_none
theorem kNr_put {m : kMem} {o pc idx : Nat} {b : Bool} {ls : kLcs} {st : List Value} : kNr (kPut o pc idx b ls st m) := by
  unfold kPut; split <;> first | exact kNr_ite kNr_go kNr_none | exact kNr_none
theorem kNr_ald {m : kMem} {pc kd : Nat} {ls : kLcs} {st : List Value} : kNr (kAld pc kd ls st m) := by
  unfold kAld; repeat' split
  all_goals first | exact kNr_go | exact kNr_none
theorem kNr_ast {m : kMem} {pc kd : Nat} {ls : kLcs} {st : List Value} : kNr (kAst pc kd ls st m) := by
  unfold kAst; repeat' split
  all_goals first | exact kNr_go | exact kNr_none
theorem kNr_aal {m : kMem} {pc : Nat} {ls : kLcs} {st : List Value} : kNr (kAaL pc ls st m) := by
  unfold kAaL; repeat' split
  all_goals first | exact kNr_go | exact kNr_none
theorem kNr_aas {m : kMem} {pc : Nat} {ls : kLcs} {st : List Value} : kNr (kAaS pc ls st m) := by
  unfold kAaS; repeat' split
  all_goals first | exact kNr_go | exact kNr_none
theorem kNr_mk {m : kMem} {pc kd : Nat} {ls : kLcs} {st : List Value} : kNr (kMk pc kd ls st m) := by
  unfold kMk; split <;> first | exact kNr_ite kNr_go kNr_none | exact kNr_none
theorem kNr_nw {m : kMem} {o pc idx : Nat} {ls : kLcs} {st : List Value} : kNr (kNw o pc idx ls st m) := by
  unfold kNw; split <;> first | exact kNr_ite kNr_go kNr_none | exact kNr_none
theorem kNr_cpy {m : kMem} {pc : Nat} {ls : kLcs} {st : List Value} : kNr (kCpy pc ls st m) := by
  unfold kCpy; repeat' split
  all_goals first | exact kNr_go | exact kNr_none
theorem kNr_len {m : kMem} {pc : Nat} {ls : kLcs} {st : List Value} : kNr (kLen pc ls st m) := by
  unfold kLen; split <;> first | exact kNr_ite kNr_go kNr_none | exact kNr_none
theorem kNr_chr {m : kMem} {pc : Nat} {ls : kLcs} {st : List Value} : kNr (kChr pc ls st m) := by
  unfold kChr; split <;> first | exact kNr_ite kNr_go kNr_none | exact kNr_none
theorem kNr_mx {m : kMem} {b : Bool} {pc : Nat} {ls : kLcs} {st : List Value} : kNr (kMx2 b pc ls st m) := by
  unfold kMx2; split <;> first | exact kNr_ite kNr_go kNr_none | exact kNr_none
theorem kNr_cs {m : kMem} {y pc y' n : Nat} {ls : kLcs} {st : List Value} : kNr (kCallS y pc y' n ls st m) := kNr_ite kNr_call kNr_none
theorem kNr_cv {m : kMem} {b : Bool} {y pc y' n : Nat} {ls : kLcs} {st : List Value} : kNr (kCallV b y pc y' n ls st m) := by
  unfold kCallV; split <;> first | exact kNr_ite kNr_call kNr_none | exact kNr_none
def kNoRet (i : ClassFile.Instr) : Bool := match i with
  | .ireturn => false
  | .lreturn => false
  | .areturn => false
  | .return_ => false
  | _ => true
theorem kst_nr {y pc len : Nat} {i : ClassFile.Instr} {ls : kLcs} {st : List Value} {m : kMem} (hi : kNoRet i = true) : kNr (kst y pc i len ls st m) := by
  unfold kst
  split
  all_goals first | (exact absurd hi Bool.false_ne_true) | (repeat' split)
  all_goals first | exact kNr_none | exact kNr_go | exact kNr_ld | exact kNr_st | exact kNr_bin | exact kNr_binL | exact kNr_un | exact kNr_jmp | exact kNr_br kNr_jmp kNr_go | exact kNr_get | exact kNr_put | exact kNr_ald | exact kNr_ast | exact kNr_aal | exact kNr_aas | exact kNr_mk | exact kNr_nw | exact kNr_cpy | exact kNr_len | exact kNr_chr | exact kNr_mx | exact kNr_cs | exact kNr_cv
theorem kst_callm {y pc len : Nat} {i : ClassFile.Instr} {ls : kLcs} {st : List Value} {m m1 : kMem} {y' pc' : Nat} {as st' : List Value} {ls' : kLcs} (h : kst y pc i len ls st m = some (.inr (.inl (y', as, pc', ls', st', m1)))) : m1 = m := by
  have cv : ∀ {b : Bool} {y2 n p2 : Nat}, kCallV b y p2 y2 n ls st m = some (.inr (.inl (y', as, pc', ls', st', m1))) → m1 = m := by
    intro b y2 n p2 h1
    unfold kCallV at h1
    split at h1
    · cases (kIf_inv h1).2; rfl
    · cases h1
  rcases kst_calls h with ⟨k, n, rfl, rfl, hk, -⟩ | ⟨b, k, n, q, rfl, rfl, hk, -⟩
  · have h1 : (match kLook (kCll (oC y)) k with
      | some (y', n) => kCallS y (pc + 3) y' n ls st m
      | none => match kLook (kPl (oC y)) k with
        | some 1 => kCpy (pc + 3) ls st m
        | some 4 => kMx2 true (pc + 3) ls st m
        | some 5 => kMx2 false (pc + 3) ls st m
        | _ => none) = some (.inr (.inl (y', as, pc', ls', st', m1))) := h
    rw [hk] at h1
    cases (kIf_inv h1).2
    rfl
  · cases b with
    | true =>
      have h : kst y pc (.invokespecial k) 3 ls st m = some (.inr (.inl (y', as, pc', ls', st', m1))) := h
      simp only [kst, if_true, hk] at h
      exact cv h
    | false =>
      have h : kst y pc (.invokevirtual k) 3 ls st m = some (.inr (.inl (y', as, pc', ls', st', m1))) := h
      simp only [kst, if_true, hk] at h
      exact cv h
/-- the locals with which a method begins -/
theorem k_slots {E : kEn} (as : List Value) : (lg_sl (as.map (kVa E))).length = (kSlots as).length := by
  induction as with
  | nil => rfl
  | cons v as ih =>
    simp only [lg_sl, kSlots, List.map_cons, List.flatMap_cons, List.length_append] at ih ⊢
    rw [ih, kVa_cat]
    split <;> rfl
theorem k_slots_at {E : kEn} : ∀ (as : List Value) (k i : Nat) (v : Value), (kSlots as)[i]? = some (some v) → (k + i, kVa E v) ∈ lv_args k (as.map (kVa E)) := by
  intro as
  induction as with
  | nil => intro k i v h; simp [kSlots] at h
  | cons w as ih =>
    intro k i v h
    simp only [List.map_cons, lv_args, kVa_cat]
    simp only [kSlots, List.flatMap_cons] at h
    by_cases hc : w.category = 2
    · rw [if_pos hc] at h ⊢
      match i, h with
      | 0, h =>
        simp at h
        subst h
        exact List.mem_cons_self
      | 1, h => simp at h
      | i + 2, h =>
        have h9 := ih (k + 2) i v (by simpa [kSlots] using h)
        rw [show k + (i + 2) = k + 2 + i by omega]
        exact List.mem_cons_of_mem _ h9
    · rw [if_neg hc] at h ⊢
      match i, h with
      | 0, h =>
        simp at h
        subst h
        exact List.mem_cons_self
      | i + 1, h =>
        have h9 := ih (k + 1) i v (by simpa [kSlots] using h)
        rw [show k + (i + 1) = k + 1 + i by omega]
        exact List.mem_cons_of_mem _ h9
theorem k_entry {E : kEn} {y : Nat} {as : List Value} (h : (kSlots as).length ≤ mL y) : kLR E ((lg_sl (as.map (kVa E)) ++ List.replicate (mL y - (lg_sl (as.map (kVa E))).length) Slot.unset).toArray) (kEnt y as) ∧ (kEnt y as).length = mL y := by
  have hlen : (kEnt y as).length = mL y := by simp [kEnt]; omega
  have h1 := lv_entry (as.map (kVa E)) (n := mL y) (by rw [k_slots]; exact h)
  refine ⟨⟨h1.1.trans hlen.symm, h1.2.1, fun i v hi => ?_⟩, hlen⟩
  have hi2 : (kSlots as)[i]? = some (some v) := by
    unfold kEnt at hi
    by_cases hl : i < (kSlots as).length
    · rwa [List.getElem?_append_left hl] at hi
    · rw [List.getElem?_append_right (by omega)] at hi
      have := List.eq_of_mem_replicate (List.mem_of_getElem? hi)
      cases this
  have h2 := k_slots_at (E := E) as 0 i v hi2
  rw [Nat.zero_add] at h2
  exact h1.2.2 _ h2
/-! a run of the machine is a run of the code -/
section KSO
variable {l : Launch} {E : kEn}
theorem kst_ret {y pc len : Nat} {i : ClassFile.Instr} {ls : kLcs} {st : List Value} {m m1 : kMem} {rv : Option Value} (h : kst y pc i len ls st m = some (.inr (.inr (rv, m1)))) :
    m1 = m ∧ ((∃ x, i = .ireturn ∧ len = 1 ∧ st = [.int x] ∧ rv = some (.int x) ∧ (mR y = some .int ∨ (mR y = some .boolean ∧ (x = 0 ∨ x = 1)))) ∨ (∃ x, i = .lreturn ∧ len = 1 ∧ st = [.long x] ∧ rv = some (.long x) ∧ mR y = some .long) ∨ (∃ x n, i = .areturn ∧ len = 1 ∧ st = [.ref x] ∧ rv = some (.ref x) ∧ mR y = some (.object n)) ∨ (i = .return_ ∧ len = 1 ∧ st = [] ∧ rv = none ∧ mR y = none)) := by
  have hn : ∀ r : Option kOut, (∀ z, ¬ r = some (.inr (.inr z))) → r = some (.inr (.inr (rv, m1))) → False := fun r h1 h2 => h1 _ h2
  cases i
  all_goals first | (have h9 : (none : Option kOut) = some (.inr (.inr (rv, m1))) := h; cases h9; done) | skip
  case ireturn =>
    obtain ⟨rfl, h1⟩ := kIf_inv h
    unfold kRet at h1
    split at h1
    · next hr =>
      obtain ⟨h2, h3⟩ := kIf_inv h1
      cases h3
      exact ⟨rfl, Or.inl ⟨_, rfl, rfl, rfl, rfl, Or.inl hr⟩⟩
    · next hr =>
      obtain ⟨h2, h3⟩ := kIf_inv h1
      cases h3
      exact ⟨rfl, Or.inl ⟨_, rfl, rfl, rfl, rfl, Or.inr ⟨hr, h2.2⟩⟩⟩
    · cases (kIf_inv h1).1
    · cases (kIf_inv h1).1
    · cases (kIf_inv h1).1
    · cases h1
  case lreturn =>
    obtain ⟨rfl, h1⟩ := kIf_inv h
    unfold kRet at h1
    split at h1
    · cases (kIf_inv h1).1
    · cases (kIf_inv h1).1.1
    · next hr =>
      obtain ⟨h2, h3⟩ := kIf_inv h1
      cases h3
      exact ⟨rfl, Or.inr (Or.inl ⟨_, rfl, rfl, rfl, rfl, hr⟩)⟩
    · cases (kIf_inv h1).1
    · cases (kIf_inv h1).1
    · cases h1
  case areturn =>
    obtain ⟨rfl, h1⟩ := kIf_inv h
    unfold kRet at h1
    split at h1
    · cases (kIf_inv h1).1
    · cases (kIf_inv h1).1.1
    · cases (kIf_inv h1).1
    · next hr =>
      obtain ⟨h2, h3⟩ := kIf_inv h1
      cases h3
      exact ⟨rfl, Or.inr (Or.inr (Or.inl ⟨_, _, rfl, rfl, rfl, rfl, hr⟩))⟩
    · cases (kIf_inv h1).1
    · cases h1
  case return_ =>
    obtain ⟨rfl, h1⟩ := kIf_inv h
    unfold kRet at h1
    split at h1
    · cases (kIf_inv h1).1
    · cases (kIf_inv h1).1.1
    · cases (kIf_inv h1).1
    · cases (kIf_inv h1).1
    · next hr =>
      obtain ⟨h2, h3⟩ := kIf_inv h1
      cases h3
      exact ⟨rfl, Or.inr (Or.inr (Or.inr ⟨rfl, rfl, rfl, rfl, hr⟩))⟩
    · cases h1
  all_goals exact absurd h (kst_nr rfl _)
/-- the run of a frame -/
theorem k_sound (hstr : kStr l E) : ∀ (n y pc : Nat) (ls : kLcs) (st : List Value) (m : kMem) (rv : Option Value) (m' : kMem), kJn n y pc ls st m (fun a b => a = rv ∧ b = m') →
    ∀ {p : Program} {e : Env} {R : Room} {s : State} {mm : MethodId} {args : Array Value} {below : List Frame} {meth : Method} {c : Code} {H : Heap} {locs : List Loc} {cells slots nx0 : Nat} {Q : State → Prop} {LS : Array Slot}, kCtx E y p R s mm meth c → kRep E m H → va_S (kA E) s.heap H locs → kLR E LS ls → ls.length = mL y → s.heap.size = eB E + nx0 → m.2.2.2 = nx0 + cells → kSlt m.2.2.2 = kSlt nx0 + slots → m'.2.2.2 ≤ nx0 + R.cells → kSlt m'.2.2.2 ≤ kSlt nx0 + R.slots →
      (∀ (H1 : Heap) (locs1 : List Loc) (LS1 : Array Slot) (cells1 slots1 pc1 len1 : Nat) (i1 : ClassFile.Instr) (ls1 : kLcs) (st1 : List Value), decode (mB y) pc1 = .ok (i1, len1) → kst y pc1 i1 len1 ls1 st1 m' = some (.inr (.inr (rv, m'))) → m'.2.2.2 = nx0 + cells1 → kSlt m'.2.2.2 = kSlt nx0 + slots1 → kRep E m' H1 → va_S (kA E) s.heap H1 locs1 → W p l e R s mm args below meth c H1 locs1 cells1 slots1 Q (F0 mm pc1 LS1 (st1.map (kVa E)))) →
      W p l e R s mm args below meth c H locs cells slots Q (F0 mm pc LS (st.map (kVa E))) := by
  intro n
  induction n with
  | zero => intro y pc ls st m rv m' h; exact h.elim
  | succ n ih =>
    intro y pc ls st m rv m' h p e R s mm args below meth c H locs cells slots nx0 Q LS C hR hS hL hll h0 hc hsl hRc hRs hret
    cases hd : decode (mB y) pc with
    | error e => rw [kJn, hd] at h; exact h.elim
    | ok r =>
      obtain ⟨i, len⟩ := r
      rw [kJn_step hd] at h
      rcases hs : kst y pc i len ls st m with _ | ⟨pc', ls', st', m1⟩ | ⟨y', as, pc', ls', st', m1⟩ | ⟨v1, m1⟩
      · rw [hs] at h; exact h.elim
      · rw [hs] at h
        have hn1 := kJn_nx n _ _ _ _ _ _ _ h
        have hn2 := kSlt_mono hn1
        exact k_step hstr C hd hs hR hS hL hll h0 hc hsl (by omega) (by omega) (fun H1 locs1 LS1 cells1 slots1 a1 a2 a3 hR1 hS1 hL1 => ih y pc' ls' st' m1 rv m' h C hR1 hS1 hL1 a1 h0 a2 a3 hRc hRs hret)
      · rw [hs] at h
        obtain ⟨v1, m2, h1, h2⟩ := kJn_out n _ _ _ _ _ _ h
        have h3 := h2 (fun a b => a = v1 ∧ b = m2) ⟨rfl, rfl⟩
        have em : m1 = m := by
          rcases kst_calls hs with hh | hh
          · exact kst_callm hs
          · exact kst_callm hs
        subst em
        have hn1 := kJn_nx n _ _ _ _ _ _ _ h3
        have hn2 := kJn_nx n _ _ _ _ _ _ _ h1
        have hn3 := kSlt_mono hn2
        refine k_call (m2 := m2) (rv := v1) C hd hs hR hS hL hll h0 hc hsl (by omega) (by omega) hn1 (fun hy hla => ?_) (fun H1 locs1 LS1 cells1 slots1 a1 a2 a3 hR1 hS1 hL1 => ih y pc' ls' (v1.toList ++ st') m2 rv m' h1 C hR1 hS1 hL1 a1 h0 a2 a3 hRc hRs hret)
        obtain ⟨q1, q2, q3, q4, q5, q6, q7⟩ := kMc y' (by omega)
        refine Met.ofW (cc := mB y') (maxL := mL y') (ret := mR y') q4 rfl ?_
        intro p' e' s' mm' args' below' meth' c' s₁ B hml hv
        obtain ⟨rfl, hF, hR0, hz0⟩ := hv
        have C' : kCtx E y' p' (headSpec [Cond.code (mN y') (mB y') (mL y') (mR y')] (kRm y' (m2.2.2.2 - m1.2.2.2) (kSlt m2.2.2.2 - kSlt m1.2.2.2))).room s' mm' meth' c' := by
          refine ⟨B.exec, B.bytes, hml, ?_, hF, fun h9 => (name_of_methodNamed B.named B.method).1.trans h9, B.returns, B.notSynchronized, Nat.le_refl _, Nat.le_refl _, q6⟩
          rw [← q1]
          exact findClass_of_methodNamed B.named
        have hl : kLR E ((lg_sl (as.map (kVa E)) ++ List.replicate (mL y' - (lg_sl (as.map (kVa E))).length) Slot.unset).toArray) (kEnt y' as) ∧ (kEnt y' as).length = mL y' := k_entry hla
        rw [lg_entry_eq]
        have h4 := kSlt_mono hn1
        refine ih y' 0 (kEnt y' as) [] m1 v1 m2 h3 (nx0 := m1.2.2.2) C' hR0 va_S.rf hl.1 hl.2 hz0 rfl rfl (by show _ ≤ m1.2.2.2 + (m2.2.2.2 - m1.2.2.2); omega) (by show _ ≤ kSlt m1.2.2.2 + (kSlt m2.2.2.2 - kSlt m1.2.2.2); omega) (fun H1 locs1 LS1 cells1 slots1 pc1 len1 i1 ls1 st1 d1 k1 e1 e2 hR1 hS1 => ?_)
        obtain ⟨-, hk⟩ := kst_ret k1
        have ec : cells1 = m2.2.2.2 - m1.2.2.2 := by omega
        have es : slots1 = kSlt m2.2.2.2 - kSlt m1.2.2.2 := by omega
        subst ec; subst es
        have hx' : p'.tables.exec = Jvm.exec := B.exec
        have hb' : c'.code = mB y' := B.bytes
        have hr' : meth'.sig.returnType = mR y' := B.returns
        have hlk' : meth'.locks = false := B.notSynchronized
        rcases hk with ⟨x, rfl, rfl, rfl, rfl, hr | ⟨hr, hx01⟩⟩ | ⟨x, rfl, rfl, rfl, rfl, hr⟩ | ⟨x, nn, rfl, rfl, rfl, rfl, hr⟩ | ⟨rfl, rfl, rfl, rfl, hr⟩
        · exact W.iret hx' hb' (hr'.trans hr) (fun t ht hW => ⟨rfl, by rw [ht]; exact hR1, hS1.F ht⟩) hS1.2.2 d1
        · refine W.zret (ty := .boolean) hx' hb' (hr'.trans hr) ?_ (fun t ht hW => ⟨rfl, by rw [ht]; exact hR1, hS1.F ht⟩) hS1.2.2 d1
          rcases hx01 with rfl | rfl <;> rfl
        · exact W.lret hx' hb' (hr'.trans hr) (fun t ht hW => ⟨rfl, by rw [ht]; exact hR1, hS1.F ht⟩) hS1.2.2 d1
        · exact W.aret hx' hb' (hr'.trans hr) (Or.inl ⟨nn, rfl⟩) (Or.inr ⟨_, rfl⟩) (fun t ht hW => ⟨rfl, by rw [ht]; exact hR1, hS1.F ht⟩) hS1.2.2 d1
        · exact W.vret hx' hb' (hr'.trans hr) (fun t ht hW => ⟨rfl, by rw [ht]; exact hR1, hS1.F ht⟩) hS1.2.2 d1
      · rw [hs] at h
        obtain ⟨rfl, rfl⟩ := h
        obtain ⟨rfl, -⟩ := kst_ret hs
        exact hret H locs LS cells slots pc len i ls st hd hs hc hsl hR hS
end KSO
