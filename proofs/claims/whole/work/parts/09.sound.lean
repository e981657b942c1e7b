/-! SOUNDNESS -/
def kOx (o : kOut) : Nat := match o with
  | .inl (_, _, _, m) => m.2.2.2
  | .inr (.inl (_, _, _, _, _, m)) => m.2.2.2
  | .inr (.inr (_, m)) => m.2.2.2
/-- no step takes a cell away -/
def kN0 (m : kMem) (r : Option kOut) : Prop := ∀ o, r = some o → m.2.2.2 ≤ kOx o
theorem kN_none {m : kMem} : kN0 m none := fun _ h => by cases h
theorem kN_go {m m' : kMem} {pc : Nat} {ls : kLcs} {st : List Value} (h : m.2.2.2 ≤ m'.2.2.2) : kN0 m (kGo pc ls st m') := fun o ho => by cases ho; exact h
theorem kN_goS {m : kMem} {pc : Nat} {ls : kLcs} {st : List Value} : kN0 m (kGo pc ls st m) := kN_go (Nat.le_refl _)
theorem kN_goF {m : kMem} {pc : Nat} {ls : kLcs} {st : List Value} : kN0 m (kGo pc ls st (kFresh m)) := kN_go (Nat.le_succ _)
theorem kN_some {m : kMem} {o : kOut} (h : m.2.2.2 ≤ kOx o) : kN0 m (some o) := fun o' ho => by cases ho; exact h
theorem kN_ite {m : kMem} {c : Prop} [Decidable c] {A B : Option kOut} (ha : kN0 m A) (hb : kN0 m B) : kN0 m (if c then A else B) := by split <;> assumption
theorem kN_jmp {m : kMem} {pc : Nat} {off : Int} {ls : kLcs} {st : List Value} : kN0 m (kJmp pc off ls st m) := kN_ite kN_goS kN_none
theorem kN_br {m : kMem} {cnd : ClassFile.Cond} {a b : Int32} {A B : Option kOut} (ha : kN0 m A) (hb : kN0 m B) : kN0 m (kBr cnd a b A B) := by
  unfold kBr
  split <;> first | exact kN_ite ha hb | exact kN_ite hb ha
theorem kN_ld {m : kMem} {pc i t : Nat} {ls : kLcs} {st : List Value} : kN0 m (kLd pc i ls st m t) := by
  unfold kLd; split <;> first | exact kN_ite kN_goS kN_none | exact kN_none
theorem kN_st {m : kMem} {pc i t : Nat} {ls : kLcs} {st : List Value} : kN0 m (kSt1 pc i ls st m t) := by
  unfold kSt1; split <;> first | exact kN_ite kN_goS kN_none | exact kN_none
theorem kN_bin {m : kMem} {f : Int32 → Int32 → Int32} {pc : Nat} {ls : kLcs} {st : List Value} : kN0 m (kBin f pc ls st m) := by
  unfold kBin; split <;> first | exact kN_goS | exact kN_none
theorem kN_binL {m : kMem} {f : Int64 → Int64 → Int64} {pc : Nat} {ls : kLcs} {st : List Value} : kN0 m (kBinL f pc ls st m) := by
  unfold kBinL; split <;> first | exact kN_goS | exact kN_none
theorem kN_un {m : kMem} {f : Int32 → Int32} {pc : Nat} {ls : kLcs} {st : List Value} : kN0 m (kUn f pc ls st m) := by
  unfold kUn; split <;> first | exact kN_goS | exact kN_none
theorem kN_get {m : kMem} {o pc idx : Nat} {ls : kLcs} {st : List Value} : kN0 m (kGet o pc idx ls st m) := by
  unfold kGet; split <;> first | exact kN_ite (kN_ite kN_goS (kN_ite kN_goS kN_goS)) kN_none | exact kN_none
theorem kN_put {m : kMem} {o pc idx : Nat} {b : Bool} {ls : kLcs} {st : List Value} : kN0 m (kPut o pc idx b ls st m) := by
  unfold kPut; split <;> first | exact kN_ite (kN_go (Nat.le_refl _)) kN_none | exact kN_none
theorem kN_ald {m : kMem} {pc kd : Nat} {ls : kLcs} {st : List Value} : kN0 m (kAld pc kd ls st m) := by
  unfold kAld; repeat' split
  all_goals first | exact kN_goS | exact kN_none
theorem kN_ast {m : kMem} {pc kd : Nat} {ls : kLcs} {st : List Value} : kN0 m (kAst pc kd ls st m) := by
  unfold kAst; repeat' split
  all_goals first | exact kN_go (Nat.le_refl _) | exact kN_none
theorem kN_aal {m : kMem} {pc : Nat} {ls : kLcs} {st : List Value} : kN0 m (kAaL pc ls st m) := by
  unfold kAaL; repeat' split
  all_goals first | exact kN_goS | exact kN_none
theorem kN_aas {m : kMem} {pc : Nat} {ls : kLcs} {st : List Value} : kN0 m (kAaS pc ls st m) := by
  unfold kAaS; repeat' split
  all_goals first | exact kN_go (Nat.le_refl _) | exact kN_none
theorem kN_mk {m : kMem} {pc kd : Nat} {ls : kLcs} {st : List Value} : kN0 m (kMk pc kd ls st m) := by
  unfold kMk; split <;> first | exact kN_ite kN_goF kN_none | exact kN_none
theorem kN_nw {m : kMem} {o pc idx : Nat} {ls : kLcs} {st : List Value} : kN0 m (kNw o pc idx ls st m) := by
  unfold kNw; split <;> first | exact kN_ite kN_goF kN_none | exact kN_none
theorem kN_cpy {m : kMem} {pc : Nat} {ls : kLcs} {st : List Value} : kN0 m (kCpy pc ls st m) := by
  unfold kCpy; repeat' split
  all_goals first | exact kN_go (Nat.le_refl _) | exact kN_none
theorem kN_len {m : kMem} {pc : Nat} {ls : kLcs} {st : List Value} : kN0 m (kLen pc ls st m) := by
  unfold kLen; split <;> first | exact kN_ite kN_goS kN_none | exact kN_none
theorem kN_chr {m : kMem} {pc : Nat} {ls : kLcs} {st : List Value} : kN0 m (kChr pc ls st m) := by
  unfold kChr; split <;> first | exact kN_ite kN_goS kN_none | exact kN_none
theorem kN_mx {m : kMem} {b : Bool} {pc : Nat} {ls : kLcs} {st : List Value} : kN0 m (kMx2 b pc ls st m) := by
  unfold kMx2; split <;> first | exact kN_ite kN_goS kN_none | exact kN_none
theorem kN_cs {m : kMem} {y pc y' n : Nat} {ls : kLcs} {st : List Value} : kN0 m (kCallS y pc y' n ls st m) := kN_ite (kN_some (Nat.le_refl _)) kN_none
theorem kN_cv {m : kMem} {b : Bool} {y pc y' n : Nat} {ls : kLcs} {st : List Value} : kN0 m (kCallV b y pc y' n ls st m) := by
  unfold kCallV; split <;> first | exact kN_ite (kN_some (Nat.le_refl _)) kN_none | exact kN_none
theorem kN_ret {m : kMem} {y t : Nat} {st : List Value} : kN0 m (kRet y st m t) := by
  unfold kRet; split <;> first | exact kN_ite (kN_some (Nat.le_refl _)) kN_none | exact kN_none
theorem kst_nx {y pc len : Nat} {i : ClassFile.Instr} {ls : kLcs} {st : List Value} {m : kMem} : kN0 m (kst y pc i len ls st m) := by
  unfold kst
  split
  all_goals (repeat' split)
  all_goals first | exact kN_none | exact kN_goS | exact kN_ld | exact kN_st | exact kN_bin | exact kN_binL | exact kN_un | exact kN_jmp | exact kN_br kN_jmp kN_goS | exact kN_get | exact kN_put | exact kN_ald | exact kN_ast | exact kN_aal | exact kN_aas | exact kN_mk | exact kN_nw | exact kN_cpy | exact kN_len | exact kN_chr | exact kN_mx | exact kN_cs | exact kN_cv | exact kN_ret
theorem kJn_nx : ∀ (n y pc : Nat) (ls : kLcs) (st : List Value) (m : kMem) (v : Option Value) (m' : kMem), kJn n y pc ls st m (fun a b => a = v ∧ b = m') → m.2.2.2 ≤ m'.2.2.2 := by
  intro n
  induction n with
  | zero => intro y pc ls st m v m' h; exact h.elim
  | succ n ih =>
    intro y pc ls st m v m' h
    cases hd : decode (mB y) pc with
    | error e => rw [kJn, hd] at h; exact h.elim
    | ok r =>
      obtain ⟨i, len⟩ := r
      rw [kJn_step hd] at h
      have hn : kN0 m (kst y pc i len ls st m) := kst_nx
      rcases hs : kst y pc i len ls st m with _ | ⟨pc', ls', st', m1⟩ | ⟨y', as, pc', ls', st', m1⟩ | ⟨v1, m1⟩
      · rw [hs] at h; exact h.elim
      · rw [hs] at h hn
        exact Nat.le_trans (hn _ rfl) (ih y pc' ls' st' m1 v m' h)
      · rw [hs] at h hn
        obtain ⟨v1, m2, h1, h2⟩ := kJn_out n _ _ _ _ _ _ h
        exact Nat.le_trans (hn _ rfl) (Nat.le_trans (ih _ _ _ _ _ v1 m2 (h2 _ ⟨rfl, rfl⟩)) (ih _ _ _ _ _ v m' h1))
      · rw [hs] at h hn
        have := hn _ rfl
        rw [← h.2]
        exact this
theorem kSlt_mono {a b : Nat} (h : a ≤ b) : kSlt a ≤ kSlt b := by
  induction h with
  | refl => exact Nat.le_refl _
  | step _ ih => exact Nat.le_trans ih (Nat.le_add_right _ _)
def kPc (E : kEn) (m : kMem) (as : List Value) : Array Value → State → Prop := fun v U => v = (as.map (kVa E)).toArray ∧ (kFix E U ∧ kRep E m U.heap ∧ U.heap.size = eB E + m.2.2.2)
def kQc (E : kEn) (rv : Option Value) (m' : kMem) : Array Value → State → Outcome → State → Prop := fun _ st oc t => oc = .returned (rv.map (kVa E)) ∧ kRep E m' t.heap ∧ va_F (kA E) st t
def kRm (y mc ms : Nat) : Room := { frames := mK y, cells := mc, slots := ms, locals := 39 * mK y }
abbrev kMt (l : Launch) (E : kEn) (y : Nat) (as : List Value) (m : kMem) (rv : Option Value) (m' : kMem) : Prop :=
  Met l (mN y) [.code (mN y) (mB y) (mL y) (mR y)] (kRm y (m'.2.2.2 - m.2.2.2) (kSlt m'.2.2.2 - kSlt m.2.2.2)) (kPc E m as) (kQc E rv m') (m'.2.2.2 - m.2.2.2) (kSlt m'.2.2.2 - kSlt m.2.2.2) (kA E)
theorem kPc_blind {E : kEn} {m : kMem} {as : List Value} : FrameBlind (kPc E m as) := by
  intro a U g mk ⟨h1, h2, h3, h4⟩
  refine ⟨h1, ?_, h3, h4⟩
  exact kFix_to h2 (State.WarmedH.refl U) (Nat.le_refl _) (fun _ _ _ => rfl)
section KSND
variable {p : Program} {l : Launch} {e : Env} {R : Room} {s : State} {mm : MethodId} {args : Array Value} {below : List Frame} {meth : Method} {c : Code} {H : Heap} {locs : List Loc} {cells slots : Nat} {Q : State → Prop}
variable {E : kEn} {y pc : Nat} {LS : Array Slot} {r : List Value} {m m' : kMem}
theorem kt_after {rv : Option Value} {mc ms : Nat} {a : Array Value} {st0 : List Value} (hr : va_Run p l e R s mm args below meth c H locs cells slots mc ms (F0 mm pc LS st0) r (kQc E rv m' a) (kA E)) (hS : va_S (kA E) s.heap H locs)
    (kk : ∀ (H1 : Heap) (locs1 : List Loc), kRep E m' H1 → va_S (kA E) s.heap H1 locs1 → W p l e R s mm args below meth c H1 locs1 (cells + mc) (slots + ms) Q (F0 mm (pc + 3) LS ((rv.map (kVa E)).toList ++ r))) : W p l e R s mm args below meth c H locs cells slots Q (F0 mm pc LS st0) := by
  intro T hT X
  obtain ⟨v, st₀, t, T', L, h0, X', hL, e1, e2, ⟨hv, hR1, hz, hk⟩, st⟩ := hr T hT X
  cases hv
  rw [h0] at hz hk
  obtain ⟨t2, a1, b1⟩ := kk T'.heap (locs ++ L) (by rw [e1]; exact hR1) ⟨Nat.le_trans hS.1 (by rw [e1]; exact hz), fun q h1 h2 => by rw [e1, hk q (Nat.lt_of_lt_of_le h1 hS.1) h2]; exact hS.2.1 q h1 h2, fun q hq => by
      rcases List.mem_append.mp hq with h | h
      · exact hS.2.2 q h
      · exact hL q h⟩ T' rfl X'
  exact ⟨t2, st t2 a1, b1⟩
theorem kt_pre (C : kCtx E y p R s mm meth c) (hR : kRep E m H) (hS : va_S (kA E) s.heap H locs) (hz : H.size = eB E + m.2.2.2) (as : List Value) : ∀ U : State, U.heap = H → s.WarmedH U.vm → kPc E m as (as.map (kVa E)).toArray U := by
  intro U hU hW
  refine ⟨rfl, kFix_to C.2.2.2.2.1 hW (by rw [hU]; exact hS.1) (fun q h1 h2 => by rw [hU]; exact hS.2.1 q h1 h2), by rw [hU]; exact hR, by rw [hU]; exact hz⟩
theorem kt_call {idx y' n mc ms : Nat} (hk : kLook (kCll (oC y)) idx = some (y', n)) (C : kCtx E y p R s mm meth c) (hmk : mK y' < mK y) : y' < 199 ∧ (mN y').cls = kOn (oC y') ∧
    (Cond.methodLink (kOn (oC y)) idx (mN y') ∈ lw_tbl → CallB R s args (kOn (oC y)) idx (mN y') (mB y') (mL y') (mR y') [.code (mN y') (mB y') (mL y') (mR y')] (kRm y' mc ms) mc ms n) ∧
    (Cond.methodLinkNest (kOn (oC y)) idx (mN y') "FrankPost" ∈ lw_tbl → va_CN R s args (kOn (oC y)) idx (mN y') "FrankPost" (mB y') (mL y') (mR y') [.code (mN y') (mB y') (mL y') (mR y')] (kRm y' mc ms) mc ms n) := by
  obtain ⟨hx, hb, hml, hown, hF, hnm, hr, hlk, hfr, hlo, hm1⟩ := id C
  obtain ⟨-, hpar, hy⟩ := kC _ _ (kLook_mem hk)
  have hy : y' < 199 := hy
  obtain ⟨q1, q2, q3, q4, q5, q6, q7⟩ := kMc y' (by omega)
  have hcode := kMw y' hy
  have hini : (Cond.initialized (mN y').cls).before args s = true := by
    rw [q1]
    exact kt_w C (kIni _ q2) rfl
  have hG : GoodIn (lw_tbl.filter goodWord) [Cond.code (mN y') (mB y') (mL y') (mR y')] := by
    intro w hw
    rw [List.mem_singleton] at hw
    subst hw
    exact ⟨List.mem_filter.mpr ⟨hcode, rfl⟩, Or.inl rfl⟩
  have hRm : (kRm y' mc ms).frames + 1 ≤ R.frames ∧ 8 + (mL y' + 11) + (kRm y' mc ms).locals ≤ R.locals := by
    show mK y' + 1 ≤ R.frames ∧ 8 + (mL y' + 11) + 39 * mK y' ≤ R.locals
    omega
  refine ⟨hy, q1, fun hw => ?_, fun hw => ?_⟩
  · exact callB_of n (kt_wd C) hG rfl rfl rfl hini (kt_w C hw rfl) ⟨q5.1, q5.2, hpar⟩ hRm
  · exact va_cnB n (kt_wd C) hG rfl rfl rfl (hF.2.1 _ hw rfl) hini ⟨q5.1, q5.2, hpar⟩ hRm
end KSND
