/-! THE TWO MEMBERS OF String, over the six constants -/
def jP (E : kEn) (as : List Value) : Array Value → State → Prop := fun v U => v = as.toArray ∧ kFix E U
def jQ (rv : Option Value) : Array Value → State → Outcome → State → Prop := fun _ st oc t => oc = .returned rv ∧ t.heap = st.heap
def jRm (k : Nat) : Room := { frames := k, cells := 0, slots := 0, locals := 39 * k }
abbrev jMt (l : Launch) (E : kEn) (y : MethodName) (b : ByteArray) (n : Nat) (ret : Option FieldType) (k : Nat) (as : List Value) (rv : Option Value) : Prop :=
  Met l y [.code y b n ret] (jRm k) (jP E as) (jQ rv) 0 0 (kA E)
theorem jP_blind {E : kEn} {as : List Value} : FrameBlind (jP E as) := by
  intro a U g mk ⟨h1, h2⟩
  exact ⟨h1, kFix_to h2 (State.WarmedH.refl U) (Nat.le_refl _) (fun _ _ _ => rfl)⟩
def jCx (E : kEn) (own : String) (b : ByteArray) (n : Nat) (ret : Option FieldType) (k : Nat) (p : Program) (R : Room) (s : State) (mm : MethodId) (meth : Method) (c : Code) : Prop :=
  p.tables.exec = Jvm.exec ∧ c.code = b ∧ c.maxLocals = n ∧ s.vm.findClass own = some mm.cls ∧ kFix E s ∧ meth.sig.returnType = ret ∧ meth.locks = false ∧ k ≤ R.frames ∧ 39 * k ≤ R.locals
theorem jt_met {l : Launch} {E : kEn} {y : MethodName} {b : ByteArray} {n k : Nat} {ret : Option FieldType} {as : List Value} {rv : Option Value} (hp : plainName y.cls = true) (hl : (lg_sl as).length ≤ n)
    (body : ∀ (p : Program) (e : Env) (s : State) (mm : MethodId) (args : Array Value) (below : List Frame) (meth : Method) (c : Code) (LS : Array Slot), jCx E y.cls b n ret k p (jRm k) s mm meth c → lv_has LS n (lv_args 0 as) → W p l e (jRm k) s mm args below meth c s.heap [] 0 0 (MQ below (jQ rv) args s 0 0 (kA E)) (F0 mm 0 LS [])) : jMt l E y b n ret k as rv := by
  refine Met.ofW (cc := b) (maxL := n) (ret := ret) hp rfl ?_
  intro p e s mm args below meth c s₁ B hml hv
  obtain ⟨rfl, hF⟩ := hv
  rw [lg_entry_eq]
  exact body p e s mm _ below meth c _ ⟨B.exec, B.bytes, hml, findClass_of_methodNamed B.named, hF, B.returns, B.notSynchronized, Nat.le_refl _, Nat.le_refl _⟩ (lv_entry as hl)
section JS
variable {p : Program} {l : Launch} {e : Env} {R : Room} {s : State} {mm : MethodId} {args : Array Value} {below : List Frame} {meth : Method} {c : Code} {H : Heap} {locs : List Loc} {cells slots : Nat} {Q : State → Prop}
variable {E : kEn} {pc : Nat} {LS : Array Slot} {r : List Value}
theorem jw (hF : kFix E s) {w : Cond} (hw : w ∈ lw_tbl) (hg : goodWord w = true) : w.before args s = true := hF.1 w hw hg args
theorem jt_after {rv : Option Value} {a : Array Value} {st0 : List Value} (hr : va_Run p l e R s mm args below meth c H locs cells slots 0 0 (F0 mm pc LS st0) r (jQ rv a) (kA E)) (hS : va_S (kA E) s.heap H locs)
    (kk : ∀ locs1 : List Loc, va_S (kA E) s.heap H locs1 → W p l e R s mm args below meth c H locs1 cells slots Q (F0 mm (pc + 3) LS (rv.toList ++ r))) : W p l e R s mm args below meth c H locs cells slots Q (F0 mm pc LS st0) := by
  intro T hT X
  obtain ⟨v, st₀, t, T', L, h0, X', hL, e1, e2, ⟨hv, hh⟩, st⟩ := hr T hT X
  cases hv
  obtain ⟨t2, a1, b1⟩ := kk (locs ++ L) ⟨hS.1, hS.2.1, fun q hq => by
      rcases List.mem_append.mp hq with h | h
      · exact hS.2.2 q h
      · exact hL q h⟩ T' (by rw [e1, hh, h0]) X'
  exact ⟨t2, st t2 a1, b1⟩
theorem jt_pre (hF : kFix E s) (hS : va_S (kA E) s.heap H locs) (as : List Value) : ∀ U : State, U.heap = H → s.WarmedH U.vm → jP E as as.toArray U := by
  intro U hU hW
  exact ⟨rfl, kFix_to hF hW (by rw [hU]; exact hS.1) (fun q h1 h2 => by rw [hU]; exact hS.2.1 q h1 h2)⟩
variable {own : String} {b b' : ByteArray} {n n' k k' idx na : Nat} {ret ret' : Option FieldType} {y' : MethodName} {rv : Option Value}
theorem jt_wd (C : jCx E own b n ret k p R s mm meth c) : ∀ w ∈ lw_tbl.filter goodWord, w.before args s = true := fun w hw => C.2.2.2.2.1.1 w (List.mem_filter.mp hw).1 (List.mem_filter.mp hw).2 args
theorem jt_B (C : jCx E own b n ret k p R s mm meth c) (hk : k' < k) (hn : n' ≤ 20) (hc : Cond.code y' b' n' ret' ∈ lw_tbl) (hi : Cond.initialized y'.cls ∈ lw_tbl) (hl : Cond.methodLink own idx y' ∈ lw_tbl) (hd : y'.cls ≠ "java/lang/invoke/MethodHandle" ∧ y'.cls ≠ "java/lang/invoke/VarHandle" ∧ (parseMethodDescriptor y'.desc).map (fun d => d.parameters.length) = some na) :
    CallB R s args own idx y' b' n' ret' [.code y' b' n' ret'] (jRm k') 0 0 na := by
  have hF := C.2.2.2.2.1
  have hfr : k ≤ R.frames := C.2.2.2.2.2.2.2.1
  have hlo : 39 * k ≤ R.locals := C.2.2.2.2.2.2.2.2
  have hG : GoodIn (lw_tbl.filter goodWord) [Cond.code y' b' n' ret'] := by
    intro w hw
    rw [List.mem_singleton] at hw
    subst hw
    exact ⟨List.mem_filter.mpr ⟨hc, rfl⟩, Or.inl rfl⟩
  refine callB_of na (jt_wd C) hG rfl rfl rfl (jw hF hi rfl) (jw hF hl rfl) hd ?_
  show k' + 1 ≤ R.frames ∧ 8 + (n' + 11) + 39 * k' ≤ R.locals
  omega
theorem jt_V {a : Nat} {as : List Value} (C : jCx E own b n ret k p R s mm meth c) (hM : jMt l E y' b' n' ret' k' (.ref a :: as) rv) (hB : CallB R s args own idx y' b' n' ret' [.code y' b' n' ret'] (jRm k') 0 0 as.length) (hin : Cond.instanceMethod y' ∈ lw_tbl) (hse : Cond.selects y'.cls y' y' ∈ lw_tbl)
    (hrecv : ∃ cell : Cell, H[a]? = some cell ∧ cell.vm.isStatics = false ∧ s.vm.findClass y'.cls = some cell.cls) (hS : va_S (kA E) s.heap H locs) (hLS : LS.size = n) (hsum : (r.map fun v => v.category).sum ≤ 8) (hcc : cells ≤ R.cells) (hss : slots ≤ R.slots) (hd : decode b pc = .ok (.invokevirtual idx, 3))
    (kk : ∀ locs1 : List Loc, va_S (kA E) s.heap H locs1 → W p l e R s mm args below meth c H locs1 cells slots Q (F0 mm (pc + 3) LS (rv.toList ++ r))) : W p l e R s mm args below meth c H locs cells slots Q (F0 mm pc LS (as.reverse ++ .ref a :: r)) :=
  jt_after (va_runV (b := a) (As := as) (rest := r) ⟨C.1, C.2.1, C.2.2.1, C.2.2.2.1, jt_wd C⟩ hM ⟨hB, jw C.2.2.2.2.1 hin rfl, jw C.2.2.2.2.1 hse rfl⟩ ⟨jP_blind, hrecv, jt_pre C.2.2.2.2.1 hS _⟩ rfl rfl hLS rfl (by show 2 * 0 + _ ≤ 8; omega) hd ⟨hcc, hss⟩) hS kk
theorem jt_S {as : List Value} (C : jCx E own b n ret k p R s mm meth c) (hM : jMt l E y' b' n' ret' k' as rv) (hB : CallB R s args own idx y' b' n' ret' [.code y' b' n' ret'] (jRm k') 0 0 as.length) (hst : Cond.static y' ∈ lw_tbl)
    (hS : va_S (kA E) s.heap H locs) (hLS : LS.size = n) (hsum : (r.map fun v => v.category).sum ≤ 8) (hcc : cells ≤ R.cells) (hss : slots ≤ R.slots) (hd : decode b pc = .ok (.invokestatic idx, 3))
    (kk : ∀ locs1 : List Loc, va_S (kA E) s.heap H locs1 → W p l e R s mm args below meth c H locs1 cells slots Q (F0 mm (pc + 3) LS (rv.toList ++ r))) : W p l e R s mm args below meth c H locs cells slots Q (F0 mm pc LS (as.reverse ++ r)) :=
  jt_after (va_runS (As := as) (rest := r) ⟨C.1, C.2.1, C.2.2.1, C.2.2.2.1, jt_wd C⟩ hM ⟨hB, jw C.2.2.2.2.1 hst rfl⟩ ⟨jP_blind, jt_pre C.2.2.2.2.1 hS _⟩ rfl rfl hLS rfl (by show 2 * 0 + _ ≤ 8; omega) hd ⟨hcc, hss⟩) hS kk
end JS
def yLe : MethodName := ⟨"java/lang/String", "length", "()I"⟩
def yCh : MethodName := ⟨"java/lang/String", "charAt", "(I)C"⟩
def yCo : MethodName := ⟨"java/lang/String", "coder", "()B"⟩
def yIs : MethodName := ⟨"java/lang/String", "isLatin1", "()Z"⟩
def yCk : MethodName := ⟨"java/lang/String", "checkIndex", "(II)V"⟩
def yLa : MethodName := ⟨"java/lang/StringLatin1", "charAt", "([BI)C"⟩
def yPr : MethodName := ⟨"jdk/internal/util/Preconditions", "checkIndex", "(IILjava/util/function/BiFunction;)I"⟩
theorem jLen : ∀ i, i < 6 → kLens.getD i 0 = (kTx i).length ∧ nI (kTx i).length >>> ((0 : Int32) &&& 31) = nI (kTx i).length ∧ (kTx i).length ≤ 6 := by decide +kernel
theorem jByt : ∀ i, i < 6 → kByts.getD i [] = kTx i := by decide +kernel
theorem jChr : ∀ i, i < 6 → ∀ j, j < 6 → ((((kTx i).getD j 0) &&& 255).toUInt32 % 65536).toInt32 = (kTx i).getD j 0 ∧ ((kTx i).getD j 0).toUInt32.toUInt16.toUInt32.toInt32 = (kTx i).getD j 0 := by decide +kernel
section JM
variable {l : Launch} {E : kEn} {i : Nat}
theorem j_coder (hi : i < 6) : jMt l E yCo prog_10_method_152_code 1 (some .byte) 1 [.ref (eK E i)] (some (.int 0)) := by
  refine jt_met (by decide) (Nat.le_of_eq rfl) ?_
  intro p e s mm args below meth c LS C hl
  have hF := C.2.2.2.2.1
  have hS : va_S (kA E) s.heap s.heap [] := va_S.rf
  have l0 : LS[0]? = some (.val (.ref (eK E i))) := hl.2.2 (0, _) List.mem_cons_self
  refine va_gets C.1 C.2.1 (own := "java/lang/String") (ref := "java/lang/String") (index := 38) hF.2.2.2.2.2.1.2.1 hS C.2.2.2.1 (jw hF (kw_in 355 (by decide +kernel)) rfl) (fun _ h => h) (by decide +kernel) ?_
  refine lv_if_eq C.1 C.2.1 (off := 10) (tgt := 13) (by decide +kernel) (by decide) (fun h => absurd h (by decide)) (fun _ => ?_)
  refine lv_aload_n C.1 C.2.1 (k := 0) (i := 0) (by decide +kernel) rfl l0 ?_
  refine vk_getf C.1 C.2.1 (own := "java/lang/String") (ref := "java/lang/String") (index := 15) (hF.2.2.2.2.2.1.1.1 i hi).2.1 hS C.2.2.2.1 (jw hF (kw_in 1225 (by decide +kernel)) rfl) (fun _ h => h) (by decide +kernel) ?_
  refine lv_goto C.1 C.2.1 (off := 4) (tgt := 14) (by decide +kernel) (by decide) ?_
  exact W.zret (ty := .byte) C.1 C.2.1 C.2.2.2.2.2.1 rfl (fun t ht _ => ⟨rfl, ht⟩) (fun q h => by cases h) (by decide +kernel) C.2.2.2.2.2.2.1
theorem j_latin (hi : i < 6) : jMt l E yIs prog_10_method_154_code 1 (some .boolean) 1 [.ref (eK E i)] (some (.int 1)) := by
  refine jt_met (by decide) (Nat.le_of_eq rfl) ?_
  intro p e s mm args below meth c LS C hl
  have hF := C.2.2.2.2.1
  have hS : va_S (kA E) s.heap s.heap [] := va_S.rf
  have l0 : LS[0]? = some (.val (.ref (eK E i))) := hl.2.2 (0, _) List.mem_cons_self
  refine va_gets C.1 C.2.1 (own := "java/lang/String") (ref := "java/lang/String") (index := 38) hF.2.2.2.2.2.1.2.1 hS C.2.2.2.1 (jw hF (kw_in 355 (by decide +kernel)) rfl) (fun _ h => h) (by decide +kernel) ?_
  refine lv_if_eq C.1 C.2.1 (off := 14) (tgt := 17) (by decide +kernel) (by decide) (fun h => absurd h (by decide)) (fun _ => ?_)
  refine lv_aload_n C.1 C.2.1 (k := 0) (i := 0) (by decide +kernel) rfl l0 ?_
  refine vk_getf C.1 C.2.1 (own := "java/lang/String") (ref := "java/lang/String") (index := 15) (hF.2.2.2.2.2.1.1.1 i hi).2.1 hS C.2.2.2.1 (jw hF (kw_in 1225 (by decide +kernel)) rfl) (fun _ h => h) (by decide +kernel) ?_
  refine lv_if_ne C.1 C.2.1 (off := 7) (tgt := 17) (by decide +kernel) (by decide) (fun h => absurd rfl h) (fun _ => ?_)
  refine lv_iconst C.1 C.2.1 (n := 1) (v := 1) (by decide +kernel) rfl ?_
  refine lv_goto C.1 C.2.1 (off := 4) (tgt := 18) (by decide +kernel) (by decide) ?_
  exact W.zret (ty := .boolean) C.1 C.2.1 C.2.2.2.2.2.1 rfl (fun t ht _ => ⟨rfl, ht⟩) (fun q h => by cases h) (by decide +kernel) C.2.2.2.2.2.2.1
theorem j_length (hi : i < 6) : jMt l E yLe prog_10_method_54_code 1 (some .int) 2 [.ref (eK E i)] (some (.int (nI (kTx i).length))) := by
  refine jt_met (by decide) (Nat.le_of_eq rfl) ?_
  intro p e s mm args below meth c LS C hl
  have hF := C.2.2.2.2.1
  have hS : va_S (kA E) s.heap s.heap [] := va_S.rf
  have l0 : LS[0]? = some (.val (.ref (eK E i))) := hl.2.2 (0, _) List.mem_cons_self
  obtain ⟨e1, e2, e3⟩ := jLen i hi
  refine lv_aload_n C.1 C.2.1 (k := 0) (i := 0) (by decide +kernel) rfl l0 ?_
  refine vk_getf C.1 C.2.1 (own := "java/lang/String") (ref := "java/lang/String") (index := 9) (hF.2.2.2.2.2.1.1.1 i hi).2.2.1 hS C.2.2.2.1 (jw hF (kw_in 1224 (by decide +kernel)) rfl) (fun _ h => h) (by decide +kernel) ?_
  refine va_tlen C.1 C.2.1 (hF.2.2.2.2.2.1.1.1 i hi).2.2.2 hS (v := nI (kTx i).length) (by rw [e1]; rfl) (by decide +kernel) ?_
  refine lv_aload_n C.1 C.2.1 (k := 0) (i := 0) (by decide +kernel) rfl l0 ?_
  refine jt_V (as := []) (r := [.int (nI (kTx i).length)]) (idx := 335) C (j_coder hi) (jt_B C (by decide) (by decide) (kw_in 354 rfl) (kw_in 68 (by decide +kernel)) (kw_in 351 (by decide +kernel)) ⟨by decide, by decide, by decide +kernel⟩) (kw_in 352 (by decide +kernel)) (kw_in 353 (by decide +kernel)) (vk_recv hF.2.2.2.2.2.1.1 hi hS) hS hl.1 (by show 1 ≤ 8; decide) (Nat.zero_le _) (Nat.zero_le _) (by decide +kernel) (fun locs1 hS1 => ?_)
  refine lv_ishr C.1 C.2.1 (by decide +kernel) ?_
  rw [e2]
  exact W.iret C.1 C.2.1 C.2.2.2.2.2.1 (fun t ht _ => ⟨rfl, ht⟩) hS1.2.2 (by decide +kernel) C.2.2.2.2.2.2.1
theorem j_prec {x n : Int32} {v : Value} (hv : v = .null ∨ ∃ t, v = .ref t) (h0 : ¬ x < 0) (h1 : x < n) : jMt l E yPr prog_14_method_11_code 3 (some .int) 1 [.int x, .int n, v] (some (.int x)) := by
  have hc : v.category = 1 := by
    rcases hv with rfl | ⟨t, rfl⟩ <;> rfl
  refine jt_met (by decide) (by rcases hv with rfl | ⟨t, rfl⟩ <;> exact Nat.le_of_eq rfl) ?_
  intro p e s mm args below meth c LS C hl
  have l0 : LS[0]? = some (.val (.int x)) := hl.2.2 (0, _) List.mem_cons_self
  have l1 : LS[1]? = some (.val (.int n)) := hl.2.2 (1, _) (List.mem_cons_of_mem _ List.mem_cons_self)
  refine lv_iload_n C.1 C.2.1 (k := 0) (i := 0) (by decide +kernel) rfl l0 ?_
  refine lv_if_lt C.1 C.2.1 (off := 8) (tgt := 9) (by decide +kernel) (by decide) (fun h => absurd h h0) (fun _ => ?_)
  refine lv_iload_n C.1 C.2.1 (k := 0) (i := 0) (by decide +kernel) rfl l0 ?_
  refine lv_iload_n C.1 C.2.1 (k := 1) (i := 1) (by decide +kernel) rfl l1 ?_
  refine lv_icmp_lt C.1 C.2.1 (off := 10) (tgt := 16) (by decide +kernel) (by decide) (fun _ => ?_) (fun h => absurd h1 h)
  refine lv_iload_n C.1 C.2.1 (k := 0) (i := 0) (by decide +kernel) rfl l0 ?_
  exact W.iret C.1 C.2.1 C.2.2.2.2.2.1 (fun t ht _ => ⟨rfl, ht⟩) (fun q h => by cases h) (by decide +kernel) C.2.2.2.2.2.2.1
theorem j_check {x n : Int32} (h0 : ¬ x < 0) (h1 : x < n) : jMt l E yCk prog_10_method_155_code 2 none 2 [.int x, .int n] none := by
  refine jt_met (by decide) (Nat.le_of_eq rfl) ?_
  intro p e s mm args below meth c LS C hl
  have hF := C.2.2.2.2.1
  have hS : va_S (kA E) s.heap s.heap [] := va_S.rf
  have l0 : LS[0]? = some (.val (.int x)) := hl.2.2 (0, _) List.mem_cons_self
  have l1 : LS[1]? = some (.val (.int n)) := hl.2.2 (1, _) (List.mem_cons_of_mem _ List.mem_cons_self)
  refine lv_iload_n C.1 C.2.1 (k := 0) (i := 0) (by decide +kernel) rfl l0 ?_
  refine lv_iload_n C.1 C.2.1 (k := 1) (i := 1) (by decide +kernel) rfl l1 ?_
  have hz : ∃ v : Value, (v = .null ∨ ∃ t, v = .ref t) ∧ va_Z "jdk/internal/util/Preconditions" "SIOOBE_FORMATTER" "Ljava/util/function/BiFunction;" v (kA E) s s.heap := by
    rcases hF.2.2.2.2.2.1.2.2 with h | ⟨t, h⟩
    · exact ⟨_, Or.inl rfl, h⟩
    · exact ⟨_, Or.inr ⟨t, rfl⟩, h⟩
  obtain ⟨v, hv, hZ⟩ := hz
  refine va_gets C.1 C.2.1 (own := "java/lang/String") (ref := "jdk/internal/util/Preconditions") (index := 1053) hZ hS C.2.2.2.1 (jw hF (kw_in 371 (by decide +kernel)) rfl) (fun _ h => h) (by decide +kernel) ?_
  refine jt_S (as := [.int x, .int n, v]) (r := []) (idx := 1059) C (j_prec hv h0 h1) (jt_B C (by decide) (by decide) (kw_in 375 rfl) (kw_in 70 (by decide +kernel)) (kw_in 373 (by decide +kernel)) ⟨by decide, by decide, by show _ = some 3; decide +kernel⟩) (kw_in 374 (by decide +kernel)) hS hl.1 (Nat.zero_le _) (Nat.zero_le _) (Nat.zero_le _) (by decide +kernel) (fun locs1 hS1 => ?_)
  refine lv_pop C.1 C.2.1 (by decide +kernel) rfl ?_
  exact W.vret C.1 C.2.1 C.2.2.2.2.2.1 (fun t ht _ => ⟨rfl, ht⟩) hS1.2.2 (by decide +kernel) C.2.2.2.2.2.2.1
theorem j_lat {x : Int32} (hi : i < 6) (hin : vp_in x (kTx i).length) : jMt l E yLa prog_11_method_2_code 2 (some .char) 3 [.ref (eV E i), .int x] (some (.int ((kTx i).getD x.toNatClampNeg 0))) := by
  refine jt_met (by decide) (Nat.le_of_eq rfl) ?_
  intro p e s mm args below meth c LS C hl
  have hF := C.2.2.2.2.1
  have hS : va_S (kA E) s.heap s.heap [] := va_S.rf
  have l0 : LS[0]? = some (.val (.ref (eV E i))) := hl.2.2 (0, _) List.mem_cons_self
  have l1 : LS[1]? = some (.val (.int x)) := hl.2.2 (1, _) (List.mem_cons_of_mem _ List.mem_cons_self)
  obtain ⟨e1, e2, e3⟩ := jLen i hi
  have hT := (hF.2.2.2.2.2.1.1.1 i hi).2.2.2
  rw [jByt i hi, e1] at hT
  have hx0 : ¬ x < 0 := fun h => hin (Or.inl h)
  have hxl : x.toNatClampNeg < (kTx i).length := Nat.not_le.mp fun h => hin (Or.inr h)
  have hx1 : x < nI (kTx i).length := by
    obtain ⟨j, hj, rfl⟩ := vp_in_of hin (by omega)
    have h6 : (kTx i).length ≤ 6 := e3
    have hn : (nI (kTx i).length).toInt = (kTx i).length := Int32.toInt_ofNat_of_lt (by omega)
    have hm : (nI j).toInt = j := Int32.toInt_ofNat_of_lt (by omega)
    rw [Int32.lt_iff_toInt_lt, hn, hm]
    omega
  obtain ⟨c1, c2⟩ := jChr i hi x.toNatClampNeg (by omega)
  refine lv_iload_n C.1 C.2.1 (k := 1) (i := 1) (by decide +kernel) rfl l1 ?_
  refine lv_aload_n C.1 C.2.1 (k := 0) (i := 0) (by decide +kernel) rfl l0 ?_
  refine va_tlen C.1 C.2.1 hT hS (v := nI (kTx i).length) rfl (by decide +kernel) ?_
  refine jt_S (as := [.int x, .int (nI (kTx i).length)]) (r := []) (idx := 9) C (j_check hx0 hx1) (jt_B C (by decide) (by decide) (kw_in 370 rfl) (kw_in 68 (by decide +kernel)) (kw_in 368 (by decide +kernel)) ⟨by decide, by decide, by show _ = some 2; decide +kernel⟩) (kw_in 369 (by decide +kernel)) hS hl.1 (Nat.zero_le _) (Nat.zero_le _) (Nat.zero_le _) (by decide +kernel) (fun locs1 hS1 => ?_)
  refine lv_aload_n C.1 C.2.1 (k := 0) (i := 0) (by decide +kernel) rfl l0 ?_
  refine lv_iload_n C.1 C.2.1 (k := 1) (i := 1) (by decide +kernel) rfl l1 ?_
  refine va_tb C.1 C.2.1 hT hS1 hin rfl (by decide +kernel) ?_
  refine lv_sipush C.1 C.2.1 (n := 255) (v := 255) (by decide +kernel) rfl ?_
  refine lv_iand C.1 C.2.1 (by decide +kernel) ?_
  refine lv_i2c C.1 C.2.1 (v := (kTx i).getD x.toNatClampNeg 0) (by decide +kernel) c1 ?_
  exact W.zret (ty := .char) C.1 C.2.1 C.2.2.2.2.2.1 (congrArg Value.int c2) (fun t ht _ => ⟨rfl, ht⟩) hS1.2.2 (by decide +kernel) C.2.2.2.2.2.2.1
theorem j_chr {x : Int32} (hi : i < 6) (hin : vp_in x (kTx i).length) : jMt l E yCh prog_10_method_56_code 2 (some .char) 4 [.ref (eK E i), .int x] (some (.int ((kTx i).getD x.toNatClampNeg 0))) := by
  refine jt_met (by decide) (Nat.le_of_eq rfl) ?_
  intro p e s mm args below meth c LS C hl
  have hF := C.2.2.2.2.1
  have hS : va_S (kA E) s.heap s.heap [] := va_S.rf
  have l0 : LS[0]? = some (.val (.ref (eK E i))) := hl.2.2 (0, _) List.mem_cons_self
  have l1 : LS[1]? = some (.val (.int x)) := hl.2.2 (1, _) (List.mem_cons_of_mem _ List.mem_cons_self)
  obtain ⟨e1, e2, e3⟩ := jLen i hi
  have hxl : x.toNatClampNeg < (kTx i).length := Nat.not_le.mp fun h => hin (Or.inr h)
  obtain ⟨c1, c2⟩ := jChr i hi x.toNatClampNeg (by omega)
  refine lv_aload_n C.1 C.2.1 (k := 0) (i := 0) (by decide +kernel) rfl l0 ?_
  refine jt_V (as := []) (r := []) (idx := 492) C (j_latin hi) (jt_B C (by decide) (by decide) (kw_in 364 rfl) (kw_in 68 (by decide +kernel)) (kw_in 361 (by decide +kernel)) ⟨by decide, by decide, by decide +kernel⟩) (kw_in 362 (by decide +kernel)) (kw_in 363 (by decide +kernel)) (vk_recv hF.2.2.2.2.2.1.1 hi hS) hS hl.1 (Nat.zero_le _) (Nat.zero_le _) (Nat.zero_le _) (by decide +kernel) (fun locs1 hS1 => ?_)
  refine lv_if_eq C.1 C.2.1 (off := 12) (tgt := 16) (by decide +kernel) (by decide) (fun h => absurd h (by decide)) (fun _ => ?_)
  refine lv_aload_n C.1 C.2.1 (k := 0) (i := 0) (by decide +kernel) rfl l0 ?_
  refine vk_getf C.1 C.2.1 (own := "java/lang/String") (ref := "java/lang/String") (index := 9) (hF.2.2.2.2.2.1.1.1 i hi).2.2.1 hS1 C.2.2.2.1 (jw hF (kw_in 1224 (by decide +kernel)) rfl) (fun _ h => h) (by decide +kernel) ?_
  refine lv_iload_n C.1 C.2.1 (k := 1) (i := 1) (by decide +kernel) rfl l1 ?_
  refine jt_S (as := [.ref (eV E i), .int x]) (r := []) (idx := 495) C (j_lat hi hin) (jt_B C (by decide) (by decide) (kw_in 367 rfl) (kw_in 69 (by decide +kernel)) (kw_in 365 (by decide +kernel)) ⟨by decide, by decide, by show _ = some 2; decide +kernel⟩) (kw_in 366 (by decide +kernel)) hS1 hl.1 (Nat.zero_le _) (Nat.zero_le _) (Nat.zero_le _) (by decide +kernel) (fun locs2 hS2 => ?_)
  exact W.zret (ty := .char) C.1 C.2.1 C.2.2.2.2.2.1 (congrArg Value.int c2) (fun t ht _ => ⟨rfl, ht⟩) hS2.2.2 (by decide +kernel) C.2.2.2.2.2.2.1
end JM
/-! who calls them: only nameIs, which has the frames for it -/
theorem jRun {α : Type} (f : Nat → ClassFile.Decoder α) {b : ByteArray} {pc : Nat} (h : b.size ≤ pc) : ClassFile.Reader.runAt (ClassFile.Reader.u1 >>= f) b pc = .error (.truncated pc) := by
  have hu : (ClassFile.Reader.u1 : ClassFile.Decoder Nat) b pc = .error (.truncated pc) := by
    show (dite (pc < b.size) (fun _ => (_ : ClassFile.Decoder Nat)) (fun _ => (_ : ClassFile.Decoder Nat))) b pc = _
    rw [dif_neg (Nat.not_lt.mpr h)]
    rfl
  show (((ClassFile.Reader.u1 : ClassFile.Decoder Nat) b pc) >>= fun q => f q.1 b q.2) = _
  rw [hu]
  rfl
theorem jDec {b : ByteArray} {pc : Nat} (h : b.size ≤ pc) : decode b pc = .error (.truncated pc) := by
  unfold decode ClassFile.Decoder.instr
  rw [jRun _ h]
  rfl
def jOk (b : ByteArray) (pc : Nat) : Bool := match decode b pc with
  | .ok (.invokevirtual k, _) => k != 159 && k != 163
  | _ => true
theorem jAll : ∀ y, y < 50 → 35 ≤ y → ∀ pc, pc < (mB y).size → jOk (mB y) pc = true := by decide +kernel
theorem jPl {o idx t : Nat} (ht : t = 2 ∨ t = 3) (h : kLook (kPl o) idx = some t) : o = 3 ∧ (idx = 159 ∨ idx = 163) := by
  have h1 := kLook_mem h
  unfold kPl at h1
  split at h1 <;> simp at h1 <;> omega
theorem jOc : ∀ y, y < 200 → oC y = 3 → 35 ≤ y ∧ y ≤ 50 := by decide +kernel
theorem jMk {y idx t pc : Nat} (ht : t = 2 ∨ t = 3) (h : kLook (kPl (oC y)) idx = some t) (hd : decode (mB y) pc = .ok (.invokevirtual idx, 3)) : y = 50 := by
  obtain ⟨h3, hi⟩ := jPl ht h
  have hy : y < 200 := by
    apply Classical.byContradiction
    intro h9
    have e9 : oC y = 99 := by
      unfold oC
      rw [List.getD_eq_getElem?_getD, List.getElem?_eq_none (by show 200 ≤ y; omega)]
      rfl
    omega
  obtain ⟨g1, g2⟩ := jOc y hy h3
  apply Classical.byContradiction
  intro hne
  by_cases hp : pc < (mB y).size
  · have h9 := jAll y (by omega) g1 pc hp
    unfold jOk at h9
    rw [hd] at h9
    rcases hi with rfl | rfl <;> simp at h9
  · rw [jDec (Nat.not_lt.mp hp)] at hd
    cases hd
theorem k_str (l : Launch) (E : kEn) : kStr l E := by
  refine ⟨?_, ?_⟩
  · intro p e R s mm args below meth c H locs cells slots Q y pc idx i LS r C hS hcc hss hLS hk hi hsum hd kk
    have hy := jMk (Or.inl rfl) hk hd
    subst hy
    obtain ⟨hx, hb, hml, hown, hF, hnm, hr, hlk, hfr, hlo, hm1⟩ := id C
    have D : jCx E (kOn (oC 50)) (mB 50) (mL 50) (mR 50) 6 p R s mm meth c := ⟨hx, hb, hml, hown, hF, hr, hlk, hfr, hlo⟩
    have hw : Cond.methodLink (kOn (oC 50)) idx yLe ∈ lw_tbl := kP _ _ (kLook_mem hk)
    exact jt_V (as := []) (r := r) D (j_length hi) (jt_B D (by decide) (by decide) (kw_in 350 rfl) (kw_in 68 (by decide +kernel)) hw ⟨by decide, by decide, by decide +kernel⟩) (kw_in 348 (by decide +kernel)) (kw_in 349 (by decide +kernel)) (vk_recv hF.2.2.2.2.2.1.1 hi hS) hS hLS hsum hcc hss hd (fun locs1 hS1 => kk H locs1 rfl hS1)
  · intro p e R s mm args below meth c H locs cells slots Q y pc idx i k LS r C hS hcc hss hLS hk hi hin hsum hd kk
    have hy := jMk (Or.inr rfl) hk hd
    subst hy
    obtain ⟨hx, hb, hml, hown, hF, hnm, hr, hlk, hfr, hlo, hm1⟩ := id C
    have D : jCx E (kOn (oC 50)) (mB 50) (mL 50) (mR 50) 6 p R s mm meth c := ⟨hx, hb, hml, hown, hF, hr, hlk, hfr, hlo⟩
    have hw : Cond.methodLink (kOn (oC 50)) idx yCh ∈ lw_tbl := kP _ _ (kLook_mem hk)
    exact jt_V (as := [.int k]) (r := r) D (j_chr hi hin) (jt_B D (by decide) (by decide) (kw_in 360 rfl) (kw_in 68 (by decide +kernel)) hw ⟨by decide, by decide, by show _ = some 1; decide +kernel⟩) (kw_in 358 (by decide +kernel)) (kw_in 359 (by decide +kernel)) (vk_recv hF.2.2.2.2.2.1.1 hi hS) hS hLS hsum hcc hss hd (fun locs1 hS1 => kk H locs1 rfl hS1)
