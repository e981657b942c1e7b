/-! ONE INSTRUCTION: a step of kst is a step of the real machine -/
def kCtx (E : kEn) (y : Nat) (p : Program) (R : Room) (s : State) (mm : MethodId) (meth : Method) (c : Code) : Prop :=
  p.tables.exec = Jvm.exec ∧ c.code = mB y ∧ c.maxLocals = mL y ∧ s.vm.findClass (kOn (oC y)) = some mm.cls ∧ kFix E s ∧ ((mN y).name = "<init>" → meth.name = "<init>") ∧ meth.sig.returnType = mR y ∧ meth.locks = false ∧ mK y ≤ R.frames ∧ 39 * mK y ≤ R.locals ∧ 1 ≤ mK y
/-- the sizes of the cells made so far -/
def kSz (q : Nat) : Nat := if (kAt q).1 < 10 then kNf (kAt q).1 else (kAt q).2
def kSlt : Nat → Nat
  | 0 => 0
  | n + 1 => kSlt n + kSz n
theorem kIf_inv {α : Type} {c : Prop} [Decidable c] {A : Option α} {x : α} (h : (if c then A else none) = some x) : c ∧ A = some x := by
  by_cases hc : c
  · rw [if_pos hc] at h; exact ⟨hc, h⟩
  · rw [if_neg hc] at h; cases h
theorem kGo_inv {pc pc' : Nat} {ls ls' : kLcs} {st st' : List Value} {m m' : kMem} (h : kGo pc ls st m = some (.inl (pc', ls', st', m'))) : pc' = pc ∧ ls' = ls ∧ st' = st ∧ m' = m := by
  cases h; exact ⟨rfl, rfl, rfl, rfl⟩
theorem kBin_inv {f : Int32 → Int32 → Int32} {pc pc' : Nat} {ls ls' : kLcs} {st st' : List Value} {m m' : kMem} (h : kBin f pc ls st m = some (.inl (pc', ls', st', m'))) : ∃ a b r, st = .int b :: .int a :: r ∧ pc' = pc ∧ ls' = ls ∧ st' = .int (f a b) :: r ∧ m' = m := by
  unfold kBin at h
  split at h
  · cases h; exact ⟨_, _, _, rfl, rfl, rfl, rfl, rfl⟩
  · cases h
theorem kBinL_inv {f : Int64 → Int64 → Int64} {pc pc' : Nat} {ls ls' : kLcs} {st st' : List Value} {m m' : kMem} (h : kBinL f pc ls st m = some (.inl (pc', ls', st', m'))) : ∃ a b r, st = .long b :: .long a :: r ∧ pc' = pc ∧ ls' = ls ∧ st' = .long (f a b) :: r ∧ m' = m := by
  unfold kBinL at h
  split at h
  · cases h; exact ⟨_, _, _, rfl, rfl, rfl, rfl, rfl⟩
  · cases h
theorem kUn_inv {f : Int32 → Int32} {pc pc' : Nat} {ls ls' : kLcs} {st st' : List Value} {m m' : kMem} (h : kUn f pc ls st m = some (.inl (pc', ls', st', m'))) : ∃ a r, st = .int a :: r ∧ pc' = pc ∧ ls' = ls ∧ st' = .int (f a) :: r ∧ m' = m := by
  unfold kUn at h
  split at h
  · cases h; exact ⟨_, _, rfl, rfl, rfl, rfl, rfl⟩
  · cases h
theorem kJmp_inv {pc pc' : Nat} {off : Int} {ls ls' : kLcs} {st st' : List Value} {m m' : kMem} (h : kJmp pc off ls st m = some (.inl (pc', ls', st', m'))) : (pc : Int) + off = (pc' : Int) ∧ ls' = ls ∧ st' = st ∧ m' = m := by
  obtain ⟨h0, h1⟩ := kIf_inv h
  cases h1
  exact ⟨by omega, rfl, rfl, rfl⟩
theorem kLd_int {pc i pc' : Nat} {ls ls' : kLcs} {st st' : List Value} {m m' : kMem} (h : kLd pc i ls st m 0 = some (.inl (pc', ls', st', m'))) : ∃ x, ls[i]? = some (some (.int x)) ∧ pc' = pc ∧ ls' = ls ∧ st' = .int x :: st ∧ m' = m := by
  unfold kLd at h
  split at h
  · next x hx =>
    cases (kIf_inv h).2
    refine ⟨x, ?_, rfl, rfl, rfl, rfl⟩
    rw [List.getD_eq_getElem?_getD] at hx
    cases hg : ls[i]? with
    | none => rw [hg] at hx; cases hx
    | some v => rw [hg] at hx; exact congrArg some hx
  · cases (kIf_inv h).1
  · cases (kIf_inv h).1
  · cases h
theorem kLd_long {pc i pc' : Nat} {ls ls' : kLcs} {st st' : List Value} {m m' : kMem} (h : kLd pc i ls st m 1 = some (.inl (pc', ls', st', m'))) : ∃ x, ls[i]? = some (some (.long x)) ∧ pc' = pc ∧ ls' = ls ∧ st' = .long x :: st ∧ m' = m := by
  unfold kLd at h
  split at h
  · cases (kIf_inv h).1
  · next x hx =>
    cases (kIf_inv h).2
    refine ⟨x, ?_, rfl, rfl, rfl, rfl⟩
    rw [List.getD_eq_getElem?_getD] at hx
    cases hg : ls[i]? with
    | none => rw [hg] at hx; cases hx
    | some v => rw [hg] at hx; exact congrArg some hx
  · cases (kIf_inv h).1
  · cases h
theorem kLd_ref {pc i pc' : Nat} {ls ls' : kLcs} {st st' : List Value} {m m' : kMem} (h : kLd pc i ls st m 2 = some (.inl (pc', ls', st', m'))) : ∃ x, ls[i]? = some (some (.ref x)) ∧ pc' = pc ∧ ls' = ls ∧ st' = .ref x :: st ∧ m' = m := by
  unfold kLd at h
  split at h
  · cases (kIf_inv h).1
  · cases (kIf_inv h).1
  · next x hx =>
    cases (kIf_inv h).2
    refine ⟨x, ?_, rfl, rfl, rfl, rfl⟩
    rw [List.getD_eq_getElem?_getD] at hx
    cases hg : ls[i]? with
    | none => rw [hg] at hx; cases hx
    | some v => rw [hg] at hx; exact congrArg some hx
  · cases h
theorem kSt_int {pc i pc' : Nat} {ls ls' : kLcs} {st st' : List Value} {m m' : kMem} (h : kSt1 pc i ls st m 0 = some (.inl (pc', ls', st', m'))) : ∃ x r, st = .int x :: r ∧ i < ls.length ∧ kPre ls i = true ∧ pc' = pc ∧ ls' = ls.set i (some (.int x)) ∧ st' = r ∧ m' = m := by
  unfold kSt1 at h
  split at h
  · obtain ⟨⟨-, h1, h2⟩, h3⟩ := kIf_inv h
    cases h3
    exact ⟨_, _, rfl, h1, h2, rfl, rfl, rfl, rfl⟩
  · cases (kIf_inv h).1.1
  · cases (kIf_inv h).1.1
  · cases h
theorem kSt_ref {pc i pc' : Nat} {ls ls' : kLcs} {st st' : List Value} {m m' : kMem} (h : kSt1 pc i ls st m 2 = some (.inl (pc', ls', st', m'))) : ∃ x r, st = .ref x :: r ∧ i < ls.length ∧ kPre ls i = true ∧ pc' = pc ∧ ls' = ls.set i (some (.ref x)) ∧ st' = r ∧ m' = m := by
  unfold kSt1 at h
  split at h
  · cases (kIf_inv h).1.1
  · obtain ⟨⟨-, h1, h2⟩, h3⟩ := kIf_inv h
    cases h3
    exact ⟨_, _, rfl, h1, h2, rfl, rfl, rfl, rfl⟩
  · cases (kIf_inv h).1.1
  · cases h
theorem kSt_long {pc i pc' : Nat} {ls ls' : kLcs} {st st' : List Value} {m m' : kMem} (h : kSt1 pc i ls st m 1 = some (.inl (pc', ls', st', m'))) : ∃ x r, st = .long x :: r ∧ i + 1 < ls.length ∧ kPre ls i = true ∧ pc' = pc ∧ ls' = (ls.set i (some (.long x))).set (i + 1) none ∧ st' = r ∧ m' = m := by
  unfold kSt1 at h
  split at h
  · cases (kIf_inv h).1.1
  · cases (kIf_inv h).1.1
  · obtain ⟨⟨-, h1, h2⟩, h3⟩ := kIf_inv h
    cases h3
    exact ⟨_, _, rfl, h1, h2, rfl, rfl, rfl, rfl⟩
  · cases h
section KSTEP
variable {p : Program} {l : Launch} {e : Env} {R : Room} {s : State} {mm : MethodId} {args : Array Value} {below : List Frame} {meth : Method} {c : Code} {H : Heap} {locs : List Loc} {cells slots : Nat} {Q : State → Prop}
variable {E : kEn} {y pc : Nat} {LS : Array Slot} {r : List Value} {m : kMem}
abbrev kFw (E : kEn) (p : Program) (l : Launch) (e : Env) (R : Room) (s : State) (mm : MethodId) (args : Array Value) (below : List Frame) (meth : Method) (c : Code) (Q : State → Prop) (m : kMem) (ls : kLcs) (cells slots pc : Nat) (st : List Value) : Prop :=
  ∀ (H : Heap) (locs : List Loc) (LS : Array Slot), kRep E m H → va_S (kA E) s.heap H locs → kLR E LS ls → W p l e R s mm args below meth c H locs cells slots Q (F0 mm pc LS (st.map (kVa E)))
theorem kDecl : ∀ ci, ci < 6 → ∀ k, k < kNf ci → (kTt ci k).1 = kOn ci := by decide +kernel
theorem kt_wd (C : kCtx E y p R s mm meth c) : ∀ w ∈ lw_tbl.filter goodWord, w.before args s = true := by
  intro w hw
  obtain ⟨h1, h2⟩ := List.mem_filter.mp hw
  exact C.2.2.2.2.1.1 w h1 h2 args
theorem kt_w (C : kCtx E y p R s mm meth c) {w : Cond} (hw : w ∈ lw_tbl) (hg : goodWord w = true) : w.before args s = true := C.2.2.2.2.1.1 w hw hg args
theorem kt_in {ci : Nat} (h : ci < 6) : ∀ w ∈ u_ws (kRn ci) (kTt ci) (kNf ci), w ∈ lw_tbl.filter goodWord := by
  intro w hw
  unfold u_ws at hw
  obtain ⟨k, hk, rfl⟩ := List.mem_map.mp hw
  refine List.mem_filter.mpr ⟨kU ci h k (List.mem_range.mp hk), ?_⟩
  unfold u_lay
  split <;> rfl
theorem kt_get (C : kCtx E y p R s mm meth c) (hR : kRep E m H) {idx q ci k : Nat} (hk : kLook (kFl (oC y)) idx = some (ci, k)) (hi : kIs m.2.2.2 q ci = true) (hd : decode (mB y) pc = .ok (.getfield idx, 3))
    (kk : W p l e R s mm args below meth c H locs cells slots Q (F0 mm (pc + 3) LS (kFv E m q k (kTy ci k) :: r))) : W p l e R s mm args below meth c H locs cells slots Q (F0 mm pc LS (kVa E (.ref q) :: r)) := by
  obtain ⟨hx, hb, hml, hown, hF, hn, hr, hlk, -⟩ := id C
  obtain ⟨hc6, hkn, hw⟩ := kF _ _ (kLook_mem hk)
  obtain ⟨h1, h2⟩ := kIs_spec hi
  rw [kVa_ref (by have := hR.1; omega)]
  exact va_get (D := eD E) (ci := ci) (C := kRn ci) (T := kTt ci) (N := kNf ci) (ref := (kTt ci k).1) (fs := kFs E m q ci) hx hb (kt_wd C) (kt_in hc6) hown hF.2.2.2.1 hR.2.1 q (by rw [kW_get h1, kCe_obj h2 hc6]) (kCl_at ci hc6) k hkn (kt_w C hw rfl) (fun _ h => h) (kFs_get hkn) hd kk
theorem kt_rep {m' : kMem} {H1 : Heap} {q : Nat} (hR : kRep E m H) (hn : m'.2.2.2 = m.2.2.2) (ho : ∀ a, a ≠ q → kCe E m' a = kCe E m a) (h0 : m'.1 2000 = m.1 2000) (h2 : m'.1 2001 = m.1 2001) (hP : va_P (eD E) kCl ((kW E m).set q (eB E + q, kCe E m' q)) H1) : kRep E m' H1 := by
  refine ⟨by rw [hn]; exact hR.1, ?_, by rw [h0]; exact hR.2.2.1, by rw [h2]; exact hR.2.2.2⟩
  rw [← kW_set hn ho]
  exact hP
theorem kt_tyi {ci k : Nat} (h1 : ci < 6) (h2 : k < kNf ci) (h : kTy ci k = 0) : kTyf ci k = .int := by
  have := kTy_ok ci h1 k h2
  unfold kTyOk at this
  rw [h] at this
  split at this <;> first | assumption | (next e _ => cases e) | cases this
theorem kt_tyz {ci k : Nat} (h1 : ci < 6) (h2 : k < kNf ci) (h : kTy ci k = 1) : kTyf ci k = .boolean := by
  have := kTy_ok ci h1 k h2
  unfold kTyOk at this
  rw [h] at this
  split at this <;> first | assumption | (next e _ => cases e) | cases this
theorem kt_tyl {ci k : Nat} (h1 : ci < 6) (h2 : k < kNf ci) (h : kTy ci k = 2) : kTyf ci k = .long := by
  have := kTy_ok ci h1 k h2
  unfold kTyOk at this
  rw [h] at this
  split at this <;> first | assumption | (next e _ => cases e) | cases this
theorem kt_tyr {ci k : Nat} (h1 : ci < 6) (h2 : k < kNf ci) (h : kTy ci k = 3) : (∃ n, kTyf ci k = .object n) ∨ ∃ t, kTyf ci k = .array t := by
  have := kTy_ok ci h1 k h2
  unfold kTyOk at this
  rw [h] at this
  split at this
  · next e _ => cases e
  · next e _ => cases e
  · next e _ => cases e
  · next h => exact Or.inl ⟨_, h⟩
  · next h => exact Or.inr ⟨_, h⟩
  · cases this
/-- a store into a field that isn't final -/
theorem kt_put (C : kCtx E y p R s mm meth c) (hR : kRep E m H) (hS : va_S (kA E) s.heap H locs) {idx q ci k : Nat} {m' : kMem} {v : Value} (hk : kLook (kFl (oC y)) idx = some (ci, k)) (hi : kIs m.2.2.2 q ci = true) (hf : (kTt ci k).2.2.2 = false)
    (hnar : narrow (kTyf ci k) v = v) (hfit : fits (kTyf ci k) v = true) (hn : m'.2.2.2 = m.2.2.2) (h1 : ∀ a, a ≠ q → m'.1 a = m.1 a) (h2 : ∀ a, a ≠ q → m'.2.1 a = m.2.1 a) (h3 : ∀ a, a ≠ q → m'.2.2.1 a = m.2.2.1 a) (hv : kFv E m' q k (kTy ci k) = v) (ho : ∀ j, j ≠ k → kFv E m' q j (kTy ci j) = kFv E m q j (kTy ci j)) (hd : decode (mB y) pc = .ok (.putfield idx, 3))
    (kk : ∀ (H1 : Heap) (locs1 : List Loc), kRep E m' H1 → va_S (kA E) s.heap H1 locs1 → W p l e R s mm args below meth c H1 locs1 cells slots Q (F0 mm (pc + 3) LS r)) : W p l e R s mm args below meth c H locs cells slots Q (F0 mm pc LS (v :: kVa E (.ref q) :: r)) := by
  obtain ⟨hx, hb, hml, hown, hF, hnm, hr, hlk, -⟩ := id C
  obtain ⟨hc6, hkn, hw⟩ := kF _ _ (kLook_mem hk)
  obtain ⟨g1, g2⟩ := kIs_spec hi
  have hq : q < 95 := Nat.lt_of_lt_of_le g1 hR.1
  rw [kVa_ref (by omega)]
  refine va_put (D := eD E) (ci := ci) (C := kRn ci) (T := kTt ci) (N := kNf ci) (ref := (kTt ci k).1) (fs := kFs E m q ci) hx hb (kt_wd C) (kt_in hc6) (kTyf ci) (kHty ci hc6) (kHnm ci hc6) hown hF.2.2.2.1 hR.2.1 kW_D hS q (by rw [kW_get g1, kCe_obj g2 hc6]) (kCl_at ci hc6) k hkn (kt_w C hw rfl) (fun _ h => h) hf (kHty ci hc6 k hkn) hnar hfit (by rw [kFs_len]; exact hkn) hd (fun H1 locs1 hP _ hS1 => kk H1 locs1 (kt_rep hR hn (fun a ha => kCe_cong (h1 a ha) (h2 a ha) (h3 a ha)) (h1 2000 (by omega)) (h1 2001 (by omega)) ?_) hS1)
  rw [kCe_obj g2 hc6, ← kFs_set hkn hv ho]
  exact hP
theorem kt_putF (C : kCtx E y p R s mm meth c) (hR : kRep E m H) (hS : va_S (kA E) s.heap H locs) {idx q ci k : Nat} {m' : kMem} {v : Value} (hk : kLook (kFl (oC y)) idx = some (ci, k)) (hi : kIs m.2.2.2 q ci = true) (hf : (kTt ci k).2.2.2 = true) (hini : (mN y).name = "<init>") (hoc : oC y = ci)
    (hnar : narrow (kTyf ci k) v = v) (hfit : fits (kTyf ci k) v = true) (hn : m'.2.2.2 = m.2.2.2) (h1 : ∀ a, a ≠ q → m'.1 a = m.1 a) (h2 : ∀ a, a ≠ q → m'.2.1 a = m.2.1 a) (h3 : ∀ a, a ≠ q → m'.2.2.1 a = m.2.2.1 a) (hv : kFv E m' q k (kTy ci k) = v) (ho : ∀ j, j ≠ k → kFv E m' q j (kTy ci j) = kFv E m q j (kTy ci j)) (hd : decode (mB y) pc = .ok (.putfield idx, 3))
    (kk : ∀ (H1 : Heap) (locs1 : List Loc), kRep E m' H1 → va_S (kA E) s.heap H1 locs1 → W p l e R s mm args below meth c H1 locs1 cells slots Q (F0 mm (pc + 3) LS r)) : W p l e R s mm args below meth c H locs cells slots Q (F0 mm pc LS (v :: kVa E (.ref q) :: r)) := by
  obtain ⟨hx, hb, hml, hown, hF, hnm, hr, hlk, -⟩ := id C
  obtain ⟨hc6, hkn, hw⟩ := kF _ _ (kLook_mem hk)
  obtain ⟨g1, g2⟩ := kIs_spec hi
  have hq : q < 95 := Nat.lt_of_lt_of_le g1 hR.1
  have hdecl : (kTt ci k).1 = kOn (oC y) := by
    rw [hoc]
    exact kDecl ci hc6 k hkn
  rw [kVa_ref (by omega)]
  refine va_putF (D := eD E) (ci := ci) (C := kRn ci) (T := kTt ci) (N := kNf ci) (ref := (kTt ci k).1) (fs := kFs E m q ci) hx hb (kt_wd C) (kt_in hc6) (kTyf ci) (kHty ci hc6) (kHnm ci hc6) hown hF.2.2.2.1 hR.2.1 kW_D hS q (by rw [kW_get g1, kCe_obj g2 hc6]) (kCl_at ci hc6) k hkn (kt_w C hw rfl) (fun _ h => h) hf (hnm hini) hdecl (kHty ci hc6 k hkn) hnar hfit (by rw [kFs_len]; exact hkn) hd (fun H1 locs1 hP _ hS1 => kk H1 locs1 (kt_rep hR hn (fun a ha => kCe_cong (h1 a ha) (h2 a ha) (h3 a ha)) (h1 2000 (by omega)) (h1 2001 (by omega)) ?_) hS1)
  rw [kCe_obj g2 hc6, ← kFs_set hkn hv ho]
  exact hP
theorem kt_tl (E : kEn) : (kTyl E)[0]? = some (eC E 10, .int) ∧ (kTyl E)[1]? = some (eC E 11, .boolean) ∧ (kTyl E)[2]? = some (eC E 12, .object RX1) ∧ (kTyl E)[3]? = some (eC E 13, .object RX2) := ⟨rfl, rfl, rfl, rfl⟩
theorem kt_iald (C : kCtx E y p R s mm meth c) (hR : kRep E m H) {q n : Nat} {i : Int32} (ha : kAr m.2.2.2 q 10 = some n) (hin : ¬ (i < 0 ∨ n ≤ i.toNatClampNeg)) (hd : decode (mB y) pc = .ok (.iaload, 1))
    (kk : W p l e R s mm args below meth c H locs cells slots Q (F0 mm (pc + 1) LS (.int (m.1 q i.toNatClampNeg) :: r))) : W p l e R s mm args below meth c H locs cells slots Q (F0 mm pc LS (.int i :: kVa E (.ref q) :: r)) := by
  obtain ⟨hx, hb, hml, hown, hF, -⟩ := id C
  obtain ⟨g1, g2⟩ := kAr_spec ha
  have hq : q < 95 := Nat.lt_of_lt_of_le g1 hR.1
  rw [kVa_ref (by omega)]
  exact va_iald (D := eD E) (cA := eC E 10) hx hb hF.2.2.2.1 hR.2.1 q 0 (by rw [kW_get g1, kCe_int g2 (Or.inl rfl)]) (kt_tl E).1 hin hd kk
theorem kt_zald (C : kCtx E y p R s mm meth c) (hR : kRep E m H) {q n : Nat} {i : Int32} (ha : kAr m.2.2.2 q 11 = some n) (hin : ¬ (i < 0 ∨ n ≤ i.toNatClampNeg)) (hd : decode (mB y) pc = .ok (.baload, 1))
    (kk : W p l e R s mm args below meth c H locs cells slots Q (F0 mm (pc + 1) LS (.int (m.1 q i.toNatClampNeg) :: r))) : W p l e R s mm args below meth c H locs cells slots Q (F0 mm pc LS (.int i :: kVa E (.ref q) :: r)) := by
  obtain ⟨hx, hb, hml, hown, hF, -⟩ := id C
  obtain ⟨g1, g2⟩ := kAr_spec ha
  have hq : q < 95 := Nat.lt_of_lt_of_le g1 hR.1
  rw [kVa_ref (by omega)]
  exact va_zald (D := eD E) (cA := eC E 11) hx hb hF.2.2.2.1 hR.2.1 q 1 (by rw [kW_get g1, kCe_int g2 (Or.inr rfl)]) (kt_tl E).2.1 hin hd kk
theorem kt_sald (C : kCtx E y p R s mm meth c) (hR : kRep E m H) (hS : va_S (kA E) s.heap H locs) {i : Int32} (hin : ¬ (i < 0 ∨ (m.1 2001 0).toNatClampNeg ≤ i.toNatClampNeg)) (hd : decode (mB y) pc = .ok (.iaload, 1))
    (kk : W p l e R s mm args below meth c H locs cells slots Q (F0 mm (pc + 1) LS (.int (m.1 2000 i.toNatClampNeg) :: r))) : W p l e R s mm args below meth c H locs cells slots Q (F0 mm pc LS (.int i :: kVa E (.ref 2000) :: r)) := by
  obtain ⟨hx, hb, hml, hown, hF, -⟩ := id C
  obtain ⟨-, -, -, -, -, -, ⟨hX, hsb, hL⟩, hB⟩ := id hF
  rw [hR.2.2.2, nI_clamp hL] at hin
  rw [hR.2.2.1] at kk
  rw [kVa_scr]
  exact va_sld hx hb hX (Nat.lt_of_lt_of_le hsb hB) (Nat.not_le.mpr hsb) hS hin hd kk
theorem kt_slen (C : kCtx E y p R s mm meth c) (hR : kRep E m H) (hS : va_S (kA E) s.heap H locs) (hd : decode (mB y) pc = .ok (.arraylength, 1))
    (kk : W p l e R s mm args below meth c H locs cells slots Q (F0 mm (pc + 1) LS (.int (m.1 2001 0) :: r))) : W p l e R s mm args below meth c H locs cells slots Q (F0 mm pc LS (kVa E (.ref 2000) :: r)) := by
  obtain ⟨hx, hb, hml, hown, hF, -⟩ := id C
  obtain ⟨-, -, -, -, -, -, ⟨hX, hsb, hL⟩, hB⟩ := id hF
  rw [hR.2.2.2] at kk
  rw [kVa_scr]
  exact va_slen hx hb hX (Nat.lt_of_lt_of_le hsb hB) (Nat.not_le.mpr hsb) hS hd kk
theorem kt_iast (C : kCtx E y p R s mm meth c) (hR : kRep E m H) (hS : va_S (kA E) s.heap H locs) {q n : Nat} {i x : Int32} (ha : kAr m.2.2.2 q 10 = some n) (hin : ¬ (i < 0 ∨ n ≤ i.toNatClampNeg)) (hd : decode (mB y) pc = .ok (.iastore, 1))
    (kk : ∀ (H1 : Heap) (locs1 : List Loc), kRep E (kup m.1 q i.toNatClampNeg x, m.2) H1 → va_S (kA E) s.heap H1 locs1 → W p l e R s mm args below meth c H1 locs1 cells slots Q (F0 mm (pc + 1) LS r)) : W p l e R s mm args below meth c H locs cells slots Q (F0 mm pc LS (.int x :: .int i :: kVa E (.ref q) :: r)) := by
  obtain ⟨hx, hb, hml, hown, hF, -⟩ := id C
  obtain ⟨g1, g2⟩ := kAr_spec ha
  have hq : q < 95 := Nat.lt_of_lt_of_le g1 hR.1
  rw [kVa_ref (by omega)]
  refine va_iast (D := eD E) (cA := eC E 10) hx hb hF.2.2.2.1 hR.2.1 kW_D hS q 0 (by rw [kW_get g1, kCe_int g2 (Or.inl rfl)]) (kt_tl E).1 hin hd (fun H1 locs1 hP _ hS1 => kk H1 locs1 (kt_rep (q := q) hR rfl (fun a h => kCe_cong (kup_ne h) rfl rfl) (kup_ne (by omega)) (kup_ne (by omega)) ?_) hS1)
  rw [kCe_int g2 (Or.inl rfl)]
  simp only [kup_eq]
  exact hP
theorem kt_zast (C : kCtx E y p R s mm meth c) (hR : kRep E m H) (hS : va_S (kA E) s.heap H locs) {q n : Nat} {i x : Int32} (ha : kAr m.2.2.2 q 11 = some n) (hin : ¬ (i < 0 ∨ n ≤ i.toNatClampNeg)) (hd : decode (mB y) pc = .ok (.bastore, 1))
    (kk : ∀ (H1 : Heap) (locs1 : List Loc), kRep E (kup m.1 q i.toNatClampNeg (x &&& 1), m.2) H1 → va_S (kA E) s.heap H1 locs1 → W p l e R s mm args below meth c H1 locs1 cells slots Q (F0 mm (pc + 1) LS r)) : W p l e R s mm args below meth c H locs cells slots Q (F0 mm pc LS (.int x :: .int i :: kVa E (.ref q) :: r)) := by
  obtain ⟨hx, hb, hml, hown, hF, -⟩ := id C
  obtain ⟨g1, g2⟩ := kAr_spec ha
  have hq : q < 95 := Nat.lt_of_lt_of_le g1 hR.1
  rw [kVa_ref (by omega)]
  refine va_zast (D := eD E) (cA := eC E 11) hx hb hF.2.2.2.1 hR.2.1 kW_D hS q 1 (by rw [kW_get g1, kCe_int g2 (Or.inr rfl)]) (kt_tl E).2.1 hin hd (fun H1 locs1 hP _ hS1 => kk H1 locs1 (kt_rep (q := q) hR rfl (fun a h => kCe_cong (kup_ne h) rfl rfl) (kup_ne (by omega)) (kup_ne (by omega)) ?_) hS1)
  rw [kCe_int g2 (Or.inr rfl)]
  simp only [kup_eq]
  exact hP
theorem kt_aald (C : kCtx E y p R s mm meth c) (hR : kRep E m H) {q n kd : Nat} {i : Int32} (ha : kAr m.2.2.2 q kd = some n) (hkd : kd = 12 ∨ kd = 13) (hin : ¬ (i < 0 ∨ n ≤ i.toNatClampNeg)) (hd : decode (mB y) pc = .ok (.aaload, 1))
    (kk : W p l e R s mm args below meth c H locs cells slots Q (F0 mm (pc + 1) LS (kVa E (va_rf (m.2.2.1 q i.toNatClampNeg)) :: r))) : W p l e R s mm args below meth c H locs cells slots Q (F0 mm pc LS (.int i :: kVa E (.ref q) :: r)) := by
  obtain ⟨hx, hb, hml, hown, hF, -⟩ := id C
  obtain ⟨g1, g2⟩ := kAr_spec ha
  have hq : q < 95 := Nat.lt_of_lt_of_le g1 hR.1
  rw [kVa_ref (by omega)]
  rw [kVa_rf] at kk
  have he : (kW E m)[q]? = some (eB E + q, .inl (eC E kd, n, .inr (.inr (.inr (.inr (fun j => (m.2.2.1 q j).map (kAd E))))))) := by rw [kW_get g1, kCe_ref g2 hkd]
  rcases hkd with rfl | rfl
  · exact va_aldq (D := eD E) (cA := eC E 12) hx hb hF.2.2.2.1 hR.2.1 q 2 he (kt_tl E).2.2.1 hin hd kk
  · exact va_aldq (D := eD E) (cA := eC E 13) hx hb hF.2.2.2.1 hR.2.1 q 3 he (kt_tl E).2.2.2 hin hd kk
theorem kt_aast (C : kCtx E y p R s mm meth c) (hR : kRep E m H) (hS : va_S (kA E) s.heap H locs) {q n kd ci v : Nat} {i : Int32} (ha : kAr m.2.2.2 q kd = some n) (hkd : (kd = 12 ∧ ci = 1) ∨ (kd = 13 ∧ ci = 2)) (hv : kIs m.2.2.2 v ci = true) (hin : ¬ (i < 0 ∨ n ≤ i.toNatClampNeg)) (hd : decode (mB y) pc = .ok (.aastore, 1))
    (kk : ∀ (H1 : Heap) (locs1 : List Loc), kRep E (m.1, m.2.1, kupR m.2.2.1 q i.toNatClampNeg (some v), m.2.2.2) H1 → va_S (kA E) s.heap H1 locs1 → W p l e R s mm args below meth c H1 locs1 cells slots Q (F0 mm (pc + 1) LS r)) : W p l e R s mm args below meth c H locs cells slots Q (F0 mm pc LS (kVa E (.ref v) :: .int i :: kVa E (.ref q) :: r)) := by
  obtain ⟨hx, hb, hml, hown, hF, -⟩ := id C
  obtain ⟨g1, g2⟩ := kAr_spec ha
  obtain ⟨v1, v2⟩ := kIs_spec hv
  have hq : q < 95 := Nat.lt_of_lt_of_le g1 hR.1
  have hvq : v < 95 := Nat.lt_of_lt_of_le v1 hR.1
  rw [kVa_ref (q := q) (by omega), kVa_ref (q := v) (by omega)]
  have hk2 : kd = 12 ∨ kd = 13 := by omega
  have hc6 : ci < 6 := by omega
  have he : (kW E m)[q]? = some (eB E + q, .inl (eC E kd, n, .inr (.inr (.inr (.inr (fun j => (m.2.2.1 q j).map (kAd E))))))) := by rw [kW_get g1, kCe_ref g2 hk2]
  have hev : (kW E m)[v]? = some (eB E + v, .inr (ci, kFs E m v ci)) := by rw [kW_get v1, kCe_obj v2 hc6]
  have hup : va_up (fun j => (m.2.2.1 q j).map (kAd E)) i.toNatClampNeg (some (eB E + v)) = fun j => ((kupR m.2.2.1 q i.toNatClampNeg (some v)) q j).map (kAd E) := by
    funext j
    rw [kupR_eq]
    unfold va_up
    split
    · simp [kAd, show v < 1000 by omega]
    · rfl
  have fin : ∀ (H1 : Heap) (locs1 : List Loc), va_P (eD E) kCl ((kW E m).set q (eB E + q, .inl (eC E kd, n, .inr (.inr (.inr (.inr (va_up (fun j => (m.2.2.1 q j).map (kAd E)) i.toNatClampNeg (some (eB E + v))))))))) H1 → va_S (kA E) s.heap H1 locs1 → W p l e R s mm args below meth c H1 locs1 cells slots Q (F0 mm (pc + 1) LS r) := by
    intro H1 locs1 hP hS1
    refine kk H1 locs1 (kt_rep (q := q) hR rfl (fun a h => kCe_cong rfl rfl (kupR_ne h)) rfl rfl ?_) hS1
    rw [kCe_ref g2 hk2]
    rw [hup] at hP
    exact hP
  rcases hkd with ⟨rfl, rfl⟩ | ⟨rfl, rfl⟩
  · exact va_astq (D := eD E) (cA := eC E 12) (r := (kRn 1, kTt 1, kNf 1)) hx hb hF.2.2.2.1 hR.2.1 kW_D hS q 2 v 1 he (kt_tl E).2.2.1 hev (kCl_at 1 (by decide)) hin hd (fun H1 locs1 hP _ hS1 => fin H1 locs1 hP hS1)
  · exact va_astq (D := eD E) (cA := eC E 13) (r := (kRn 2, kTt 2, kNf 2)) hx hb hF.2.2.2.1 hR.2.1 kW_D hS q 3 v 2 he (kt_tl E).2.2.2 hev (kCl_at 2 (by decide)) hin hd (fun H1 locs1 hP _ hS1 => fin H1 locs1 hP hS1)
theorem kt_cpy (C : kCtx E y p R s mm meth c) (hR : kRep E m H) (hS : va_S (kA E) s.heap H locs) (hL : LS.size = mL y) {idx q0 q1 n0 n1 : Nat} {sp dp n : Int32} (hk : kLook (kPl (oC y)) idx = some 1) (ha : kAr m.2.2.2 q0 10 = some n0) (hb1 : kAr m.2.2.2 q1 10 = some n1) (c1 : ¬ sp < 0) (c2 : ¬ dp < 0) (c3 : ¬ n < 0) (c4 : sp.toNatClampNeg + n.toNatClampNeg ≤ n0) (c5 : dp.toNatClampNeg + n.toNatClampNeg ≤ n1) (c6 : (r.map fun v => v.category).sum ≤ 4) (hd : decode (mB y) pc = .ok (.invokestatic idx, 3))
    (kk : ∀ (H1 : Heap) (locs1 : List Loc), kRep E (kRow m.1 q1 (va_cpy (m.1 q0) (m.1 q1) sp.toNatClampNeg dp.toNatClampNeg n.toNatClampNeg), m.2) H1 → va_S (kA E) s.heap H1 locs1 → W p l e R s mm args below meth c H1 locs1 cells slots Q (F0 mm (pc + 3) LS r)) : W p l e R s mm args below meth c H locs cells slots Q (F0 mm pc LS (.int n :: .int dp :: kVa E (.ref q1) :: .int sp :: kVa E (.ref q0) :: r)) := by
  obtain ⟨hx, hb, hml, hown, hF, hnm, hr, hlk, hfr, hlo, hm1⟩ := id C
  obtain ⟨g1, g2⟩ := kAr_spec ha
  obtain ⟨f1, f2⟩ := kAr_spec hb1
  have hq : q0 < 95 := Nat.lt_of_lt_of_le g1 hR.1
  have hq1 : q1 < 95 := Nat.lt_of_lt_of_le f1 hR.1
  have hw : Cond.methodLink (kOn (oC y)) idx arraycopyName ∈ lw_tbl := kP _ _ (kLook_mem hk)
  rw [kVa_ref (q := q0) (by omega), kVa_ref (q := q1) (by omega)]
  refine va_copyi (D := eD E) hx hb (hml.trans hL.symm) hown (kt_w C hw rfl) (kt_w C kCp.1 rfl) (kt_w C kCp.2.1 rfl) (kt_w C kCp.2.2 rfl) hF.2.2.2.1 hR.2.1 kW_D hS q0 q1 0 0 (by rw [kW_get g1, kCe_int g2 (Or.inl rfl)]) (by rw [kW_get f1, kCe_int f2 (Or.inl rfl)]) (kt_tl E).1 (kt_tl E).1 rfl c1 c2 c3 c4 c5 (fun _ _ => rfl) (by omega) ?_ hd (fun H1 locs1 hP _ hS1 => kk H1 locs1 (kt_rep (q := q1) hR rfl (fun a h => kCe_cong (kRow_ne h) rfl rfl) (kRow_ne (by omega)) (kRow_ne (by omega)) ?_) hS1)
  · have h9 : nativeFrameWords "java/lang/System" "arraycopy" 5 + 11 ≤ 35 := by decide +kernel
    omega
  · rw [kCe_int f2 (Or.inl rfl)]
    simp only [kRow_eq]
    exact hP
theorem kt_obj (C : kCtx E y p R s mm meth c) (hL : LS.size = mL y) {idx q : Nat} (hk : kLook (kPl (oC y)) idx = some 0) (c6 : (r.map fun v => v.category).sum ≤ 8) (hd : decode (mB y) pc = .ok (.invokespecial idx, 3))
    (kk : W p l e R s mm args below meth c H locs cells slots Q (F0 mm (pc + 3) LS r)) : W p l e R s mm args below meth c H locs cells slots Q (F0 mm pc LS (kVa E (.ref q) :: r)) := by
  obtain ⟨hx, hb, hml, hown, hF, hnm, hr, hlk, hfr, hlo, hm1⟩ := id C
  have hw : Cond.methodLink (kOn (oC y)) idx Lib.objectInit ∈ lw_tbl := kP _ _ (kLook_mem hk)
  exact W.objInit hx hb hown (kt_w C hw rfl) (kt_w C kOb.1 rfl) (kt_w C kOb.2 rfl) (g := F0 mm pc LS (kVa E (.ref q) :: r)) rfl (by show LS.size = _; rw [hL, hml]) (a := kAd E q) (rest := r) rfl hd (by omega) (by show 2 * 0 + _ + 12 ≤ _; omega) kk
theorem kt_max (C : kCtx E y p R s mm meth c) (hL : LS.size = mL y) (hcc : cells ≤ R.cells) (hss : slots ≤ R.slots) {idx : Nat} {a b : Int32} (hk : kLook (kPl (oC y)) idx = some 4) (c6 : (r.map fun v => v.category).sum ≤ 8) (hd : decode (mB y) pc = .ok (.invokestatic idx, 3))
    (kk : W p l e R s mm args below meth c H locs cells slots Q (F0 mm (pc + 3) LS (.int (if a < b then b else a) :: r))) : W p l e R s mm args below meth c H locs cells slots Q (F0 mm pc LS (.int b :: .int a :: r)) := by
  obtain ⟨hx, hb, hml, hown, hF, hnm, hr, hlk, hfr, hlo, hm1⟩ := id C
  have hw : Cond.methodLink (kOn (oC y)) idx Lib.Math.max.name ∈ lw_tbl := kP _ _ (kLook_mem hk)
  exact va_mmax hx hb (hml.trans hL.symm) hown (kt_w C hw rfl) (kt_w C kMx.2 rfl) (kt_w C (kIni 8 (by decide)) rfl) (kt_w C kMx.1 rfl) (by omega) (by omega) hcc hss hd kk
theorem kt_min (C : kCtx E y p R s mm meth c) (hL : LS.size = mL y) (hcc : cells ≤ R.cells) (hss : slots ≤ R.slots) {idx : Nat} {a b : Int32} (hk : kLook (kPl (oC y)) idx = some 5) (c6 : (r.map fun v => v.category).sum ≤ 8) (hd : decode (mB y) pc = .ok (.invokestatic idx, 3))
    (kk : W p l e R s mm args below meth c H locs cells slots Q (F0 mm (pc + 3) LS (.int (if b < a then b else a) :: r))) : W p l e R s mm args below meth c H locs cells slots Q (F0 mm pc LS (.int b :: .int a :: r)) := by
  obtain ⟨hx, hb, hml, hown, hF, hnm, hr, hlk, hfr, hlo, hm1⟩ := id C
  have hw : Cond.methodLink (kOn (oC y)) idx Lib.Math.min.name ∈ lw_tbl := kP _ _ (kLook_mem hk)
  exact va_mmin hx hb (hml.trans hL.symm) hown (kt_w C hw rfl) (kt_w C kMi.2 rfl) (kt_w C (kIni 8 (by decide)) rfl) (kt_w C kMi.1 rfl) (by omega) (by omega) hcc hss hd kk
end KSTEP
