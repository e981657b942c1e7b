/-! THE PICTURE: what the real heap holds for a memory of the machine -/
abbrev kEn : Type := va_G × (Nat → ClassId) × Nat × (Nat → Nat) × (Nat → Nat) × Nat × Nat × (Nat → Int32)
def eD (E : kEn) : va_G := E.1
def eC (E : kEn) : Nat → ClassId := E.2.1
def eB (E : kEn) : Nat := E.2.2.1
def eK (E : kEn) : Nat → Nat := E.2.2.2.1
def eV (E : kEn) : Nat → Nat := E.2.2.2.2.1
def eS (E : kEn) : Nat := E.2.2.2.2.2.1
def eL (E : kEn) : Nat := E.2.2.2.2.2.2.1
def eX (E : kEn) : Nat → Int32 := E.2.2.2.2.2.2.2
def kAd (E : kEn) (q : Nat) : Nat := if q < 1000 then eB E + q else if q < 2000 then eK E (q - 1000) else eS E
def kVa (E : kEn) (v : Value) : Value := match v with
  | .ref q => .ref (kAd E q)
  | w => w
def kFv (E : kEn) (m : kMem) (q j t : Nat) : Value := match t with
  | 0 => .int (m.1 q j)
  | 1 => .int (m.1 q j)
  | 2 => .long (m.2.1 q j)
  | _ => va_rf ((m.2.2.1 q j).map (kAd E))
def kCe (E : kEn) (m : kMem) (q : Nat) : va_E :=
  if (kAt q).1 < 10 then .inr ((kAt q).1, (List.range (kNf (kAt q).1)).map (fun j => kFv E m q j (kTy (kAt q).1 j)))
  else if (kAt q).1 < 12 then .inl (eC E (kAt q).1, (kAt q).2, .inl (m.1 q))
  else .inl (eC E (kAt q).1, (kAt q).2, .inr (.inr (.inr (.inr (fun j => (m.2.2.1 q j).map (kAd E))))))
def kW (E : kEn) (m : kMem) : va_W := (List.range m.2.2.2).map (fun q => (eB E + q, kCe E m q))
def kA (E : kEn) : Nat → Prop := fun q => eB E ≤ q
def kTyl (E : kEn) : List (ClassId × FieldType) := [(eC E 10, .int), (eC E 11, .boolean), (eC E 12, .object RX1), (eC E 13, .object RX2)]
def kLens : List Nat := [5, 5, 4, 3, 6, 4]
def kByts : List (List Int32) := [kTx 0, kTx 1, kTx 2, kTx 3, kTx 4, kTx 5]
def kNst (w : Cond) : Bool := match w with
  | .methodLinkNest .. => true
  | _ => false
def kFix (E : kEn) (U : State) : Prop :=
  (∀ w ∈ lw_tbl, goodWord w = true → ∀ a : Array Value, w.before a U = true) ∧ (∀ w ∈ lw_tbl, kNst w = true → va_Nw w U) ∧ (va_AO RX1 U ∧ va_AO RX2 U) ∧ va_K (eD E) kCl (kTyl E) U ∧
  (∀ i, i < 6 → vk_R RX3 (kSi i) (kStx i) (eK E i) U) ∧ (vk_S 6 kLens kByts (eK E) (eV E) (kA E) U U.heap ∧ va_Z "java/lang/String" "COMPACT_STRINGS" "Z" (.int 1) (kA E) U U.heap ∧ va_Zq "jdk/internal/util/Preconditions" "SIOOBE_FORMATTER" "Ljava/util/function/BiFunction;" (kA E) U U.heap) ∧ (va_X (eS E) (eL E) (eX E) U U.heap ∧ eS E < eB E ∧ eL E < 2 ^ 31) ∧ eB E ≤ U.heap.size
def kRep (E : kEn) (m : kMem) (H : Heap) : Prop := m.2.2.2 ≤ 95 ∧ va_P (eD E) kCl (kW E m) H ∧ m.1 2000 = eX E ∧ m.1 2001 0 = nI (eL E)
def kLR (E : kEn) (LS : Array Slot) (ls : kLcs) : Prop := LS.size = ls.length ∧ lv_wf LS ∧ ∀ (i : Nat) (v : Value), ls[i]? = some (some v) → LS[i]? = some (.val (kVa E v))
theorem kVa_ref {E : kEn} {q : Nat} (h : q < 1000) : kVa E (.ref q) = .ref (eB E + q) := by simp [kVa, kAd, h]
theorem kVa_str {E : kEn} {i : Nat} (h : i < 6) : kVa E (.ref (1000 + i)) = .ref (eK E i) := by
  have h1 : ¬ 1000 + i < 1000 := by omega
  have h2 : 1000 + i < 2000 := by omega
  simp [kVa, kAd, h1, h2]
theorem kVa_scr {E : kEn} : kVa E (.ref 2000) = .ref (eS E) := by simp [kVa, kAd]
theorem kVa_rf {E : kEn} (r : Option Nat) : kVa E (va_rf r) = va_rf (r.map (kAd E)) := by cases r <;> rfl
theorem kVa_cat {E : kEn} (v : Value) : (kVa E v).category = v.category := by cases v <;> rfl
theorem kVa_sum {E : kEn} (l : List Value) : ((l.map (kVa E)).map fun v => v.category) = l.map fun v => v.category := by
  rw [List.map_map]
  exact List.map_congr_left (fun v _ => kVa_cat v)
theorem kW_get {E : kEn} {m : kMem} {q : Nat} (h : q < m.2.2.2) : (kW E m)[q]? = some (eB E + q, kCe E m q) := by
  simp [kW, h]
theorem kW_len {E : kEn} {m : kMem} : (kW E m).length = m.2.2.2 := by simp [kW]
theorem kW_D {E : kEn} {m : kMem} : va_D (kA E) (kW E m) := by
  have key : ∀ (k : Nat) (x : Nat × va_E), (kW E m)[k]? = some x → x.1 = eB E + k := by
    intro k x hk
    have hl : k < m.2.2.2 := by
      have := (List.getElem?_eq_some_iff.mp hk).1
      rwa [kW_len] at this
    rw [kW_get hl] at hk
    cases hk
    rfl
  refine ⟨fun i j x z hi hj e => ?_, fun k x hk => ?_⟩
  · have h1 := key i x hi
    have h2 := key j z hj
    omega
  · rw [key k x hk]
    exact Nat.le_add_right _ _
theorem kW_set {E : kEn} {m m' : kMem} {q : Nat} (hn : m'.2.2.2 = m.2.2.2) (ho : ∀ a, a ≠ q → kCe E m' a = kCe E m a) : (kW E m).set q (eB E + q, kCe E m' q) = kW E m' := by
  apply List.ext_getElem?
  intro k
  by_cases hk : k < m.2.2.2
  · by_cases hq : q = k
    · subst hq
      rw [List.getElem?_set_self (by rw [kW_len]; exact hk), kW_get (by rw [hn]; exact hk)]
    · rw [List.getElem?_set_ne hq, kW_get hk, kW_get (by rw [hn]; exact hk), ho k (fun z => hq z.symm)]
  · rw [List.getElem?_eq_none (by simp [kW_len]; omega), List.getElem?_eq_none (by rw [kW_len, hn]; omega)]
theorem kW_push {E : kEn} {m : kMem} (h : ∀ a, a < m.2.2.2 → kCe E (kFresh m) a = kCe E m a) : kW E (kFresh m) = kW E m ++ [(eB E + m.2.2.2, kCe E (kFresh m) m.2.2.2)] := by
  have e : (kFresh m).2.2.2 = m.2.2.2 + 1 := rfl
  unfold kW
  rw [e, List.range_succ, List.map_append]
  refine congrArg (· ++ _) (List.map_congr_left (fun a ha => ?_))
  rw [h a (List.mem_range.mp ha)]
theorem kRow_ne {α : Type} {f : Nat → Nat → α} {q a : Nat} {g : Nat → α} (h : a ≠ q) : kRow f q g a = f a := if_neg h
theorem kRow_eq {α : Type} {f : Nat → Nat → α} {q : Nat} {g : Nat → α} : kRow f q g q = g := if_pos rfl
theorem kup_ne {f : Nat → Nat → Int32} {q k a : Nat} {v : Int32} (h : a ≠ q) : kup f q k v a = f a := if_neg h
theorem kup_eq {f : Nat → Nat → Int32} {q k : Nat} {v : Int32} : kup f q k v q = upd (f q) k v := if_pos rfl
theorem kupL_ne {f : Nat → Nat → Int64} {q k a : Nat} {v : Int64} (h : a ≠ q) : kupL f q k v a = f a := if_neg h
theorem kupL_eq {f : Nat → Nat → Int64} {q k : Nat} {v : Int64} : kupL f q k v q = vp_updL (f q) k v := if_pos rfl
theorem kupR_ne {f : Nat → Nat → Option Nat} {q k a : Nat} {v : Option Nat} (h : a ≠ q) : kupR f q k v a = f a := if_neg h
theorem kupR_eq {f : Nat → Nat → Option Nat} {q k : Nat} {v : Option Nat} : kupR f q k v q = va_up (f q) k v := if_pos rfl
/-- a cell depends on its own rows alone -/
theorem kCe_cong {E : kEn} {m m' : kMem} {a : Nat} (h1 : m'.1 a = m.1 a) (h2 : m'.2.1 a = m.2.1 a) (h3 : m'.2.2.1 a = m.2.2.1 a) : kCe E m' a = kCe E m a := by
  simp only [kCe, kFv, h1, h2, h3]
theorem kIs_spec {nx q ci : Nat} (h : kIs nx q ci = true) : q < nx ∧ (kAt q).1 = ci := by
  simpa [kIs] using h
theorem kAr_spec {nx q kd n : Nat} (h : kAr nx q kd = some n) : q < nx ∧ (kAt q).1 = kd ∧ (kAt q).2 = n := by
  unfold kAr at h
  split at h
  · next hc => cases h; exact ⟨hc.1, hc.2, rfl⟩
  · cases h
theorem kLook_mem {α : Type} {l : List (Nat × α)} {i : Nat} {v : α} (h : kLook l i = some v) : (i, v) ∈ l := by
  unfold kLook at h
  cases hf : l.find? (fun e => e.1 == i) with
  | none => rw [hf] at h; cases h
  | some e =>
    rw [hf] at h
    cases h
    have h1 := List.find?_some hf
    have h2 := List.mem_of_find?_eq_some hf
    have h3 : e.1 = i := by simpa using h1
    rw [← h3]
    exact h2
/-- an object's fields -/
def kFs (E : kEn) (m : kMem) (q ci : Nat) : List Value := (List.range (kNf ci)).map (fun j => kFv E m q j (kTy ci j))
theorem kCe_obj {E : kEn} {m : kMem} {q ci : Nat} (h : (kAt q).1 = ci) (hc : ci < 6) : kCe E m q = .inr (ci, kFs E m q ci) := by
  subst h
  exact if_pos (by omega)
theorem kFs_get {E : kEn} {m : kMem} {q ci k : Nat} (h : k < kNf ci) : (kFs E m q ci)[k]? = some (kFv E m q k (kTy ci k)) := by simp [kFs, h]
theorem kFs_len {E : kEn} {m : kMem} {q ci : Nat} : (kFs E m q ci).length = kNf ci := by simp [kFs]
theorem kFs_set {E : kEn} {m m' : kMem} {q ci k : Nat} {v : Value} (h : k < kNf ci) (hv : kFv E m' q k (kTy ci k) = v) (ho : ∀ j, j ≠ k → kFv E m' q j (kTy ci j) = kFv E m q j (kTy ci j)) : (kFs E m q ci).set k v = kFs E m' q ci := by
  apply List.ext_getElem?
  intro j
  by_cases hj : j < kNf ci
  · by_cases hk : k = j
    · subst hk
      rw [List.getElem?_set_self (by rw [kFs_len]; exact hj), kFs_get hj, hv]
    · rw [List.getElem?_set_ne hk, kFs_get hj, kFs_get hj, ho j (fun z => hk z.symm)]
  · rw [List.getElem?_eq_none (by simp [kFs_len]; omega), List.getElem?_eq_none (by rw [kFs_len]; omega)]
theorem kCe_int {E : kEn} {m : kMem} {q n kd : Nat} (h : (kAt q).1 = kd ∧ (kAt q).2 = n) (hk : kd = 10 ∨ kd = 11) : kCe E m q = .inl (eC E kd, n, .inl (m.1 q)) := by
  obtain ⟨rfl, rfl⟩ := h
  unfold kCe
  rw [if_neg (by omega), if_pos (by omega)]
theorem kCe_ref {E : kEn} {m : kMem} {q n kd : Nat} (h : (kAt q).1 = kd ∧ (kAt q).2 = n) (hk : kd = 12 ∨ kd = 13) : kCe E m q = .inl (eC E kd, n, .inr (.inr (.inr (.inr (fun j => (m.2.2.1 q j).map (kAd E)))))) := by
  obtain ⟨rfl, rfl⟩ := h
  unfold kCe
  rw [if_neg (by omega), if_neg (by omega)]
/-- the locals behind a store -/
def klv (E : kEn) (ls : kLcs) : List (Nat × Value) := (List.range ls.length).filterMap (fun i => (ls.getD i none).map (fun v => (i, kVa E v)))
theorem klv_in {E : kEn} {ls : kLcs} {i : Nat} {v : Value} (h : ls[i]? = some (some v)) : (i, kVa E v) ∈ klv E ls := by
  have hl : i < ls.length := (List.getElem?_eq_some_iff.mp h).1
  refine List.mem_filterMap.mpr ⟨i, List.mem_range.mpr hl, ?_⟩
  rw [List.getD_eq_getElem?_getD, h]
  rfl
theorem klv_has {E : kEn} {LS : Array Slot} {ls : kLcs} (h : kLR E LS ls) : lv_has LS ls.length (klv E ls) := by
  refine ⟨h.1, h.2.1, fun q hq => ?_⟩
  obtain ⟨i, hi, he⟩ := List.mem_filterMap.mp hq
  cases hv : ls.getD i none with
  | none => rw [hv] at he; cases he
  | some v =>
    rw [hv] at he
    cases he
    refine h.2.2 i v ?_
    have hl := List.mem_range.mp hi
    rw [List.getD_eq_getElem?_getD] at hv
    rw [List.getElem?_eq_getElem hl] at hv ⊢
    exact congrArg some hv
theorem klv_pre {ls : kLcs} {i j : Nat} {w : Value} (hp : kPre ls i = true) (hj : ls[j]? = some (some w)) : ¬ (j + 1 = i ∧ w.category = 2) := by
  rintro ⟨rfl, hc⟩
  simp [kPre, List.getD_eq_getElem?_getD, hj, kNL, hc] at hp
theorem klv_st1 {E : kEn} {LS' : Array Slot} {ls : kLcs} {i : Nat} {v : Value} (hp : kPre ls i = true)
    (h : lv_has LS' ls.length ((i, kVa E v) :: (klv E ls).filter (fun q => !(q.1 == i) && !(q.1 + 1 == i && q.2.category == 2)))) : kLR E LS' (ls.set i (some v)) := by
  refine ⟨by rw [h.1, List.length_set], h.2.1, fun j w hj => ?_⟩
  by_cases hij : i = j
  · subst hij
    have hl : i < ls.length := by
      have := (List.getElem?_eq_some_iff.mp hj).1
      rwa [List.length_set] at this
    rw [List.getElem?_set_self hl] at hj
    cases hj
    exact h.2.2 (i, kVa E v) List.mem_cons_self
  · rw [List.getElem?_set_ne hij] at hj
    refine h.2.2 (j, kVa E w) (List.mem_cons_of_mem _ (List.mem_filter.mpr ⟨klv_in hj, ?_⟩))
    have h1 := klv_pre hp hj
    simp only [kVa_cat]
    have h2 : ¬ j = i := fun z => hij z.symm
    simp only [Bool.and_eq_true, Bool.not_eq_true', beq_eq_false_iff_ne, ne_eq, h2, not_false_eq_true, true_and, Bool.and_eq_false_iff]
    by_cases h3 : j + 1 = i
    · exact Or.inr (fun z => h1 ⟨h3, z⟩)
    · exact Or.inl h3
theorem klv_st2 {E : kEn} {LS' : Array Slot} {ls : kLcs} {i : Nat} {v : Value} (hp : kPre ls i = true)
    (h : lv_has LS' ls.length ((i, kVa E v) :: (klv E ls).filter (fun q => !(q.1 == i) && (!(q.1 == i + 1) && !(q.1 + 1 == i && q.2.category == 2))))) : kLR E LS' ((ls.set i (some v)).set (i + 1) none) := by
  refine ⟨by rw [h.1, List.length_set, List.length_set], h.2.1, fun j w hj => ?_⟩
  by_cases hij2 : i + 1 = j
  · subst hij2
    exfalso
    have hl : i + 1 < (ls.set i (some v)).length := by
      have := (List.getElem?_eq_some_iff.mp hj).1
      rwa [List.length_set] at this
    rw [List.getElem?_set_self hl] at hj
    cases hj
  rw [List.getElem?_set_ne hij2] at hj
  by_cases hij : i = j
  · subst hij
    have hl : i < ls.length := by
      have := (List.getElem?_eq_some_iff.mp hj).1
      rwa [List.length_set] at this
    rw [List.getElem?_set_self hl] at hj
    cases hj
    exact h.2.2 (i, kVa E v) List.mem_cons_self
  · rw [List.getElem?_set_ne hij] at hj
    refine h.2.2 (j, kVa E w) (List.mem_cons_of_mem _ (List.mem_filter.mpr ⟨klv_in hj, ?_⟩))
    have h1 := klv_pre hp hj
    simp only [kVa_cat]
    have h2 : ¬ j = i := fun z => hij z.symm
    have h4 : ¬ j = i + 1 := fun z => hij2 z.symm
    simp only [Bool.and_eq_true, Bool.not_eq_true', beq_eq_false_iff_ne, ne_eq, h2, h4, not_false_eq_true, true_and, Bool.and_eq_false_iff]
    by_cases h3 : j + 1 = i
    · exact Or.inr (fun z => h1 ⟨h3, z⟩)
    · exact Or.inl h3
/-- what is fixed stays fixed -/
theorem kFix_to {E : kEn} {s U : State} (h : kFix E s) (hW : s.WarmedH U.vm) (hz : s.heap.size ≤ U.heap.size) (hq : ∀ q : Nat, q < s.heap.size → ¬ kA E q → U.heap[q]? = s.heap[q]?) : kFix E U := by
  obtain ⟨h1, h2, h3, h4, h5, h6, h7, h8⟩ := h
  refine ⟨fun w hw hg a => word_at hW (good_of_word hg) (h1 w hw hg #[]), fun w hw hn => ?_, ⟨va_AO.moved hW.alike h3.1, va_AO.moved hW.alike h3.2⟩, va_K.moved hW.alike h4, fun i hi => vk_R.warm hW (h5 i hi), ?_, ⟨?_, h7.2⟩, Nat.le_trans h8 hz⟩
  · have h0 := h2 w hw hn
    cases w <;> first | exact va_Nw.warmM hW h0 | (simp [kNst] at hn)
  · exact ⟨vk_S.moved hW.alike (h6.1.kept hq), va_Z.moved hW.alike (h6.2.1.kept hq), va_Zq.moved hW.alike (h6.2.2.kept hq)⟩
  · refine va_X.moved hW.alike (h7.1.kept (hq _ ?_ ?_))
    · exact Nat.lt_of_lt_of_le h7.2.1 h8
    · exact Nat.not_le.mpr h7.2.1
