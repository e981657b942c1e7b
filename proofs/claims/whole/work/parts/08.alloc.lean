/-! making cells, texts, calls -/
section KAL
variable {p : Program} {l : Launch} {e : Env} {R : Room} {s : State} {mm : MethodId} {args : Array Value} {below : List Frame} {meth : Method} {c : Code} {H : Heap} {locs : List Loc} {cells slots : Nat} {Q : State → Prop}
variable {E : kEn} {y pc : Nat} {LS : Array Slot} {r : List Value} {m : kMem}
/-- the heap's size, by what the method has made -/
theorem kt_size {nx0 : Nat} (hR : kRep E m H) (hS : va_S (kA E) s.heap H locs) (h0 : s.heap.size = eB E + nx0) (hc : m.2.2.2 = nx0 + cells)
    (kk : H.size = eB E + m.2.2.2 → W p l e R s mm args below meth c H locs cells slots Q (F0 mm pc LS r)) : W p l e R s mm args below meth c H locs cells slots Q (F0 mm pc LS r) := by
  intro T hT X
  have h1 : T.heap.size ≤ s.heap.size + cells := X.heapSize
  rw [hT] at h1
  have h2 := hS.1
  have h3 : eB E + m.2.2.2 ≤ H.size := by
    cases hn : cells with
    | zero => omega
    | succ k =>
      have hlt : nx0 + k < m.2.2.2 := by omega
      have := (hR.2.1 (nx0 + k) _ (kW_get hlt)).lt
      simp only at this
      omega
  exact kk (by omega) T hT X
theorem kFresh_other {a : Nat} (h : a ≠ m.2.2.2) : kCe E (kFresh m) a = kCe E m a := kCe_cong (kRow_ne h) (kRow_ne h) (kRow_ne h)
theorem kt_fresh {H1 : Heap} (hR : kRep E m H) (hlt : m.2.2.2 < 95) (ho : ∀ q : Nat, q < H.size → H1[q]? = H[q]?) (hnew : va_at (eD E) kCl (eB E + m.2.2.2, kCe E (kFresh m) m.2.2.2) H1) : kRep E (kFresh m) H1 := by
  refine ⟨by show m.2.2.2 + 1 ≤ 95; omega, ?_, ?_, ?_⟩
  · rw [kW_push (fun a ha => kFresh_other (by omega))]
    exact (hR.2.1.kept (fun k x hx => ho x.1 ((hR.2.1 k x hx).lt))).app (fun k x hx => by
      have hz : k < 1 := (List.getElem?_eq_some_iff.mp hx).1
      rw [show k = 0 by omega] at hx
      cases hx
      exact hnew)
  · exact (kRow_ne (by omega)).trans hR.2.2.1
  · show kRow m.1 m.2.2.2 _ 2001 0 = _
    rw [kRow_ne (by omega)]
    exact hR.2.2.2
theorem kt_S {H1 : Heap} (hS : va_S (kA E) s.heap H locs) (hz : H1.size = H.size + 1) (ho : ∀ q : Nat, q < H.size → H1[q]? = H[q]?) : va_S (kA E) s.heap H1 locs :=
  ⟨Nat.le_trans hS.1 (by omega), fun x h1 h2 => (ho x (Nat.lt_of_lt_of_le h1 hS.1)).trans (hS.2.1 x h1 h2), hS.2.2⟩
theorem kt_zero {ci : Nat} (hc : ci < 6) (q : Nat) (m0 : kMem) (h1 : m0.1 q = fun _ => 0) (h2 : m0.2.1 q = fun _ => 0) (h3 : m0.2.2.1 q = fun _ => none) : ∀ j, j < kNf ci → defaultValue (kTyf ci j) = vp_V (kFs E m0 q ci) j := by
  intro j hj
  have hv : vp_V (kFs E m0 q ci) j = kFv E m0 q j (kTy ci j) := by
    simp [vp_V, List.getD_eq_getElem?_getD, kFs_get hj]
  rw [hv]
  have hk := kTy_ok ci hc j hj
  unfold kTyOk at hk
  split at hk
  · next e1 e2 => rw [e1, e2]; simp [kFv, h1]; rfl
  · next e1 e2 => rw [e1, e2]; simp [kFv, h1]; rfl
  · next e1 e2 => rw [e1, e2]; simp [kFv, h2]; rfl
  · next e1 e2 => rw [e1, e2]; simp [kFv, h3]; rfl
  · next e1 e2 => rw [e1, e2]; simp [kFv, h3]; rfl
  · cases hk
theorem kt_new (C : kCtx E y p R s mm meth c) (hR : kRep E m H) (hS : va_S (kA E) s.heap H locs) {nx0 idx ci : Nat} (h0 : s.heap.size = eB E + nx0) (hc : m.2.2.2 = nx0 + cells) (hk : kLook (kNl (oC y)) idx = some ci) (hlt : m.2.2.2 < 95) (hat : (kAt m.2.2.2).1 = ci) (hc6 : ci < 6) (hcc : cells + 1 ≤ R.cells) (hss : slots + kSz m.2.2.2 ≤ R.slots) (hd : decode (mB y) pc = .ok (.new idx, 3))
    (kk : ∀ H1 : Heap, kRep E (kFresh m) H1 → va_S (kA E) s.heap H1 locs → W p l e R s mm args below meth c H1 locs (cells + 1) (slots + kSz m.2.2.2) Q (F0 mm (pc + 3) LS (kVa E (.ref m.2.2.2) :: r))) : W p l e R s mm args below meth c H locs cells slots Q (F0 mm pc LS r) := by
  obtain ⟨hx, hb, hml, hown, hF, hnm, hr, hlk, hfr, hlo, hm1⟩ := id C
  obtain ⟨-, hw⟩ := kN _ _ (kLook_mem hk)
  have hsz : kSz m.2.2.2 = kNf ci := by unfold kSz; rw [hat, if_pos (by omega)]
  rw [hsz] at hss kk
  refine kt_size hR hS h0 hc (fun hz => ?_)
  have hKn := hF.2.2.2.1.1 ci _ (kCl_at ci hc6)
  have hini : (Cond.initialized (kRn ci)).before args s = true := by
    rw [kRnOn ci hc6]
    exact kt_w C (kIni ci (by omega)) rfl
  refine W.newcK hx hb hown (kt_w C hw rfl) (kt_w C (kIns ci hc6) rfl) hini (g := F0 mm pc LS r) rfl hd hcc hss hKn.2.1 hz (fun H1 kC hkC e1 z1 o1 => ?_)
  rw [kVa_ref (by omega)] at kk
  refine kk H1 (kt_fresh hR hlt (fun q hq => o1 q (by omega)) ?_) (kt_S hS (by omega) (fun q hq => o1 q (by omega)))
  rw [kCe_obj hat hc6]
  exact ⟨_, kCl_at ci hc6, (u_born (args := args) (kTyf ci) (kt_wd C) (kt_in hc6) hKn hkC e1 (kHty ci hc6)).to (kt_zero hc6 _ _ kRow_eq kRow_eq kRow_eq)⟩
theorem kt_arrC (hF : kFix E s) {kd : Nat} {ty : FieldType} (h : (kd = 10 ∧ ty = .int) ∨ (kd = 11 ∧ ty = .boolean)) : s.vm.findClass ("[" ++ ty.toString) = some (eC E kd) := by
  rcases h with ⟨rfl, rfl⟩ | ⟨rfl, rfl⟩
  · exact (hF.2.2.2.1.2 0 _ (kt_tl E).1).2
  · exact (hF.2.2.2.1.2 1 _ (kt_tl E).2.1).2
theorem kt_newa (C : kCtx E y p R s mm meth c) (hR : kRep E m H) (hS : va_S (kA E) s.heap H locs) {nx0 kd : Nat} {at0 : ClassFile.ArrayType} {n : Int32} (h0 : s.heap.size = eB E + nx0) (hc : m.2.2.2 = nx0 + cells) (hlt : m.2.2.2 < 95) (hat : kAt m.2.2.2 = (kd, n.toNatClampNeg)) (hkd : (kd = 10 ∧ at0 = .int) ∨ (kd = 11 ∧ at0 = .boolean)) (hn : ¬ n < 0) (hn2 : n.toNatClampNeg ≤ 2000) (hcc : cells + 1 ≤ R.cells) (hss : slots + kSz m.2.2.2 ≤ R.slots) (hd : decode (mB y) pc = .ok (.newarray at0, 2))
    (kk : ∀ H1 : Heap, kRep E (kFresh m) H1 → va_S (kA E) s.heap H1 locs → W p l e R s mm args below meth c H1 locs (cells + 1) (slots + kSz m.2.2.2) Q (F0 mm (pc + 2) LS (kVa E (.ref m.2.2.2) :: r))) : W p l e R s mm args below meth c H locs cells slots Q (F0 mm pc LS (.int n :: r)) := by
  obtain ⟨hx, hb, hml, hown, hF, hnm, hr, hlk, hfr, hlo, hm1⟩ := id C
  have hk2 : kd = 10 ∨ kd = 11 := by rcases hkd with h | h <;> omega
  have hsz : kSz m.2.2.2 = n.toNatClampNeg := by unfold kSz; rw [hat, if_neg (by simp only; omega)]
  rw [hsz] at hss kk
  refine kt_size hR hS h0 hc (fun hz => ?_)
  rw [kVa_ref (by omega)] at kk
  have fin : ∀ (H' : Heap) (cA : ClassId) (f0 : Nat → Value), (∀ j, f0 j = .int 0) → cA = eC E kd → H'[eB E + m.2.2.2]? = some (arrV cA n.toNatClampNeg f0) → H'.size = eB E + m.2.2.2 + 1 → (∀ q, q < eB E + m.2.2.2 → H'[q]? = H[q]?) → W p l e R s mm args below meth c H' locs (cells + 1) (slots + n.toNatClampNeg) Q (F0 mm (pc + 2) LS (.ref (eB E + m.2.2.2) :: r)) := by
    intro H' cA f0 hf0 hcA e1 z1 o1
    refine kk H' (kt_fresh hR hlt (fun q hq => o1 q (by omega)) ?_) (kt_S hS (by omega) (fun q hq => o1 q (by omega)))
    rw [kCe_int (kd := kd) (n := n.toNatClampNeg) ⟨by rw [hat], by rw [hat]⟩ hk2]
    show H'[_]? = some (vp_cell _ _)
    rw [vp_cell_i, e1, hcA]
    have : (fun j => Value.int ((kFresh m).1 m.2.2.2 j)) = f0 := by
      funext j
      rw [hf0 j]
      show Value.int (kRow m.1 m.2.2.2 (fun _ => 0) m.2.2.2 j) = _
      rw [kRow_eq]
    rw [this]
  rcases hkd with ⟨rfl, rfl⟩ | ⟨rfl, rfl⟩
  · refine va_newaK (atype := .int) hx hb (kt_w C kAc.1 rfl) (g := F0 mm pc LS (.int n :: r)) rfl hd rfl hn rfl ?_ hcc hss hz (fun H' cA e1 z1 o1 _ hNm => fin H' cA _ (fun _ => rfl) ?_ e1 z1 o1)
    · show n.toNatClampNeg * 4 ≤ _
      omega
    · exact Option.some.inj (hNm.symm.trans (kt_arrC hF (Or.inl ⟨rfl, rfl⟩)))
  · refine va_newaK (atype := .boolean) hx hb (kt_w C kAc.2.1 rfl) (g := F0 mm pc LS (.int n :: r)) rfl hd rfl hn rfl ?_ hcc hss hz (fun H' cA e1 z1 o1 _ hNm => fin H' cA _ (fun _ => rfl) ?_ e1 z1 o1)
    · show n.toNatClampNeg * 1 ≤ _
      omega
    · exact Option.some.inj (hNm.symm.trans (kt_arrC hF (Or.inr ⟨rfl, rfl⟩)))
theorem kt_newq (C : kCtx E y p R s mm meth c) (hR : kRep E m H) (hS : va_S (kA E) s.heap H locs) {nx0 kd ci idx : Nat} {n : Int32} (h0 : s.heap.size = eB E + nx0) (hc : m.2.2.2 = nx0 + cells) (hlt : m.2.2.2 < 95) (hk : kLook (kNl (oC y)) idx = some ci) (hat : kAt m.2.2.2 = (kd, n.toNatClampNeg)) (hkd : (kd = 12 ∧ ci = 1) ∨ (kd = 13 ∧ ci = 2)) (hn : ¬ n < 0) (hn2 : n.toNatClampNeg ≤ 2000) (hcc : cells + 1 ≤ R.cells) (hss : slots + kSz m.2.2.2 ≤ R.slots) (hd : decode (mB y) pc = .ok (.anewarray idx, 3))
    (kk : ∀ H1 : Heap, kRep E (kFresh m) H1 → va_S (kA E) s.heap H1 locs → W p l e R s mm args below meth c H1 locs (cells + 1) (slots + kSz m.2.2.2) Q (F0 mm (pc + 3) LS (kVa E (.ref m.2.2.2) :: r))) : W p l e R s mm args below meth c H locs cells slots Q (F0 mm pc LS (.int n :: r)) := by
  obtain ⟨hx, hb, hml, hown, hF, hnm, hr, hlk, hfr, hlo, hm1⟩ := id C
  obtain ⟨-, hw⟩ := kN _ _ (kLook_mem hk)
  have hk2 : kd = 12 ∨ kd = 13 := by omega
  have hsz : kSz m.2.2.2 = n.toNatClampNeg := by unfold kSz; rw [hat, if_neg (by simp only; omega)]
  rw [hsz] at hss kk
  refine kt_size hR hS h0 hc (fun hz => ?_)
  rw [kVa_ref (by omega)] at kk
  have fin : ∀ (C0 : String) (cA : ClassId), cA = eC E kd → W p l e R s mm args below meth c (H.push { cls := cA, slots := Array.replicate n.toNatClampNeg .null, vm := .none }) locs (cells + 1) (slots + n.toNatClampNeg) Q (F0 mm (pc + 3) LS (.ref (eB E + m.2.2.2) :: r)) := by
    intro C0 cA hcA
    have o1 : ∀ q, q < H.size → (H.push ({ cls := cA, slots := Array.replicate n.toNatClampNeg .null, vm := .none } : Cell))[q]? = H[q]? := fun q hq => by
      rw [Array.getElem?_push, if_neg (Nat.ne_of_lt hq)]
    refine kk _ (kt_fresh hR hlt o1 ?_) (kt_S hS (by simp) o1)
    rw [kCe_ref (kd := kd) (n := n.toNatClampNeg) ⟨by rw [hat], by rw [hat]⟩ hk2]
    show (H.push _)[_]? = some (vp_cell _ _)
    rw [vp_cell_q, ← hz, Array.getElem?_push_size, hcA]
    have : (fun j => va_rf (((kFresh m).2.2.1 m.2.2.2 j).map (kAd E))) = fun _ => Value.null := by
      funext j
      show va_rf ((kRow m.2.2.1 m.2.2.2 (fun _ => none) m.2.2.2 j).map _) = _
      rw [kRow_eq]
      rfl
    rw [this, ← arrV_new]
  have hfc : s.vm.findClass ("[" ++ (FieldType.object (kRn ci)).toString) = some (eC E kd) := by
    rcases hkd with ⟨rfl, rfl⟩ | ⟨rfl, rfl⟩
    · obtain ⟨_, _, _, _, _, h⟩ := (hF.2.2.2.1.2 2 _ (kt_tl E).2.2.1).2
      exact h
    · obtain ⟨_, _, _, _, _, h⟩ := (hF.2.2.2.1.2 3 _ (kt_tl E).2.2.2).2
      exact h
  have hover : va_AO (kRn ci) s := by
    rcases hkd with ⟨rfl, rfl⟩ | ⟨rfl, rfl⟩
    · exact hF.2.2.1.1
    · exact hF.2.2.1.2
  refine W.anew hx hb hown (kt_w C hw rfl) (va_AO.use hover) (g := F0 mm pc LS (.int n :: r)) rfl hd rfl hn (by omega) hcc hss (fun cA kA comp f1 f2 f3 f4 => ?_)
  show W p l e R s mm args below meth c _ locs _ _ Q (F0 mm (pc + 3) LS (.ref H.size :: r))
  rw [hz]
  exact fin (kRn ci) cA (Option.some.inj (f1.symm.trans hfc))
end KAL
