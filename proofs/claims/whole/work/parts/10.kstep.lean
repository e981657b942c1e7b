theorem k_1000 {q : Nat} (h1 : 1000 ≤ q) (h2 : q < 1006) : ∃ i : Nat, i < 6 ∧ q = 1000 + i := ⟨q - 1000, by omega, by omega⟩
section KST
variable {p : Program} {l : Launch} {e : Env} {R : Room} {s : State} {mm : MethodId} {args : Array Value} {below : List Frame} {meth : Method} {c : Code} {Q : State → Prop}
variable {E : kEn}
/-- the two members of String over the constants -/
def kStr (l : Launch) (E : kEn) : Prop :=
  (∀ {p : Program} {e : Env} {R : Room} {s : State} {mm : MethodId} {args : Array Value} {below : List Frame} {meth : Method} {c : Code} {H : Heap} {locs : List Loc} {cells slots : Nat} {Q : State → Prop} {y pc idx i : Nat} {LS : Array Slot} {r : List Value}, kCtx E y p R s mm meth c → va_S (kA E) s.heap H locs → cells ≤ R.cells → slots ≤ R.slots → LS.size = mL y → kLook (kPl (oC y)) idx = some 2 → i < 6 → (r.map fun v => v.category).sum ≤ 8 → decode (mB y) pc = .ok (.invokevirtual idx, 3) →
    (∀ (H1 : Heap) (locs1 : List Loc), H1 = H → va_S (kA E) s.heap H1 locs1 → W p l e R s mm args below meth c H1 locs1 cells slots Q (F0 mm (pc + 3) LS (.int (nI (kTx i).length) :: r))) → W p l e R s mm args below meth c H locs cells slots Q (F0 mm pc LS (.ref (eK E i) :: r))) ∧
  (∀ {p : Program} {e : Env} {R : Room} {s : State} {mm : MethodId} {args : Array Value} {below : List Frame} {meth : Method} {c : Code} {H : Heap} {locs : List Loc} {cells slots : Nat} {Q : State → Prop} {y pc idx i : Nat} {k : Int32} {LS : Array Slot} {r : List Value}, kCtx E y p R s mm meth c → va_S (kA E) s.heap H locs → cells ≤ R.cells → slots ≤ R.slots → LS.size = mL y → kLook (kPl (oC y)) idx = some 3 → i < 6 → vp_in k (kTx i).length → (r.map fun v => v.category).sum ≤ 8 → decode (mB y) pc = .ok (.invokevirtual idx, 3) →
    (∀ (H1 : Heap) (locs1 : List Loc), H1 = H → va_S (kA E) s.heap H1 locs1 → W p l e R s mm args below meth c H1 locs1 cells slots Q (F0 mm (pc + 3) LS (.int ((kTx i).getD k.toNatClampNeg 0) :: r))) → W p l e R s mm args below meth c H locs cells slots Q (F0 mm pc LS (.int k :: .ref (eK E i) :: r)))
set_option maxHeartbeats 4000000 in
theorem k_step (hstr : kStr l E) {y pc len pc' nx0 cells slots : Nat} {i : ClassFile.Instr} {ls ls' : kLcs} {st st' : List Value} {m m' : kMem} {H : Heap} {locs : List Loc} {LS : Array Slot} (C : kCtx E y p R s mm meth c) (hd : decode (mB y) pc = .ok (i, len)) (hs : kst y pc i len ls st m = some (.inl (pc', ls', st', m'))) (hR : kRep E m H) (hS : va_S (kA E) s.heap H locs) (hL : kLR E LS ls) (hll : ls.length = mL y)
    (h0 : s.heap.size = eB E + nx0) (hc : m.2.2.2 = nx0 + cells) (hsl : kSlt m.2.2.2 = kSlt nx0 + slots) (hRc : m'.2.2.2 ≤ nx0 + R.cells) (hRs : kSlt m'.2.2.2 ≤ kSlt nx0 + R.slots)
    (kk : ∀ (H1 : Heap) (locs1 : List Loc) (LS1 : Array Slot) (cells1 slots1 : Nat), ls'.length = mL y → m'.2.2.2 = nx0 + cells1 → kSlt m'.2.2.2 = kSlt nx0 + slots1 → kRep E m' H1 → va_S (kA E) s.heap H1 locs1 → kLR E LS1 ls' → W p l e R s mm args below meth c H1 locs1 cells1 slots1 Q (F0 mm pc' LS1 (st'.map (kVa E)))) :
    W p l e R s mm args below meth c H locs cells slots Q (F0 mm pc LS (st.map (kVa E))) := by
  have hx : p.tables.exec = Jvm.exec := C.1
  have hb : c.code = mB y := C.2.1
  have hown : s.vm.findClass (kOn (oC y)) = some mm.cls := C.2.2.2.1
  have hLS : LS.size = mL y := hL.1.trans hll
  have hnx : m.2.2.2 ≤ m'.2.2.2 := kst_nx (m := m) _ hs
  have hcR : cells ≤ R.cells := by omega
  have hsR : slots ≤ R.slots := by have := kSlt_mono hnx; omega
  cases i
  all_goals first | (have h9 : (none : Option kOut) = some (.inl (pc', ls', st', m')) := hs; cases h9; done) | skip
  case aaload =>
    obtain ⟨rfl, h1⟩ := kIf_inv hs
    unfold kAaL at h1
    split at h1
    · split at h1
      · next n ha =>
        obtain ⟨hin, h2⟩ := kIf_inv h1
        cases h2
        exact kt_aald C hR ha (Or.inl rfl) hin hd (kk _ _ _ _ _ hll hc hsl hR hS hL)
      · split at h1
        · next n ha =>
          obtain ⟨hin, h2⟩ := kIf_inv h1
          cases h2
          exact kt_aald C hR ha (Or.inr rfl) hin hd (kk _ _ _ _ _ hll hc hsl hR hS hL)
        · cases h1
    · cases h1
  case aastore =>
    obtain ⟨rfl, h1⟩ := kIf_inv hs
    unfold kAaS at h1
    split at h1
    · split at h1
      · next n ha =>
        obtain ⟨⟨hin, hv, hv2⟩, h2⟩ := kIf_inv h1
        cases h2
        exact kt_aast C hR hS ha (Or.inl ⟨rfl, rfl⟩) hv hin hd (fun H1 locs1 hR1 hS1 => kk _ _ _ _ _ hll hc hsl hR1 hS1 hL)
      · split at h1
        · next n ha =>
          obtain ⟨⟨hin, hv, hv2⟩, h2⟩ := kIf_inv h1
          cases h2
          exact kt_aast C hR hS ha (Or.inr ⟨rfl, rfl⟩) hv hin hd (fun H1 locs1 hR1 hS1 => kk _ _ _ _ _ hll hc hsl hR1 hS1 hL)
        · cases h1
    · cases h1
  case aload k =>
    obtain ⟨rfl, h1⟩ := kIf_inv hs
    obtain ⟨x, hx1, rfl, rfl, rfl, rfl⟩ := kLd_ref h1
    exact lv_aload hx hb hd (hL.2.2 _ _ hx1) (kk _ _ _ _ _ hll hc hsl hR hS hL)
  case aload_n k =>
    obtain ⟨rfl, h1⟩ := kIf_inv hs
    obtain ⟨x, hx1, rfl, rfl, rfl, rfl⟩ := kLd_ref h1
    exact lv_aload_n hx hb hd rfl (hL.2.2 _ _ hx1) (kk _ _ _ _ _ hll hc hsl hR hS hL)
  case iload k =>
    obtain ⟨rfl, h1⟩ := kIf_inv hs
    obtain ⟨x, hx1, rfl, rfl, rfl, rfl⟩ := kLd_int h1
    exact lv_iload hx hb hd (hL.2.2 _ _ hx1) (kk _ _ _ _ _ hll hc hsl hR hS hL)
  case iload_n k =>
    obtain ⟨rfl, h1⟩ := kIf_inv hs
    obtain ⟨x, hx1, rfl, rfl, rfl, rfl⟩ := kLd_int h1
    exact lv_iload_n hx hb hd rfl (hL.2.2 _ _ hx1) (kk _ _ _ _ _ hll hc hsl hR hS hL)
  case lload k =>
    obtain ⟨rfl, h1⟩ := kIf_inv hs
    obtain ⟨x, hx1, rfl, rfl, rfl, rfl⟩ := kLd_long h1
    exact lv_lload hx hb hd (hL.2.2 _ _ hx1) (kk _ _ _ _ _ hll hc hsl hR hS hL)
  case lload_n k =>
    obtain ⟨rfl, h1⟩ := kIf_inv hs
    obtain ⟨x, hx1, rfl, rfl, rfl, rfl⟩ := kLd_long h1
    exact lv_lload_n hx hb hd rfl (hL.2.2 _ _ hx1) (kk _ _ _ _ _ hll hc hsl hR hS hL)
  case istore k =>
    obtain ⟨rfl, h1⟩ := kIf_inv hs
    obtain ⟨x, r, rfl, hi, hp, rfl, rfl, rfl, rfl⟩ := kSt_int h1
    exact lv_istore hx hb hd (klv_has hL) hi rfl (fun LS1 h9 => kk _ _ _ _ _ (by rw [List.length_set]; exact hll) hc hsl hR hS (klv_st1 hp h9))
  case istore_n k =>
    obtain ⟨rfl, h1⟩ := kIf_inv hs
    obtain ⟨x, r, rfl, hi, hp, rfl, rfl, rfl, rfl⟩ := kSt_int h1
    exact lv_istore_n hx hb hd rfl (klv_has hL) hi rfl (fun LS1 h9 => kk _ _ _ _ _ (by rw [List.length_set]; exact hll) hc hsl hR hS (klv_st1 hp h9))
  case astore k =>
    obtain ⟨rfl, h1⟩ := kIf_inv hs
    obtain ⟨x, r, rfl, hi, hp, rfl, rfl, rfl, rfl⟩ := kSt_ref h1
    exact lv_astore hx hb hd (klv_has hL) hi rfl (fun LS1 h9 => kk _ _ _ _ _ (by rw [List.length_set]; exact hll) hc hsl hR hS (klv_st1 (v := .ref x) hp h9))
  case astore_n k =>
    obtain ⟨rfl, h1⟩ := kIf_inv hs
    obtain ⟨x, r, rfl, hi, hp, rfl, rfl, rfl, rfl⟩ := kSt_ref h1
    exact lv_astore_n hx hb hd rfl (klv_has hL) hi rfl (fun LS1 h9 => kk _ _ _ _ _ (by rw [List.length_set]; exact hll) hc hsl hR hS (klv_st1 (v := .ref x) hp h9))
  case lstore k =>
    obtain ⟨rfl, h1⟩ := kIf_inv hs
    obtain ⟨x, r, rfl, hi, hp, rfl, rfl, rfl, rfl⟩ := kSt_long h1
    exact lv_lstore hx hb hd (klv_has hL) hi rfl (fun LS1 h9 => kk _ _ _ _ _ (by rw [List.length_set, List.length_set]; exact hll) hc hsl hR hS (klv_st2 hp h9))
  case lstore_n k =>
    obtain ⟨rfl, h1⟩ := kIf_inv hs
    obtain ⟨x, r, rfl, hi, hp, rfl, rfl, rfl, rfl⟩ := kSt_long h1
    exact lv_lstore_n hx hb hd rfl (klv_has hL) hi rfl (fun LS1 h9 => kk _ _ _ _ _ (by rw [List.length_set, List.length_set]; exact hll) hc hsl hR hS (klv_st2 hp h9))
  case iinc k n =>
    obtain ⟨rfl, h1⟩ := kIf_inv hs
    split at h1
    · next x hg =>
      obtain ⟨⟨hi, hp⟩, h2⟩ := kIf_inv h1
      cases h2
      have hx1 : ls[k]? = some (some (.int x)) := by
        rw [List.getD_eq_getElem?_getD] at hg
        cases hq : ls[k]? with
        | none => rw [hq] at hg; cases hg
        | some v => rw [hq] at hg; exact congrArg some hg
      obtain ⟨j, hj⟩ := List.getElem?_of_mem (klv_in (E := E) hx1)
      exact lv_iinc hx hb hd (klv_has hL) (k := j) hj rfl hi rfl (fun LS1 h9 => kk _ _ _ _ _ (by rw [List.length_set]; exact hll) hc hsl hR hS (klv_st1 hp h9))
    · cases h1
  case iconst n =>
    obtain ⟨rfl, h1⟩ := kIf_inv hs
    cases h1
    exact lv_iconst hx hb hd rfl (kk _ _ _ _ _ hll hc hsl hR hS hL)
  case bipush n =>
    obtain ⟨rfl, h1⟩ := kIf_inv hs
    cases h1
    exact lv_bipush hx hb hd rfl (kk _ _ _ _ _ hll hc hsl hR hS hL)
  case sipush n =>
    obtain ⟨rfl, h1⟩ := kIf_inv hs
    cases h1
    exact lv_sipush hx hb hd rfl (kk _ _ _ _ _ hll hc hsl hR hS hL)
  case lconst n =>
    obtain ⟨rfl, h1⟩ := kIf_inv hs
    cases h1
    exact lv_lconst hx hb hd rfl (kk _ _ _ _ _ hll hc hsl hR hS hL)
  case ldc k =>
    obtain ⟨rfl, h1⟩ := kIf_inv hs
    split at h1
    · next x hk =>
      cases h1
      have hw : Cond.constant (kOn (oC y)) k x ∈ lw_tbl := kI _ _ (kLook_mem hk)
      exact lv_ldc hx hb hown (kt_w C hw rfl) hd (kk _ _ _ _ _ hll hc hsl hR hS hL)
    · split at h1
      · next t hk =>
        cases h1
        obtain ⟨ho, ht, hki⟩ := kS _ _ (kLook_mem hk)
        have hki : k = kSi t := hki
        have ho : oC y = 3 := ho
        rw [ho] at hown
        have hz := C.2.2.2.2.1.2.2.2.2.1 t ht
        rw [← hki] at hz
        refine va_ldcS hx hb hown hz hd ?_
        have hw := kk _ _ _ _ _ hll hc hsl hR hS hL
        rw [List.map_cons, kVa_str ht] at hw
        exact hw
      · cases h1
  case ldc_w k =>
    obtain ⟨rfl, h1⟩ := kIf_inv hs
    split at h1
    · next x hk =>
      cases h1
      have hw : Cond.constant (kOn (oC y)) k x ∈ lw_tbl := kI _ _ (kLook_mem hk)
      exact lv_ldcw hx hb hown (kt_w C hw rfl) hd (kk _ _ _ _ _ hll hc hsl hR hS hL)
    · cases h1
  case ldc2_w k =>
    obtain ⟨rfl, h1⟩ := kIf_inv hs
    split at h1
    · next x hk =>
      cases h1
      have hw : Cond.constantLong (kOn (oC y)) k x ∈ lw_tbl := kL _ _ (kLook_mem hk)
      exact lv_ldc2 hx hb hown (kt_w C hw rfl) hd (kk _ _ _ _ _ hll hc hsl hR hS hL)
    · cases h1
  case iadd =>
    obtain ⟨rfl, h1⟩ := kIf_inv hs
    obtain ⟨a, b, r, rfl, rfl, rfl, rfl, rfl⟩ := kBin_inv h1
    exact lv_iadd hx hb hd (kk _ _ _ _ _ hll hc hsl hR hS hL)
  case isub =>
    obtain ⟨rfl, h1⟩ := kIf_inv hs
    obtain ⟨a, b, r, rfl, rfl, rfl, rfl, rfl⟩ := kBin_inv h1
    exact lv_isub hx hb hd (kk _ _ _ _ _ hll hc hsl hR hS hL)
  case imul =>
    obtain ⟨rfl, h1⟩ := kIf_inv hs
    obtain ⟨a, b, r, rfl, rfl, rfl, rfl, rfl⟩ := kBin_inv h1
    exact lv_imul hx hb hd (kk _ _ _ _ _ hll hc hsl hR hS hL)
  case iand =>
    obtain ⟨rfl, h1⟩ := kIf_inv hs
    obtain ⟨a, b, r, rfl, rfl, rfl, rfl, rfl⟩ := kBin_inv h1
    exact lv_iand hx hb hd (kk _ _ _ _ _ hll hc hsl hR hS hL)
  case ior =>
    obtain ⟨rfl, h1⟩ := kIf_inv hs
    obtain ⟨a, b, r, rfl, rfl, rfl, rfl, rfl⟩ := kBin_inv h1
    exact lv_ior hx hb hd (kk _ _ _ _ _ hll hc hsl hR hS hL)
  case ishl =>
    obtain ⟨rfl, h1⟩ := kIf_inv hs
    obtain ⟨a, b, r, rfl, rfl, rfl, rfl, rfl⟩ := kBin_inv h1
    exact lv_ishl hx hb hd (kk _ _ _ _ _ hll hc hsl hR hS hL)
  case ishr =>
    obtain ⟨rfl, h1⟩ := kIf_inv hs
    obtain ⟨a, b, r, rfl, rfl, rfl, rfl, rfl⟩ := kBin_inv h1
    exact lv_ishr hx hb hd (kk _ _ _ _ _ hll hc hsl hR hS hL)
  case iushr =>
    obtain ⟨rfl, h1⟩ := kIf_inv hs
    obtain ⟨a, b, r, rfl, rfl, rfl, rfl, rfl⟩ := kBin_inv h1
    exact lv_iushr hx hb hd rfl (kk _ _ _ _ _ hll hc hsl hR hS hL)
  case idiv =>
    obtain ⟨rfl, h1⟩ := kIf_inv hs
    split at h1
    · obtain ⟨hne, h2⟩ := kIf_inv h1
      cases h2
      exact lv_idiv hx hb hd hne (kk _ _ _ _ _ hll hc hsl hR hS hL)
    · cases h1
  case irem =>
    obtain ⟨rfl, h1⟩ := kIf_inv hs
    split at h1
    · obtain ⟨hne, h2⟩ := kIf_inv h1
      cases h2
      exact lv_irem hx hb hd hne (kk _ _ _ _ _ hll hc hsl hR hS hL)
    · cases h1
  case ladd =>
    obtain ⟨rfl, h1⟩ := kIf_inv hs
    obtain ⟨a, b, r, rfl, rfl, rfl, rfl, rfl⟩ := kBinL_inv h1
    exact lv_ladd hx hb hd (kk _ _ _ _ _ hll hc hsl hR hS hL)
  case lmul =>
    obtain ⟨rfl, h1⟩ := kIf_inv hs
    obtain ⟨a, b, r, rfl, rfl, rfl, rfl, rfl⟩ := kBinL_inv h1
    exact lv_lmul hx hb hd (kk _ _ _ _ _ hll hc hsl hR hS hL)
  case ldiv =>
    obtain ⟨rfl, h1⟩ := kIf_inv hs
    split at h1
    · obtain ⟨hne, h2⟩ := kIf_inv h1
      cases h2
      exact lv_ldiv hx hb hd hne (kk _ _ _ _ _ hll hc hsl hR hS hL)
    · cases h1
  case lrem =>
    obtain ⟨rfl, h1⟩ := kIf_inv hs
    split at h1
    · obtain ⟨hne, h2⟩ := kIf_inv h1
      cases h2
      exact lv_lrem hx hb hd hne (kk _ _ _ _ _ hll hc hsl hR hS hL)
    · cases h1
  case lcmp =>
    obtain ⟨rfl, h1⟩ := kIf_inv hs
    split at h1
    · cases h1
      exact W.lcmp hx hb hd (kk _ _ _ _ _ hll hc hsl hR hS hL)
    · cases h1
  case ineg =>
    obtain ⟨rfl, h1⟩ := kIf_inv hs
    obtain ⟨a, r, rfl, rfl, rfl, rfl, rfl⟩ := kUn_inv h1
    exact lv_ineg hx hb hd (kk _ _ _ _ _ hll hc hsl hR hS hL)
  case i2b =>
    obtain ⟨rfl, h1⟩ := kIf_inv hs
    obtain ⟨a, r, rfl, rfl, rfl, rfl, rfl⟩ := kUn_inv h1
    exact lv_i2b hx hb hd rfl (kk _ _ _ _ _ hll hc hsl hR hS hL)
  case i2s =>
    obtain ⟨rfl, h1⟩ := kIf_inv hs
    obtain ⟨a, r, rfl, rfl, rfl, rfl, rfl⟩ := kUn_inv h1
    exact lv_i2s hx hb hd rfl (kk _ _ _ _ _ hll hc hsl hR hS hL)
  case i2l =>
    obtain ⟨rfl, h1⟩ := kIf_inv hs
    split at h1
    · cases h1
      exact lv_i2l hx hb hd rfl (kk _ _ _ _ _ hll hc hsl hR hS hL)
    · cases h1
  case dup =>
    obtain ⟨rfl, h1⟩ := kIf_inv hs
    split at h1
    · obtain ⟨hv, h2⟩ := kIf_inv h1
      cases h2
      exact lv_dup hx hb hd (by rw [kVa_cat]; exact hv) (kk _ _ _ _ _ hll hc hsl hR hS hL)
    · cases h1
  case pop =>
    obtain ⟨rfl, h1⟩ := kIf_inv hs
    split at h1
    · obtain ⟨hv, h2⟩ := kIf_inv h1
      cases h2
      exact lv_pop hx hb hd (by rw [kVa_cat]; exact hv) (kk _ _ _ _ _ hll hc hsl hR hS hL)
    · cases h1
  case dup2 =>
    obtain ⟨rfl, h1⟩ := kIf_inv hs
    split at h1
    · obtain ⟨hv, h2⟩ := kIf_inv h1
      cases h2
      exact lv_dup2_11 hx hb hd (by rw [kVa_cat]; exact hv.1) (by rw [kVa_cat]; exact hv.2) (kk _ _ _ _ _ hll hc hsl hR hS hL)
    · cases h1
  case goto off =>
    obtain ⟨rfl, h1⟩ := kIf_inv hs
    obtain ⟨ht, rfl, rfl, rfl⟩ := kJmp_inv h1
    exact lv_goto hx hb hd ht (kk _ _ _ _ _ hll hc hsl hR hS hL)
  case ifCond cnd off =>
    obtain ⟨⟨rfl, hpo⟩, h1⟩ := kIf_inv hs
    split at h1
    · next a r =>
      cases cnd
      case eq =>
        replace h1 : (if a = 0 then kJmp pc off ls r m else kGo (pc + 3) ls r m) = some (.inl (pc', ls', st', m')) := h1
        by_cases q : a = 0
        · rw [if_pos q] at h1
          obtain ⟨ht, rfl, rfl, rfl⟩ := kJmp_inv h1
          exact lv_if_eq hx hb hd ht (fun _ => kk _ _ _ _ _ hll hc hsl hR hS hL) (fun h => absurd q h)
        · rw [if_neg q] at h1
          obtain ⟨rfl, rfl, rfl, rfl⟩ := kGo_inv h1
          exact lv_if_eq (tgt := ((pc : Int) + off).toNat) hx hb hd (by omega) (fun h => absurd h q) (fun _ => kk _ _ _ _ _ hll hc hsl hR hS hL)
      case ne =>
        replace h1 : (if a = 0 then kGo (pc + 3) ls r m else kJmp pc off ls r m) = some (.inl (pc', ls', st', m')) := h1
        by_cases q : a = 0
        · rw [if_pos q] at h1
          obtain ⟨rfl, rfl, rfl, rfl⟩ := kGo_inv h1
          exact lv_if_ne (tgt := ((pc : Int) + off).toNat) hx hb hd (by omega) (fun h => absurd q h) (fun _ => kk _ _ _ _ _ hll hc hsl hR hS hL)
        · rw [if_neg q] at h1
          obtain ⟨ht, rfl, rfl, rfl⟩ := kJmp_inv h1
          exact lv_if_ne hx hb hd ht (fun _ => kk _ _ _ _ _ hll hc hsl hR hS hL) (fun h => absurd h q)
      case lt =>
        replace h1 : (if a < 0 then kJmp pc off ls r m else kGo (pc + 3) ls r m) = some (.inl (pc', ls', st', m')) := h1
        by_cases q : a < 0
        · rw [if_pos q] at h1
          obtain ⟨ht, rfl, rfl, rfl⟩ := kJmp_inv h1
          exact lv_if_lt hx hb hd ht (fun _ => kk _ _ _ _ _ hll hc hsl hR hS hL) (fun h => absurd q h)
        · rw [if_neg q] at h1
          obtain ⟨rfl, rfl, rfl, rfl⟩ := kGo_inv h1
          exact lv_if_lt (tgt := ((pc : Int) + off).toNat) hx hb hd (by omega) (fun h => absurd h q) (fun _ => kk _ _ _ _ _ hll hc hsl hR hS hL)
      case ge =>
        replace h1 : (if 0 ≤ a then kJmp pc off ls r m else kGo (pc + 3) ls r m) = some (.inl (pc', ls', st', m')) := h1
        by_cases q : 0 ≤ a
        · rw [if_pos q] at h1
          obtain ⟨ht, rfl, rfl, rfl⟩ := kJmp_inv h1
          exact lv_if_ge hx hb hd ht (fun _ => kk _ _ _ _ _ hll hc hsl hR hS hL) (fun h => absurd q h)
        · rw [if_neg q] at h1
          obtain ⟨rfl, rfl, rfl, rfl⟩ := kGo_inv h1
          exact lv_if_ge (tgt := ((pc : Int) + off).toNat) hx hb hd (by omega) (fun h => absurd h q) (fun _ => kk _ _ _ _ _ hll hc hsl hR hS hL)
      case gt =>
        replace h1 : (if 0 < a then kJmp pc off ls r m else kGo (pc + 3) ls r m) = some (.inl (pc', ls', st', m')) := h1
        by_cases q : 0 < a
        · rw [if_pos q] at h1
          obtain ⟨ht, rfl, rfl, rfl⟩ := kJmp_inv h1
          exact lv_if_gt hx hb hd ht (fun _ => kk _ _ _ _ _ hll hc hsl hR hS hL) (fun h => absurd q h)
        · rw [if_neg q] at h1
          obtain ⟨rfl, rfl, rfl, rfl⟩ := kGo_inv h1
          exact lv_if_gt (tgt := ((pc : Int) + off).toNat) hx hb hd (by omega) (fun h => absurd h q) (fun _ => kk _ _ _ _ _ hll hc hsl hR hS hL)
      case le =>
        replace h1 : (if a ≤ 0 then kJmp pc off ls r m else kGo (pc + 3) ls r m) = some (.inl (pc', ls', st', m')) := h1
        by_cases q : a ≤ 0
        · rw [if_pos q] at h1
          obtain ⟨ht, rfl, rfl, rfl⟩ := kJmp_inv h1
          exact lv_if_le hx hb hd ht (fun _ => kk _ _ _ _ _ hll hc hsl hR hS hL) (fun h => absurd q h)
        · rw [if_neg q] at h1
          obtain ⟨rfl, rfl, rfl, rfl⟩ := kGo_inv h1
          exact lv_if_le (tgt := ((pc : Int) + off).toNat) hx hb hd (by omega) (fun h => absurd h q) (fun _ => kk _ _ _ _ _ hll hc hsl hR hS hL)
    · cases h1
  case if_icmp cnd off =>
    obtain ⟨⟨rfl, hpo⟩, h1⟩ := kIf_inv hs
    split at h1
    · next b a r =>
      cases cnd
      case eq =>
        replace h1 : (if a = b then kJmp pc off ls r m else kGo (pc + 3) ls r m) = some (.inl (pc', ls', st', m')) := h1
        by_cases q : a = b
        · rw [if_pos q] at h1
          obtain ⟨ht, rfl, rfl, rfl⟩ := kJmp_inv h1
          exact lv_icmp_eq hx hb hd ht (fun _ => kk _ _ _ _ _ hll hc hsl hR hS hL) (fun h => absurd q h)
        · rw [if_neg q] at h1
          obtain ⟨rfl, rfl, rfl, rfl⟩ := kGo_inv h1
          exact lv_icmp_eq (tgt := ((pc : Int) + off).toNat) hx hb hd (by omega) (fun h => absurd h q) (fun _ => kk _ _ _ _ _ hll hc hsl hR hS hL)
      case ne =>
        replace h1 : (if a = b then kGo (pc + 3) ls r m else kJmp pc off ls r m) = some (.inl (pc', ls', st', m')) := h1
        by_cases q : a = b
        · rw [if_pos q] at h1
          obtain ⟨rfl, rfl, rfl, rfl⟩ := kGo_inv h1
          exact lv_icmp_ne (tgt := ((pc : Int) + off).toNat) hx hb hd (by omega) (fun h => absurd q h) (fun _ => kk _ _ _ _ _ hll hc hsl hR hS hL)
        · rw [if_neg q] at h1
          obtain ⟨ht, rfl, rfl, rfl⟩ := kJmp_inv h1
          exact lv_icmp_ne hx hb hd ht (fun _ => kk _ _ _ _ _ hll hc hsl hR hS hL) (fun h => absurd h q)
      case lt =>
        replace h1 : (if a < b then kJmp pc off ls r m else kGo (pc + 3) ls r m) = some (.inl (pc', ls', st', m')) := h1
        by_cases q : a < b
        · rw [if_pos q] at h1
          obtain ⟨ht, rfl, rfl, rfl⟩ := kJmp_inv h1
          exact lv_icmp_lt hx hb hd ht (fun _ => kk _ _ _ _ _ hll hc hsl hR hS hL) (fun h => absurd q h)
        · rw [if_neg q] at h1
          obtain ⟨rfl, rfl, rfl, rfl⟩ := kGo_inv h1
          exact lv_icmp_lt (tgt := ((pc : Int) + off).toNat) hx hb hd (by omega) (fun h => absurd h q) (fun _ => kk _ _ _ _ _ hll hc hsl hR hS hL)
      case ge =>
        replace h1 : (if b ≤ a then kJmp pc off ls r m else kGo (pc + 3) ls r m) = some (.inl (pc', ls', st', m')) := h1
        by_cases q : b ≤ a
        · rw [if_pos q] at h1
          obtain ⟨ht, rfl, rfl, rfl⟩ := kJmp_inv h1
          exact lv_icmp_ge hx hb hd ht (fun _ => kk _ _ _ _ _ hll hc hsl hR hS hL) (fun h => absurd q h)
        · rw [if_neg q] at h1
          obtain ⟨rfl, rfl, rfl, rfl⟩ := kGo_inv h1
          exact lv_icmp_ge (tgt := ((pc : Int) + off).toNat) hx hb hd (by omega) (fun h => absurd h q) (fun _ => kk _ _ _ _ _ hll hc hsl hR hS hL)
      case gt =>
        replace h1 : (if b < a then kJmp pc off ls r m else kGo (pc + 3) ls r m) = some (.inl (pc', ls', st', m')) := h1
        by_cases q : b < a
        · rw [if_pos q] at h1
          obtain ⟨ht, rfl, rfl, rfl⟩ := kJmp_inv h1
          exact lv_icmp_gt hx hb hd ht (fun _ => kk _ _ _ _ _ hll hc hsl hR hS hL) (fun h => absurd q h)
        · rw [if_neg q] at h1
          obtain ⟨rfl, rfl, rfl, rfl⟩ := kGo_inv h1
          exact lv_icmp_gt (tgt := ((pc : Int) + off).toNat) hx hb hd (by omega) (fun h => absurd h q) (fun _ => kk _ _ _ _ _ hll hc hsl hR hS hL)
      case le =>
        replace h1 : (if a ≤ b then kJmp pc off ls r m else kGo (pc + 3) ls r m) = some (.inl (pc', ls', st', m')) := h1
        by_cases q : a ≤ b
        · rw [if_pos q] at h1
          obtain ⟨ht, rfl, rfl, rfl⟩ := kJmp_inv h1
          exact lv_icmp_le hx hb hd ht (fun _ => kk _ _ _ _ _ hll hc hsl hR hS hL) (fun h => absurd q h)
        · rw [if_neg q] at h1
          obtain ⟨rfl, rfl, rfl, rfl⟩ := kGo_inv h1
          exact lv_icmp_le (tgt := ((pc : Int) + off).toNat) hx hb hd (by omega) (fun h => absurd h q) (fun _ => kk _ _ _ _ _ hll hc hsl hR hS hL)
    · cases h1
  case tableswitch dflt lo hi offs =>
    replace hs : (match st with
      | .int a :: r => if a.toInt < lo ∨ hi < a.toInt then kJmp pc dflt ls r m else (match offs[(a.toInt - lo).toNat]? with
        | some off => kJmp pc off ls r m
        | none => none)
      | _ => none) = some (.inl (pc', ls', st', m')) := hs
    split at hs
    · next a r =>
      by_cases h9 : a.toInt < lo ∨ hi < a.toInt
      · rw [if_pos h9] at hs
        obtain ⟨ht, rfl, rfl, rfl⟩ := kJmp_inv hs
        exact lv_tableOut hx hb hd h9 ht (kk _ _ _ _ _ hll hc hsl hR hS hL)
      · rw [if_neg h9] at hs
        split at hs
        · next off ho =>
          obtain ⟨ht, rfl, rfl, rfl⟩ := kJmp_inv hs
          exact lv_tableIn hx hb hd (fun h => h9 (Or.inl h)) (fun h => h9 (Or.inr h)) ho ht (kk _ _ _ _ _ hll hc hsl hR hS hL)
        · cases hs
    · cases hs
  case lookupswitch dflt ps =>
    replace hs : (match st with
      | .int a :: r => if (ps.toList.zip (ps.toList.drop 1)).all (fun (a, next) => a.1 < next.1) = true then kJmp pc (Op.lookupswitch.offset ps.toList dflt a.toInt) ls r m else none
      | _ => none) = some (.inl (pc', ls', st', m')) := hs
    split at hs
    · next a r =>
      obtain ⟨hp, h1⟩ := kIf_inv hs
      obtain ⟨ht, rfl, rfl, rfl⟩ := kJmp_inv h1
      exact lv_lookup hx hb hd hp rfl ht (kk _ _ _ _ _ hll hc hsl hR hS hL)
    · cases hs
  case getfield k =>
    obtain ⟨rfl, h1⟩ := kIf_inv hs
    unfold kGet at h1
    split at h1
    · next q r ci f hk =>
      obtain ⟨hi, h2⟩ := kIf_inv h1
      refine kt_get C hR hk hi hd ?_
      by_cases t1 : kTy ci f < 2
      · rw [if_pos t1] at h2
        cases h2
        have e1 : kFv E m q f (kTy ci f) = .int (m.1 q f) := by
          rcases (by omega : kTy ci f = 0 ∨ kTy ci f = 1) with t | t <;> rw [t] <;> rfl
        rw [e1]
        exact kk _ _ _ _ _ hll hc hsl hR hS hL
      · rw [if_neg t1] at h2
        by_cases t2 : kTy ci f = 2
        · rw [if_pos t2] at h2
          cases h2
          rw [t2]
          exact kk _ _ _ _ _ hll hc hsl hR hS hL
        · rw [if_neg t2] at h2
          cases h2
          have e1 : kFv E m q f (kTy ci f) = kVa E (va_rf (m.2.2.1 q f)) := by
            rw [kVa_rf]
            unfold kFv
            split
            · omega
            · omega
            · omega
            · rfl
          rw [e1]
          exact kk _ _ _ _ _ hll hc hsl hR hS hL
    · cases h1
  case putfield k =>
    obtain ⟨rfl, h1⟩ := kIf_inv hs
    unfold kPut at h1
    split at h1
    · next ci f x q r hk =>
      obtain ⟨⟨hi, hf, ht⟩, h2⟩ := kIf_inv h1
      cases h2
      obtain ⟨hc6, hkn, -⟩ := kF _ _ (kLook_mem hk)
      refine kt_put (m' := (kup m.1 q f x, m.2)) C hR hS (v := .int x) hk hi hf ?_ ?_ rfl (fun a h => kup_ne h) (fun _ _ => rfl) (fun _ _ => rfl) ?_ ?_ hd (fun H1 locs1 hR1 hS1 => kk _ _ _ _ _ hll hc hsl hR1 hS1 hL)
      · rcases ht with t | ⟨t, rfl | rfl⟩
        · rw [kt_tyi hc6 hkn t]; rfl
        · rw [kt_tyz hc6 hkn t]; rfl
        · rw [kt_tyz hc6 hkn t]; rfl
      · rcases ht with t | ⟨t, rfl | rfl⟩
        · rw [kt_tyi hc6 hkn t]; rfl
        · rw [kt_tyz hc6 hkn t]; rfl
        · rw [kt_tyz hc6 hkn t]; rfl
      · have e1 : (kup m.1 q f x) q f = x := by rw [kup_eq]; exact pk_us
        rcases ht with t | ⟨t, -⟩ <;> rw [t] <;> exact congrArg Value.int e1
      · intro j hj
        have e1 : (kup m.1 q f x) q j = m.1 q j := by rw [kup_eq]; exact pk_un hj
        unfold kFv
        split
        · exact congrArg Value.int e1
        · exact congrArg Value.int e1
        · rfl
        · rfl
    · next ci f x q r hk =>
      obtain ⟨⟨hi, hf, ht⟩, h2⟩ := kIf_inv h1
      cases h2
      obtain ⟨hc6, hkn, -⟩ := kF _ _ (kLook_mem hk)
      refine kt_put (m' := (m.1, kupL m.2.1 q f x, m.2.2)) C hR hS (v := .long x) hk hi hf ?_ ?_ rfl (fun _ _ => rfl) (fun a h => kupL_ne h) (fun _ _ => rfl) ?_ ?_ hd (fun H1 locs1 hR1 hS1 => kk _ _ _ _ _ hll hc hsl hR1 hS1 hL)
      · rw [kt_tyl hc6 hkn ht]; rfl
      · rw [kt_tyl hc6 hkn ht]; rfl
      · have e1 : (kupL m.2.1 q f x) q f = x := by rw [kupL_eq]; exact pk_uLs
        rw [ht]
        exact congrArg Value.long e1
      · intro j hj
        have e1 : (kupL m.2.1 q f x) q j = m.2.1 q j := by rw [kupL_eq]; exact pk_uLn hj
        unfold kFv
        split
        · rfl
        · rfl
        · exact congrArg Value.long e1
        · rfl
    · next ci f x q r hk =>
      obtain ⟨⟨hi, hf, ht, hini, hoc, hx9⟩, h2⟩ := kIf_inv h1
      cases h2
      obtain ⟨hc6, hkn, -⟩ := kF _ _ (kLook_mem hk)
      refine kt_putF (m' := (m.1, m.2.1, kupR m.2.2.1 q f (some x), m.2.2.2)) C hR hS (v := kVa E (.ref x)) hk hi hf (by simpa using hini) hoc ?_ ?_ rfl (fun _ _ => rfl) (fun _ _ => rfl) (fun a h => kupR_ne h) ?_ ?_ hd (fun H1 locs1 hR1 hS1 => kk _ _ _ _ _ hll hc hsl hR1 hS1 hL)
      · rcases kt_tyr hc6 hkn ht with ⟨n, t⟩ | ⟨n, t⟩ <;> rw [t] <;> rfl
      · rcases kt_tyr hc6 hkn ht with ⟨n, t⟩ | ⟨n, t⟩ <;> rw [t] <;> rfl
      · have e1 : (kupR m.2.2.1 q f (some x)) q f = some x := by rw [kupR_eq]; simp [va_up]
        rw [ht]
        show va_rf (((kupR m.2.2.1 q f (some x)) q f).map (kAd E)) = _
        rw [e1]
        rfl
      · intro j hj
        have e1 : (kupR m.2.2.1 q f (some x)) q j = m.2.2.1 q j := by rw [kupR_eq]; simp [va_up, hj]
        unfold kFv
        split
        · rfl
        · rfl
        · rfl
        · exact congrArg (fun z : Option Nat => va_rf (z.map (kAd E))) e1
    · cases h1
  case iaload =>
    obtain ⟨rfl, h1⟩ := kIf_inv hs
    unfold kAld at h1
    split at h1
    · split at h1
      · next n ha =>
        obtain ⟨hin, h2⟩ := kIf_inv h1
        cases h2
        exact kt_iald C hR ha hin hd (kk _ _ _ _ _ hll hc hsl hR hS hL)
      · obtain ⟨⟨-, rfl, hin⟩, h2⟩ := kIf_inv h1
        cases h2
        exact kt_sald C hR hS hin hd (kk _ _ _ _ _ hll hc hsl hR hS hL)
    · cases h1
  case baload =>
    obtain ⟨rfl, h1⟩ := kIf_inv hs
    unfold kAld at h1
    split at h1
    · split at h1
      · next n ha =>
        obtain ⟨hin, h2⟩ := kIf_inv h1
        cases h2
        exact kt_zald C hR ha hin hd (kk _ _ _ _ _ hll hc hsl hR hS hL)
      · obtain ⟨⟨h9, -⟩, h2⟩ := kIf_inv h1
        cases h9
    · cases h1
  case iastore =>
    obtain ⟨rfl, h1⟩ := kIf_inv hs
    unfold kAst at h1
    split at h1
    · split at h1
      · next n ha =>
        obtain ⟨hin, h2⟩ := kIf_inv h1
        cases h2
        exact kt_iast C hR hS ha hin hd (fun H1 locs1 hR1 hS1 => kk _ _ _ _ _ hll hc hsl hR1 hS1 hL)
      · cases h1
    · cases h1
  case bastore =>
    obtain ⟨rfl, h1⟩ := kIf_inv hs
    unfold kAst at h1
    split at h1
    · split at h1
      · next n ha =>
        obtain ⟨hin, h2⟩ := kIf_inv h1
        cases h2
        exact kt_zast C hR hS ha hin hd (fun H1 locs1 hR1 hS1 => kk _ _ _ _ _ hll hc hsl hR1 hS1 hL)
      · cases h1
    · cases h1
  case arraylength =>
    obtain ⟨rfl, h1⟩ := kIf_inv hs
    split at h1
    · obtain ⟨rfl, h2⟩ := kIf_inv h1
      cases h2
      exact kt_slen C hR hS hd (kk _ _ _ _ _ hll hc hsl hR hS hL)
    · cases h1
  case newarray at0 =>
    cases at0
    case int =>
      obtain ⟨rfl, h1⟩ := kIf_inv hs
      unfold kMk at h1
      split at h1
      · obtain ⟨⟨hlt, hat, hn, hn2⟩, h2⟩ := kIf_inv h1
        cases h2
        have hRc : m.2.2.2 + 1 ≤ nx0 + R.cells := hRc
        have hRs : kSlt m.2.2.2 + kSz m.2.2.2 ≤ kSlt nx0 + R.slots := hRs
        exact kt_newa C hR hS h0 hc hlt hat (Or.inl ⟨rfl, rfl⟩) hn hn2 (by omega) (by omega) hd (fun H1 hR1 hS1 => kk _ _ _ (cells + 1) (slots + kSz m.2.2.2) hll (by show m.2.2.2 + 1 = _; omega) (by show kSlt m.2.2.2 + kSz m.2.2.2 = _; omega) hR1 hS1 hL)
      · cases h1
    case boolean =>
      obtain ⟨rfl, h1⟩ := kIf_inv hs
      unfold kMk at h1
      split at h1
      · obtain ⟨⟨hlt, hat, hn, hn2⟩, h2⟩ := kIf_inv h1
        cases h2
        have hRc : m.2.2.2 + 1 ≤ nx0 + R.cells := hRc
        have hRs : kSlt m.2.2.2 + kSz m.2.2.2 ≤ kSlt nx0 + R.slots := hRs
        exact kt_newa C hR hS h0 hc hlt hat (Or.inr ⟨rfl, rfl⟩) hn hn2 (by omega) (by omega) hd (fun H1 hR1 hS1 => kk _ _ _ (cells + 1) (slots + kSz m.2.2.2) hll (by show m.2.2.2 + 1 = _; omega) (by show kSlt m.2.2.2 + kSz m.2.2.2 = _; omega) hR1 hS1 hL)
      · cases h1
    all_goals (have h9 : (none : Option kOut) = some (.inl (pc', ls', st', m')) := hs; cases h9)
  case anewarray k =>
    obtain ⟨rfl, h1⟩ := kIf_inv hs
    split at h1
    · next hk =>
      unfold kMk at h1
      split at h1
      · obtain ⟨⟨hlt, hat, hn, hn2⟩, h2⟩ := kIf_inv h1
        cases h2
        have hRc : m.2.2.2 + 1 ≤ nx0 + R.cells := hRc
        have hRs : kSlt m.2.2.2 + kSz m.2.2.2 ≤ kSlt nx0 + R.slots := hRs
        exact kt_newq C hR hS h0 hc hlt hk hat (Or.inl ⟨rfl, rfl⟩) hn hn2 (by omega) (by omega) hd (fun H1 hR1 hS1 => kk _ _ _ (cells + 1) (slots + kSz m.2.2.2) hll (by show m.2.2.2 + 1 = _; omega) (by show kSlt m.2.2.2 + kSz m.2.2.2 = _; omega) hR1 hS1 hL)
      · cases h1
    · next hk =>
      unfold kMk at h1
      split at h1
      · obtain ⟨⟨hlt, hat, hn, hn2⟩, h2⟩ := kIf_inv h1
        cases h2
        have hRc : m.2.2.2 + 1 ≤ nx0 + R.cells := hRc
        have hRs : kSlt m.2.2.2 + kSz m.2.2.2 ≤ kSlt nx0 + R.slots := hRs
        exact kt_newq C hR hS h0 hc hlt hk hat (Or.inr ⟨rfl, rfl⟩) hn hn2 (by omega) (by omega) hd (fun H1 hR1 hS1 => kk _ _ _ (cells + 1) (slots + kSz m.2.2.2) hll (by show m.2.2.2 + 1 = _; omega) (by show kSlt m.2.2.2 + kSz m.2.2.2 = _; omega) hR1 hS1 hL)
      · cases h1
    · cases h1
  case new k =>
    obtain ⟨rfl, h1⟩ := kIf_inv hs
    unfold kNw at h1
    split at h1
    · next ci hk =>
      obtain ⟨⟨hlt, hat, hc6⟩, h2⟩ := kIf_inv h1
      cases h2
      have hRc : m.2.2.2 + 1 ≤ nx0 + R.cells := hRc
      have hRs : kSlt m.2.2.2 + kSz m.2.2.2 ≤ kSlt nx0 + R.slots := hRs
      exact kt_new C hR hS h0 hc hk hlt hat hc6 (by omega) (by omega) hd (fun H1 hR1 hS1 => kk _ _ _ (cells + 1) (slots + kSz m.2.2.2) hll (by show m.2.2.2 + 1 = _; omega) (by show kSlt m.2.2.2 + kSz m.2.2.2 = _; omega) hR1 hS1 hL)
    · cases h1
  case invokestatic k =>
    obtain ⟨rfl, h1⟩ := kIf_inv hs
    split at h1
    · have h2 := (kIf_inv h1).2
      cases h2
    · split at h1
      · next hk =>
        unfold kCpy at h1
        split at h1
        · split at h1
          · next ha hb1 =>
            obtain ⟨⟨c1, c2, c3, c4, c5, c6⟩, h2⟩ := kIf_inv h1
            cases h2
            exact kt_cpy C hR hS hLS hk ha hb1 c1 c2 c3 c4 c5 (by rw [kVa_sum]; exact c6) hd (fun H1 locs1 hR1 hS1 => kk _ _ _ _ _ hll hc hsl hR1 hS1 hL)
          · cases h1
        · cases h1
      · next hk =>
        unfold kMx2 at h1
        split at h1
        · obtain ⟨c6, h2⟩ := kIf_inv h1
          cases h2
          exact kt_max C hLS hcR hsR hk (by rw [kVa_sum]; exact c6) hd (kk _ _ _ _ _ hll hc hsl hR hS hL)
        · cases h1
      · next hk =>
        unfold kMx2 at h1
        split at h1
        · obtain ⟨c6, h2⟩ := kIf_inv h1
          cases h2
          exact kt_min C hLS hcR hsR hk (by rw [kVa_sum]; exact c6) hd (kk _ _ _ _ _ hll hc hsl hR hS hL)
        · cases h1
      · cases h1
  case invokevirtual k =>
    obtain ⟨rfl, h1⟩ := kIf_inv hs
    split at h1
    · unfold kCallV at h1
      split at h1
      · have h2 := (kIf_inv h1).2
        cases h2
      · cases h1
    · split at h1
      · next hk =>
        unfold kLen at h1
        split at h1
        · next q r =>
          obtain ⟨⟨q1, q2, c6⟩, h2⟩ := kIf_inv h1
          cases h2
          obtain ⟨i, hi6, rfl⟩ := k_1000 q1 q2
          rw [Nat.add_sub_cancel_left] at kk
          rw [List.map_cons, kVa_str hi6]
          exact hstr.1 C hS hcR hsR hLS hk hi6 (by rw [kVa_sum]; exact c6) hd (fun H1 locs1 e1 hS1 => kk _ _ _ _ _ hll hc hsl (by rw [e1]; exact hR) hS1 hL)
        · cases h1
      · next hk =>
        unfold kChr at h1
        split at h1
        · next i0 q r =>
          obtain ⟨⟨q1, q2, hin, c6⟩, h2⟩ := kIf_inv h1
          cases h2
          obtain ⟨i, hi6, rfl⟩ := k_1000 q1 q2
          rw [Nat.add_sub_cancel_left] at kk hin
          rw [List.map_cons, List.map_cons, kVa_str hi6]
          exact hstr.2 C hS hcR hsR hLS hk hi6 hin (by rw [kVa_sum]; exact c6) hd (fun H1 locs1 e1 hS1 => kk _ _ _ _ _ hll hc hsl (by rw [e1]; exact hR) hS1 hL)
        · cases h1
      · cases h1
  case invokespecial k =>
    obtain ⟨rfl, h1⟩ := kIf_inv hs
    split at h1
    · unfold kCallV at h1
      split at h1
      · have h2 := (kIf_inv h1).2
        cases h2
      · cases h1
    · split at h1
      · next hk =>
        obtain ⟨c6, h2⟩ := kIf_inv h1
        cases h2
        exact kt_obj C hLS hk (by rw [kVa_sum]; exact c6) hd (kk _ _ _ _ _ hll hc hsl hR hS hL)
      · cases h1
  case ireturn =>
    obtain ⟨rfl, h1⟩ := kIf_inv hs
    unfold kRet at h1
    split at h1 <;> first | (have h2 := (kIf_inv h1).2; cases h2; done) | (cases h1; done)
  case lreturn =>
    obtain ⟨rfl, h1⟩ := kIf_inv hs
    unfold kRet at h1
    split at h1 <;> first | (have h2 := (kIf_inv h1).2; cases h2; done) | (cases h1; done)
  case areturn =>
    obtain ⟨rfl, h1⟩ := kIf_inv hs
    unfold kRet at h1
    split at h1 <;> first | (have h2 := (kIf_inv h1).2; cases h2; done) | (cases h1; done)
  case return_ =>
    obtain ⟨rfl, h1⟩ := kIf_inv hs
    unfold kRet at h1
    split at h1 <;> first | (have h2 := (kIf_inv h1).2; cases h2; done) | (cases h1; done)
end KST
