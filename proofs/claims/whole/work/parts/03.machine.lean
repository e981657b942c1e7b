/-! A machine of my own: ints, longs and references by place (cell, index); the cells are those of kTab, in order. -/
abbrev kMem : Type := (Nat → Nat → Int32) × (Nat → Nat → Int64) × (Nat → Nat → Option Nat) × Nat
abbrev kLcs : Type := List (Option Value)
abbrev kNxt : Type := Nat × kLcs × List Value × kMem
abbrev kCal : Type := Nat × List Value × Nat × kLcs × List Value × kMem
abbrev kOut : Type := kNxt ⊕ (kCal ⊕ (Option Value × kMem))
def kup (f : Nat → Nat → Int32) (q k : Nat) (v : Int32) : Nat → Nat → Int32 := fun a => if a = q then upd (f q) k v else f a
def kupL (f : Nat → Nat → Int64) (q k : Nat) (v : Int64) : Nat → Nat → Int64 := fun a => if a = q then vp_updL (f q) k v else f a
def kupR (f : Nat → Nat → Option Nat) (q k : Nat) (v : Option Nat) : Nat → Nat → Option Nat := fun a => if a = q then va_up (f q) k v else f a
def kRow {α : Type} (f : Nat → Nat → α) (q : Nat) (g : Nat → α) : Nat → Nat → α := fun a => if a = q then g else f a
/-- an object of the class ci lies at q -/
def kIs (nx q ci : Nat) : Bool := decide (q < nx) && (kAt q).1 == ci
/-- an array of the kind kd lies at q: its length -/
def kAr (nx q kd : Nat) : Option Nat := if q < nx ∧ (kAt q).1 = kd then some (kAt q).2 else none
def kLook {α : Type} (l : List (Nat × α)) (i : Nat) : Option α := (l.find? (fun e => e.1 == i)).map (fun e => e.2)
def kGo (pc : Nat) (ls : kLcs) (st : List Value) (m : kMem) : Option kOut := some (.inl (pc, ls, st, m))
def kLd (pc i : Nat) (ls : kLcs) (st : List Value) (m : kMem) (t : Nat) : Option kOut := match ls.getD i none with
  | some (.int x) => if t = 0 then kGo pc ls (.int x :: st) m else none
  | some (.long x) => if t = 1 then kGo pc ls (.long x :: st) m else none
  | some (.ref x) => if t = 2 then kGo pc ls (.ref x :: st) m else none
  | _ => none
def kNL (v : Option Value) : Bool := match v with
  | some w => w.category == 1
  | none => true
/-- a store into a local: what stands ahead is no long -/
def kPre (ls : kLcs) (i : Nat) : Bool := match i with
  | 0 => true
  | j + 1 => kNL (ls.getD j none)
def kSt1 (pc i : Nat) (ls : kLcs) (st : List Value) (m : kMem) (t : Nat) : Option kOut := match st with
  | .int x :: r => if t = 0 ∧ i < ls.length ∧ kPre ls i = true then kGo pc (ls.set i (some (.int x))) r m else none
  | .ref x :: r => if t = 2 ∧ i < ls.length ∧ kPre ls i = true then kGo pc (ls.set i (some (.ref x))) r m else none
  | .long x :: r => if t = 1 ∧ i + 1 < ls.length ∧ kPre ls i = true then kGo pc ((ls.set i (some (.long x))).set (i + 1) none) r m else none
  | _ => none
def kBin (f : Int32 → Int32 → Int32) (pc : Nat) (ls : kLcs) (st : List Value) (m : kMem) : Option kOut := match st with
  | .int b :: .int a :: r => kGo pc ls (.int (f a b) :: r) m
  | _ => none
def kBinL (f : Int64 → Int64 → Int64) (pc : Nat) (ls : kLcs) (st : List Value) (m : kMem) : Option kOut := match st with
  | .long b :: .long a :: r => kGo pc ls (.long (f a b) :: r) m
  | _ => none
def kUn (f : Int32 → Int32) (pc : Nat) (ls : kLcs) (st : List Value) (m : kMem) : Option kOut := match st with
  | .int a :: r => kGo pc ls (.int (f a) :: r) m
  | _ => none
def kJmp (pc : Nat) (off : Int) (ls : kLcs) (st : List Value) (m : kMem) : Option kOut := if 0 ≤ (pc : Int) + off then kGo ((pc : Int) + off).toNat ls st m else none
def kBr (cnd : ClassFile.Cond) (a b : Int32) (A B : Option kOut) : Option kOut := match cnd with
  | .eq => if a = b then A else B
  | .ne => if a = b then B else A
  | .lt => if a < b then A else B
  | .ge => if b ≤ a then A else B
  | .gt => if b < a then A else B
  | .le => if a ≤ b then A else B
def kGet (o pc idx : Nat) (ls : kLcs) (st : List Value) (m : kMem) : Option kOut := match st, kLook (kFl o) idx with
  | .ref q :: r, some (ci, k) => if kIs m.2.2.2 q ci = true then (if kTy ci k < 2 then kGo pc ls (.int (m.1 q k) :: r) m else if kTy ci k = 2 then kGo pc ls (.long (m.2.1 q k) :: r) m else kGo pc ls (va_rf (m.2.2.1 q k) :: r) m) else none
  | _, _ => none
def kPut (o pc idx : Nat) (ini : Bool) (ls : kLcs) (st : List Value) (m : kMem) : Option kOut := match kLook (kFl o) idx, st with
  | some (ci, k), .int x :: .ref q :: r => if kIs m.2.2.2 q ci = true ∧ (kTt ci k).2.2.2 = false ∧ (kTy ci k = 0 ∨ (kTy ci k = 1 ∧ (x = 0 ∨ x = 1))) then kGo pc ls r (kup m.1 q k x, m.2) else none
  | some (ci, k), .long x :: .ref q :: r => if kIs m.2.2.2 q ci = true ∧ (kTt ci k).2.2.2 = false ∧ kTy ci k = 2 then kGo pc ls r (m.1, kupL m.2.1 q k x, m.2.2) else none
  | some (ci, k), .ref x :: .ref q :: r => if kIs m.2.2.2 q ci = true ∧ (kTt ci k).2.2.2 = true ∧ kTy ci k = 3 ∧ ini = true ∧ o = ci ∧ x < 1000 then kGo pc ls r (m.1, m.2.1, kupR m.2.2.1 q k (some x), m.2.2.2) else none
  | _, _ => none
def kIn (i : Int32) (n : Nat) : Prop := ¬ (i < 0 ∨ n ≤ i.toNatClampNeg)
def kAld (pc kd : Nat) (ls : kLcs) (st : List Value) (m : kMem) : Option kOut := match st with
  | .int i :: .ref q :: r => match kAr m.2.2.2 q kd with
    | some n => if ¬ (i < 0 ∨ n ≤ i.toNatClampNeg) then kGo pc ls (.int (m.1 q i.toNatClampNeg) :: r) m else none
    | none => if kd = 10 ∧ q = 2000 ∧ ¬ (i < 0 ∨ (m.1 2001 0).toNatClampNeg ≤ i.toNatClampNeg) then kGo pc ls (.int (m.1 q i.toNatClampNeg) :: r) m else none
  | _ => none
def kAst (pc kd : Nat) (ls : kLcs) (st : List Value) (m : kMem) : Option kOut := match st with
  | .int x :: .int i :: .ref q :: r => match kAr m.2.2.2 q kd with
    | some n => if ¬ (i < 0 ∨ n ≤ i.toNatClampNeg) then kGo pc ls r (kup m.1 q i.toNatClampNeg (if kd = 10 then x else x &&& 1), m.2) else none
    | none => none
  | _ => none
def kAaL (pc : Nat) (ls : kLcs) (st : List Value) (m : kMem) : Option kOut := match st with
  | .int i :: .ref q :: r => match kAr m.2.2.2 q 12 with
    | some n => if ¬ (i < 0 ∨ n ≤ i.toNatClampNeg) then kGo pc ls (va_rf (m.2.2.1 q i.toNatClampNeg) :: r) m else none
    | none => match kAr m.2.2.2 q 13 with
      | some n => if ¬ (i < 0 ∨ n ≤ i.toNatClampNeg) then kGo pc ls (va_rf (m.2.2.1 q i.toNatClampNeg) :: r) m else none
      | none => none
  | _ => none
def kAaS (pc : Nat) (ls : kLcs) (st : List Value) (m : kMem) : Option kOut := match st with
  | .ref v :: .int i :: .ref q :: r => match kAr m.2.2.2 q 12 with
    | some n => if ¬ (i < 0 ∨ n ≤ i.toNatClampNeg) ∧ kIs m.2.2.2 v 1 = true ∧ v < 1000 then kGo pc ls r (m.1, m.2.1, kupR m.2.2.1 q i.toNatClampNeg (some v), m.2.2.2) else none
    | none => match kAr m.2.2.2 q 13 with
      | some n => if ¬ (i < 0 ∨ n ≤ i.toNatClampNeg) ∧ kIs m.2.2.2 v 2 = true ∧ v < 1000 then kGo pc ls r (m.1, m.2.1, kupR m.2.2.1 q i.toNatClampNeg (some v), m.2.2.2) else none
      | none => none
  | _ => none
def kFresh (m : kMem) : kMem := (kRow m.1 m.2.2.2 (fun _ => 0), kRow m.2.1 m.2.2.2 (fun _ => 0), kRow m.2.2.1 m.2.2.2 (fun _ => none), m.2.2.2 + 1)
def kMk (pc kd : Nat) (ls : kLcs) (st : List Value) (m : kMem) : Option kOut := match st with
  | .int n :: r => if m.2.2.2 < kTab.length ∧ kAt m.2.2.2 = (kd, n.toNatClampNeg) ∧ ¬ n < 0 ∧ n.toNatClampNeg ≤ 2000 then kGo pc ls (.ref m.2.2.2 :: r) (kFresh m) else none
  | _ => none
def kNw (o pc idx : Nat) (ls : kLcs) (st : List Value) (m : kMem) : Option kOut := match kLook (kNl o) idx with
  | some ci => if m.2.2.2 < kTab.length ∧ (kAt m.2.2.2).1 = ci ∧ ci < 6 then kGo pc ls (.ref m.2.2.2 :: st) (kFresh m) else none
  | none => none
def kCpy (pc : Nat) (ls : kLcs) (st : List Value) (m : kMem) : Option kOut := match st with
  | .int n :: .int dp :: .ref d :: .int sp :: .ref s :: r => match kAr m.2.2.2 s 10, kAr m.2.2.2 d 10 with
    | some n0, some n1 => if ¬ sp < 0 ∧ ¬ dp < 0 ∧ ¬ n < 0 ∧ sp.toNatClampNeg + n.toNatClampNeg ≤ n0 ∧ dp.toNatClampNeg + n.toNatClampNeg ≤ n1 ∧ (r.map fun v => v.category).sum ≤ 4 then
        kGo pc ls r (kRow m.1 d (va_cpy (m.1 s) (m.1 d) sp.toNatClampNeg dp.toNatClampNeg n.toNatClampNeg), m.2) else none
    | _, _ => none
  | _ => none
/-- the letters of the six String constants -/
def kTx (i : Nat) : List Int32 := match i with
  | 0 => [112, 108, 97, 105, 110]
  | 1 => [112, 114, 111, 117, 100]
  | 2 => [107, 105, 110, 100]
  | 3 => [115, 108, 121]
  | 4 => [108, 101, 116, 116, 101, 114]
  | _ => [112, 97, 99, 101]
def kLen (pc : Nat) (ls : kLcs) (st : List Value) (m : kMem) : Option kOut := match st with
  | .ref q :: r => if 1000 ≤ q ∧ q < 1006 ∧ (r.map fun v => v.category).sum ≤ 8 then kGo pc ls (.int (nI (kTx (q - 1000)).length) :: r) m else none
  | _ => none
def kChr (pc : Nat) (ls : kLcs) (st : List Value) (m : kMem) : Option kOut := match st with
  | .int i :: .ref q :: r => if 1000 ≤ q ∧ q < 1006 ∧ ¬ (i < 0 ∨ (kTx (q - 1000)).length ≤ i.toNatClampNeg) ∧ (r.map fun v => v.category).sum ≤ 8 then kGo pc ls (.int ((kTx (q - 1000)).getD i.toNatClampNeg 0) :: r) m else none
  | _ => none
/-- Math.max, Math.min -/
def kMx2 (mx : Bool) (pc : Nat) (ls : kLcs) (st : List Value) (m : kMem) : Option kOut := match st with
  | .int b :: .int a :: r => if (r.map fun v => v.category).sum ≤ 8 then kGo pc ls (.int (if mx then (if a < b then b else a) else (if b < a then b else a)) :: r) m else none
  | _ => none
def kSlots (as : List Value) : kLcs := as.flatMap (fun v => if v.category = 2 then [some v, none] else [some v])
def kEnt (y : Nat) (as : List Value) : kLcs := kSlots as ++ List.replicate (mL y - (kSlots as).length) none
/-- a call: virtual (1) and special (2) have an object ahead of the parameters -/
def kCallS (y pc y' n : Nat) (ls : kLcs) (st : List Value) (m : kMem) : Option kOut :=
  if n ≤ st.length ∧ kStat y' = true ∧ mK y' < mK y ∧ (kSlots (st.take n).reverse).length ≤ mL y' ∧ ((st.drop n).map fun v => v.category).sum ≤ 8 then some (.inr (.inl (y', (st.take n).reverse, pc, ls, st.drop n, m))) else none
def kCallV (ini : Bool) (y pc y' n : Nat) (ls : kLcs) (st : List Value) (m : kMem) : Option kOut := match st.drop n with
  | .ref q :: r => if kStat y' = false ∧ kInit y' = ini ∧ mK y' < mK y ∧ (kSlots (.ref q :: (st.take n).reverse)).length ≤ mL y' ∧ (r.map fun v => v.category).sum ≤ 8 ∧ kIs m.2.2.2 q (oC y') = true ∧ (st.take n).length = n then some (.inr (.inl (y', .ref q :: (st.take n).reverse, pc, ls, r, m))) else none
  | _ => none
def kSw (pc : Nat) (off : Int) (ls : kLcs) (st : List Value) (m : kMem) : Option kOut := kJmp pc off ls st m
def kRet (y : Nat) (st : List Value) (m : kMem) (t : Nat) : Option kOut := match st, mR y with
  | [.int x], some .int => if t = 0 then some (.inr (.inr (some (.int x), m))) else none
  | [.int x], some .boolean => if t = 0 ∧ (x = 0 ∨ x = 1) then some (.inr (.inr (some (.int x), m))) else none
  | [.long x], some .long => if t = 1 then some (.inr (.inr (some (.long x), m))) else none
  | [.ref x], some (.object _) => if t = 2 then some (.inr (.inr (some (.ref x), m))) else none
  | [], none => if t = 3 then some (.inr (.inr (none, m))) else none
  | _, _ => none
def kst (y pc : Nat) (i : ClassFile.Instr) (len : Nat) (ls : kLcs) (st : List Value) (m : kMem) : Option kOut :=
  match i with
  | .iconst n => if len = 1 then kGo (pc + 1) ls (.int (Int32.ofInt n) :: st) m else none
  | .bipush n => if len = 2 then kGo (pc + 2) ls (.int (Int8.ofInt n).toInt32 :: st) m else none
  | .sipush n => if len = 3 then kGo (pc + 3) ls (.int (Int16.ofInt n).toInt32 :: st) m else none
  | .lconst n => if len = 1 then kGo (pc + 1) ls (.long (Int64.ofNat (n : Nat)) :: st) m else none
  | .ldc k => if len = 2 then (match kLook (kIl (oC y)) k with
    | some x => kGo (pc + 2) ls (.int x :: st) m
    | none => match kLook (kSl (oC y)) k with
      | some t => kGo (pc + 2) ls (.ref (1000 + t) :: st) m
      | none => none) else none
  | .ldc_w k => if len = 3 then (match kLook (kIl (oC y)) k with
    | some x => kGo (pc + 3) ls (.int x :: st) m
    | none => none) else none
  | .ldc2_w k => if len = 3 then (match kLook (kLl (oC y)) k with
    | some x => kGo (pc + 3) ls (.long x :: st) m
    | none => none) else none
  | .iload k => if len = 2 then kLd (pc + 2) k ls st m 0 else none
  | .iload_n k => if len = 1 then kLd (pc + 1) k ls st m 0 else none
  | .lload k => if len = 2 then kLd (pc + 2) k ls st m 1 else none
  | .lload_n k => if len = 1 then kLd (pc + 1) k ls st m 1 else none
  | .aload k => if len = 2 then kLd (pc + 2) k ls st m 2 else none
  | .aload_n k => if len = 1 then kLd (pc + 1) k ls st m 2 else none
  | .istore k => if len = 2 then kSt1 (pc + 2) k ls st m 0 else none
  | .istore_n k => if len = 1 then kSt1 (pc + 1) k ls st m 0 else none
  | .lstore k => if len = 2 then kSt1 (pc + 2) k ls st m 1 else none
  | .lstore_n k => if len = 1 then kSt1 (pc + 1) k ls st m 1 else none
  | .astore k => if len = 2 then kSt1 (pc + 2) k ls st m 2 else none
  | .astore_n k => if len = 1 then kSt1 (pc + 1) k ls st m 2 else none
  | .iinc k n => if len = 3 then (match ls.getD k none with
    | some (.int x) => if k < ls.length ∧ kPre ls k = true then kGo (pc + 3) (ls.set k (some (.int (x + Int32.ofInt n)))) st m else none
    | _ => none) else none
  | .iadd => if len = 1 then kBin (fun a b => a + b) (pc + 1) ls st m else none
  | .isub => if len = 1 then kBin (fun a b => a - b) (pc + 1) ls st m else none
  | .imul => if len = 1 then kBin (fun a b => a * b) (pc + 1) ls st m else none
  | .iand => if len = 1 then kBin (fun a b => a &&& b) (pc + 1) ls st m else none
  | .ior => if len = 1 then kBin (fun a b => a ||| b) (pc + 1) ls st m else none
  | .ishl => if len = 1 then kBin (fun a b => a <<< (b &&& 31)) (pc + 1) ls st m else none
  | .ishr => if len = 1 then kBin (fun a b => a >>> (b &&& 31)) (pc + 1) ls st m else none
  | .iushr => if len = 1 then kBin (fun a b => (a.toUInt32 >>> (b.toUInt32 &&& Int32.toUInt32 31)).toInt32) (pc + 1) ls st m else none
  | .idiv => if len = 1 then (match st with
    | .int b :: .int a :: r => if ¬ b = 0 then kGo (pc + 1) ls (.int (a / b) :: r) m else none
    | _ => none) else none
  | .irem => if len = 1 then (match st with
    | .int b :: .int a :: r => if ¬ b = 0 then kGo (pc + 1) ls (.int (a - a / b * b) :: r) m else none
    | _ => none) else none
  | .ladd => if len = 1 then kBinL (fun a b => a + b) (pc + 1) ls st m else none
  | .lmul => if len = 1 then kBinL (fun a b => a * b) (pc + 1) ls st m else none
  | .ldiv => if len = 1 then (match st with
    | .long b :: .long a :: r => if ¬ b = 0 then kGo (pc + 1) ls (.long (a / b) :: r) m else none
    | _ => none) else none
  | .lrem => if len = 1 then (match st with
    | .long b :: .long a :: r => if ¬ b = 0 then kGo (pc + 1) ls (.long (a - a / b * b) :: r) m else none
    | _ => none) else none
  | .lcmp => if len = 1 then (match st with
    | .long b :: .long a :: r => kGo (pc + 1) ls (.int (lg_cmp a b) :: r) m
    | _ => none) else none
  | .ineg => if len = 1 then kUn (fun a => -a) (pc + 1) ls st m else none
  | .i2b => if len = 1 then kUn (fun a => a.toInt8.toInt32) (pc + 1) ls st m else none
  | .i2s => if len = 1 then kUn (fun a => a.toInt16.toInt32) (pc + 1) ls st m else none
  | .i2l => if len = 1 then (match st with
    | .int a :: r => kGo (pc + 1) ls (.long a.toInt64 :: r) m
    | _ => none) else none
  | .dup => if len = 1 then (match st with
    | v :: r => if v.category = 1 then kGo (pc + 1) ls (v :: v :: r) m else none
    | _ => none) else none
  | .pop => if len = 1 then (match st with
    | v :: r => if v.category = 1 then kGo (pc + 1) ls r m else none
    | _ => none) else none
  | .dup2 => if len = 1 then (match st with
    | v :: w :: r => if v.category = 1 ∧ w.category = 1 then kGo (pc + 1) ls (v :: w :: v :: w :: r) m else none
    | _ => none) else none
  | .goto off => if len = 3 then kJmp pc off ls st m else none
  | .ifCond cnd off => if len = 3 ∧ 0 ≤ (pc : Int) + off then (match st with
    | .int a :: r => kBr cnd a 0 (kJmp pc off ls r m) (kGo (pc + 3) ls r m)
    | _ => none) else none
  | .if_icmp cnd off => if len = 3 ∧ 0 ≤ (pc : Int) + off then (match st with
    | .int b :: .int a :: r => kBr cnd a b (kJmp pc off ls r m) (kGo (pc + 3) ls r m)
    | _ => none) else none
  | .tableswitch dflt lo hi offs => (match st with
    | .int a :: r => if a.toInt < lo ∨ hi < a.toInt then kJmp pc dflt ls r m else (match offs[(a.toInt - lo).toNat]? with
      | some off => kJmp pc off ls r m
      | none => none)
    | _ => none)
  | .lookupswitch dflt ps => (match st with
    | .int a :: r => if (ps.toList.zip (ps.toList.drop 1)).all (fun (a, next) => a.1 < next.1) = true then kJmp pc (Op.lookupswitch.offset ps.toList dflt a.toInt) ls r m else none
    | _ => none)
  | .getfield k => if len = 3 then kGet (oC y) (pc + 3) k ls st m else none
  | .putfield k => if len = 3 then kPut (oC y) (pc + 3) k ((mN y).name == "<init>") ls st m else none
  | .iaload => if len = 1 then kAld (pc + 1) 10 ls st m else none
  | .iastore => if len = 1 then kAst (pc + 1) 10 ls st m else none
  | .baload => if len = 1 then kAld (pc + 1) 11 ls st m else none
  | .bastore => if len = 1 then kAst (pc + 1) 11 ls st m else none
  | .aaload => if len = 1 then kAaL (pc + 1) ls st m else none
  | .aastore => if len = 1 then kAaS (pc + 1) ls st m else none
  | .arraylength => if len = 1 then (match st with
    | .ref q :: r => if q = 2000 then kGo (pc + 1) ls (.int (m.1 2001 0) :: r) m else none
    | _ => none) else none
  | .newarray .int => if len = 2 then kMk (pc + 2) 10 ls st m else none
  | .newarray .boolean => if len = 2 then kMk (pc + 2) 11 ls st m else none
  | .anewarray k => if len = 3 then (match kLook (kNl (oC y)) k with
    | some 1 => kMk (pc + 3) 12 ls st m
    | some 2 => kMk (pc + 3) 13 ls st m
    | _ => none) else none
  | .new k => if len = 3 then kNw (oC y) (pc + 3) k ls st m else none
  | .invokestatic k => if len = 3 then (match kLook (kCll (oC y)) k with
    | some (y', n) => kCallS y (pc + 3) y' n ls st m
    | none => match kLook (kPl (oC y)) k with
      | some 1 => kCpy (pc + 3) ls st m
      | some 4 => kMx2 true (pc + 3) ls st m
      | some 5 => kMx2 false (pc + 3) ls st m
      | _ => none) else none
  | .invokevirtual k => if len = 3 then (match kLook (kCll (oC y)) k with
    | some (y', n) => kCallV false y (pc + 3) y' n ls st m
    | none => match kLook (kPl (oC y)) k with
      | some 2 => kLen (pc + 3) ls st m
      | some 3 => kChr (pc + 3) ls st m
      | _ => none) else none
  | .invokespecial k => if len = 3 then (match kLook (kCll (oC y)) k with
    | some (y', n) => kCallV true y (pc + 3) y' n ls st m
    | none => match kLook (kPl (oC y)) k, st with
      | some 0, .ref _ :: r => if (r.map fun v => v.category).sum ≤ 8 then kGo (pc + 3) ls r m else none
      | _, _ => none) else none
  | .ireturn => if len = 1 then kRet y st m 0 else none
  | .lreturn => if len = 1 then kRet y st m 1 else none
  | .areturn => if len = 1 then kRet y st m 2 else none
  | .return_ => if len = 1 then kRet y st m 3 else none
  | _ => none
def kJn : Nat → Nat → Nat → kLcs → List Value → kMem → (Option Value → kMem → Prop) → Prop
  | 0, _, _, _, _, _, _ => False
  | n + 1, y, pc, ls, st, m, Q => match decode (mB y) pc with
    | .ok (i, len) => match kst y pc i len ls st m with
      | none => False
      | some (.inl (pc', ls', st', m')) => kJn n y pc' ls' st' m' Q
      | some (.inr (.inl (y', as, pc', ls', st', m'))) => kJn n y' 0 (kEnt y' as) [] m' (fun v m2 => kJn n y pc' ls' (v.toList ++ st') m2 Q)
      | some (.inr (.inr (v, m'))) => Q v m'
    | _ => False
def kJ (y pc : Nat) (ls : kLcs) (st : List Value) (m : kMem) (Q : Option Value → kMem → Prop) : Prop := ∃ n, kJn n y pc ls st m Q
theorem kJn_step {n y pc len : Nat} {ls : kLcs} {st : List Value} {m : kMem} {Q : Option Value → kMem → Prop} {i : ClassFile.Instr} (hd : decode (mB y) pc = .ok (i, len)) :
    kJn (n + 1) y pc ls st m Q = (match kst y pc i len ls st m with
      | none => False
      | some (.inl (pc', ls', st', m')) => kJn n y pc' ls' st' m' Q
      | some (.inr (.inl (y', as, pc', ls', st', m'))) => kJn n y' 0 (kEnt y' as) [] m' (fun v m2 => kJn n y pc' ls' (v.toList ++ st') m2 Q)
      | some (.inr (.inr (v, m'))) => Q v m') := by
  rw [kJn, hd]
/-- what a run comes to, and that it comes to nothing else -/
theorem kJn_out : ∀ (n y pc : Nat) (ls : kLcs) (st : List Value) (m : kMem) (Q : Option Value → kMem → Prop), kJn n y pc ls st m Q → ∃ v m', Q v m' ∧ ∀ Q' : Option Value → kMem → Prop, Q' v m' → kJn n y pc ls st m Q' := by
  intro n
  induction n with
  | zero => intro y pc ls st m Q h; exact h.elim
  | succ n ih =>
    intro y pc ls st m Q h
    cases hd : decode (mB y) pc with
    | error e => rw [kJn, hd] at h; exact h.elim
    | ok r =>
      obtain ⟨i, len⟩ := r
      rw [kJn_step hd] at h
      simp only [kJn_step hd]
      rcases hs : kst y pc i len ls st m with _ | ⟨pc', ls', st', m'⟩ | ⟨y', as, pc', ls', st', m'⟩ | ⟨v, m'⟩
      · rw [hs] at h; exact h.elim
      · rw [hs] at h
        exact ih y pc' ls' st' m' Q h
      · rw [hs] at h
        obtain ⟨v1, m1, h1, h2⟩ := ih y' 0 (kEnt y' as) [] m' _ h
        obtain ⟨v, m2, h3, h4⟩ := ih y pc' ls' (v1.toList ++ st') m1 Q h1
        exact ⟨v, m2, h3, fun Q' hq => h2 _ (h4 Q' hq)⟩
      · rw [hs] at h
        exact ⟨v, m', h, fun Q' hq => hq⟩
theorem kJn_q {n y pc : Nat} {ls : kLcs} {st : List Value} {m : kMem} {Q Q' : Option Value → kMem → Prop} (h : kJn n y pc ls st m Q) (hq : ∀ v m', Q v m' → Q' v m') : kJn n y pc ls st m Q' := by
  obtain ⟨v, m', h1, h2⟩ := kJn_out n y pc ls st m Q h
  exact h2 Q' (hq v m' h1)
theorem kJn_up : ∀ (n y pc : Nat) (ls : kLcs) (st : List Value) (m : kMem) (Q : Option Value → kMem → Prop), kJn n y pc ls st m Q → kJn (n + 1) y pc ls st m Q := by
  intro n
  induction n with
  | zero => intro y pc ls st m Q h; exact h.elim
  | succ n ih =>
    intro y pc ls st m Q h
    cases hd : decode (mB y) pc with
    | error e => rw [kJn, hd] at h; exact h.elim
    | ok r =>
      obtain ⟨i, len⟩ := r
      rw [kJn_step hd] at h ⊢
      rcases hs : kst y pc i len ls st m with _ | ⟨pc', ls', st', m'⟩ | ⟨y', as, pc', ls', st', m'⟩ | ⟨v, m'⟩
      · rw [hs] at h; exact h.elim
      · rw [hs] at h
        exact ih y pc' ls' st' m' Q h
      · rw [hs] at h
        exact ih _ _ _ _ _ _ (kJn_q h (fun v m2 hv => ih _ _ _ _ _ _ hv))
      · rw [hs] at h
        exact h
theorem kJn_le {n k y pc : Nat} {ls : kLcs} {st : List Value} {m : kMem} {Q : Option Value → kMem → Prop} (hk : n ≤ k) (h : kJn n y pc ls st m Q) : kJn k y pc ls st m Q := by
  induction hk with
  | refl => exact h
  | step _ ih => exact kJn_up _ _ _ _ _ _ _ ih
theorem kJ_q {y pc : Nat} {ls : kLcs} {st : List Value} {m : kMem} {Q Q' : Option Value → kMem → Prop} (h : kJ y pc ls st m Q) (hq : ∀ v m', Q v m' → Q' v m') : kJ y pc ls st m Q' := h.elim (fun n hn => ⟨n, kJn_q hn hq⟩)
theorem kJ_next {y pc len pc' : Nat} {ls ls' : kLcs} {st st' : List Value} {m m' : kMem} {Q : Option Value → kMem → Prop} {i : ClassFile.Instr} (hd : decode (mB y) pc = .ok (i, len)) (hs : kst y pc i len ls st m = some (.inl (pc', ls', st', m'))) : kJ y pc ls st m Q = kJ y pc' ls' st' m' Q := by
  refine propext ⟨fun ⟨n, h⟩ => ?_, fun ⟨n, h⟩ => ⟨n + 1, ?_⟩⟩
  · cases n with
    | zero => exact h.elim
    | succ n => rw [kJn_step hd, hs] at h; exact ⟨n, h⟩
  · rw [kJn_step hd, hs]; exact h
theorem kJ_none {y pc len : Nat} {ls : kLcs} {st : List Value} {m : kMem} {Q : Option Value → kMem → Prop} {i : ClassFile.Instr} (hd : decode (mB y) pc = .ok (i, len)) (hs : kst y pc i len ls st m = none) : kJ y pc ls st m Q = False := by
  refine propext ⟨fun ⟨n, h⟩ => ?_, fun h => h.elim⟩
  cases n with
  | zero => exact h.elim
  | succ n => rw [kJn_step hd, hs] at h; exact h.elim
theorem kJ_ret {y pc len : Nat} {ls : kLcs} {st : List Value} {m m' : kMem} {v : Option Value} {Q : Option Value → kMem → Prop} {i : ClassFile.Instr} (hd : decode (mB y) pc = .ok (i, len)) (hs : kst y pc i len ls st m = some (.inr (.inr (v, m')))) : kJ y pc ls st m Q = Q v m' := by
  refine propext ⟨fun ⟨n, h⟩ => ?_, fun h => ⟨1, ?_⟩⟩
  · cases n with
    | zero => exact h.elim
    | succ n => rw [kJn_step hd, hs] at h; exact h
  · rw [kJn_step hd, hs]; exact h
theorem kJ_call {y pc len y' pc' : Nat} {ls ls' : kLcs} {st st' as : List Value} {m m' : kMem} {Q : Option Value → kMem → Prop} {i : ClassFile.Instr} (hd : decode (mB y) pc = .ok (i, len)) (hs : kst y pc i len ls st m = some (.inr (.inl (y', as, pc', ls', st', m')))) : kJ y pc ls st m Q = kJ y' 0 (kEnt y' as) [] m' (fun v m2 => kJ y pc' ls' (v.toList ++ st') m2 Q) := by
  refine propext ⟨fun ⟨n, h⟩ => ?_, fun ⟨n, h⟩ => ?_⟩
  · cases n with
    | zero => exact h.elim
    | succ n => rw [kJn_step hd, hs] at h; exact ⟨n, kJn_q h (fun v m2 hv => ⟨n, hv⟩)⟩
  · obtain ⟨v, m2, ⟨k, h1⟩, h2⟩ := kJn_out n _ _ _ _ _ _ h
    refine ⟨max n k + 1, ?_⟩
    rw [kJn_step hd, hs]
    exact kJn_le (Nat.le_max_left n k) (h2 _ (kJn_le (Nat.le_max_right n k) h1))
theorem kJ_if {y pc len : Nat} {ls : kLcs} {st : List Value} {m : kMem} {Q : Option Value → kMem → Prop} {i : ClassFile.Instr} {c : Prop} [Decidable c] {A B : Option kOut} {P R : Prop} (hd : decode (mB y) pc = .ok (i, len)) (hs : kst y pc i len ls st m = if c then A else B)
    (ht : kst y pc i len ls st m = A → kJ y pc ls st m Q = P) (hf : kst y pc i len ls st m = B → kJ y pc ls st m Q = R) : kJ y pc ls st m Q = if c then P else R := by
  by_cases h : c
  · rw [if_pos h] at hs ⊢; exact ht hs
  · rw [if_neg h] at hs ⊢; exact hf hs
