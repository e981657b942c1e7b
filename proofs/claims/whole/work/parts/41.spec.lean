/-! THE MATHEMATICAL VALUE: rows of numbers. T 0: people 0, letters 4, pace 11, day 12, seen 13. T 1..3: kind, door, mood of each; T 4..9: from, to, about, tone, at, leg of a letter; T 10..12: day, who, mood that were seen. -/
abbrev tT : Type := Nat → Nat → Nat
def tup (T : tT) (r k v : Nat) : tT := fun a j => if a = r ∧ j = k then v else T a j
theorem tup_s {T : tT} {r k v : Nat} : tup T r k v r k = v := if_pos ⟨rfl, rfl⟩
theorem tup_n {T : tT} {r k v a j : Nat} (h : ¬ (a = r ∧ j = k)) : tup T r k v a j = T a j := if_neg h
def tcnt (T : tT) (r : Nat) : Nat := if r ≤ 3 then T 0 0 else if r ≤ 9 then T 0 4 else T 0 13
def tOK (T : tT) : Prop := T 0 0 ≤ 5 ∧ T 0 4 ≤ 6 ∧ T 0 13 ≤ 6 ∧ (1 ≤ T 0 11 ∧ T 0 11 ≤ 4) ∧ T 0 12 < 2000 ∧ (∀ p, p < T 0 0 → T 1 p < 4 ∧ T 2 p < 10 ∧ T 3 p ≤ 20) ∧ (∀ i, i < T 0 4 → T 4 i < T 0 0 ∧ T 5 i < T 0 0 ∧ T 6 i < T 0 0 ∧ T 7 i ≤ 18 ∧ T 8 i < 10 ∧ T 9 i ≤ 3) ∧ (∀ j, j < T 0 13 → T 10 j ≤ 20 ∧ T 11 j < T 0 0 ∧ T 12 j ≤ 20)
/-- the block of a Post at b holds T -/
def kCR (b : Nat) (T : tT) (f : Nat → Nat → Int32) : Prop :=
  (f b 0 = nI (T 0 0) ∧ f b 4 = nI (T 0 4) ∧ f b 11 = nI (T 0 11) ∧ f b 12 = nI (T 0 12) ∧ f b 13 = nI (T 0 13)) ∧ ∀ r k, 1 ≤ r → r ≤ 12 → k < tcnt T r → f (b + r) k = nI (T r k)
/-- nothing changed but in the block at b -/
def kFr (b : Nat) (f g : Nat → Nat → Int32) : Prop := ∀ q, ¬ (b ≤ q ∧ q ≤ b + 12) → g q = f q
def feel (k t : Nat) : Int := let d : Int := (t : Int) - 9
  if k = 1 then 2 * d else if k = 2 then (if d < 0 then d.tdiv 2 else d) else if k = 3 then (if d < 0 then d.tdiv 2 else d) + 1 else d
def sends (k t : Nat) : Bool := if k = 0 then decide (6 ≤ t) else if k = 1 then decide (9 ≤ t) else true
def alt (k t : Nat) : Nat := if k = 2 then min 18 (t + 1) else if k = 3 then min 18 (t + 2) else t
def clm (x : Int) : Nat := if x < 0 then 0 else if 20 < x then 20 else x.toNat
def tway (T : tT) (i : Nat) : Bool := decide (T 9 i < 2)
def twhom (T : tT) (i : Nat) : Nat := if T 9 i = 0 then T 6 i else T 5 i
/-- a letter is read -/
def tread (T : tT) (i : Nat) : tT :=
  let p := twhom T i
  let k := T 1 p
  let t := T 7 i
  if T 9 i = 1 then tup (tup T 3 p (clm ((T 3 p : Int) + (feel k t).tdiv 2))) 9 i 2
  else if sends k t then tup (tup (tup T 3 p (clm ((T 3 p : Int) + feel k t))) 7 i (alt k t)) 9 i 1
  else tup (tup T 3 p (clm ((T 3 p : Int) + feel k t))) 9 i 3
/-- where a letter is behind a day -/
def tnear (a g v : Nat) : Nat := if a < g then min (a + v) g else max (a - v) g
def tgo (T : tT) (i : Nat) : tT :=
  let g := T 2 (twhom T i)
  let a := tnear (T 8 i) g (T 0 11)
  if a = g then tread (tup T 8 i a) i else tup T 8 i a
/-- the letters from i on, n of them -/
def tdayF (T : tT) : Nat → tT
  | 0 => T
  | i + 1 => if tway (tdayF T i) i then tgo (tdayF T i) i else tdayF T i
def tday (T : tT) : tT := tdayF T (T 0 4)
/-- how many letters are read among the first -/
def trdF (T : tT) : Nat → Nat
  | 0 => 0
  | i + 1 => trdF T i + (if tway (tdayF T i) i ∧ tnear (tdayF T i 8 i) (tdayF T i 2 (twhom (tdayF T i) i)) (T 0 11) = tdayF T i 2 (twhom (tdayF T i) i) then 1 else 0)
def tmoodF (T : tT) : Nat → Nat
  | 0 => 0
  | p + 1 => tmoodF T p + T 3 p
def tmoods (T : tT) : Nat := tmoodF T (T 0 0)
def tlegF (T : tT) (leg : Nat) : Nat → Nat
  | 0 => 0
  | i + 1 => tlegF T leg i + (if T 9 i = leg then 2 ^ i else 0)
