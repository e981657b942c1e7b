/-! the law: the script, its 38 cases, its loop -/
theorem kAr_2000 (nx : Nat) : kAr nx 2000 10 = none := if_neg (fun z => by have := z.2; revert this; decide)
theorem kJ_scr {y pc : Nat} {ls : kLcs} {st : List Value} {i : Int32} {m : kMem} {Q : Option Value → kMem → Prop} (hd : decode (mB y) pc = .ok (.iaload, 1)) (hi : vp_in i (m.1 2001 0).toNatClampNeg) : kJ y pc ls (.int i :: .ref 2000 :: st) m Q = kJ y (pc + 1) ls (.int (m.1 2000 i.toNatClampNeg) :: st) m Q := kJ_next hd (by
  show kAld (pc + 1) 10 ls (.int i :: .ref 2000 :: st) m = _
  unfold kAld
  simp only [kAr_2000]
  exact if_pos ⟨trivial, trivial, hi⟩)
theorem t199_28 {l0 l1 l2 l3 : Option Value} {st : List Value} {i : Int32} {mi : Nat → Nat → Int32} {ml : Nat → Nat → Int64} {mr : Nat → Nat → Option Nat} {nx : Nat} {Q : Option Value → kMem → Prop} (hi : vp_in i (mi 2001 0).toNatClampNeg) : kJ 199 28 [l0, l1, l2, l3] (.int i :: .ref 2000 :: st) (mi, ml, mr, nx) Q = kJ 199 29 [l0, l1, l2, l3] (.int (mi 2000 i.toNatClampNeg) :: st) (mi, ml, mr, nx) Q := kJ_scr d199_28 hi
theorem t199_205 {l0 l1 l2 l3 : Option Value} {st : List Value} {i : Int32} {mi : Nat → Nat → Int32} {ml : Nat → Nat → Int64} {mr : Nat → Nat → Option Nat} {nx : Nat} {Q : Option Value → kMem → Prop} (hi : vp_in i (mi 2001 0).toNatClampNeg) : kJ 199 205 [l0, l1, l2, l3] (.int i :: .ref 2000 :: st) (mi, ml, mr, nx) Q = kJ 199 206 [l0, l1, l2, l3] (.int (mi 2000 i.toNatClampNeg) :: st) (mi, ml, mr, nx) Q := kJ_scr d199_205 hi
theorem t199_214 {l0 l1 l2 l3 : Option Value} {st : List Value} {i : Int32} {mi : Nat → Nat → Int32} {ml : Nat → Nat → Int64} {mr : Nat → Nat → Option Nat} {nx : Nat} {Q : Option Value → kMem → Prop} (hi : vp_in i (mi 2001 0).toNatClampNeg) : kJ 199 214 [l0, l1, l2, l3] (.int i :: .ref 2000 :: st) (mi, ml, mr, nx) Q = kJ 199 215 [l0, l1, l2, l3] (.int (mi 2000 i.toNatClampNeg) :: st) (mi, ml, mr, nx) Q := kJ_scr d199_214 hi
theorem t199_228 {l0 l1 l2 l3 : Option Value} {st : List Value} {i : Int32} {mi : Nat → Nat → Int32} {ml : Nat → Nat → Int64} {mr : Nat → Nat → Option Nat} {nx : Nat} {Q : Option Value → kMem → Prop} (hi : vp_in i (mi 2001 0).toNatClampNeg) : kJ 199 228 [l0, l1, l2, l3] (.int i :: .ref 2000 :: st) (mi, ml, mr, nx) Q = kJ 199 229 [l0, l1, l2, l3] (.int (mi 2000 i.toNatClampNeg) :: st) (mi, ml, mr, nx) Q := kJ_scr d199_228 hi
theorem t199_237 {l0 l1 l2 l3 : Option Value} {st : List Value} {i : Int32} {mi : Nat → Nat → Int32} {ml : Nat → Nat → Int64} {mr : Nat → Nat → Option Nat} {nx : Nat} {Q : Option Value → kMem → Prop} (hi : vp_in i (mi 2001 0).toNatClampNeg) : kJ 199 237 [l0, l1, l2, l3] (.int i :: .ref 2000 :: st) (mi, ml, mr, nx) Q = kJ 199 238 [l0, l1, l2, l3] (.int (mi 2000 i.toNatClampNeg) :: st) (mi, ml, mr, nx) Q := kJ_scr d199_237 hi
theorem t199_277 {l0 l1 l2 l3 : Option Value} {st : List Value} {i : Int32} {mi : Nat → Nat → Int32} {ml : Nat → Nat → Int64} {mr : Nat → Nat → Option Nat} {nx : Nat} {Q : Option Value → kMem → Prop} (hi : vp_in i (mi 2001 0).toNatClampNeg) : kJ 199 277 [l0, l1, l2, l3] (.int i :: .ref 2000 :: st) (mi, ml, mr, nx) Q = kJ 199 278 [l0, l1, l2, l3] (.int (mi 2000 i.toNatClampNeg) :: st) (mi, ml, mr, nx) Q := kJ_scr d199_277 hi
theorem t199_286 {l0 l1 l2 l3 : Option Value} {st : List Value} {i : Int32} {mi : Nat → Nat → Int32} {ml : Nat → Nat → Int64} {mr : Nat → Nat → Option Nat} {nx : Nat} {Q : Option Value → kMem → Prop} (hi : vp_in i (mi 2001 0).toNatClampNeg) : kJ 199 286 [l0, l1, l2, l3] (.int i :: .ref 2000 :: st) (mi, ml, mr, nx) Q = kJ 199 287 [l0, l1, l2, l3] (.int (mi 2000 i.toNatClampNeg) :: st) (mi, ml, mr, nx) Q := kJ_scr d199_286 hi
theorem t199_300 {l0 l1 l2 l3 : Option Value} {st : List Value} {i : Int32} {mi : Nat → Nat → Int32} {ml : Nat → Nat → Int64} {mr : Nat → Nat → Option Nat} {nx : Nat} {Q : Option Value → kMem → Prop} (hi : vp_in i (mi 2001 0).toNatClampNeg) : kJ 199 300 [l0, l1, l2, l3] (.int i :: .ref 2000 :: st) (mi, ml, mr, nx) Q = kJ 199 301 [l0, l1, l2, l3] (.int (mi 2000 i.toNatClampNeg) :: st) (mi, ml, mr, nx) Q := kJ_scr d199_300 hi
theorem t199_305 {l0 l1 l2 l3 : Option Value} {st : List Value} {i : Int32} {mi : Nat → Nat → Int32} {ml : Nat → Nat → Int64} {mr : Nat → Nat → Option Nat} {nx : Nat} {Q : Option Value → kMem → Prop} (hi : vp_in i (mi 2001 0).toNatClampNeg) : kJ 199 305 [l0, l1, l2, l3] (.int i :: .ref 2000 :: st) (mi, ml, mr, nx) Q = kJ 199 306 [l0, l1, l2, l3] (.int (mi 2000 i.toNatClampNeg) :: st) (mi, ml, mr, nx) Q := kJ_scr d199_305 hi
theorem t199_314 {l0 l1 l2 l3 : Option Value} {st : List Value} {i : Int32} {mi : Nat → Nat → Int32} {ml : Nat → Nat → Int64} {mr : Nat → Nat → Option Nat} {nx : Nat} {Q : Option Value → kMem → Prop} (hi : vp_in i (mi 2001 0).toNatClampNeg) : kJ 199 314 [l0, l1, l2, l3] (.int i :: .ref 2000 :: st) (mi, ml, mr, nx) Q = kJ 199 315 [l0, l1, l2, l3] (.int (mi 2000 i.toNatClampNeg) :: st) (mi, ml, mr, nx) Q := kJ_scr d199_314 hi
theorem t199_319 {l0 l1 l2 l3 : Option Value} {st : List Value} {i : Int32} {mi : Nat → Nat → Int32} {ml : Nat → Nat → Int64} {mr : Nat → Nat → Option Nat} {nx : Nat} {Q : Option Value → kMem → Prop} (hi : vp_in i (mi 2001 0).toNatClampNeg) : kJ 199 319 [l0, l1, l2, l3] (.int i :: .ref 2000 :: st) (mi, ml, mr, nx) Q = kJ 199 320 [l0, l1, l2, l3] (.int (mi 2000 i.toNatClampNeg) :: st) (mi, ml, mr, nx) Q := kJ_scr d199_319 hi
theorem t199_333 {l0 l1 l2 l3 : Option Value} {st : List Value} {i : Int32} {mi : Nat → Nat → Int32} {ml : Nat → Nat → Int64} {mr : Nat → Nat → Option Nat} {nx : Nat} {Q : Option Value → kMem → Prop} (hi : vp_in i (mi 2001 0).toNatClampNeg) : kJ 199 333 [l0, l1, l2, l3] (.int i :: .ref 2000 :: st) (mi, ml, mr, nx) Q = kJ 199 334 [l0, l1, l2, l3] (.int (mi 2000 i.toNatClampNeg) :: st) (mi, ml, mr, nx) Q := kJ_scr d199_333 hi
theorem t199_338 {l0 l1 l2 l3 : Option Value} {st : List Value} {i : Int32} {mi : Nat → Nat → Int32} {ml : Nat → Nat → Int64} {mr : Nat → Nat → Option Nat} {nx : Nat} {Q : Option Value → kMem → Prop} (hi : vp_in i (mi 2001 0).toNatClampNeg) : kJ 199 338 [l0, l1, l2, l3] (.int i :: .ref 2000 :: st) (mi, ml, mr, nx) Q = kJ 199 339 [l0, l1, l2, l3] (.int (mi 2000 i.toNatClampNeg) :: st) (mi, ml, mr, nx) Q := kJ_scr d199_338 hi
theorem t199_347 {l0 l1 l2 l3 : Option Value} {st : List Value} {i : Int32} {mi : Nat → Nat → Int32} {ml : Nat → Nat → Int64} {mr : Nat → Nat → Option Nat} {nx : Nat} {Q : Option Value → kMem → Prop} (hi : vp_in i (mi 2001 0).toNatClampNeg) : kJ 199 347 [l0, l1, l2, l3] (.int i :: .ref 2000 :: st) (mi, ml, mr, nx) Q = kJ 199 348 [l0, l1, l2, l3] (.int (mi 2000 i.toNatClampNeg) :: st) (mi, ml, mr, nx) Q := kJ_scr d199_347 hi
theorem t199_352 {l0 l1 l2 l3 : Option Value} {st : List Value} {i : Int32} {mi : Nat → Nat → Int32} {ml : Nat → Nat → Int64} {mr : Nat → Nat → Option Nat} {nx : Nat} {Q : Option Value → kMem → Prop} (hi : vp_in i (mi 2001 0).toNatClampNeg) : kJ 199 352 [l0, l1, l2, l3] (.int i :: .ref 2000 :: st) (mi, ml, mr, nx) Q = kJ 199 353 [l0, l1, l2, l3] (.int (mi 2000 i.toNatClampNeg) :: st) (mi, ml, mr, nx) Q := kJ_scr d199_352 hi
theorem t199_366 {l0 l1 l2 l3 : Option Value} {st : List Value} {i : Int32} {mi : Nat → Nat → Int32} {ml : Nat → Nat → Int64} {mr : Nat → Nat → Option Nat} {nx : Nat} {Q : Option Value → kMem → Prop} (hi : vp_in i (mi 2001 0).toNatClampNeg) : kJ 199 366 [l0, l1, l2, l3] (.int i :: .ref 2000 :: st) (mi, ml, mr, nx) Q = kJ 199 367 [l0, l1, l2, l3] (.int (mi 2000 i.toNatClampNeg) :: st) (mi, ml, mr, nx) Q := kJ_scr d199_366 hi
theorem t199_371 {l0 l1 l2 l3 : Option Value} {st : List Value} {i : Int32} {mi : Nat → Nat → Int32} {ml : Nat → Nat → Int64} {mr : Nat → Nat → Option Nat} {nx : Nat} {Q : Option Value → kMem → Prop} (hi : vp_in i (mi 2001 0).toNatClampNeg) : kJ 199 371 [l0, l1, l2, l3] (.int i :: .ref 2000 :: st) (mi, ml, mr, nx) Q = kJ 199 372 [l0, l1, l2, l3] (.int (mi 2000 i.toNatClampNeg) :: st) (mi, ml, mr, nx) Q := kJ_scr d199_371 hi
theorem t199_380 {l0 l1 l2 l3 : Option Value} {st : List Value} {i : Int32} {mi : Nat → Nat → Int32} {ml : Nat → Nat → Int64} {mr : Nat → Nat → Option Nat} {nx : Nat} {Q : Option Value → kMem → Prop} (hi : vp_in i (mi 2001 0).toNatClampNeg) : kJ 199 380 [l0, l1, l2, l3] (.int i :: .ref 2000 :: st) (mi, ml, mr, nx) Q = kJ 199 381 [l0, l1, l2, l3] (.int (mi 2000 i.toNatClampNeg) :: st) (mi, ml, mr, nx) Q := kJ_scr d199_380 hi
theorem t199_385 {l0 l1 l2 l3 : Option Value} {st : List Value} {i : Int32} {mi : Nat → Nat → Int32} {ml : Nat → Nat → Int64} {mr : Nat → Nat → Option Nat} {nx : Nat} {Q : Option Value → kMem → Prop} (hi : vp_in i (mi 2001 0).toNatClampNeg) : kJ 199 385 [l0, l1, l2, l3] (.int i :: .ref 2000 :: st) (mi, ml, mr, nx) Q = kJ 199 386 [l0, l1, l2, l3] (.int (mi 2000 i.toNatClampNeg) :: st) (mi, ml, mr, nx) Q := kJ_scr d199_385 hi
theorem t199_399 {l0 l1 l2 l3 : Option Value} {st : List Value} {i : Int32} {mi : Nat → Nat → Int32} {ml : Nat → Nat → Int64} {mr : Nat → Nat → Option Nat} {nx : Nat} {Q : Option Value → kMem → Prop} (hi : vp_in i (mi 2001 0).toNatClampNeg) : kJ 199 399 [l0, l1, l2, l3] (.int i :: .ref 2000 :: st) (mi, ml, mr, nx) Q = kJ 199 400 [l0, l1, l2, l3] (.int (mi 2000 i.toNatClampNeg) :: st) (mi, ml, mr, nx) Q := kJ_scr d199_399 hi
theorem t199_404 {l0 l1 l2 l3 : Option Value} {st : List Value} {i : Int32} {mi : Nat → Nat → Int32} {ml : Nat → Nat → Int64} {mr : Nat → Nat → Option Nat} {nx : Nat} {Q : Option Value → kMem → Prop} (hi : vp_in i (mi 2001 0).toNatClampNeg) : kJ 199 404 [l0, l1, l2, l3] (.int i :: .ref 2000 :: st) (mi, ml, mr, nx) Q = kJ 199 405 [l0, l1, l2, l3] (.int (mi 2000 i.toNatClampNeg) :: st) (mi, ml, mr, nx) Q := kJ_scr d199_404 hi
theorem t199_409 {l0 l1 l2 l3 : Option Value} {st : List Value} {i : Int32} {mi : Nat → Nat → Int32} {ml : Nat → Nat → Int64} {mr : Nat → Nat → Option Nat} {nx : Nat} {Q : Option Value → kMem → Prop} (hi : vp_in i (mi 2001 0).toNatClampNeg) : kJ 199 409 [l0, l1, l2, l3] (.int i :: .ref 2000 :: st) (mi, ml, mr, nx) Q = kJ 199 410 [l0, l1, l2, l3] (.int (mi 2000 i.toNatClampNeg) :: st) (mi, ml, mr, nx) Q := kJ_scr d199_409 hi
theorem t199_418 {l0 l1 l2 l3 : Option Value} {st : List Value} {i : Int32} {mi : Nat → Nat → Int32} {ml : Nat → Nat → Int64} {mr : Nat → Nat → Option Nat} {nx : Nat} {Q : Option Value → kMem → Prop} (hi : vp_in i (mi 2001 0).toNatClampNeg) : kJ 199 418 [l0, l1, l2, l3] (.int i :: .ref 2000 :: st) (mi, ml, mr, nx) Q = kJ 199 419 [l0, l1, l2, l3] (.int (mi 2000 i.toNatClampNeg) :: st) (mi, ml, mr, nx) Q := kJ_scr d199_418 hi
theorem t199_423 {l0 l1 l2 l3 : Option Value} {st : List Value} {i : Int32} {mi : Nat → Nat → Int32} {ml : Nat → Nat → Int64} {mr : Nat → Nat → Option Nat} {nx : Nat} {Q : Option Value → kMem → Prop} (hi : vp_in i (mi 2001 0).toNatClampNeg) : kJ 199 423 [l0, l1, l2, l3] (.int i :: .ref 2000 :: st) (mi, ml, mr, nx) Q = kJ 199 424 [l0, l1, l2, l3] (.int (mi 2000 i.toNatClampNeg) :: st) (mi, ml, mr, nx) Q := kJ_scr d199_423 hi
theorem t199_428 {l0 l1 l2 l3 : Option Value} {st : List Value} {i : Int32} {mi : Nat → Nat → Int32} {ml : Nat → Nat → Int64} {mr : Nat → Nat → Option Nat} {nx : Nat} {Q : Option Value → kMem → Prop} (hi : vp_in i (mi 2001 0).toNatClampNeg) : kJ 199 428 [l0, l1, l2, l3] (.int i :: .ref 2000 :: st) (mi, ml, mr, nx) Q = kJ 199 429 [l0, l1, l2, l3] (.int (mi 2000 i.toNatClampNeg) :: st) (mi, ml, mr, nx) Q := kJ_scr d199_428 hi
theorem t199_442 {l0 l1 l2 l3 : Option Value} {st : List Value} {i : Int32} {mi : Nat → Nat → Int32} {ml : Nat → Nat → Int64} {mr : Nat → Nat → Option Nat} {nx : Nat} {Q : Option Value → kMem → Prop} (hi : vp_in i (mi 2001 0).toNatClampNeg) : kJ 199 442 [l0, l1, l2, l3] (.int i :: .ref 2000 :: st) (mi, ml, mr, nx) Q = kJ 199 443 [l0, l1, l2, l3] (.int (mi 2000 i.toNatClampNeg) :: st) (mi, ml, mr, nx) Q := kJ_scr d199_442 hi
theorem t199_447 {l0 l1 l2 l3 : Option Value} {st : List Value} {i : Int32} {mi : Nat → Nat → Int32} {ml : Nat → Nat → Int64} {mr : Nat → Nat → Option Nat} {nx : Nat} {Q : Option Value → kMem → Prop} (hi : vp_in i (mi 2001 0).toNatClampNeg) : kJ 199 447 [l0, l1, l2, l3] (.int i :: .ref 2000 :: st) (mi, ml, mr, nx) Q = kJ 199 448 [l0, l1, l2, l3] (.int (mi 2000 i.toNatClampNeg) :: st) (mi, ml, mr, nx) Q := kJ_scr d199_447 hi
theorem t199_456 {l0 l1 l2 l3 : Option Value} {st : List Value} {i : Int32} {mi : Nat → Nat → Int32} {ml : Nat → Nat → Int64} {mr : Nat → Nat → Option Nat} {nx : Nat} {Q : Option Value → kMem → Prop} (hi : vp_in i (mi 2001 0).toNatClampNeg) : kJ 199 456 [l0, l1, l2, l3] (.int i :: .ref 2000 :: st) (mi, ml, mr, nx) Q = kJ 199 457 [l0, l1, l2, l3] (.int (mi 2000 i.toNatClampNeg) :: st) (mi, ml, mr, nx) Q := kJ_scr d199_456 hi
theorem t199_461 {l0 l1 l2 l3 : Option Value} {st : List Value} {i : Int32} {mi : Nat → Nat → Int32} {ml : Nat → Nat → Int64} {mr : Nat → Nat → Option Nat} {nx : Nat} {Q : Option Value → kMem → Prop} (hi : vp_in i (mi 2001 0).toNatClampNeg) : kJ 199 461 [l0, l1, l2, l3] (.int i :: .ref 2000 :: st) (mi, ml, mr, nx) Q = kJ 199 462 [l0, l1, l2, l3] (.int (mi 2000 i.toNatClampNeg) :: st) (mi, ml, mr, nx) Q := kJ_scr d199_461 hi
theorem t199_475 {l0 l1 l2 l3 : Option Value} {st : List Value} {i : Int32} {mi : Nat → Nat → Int32} {ml : Nat → Nat → Int64} {mr : Nat → Nat → Option Nat} {nx : Nat} {Q : Option Value → kMem → Prop} (hi : vp_in i (mi 2001 0).toNatClampNeg) : kJ 199 475 [l0, l1, l2, l3] (.int i :: .ref 2000 :: st) (mi, ml, mr, nx) Q = kJ 199 476 [l0, l1, l2, l3] (.int (mi 2000 i.toNatClampNeg) :: st) (mi, ml, mr, nx) Q := kJ_scr d199_475 hi
theorem t199_484 {l0 l1 l2 l3 : Option Value} {st : List Value} {i : Int32} {mi : Nat → Nat → Int32} {ml : Nat → Nat → Int64} {mr : Nat → Nat → Option Nat} {nx : Nat} {Q : Option Value → kMem → Prop} (hi : vp_in i (mi 2001 0).toNatClampNeg) : kJ 199 484 [l0, l1, l2, l3] (.int i :: .ref 2000 :: st) (mi, ml, mr, nx) Q = kJ 199 485 [l0, l1, l2, l3] (.int (mi 2000 i.toNatClampNeg) :: st) (mi, ml, mr, nx) Q := kJ_scr d199_484 hi
theorem t199_498 {l0 l1 l2 l3 : Option Value} {st : List Value} {i : Int32} {mi : Nat → Nat → Int32} {ml : Nat → Nat → Int64} {mr : Nat → Nat → Option Nat} {nx : Nat} {Q : Option Value → kMem → Prop} (hi : vp_in i (mi 2001 0).toNatClampNeg) : kJ 199 498 [l0, l1, l2, l3] (.int i :: .ref 2000 :: st) (mi, ml, mr, nx) Q = kJ 199 499 [l0, l1, l2, l3] (.int (mi 2000 i.toNatClampNeg) :: st) (mi, ml, mr, nx) Q := kJ_scr d199_498 hi
theorem t199_503 {l0 l1 l2 l3 : Option Value} {st : List Value} {i : Int32} {mi : Nat → Nat → Int32} {ml : Nat → Nat → Int64} {mr : Nat → Nat → Option Nat} {nx : Nat} {Q : Option Value → kMem → Prop} (hi : vp_in i (mi 2001 0).toNatClampNeg) : kJ 199 503 [l0, l1, l2, l3] (.int i :: .ref 2000 :: st) (mi, ml, mr, nx) Q = kJ 199 504 [l0, l1, l2, l3] (.int (mi 2000 i.toNatClampNeg) :: st) (mi, ml, mr, nx) Q := kJ_scr d199_503 hi
theorem t199_508 {l0 l1 l2 l3 : Option Value} {st : List Value} {i : Int32} {mi : Nat → Nat → Int32} {ml : Nat → Nat → Int64} {mr : Nat → Nat → Option Nat} {nx : Nat} {Q : Option Value → kMem → Prop} (hi : vp_in i (mi 2001 0).toNatClampNeg) : kJ 199 508 [l0, l1, l2, l3] (.int i :: .ref 2000 :: st) (mi, ml, mr, nx) Q = kJ 199 509 [l0, l1, l2, l3] (.int (mi 2000 i.toNatClampNeg) :: st) (mi, ml, mr, nx) Q := kJ_scr d199_508 hi
theorem t199_513 {l0 l1 l2 l3 : Option Value} {st : List Value} {i : Int32} {mi : Nat → Nat → Int32} {ml : Nat → Nat → Int64} {mr : Nat → Nat → Option Nat} {nx : Nat} {Q : Option Value → kMem → Prop} (hi : vp_in i (mi 2001 0).toNatClampNeg) : kJ 199 513 [l0, l1, l2, l3] (.int i :: .ref 2000 :: st) (mi, ml, mr, nx) Q = kJ 199 514 [l0, l1, l2, l3] (.int (mi 2000 i.toNatClampNeg) :: st) (mi, ml, mr, nx) Q := kJ_scr d199_513 hi
theorem t199_522 {l0 l1 l2 l3 : Option Value} {st : List Value} {i : Int32} {mi : Nat → Nat → Int32} {ml : Nat → Nat → Int64} {mr : Nat → Nat → Option Nat} {nx : Nat} {Q : Option Value → kMem → Prop} (hi : vp_in i (mi 2001 0).toNatClampNeg) : kJ 199 522 [l0, l1, l2, l3] (.int i :: .ref 2000 :: st) (mi, ml, mr, nx) Q = kJ 199 523 [l0, l1, l2, l3] (.int (mi 2000 i.toNatClampNeg) :: st) (mi, ml, mr, nx) Q := kJ_scr d199_522 hi
theorem t199_527 {l0 l1 l2 l3 : Option Value} {st : List Value} {i : Int32} {mi : Nat → Nat → Int32} {ml : Nat → Nat → Int64} {mr : Nat → Nat → Option Nat} {nx : Nat} {Q : Option Value → kMem → Prop} (hi : vp_in i (mi 2001 0).toNatClampNeg) : kJ 199 527 [l0, l1, l2, l3] (.int i :: .ref 2000 :: st) (mi, ml, mr, nx) Q = kJ 199 528 [l0, l1, l2, l3] (.int (mi 2000 i.toNatClampNeg) :: st) (mi, ml, mr, nx) Q := kJ_scr d199_527 hi
theorem t199_532 {l0 l1 l2 l3 : Option Value} {st : List Value} {i : Int32} {mi : Nat → Nat → Int32} {ml : Nat → Nat → Int64} {mr : Nat → Nat → Option Nat} {nx : Nat} {Q : Option Value → kMem → Prop} (hi : vp_in i (mi 2001 0).toNatClampNeg) : kJ 199 532 [l0, l1, l2, l3] (.int i :: .ref 2000 :: st) (mi, ml, mr, nx) Q = kJ 199 533 [l0, l1, l2, l3] (.int (mi 2000 i.toNatClampNeg) :: st) (mi, ml, mr, nx) Q := kJ_scr d199_532 hi
theorem t199_537 {l0 l1 l2 l3 : Option Value} {st : List Value} {i : Int32} {mi : Nat → Nat → Int32} {ml : Nat → Nat → Int64} {mr : Nat → Nat → Option Nat} {nx : Nat} {Q : Option Value → kMem → Prop} (hi : vp_in i (mi 2001 0).toNatClampNeg) : kJ 199 537 [l0, l1, l2, l3] (.int i :: .ref 2000 :: st) (mi, ml, mr, nx) Q = kJ 199 538 [l0, l1, l2, l3] (.int (mi 2000 i.toNatClampNeg) :: st) (mi, ml, mr, nx) Q := kJ_scr d199_537 hi
theorem t199_551 {l0 l1 l2 l3 : Option Value} {st : List Value} {i : Int32} {mi : Nat → Nat → Int32} {ml : Nat → Nat → Int64} {mr : Nat → Nat → Option Nat} {nx : Nat} {Q : Option Value → kMem → Prop} (hi : vp_in i (mi 2001 0).toNatClampNeg) : kJ 199 551 [l0, l1, l2, l3] (.int i :: .ref 2000 :: st) (mi, ml, mr, nx) Q = kJ 199 552 [l0, l1, l2, l3] (.int (mi 2000 i.toNatClampNeg) :: st) (mi, ml, mr, nx) Q := kJ_scr d199_551 hi
theorem t199_560 {l0 l1 l2 l3 : Option Value} {st : List Value} {i : Int32} {mi : Nat → Nat → Int32} {ml : Nat → Nat → Int64} {mr : Nat → Nat → Option Nat} {nx : Nat} {Q : Option Value → kMem → Prop} (hi : vp_in i (mi 2001 0).toNatClampNeg) : kJ 199 560 [l0, l1, l2, l3] (.int i :: .ref 2000 :: st) (mi, ml, mr, nx) Q = kJ 199 561 [l0, l1, l2, l3] (.int (mi 2000 i.toNatClampNeg) :: st) (mi, ml, mr, nx) Q := kJ_scr d199_560 hi
theorem t199_574 {l0 l1 l2 l3 : Option Value} {st : List Value} {i : Int32} {mi : Nat → Nat → Int32} {ml : Nat → Nat → Int64} {mr : Nat → Nat → Option Nat} {nx : Nat} {Q : Option Value → kMem → Prop} (hi : vp_in i (mi 2001 0).toNatClampNeg) : kJ 199 574 [l0, l1, l2, l3] (.int i :: .ref 2000 :: st) (mi, ml, mr, nx) Q = kJ 199 575 [l0, l1, l2, l3] (.int (mi 2000 i.toNatClampNeg) :: st) (mi, ml, mr, nx) Q := kJ_scr d199_574 hi
theorem t199_583 {l0 l1 l2 l3 : Option Value} {st : List Value} {i : Int32} {mi : Nat → Nat → Int32} {ml : Nat → Nat → Int64} {mr : Nat → Nat → Option Nat} {nx : Nat} {Q : Option Value → kMem → Prop} (hi : vp_in i (mi 2001 0).toNatClampNeg) : kJ 199 583 [l0, l1, l2, l3] (.int i :: .ref 2000 :: st) (mi, ml, mr, nx) Q = kJ 199 584 [l0, l1, l2, l3] (.int (mi 2000 i.toNatClampNeg) :: st) (mi, ml, mr, nx) Q := kJ_scr d199_583 hi
theorem t199_597 {l0 l1 l2 l3 : Option Value} {st : List Value} {i : Int32} {mi : Nat → Nat → Int32} {ml : Nat → Nat → Int64} {mr : Nat → Nat → Option Nat} {nx : Nat} {Q : Option Value → kMem → Prop} (hi : vp_in i (mi 2001 0).toNatClampNeg) : kJ 199 597 [l0, l1, l2, l3] (.int i :: .ref 2000 :: st) (mi, ml, mr, nx) Q = kJ 199 598 [l0, l1, l2, l3] (.int (mi 2000 i.toNatClampNeg) :: st) (mi, ml, mr, nx) Q := kJ_scr d199_597 hi
theorem t199_602 {l0 l1 l2 l3 : Option Value} {st : List Value} {i : Int32} {mi : Nat → Nat → Int32} {ml : Nat → Nat → Int64} {mr : Nat → Nat → Option Nat} {nx : Nat} {Q : Option Value → kMem → Prop} (hi : vp_in i (mi 2001 0).toNatClampNeg) : kJ 199 602 [l0, l1, l2, l3] (.int i :: .ref 2000 :: st) (mi, ml, mr, nx) Q = kJ 199 603 [l0, l1, l2, l3] (.int (mi 2000 i.toNatClampNeg) :: st) (mi, ml, mr, nx) Q := kJ_scr d199_602 hi
theorem t199_611 {l0 l1 l2 l3 : Option Value} {st : List Value} {i : Int32} {mi : Nat → Nat → Int32} {ml : Nat → Nat → Int64} {mr : Nat → Nat → Option Nat} {nx : Nat} {Q : Option Value → kMem → Prop} (hi : vp_in i (mi 2001 0).toNatClampNeg) : kJ 199 611 [l0, l1, l2, l3] (.int i :: .ref 2000 :: st) (mi, ml, mr, nx) Q = kJ 199 612 [l0, l1, l2, l3] (.int (mi 2000 i.toNatClampNeg) :: st) (mi, ml, mr, nx) Q := kJ_scr d199_611 hi
theorem t199_616 {l0 l1 l2 l3 : Option Value} {st : List Value} {i : Int32} {mi : Nat → Nat → Int32} {ml : Nat → Nat → Int64} {mr : Nat → Nat → Option Nat} {nx : Nat} {Q : Option Value → kMem → Prop} (hi : vp_in i (mi 2001 0).toNatClampNeg) : kJ 199 616 [l0, l1, l2, l3] (.int i :: .ref 2000 :: st) (mi, ml, mr, nx) Q = kJ 199 617 [l0, l1, l2, l3] (.int (mi 2000 i.toNatClampNeg) :: st) (mi, ml, mr, nx) Q := kJ_scr d199_616 hi
theorem t199_630 {l0 l1 l2 l3 : Option Value} {st : List Value} {i : Int32} {mi : Nat → Nat → Int32} {ml : Nat → Nat → Int64} {mr : Nat → Nat → Option Nat} {nx : Nat} {Q : Option Value → kMem → Prop} (hi : vp_in i (mi 2001 0).toNatClampNeg) : kJ 199 630 [l0, l1, l2, l3] (.int i :: .ref 2000 :: st) (mi, ml, mr, nx) Q = kJ 199 631 [l0, l1, l2, l3] (.int (mi 2000 i.toNatClampNeg) :: st) (mi, ml, mr, nx) Q := kJ_scr d199_630 hi
theorem t199_635 {l0 l1 l2 l3 : Option Value} {st : List Value} {i : Int32} {mi : Nat → Nat → Int32} {ml : Nat → Nat → Int64} {mr : Nat → Nat → Option Nat} {nx : Nat} {Q : Option Value → kMem → Prop} (hi : vp_in i (mi 2001 0).toNatClampNeg) : kJ 199 635 [l0, l1, l2, l3] (.int i :: .ref 2000 :: st) (mi, ml, mr, nx) Q = kJ 199 636 [l0, l1, l2, l3] (.int (mi 2000 i.toNatClampNeg) :: st) (mi, ml, mr, nx) Q := kJ_scr d199_635 hi
theorem t199_644 {l0 l1 l2 l3 : Option Value} {st : List Value} {i : Int32} {mi : Nat → Nat → Int32} {ml : Nat → Nat → Int64} {mr : Nat → Nat → Option Nat} {nx : Nat} {Q : Option Value → kMem → Prop} (hi : vp_in i (mi 2001 0).toNatClampNeg) : kJ 199 644 [l0, l1, l2, l3] (.int i :: .ref 2000 :: st) (mi, ml, mr, nx) Q = kJ 199 645 [l0, l1, l2, l3] (.int (mi 2000 i.toNatClampNeg) :: st) (mi, ml, mr, nx) Q := kJ_scr d199_644 hi
theorem t199_649 {l0 l1 l2 l3 : Option Value} {st : List Value} {i : Int32} {mi : Nat → Nat → Int32} {ml : Nat → Nat → Int64} {mr : Nat → Nat → Option Nat} {nx : Nat} {Q : Option Value → kMem → Prop} (hi : vp_in i (mi 2001 0).toNatClampNeg) : kJ 199 649 [l0, l1, l2, l3] (.int i :: .ref 2000 :: st) (mi, ml, mr, nx) Q = kJ 199 650 [l0, l1, l2, l3] (.int (mi 2000 i.toNatClampNeg) :: st) (mi, ml, mr, nx) Q := kJ_scr d199_649 hi
theorem t199_663 {l0 l1 l2 l3 : Option Value} {st : List Value} {i : Int32} {mi : Nat → Nat → Int32} {ml : Nat → Nat → Int64} {mr : Nat → Nat → Option Nat} {nx : Nat} {Q : Option Value → kMem → Prop} (hi : vp_in i (mi 2001 0).toNatClampNeg) : kJ 199 663 [l0, l1, l2, l3] (.int i :: .ref 2000 :: st) (mi, ml, mr, nx) Q = kJ 199 664 [l0, l1, l2, l3] (.int (mi 2000 i.toNatClampNeg) :: st) (mi, ml, mr, nx) Q := kJ_scr d199_663 hi
theorem t199_672 {l0 l1 l2 l3 : Option Value} {st : List Value} {i : Int32} {mi : Nat → Nat → Int32} {ml : Nat → Nat → Int64} {mr : Nat → Nat → Option Nat} {nx : Nat} {Q : Option Value → kMem → Prop} (hi : vp_in i (mi 2001 0).toNatClampNeg) : kJ 199 672 [l0, l1, l2, l3] (.int i :: .ref 2000 :: st) (mi, ml, mr, nx) Q = kJ 199 673 [l0, l1, l2, l3] (.int (mi 2000 i.toNatClampNeg) :: st) (mi, ml, mr, nx) Q := kJ_scr d199_672 hi
theorem t199_686 {l0 l1 l2 l3 : Option Value} {st : List Value} {i : Int32} {mi : Nat → Nat → Int32} {ml : Nat → Nat → Int64} {mr : Nat → Nat → Option Nat} {nx : Nat} {Q : Option Value → kMem → Prop} (hi : vp_in i (mi 2001 0).toNatClampNeg) : kJ 199 686 [l0, l1, l2, l3] (.int i :: .ref 2000 :: st) (mi, ml, mr, nx) Q = kJ 199 687 [l0, l1, l2, l3] (.int (mi 2000 i.toNatClampNeg) :: st) (mi, ml, mr, nx) Q := kJ_scr d199_686 hi
theorem t199_691 {l0 l1 l2 l3 : Option Value} {st : List Value} {i : Int32} {mi : Nat → Nat → Int32} {ml : Nat → Nat → Int64} {mr : Nat → Nat → Option Nat} {nx : Nat} {Q : Option Value → kMem → Prop} (hi : vp_in i (mi 2001 0).toNatClampNeg) : kJ 199 691 [l0, l1, l2, l3] (.int i :: .ref 2000 :: st) (mi, ml, mr, nx) Q = kJ 199 692 [l0, l1, l2, l3] (.int (mi 2000 i.toNatClampNeg) :: st) (mi, ml, mr, nx) Q := kJ_scr d199_691 hi
theorem t199_696 {l0 l1 l2 l3 : Option Value} {st : List Value} {i : Int32} {mi : Nat → Nat → Int32} {ml : Nat → Nat → Int64} {mr : Nat → Nat → Option Nat} {nx : Nat} {Q : Option Value → kMem → Prop} (hi : vp_in i (mi 2001 0).toNatClampNeg) : kJ 199 696 [l0, l1, l2, l3] (.int i :: .ref 2000 :: st) (mi, ml, mr, nx) Q = kJ 199 697 [l0, l1, l2, l3] (.int (mi 2000 i.toNatClampNeg) :: st) (mi, ml, mr, nx) Q := kJ_scr d199_696 hi
theorem t199_705 {l0 l1 l2 l3 : Option Value} {st : List Value} {i : Int32} {mi : Nat → Nat → Int32} {ml : Nat → Nat → Int64} {mr : Nat → Nat → Option Nat} {nx : Nat} {Q : Option Value → kMem → Prop} (hi : vp_in i (mi 2001 0).toNatClampNeg) : kJ 199 705 [l0, l1, l2, l3] (.int i :: .ref 2000 :: st) (mi, ml, mr, nx) Q = kJ 199 706 [l0, l1, l2, l3] (.int (mi 2000 i.toNatClampNeg) :: st) (mi, ml, mr, nx) Q := kJ_scr d199_705 hi
theorem t199_710 {l0 l1 l2 l3 : Option Value} {st : List Value} {i : Int32} {mi : Nat → Nat → Int32} {ml : Nat → Nat → Int64} {mr : Nat → Nat → Option Nat} {nx : Nat} {Q : Option Value → kMem → Prop} (hi : vp_in i (mi 2001 0).toNatClampNeg) : kJ 199 710 [l0, l1, l2, l3] (.int i :: .ref 2000 :: st) (mi, ml, mr, nx) Q = kJ 199 711 [l0, l1, l2, l3] (.int (mi 2000 i.toNatClampNeg) :: st) (mi, ml, mr, nx) Q := kJ_scr d199_710 hi
theorem t199_715 {l0 l1 l2 l3 : Option Value} {st : List Value} {i : Int32} {mi : Nat → Nat → Int32} {ml : Nat → Nat → Int64} {mr : Nat → Nat → Option Nat} {nx : Nat} {Q : Option Value → kMem → Prop} (hi : vp_in i (mi 2001 0).toNatClampNeg) : kJ 199 715 [l0, l1, l2, l3] (.int i :: .ref 2000 :: st) (mi, ml, mr, nx) Q = kJ 199 716 [l0, l1, l2, l3] (.int (mi 2000 i.toNatClampNeg) :: st) (mi, ml, mr, nx) Q := kJ_scr d199_715 hi
theorem t199_729 {l0 l1 l2 l3 : Option Value} {st : List Value} {i : Int32} {mi : Nat → Nat → Int32} {ml : Nat → Nat → Int64} {mr : Nat → Nat → Option Nat} {nx : Nat} {Q : Option Value → kMem → Prop} (hi : vp_in i (mi 2001 0).toNatClampNeg) : kJ 199 729 [l0, l1, l2, l3] (.int i :: .ref 2000 :: st) (mi, ml, mr, nx) Q = kJ 199 730 [l0, l1, l2, l3] (.int (mi 2000 i.toNatClampNeg) :: st) (mi, ml, mr, nx) Q := kJ_scr d199_729 hi
theorem t199_734 {l0 l1 l2 l3 : Option Value} {st : List Value} {i : Int32} {mi : Nat → Nat → Int32} {ml : Nat → Nat → Int64} {mr : Nat → Nat → Option Nat} {nx : Nat} {Q : Option Value → kMem → Prop} (hi : vp_in i (mi 2001 0).toNatClampNeg) : kJ 199 734 [l0, l1, l2, l3] (.int i :: .ref 2000 :: st) (mi, ml, mr, nx) Q = kJ 199 735 [l0, l1, l2, l3] (.int (mi 2000 i.toNatClampNeg) :: st) (mi, ml, mr, nx) Q := kJ_scr d199_734 hi
theorem t199_743 {l0 l1 l2 l3 : Option Value} {st : List Value} {i : Int32} {mi : Nat → Nat → Int32} {ml : Nat → Nat → Int64} {mr : Nat → Nat → Option Nat} {nx : Nat} {Q : Option Value → kMem → Prop} (hi : vp_in i (mi 2001 0).toNatClampNeg) : kJ 199 743 [l0, l1, l2, l3] (.int i :: .ref 2000 :: st) (mi, ml, mr, nx) Q = kJ 199 744 [l0, l1, l2, l3] (.int (mi 2000 i.toNatClampNeg) :: st) (mi, ml, mr, nx) Q := kJ_scr d199_743 hi
theorem t199_748 {l0 l1 l2 l3 : Option Value} {st : List Value} {i : Int32} {mi : Nat → Nat → Int32} {ml : Nat → Nat → Int64} {mr : Nat → Nat → Option Nat} {nx : Nat} {Q : Option Value → kMem → Prop} (hi : vp_in i (mi 2001 0).toNatClampNeg) : kJ 199 748 [l0, l1, l2, l3] (.int i :: .ref 2000 :: st) (mi, ml, mr, nx) Q = kJ 199 749 [l0, l1, l2, l3] (.int (mi 2000 i.toNatClampNeg) :: st) (mi, ml, mr, nx) Q := kJ_scr d199_748 hi
theorem t199_762 {l0 l1 l2 l3 : Option Value} {st : List Value} {i : Int32} {mi : Nat → Nat → Int32} {ml : Nat → Nat → Int64} {mr : Nat → Nat → Option Nat} {nx : Nat} {Q : Option Value → kMem → Prop} (hi : vp_in i (mi 2001 0).toNatClampNeg) : kJ 199 762 [l0, l1, l2, l3] (.int i :: .ref 2000 :: st) (mi, ml, mr, nx) Q = kJ 199 763 [l0, l1, l2, l3] (.int (mi 2000 i.toNatClampNeg) :: st) (mi, ml, mr, nx) Q := kJ_scr d199_762 hi
theorem t199_767 {l0 l1 l2 l3 : Option Value} {st : List Value} {i : Int32} {mi : Nat → Nat → Int32} {ml : Nat → Nat → Int64} {mr : Nat → Nat → Option Nat} {nx : Nat} {Q : Option Value → kMem → Prop} (hi : vp_in i (mi 2001 0).toNatClampNeg) : kJ 199 767 [l0, l1, l2, l3] (.int i :: .ref 2000 :: st) (mi, ml, mr, nx) Q = kJ 199 768 [l0, l1, l2, l3] (.int (mi 2000 i.toNatClampNeg) :: st) (mi, ml, mr, nx) Q := kJ_scr d199_767 hi
theorem t199_772 {l0 l1 l2 l3 : Option Value} {st : List Value} {i : Int32} {mi : Nat → Nat → Int32} {ml : Nat → Nat → Int64} {mr : Nat → Nat → Option Nat} {nx : Nat} {Q : Option Value → kMem → Prop} (hi : vp_in i (mi 2001 0).toNatClampNeg) : kJ 199 772 [l0, l1, l2, l3] (.int i :: .ref 2000 :: st) (mi, ml, mr, nx) Q = kJ 199 773 [l0, l1, l2, l3] (.int (mi 2000 i.toNatClampNeg) :: st) (mi, ml, mr, nx) Q := kJ_scr d199_772 hi
theorem t199_781 {l0 l1 l2 l3 : Option Value} {st : List Value} {i : Int32} {mi : Nat → Nat → Int32} {ml : Nat → Nat → Int64} {mr : Nat → Nat → Option Nat} {nx : Nat} {Q : Option Value → kMem → Prop} (hi : vp_in i (mi 2001 0).toNatClampNeg) : kJ 199 781 [l0, l1, l2, l3] (.int i :: .ref 2000 :: st) (mi, ml, mr, nx) Q = kJ 199 782 [l0, l1, l2, l3] (.int (mi 2000 i.toNatClampNeg) :: st) (mi, ml, mr, nx) Q := kJ_scr d199_781 hi
theorem t199_786 {l0 l1 l2 l3 : Option Value} {st : List Value} {i : Int32} {mi : Nat → Nat → Int32} {ml : Nat → Nat → Int64} {mr : Nat → Nat → Option Nat} {nx : Nat} {Q : Option Value → kMem → Prop} (hi : vp_in i (mi 2001 0).toNatClampNeg) : kJ 199 786 [l0, l1, l2, l3] (.int i :: .ref 2000 :: st) (mi, ml, mr, nx) Q = kJ 199 787 [l0, l1, l2, l3] (.int (mi 2000 i.toNatClampNeg) :: st) (mi, ml, mr, nx) Q := kJ_scr d199_786 hi
theorem t199_791 {l0 l1 l2 l3 : Option Value} {st : List Value} {i : Int32} {mi : Nat → Nat → Int32} {ml : Nat → Nat → Int64} {mr : Nat → Nat → Option Nat} {nx : Nat} {Q : Option Value → kMem → Prop} (hi : vp_in i (mi 2001 0).toNatClampNeg) : kJ 199 791 [l0, l1, l2, l3] (.int i :: .ref 2000 :: st) (mi, ml, mr, nx) Q = kJ 199 792 [l0, l1, l2, l3] (.int (mi 2000 i.toNatClampNeg) :: st) (mi, ml, mr, nx) Q := kJ_scr d199_791 hi
theorem t199_805 {l0 l1 l2 l3 : Option Value} {st : List Value} {i : Int32} {mi : Nat → Nat → Int32} {ml : Nat → Nat → Int64} {mr : Nat → Nat → Option Nat} {nx : Nat} {Q : Option Value → kMem → Prop} (hi : vp_in i (mi 2001 0).toNatClampNeg) : kJ 199 805 [l0, l1, l2, l3] (.int i :: .ref 2000 :: st) (mi, ml, mr, nx) Q = kJ 199 806 [l0, l1, l2, l3] (.int (mi 2000 i.toNatClampNeg) :: st) (mi, ml, mr, nx) Q := kJ_scr d199_805 hi
theorem t199_810 {l0 l1 l2 l3 : Option Value} {st : List Value} {i : Int32} {mi : Nat → Nat → Int32} {ml : Nat → Nat → Int64} {mr : Nat → Nat → Option Nat} {nx : Nat} {Q : Option Value → kMem → Prop} (hi : vp_in i (mi 2001 0).toNatClampNeg) : kJ 199 810 [l0, l1, l2, l3] (.int i :: .ref 2000 :: st) (mi, ml, mr, nx) Q = kJ 199 811 [l0, l1, l2, l3] (.int (mi 2000 i.toNatClampNeg) :: st) (mi, ml, mr, nx) Q := kJ_scr d199_810 hi
theorem t199_819 {l0 l1 l2 l3 : Option Value} {st : List Value} {i : Int32} {mi : Nat → Nat → Int32} {ml : Nat → Nat → Int64} {mr : Nat → Nat → Option Nat} {nx : Nat} {Q : Option Value → kMem → Prop} (hi : vp_in i (mi 2001 0).toNatClampNeg) : kJ 199 819 [l0, l1, l2, l3] (.int i :: .ref 2000 :: st) (mi, ml, mr, nx) Q = kJ 199 820 [l0, l1, l2, l3] (.int (mi 2000 i.toNatClampNeg) :: st) (mi, ml, mr, nx) Q := kJ_scr d199_819 hi
theorem t199_824 {l0 l1 l2 l3 : Option Value} {st : List Value} {i : Int32} {mi : Nat → Nat → Int32} {ml : Nat → Nat → Int64} {mr : Nat → Nat → Option Nat} {nx : Nat} {Q : Option Value → kMem → Prop} (hi : vp_in i (mi 2001 0).toNatClampNeg) : kJ 199 824 [l0, l1, l2, l3] (.int i :: .ref 2000 :: st) (mi, ml, mr, nx) Q = kJ 199 825 [l0, l1, l2, l3] (.int (mi 2000 i.toNatClampNeg) :: st) (mi, ml, mr, nx) Q := kJ_scr d199_824 hi
theorem t199_838 {l0 l1 l2 l3 : Option Value} {st : List Value} {i : Int32} {mi : Nat → Nat → Int32} {ml : Nat → Nat → Int64} {mr : Nat → Nat → Option Nat} {nx : Nat} {Q : Option Value → kMem → Prop} (hi : vp_in i (mi 2001 0).toNatClampNeg) : kJ 199 838 [l0, l1, l2, l3] (.int i :: .ref 2000 :: st) (mi, ml, mr, nx) Q = kJ 199 839 [l0, l1, l2, l3] (.int (mi 2000 i.toNatClampNeg) :: st) (mi, ml, mr, nx) Q := kJ_scr d199_838 hi
theorem t199_843 {l0 l1 l2 l3 : Option Value} {st : List Value} {i : Int32} {mi : Nat → Nat → Int32} {ml : Nat → Nat → Int64} {mr : Nat → Nat → Option Nat} {nx : Nat} {Q : Option Value → kMem → Prop} (hi : vp_in i (mi 2001 0).toNatClampNeg) : kJ 199 843 [l0, l1, l2, l3] (.int i :: .ref 2000 :: st) (mi, ml, mr, nx) Q = kJ 199 844 [l0, l1, l2, l3] (.int (mi 2000 i.toNatClampNeg) :: st) (mi, ml, mr, nx) Q := kJ_scr d199_843 hi
theorem t199_852 {l0 l1 l2 l3 : Option Value} {st : List Value} {i : Int32} {mi : Nat → Nat → Int32} {ml : Nat → Nat → Int64} {mr : Nat → Nat → Option Nat} {nx : Nat} {Q : Option Value → kMem → Prop} (hi : vp_in i (mi 2001 0).toNatClampNeg) : kJ 199 852 [l0, l1, l2, l3] (.int i :: .ref 2000 :: st) (mi, ml, mr, nx) Q = kJ 199 853 [l0, l1, l2, l3] (.int (mi 2000 i.toNatClampNeg) :: st) (mi, ml, mr, nx) Q := kJ_scr d199_852 hi
theorem t199_857 {l0 l1 l2 l3 : Option Value} {st : List Value} {i : Int32} {mi : Nat → Nat → Int32} {ml : Nat → Nat → Int64} {mr : Nat → Nat → Option Nat} {nx : Nat} {Q : Option Value → kMem → Prop} (hi : vp_in i (mi 2001 0).toNatClampNeg) : kJ 199 857 [l0, l1, l2, l3] (.int i :: .ref 2000 :: st) (mi, ml, mr, nx) Q = kJ 199 858 [l0, l1, l2, l3] (.int (mi 2000 i.toNatClampNeg) :: st) (mi, ml, mr, nx) Q := kJ_scr d199_857 hi
theorem t199_871 {l0 l1 l2 l3 : Option Value} {st : List Value} {i : Int32} {mi : Nat → Nat → Int32} {ml : Nat → Nat → Int64} {mr : Nat → Nat → Option Nat} {nx : Nat} {Q : Option Value → kMem → Prop} (hi : vp_in i (mi 2001 0).toNatClampNeg) : kJ 199 871 [l0, l1, l2, l3] (.int i :: .ref 2000 :: st) (mi, ml, mr, nx) Q = kJ 199 872 [l0, l1, l2, l3] (.int (mi 2000 i.toNatClampNeg) :: st) (mi, ml, mr, nx) Q := kJ_scr d199_871 hi
theorem t199_876 {l0 l1 l2 l3 : Option Value} {st : List Value} {i : Int32} {mi : Nat → Nat → Int32} {ml : Nat → Nat → Int64} {mr : Nat → Nat → Option Nat} {nx : Nat} {Q : Option Value → kMem → Prop} (hi : vp_in i (mi 2001 0).toNatClampNeg) : kJ 199 876 [l0, l1, l2, l3] (.int i :: .ref 2000 :: st) (mi, ml, mr, nx) Q = kJ 199 877 [l0, l1, l2, l3] (.int (mi 2000 i.toNatClampNeg) :: st) (mi, ml, mr, nx) Q := kJ_scr d199_876 hi
theorem t199_881 {l0 l1 l2 l3 : Option Value} {st : List Value} {i : Int32} {mi : Nat → Nat → Int32} {ml : Nat → Nat → Int64} {mr : Nat → Nat → Option Nat} {nx : Nat} {Q : Option Value → kMem → Prop} (hi : vp_in i (mi 2001 0).toNatClampNeg) : kJ 199 881 [l0, l1, l2, l3] (.int i :: .ref 2000 :: st) (mi, ml, mr, nx) Q = kJ 199 882 [l0, l1, l2, l3] (.int (mi 2000 i.toNatClampNeg) :: st) (mi, ml, mr, nx) Q := kJ_scr d199_881 hi
theorem t199_890 {l0 l1 l2 l3 : Option Value} {st : List Value} {i : Int32} {mi : Nat → Nat → Int32} {ml : Nat → Nat → Int64} {mr : Nat → Nat → Option Nat} {nx : Nat} {Q : Option Value → kMem → Prop} (hi : vp_in i (mi 2001 0).toNatClampNeg) : kJ 199 890 [l0, l1, l2, l3] (.int i :: .ref 2000 :: st) (mi, ml, mr, nx) Q = kJ 199 891 [l0, l1, l2, l3] (.int (mi 2000 i.toNatClampNeg) :: st) (mi, ml, mr, nx) Q := kJ_scr d199_890 hi
theorem t199_895 {l0 l1 l2 l3 : Option Value} {st : List Value} {i : Int32} {mi : Nat → Nat → Int32} {ml : Nat → Nat → Int64} {mr : Nat → Nat → Option Nat} {nx : Nat} {Q : Option Value → kMem → Prop} (hi : vp_in i (mi 2001 0).toNatClampNeg) : kJ 199 895 [l0, l1, l2, l3] (.int i :: .ref 2000 :: st) (mi, ml, mr, nx) Q = kJ 199 896 [l0, l1, l2, l3] (.int (mi 2000 i.toNatClampNeg) :: st) (mi, ml, mr, nx) Q := kJ_scr d199_895 hi
theorem t199_900 {l0 l1 l2 l3 : Option Value} {st : List Value} {i : Int32} {mi : Nat → Nat → Int32} {ml : Nat → Nat → Int64} {mr : Nat → Nat → Option Nat} {nx : Nat} {Q : Option Value → kMem → Prop} (hi : vp_in i (mi 2001 0).toNatClampNeg) : kJ 199 900 [l0, l1, l2, l3] (.int i :: .ref 2000 :: st) (mi, ml, mr, nx) Q = kJ 199 901 [l0, l1, l2, l3] (.int (mi 2000 i.toNatClampNeg) :: st) (mi, ml, mr, nx) Q := kJ_scr d199_900 hi
theorem t199_914 {l0 l1 l2 l3 : Option Value} {st : List Value} {i : Int32} {mi : Nat → Nat → Int32} {ml : Nat → Nat → Int64} {mr : Nat → Nat → Option Nat} {nx : Nat} {Q : Option Value → kMem → Prop} (hi : vp_in i (mi 2001 0).toNatClampNeg) : kJ 199 914 [l0, l1, l2, l3] (.int i :: .ref 2000 :: st) (mi, ml, mr, nx) Q = kJ 199 915 [l0, l1, l2, l3] (.int (mi 2000 i.toNatClampNeg) :: st) (mi, ml, mr, nx) Q := kJ_scr d199_914 hi
theorem t199_919 {l0 l1 l2 l3 : Option Value} {st : List Value} {i : Int32} {mi : Nat → Nat → Int32} {ml : Nat → Nat → Int64} {mr : Nat → Nat → Option Nat} {nx : Nat} {Q : Option Value → kMem → Prop} (hi : vp_in i (mi 2001 0).toNatClampNeg) : kJ 199 919 [l0, l1, l2, l3] (.int i :: .ref 2000 :: st) (mi, ml, mr, nx) Q = kJ 199 920 [l0, l1, l2, l3] (.int (mi 2000 i.toNatClampNeg) :: st) (mi, ml, mr, nx) Q := kJ_scr d199_919 hi
theorem t199_924 {l0 l1 l2 l3 : Option Value} {st : List Value} {i : Int32} {mi : Nat → Nat → Int32} {ml : Nat → Nat → Int64} {mr : Nat → Nat → Option Nat} {nx : Nat} {Q : Option Value → kMem → Prop} (hi : vp_in i (mi 2001 0).toNatClampNeg) : kJ 199 924 [l0, l1, l2, l3] (.int i :: .ref 2000 :: st) (mi, ml, mr, nx) Q = kJ 199 925 [l0, l1, l2, l3] (.int (mi 2000 i.toNatClampNeg) :: st) (mi, ml, mr, nx) Q := kJ_scr d199_924 hi
theorem t199_929 {l0 l1 l2 l3 : Option Value} {st : List Value} {i : Int32} {mi : Nat → Nat → Int32} {ml : Nat → Nat → Int64} {mr : Nat → Nat → Option Nat} {nx : Nat} {Q : Option Value → kMem → Prop} (hi : vp_in i (mi 2001 0).toNatClampNeg) : kJ 199 929 [l0, l1, l2, l3] (.int i :: .ref 2000 :: st) (mi, ml, mr, nx) Q = kJ 199 930 [l0, l1, l2, l3] (.int (mi 2000 i.toNatClampNeg) :: st) (mi, ml, mr, nx) Q := kJ_scr d199_929 hi
theorem t199_938 {l0 l1 l2 l3 : Option Value} {st : List Value} {i : Int32} {mi : Nat → Nat → Int32} {ml : Nat → Nat → Int64} {mr : Nat → Nat → Option Nat} {nx : Nat} {Q : Option Value → kMem → Prop} (hi : vp_in i (mi 2001 0).toNatClampNeg) : kJ 199 938 [l0, l1, l2, l3] (.int i :: .ref 2000 :: st) (mi, ml, mr, nx) Q = kJ 199 939 [l0, l1, l2, l3] (.int (mi 2000 i.toNatClampNeg) :: st) (mi, ml, mr, nx) Q := kJ_scr d199_938 hi
theorem t199_943 {l0 l1 l2 l3 : Option Value} {st : List Value} {i : Int32} {mi : Nat → Nat → Int32} {ml : Nat → Nat → Int64} {mr : Nat → Nat → Option Nat} {nx : Nat} {Q : Option Value → kMem → Prop} (hi : vp_in i (mi 2001 0).toNatClampNeg) : kJ 199 943 [l0, l1, l2, l3] (.int i :: .ref 2000 :: st) (mi, ml, mr, nx) Q = kJ 199 944 [l0, l1, l2, l3] (.int (mi 2000 i.toNatClampNeg) :: st) (mi, ml, mr, nx) Q := kJ_scr d199_943 hi
theorem t199_948 {l0 l1 l2 l3 : Option Value} {st : List Value} {i : Int32} {mi : Nat → Nat → Int32} {ml : Nat → Nat → Int64} {mr : Nat → Nat → Option Nat} {nx : Nat} {Q : Option Value → kMem → Prop} (hi : vp_in i (mi 2001 0).toNatClampNeg) : kJ 199 948 [l0, l1, l2, l3] (.int i :: .ref 2000 :: st) (mi, ml, mr, nx) Q = kJ 199 949 [l0, l1, l2, l3] (.int (mi 2000 i.toNatClampNeg) :: st) (mi, ml, mr, nx) Q := kJ_scr d199_948 hi
theorem t199_953 {l0 l1 l2 l3 : Option Value} {st : List Value} {i : Int32} {mi : Nat → Nat → Int32} {ml : Nat → Nat → Int64} {mr : Nat → Nat → Option Nat} {nx : Nat} {Q : Option Value → kMem → Prop} (hi : vp_in i (mi 2001 0).toNatClampNeg) : kJ 199 953 [l0, l1, l2, l3] (.int i :: .ref 2000 :: st) (mi, ml, mr, nx) Q = kJ 199 954 [l0, l1, l2, l3] (.int (mi 2000 i.toNatClampNeg) :: st) (mi, ml, mr, nx) Q := kJ_scr d199_953 hi
theorem t199_968 {l0 l1 l2 l3 : Option Value} {st : List Value} {i : Int32} {mi : Nat → Nat → Int32} {ml : Nat → Nat → Int64} {mr : Nat → Nat → Option Nat} {nx : Nat} {Q : Option Value → kMem → Prop} (hi : vp_in i (mi 2001 0).toNatClampNeg) : kJ 199 968 [l0, l1, l2, l3] (.int i :: .ref 2000 :: st) (mi, ml, mr, nx) Q = kJ 199 969 [l0, l1, l2, l3] (.int (mi 2000 i.toNatClampNeg) :: st) (mi, ml, mr, nx) Q := kJ_scr d199_968 hi
theorem t199_973 {l0 l1 l2 l3 : Option Value} {st : List Value} {i : Int32} {mi : Nat → Nat → Int32} {ml : Nat → Nat → Int64} {mr : Nat → Nat → Option Nat} {nx : Nat} {Q : Option Value → kMem → Prop} (hi : vp_in i (mi 2001 0).toNatClampNeg) : kJ 199 973 [l0, l1, l2, l3] (.int i :: .ref 2000 :: st) (mi, ml, mr, nx) Q = kJ 199 974 [l0, l1, l2, l3] (.int (mi 2000 i.toNatClampNeg) :: st) (mi, ml, mr, nx) Q := kJ_scr d199_973 hi
theorem t199_978 {l0 l1 l2 l3 : Option Value} {st : List Value} {i : Int32} {mi : Nat → Nat → Int32} {ml : Nat → Nat → Int64} {mr : Nat → Nat → Option Nat} {nx : Nat} {Q : Option Value → kMem → Prop} (hi : vp_in i (mi 2001 0).toNatClampNeg) : kJ 199 978 [l0, l1, l2, l3] (.int i :: .ref 2000 :: st) (mi, ml, mr, nx) Q = kJ 199 979 [l0, l1, l2, l3] (.int (mi 2000 i.toNatClampNeg) :: st) (mi, ml, mr, nx) Q := kJ_scr d199_978 hi
theorem t199_987 {l0 l1 l2 l3 : Option Value} {st : List Value} {i : Int32} {mi : Nat → Nat → Int32} {ml : Nat → Nat → Int64} {mr : Nat → Nat → Option Nat} {nx : Nat} {Q : Option Value → kMem → Prop} (hi : vp_in i (mi 2001 0).toNatClampNeg) : kJ 199 987 [l0, l1, l2, l3] (.int i :: .ref 2000 :: st) (mi, ml, mr, nx) Q = kJ 199 988 [l0, l1, l2, l3] (.int (mi 2000 i.toNatClampNeg) :: st) (mi, ml, mr, nx) Q := kJ_scr d199_987 hi
theorem t199_992 {l0 l1 l2 l3 : Option Value} {st : List Value} {i : Int32} {mi : Nat → Nat → Int32} {ml : Nat → Nat → Int64} {mr : Nat → Nat → Option Nat} {nx : Nat} {Q : Option Value → kMem → Prop} (hi : vp_in i (mi 2001 0).toNatClampNeg) : kJ 199 992 [l0, l1, l2, l3] (.int i :: .ref 2000 :: st) (mi, ml, mr, nx) Q = kJ 199 993 [l0, l1, l2, l3] (.int (mi 2000 i.toNatClampNeg) :: st) (mi, ml, mr, nx) Q := kJ_scr d199_992 hi
theorem t199_997 {l0 l1 l2 l3 : Option Value} {st : List Value} {i : Int32} {mi : Nat → Nat → Int32} {ml : Nat → Nat → Int64} {mr : Nat → Nat → Option Nat} {nx : Nat} {Q : Option Value → kMem → Prop} (hi : vp_in i (mi 2001 0).toNatClampNeg) : kJ 199 997 [l0, l1, l2, l3] (.int i :: .ref 2000 :: st) (mi, ml, mr, nx) Q = kJ 199 998 [l0, l1, l2, l3] (.int (mi 2000 i.toNatClampNeg) :: st) (mi, ml, mr, nx) Q := kJ_scr d199_997 hi
theorem t199_1012 {l0 l1 l2 l3 : Option Value} {st : List Value} {i : Int32} {mi : Nat → Nat → Int32} {ml : Nat → Nat → Int64} {mr : Nat → Nat → Option Nat} {nx : Nat} {Q : Option Value → kMem → Prop} (hi : vp_in i (mi 2001 0).toNatClampNeg) : kJ 199 1012 [l0, l1, l2, l3] (.int i :: .ref 2000 :: st) (mi, ml, mr, nx) Q = kJ 199 1013 [l0, l1, l2, l3] (.int (mi 2000 i.toNatClampNeg) :: st) (mi, ml, mr, nx) Q := kJ_scr d199_1012 hi
theorem t199_1017 {l0 l1 l2 l3 : Option Value} {st : List Value} {i : Int32} {mi : Nat → Nat → Int32} {ml : Nat → Nat → Int64} {mr : Nat → Nat → Option Nat} {nx : Nat} {Q : Option Value → kMem → Prop} (hi : vp_in i (mi 2001 0).toNatClampNeg) : kJ 199 1017 [l0, l1, l2, l3] (.int i :: .ref 2000 :: st) (mi, ml, mr, nx) Q = kJ 199 1018 [l0, l1, l2, l3] (.int (mi 2000 i.toNatClampNeg) :: st) (mi, ml, mr, nx) Q := kJ_scr d199_1017 hi
theorem t199_1022 {l0 l1 l2 l3 : Option Value} {st : List Value} {i : Int32} {mi : Nat → Nat → Int32} {ml : Nat → Nat → Int64} {mr : Nat → Nat → Option Nat} {nx : Nat} {Q : Option Value → kMem → Prop} (hi : vp_in i (mi 2001 0).toNatClampNeg) : kJ 199 1022 [l0, l1, l2, l3] (.int i :: .ref 2000 :: st) (mi, ml, mr, nx) Q = kJ 199 1023 [l0, l1, l2, l3] (.int (mi 2000 i.toNatClampNeg) :: st) (mi, ml, mr, nx) Q := kJ_scr d199_1022 hi
theorem t199_1031 {l0 l1 l2 l3 : Option Value} {st : List Value} {i : Int32} {mi : Nat → Nat → Int32} {ml : Nat → Nat → Int64} {mr : Nat → Nat → Option Nat} {nx : Nat} {Q : Option Value → kMem → Prop} (hi : vp_in i (mi 2001 0).toNatClampNeg) : kJ 199 1031 [l0, l1, l2, l3] (.int i :: .ref 2000 :: st) (mi, ml, mr, nx) Q = kJ 199 1032 [l0, l1, l2, l3] (.int (mi 2000 i.toNatClampNeg) :: st) (mi, ml, mr, nx) Q := kJ_scr d199_1031 hi
theorem t199_1036 {l0 l1 l2 l3 : Option Value} {st : List Value} {i : Int32} {mi : Nat → Nat → Int32} {ml : Nat → Nat → Int64} {mr : Nat → Nat → Option Nat} {nx : Nat} {Q : Option Value → kMem → Prop} (hi : vp_in i (mi 2001 0).toNatClampNeg) : kJ 199 1036 [l0, l1, l2, l3] (.int i :: .ref 2000 :: st) (mi, ml, mr, nx) Q = kJ 199 1037 [l0, l1, l2, l3] (.int (mi 2000 i.toNatClampNeg) :: st) (mi, ml, mr, nx) Q := kJ_scr d199_1036 hi
theorem t199_1041 {l0 l1 l2 l3 : Option Value} {st : List Value} {i : Int32} {mi : Nat → Nat → Int32} {ml : Nat → Nat → Int64} {mr : Nat → Nat → Option Nat} {nx : Nat} {Q : Option Value → kMem → Prop} (hi : vp_in i (mi 2001 0).toNatClampNeg) : kJ 199 1041 [l0, l1, l2, l3] (.int i :: .ref 2000 :: st) (mi, ml, mr, nx) Q = kJ 199 1042 [l0, l1, l2, l3] (.int (mi 2000 i.toNatClampNeg) :: st) (mi, ml, mr, nx) Q := kJ_scr d199_1041 hi
theorem t199_1055 {l0 l1 l2 l3 : Option Value} {st : List Value} {i : Int32} {mi : Nat → Nat → Int32} {ml : Nat → Nat → Int64} {mr : Nat → Nat → Option Nat} {nx : Nat} {Q : Option Value → kMem → Prop} (hi : vp_in i (mi 2001 0).toNatClampNeg) : kJ 199 1055 [l0, l1, l2, l3] (.int i :: .ref 2000 :: st) (mi, ml, mr, nx) Q = kJ 199 1056 [l0, l1, l2, l3] (.int (mi 2000 i.toNatClampNeg) :: st) (mi, ml, mr, nx) Q := kJ_scr d199_1055 hi
theorem t199_1064 {l0 l1 l2 l3 : Option Value} {st : List Value} {i : Int32} {mi : Nat → Nat → Int32} {ml : Nat → Nat → Int64} {mr : Nat → Nat → Option Nat} {nx : Nat} {Q : Option Value → kMem → Prop} (hi : vp_in i (mi 2001 0).toNatClampNeg) : kJ 199 1064 [l0, l1, l2, l3] (.int i :: .ref 2000 :: st) (mi, ml, mr, nx) Q = kJ 199 1065 [l0, l1, l2, l3] (.int (mi 2000 i.toNatClampNeg) :: st) (mi, ml, mr, nx) Q := kJ_scr d199_1064 hi
theorem t199_1078 {l0 l1 l2 l3 : Option Value} {st : List Value} {i : Int32} {mi : Nat → Nat → Int32} {ml : Nat → Nat → Int64} {mr : Nat → Nat → Option Nat} {nx : Nat} {Q : Option Value → kMem → Prop} (hi : vp_in i (mi 2001 0).toNatClampNeg) : kJ 199 1078 [l0, l1, l2, l3] (.int i :: .ref 2000 :: st) (mi, ml, mr, nx) Q = kJ 199 1079 [l0, l1, l2, l3] (.int (mi 2000 i.toNatClampNeg) :: st) (mi, ml, mr, nx) Q := kJ_scr d199_1078 hi
theorem t199_1087 {l0 l1 l2 l3 : Option Value} {st : List Value} {i : Int32} {mi : Nat → Nat → Int32} {ml : Nat → Nat → Int64} {mr : Nat → Nat → Option Nat} {nx : Nat} {Q : Option Value → kMem → Prop} (hi : vp_in i (mi 2001 0).toNatClampNeg) : kJ 199 1087 [l0, l1, l2, l3] (.int i :: .ref 2000 :: st) (mi, ml, mr, nx) Q = kJ 199 1088 [l0, l1, l2, l3] (.int (mi 2000 i.toNatClampNeg) :: st) (mi, ml, mr, nx) Q := kJ_scr d199_1087 hi
theorem t199_1101 {l0 l1 l2 l3 : Option Value} {st : List Value} {i : Int32} {mi : Nat → Nat → Int32} {ml : Nat → Nat → Int64} {mr : Nat → Nat → Option Nat} {nx : Nat} {Q : Option Value → kMem → Prop} (hi : vp_in i (mi 2001 0).toNatClampNeg) : kJ 199 1101 [l0, l1, l2, l3] (.int i :: .ref 2000 :: st) (mi, ml, mr, nx) Q = kJ 199 1102 [l0, l1, l2, l3] (.int (mi 2000 i.toNatClampNeg) :: st) (mi, ml, mr, nx) Q := kJ_scr d199_1101 hi
theorem t199_1110 {l0 l1 l2 l3 : Option Value} {st : List Value} {i : Int32} {mi : Nat → Nat → Int32} {ml : Nat → Nat → Int64} {mr : Nat → Nat → Option Nat} {nx : Nat} {Q : Option Value → kMem → Prop} (hi : vp_in i (mi 2001 0).toNatClampNeg) : kJ 199 1110 [l0, l1, l2, l3] (.int i :: .ref 2000 :: st) (mi, ml, mr, nx) Q = kJ 199 1111 [l0, l1, l2, l3] (.int (mi 2000 i.toNatClampNeg) :: st) (mi, ml, mr, nx) Q := kJ_scr d199_1110 hi
theorem t199_1124 {l0 l1 l2 l3 : Option Value} {st : List Value} {i : Int32} {mi : Nat → Nat → Int32} {ml : Nat → Nat → Int64} {mr : Nat → Nat → Option Nat} {nx : Nat} {Q : Option Value → kMem → Prop} (hi : vp_in i (mi 2001 0).toNatClampNeg) : kJ 199 1124 [l0, l1, l2, l3] (.int i :: .ref 2000 :: st) (mi, ml, mr, nx) Q = kJ 199 1125 [l0, l1, l2, l3] (.int (mi 2000 i.toNatClampNeg) :: st) (mi, ml, mr, nx) Q := kJ_scr d199_1124 hi
theorem t199_1129 {l0 l1 l2 l3 : Option Value} {st : List Value} {i : Int32} {mi : Nat → Nat → Int32} {ml : Nat → Nat → Int64} {mr : Nat → Nat → Option Nat} {nx : Nat} {Q : Option Value → kMem → Prop} (hi : vp_in i (mi 2001 0).toNatClampNeg) : kJ 199 1129 [l0, l1, l2, l3] (.int i :: .ref 2000 :: st) (mi, ml, mr, nx) Q = kJ 199 1130 [l0, l1, l2, l3] (.int (mi 2000 i.toNatClampNeg) :: st) (mi, ml, mr, nx) Q := kJ_scr d199_1129 hi
theorem t199_1138 {l0 l1 l2 l3 : Option Value} {st : List Value} {i : Int32} {mi : Nat → Nat → Int32} {ml : Nat → Nat → Int64} {mr : Nat → Nat → Option Nat} {nx : Nat} {Q : Option Value → kMem → Prop} (hi : vp_in i (mi 2001 0).toNatClampNeg) : kJ 199 1138 [l0, l1, l2, l3] (.int i :: .ref 2000 :: st) (mi, ml, mr, nx) Q = kJ 199 1139 [l0, l1, l2, l3] (.int (mi 2000 i.toNatClampNeg) :: st) (mi, ml, mr, nx) Q := kJ_scr d199_1138 hi
theorem t199_1143 {l0 l1 l2 l3 : Option Value} {st : List Value} {i : Int32} {mi : Nat → Nat → Int32} {ml : Nat → Nat → Int64} {mr : Nat → Nat → Option Nat} {nx : Nat} {Q : Option Value → kMem → Prop} (hi : vp_in i (mi 2001 0).toNatClampNeg) : kJ 199 1143 [l0, l1, l2, l3] (.int i :: .ref 2000 :: st) (mi, ml, mr, nx) Q = kJ 199 1144 [l0, l1, l2, l3] (.int (mi 2000 i.toNatClampNeg) :: st) (mi, ml, mr, nx) Q := kJ_scr d199_1143 hi
theorem t199_1157 {l0 l1 l2 l3 : Option Value} {st : List Value} {i : Int32} {mi : Nat → Nat → Int32} {ml : Nat → Nat → Int64} {mr : Nat → Nat → Option Nat} {nx : Nat} {Q : Option Value → kMem → Prop} (hi : vp_in i (mi 2001 0).toNatClampNeg) : kJ 199 1157 [l0, l1, l2, l3] (.int i :: .ref 2000 :: st) (mi, ml, mr, nx) Q = kJ 199 1158 [l0, l1, l2, l3] (.int (mi 2000 i.toNatClampNeg) :: st) (mi, ml, mr, nx) Q := kJ_scr d199_1157 hi
theorem t199_1162 {l0 l1 l2 l3 : Option Value} {st : List Value} {i : Int32} {mi : Nat → Nat → Int32} {ml : Nat → Nat → Int64} {mr : Nat → Nat → Option Nat} {nx : Nat} {Q : Option Value → kMem → Prop} (hi : vp_in i (mi 2001 0).toNatClampNeg) : kJ 199 1162 [l0, l1, l2, l3] (.int i :: .ref 2000 :: st) (mi, ml, mr, nx) Q = kJ 199 1163 [l0, l1, l2, l3] (.int (mi 2000 i.toNatClampNeg) :: st) (mi, ml, mr, nx) Q := kJ_scr d199_1162 hi
theorem t199_1167 {l0 l1 l2 l3 : Option Value} {st : List Value} {i : Int32} {mi : Nat → Nat → Int32} {ml : Nat → Nat → Int64} {mr : Nat → Nat → Option Nat} {nx : Nat} {Q : Option Value → kMem → Prop} (hi : vp_in i (mi 2001 0).toNatClampNeg) : kJ 199 1167 [l0, l1, l2, l3] (.int i :: .ref 2000 :: st) (mi, ml, mr, nx) Q = kJ 199 1168 [l0, l1, l2, l3] (.int (mi 2000 i.toNatClampNeg) :: st) (mi, ml, mr, nx) Q := kJ_scr d199_1167 hi
theorem t199_1176 {l0 l1 l2 l3 : Option Value} {st : List Value} {i : Int32} {mi : Nat → Nat → Int32} {ml : Nat → Nat → Int64} {mr : Nat → Nat → Option Nat} {nx : Nat} {Q : Option Value → kMem → Prop} (hi : vp_in i (mi 2001 0).toNatClampNeg) : kJ 199 1176 [l0, l1, l2, l3] (.int i :: .ref 2000 :: st) (mi, ml, mr, nx) Q = kJ 199 1177 [l0, l1, l2, l3] (.int (mi 2000 i.toNatClampNeg) :: st) (mi, ml, mr, nx) Q := kJ_scr d199_1176 hi
theorem t199_1181 {l0 l1 l2 l3 : Option Value} {st : List Value} {i : Int32} {mi : Nat → Nat → Int32} {ml : Nat → Nat → Int64} {mr : Nat → Nat → Option Nat} {nx : Nat} {Q : Option Value → kMem → Prop} (hi : vp_in i (mi 2001 0).toNatClampNeg) : kJ 199 1181 [l0, l1, l2, l3] (.int i :: .ref 2000 :: st) (mi, ml, mr, nx) Q = kJ 199 1182 [l0, l1, l2, l3] (.int (mi 2000 i.toNatClampNeg) :: st) (mi, ml, mr, nx) Q := kJ_scr d199_1181 hi
theorem t199_1186 {l0 l1 l2 l3 : Option Value} {st : List Value} {i : Int32} {mi : Nat → Nat → Int32} {ml : Nat → Nat → Int64} {mr : Nat → Nat → Option Nat} {nx : Nat} {Q : Option Value → kMem → Prop} (hi : vp_in i (mi 2001 0).toNatClampNeg) : kJ 199 1186 [l0, l1, l2, l3] (.int i :: .ref 2000 :: st) (mi, ml, mr, nx) Q = kJ 199 1187 [l0, l1, l2, l3] (.int (mi 2000 i.toNatClampNeg) :: st) (mi, ml, mr, nx) Q := kJ_scr d199_1186 hi
theorem t199_1200 {l0 l1 l2 l3 : Option Value} {st : List Value} {i : Int32} {mi : Nat → Nat → Int32} {ml : Nat → Nat → Int64} {mr : Nat → Nat → Option Nat} {nx : Nat} {Q : Option Value → kMem → Prop} (hi : vp_in i (mi 2001 0).toNatClampNeg) : kJ 199 1200 [l0, l1, l2, l3] (.int i :: .ref 2000 :: st) (mi, ml, mr, nx) Q = kJ 199 1201 [l0, l1, l2, l3] (.int (mi 2000 i.toNatClampNeg) :: st) (mi, ml, mr, nx) Q := kJ_scr d199_1200 hi
theorem t199_1209 {l0 l1 l2 l3 : Option Value} {st : List Value} {i : Int32} {mi : Nat → Nat → Int32} {ml : Nat → Nat → Int64} {mr : Nat → Nat → Option Nat} {nx : Nat} {Q : Option Value → kMem → Prop} (hi : vp_in i (mi 2001 0).toNatClampNeg) : kJ 199 1209 [l0, l1, l2, l3] (.int i :: .ref 2000 :: st) (mi, ml, mr, nx) Q = kJ 199 1210 [l0, l1, l2, l3] (.int (mi 2000 i.toNatClampNeg) :: st) (mi, ml, mr, nx) Q := kJ_scr d199_1209 hi
theorem t199_1223 {l0 l1 l2 l3 : Option Value} {st : List Value} {i : Int32} {mi : Nat → Nat → Int32} {ml : Nat → Nat → Int64} {mr : Nat → Nat → Option Nat} {nx : Nat} {Q : Option Value → kMem → Prop} (hi : vp_in i (mi 2001 0).toNatClampNeg) : kJ 199 1223 [l0, l1, l2, l3] (.int i :: .ref 2000 :: st) (mi, ml, mr, nx) Q = kJ 199 1224 [l0, l1, l2, l3] (.int (mi 2000 i.toNatClampNeg) :: st) (mi, ml, mr, nx) Q := kJ_scr d199_1223 hi
theorem t199_1232 {l0 l1 l2 l3 : Option Value} {st : List Value} {i : Int32} {mi : Nat → Nat → Int32} {ml : Nat → Nat → Int64} {mr : Nat → Nat → Option Nat} {nx : Nat} {Q : Option Value → kMem → Prop} (hi : vp_in i (mi 2001 0).toNatClampNeg) : kJ 199 1232 [l0, l1, l2, l3] (.int i :: .ref 2000 :: st) (mi, ml, mr, nx) Q = kJ 199 1233 [l0, l1, l2, l3] (.int (mi 2000 i.toNatClampNeg) :: st) (mi, ml, mr, nx) Q := kJ_scr d199_1232 hi
theorem t199_1246 {l0 l1 l2 l3 : Option Value} {st : List Value} {i : Int32} {mi : Nat → Nat → Int32} {ml : Nat → Nat → Int64} {mr : Nat → Nat → Option Nat} {nx : Nat} {Q : Option Value → kMem → Prop} (hi : vp_in i (mi 2001 0).toNatClampNeg) : kJ 199 1246 [l0, l1, l2, l3] (.int i :: .ref 2000 :: st) (mi, ml, mr, nx) Q = kJ 199 1247 [l0, l1, l2, l3] (.int (mi 2000 i.toNatClampNeg) :: st) (mi, ml, mr, nx) Q := kJ_scr d199_1246 hi
theorem t199_1251 {l0 l1 l2 l3 : Option Value} {st : List Value} {i : Int32} {mi : Nat → Nat → Int32} {ml : Nat → Nat → Int64} {mr : Nat → Nat → Option Nat} {nx : Nat} {Q : Option Value → kMem → Prop} (hi : vp_in i (mi 2001 0).toNatClampNeg) : kJ 199 1251 [l0, l1, l2, l3] (.int i :: .ref 2000 :: st) (mi, ml, mr, nx) Q = kJ 199 1252 [l0, l1, l2, l3] (.int (mi 2000 i.toNatClampNeg) :: st) (mi, ml, mr, nx) Q := kJ_scr d199_1251 hi
theorem t199_1256 {l0 l1 l2 l3 : Option Value} {st : List Value} {i : Int32} {mi : Nat → Nat → Int32} {ml : Nat → Nat → Int64} {mr : Nat → Nat → Option Nat} {nx : Nat} {Q : Option Value → kMem → Prop} (hi : vp_in i (mi 2001 0).toNatClampNeg) : kJ 199 1256 [l0, l1, l2, l3] (.int i :: .ref 2000 :: st) (mi, ml, mr, nx) Q = kJ 199 1257 [l0, l1, l2, l3] (.int (mi 2000 i.toNatClampNeg) :: st) (mi, ml, mr, nx) Q := kJ_scr d199_1256 hi
theorem t199_1265 {l0 l1 l2 l3 : Option Value} {st : List Value} {i : Int32} {mi : Nat → Nat → Int32} {ml : Nat → Nat → Int64} {mr : Nat → Nat → Option Nat} {nx : Nat} {Q : Option Value → kMem → Prop} (hi : vp_in i (mi 2001 0).toNatClampNeg) : kJ 199 1265 [l0, l1, l2, l3] (.int i :: .ref 2000 :: st) (mi, ml, mr, nx) Q = kJ 199 1266 [l0, l1, l2, l3] (.int (mi 2000 i.toNatClampNeg) :: st) (mi, ml, mr, nx) Q := kJ_scr d199_1265 hi
theorem t199_1270 {l0 l1 l2 l3 : Option Value} {st : List Value} {i : Int32} {mi : Nat → Nat → Int32} {ml : Nat → Nat → Int64} {mr : Nat → Nat → Option Nat} {nx : Nat} {Q : Option Value → kMem → Prop} (hi : vp_in i (mi 2001 0).toNatClampNeg) : kJ 199 1270 [l0, l1, l2, l3] (.int i :: .ref 2000 :: st) (mi, ml, mr, nx) Q = kJ 199 1271 [l0, l1, l2, l3] (.int (mi 2000 i.toNatClampNeg) :: st) (mi, ml, mr, nx) Q := kJ_scr d199_1270 hi
theorem t199_1275 {l0 l1 l2 l3 : Option Value} {st : List Value} {i : Int32} {mi : Nat → Nat → Int32} {ml : Nat → Nat → Int64} {mr : Nat → Nat → Option Nat} {nx : Nat} {Q : Option Value → kMem → Prop} (hi : vp_in i (mi 2001 0).toNatClampNeg) : kJ 199 1275 [l0, l1, l2, l3] (.int i :: .ref 2000 :: st) (mi, ml, mr, nx) Q = kJ 199 1276 [l0, l1, l2, l3] (.int (mi 2000 i.toNatClampNeg) :: st) (mi, ml, mr, nx) Q := kJ_scr d199_1275 hi
theorem t199_1289 {l0 l1 l2 l3 : Option Value} {st : List Value} {i : Int32} {mi : Nat → Nat → Int32} {ml : Nat → Nat → Int64} {mr : Nat → Nat → Option Nat} {nx : Nat} {Q : Option Value → kMem → Prop} (hi : vp_in i (mi 2001 0).toNatClampNeg) : kJ 199 1289 [l0, l1, l2, l3] (.int i :: .ref 2000 :: st) (mi, ml, mr, nx) Q = kJ 199 1290 [l0, l1, l2, l3] (.int (mi 2000 i.toNatClampNeg) :: st) (mi, ml, mr, nx) Q := kJ_scr d199_1289 hi
theorem t199_1294 {l0 l1 l2 l3 : Option Value} {st : List Value} {i : Int32} {mi : Nat → Nat → Int32} {ml : Nat → Nat → Int64} {mr : Nat → Nat → Option Nat} {nx : Nat} {Q : Option Value → kMem → Prop} (hi : vp_in i (mi 2001 0).toNatClampNeg) : kJ 199 1294 [l0, l1, l2, l3] (.int i :: .ref 2000 :: st) (mi, ml, mr, nx) Q = kJ 199 1295 [l0, l1, l2, l3] (.int (mi 2000 i.toNatClampNeg) :: st) (mi, ml, mr, nx) Q := kJ_scr d199_1294 hi
theorem t199_1299 {l0 l1 l2 l3 : Option Value} {st : List Value} {i : Int32} {mi : Nat → Nat → Int32} {ml : Nat → Nat → Int64} {mr : Nat → Nat → Option Nat} {nx : Nat} {Q : Option Value → kMem → Prop} (hi : vp_in i (mi 2001 0).toNatClampNeg) : kJ 199 1299 [l0, l1, l2, l3] (.int i :: .ref 2000 :: st) (mi, ml, mr, nx) Q = kJ 199 1300 [l0, l1, l2, l3] (.int (mi 2000 i.toNatClampNeg) :: st) (mi, ml, mr, nx) Q := kJ_scr d199_1299 hi
theorem t199_1308 {l0 l1 l2 l3 : Option Value} {st : List Value} {i : Int32} {mi : Nat → Nat → Int32} {ml : Nat → Nat → Int64} {mr : Nat → Nat → Option Nat} {nx : Nat} {Q : Option Value → kMem → Prop} (hi : vp_in i (mi 2001 0).toNatClampNeg) : kJ 199 1308 [l0, l1, l2, l3] (.int i :: .ref 2000 :: st) (mi, ml, mr, nx) Q = kJ 199 1309 [l0, l1, l2, l3] (.int (mi 2000 i.toNatClampNeg) :: st) (mi, ml, mr, nx) Q := kJ_scr d199_1308 hi
theorem t199_1313 {l0 l1 l2 l3 : Option Value} {st : List Value} {i : Int32} {mi : Nat → Nat → Int32} {ml : Nat → Nat → Int64} {mr : Nat → Nat → Option Nat} {nx : Nat} {Q : Option Value → kMem → Prop} (hi : vp_in i (mi 2001 0).toNatClampNeg) : kJ 199 1313 [l0, l1, l2, l3] (.int i :: .ref 2000 :: st) (mi, ml, mr, nx) Q = kJ 199 1314 [l0, l1, l2, l3] (.int (mi 2000 i.toNatClampNeg) :: st) (mi, ml, mr, nx) Q := kJ_scr d199_1313 hi
theorem t199_1318 {l0 l1 l2 l3 : Option Value} {st : List Value} {i : Int32} {mi : Nat → Nat → Int32} {ml : Nat → Nat → Int64} {mr : Nat → Nat → Option Nat} {nx : Nat} {Q : Option Value → kMem → Prop} (hi : vp_in i (mi 2001 0).toNatClampNeg) : kJ 199 1318 [l0, l1, l2, l3] (.int i :: .ref 2000 :: st) (mi, ml, mr, nx) Q = kJ 199 1319 [l0, l1, l2, l3] (.int (mi 2000 i.toNatClampNeg) :: st) (mi, ml, mr, nx) Q := kJ_scr d199_1318 hi
theorem t199_1332 {l0 l1 l2 l3 : Option Value} {st : List Value} {i : Int32} {mi : Nat → Nat → Int32} {ml : Nat → Nat → Int64} {mr : Nat → Nat → Option Nat} {nx : Nat} {Q : Option Value → kMem → Prop} (hi : vp_in i (mi 2001 0).toNatClampNeg) : kJ 199 1332 [l0, l1, l2, l3] (.int i :: .ref 2000 :: st) (mi, ml, mr, nx) Q = kJ 199 1333 [l0, l1, l2, l3] (.int (mi 2000 i.toNatClampNeg) :: st) (mi, ml, mr, nx) Q := kJ_scr d199_1332 hi
theorem t199_1337 {l0 l1 l2 l3 : Option Value} {st : List Value} {i : Int32} {mi : Nat → Nat → Int32} {ml : Nat → Nat → Int64} {mr : Nat → Nat → Option Nat} {nx : Nat} {Q : Option Value → kMem → Prop} (hi : vp_in i (mi 2001 0).toNatClampNeg) : kJ 199 1337 [l0, l1, l2, l3] (.int i :: .ref 2000 :: st) (mi, ml, mr, nx) Q = kJ 199 1338 [l0, l1, l2, l3] (.int (mi 2000 i.toNatClampNeg) :: st) (mi, ml, mr, nx) Q := kJ_scr d199_1337 hi
theorem t199_1342 {l0 l1 l2 l3 : Option Value} {st : List Value} {i : Int32} {mi : Nat → Nat → Int32} {ml : Nat → Nat → Int64} {mr : Nat → Nat → Option Nat} {nx : Nat} {Q : Option Value → kMem → Prop} (hi : vp_in i (mi 2001 0).toNatClampNeg) : kJ 199 1342 [l0, l1, l2, l3] (.int i :: .ref 2000 :: st) (mi, ml, mr, nx) Q = kJ 199 1343 [l0, l1, l2, l3] (.int (mi 2000 i.toNatClampNeg) :: st) (mi, ml, mr, nx) Q := kJ_scr d199_1342 hi
theorem t199_1347 {l0 l1 l2 l3 : Option Value} {st : List Value} {i : Int32} {mi : Nat → Nat → Int32} {ml : Nat → Nat → Int64} {mr : Nat → Nat → Option Nat} {nx : Nat} {Q : Option Value → kMem → Prop} (hi : vp_in i (mi 2001 0).toNatClampNeg) : kJ 199 1347 [l0, l1, l2, l3] (.int i :: .ref 2000 :: st) (mi, ml, mr, nx) Q = kJ 199 1348 [l0, l1, l2, l3] (.int (mi 2000 i.toNatClampNeg) :: st) (mi, ml, mr, nx) Q := kJ_scr d199_1347 hi
theorem t199_1356 {l0 l1 l2 l3 : Option Value} {st : List Value} {i : Int32} {mi : Nat → Nat → Int32} {ml : Nat → Nat → Int64} {mr : Nat → Nat → Option Nat} {nx : Nat} {Q : Option Value → kMem → Prop} (hi : vp_in i (mi 2001 0).toNatClampNeg) : kJ 199 1356 [l0, l1, l2, l3] (.int i :: .ref 2000 :: st) (mi, ml, mr, nx) Q = kJ 199 1357 [l0, l1, l2, l3] (.int (mi 2000 i.toNatClampNeg) :: st) (mi, ml, mr, nx) Q := kJ_scr d199_1356 hi
theorem t199_1361 {l0 l1 l2 l3 : Option Value} {st : List Value} {i : Int32} {mi : Nat → Nat → Int32} {ml : Nat → Nat → Int64} {mr : Nat → Nat → Option Nat} {nx : Nat} {Q : Option Value → kMem → Prop} (hi : vp_in i (mi 2001 0).toNatClampNeg) : kJ 199 1361 [l0, l1, l2, l3] (.int i :: .ref 2000 :: st) (mi, ml, mr, nx) Q = kJ 199 1362 [l0, l1, l2, l3] (.int (mi 2000 i.toNatClampNeg) :: st) (mi, ml, mr, nx) Q := kJ_scr d199_1361 hi
theorem t199_1366 {l0 l1 l2 l3 : Option Value} {st : List Value} {i : Int32} {mi : Nat → Nat → Int32} {ml : Nat → Nat → Int64} {mr : Nat → Nat → Option Nat} {nx : Nat} {Q : Option Value → kMem → Prop} (hi : vp_in i (mi 2001 0).toNatClampNeg) : kJ 199 1366 [l0, l1, l2, l3] (.int i :: .ref 2000 :: st) (mi, ml, mr, nx) Q = kJ 199 1367 [l0, l1, l2, l3] (.int (mi 2000 i.toNatClampNeg) :: st) (mi, ml, mr, nx) Q := kJ_scr d199_1366 hi
theorem t199_1371 {l0 l1 l2 l3 : Option Value} {st : List Value} {i : Int32} {mi : Nat → Nat → Int32} {ml : Nat → Nat → Int64} {mr : Nat → Nat → Option Nat} {nx : Nat} {Q : Option Value → kMem → Prop} (hi : vp_in i (mi 2001 0).toNatClampNeg) : kJ 199 1371 [l0, l1, l2, l3] (.int i :: .ref 2000 :: st) (mi, ml, mr, nx) Q = kJ 199 1372 [l0, l1, l2, l3] (.int (mi 2000 i.toNatClampNeg) :: st) (mi, ml, mr, nx) Q := kJ_scr d199_1371 hi
theorem t199_1398 {l0 l1 l2 l3 : Option Value} {st : List Value} {i : Int32} {mi : Nat → Nat → Int32} {ml : Nat → Nat → Int64} {mr : Nat → Nat → Option Nat} {nx : Nat} {Q : Option Value → kMem → Prop} (hi : vp_in i (mi 2001 0).toNatClampNeg) : kJ 199 1398 [l0, l1, l2, l3] (.int i :: .ref 2000 :: st) (mi, ml, mr, nx) Q = kJ 199 1399 [l0, l1, l2, l3] (.int (mi 2000 i.toNatClampNeg) :: st) (mi, ml, mr, nx) Q := kJ_scr d199_1398 hi
theorem t199_1407 {l0 l1 l2 l3 : Option Value} {st : List Value} {i : Int32} {mi : Nat → Nat → Int32} {ml : Nat → Nat → Int64} {mr : Nat → Nat → Option Nat} {nx : Nat} {Q : Option Value → kMem → Prop} (hi : vp_in i (mi 2001 0).toNatClampNeg) : kJ 199 1407 [l0, l1, l2, l3] (.int i :: .ref 2000 :: st) (mi, ml, mr, nx) Q = kJ 199 1408 [l0, l1, l2, l3] (.int (mi 2000 i.toNatClampNeg) :: st) (mi, ml, mr, nx) Q := kJ_scr d199_1407 hi
theorem d199_20 : decode (mB 199) 20 = .ok (.arraylength, 1) := by decide +kernel
theorem t199_20 {l0 l1 l2 l3 : Option Value} {st : List Value} {mi : Nat → Nat → Int32} {ml : Nat → Nat → Int64} {mr : Nat → Nat → Option Nat} {nx : Nat} {Q : Option Value → kMem → Prop} : kJ 199 20 [l0, l1, l2, l3] (.ref 2000 :: st) (mi, ml, mr, nx) Q = kJ 199 21 [l0, l1, l2, l3] (.int (mi 2001 0) :: st) (mi, ml, mr, nx) Q := kJ_next d199_20 rfl
section LAW
variable {mi : Nat → Nat → Int32} {ml : Nat → Nat → Int64} {Q : Option Value → kMem → Prop} {S : gS} {i L : Nat}
def lQ (Q : Option Value → kMem → Prop) (mi : Nat → Nat → Int32) (i : Nat) : Prop := ∀ (S' : gS) (mi' : Nat → Nat → Int32) (ml' : Nat → Nat → Int64), gOK S' → CI S' mi' → RI S' mi' → mi' 2000 = mi 2000 → mi' 2001 = mi 2001 → kJ 199 1416 [some (.ref 2000), some (.ref 0), some (.ref 83), some (.int (nI i))] [] (mi', ml', MR, 95) Q
theorem L_0 (hi : i + 5 ≤ L) (hL : L ≤ 2560) (hg : gOK S) (hC : CI S mi) (hR : RI S mi) (h1 : mi 2001 0 = nI L) (hQ : lQ Q mi i) : kJ 199 200 [some (.ref 2000), some (.ref 0), some (.ref 83), some (.int (nI i))] [] (mi, ml, MR, 95) Q := by
  obtain ⟨S', r, g', bc, br⟩ := B_feed (x := mi 2000 (i + 1)) hg
  have hcl : (nI L).toNatClampNeg = L := nI_clamp (by omega)
  have hc1 : (nI (i + 1)).toNatClampNeg = i + 1 := nI_clamp (by omega)
  have hv1 : vp_in (nI (i + 1)) L := vp_in_nI (by omega) (by omega)
  simp only [↓s199_200, ↓s199_201, ↓s199_202, ↓s199_203, ↓s199_204, ↓t199_205, ↓s199_206, ↓s199_209, ↓s199_210, ↓s199_211, ↓s199_212, ↓s199_213, ↓t199_214, ↓s199_215, ↓s199_218, ↓s199_221, ↓s199_222, kNLn, kNLi, kNLr, va_rf_s, kOl_n, kOl_s, kap_n, kap_c, kb0, kb1, kbif, ki_0, ki_83, hcl, h1, nI_add, hc1, hv1]
  refine bc mi ml _ hC (fun mi1 c1 f1 => ?_)
  have e0 : mi1 2000 = mi 2000 := f1 2000 (by decide)
  have e1 : mi1 2001 = mi 2001 := f1 2001 (by decide)
  simp only [↓s199_200, ↓s199_201, ↓s199_202, ↓s199_203, ↓s199_204, ↓t199_205, ↓s199_206, ↓s199_209, ↓s199_210, ↓s199_211, ↓s199_212, ↓s199_213, ↓t199_214, ↓s199_215, ↓s199_218, ↓s199_221, ↓s199_222, kNLn, kNLi, kNLr, va_rf_s, kOl_n, kOl_s, kap_n, kap_c, kb0, kb1, kbif, ki_0, ki_83, e0, e1, hcl, h1, nI_add, hc1, hv1]
  refine br mi1 ml _ (RI_C hR f1) (fun mi2 ml2 r2 f2 => ?_)
  simp only [↓s199_200, ↓s199_201, ↓s199_202, ↓s199_203, ↓s199_204, ↓t199_205, ↓s199_206, ↓s199_209, ↓s199_210, ↓s199_211, ↓s199_212, ↓s199_213, ↓t199_214, ↓s199_215, ↓s199_218, ↓s199_221, ↓s199_222, kNLn, kNLi, kNLr, va_rf_s, kOl_n, kOl_s, kap_n, kap_c, kb0, kb1, kbif, lg_eq0, eq_self, if_true]
  exact hQ S' mi2 ml2 g' (CI_R c1 f2) r2 (by rw [f2 2000 (by omega), e0]) (by rw [f2 2001 (by omega), e1])
theorem L_1 (hi : i + 5 ≤ L) (hL : L ≤ 2560) (hg : gOK S) (hC : CI S mi) (hR : RI S mi) (h1 : mi 2001 0 = nI L) (hQ : lQ Q mi i) : kJ 199 223 [some (.ref 2000), some (.ref 0), some (.ref 83), some (.int (nI i))] [] (mi, ml, MR, 95) Q := by
  obtain ⟨S', r, g', bc, br⟩ := B_end (x := mi 2000 (i + 1)) hg
  have hcl : (nI L).toNatClampNeg = L := nI_clamp (by omega)
  have hc1 : (nI (i + 1)).toNatClampNeg = i + 1 := nI_clamp (by omega)
  have hv1 : vp_in (nI (i + 1)) L := vp_in_nI (by omega) (by omega)
  simp only [↓s199_223, ↓s199_224, ↓s199_225, ↓s199_226, ↓s199_227, ↓t199_228, ↓s199_229, ↓s199_232, ↓s199_233, ↓s199_234, ↓s199_235, ↓s199_236, ↓t199_237, ↓s199_238, ↓s199_241, ↓s199_244, ↓s199_245, kNLn, kNLi, kNLr, va_rf_s, kOl_n, kOl_s, kap_n, kap_c, kb0, kb1, kbif, ki_0, ki_83, hcl, h1, nI_add, hc1, hv1]
  refine bc mi ml _ hC (fun mi1 c1 f1 => ?_)
  have e0 : mi1 2000 = mi 2000 := f1 2000 (by decide)
  have e1 : mi1 2001 = mi 2001 := f1 2001 (by decide)
  simp only [↓s199_223, ↓s199_224, ↓s199_225, ↓s199_226, ↓s199_227, ↓t199_228, ↓s199_229, ↓s199_232, ↓s199_233, ↓s199_234, ↓s199_235, ↓s199_236, ↓t199_237, ↓s199_238, ↓s199_241, ↓s199_244, ↓s199_245, kNLn, kNLi, kNLr, va_rf_s, kOl_n, kOl_s, kap_n, kap_c, kb0, kb1, kbif, ki_0, ki_83, e0, e1, hcl, h1, nI_add, hc1, hv1]
  refine br mi1 ml _ (RI_C hR f1) (fun mi2 ml2 r2 f2 => ?_)
  simp only [↓s199_223, ↓s199_224, ↓s199_225, ↓s199_226, ↓s199_227, ↓t199_228, ↓s199_229, ↓s199_232, ↓s199_233, ↓s199_234, ↓s199_235, ↓s199_236, ↓t199_237, ↓s199_238, ↓s199_241, ↓s199_244, ↓s199_245, kNLn, kNLi, kNLr, va_rf_s, kOl_n, kOl_s, kap_n, kap_c, kb0, kb1, kbif, lg_eq0, eq_self, if_true]
  exact hQ S' mi2 ml2 g' (CI_R c1 f2) r2 (by rw [f2 2000 (by omega), e0]) (by rw [f2 2001 (by omega), e1])
theorem L_2 (hi : i + 5 ≤ L) (hL : L ≤ 2560) (hg : gOK S) (hC : CI S mi) (hR : RI S mi) (h1 : mi 2001 0 = nI L) (hQ : lQ Q mi i) : kJ 199 246 [some (.ref 2000), some (.ref 0), some (.ref 83), some (.int (nI i))] [] (mi, ml, MR, 95) Q := by
  obtain ⟨S', r, g', bc, br⟩ := B_text hg
  have hcl : (nI L).toNatClampNeg = L := nI_clamp (by omega)
  simp only [↓s199_246, ↓s199_247, ↓s199_250, ↓s199_251, ↓s199_254, ↓s199_257, ↓s199_258, kNLn, kNLi, kNLr, va_rf_s, kOl_n, kOl_s, kap_n, kap_c, kb0, kb1, kbif, ki_0, ki_83, hcl, h1, nI_add]
  refine bc mi ml _ hC (fun mi1 c1 f1 => ?_)
  have e0 : mi1 2000 = mi 2000 := f1 2000 (by decide)
  have e1 : mi1 2001 = mi 2001 := f1 2001 (by decide)
  simp only [↓s199_246, ↓s199_247, ↓s199_250, ↓s199_251, ↓s199_254, ↓s199_257, ↓s199_258, kNLn, kNLi, kNLr, va_rf_s, kOl_n, kOl_s, kap_n, kap_c, kb0, kb1, kbif, ki_0, ki_83, e0, e1, hcl, h1, nI_add]
  refine br mi1 ml _ (RI_C hR f1) (fun mi2 ml2 r2 f2 => ?_)
  simp only [↓s199_246, ↓s199_247, ↓s199_250, ↓s199_251, ↓s199_254, ↓s199_257, ↓s199_258, kNLn, kNLi, kNLr, va_rf_s, kOl_n, kOl_s, kap_n, kap_c, kb0, kb1, kbif, lg_eq0, eq_self, if_true]
  exact hQ S' mi2 ml2 g' (CI_R c1 f2) r2 (by rw [f2 2000 (by omega), e0]) (by rw [f2 2001 (by omega), e1])
theorem L_3 (hi : i + 5 ≤ L) (hL : L ≤ 2560) (hg : gOK S) (hC : CI S mi) (hR : RI S mi) (h1 : mi 2001 0 = nI L) (hQ : lQ Q mi i) : kJ 199 259 [some (.ref 2000), some (.ref 0), some (.ref 83), some (.int (nI i))] [] (mi, ml, MR, 95) Q := by
  obtain ⟨S', r, g', bc, br⟩ := B_fault hg
  have hcl : (nI L).toNatClampNeg = L := nI_clamp (by omega)
  simp only [↓s199_259, ↓s199_260, ↓s199_263, ↓s199_264, ↓s199_267, ↓s199_270, ↓s199_271, kNLn, kNLi, kNLr, va_rf_s, kOl_n, kOl_s, kap_n, kap_c, kb0, kb1, kbif, ki_0, ki_83, hcl, h1, nI_add]
  refine bc mi ml _ hC (fun mi1 c1 f1 => ?_)
  have e0 : mi1 2000 = mi 2000 := f1 2000 (by decide)
  have e1 : mi1 2001 = mi 2001 := f1 2001 (by decide)
  simp only [↓s199_259, ↓s199_260, ↓s199_263, ↓s199_264, ↓s199_267, ↓s199_270, ↓s199_271, kNLn, kNLi, kNLr, va_rf_s, kOl_n, kOl_s, kap_n, kap_c, kb0, kb1, kbif, ki_0, ki_83, e0, e1, hcl, h1, nI_add]
  refine br mi1 ml _ (RI_C hR f1) (fun mi2 ml2 r2 f2 => ?_)
  simp only [↓s199_259, ↓s199_260, ↓s199_263, ↓s199_264, ↓s199_267, ↓s199_270, ↓s199_271, kNLn, kNLi, kNLr, va_rf_s, kOl_n, kOl_s, kap_n, kap_c, kb0, kb1, kbif, lg_eq0, eq_self, if_true]
  exact hQ S' mi2 ml2 g' (CI_R c1 f2) r2 (by rw [f2 2000 (by omega), e0]) (by rw [f2 2001 (by omega), e1])
theorem L_4 (hi : i + 5 ≤ L) (hL : L ≤ 2560) (hg : gOK S) (hC : CI S mi) (hR : RI S mi) (h1 : mi 2001 0 = nI L) (hQ : lQ Q mi i) : kJ 199 272 [some (.ref 2000), some (.ref 0), some (.ref 83), some (.int (nI i))] [] (mi, ml, MR, 95) Q := by
  obtain ⟨S', r, g', bc, br⟩ := B_rule (x := mi 2000 (i + 1)) hg
  have hcl : (nI L).toNatClampNeg = L := nI_clamp (by omega)
  have hc1 : (nI (i + 1)).toNatClampNeg = i + 1 := nI_clamp (by omega)
  have hv1 : vp_in (nI (i + 1)) L := vp_in_nI (by omega) (by omega)
  simp only [↓s199_272, ↓s199_273, ↓s199_274, ↓s199_275, ↓s199_276, ↓t199_277, ↓s199_278, ↓s199_281, ↓s199_282, ↓s199_283, ↓s199_284, ↓s199_285, ↓t199_286, ↓s199_287, ↓s199_290, ↓s199_293, ↓s199_294, kNLn, kNLi, kNLr, va_rf_s, kOl_n, kOl_s, kap_n, kap_c, kb0, kb1, kbif, ki_0, ki_83, hcl, h1, nI_add, hc1, hv1]
  refine bc mi ml _ hC (fun mi1 c1 f1 => ?_)
  have e0 : mi1 2000 = mi 2000 := f1 2000 (by decide)
  have e1 : mi1 2001 = mi 2001 := f1 2001 (by decide)
  simp only [↓s199_272, ↓s199_273, ↓s199_274, ↓s199_275, ↓s199_276, ↓t199_277, ↓s199_278, ↓s199_281, ↓s199_282, ↓s199_283, ↓s199_284, ↓s199_285, ↓t199_286, ↓s199_287, ↓s199_290, ↓s199_293, ↓s199_294, kNLn, kNLi, kNLr, va_rf_s, kOl_n, kOl_s, kap_n, kap_c, kb0, kb1, kbif, ki_0, ki_83, e0, e1, hcl, h1, nI_add, hc1, hv1]
  refine br mi1 ml _ (RI_C hR f1) (fun mi2 ml2 r2 f2 => ?_)
  simp only [↓s199_272, ↓s199_273, ↓s199_274, ↓s199_275, ↓s199_276, ↓t199_277, ↓s199_278, ↓s199_281, ↓s199_282, ↓s199_283, ↓s199_284, ↓s199_285, ↓t199_286, ↓s199_287, ↓s199_290, ↓s199_293, ↓s199_294, kNLn, kNLi, kNLr, va_rf_s, kOl_n, kOl_s, kap_n, kap_c, kb0, kb1, kbif, lg_eq0, eq_self, if_true]
  exact hQ S' mi2 ml2 g' (CI_R c1 f2) r2 (by rw [f2 2000 (by omega), e0]) (by rw [f2 2001 (by omega), e1])
theorem L_5 (hi : i + 5 ≤ L) (hL : L ≤ 2560) (hg : gOK S) (hC : CI S mi) (hR : RI S mi) (h1 : mi 2001 0 = nI L) (hQ : lQ Q mi i) : kJ 199 295 [some (.ref 2000), some (.ref 0), some (.ref 83), some (.int (nI i))] [] (mi, ml, MR, 95) Q := by
  obtain ⟨S', r, g', bc, br⟩ := B_one (x := mi 2000 (i + 1)) (y := mi 2000 (i + 2)) hg
  have hcl : (nI L).toNatClampNeg = L := nI_clamp (by omega)
  have hc1 : (nI (i + 1)).toNatClampNeg = i + 1 := nI_clamp (by omega)
  have hv1 : vp_in (nI (i + 1)) L := vp_in_nI (by omega) (by omega)
  have hc2 : (nI (i + 2)).toNatClampNeg = i + 2 := nI_clamp (by omega)
  have hv2 : vp_in (nI (i + 2)) L := vp_in_nI (by omega) (by omega)
  simp only [↓s199_295, ↓s199_296, ↓s199_297, ↓s199_298, ↓s199_299, ↓t199_300, ↓s199_301, ↓s199_302, ↓s199_303, ↓s199_304, ↓t199_305, ↓s199_306, ↓s199_309, ↓s199_310, ↓s199_311, ↓s199_312, ↓s199_313, ↓t199_314, ↓s199_315, ↓s199_316, ↓s199_317, ↓s199_318, ↓t199_319, ↓s199_320, ↓s199_323, ↓s199_326, ↓s199_327, kNLn, kNLi, kNLr, va_rf_s, kOl_n, kOl_s, kap_n, kap_c, kb0, kb1, kbif, ki_0, ki_83, hcl, h1, nI_add, hc1, hv1, hc2, hv2]
  refine bc mi ml _ hC (fun mi1 c1 f1 => ?_)
  have e0 : mi1 2000 = mi 2000 := f1 2000 (by decide)
  have e1 : mi1 2001 = mi 2001 := f1 2001 (by decide)
  simp only [↓s199_295, ↓s199_296, ↓s199_297, ↓s199_298, ↓s199_299, ↓t199_300, ↓s199_301, ↓s199_302, ↓s199_303, ↓s199_304, ↓t199_305, ↓s199_306, ↓s199_309, ↓s199_310, ↓s199_311, ↓s199_312, ↓s199_313, ↓t199_314, ↓s199_315, ↓s199_316, ↓s199_317, ↓s199_318, ↓t199_319, ↓s199_320, ↓s199_323, ↓s199_326, ↓s199_327, kNLn, kNLi, kNLr, va_rf_s, kOl_n, kOl_s, kap_n, kap_c, kb0, kb1, kbif, ki_0, ki_83, e0, e1, hcl, h1, nI_add, hc1, hv1, hc2, hv2]
  refine br mi1 ml _ (RI_C hR f1) (fun mi2 ml2 r2 f2 => ?_)
  simp only [↓s199_295, ↓s199_296, ↓s199_297, ↓s199_298, ↓s199_299, ↓t199_300, ↓s199_301, ↓s199_302, ↓s199_303, ↓s199_304, ↓t199_305, ↓s199_306, ↓s199_309, ↓s199_310, ↓s199_311, ↓s199_312, ↓s199_313, ↓t199_314, ↓s199_315, ↓s199_316, ↓s199_317, ↓s199_318, ↓t199_319, ↓s199_320, ↓s199_323, ↓s199_326, ↓s199_327, kNLn, kNLi, kNLr, va_rf_s, kOl_n, kOl_s, kap_n, kap_c, kb0, kb1, kbif, lg_eq0, eq_self, if_true]
  exact hQ S' mi2 ml2 g' (CI_R c1 f2) r2 (by rw [f2 2000 (by omega), e0]) (by rw [f2 2001 (by omega), e1])
theorem L_6 (hi : i + 5 ≤ L) (hL : L ≤ 2560) (hg : gOK S) (hC : CI S mi) (hR : RI S mi) (h1 : mi 2001 0 = nI L) (hQ : lQ Q mi i) : kJ 199 328 [some (.ref 2000), some (.ref 0), some (.ref 83), some (.int (nI i))] [] (mi, ml, MR, 95) Q := by
  obtain ⟨S', r, g', bc, br⟩ := B_letter (x := mi 2000 (i + 1)) (y := mi 2000 (i + 2)) hg
  have hcl : (nI L).toNatClampNeg = L := nI_clamp (by omega)
  have hc1 : (nI (i + 1)).toNatClampNeg = i + 1 := nI_clamp (by omega)
  have hv1 : vp_in (nI (i + 1)) L := vp_in_nI (by omega) (by omega)
  have hc2 : (nI (i + 2)).toNatClampNeg = i + 2 := nI_clamp (by omega)
  have hv2 : vp_in (nI (i + 2)) L := vp_in_nI (by omega) (by omega)
  simp only [↓s199_328, ↓s199_329, ↓s199_330, ↓s199_331, ↓s199_332, ↓t199_333, ↓s199_334, ↓s199_335, ↓s199_336, ↓s199_337, ↓t199_338, ↓s199_339, ↓s199_342, ↓s199_343, ↓s199_344, ↓s199_345, ↓s199_346, ↓t199_347, ↓s199_348, ↓s199_349, ↓s199_350, ↓s199_351, ↓t199_352, ↓s199_353, ↓s199_356, ↓s199_359, ↓s199_360, kNLn, kNLi, kNLr, va_rf_s, kOl_n, kOl_s, kap_n, kap_c, kb0, kb1, kbif, ki_0, ki_83, hcl, h1, nI_add, hc1, hv1, hc2, hv2]
  refine bc mi ml _ hC (fun mi1 c1 f1 => ?_)
  have e0 : mi1 2000 = mi 2000 := f1 2000 (by decide)
  have e1 : mi1 2001 = mi 2001 := f1 2001 (by decide)
  simp only [↓s199_328, ↓s199_329, ↓s199_330, ↓s199_331, ↓s199_332, ↓t199_333, ↓s199_334, ↓s199_335, ↓s199_336, ↓s199_337, ↓t199_338, ↓s199_339, ↓s199_342, ↓s199_343, ↓s199_344, ↓s199_345, ↓s199_346, ↓t199_347, ↓s199_348, ↓s199_349, ↓s199_350, ↓s199_351, ↓t199_352, ↓s199_353, ↓s199_356, ↓s199_359, ↓s199_360, kNLn, kNLi, kNLr, va_rf_s, kOl_n, kOl_s, kap_n, kap_c, kb0, kb1, kbif, ki_0, ki_83, e0, e1, hcl, h1, nI_add, hc1, hv1, hc2, hv2]
  refine br mi1 ml _ (RI_C hR f1) (fun mi2 ml2 r2 f2 => ?_)
  simp only [↓s199_328, ↓s199_329, ↓s199_330, ↓s199_331, ↓s199_332, ↓t199_333, ↓s199_334, ↓s199_335, ↓s199_336, ↓s199_337, ↓t199_338, ↓s199_339, ↓s199_342, ↓s199_343, ↓s199_344, ↓s199_345, ↓s199_346, ↓t199_347, ↓s199_348, ↓s199_349, ↓s199_350, ↓s199_351, ↓t199_352, ↓s199_353, ↓s199_356, ↓s199_359, ↓s199_360, kNLn, kNLi, kNLr, va_rf_s, kOl_n, kOl_s, kap_n, kap_c, kb0, kb1, kbif, lg_eq0, eq_self, if_true]
  exact hQ S' mi2 ml2 g' (CI_R c1 f2) r2 (by rw [f2 2000 (by omega), e0]) (by rw [f2 2001 (by omega), e1])
theorem L_7 (hi : i + 5 ≤ L) (hL : L ≤ 2560) (hg : gOK S) (hC : CI S mi) (hR : RI S mi) (h1 : mi 2001 0 = nI L) (hQ : lQ Q mi i) : kJ 199 361 [some (.ref 2000), some (.ref 0), some (.ref 83), some (.int (nI i))] [] (mi, ml, MR, 95) Q := by
  obtain ⟨S', r, g', bc, br⟩ := B_feels (x := mi 2000 (i + 1)) (y := mi 2000 (i + 2)) hg
  have hcl : (nI L).toNatClampNeg = L := nI_clamp (by omega)
  have hc1 : (nI (i + 1)).toNatClampNeg = i + 1 := nI_clamp (by omega)
  have hv1 : vp_in (nI (i + 1)) L := vp_in_nI (by omega) (by omega)
  have hc2 : (nI (i + 2)).toNatClampNeg = i + 2 := nI_clamp (by omega)
  have hv2 : vp_in (nI (i + 2)) L := vp_in_nI (by omega) (by omega)
  simp only [↓s199_361, ↓s199_362, ↓s199_363, ↓s199_364, ↓s199_365, ↓t199_366, ↓s199_367, ↓s199_368, ↓s199_369, ↓s199_370, ↓t199_371, ↓s199_372, ↓s199_375, ↓s199_376, ↓s199_377, ↓s199_378, ↓s199_379, ↓t199_380, ↓s199_381, ↓s199_382, ↓s199_383, ↓s199_384, ↓t199_385, ↓s199_386, ↓s199_389, ↓s199_392, ↓s199_393, kNLn, kNLi, kNLr, va_rf_s, kOl_n, kOl_s, kap_n, kap_c, kb0, kb1, kbif, ki_0, ki_83, hcl, h1, nI_add, hc1, hv1, hc2, hv2]
  refine bc mi ml _ hC (fun mi1 c1 f1 => ?_)
  have e0 : mi1 2000 = mi 2000 := f1 2000 (by decide)
  have e1 : mi1 2001 = mi 2001 := f1 2001 (by decide)
  simp only [↓s199_361, ↓s199_362, ↓s199_363, ↓s199_364, ↓s199_365, ↓t199_366, ↓s199_367, ↓s199_368, ↓s199_369, ↓s199_370, ↓t199_371, ↓s199_372, ↓s199_375, ↓s199_376, ↓s199_377, ↓s199_378, ↓s199_379, ↓t199_380, ↓s199_381, ↓s199_382, ↓s199_383, ↓s199_384, ↓t199_385, ↓s199_386, ↓s199_389, ↓s199_392, ↓s199_393, kNLn, kNLi, kNLr, va_rf_s, kOl_n, kOl_s, kap_n, kap_c, kb0, kb1, kbif, ki_0, ki_83, e0, e1, hcl, h1, nI_add, hc1, hv1, hc2, hv2]
  refine br mi1 ml _ (RI_C hR f1) (fun mi2 ml2 r2 f2 => ?_)
  simp only [↓s199_361, ↓s199_362, ↓s199_363, ↓s199_364, ↓s199_365, ↓t199_366, ↓s199_367, ↓s199_368, ↓s199_369, ↓s199_370, ↓t199_371, ↓s199_372, ↓s199_375, ↓s199_376, ↓s199_377, ↓s199_378, ↓s199_379, ↓t199_380, ↓s199_381, ↓s199_382, ↓s199_383, ↓s199_384, ↓t199_385, ↓s199_386, ↓s199_389, ↓s199_392, ↓s199_393, kNLn, kNLi, kNLr, va_rf_s, kOl_n, kOl_s, kap_n, kap_c, kb0, kb1, kbif, lg_eq0, eq_self, if_true]
  exact hQ S' mi2 ml2 g' (CI_R c1 f2) r2 (by rw [f2 2000 (by omega), e0]) (by rw [f2 2001 (by omega), e1])
theorem L_8 (hi : i + 5 ≤ L) (hL : L ≤ 2560) (hg : gOK S) (hC : CI S mi) (hR : RI S mi) (h1 : mi 2001 0 = nI L) (hQ : lQ Q mi i) : kJ 199 394 [some (.ref 2000), some (.ref 0), some (.ref 83), some (.int (nI i))] [] (mi, ml, MR, 95) Q := by
  obtain ⟨S', r, g', bc, br⟩ := B_alter (x := mi 2000 (i + 1)) (y := mi 2000 (i + 2)) (z := mi 2000 (i + 3)) hg
  have hcl : (nI L).toNatClampNeg = L := nI_clamp (by omega)
  have hc1 : (nI (i + 1)).toNatClampNeg = i + 1 := nI_clamp (by omega)
  have hv1 : vp_in (nI (i + 1)) L := vp_in_nI (by omega) (by omega)
  have hc2 : (nI (i + 2)).toNatClampNeg = i + 2 := nI_clamp (by omega)
  have hv2 : vp_in (nI (i + 2)) L := vp_in_nI (by omega) (by omega)
  have hc3 : (nI (i + 3)).toNatClampNeg = i + 3 := nI_clamp (by omega)
  have hv3 : vp_in (nI (i + 3)) L := vp_in_nI (by omega) (by omega)
  simp only [↓s199_394, ↓s199_395, ↓s199_396, ↓s199_397, ↓s199_398, ↓t199_399, ↓s199_400, ↓s199_401, ↓s199_402, ↓s199_403, ↓t199_404, ↓s199_405, ↓s199_406, ↓s199_407, ↓s199_408, ↓t199_409, ↓s199_410, ↓s199_413, ↓s199_414, ↓s199_415, ↓s199_416, ↓s199_417, ↓t199_418, ↓s199_419, ↓s199_420, ↓s199_421, ↓s199_422, ↓t199_423, ↓s199_424, ↓s199_425, ↓s199_426, ↓s199_427, ↓t199_428, ↓s199_429, ↓s199_432, ↓s199_435, ↓s199_436, kNLn, kNLi, kNLr, va_rf_s, kOl_n, kOl_s, kap_n, kap_c, kb0, kb1, kbif, ki_0, ki_83, hcl, h1, nI_add, hc1, hv1, hc2, hv2, hc3, hv3]
  refine bc mi ml _ hC (fun mi1 c1 f1 => ?_)
  have e0 : mi1 2000 = mi 2000 := f1 2000 (by decide)
  have e1 : mi1 2001 = mi 2001 := f1 2001 (by decide)
  simp only [↓s199_394, ↓s199_395, ↓s199_396, ↓s199_397, ↓s199_398, ↓t199_399, ↓s199_400, ↓s199_401, ↓s199_402, ↓s199_403, ↓t199_404, ↓s199_405, ↓s199_406, ↓s199_407, ↓s199_408, ↓t199_409, ↓s199_410, ↓s199_413, ↓s199_414, ↓s199_415, ↓s199_416, ↓s199_417, ↓t199_418, ↓s199_419, ↓s199_420, ↓s199_421, ↓s199_422, ↓t199_423, ↓s199_424, ↓s199_425, ↓s199_426, ↓s199_427, ↓t199_428, ↓s199_429, ↓s199_432, ↓s199_435, ↓s199_436, kNLn, kNLi, kNLr, va_rf_s, kOl_n, kOl_s, kap_n, kap_c, kb0, kb1, kbif, ki_0, ki_83, e0, e1, hcl, h1, nI_add, hc1, hv1, hc2, hv2, hc3, hv3]
  refine br mi1 ml _ (RI_C hR f1) (fun mi2 ml2 r2 f2 => ?_)
  simp only [↓s199_394, ↓s199_395, ↓s199_396, ↓s199_397, ↓s199_398, ↓t199_399, ↓s199_400, ↓s199_401, ↓s199_402, ↓s199_403, ↓t199_404, ↓s199_405, ↓s199_406, ↓s199_407, ↓s199_408, ↓t199_409, ↓s199_410, ↓s199_413, ↓s199_414, ↓s199_415, ↓s199_416, ↓s199_417, ↓t199_418, ↓s199_419, ↓s199_420, ↓s199_421, ↓s199_422, ↓t199_423, ↓s199_424, ↓s199_425, ↓s199_426, ↓s199_427, ↓t199_428, ↓s199_429, ↓s199_432, ↓s199_435, ↓s199_436, kNLn, kNLi, kNLr, va_rf_s, kOl_n, kOl_s, kap_n, kap_c, kb0, kb1, kbif, lg_eq0, eq_self, if_true]
  exact hQ S' mi2 ml2 g' (CI_R c1 f2) r2 (by rw [f2 2000 (by omega), e0]) (by rw [f2 2001 (by omega), e1])
theorem L_9 (hi : i + 5 ≤ L) (hL : L ≤ 2560) (hg : gOK S) (hC : CI S mi) (hR : RI S mi) (h1 : mi 2001 0 = nI L) (hQ : lQ Q mi i) : kJ 199 437 [some (.ref 2000), some (.ref 0), some (.ref 83), some (.int (nI i))] [] (mi, ml, MR, 95) Q := by
  obtain ⟨S', r, g', bc, br⟩ := B_tone (x := mi 2000 (i + 1)) (y := mi 2000 (i + 2)) hg
  have hcl : (nI L).toNatClampNeg = L := nI_clamp (by omega)
  have hc1 : (nI (i + 1)).toNatClampNeg = i + 1 := nI_clamp (by omega)
  have hv1 : vp_in (nI (i + 1)) L := vp_in_nI (by omega) (by omega)
  have hc2 : (nI (i + 2)).toNatClampNeg = i + 2 := nI_clamp (by omega)
  have hv2 : vp_in (nI (i + 2)) L := vp_in_nI (by omega) (by omega)
  simp only [↓s199_437, ↓s199_438, ↓s199_439, ↓s199_440, ↓s199_441, ↓t199_442, ↓s199_443, ↓s199_444, ↓s199_445, ↓s199_446, ↓t199_447, ↓s199_448, ↓s199_451, ↓s199_452, ↓s199_453, ↓s199_454, ↓s199_455, ↓t199_456, ↓s199_457, ↓s199_458, ↓s199_459, ↓s199_460, ↓t199_461, ↓s199_462, ↓s199_465, ↓s199_468, ↓s199_469, kNLn, kNLi, kNLr, va_rf_s, kOl_n, kOl_s, kap_n, kap_c, kb0, kb1, kbif, ki_0, ki_83, hcl, h1, nI_add, hc1, hv1, hc2, hv2]
  refine bc mi ml _ hC (fun mi1 c1 f1 => ?_)
  have e0 : mi1 2000 = mi 2000 := f1 2000 (by decide)
  have e1 : mi1 2001 = mi 2001 := f1 2001 (by decide)
  simp only [↓s199_437, ↓s199_438, ↓s199_439, ↓s199_440, ↓s199_441, ↓t199_442, ↓s199_443, ↓s199_444, ↓s199_445, ↓s199_446, ↓t199_447, ↓s199_448, ↓s199_451, ↓s199_452, ↓s199_453, ↓s199_454, ↓s199_455, ↓t199_456, ↓s199_457, ↓s199_458, ↓s199_459, ↓s199_460, ↓t199_461, ↓s199_462, ↓s199_465, ↓s199_468, ↓s199_469, kNLn, kNLi, kNLr, va_rf_s, kOl_n, kOl_s, kap_n, kap_c, kb0, kb1, kbif, ki_0, ki_83, e0, e1, hcl, h1, nI_add, hc1, hv1, hc2, hv2]
  refine br mi1 ml _ (RI_C hR f1) (fun mi2 ml2 r2 f2 => ?_)
  simp only [↓s199_437, ↓s199_438, ↓s199_439, ↓s199_440, ↓s199_441, ↓t199_442, ↓s199_443, ↓s199_444, ↓s199_445, ↓s199_446, ↓t199_447, ↓s199_448, ↓s199_451, ↓s199_452, ↓s199_453, ↓s199_454, ↓s199_455, ↓t199_456, ↓s199_457, ↓s199_458, ↓s199_459, ↓s199_460, ↓t199_461, ↓s199_462, ↓s199_465, ↓s199_468, ↓s199_469, kNLn, kNLi, kNLr, va_rf_s, kOl_n, kOl_s, kap_n, kap_c, kb0, kb1, kbif, lg_eq0, eq_self, if_true]
  exact hQ S' mi2 ml2 g' (CI_R c1 f2) r2 (by rw [f2 2000 (by omega), e0]) (by rw [f2 2001 (by omega), e1])
theorem L_10 (hi : i + 5 ≤ L) (hL : L ≤ 2560) (hg : gOK S) (hC : CI S mi) (hR : RI S mi) (h1 : mi 2001 0 = nI L) (hQ : lQ Q mi i) : kJ 199 470 [some (.ref 2000), some (.ref 0), some (.ref 83), some (.int (nI i))] [] (mi, ml, MR, 95) Q := by
  obtain ⟨S', r, g', bc, br⟩ := B_pace (x := mi 2000 (i + 1)) hg
  have hcl : (nI L).toNatClampNeg = L := nI_clamp (by omega)
  have hc1 : (nI (i + 1)).toNatClampNeg = i + 1 := nI_clamp (by omega)
  have hv1 : vp_in (nI (i + 1)) L := vp_in_nI (by omega) (by omega)
  simp only [↓s199_470, ↓s199_471, ↓s199_472, ↓s199_473, ↓s199_474, ↓t199_475, ↓s199_476, ↓s199_479, ↓s199_480, ↓s199_481, ↓s199_482, ↓s199_483, ↓t199_484, ↓s199_485, ↓s199_488, ↓s199_491, ↓s199_492, kNLn, kNLi, kNLr, va_rf_s, kOl_n, kOl_s, kap_n, kap_c, kb0, kb1, kbif, ki_0, ki_83, hcl, h1, nI_add, hc1, hv1]
  refine bc mi ml _ hC (fun mi1 c1 f1 => ?_)
  have e0 : mi1 2000 = mi 2000 := f1 2000 (by decide)
  have e1 : mi1 2001 = mi 2001 := f1 2001 (by decide)
  simp only [↓s199_470, ↓s199_471, ↓s199_472, ↓s199_473, ↓s199_474, ↓t199_475, ↓s199_476, ↓s199_479, ↓s199_480, ↓s199_481, ↓s199_482, ↓s199_483, ↓t199_484, ↓s199_485, ↓s199_488, ↓s199_491, ↓s199_492, kNLn, kNLi, kNLr, va_rf_s, kOl_n, kOl_s, kap_n, kap_c, kb0, kb1, kbif, ki_0, ki_83, e0, e1, hcl, h1, nI_add, hc1, hv1]
  refine br mi1 ml _ (RI_C hR f1) (fun mi2 ml2 r2 f2 => ?_)
  simp only [↓s199_470, ↓s199_471, ↓s199_472, ↓s199_473, ↓s199_474, ↓t199_475, ↓s199_476, ↓s199_479, ↓s199_480, ↓s199_481, ↓s199_482, ↓s199_483, ↓t199_484, ↓s199_485, ↓s199_488, ↓s199_491, ↓s199_492, kNLn, kNLi, kNLr, va_rf_s, kOl_n, kOl_s, kap_n, kap_c, kb0, kb1, kbif, lg_eq0, eq_self, if_true]
  exact hQ S' mi2 ml2 g' (CI_R c1 f2) r2 (by rw [f2 2000 (by omega), e0]) (by rw [f2 2001 (by omega), e1])
theorem L_11 (hi : i + 5 ≤ L) (hL : L ≤ 2560) (hg : gOK S) (hC : CI S mi) (hR : RI S mi) (h1 : mi 2001 0 = nI L) (hQ : lQ Q mi i) : kJ 199 493 [some (.ref 2000), some (.ref 0), some (.ref 83), some (.int (nI i))] [] (mi, ml, MR, 95) Q := by
  obtain ⟨S', r, g', bc, br⟩ := B_write (x := mi 2000 (i + 1)) (y := mi 2000 (i + 2)) (z := mi 2000 (i + 3)) (w := mi 2000 (i + 4)) hg
  have hcl : (nI L).toNatClampNeg = L := nI_clamp (by omega)
  have hc1 : (nI (i + 1)).toNatClampNeg = i + 1 := nI_clamp (by omega)
  have hv1 : vp_in (nI (i + 1)) L := vp_in_nI (by omega) (by omega)
  have hc2 : (nI (i + 2)).toNatClampNeg = i + 2 := nI_clamp (by omega)
  have hv2 : vp_in (nI (i + 2)) L := vp_in_nI (by omega) (by omega)
  have hc3 : (nI (i + 3)).toNatClampNeg = i + 3 := nI_clamp (by omega)
  have hv3 : vp_in (nI (i + 3)) L := vp_in_nI (by omega) (by omega)
  have hc4 : (nI (i + 4)).toNatClampNeg = i + 4 := nI_clamp (by omega)
  have hv4 : vp_in (nI (i + 4)) L := vp_in_nI (by omega) (by omega)
  simp only [↓s199_493, ↓s199_494, ↓s199_495, ↓s199_496, ↓s199_497, ↓t199_498, ↓s199_499, ↓s199_500, ↓s199_501, ↓s199_502, ↓t199_503, ↓s199_504, ↓s199_505, ↓s199_506, ↓s199_507, ↓t199_508, ↓s199_509, ↓s199_510, ↓s199_511, ↓s199_512, ↓t199_513, ↓s199_514, ↓s199_517, ↓s199_518, ↓s199_519, ↓s199_520, ↓s199_521, ↓t199_522, ↓s199_523, ↓s199_524, ↓s199_525, ↓s199_526, ↓t199_527, ↓s199_528, ↓s199_529, ↓s199_530, ↓s199_531, ↓t199_532, ↓s199_533, ↓s199_534, ↓s199_535, ↓s199_536, ↓t199_537, ↓s199_538, ↓s199_541, ↓s199_544, ↓s199_545, kNLn, kNLi, kNLr, va_rf_s, kOl_n, kOl_s, kap_n, kap_c, kb0, kb1, kbif, ki_0, ki_83, hcl, h1, nI_add, hc1, hv1, hc2, hv2, hc3, hv3, hc4, hv4]
  refine bc mi ml _ hC (fun mi1 c1 f1 => ?_)
  have e0 : mi1 2000 = mi 2000 := f1 2000 (by decide)
  have e1 : mi1 2001 = mi 2001 := f1 2001 (by decide)
  simp only [↓s199_493, ↓s199_494, ↓s199_495, ↓s199_496, ↓s199_497, ↓t199_498, ↓s199_499, ↓s199_500, ↓s199_501, ↓s199_502, ↓t199_503, ↓s199_504, ↓s199_505, ↓s199_506, ↓s199_507, ↓t199_508, ↓s199_509, ↓s199_510, ↓s199_511, ↓s199_512, ↓t199_513, ↓s199_514, ↓s199_517, ↓s199_518, ↓s199_519, ↓s199_520, ↓s199_521, ↓t199_522, ↓s199_523, ↓s199_524, ↓s199_525, ↓s199_526, ↓t199_527, ↓s199_528, ↓s199_529, ↓s199_530, ↓s199_531, ↓t199_532, ↓s199_533, ↓s199_534, ↓s199_535, ↓s199_536, ↓t199_537, ↓s199_538, ↓s199_541, ↓s199_544, ↓s199_545, kNLn, kNLi, kNLr, va_rf_s, kOl_n, kOl_s, kap_n, kap_c, kb0, kb1, kbif, ki_0, ki_83, e0, e1, hcl, h1, nI_add, hc1, hv1, hc2, hv2, hc3, hv3, hc4, hv4]
  refine br mi1 ml _ (RI_C hR f1) (fun mi2 ml2 r2 f2 => ?_)
  simp only [↓s199_493, ↓s199_494, ↓s199_495, ↓s199_496, ↓s199_497, ↓t199_498, ↓s199_499, ↓s199_500, ↓s199_501, ↓s199_502, ↓t199_503, ↓s199_504, ↓s199_505, ↓s199_506, ↓s199_507, ↓t199_508, ↓s199_509, ↓s199_510, ↓s199_511, ↓s199_512, ↓t199_513, ↓s199_514, ↓s199_517, ↓s199_518, ↓s199_519, ↓s199_520, ↓s199_521, ↓t199_522, ↓s199_523, ↓s199_524, ↓s199_525, ↓s199_526, ↓t199_527, ↓s199_528, ↓s199_529, ↓s199_530, ↓s199_531, ↓t199_532, ↓s199_533, ↓s199_534, ↓s199_535, ↓s199_536, ↓t199_537, ↓s199_538, ↓s199_541, ↓s199_544, ↓s199_545, kNLn, kNLi, kNLr, va_rf_s, kOl_n, kOl_s, kap_n, kap_c, kb0, kb1, kbif, lg_eq0, eq_self, if_true]
  exact hQ S' mi2 ml2 g' (CI_R c1 f2) r2 (by rw [f2 2000 (by omega), e0]) (by rw [f2 2001 (by omega), e1])
theorem L_12 (hi : i + 5 ≤ L) (hL : L ≤ 2560) (hg : gOK S) (hC : CI S mi) (hR : RI S mi) (h1 : mi 2001 0 = nI L) (hQ : lQ Q mi i) : kJ 199 546 [some (.ref 2000), some (.ref 0), some (.ref 83), some (.int (nI i))] [] (mi, ml, MR, 95) Q := by
  obtain ⟨S', r, g', bc, br⟩ := B_burn (x := mi 2000 (i + 1)) hg
  have hcl : (nI L).toNatClampNeg = L := nI_clamp (by omega)
  have hc1 : (nI (i + 1)).toNatClampNeg = i + 1 := nI_clamp (by omega)
  have hv1 : vp_in (nI (i + 1)) L := vp_in_nI (by omega) (by omega)
  simp only [↓s199_546, ↓s199_547, ↓s199_548, ↓s199_549, ↓s199_550, ↓t199_551, ↓s199_552, ↓s199_555, ↓s199_556, ↓s199_557, ↓s199_558, ↓s199_559, ↓t199_560, ↓s199_561, ↓s199_564, ↓s199_567, ↓s199_568, kNLn, kNLi, kNLr, va_rf_s, kOl_n, kOl_s, kap_n, kap_c, kb0, kb1, kbif, ki_0, ki_83, hcl, h1, nI_add, hc1, hv1]
  refine bc mi ml _ hC (fun mi1 c1 f1 => ?_)
  have e0 : mi1 2000 = mi 2000 := f1 2000 (by decide)
  have e1 : mi1 2001 = mi 2001 := f1 2001 (by decide)
  simp only [↓s199_546, ↓s199_547, ↓s199_548, ↓s199_549, ↓s199_550, ↓t199_551, ↓s199_552, ↓s199_555, ↓s199_556, ↓s199_557, ↓s199_558, ↓s199_559, ↓t199_560, ↓s199_561, ↓s199_564, ↓s199_567, ↓s199_568, kNLn, kNLi, kNLr, va_rf_s, kOl_n, kOl_s, kap_n, kap_c, kb0, kb1, kbif, ki_0, ki_83, e0, e1, hcl, h1, nI_add, hc1, hv1]
  refine br mi1 ml _ (RI_C hR f1) (fun mi2 ml2 r2 f2 => ?_)
  simp only [↓s199_546, ↓s199_547, ↓s199_548, ↓s199_549, ↓s199_550, ↓t199_551, ↓s199_552, ↓s199_555, ↓s199_556, ↓s199_557, ↓s199_558, ↓s199_559, ↓t199_560, ↓s199_561, ↓s199_564, ↓s199_567, ↓s199_568, kNLn, kNLi, kNLr, va_rf_s, kOl_n, kOl_s, kap_n, kap_c, kb0, kb1, kbif, lg_eq0, eq_self, if_true]
  exact hQ S' mi2 ml2 g' (CI_R c1 f2) r2 (by rw [f2 2000 (by omega), e0]) (by rw [f2 2001 (by omega), e1])
theorem L_13 (hi : i + 5 ≤ L) (hL : L ≤ 2560) (hg : gOK S) (hC : CI S mi) (hR : RI S mi) (h1 : mi 2001 0 = nI L) (hQ : lQ Q mi i) : kJ 199 569 [some (.ref 2000), some (.ref 0), some (.ref 83), some (.int (nI i))] [] (mi, ml, MR, 95) Q := by
  obtain ⟨S', r, g', bc, br⟩ := B_days (x := mi 2000 (i + 1)) hg
  have hcl : (nI L).toNatClampNeg = L := nI_clamp (by omega)
  have hc1 : (nI (i + 1)).toNatClampNeg = i + 1 := nI_clamp (by omega)
  have hv1 : vp_in (nI (i + 1)) L := vp_in_nI (by omega) (by omega)
  simp only [↓s199_569, ↓s199_570, ↓s199_571, ↓s199_572, ↓s199_573, ↓t199_574, ↓s199_575, ↓s199_578, ↓s199_579, ↓s199_580, ↓s199_581, ↓s199_582, ↓t199_583, ↓s199_584, ↓s199_587, ↓s199_590, ↓s199_591, kNLn, kNLi, kNLr, va_rf_s, kOl_n, kOl_s, kap_n, kap_c, kb0, kb1, kbif, ki_0, ki_83, hcl, h1, nI_add, hc1, hv1]
  refine bc mi ml _ hC (fun mi1 c1 f1 => ?_)
  have e0 : mi1 2000 = mi 2000 := f1 2000 (by decide)
  have e1 : mi1 2001 = mi 2001 := f1 2001 (by decide)
  simp only [↓s199_569, ↓s199_570, ↓s199_571, ↓s199_572, ↓s199_573, ↓t199_574, ↓s199_575, ↓s199_578, ↓s199_579, ↓s199_580, ↓s199_581, ↓s199_582, ↓t199_583, ↓s199_584, ↓s199_587, ↓s199_590, ↓s199_591, kNLn, kNLi, kNLr, va_rf_s, kOl_n, kOl_s, kap_n, kap_c, kb0, kb1, kbif, ki_0, ki_83, e0, e1, hcl, h1, nI_add, hc1, hv1]
  refine br mi1 ml _ (RI_C hR f1) (fun mi2 ml2 r2 f2 => ?_)
  simp only [↓s199_569, ↓s199_570, ↓s199_571, ↓s199_572, ↓s199_573, ↓t199_574, ↓s199_575, ↓s199_578, ↓s199_579, ↓s199_580, ↓s199_581, ↓s199_582, ↓t199_583, ↓s199_584, ↓s199_587, ↓s199_590, ↓s199_591, kNLn, kNLi, kNLr, va_rf_s, kOl_n, kOl_s, kap_n, kap_c, kb0, kb1, kbif, lg_eq0, eq_self, if_true]
  exact hQ S' mi2 ml2 g' (CI_R c1 f2) r2 (by rw [f2 2000 (by omega), e0]) (by rw [f2 2001 (by omega), e1])
theorem L_14 (hi : i + 5 ≤ L) (hL : L ≤ 2560) (hg : gOK S) (hC : CI S mi) (hR : RI S mi) (h1 : mi 2001 0 = nI L) (hQ : lQ Q mi i) : kJ 199 592 [some (.ref 2000), some (.ref 0), some (.ref 83), some (.int (nI i))] [] (mi, ml, MR, 95) Q := by
  obtain ⟨S', r, g', bc, br⟩ := B_runs (x := mi 2000 (i + 1)) (y := mi 2000 (i + 2)) hg
  have hcl : (nI L).toNatClampNeg = L := nI_clamp (by omega)
  have hc1 : (nI (i + 1)).toNatClampNeg = i + 1 := nI_clamp (by omega)
  have hv1 : vp_in (nI (i + 1)) L := vp_in_nI (by omega) (by omega)
  have hc2 : (nI (i + 2)).toNatClampNeg = i + 2 := nI_clamp (by omega)
  have hv2 : vp_in (nI (i + 2)) L := vp_in_nI (by omega) (by omega)
  simp only [↓s199_592, ↓s199_593, ↓s199_594, ↓s199_595, ↓s199_596, ↓t199_597, ↓s199_598, ↓s199_599, ↓s199_600, ↓s199_601, ↓t199_602, ↓s199_603, ↓s199_606, ↓s199_607, ↓s199_608, ↓s199_609, ↓s199_610, ↓t199_611, ↓s199_612, ↓s199_613, ↓s199_614, ↓s199_615, ↓t199_616, ↓s199_617, ↓s199_620, ↓s199_623, ↓s199_624, kNLn, kNLi, kNLr, va_rf_s, kOl_n, kOl_s, kap_n, kap_c, kb0, kb1, kbif, ki_0, ki_83, hcl, h1, nI_add, hc1, hv1, hc2, hv2]
  refine bc mi ml _ hC (fun mi1 c1 f1 => ?_)
  have e0 : mi1 2000 = mi 2000 := f1 2000 (by decide)
  have e1 : mi1 2001 = mi 2001 := f1 2001 (by decide)
  simp only [↓s199_592, ↓s199_593, ↓s199_594, ↓s199_595, ↓s199_596, ↓t199_597, ↓s199_598, ↓s199_599, ↓s199_600, ↓s199_601, ↓t199_602, ↓s199_603, ↓s199_606, ↓s199_607, ↓s199_608, ↓s199_609, ↓s199_610, ↓t199_611, ↓s199_612, ↓s199_613, ↓s199_614, ↓s199_615, ↓t199_616, ↓s199_617, ↓s199_620, ↓s199_623, ↓s199_624, kNLn, kNLi, kNLr, va_rf_s, kOl_n, kOl_s, kap_n, kap_c, kb0, kb1, kbif, ki_0, ki_83, e0, e1, hcl, h1, nI_add, hc1, hv1, hc2, hv2]
  refine br mi1 ml _ (RI_C hR f1) (fun mi2 ml2 r2 f2 => ?_)
  simp only [↓s199_592, ↓s199_593, ↓s199_594, ↓s199_595, ↓s199_596, ↓t199_597, ↓s199_598, ↓s199_599, ↓s199_600, ↓s199_601, ↓t199_602, ↓s199_603, ↓s199_606, ↓s199_607, ↓s199_608, ↓s199_609, ↓s199_610, ↓t199_611, ↓s199_612, ↓s199_613, ↓s199_614, ↓s199_615, ↓t199_616, ↓s199_617, ↓s199_620, ↓s199_623, ↓s199_624, kNLn, kNLi, kNLr, va_rf_s, kOl_n, kOl_s, kap_n, kap_c, kb0, kb1, kbif, lg_eq0, eq_self, if_true]
  exact hQ S' mi2 ml2 g' (CI_R c1 f2) r2 (by rw [f2 2000 (by omega), e0]) (by rw [f2 2001 (by omega), e1])
theorem L_15 (hi : i + 5 ≤ L) (hL : L ≤ 2560) (hg : gOK S) (hC : CI S mi) (hR : RI S mi) (h1 : mi 2001 0 = nI L) (hQ : lQ Q mi i) : kJ 199 625 [some (.ref 2000), some (.ref 0), some (.ref 83), some (.int (nI i))] [] (mi, ml, MR, 95) Q := by
  obtain ⟨S', r, g', bc, br⟩ := B_ahead (x := mi 2000 (i + 1)) (y := mi 2000 (i + 2)) hg
  have hcl : (nI L).toNatClampNeg = L := nI_clamp (by omega)
  have hc1 : (nI (i + 1)).toNatClampNeg = i + 1 := nI_clamp (by omega)
  have hv1 : vp_in (nI (i + 1)) L := vp_in_nI (by omega) (by omega)
  have hc2 : (nI (i + 2)).toNatClampNeg = i + 2 := nI_clamp (by omega)
  have hv2 : vp_in (nI (i + 2)) L := vp_in_nI (by omega) (by omega)
  simp only [↓s199_625, ↓s199_626, ↓s199_627, ↓s199_628, ↓s199_629, ↓t199_630, ↓s199_631, ↓s199_632, ↓s199_633, ↓s199_634, ↓t199_635, ↓s199_636, ↓s199_639, ↓s199_640, ↓s199_641, ↓s199_642, ↓s199_643, ↓t199_644, ↓s199_645, ↓s199_646, ↓s199_647, ↓s199_648, ↓t199_649, ↓s199_650, ↓s199_653, ↓s199_656, ↓s199_657, kNLn, kNLi, kNLr, va_rf_s, kOl_n, kOl_s, kap_n, kap_c, kb0, kb1, kbif, ki_0, ki_83, hcl, h1, nI_add, hc1, hv1, hc2, hv2]
  refine bc mi ml _ hC (fun mi1 c1 f1 => ?_)
  have e0 : mi1 2000 = mi 2000 := f1 2000 (by decide)
  have e1 : mi1 2001 = mi 2001 := f1 2001 (by decide)
  simp only [↓s199_625, ↓s199_626, ↓s199_627, ↓s199_628, ↓s199_629, ↓t199_630, ↓s199_631, ↓s199_632, ↓s199_633, ↓s199_634, ↓t199_635, ↓s199_636, ↓s199_639, ↓s199_640, ↓s199_641, ↓s199_642, ↓s199_643, ↓t199_644, ↓s199_645, ↓s199_646, ↓s199_647, ↓s199_648, ↓t199_649, ↓s199_650, ↓s199_653, ↓s199_656, ↓s199_657, kNLn, kNLi, kNLr, va_rf_s, kOl_n, kOl_s, kap_n, kap_c, kb0, kb1, kbif, ki_0, ki_83, e0, e1, hcl, h1, nI_add, hc1, hv1, hc2, hv2]
  refine br mi1 ml _ (RI_C hR f1) (fun mi2 ml2 r2 f2 => ?_)
  simp only [↓s199_625, ↓s199_626, ↓s199_627, ↓s199_628, ↓s199_629, ↓t199_630, ↓s199_631, ↓s199_632, ↓s199_633, ↓s199_634, ↓t199_635, ↓s199_636, ↓s199_639, ↓s199_640, ↓s199_641, ↓s199_642, ↓s199_643, ↓t199_644, ↓s199_645, ↓s199_646, ↓s199_647, ↓s199_648, ↓t199_649, ↓s199_650, ↓s199_653, ↓s199_656, ↓s199_657, kNLn, kNLi, kNLr, va_rf_s, kOl_n, kOl_s, kap_n, kap_c, kb0, kb1, kbif, lg_eq0, eq_self, if_true]
  exact hQ S' mi2 ml2 g' (CI_R c1 f2) r2 (by rw [f2 2000 (by omega), e0]) (by rw [f2 2001 (by omega), e1])
theorem L_16 (hi : i + 5 ≤ L) (hL : L ≤ 2560) (hg : gOK S) (hC : CI S mi) (hR : RI S mi) (h1 : mi 2001 0 = nI L) (hQ : lQ Q mi i) : kJ 199 658 [some (.ref 2000), some (.ref 0), some (.ref 83), some (.int (nI i))] [] (mi, ml, MR, 95) Q := by
  obtain ⟨S', r, g', bc, br⟩ := B_comes (x := mi 2000 (i + 1)) hg
  have hcl : (nI L).toNatClampNeg = L := nI_clamp (by omega)
  have hc1 : (nI (i + 1)).toNatClampNeg = i + 1 := nI_clamp (by omega)
  have hv1 : vp_in (nI (i + 1)) L := vp_in_nI (by omega) (by omega)
  simp only [↓s199_658, ↓s199_659, ↓s199_660, ↓s199_661, ↓s199_662, ↓t199_663, ↓s199_664, ↓s199_667, ↓s199_668, ↓s199_669, ↓s199_670, ↓s199_671, ↓t199_672, ↓s199_673, ↓s199_676, ↓s199_679, ↓s199_680, kNLn, kNLi, kNLr, va_rf_s, kOl_n, kOl_s, kap_n, kap_c, kb0, kb1, kbif, ki_0, ki_83, hcl, h1, nI_add, hc1, hv1]
  refine bc mi ml _ hC (fun mi1 c1 f1 => ?_)
  have e0 : mi1 2000 = mi 2000 := f1 2000 (by decide)
  have e1 : mi1 2001 = mi 2001 := f1 2001 (by decide)
  simp only [↓s199_658, ↓s199_659, ↓s199_660, ↓s199_661, ↓s199_662, ↓t199_663, ↓s199_664, ↓s199_667, ↓s199_668, ↓s199_669, ↓s199_670, ↓s199_671, ↓t199_672, ↓s199_673, ↓s199_676, ↓s199_679, ↓s199_680, kNLn, kNLi, kNLr, va_rf_s, kOl_n, kOl_s, kap_n, kap_c, kb0, kb1, kbif, ki_0, ki_83, e0, e1, hcl, h1, nI_add, hc1, hv1]
  refine br mi1 ml _ (RI_C hR f1) (fun mi2 ml2 r2 f2 => ?_)
  simp only [↓s199_658, ↓s199_659, ↓s199_660, ↓s199_661, ↓s199_662, ↓t199_663, ↓s199_664, ↓s199_667, ↓s199_668, ↓s199_669, ↓s199_670, ↓s199_671, ↓t199_672, ↓s199_673, ↓s199_676, ↓s199_679, ↓s199_680, kNLn, kNLi, kNLr, va_rf_s, kOl_n, kOl_s, kap_n, kap_c, kb0, kb1, kbif, lg_eq0, eq_self, if_true]
  exact hQ S' mi2 ml2 g' (CI_R c1 f2) r2 (by rw [f2 2000 (by omega), e0]) (by rw [f2 2001 (by omega), e1])
theorem L_17 (hi : i + 5 ≤ L) (hL : L ≤ 2560) (hg : gOK S) (hC : CI S mi) (hR : RI S mi) (h1 : mi 2001 0 = nI L) (hQ : lQ Q mi i) : kJ 199 681 [some (.ref 2000), some (.ref 0), some (.ref 83), some (.int (nI i))] [] (mi, ml, MR, 95) Q := by
  obtain ⟨S', r, g', bc, br⟩ := B_say (x := mi 2000 (i + 1)) (y := mi 2000 (i + 2)) (z := mi 2000 (i + 3)) hg
  have hcl : (nI L).toNatClampNeg = L := nI_clamp (by omega)
  have hc1 : (nI (i + 1)).toNatClampNeg = i + 1 := nI_clamp (by omega)
  have hv1 : vp_in (nI (i + 1)) L := vp_in_nI (by omega) (by omega)
  have hc2 : (nI (i + 2)).toNatClampNeg = i + 2 := nI_clamp (by omega)
  have hv2 : vp_in (nI (i + 2)) L := vp_in_nI (by omega) (by omega)
  have hc3 : (nI (i + 3)).toNatClampNeg = i + 3 := nI_clamp (by omega)
  have hv3 : vp_in (nI (i + 3)) L := vp_in_nI (by omega) (by omega)
  simp only [↓s199_681, ↓s199_682, ↓s199_683, ↓s199_684, ↓s199_685, ↓t199_686, ↓s199_687, ↓s199_688, ↓s199_689, ↓s199_690, ↓t199_691, ↓s199_692, ↓s199_693, ↓s199_694, ↓s199_695, ↓t199_696, ↓s199_697, ↓s199_700, ↓s199_701, ↓s199_702, ↓s199_703, ↓s199_704, ↓t199_705, ↓s199_706, ↓s199_707, ↓s199_708, ↓s199_709, ↓t199_710, ↓s199_711, ↓s199_712, ↓s199_713, ↓s199_714, ↓t199_715, ↓s199_716, ↓s199_719, ↓s199_722, ↓s199_723, kNLn, kNLi, kNLr, va_rf_s, kOl_n, kOl_s, kap_n, kap_c, kb0, kb1, kbif, ki_0, ki_83, hcl, h1, nI_add, hc1, hv1, hc2, hv2, hc3, hv3]
  refine bc mi ml _ hC (fun mi1 c1 f1 => ?_)
  have e0 : mi1 2000 = mi 2000 := f1 2000 (by decide)
  have e1 : mi1 2001 = mi 2001 := f1 2001 (by decide)
  simp only [↓s199_681, ↓s199_682, ↓s199_683, ↓s199_684, ↓s199_685, ↓t199_686, ↓s199_687, ↓s199_688, ↓s199_689, ↓s199_690, ↓t199_691, ↓s199_692, ↓s199_693, ↓s199_694, ↓s199_695, ↓t199_696, ↓s199_697, ↓s199_700, ↓s199_701, ↓s199_702, ↓s199_703, ↓s199_704, ↓t199_705, ↓s199_706, ↓s199_707, ↓s199_708, ↓s199_709, ↓t199_710, ↓s199_711, ↓s199_712, ↓s199_713, ↓s199_714, ↓t199_715, ↓s199_716, ↓s199_719, ↓s199_722, ↓s199_723, kNLn, kNLi, kNLr, va_rf_s, kOl_n, kOl_s, kap_n, kap_c, kb0, kb1, kbif, ki_0, ki_83, e0, e1, hcl, h1, nI_add, hc1, hv1, hc2, hv2, hc3, hv3]
  refine br mi1 ml _ (RI_C hR f1) (fun mi2 ml2 r2 f2 => ?_)
  simp only [↓s199_681, ↓s199_682, ↓s199_683, ↓s199_684, ↓s199_685, ↓t199_686, ↓s199_687, ↓s199_688, ↓s199_689, ↓s199_690, ↓t199_691, ↓s199_692, ↓s199_693, ↓s199_694, ↓s199_695, ↓t199_696, ↓s199_697, ↓s199_700, ↓s199_701, ↓s199_702, ↓s199_703, ↓s199_704, ↓t199_705, ↓s199_706, ↓s199_707, ↓s199_708, ↓s199_709, ↓t199_710, ↓s199_711, ↓s199_712, ↓s199_713, ↓s199_714, ↓t199_715, ↓s199_716, ↓s199_719, ↓s199_722, ↓s199_723, kNLn, kNLi, kNLr, va_rf_s, kOl_n, kOl_s, kap_n, kap_c, kb0, kb1, kbif, lg_eq0, eq_self, if_true]
  exact hQ S' mi2 ml2 g' (CI_R c1 f2) r2 (by rw [f2 2000 (by omega), e0]) (by rw [f2 2001 (by omega), e1])
theorem L_18 (hi : i + 5 ≤ L) (hL : L ≤ 2560) (hg : gOK S) (hC : CI S mi) (hR : RI S mi) (h1 : mi 2001 0 = nI L) (hQ : lQ Q mi i) : kJ 199 724 [some (.ref 2000), some (.ref 0), some (.ref 83), some (.int (nI i))] [] (mi, ml, MR, 95) Q := by
  obtain ⟨S', r, g', bc, br⟩ := B_need (x := mi 2000 (i + 1)) (y := mi 2000 (i + 2)) hg
  have hcl : (nI L).toNatClampNeg = L := nI_clamp (by omega)
  have hc1 : (nI (i + 1)).toNatClampNeg = i + 1 := nI_clamp (by omega)
  have hv1 : vp_in (nI (i + 1)) L := vp_in_nI (by omega) (by omega)
  have hc2 : (nI (i + 2)).toNatClampNeg = i + 2 := nI_clamp (by omega)
  have hv2 : vp_in (nI (i + 2)) L := vp_in_nI (by omega) (by omega)
  simp only [↓s199_724, ↓s199_725, ↓s199_726, ↓s199_727, ↓s199_728, ↓t199_729, ↓s199_730, ↓s199_731, ↓s199_732, ↓s199_733, ↓t199_734, ↓s199_735, ↓s199_738, ↓s199_739, ↓s199_740, ↓s199_741, ↓s199_742, ↓t199_743, ↓s199_744, ↓s199_745, ↓s199_746, ↓s199_747, ↓t199_748, ↓s199_749, ↓s199_752, ↓s199_755, ↓s199_756, kNLn, kNLi, kNLr, va_rf_s, kOl_n, kOl_s, kap_n, kap_c, kb0, kb1, kbif, ki_0, ki_83, hcl, h1, nI_add, hc1, hv1, hc2, hv2]
  refine bc mi ml _ hC (fun mi1 c1 f1 => ?_)
  have e0 : mi1 2000 = mi 2000 := f1 2000 (by decide)
  have e1 : mi1 2001 = mi 2001 := f1 2001 (by decide)
  simp only [↓s199_724, ↓s199_725, ↓s199_726, ↓s199_727, ↓s199_728, ↓t199_729, ↓s199_730, ↓s199_731, ↓s199_732, ↓s199_733, ↓t199_734, ↓s199_735, ↓s199_738, ↓s199_739, ↓s199_740, ↓s199_741, ↓s199_742, ↓t199_743, ↓s199_744, ↓s199_745, ↓s199_746, ↓s199_747, ↓t199_748, ↓s199_749, ↓s199_752, ↓s199_755, ↓s199_756, kNLn, kNLi, kNLr, va_rf_s, kOl_n, kOl_s, kap_n, kap_c, kb0, kb1, kbif, ki_0, ki_83, e0, e1, hcl, h1, nI_add, hc1, hv1, hc2, hv2]
  refine br mi1 ml _ (RI_C hR f1) (fun mi2 ml2 r2 f2 => ?_)
  simp only [↓s199_724, ↓s199_725, ↓s199_726, ↓s199_727, ↓s199_728, ↓t199_729, ↓s199_730, ↓s199_731, ↓s199_732, ↓s199_733, ↓t199_734, ↓s199_735, ↓s199_738, ↓s199_739, ↓s199_740, ↓s199_741, ↓s199_742, ↓t199_743, ↓s199_744, ↓s199_745, ↓s199_746, ↓s199_747, ↓t199_748, ↓s199_749, ↓s199_752, ↓s199_755, ↓s199_756, kNLn, kNLi, kNLr, va_rf_s, kOl_n, kOl_s, kap_n, kap_c, kb0, kb1, kbif, lg_eq0, eq_self, if_true]
  exact hQ S' mi2 ml2 g' (CI_R c1 f2) r2 (by rw [f2 2000 (by omega), e0]) (by rw [f2 2001 (by omega), e1])
theorem L_19 (hi : i + 5 ≤ L) (hL : L ≤ 2560) (hg : gOK S) (hC : CI S mi) (hR : RI S mi) (h1 : mi 2001 0 = nI L) (hQ : lQ Q mi i) : kJ 199 757 [some (.ref 2000), some (.ref 0), some (.ref 83), some (.int (nI i))] [] (mi, ml, MR, 95) Q := by
  obtain ⟨S', r, g', bc, br⟩ := B_about (x := mi 2000 (i + 1)) (y := mi 2000 (i + 2)) (z := mi 2000 (i + 3)) hg
  have hcl : (nI L).toNatClampNeg = L := nI_clamp (by omega)
  have hc1 : (nI (i + 1)).toNatClampNeg = i + 1 := nI_clamp (by omega)
  have hv1 : vp_in (nI (i + 1)) L := vp_in_nI (by omega) (by omega)
  have hc2 : (nI (i + 2)).toNatClampNeg = i + 2 := nI_clamp (by omega)
  have hv2 : vp_in (nI (i + 2)) L := vp_in_nI (by omega) (by omega)
  have hc3 : (nI (i + 3)).toNatClampNeg = i + 3 := nI_clamp (by omega)
  have hv3 : vp_in (nI (i + 3)) L := vp_in_nI (by omega) (by omega)
  simp only [↓s199_757, ↓s199_758, ↓s199_759, ↓s199_760, ↓s199_761, ↓t199_762, ↓s199_763, ↓s199_764, ↓s199_765, ↓s199_766, ↓t199_767, ↓s199_768, ↓s199_769, ↓s199_770, ↓s199_771, ↓t199_772, ↓s199_773, ↓s199_776, ↓s199_777, ↓s199_778, ↓s199_779, ↓s199_780, ↓t199_781, ↓s199_782, ↓s199_783, ↓s199_784, ↓s199_785, ↓t199_786, ↓s199_787, ↓s199_788, ↓s199_789, ↓s199_790, ↓t199_791, ↓s199_792, ↓s199_795, ↓s199_798, ↓s199_799, kNLn, kNLi, kNLr, va_rf_s, kOl_n, kOl_s, kap_n, kap_c, kb0, kb1, kbif, ki_0, ki_83, hcl, h1, nI_add, hc1, hv1, hc2, hv2, hc3, hv3]
  refine bc mi ml _ hC (fun mi1 c1 f1 => ?_)
  have e0 : mi1 2000 = mi 2000 := f1 2000 (by decide)
  have e1 : mi1 2001 = mi 2001 := f1 2001 (by decide)
  simp only [↓s199_757, ↓s199_758, ↓s199_759, ↓s199_760, ↓s199_761, ↓t199_762, ↓s199_763, ↓s199_764, ↓s199_765, ↓s199_766, ↓t199_767, ↓s199_768, ↓s199_769, ↓s199_770, ↓s199_771, ↓t199_772, ↓s199_773, ↓s199_776, ↓s199_777, ↓s199_778, ↓s199_779, ↓s199_780, ↓t199_781, ↓s199_782, ↓s199_783, ↓s199_784, ↓s199_785, ↓t199_786, ↓s199_787, ↓s199_788, ↓s199_789, ↓s199_790, ↓t199_791, ↓s199_792, ↓s199_795, ↓s199_798, ↓s199_799, kNLn, kNLi, kNLr, va_rf_s, kOl_n, kOl_s, kap_n, kap_c, kb0, kb1, kbif, ki_0, ki_83, e0, e1, hcl, h1, nI_add, hc1, hv1, hc2, hv2, hc3, hv3]
  refine br mi1 ml _ (RI_C hR f1) (fun mi2 ml2 r2 f2 => ?_)
  simp only [↓s199_757, ↓s199_758, ↓s199_759, ↓s199_760, ↓s199_761, ↓t199_762, ↓s199_763, ↓s199_764, ↓s199_765, ↓s199_766, ↓t199_767, ↓s199_768, ↓s199_769, ↓s199_770, ↓s199_771, ↓t199_772, ↓s199_773, ↓s199_776, ↓s199_777, ↓s199_778, ↓s199_779, ↓s199_780, ↓t199_781, ↓s199_782, ↓s199_783, ↓s199_784, ↓s199_785, ↓t199_786, ↓s199_787, ↓s199_788, ↓s199_789, ↓s199_790, ↓t199_791, ↓s199_792, ↓s199_795, ↓s199_798, ↓s199_799, kNLn, kNLi, kNLr, va_rf_s, kOl_n, kOl_s, kap_n, kap_c, kb0, kb1, kbif, lg_eq0, eq_self, if_true]
  exact hQ S' mi2 ml2 g' (CI_R c1 f2) r2 (by rw [f2 2000 (by omega), e0]) (by rw [f2 2001 (by omega), e1])
theorem L_20 (hi : i + 5 ≤ L) (hL : L ≤ 2560) (hg : gOK S) (hC : CI S mi) (hR : RI S mi) (h1 : mi 2001 0 = nI L) (hQ : lQ Q mi i) : kJ 199 800 [some (.ref 2000), some (.ref 0), some (.ref 83), some (.int (nI i))] [] (mi, ml, MR, 95) Q := by
  obtain ⟨S', r, g', bc, br⟩ := B_swap (x := mi 2000 (i + 1)) (y := mi 2000 (i + 2)) hg
  have hcl : (nI L).toNatClampNeg = L := nI_clamp (by omega)
  have hc1 : (nI (i + 1)).toNatClampNeg = i + 1 := nI_clamp (by omega)
  have hv1 : vp_in (nI (i + 1)) L := vp_in_nI (by omega) (by omega)
  have hc2 : (nI (i + 2)).toNatClampNeg = i + 2 := nI_clamp (by omega)
  have hv2 : vp_in (nI (i + 2)) L := vp_in_nI (by omega) (by omega)
  simp only [↓s199_800, ↓s199_801, ↓s199_802, ↓s199_803, ↓s199_804, ↓t199_805, ↓s199_806, ↓s199_807, ↓s199_808, ↓s199_809, ↓t199_810, ↓s199_811, ↓s199_814, ↓s199_815, ↓s199_816, ↓s199_817, ↓s199_818, ↓t199_819, ↓s199_820, ↓s199_821, ↓s199_822, ↓s199_823, ↓t199_824, ↓s199_825, ↓s199_828, ↓s199_831, ↓s199_832, kNLn, kNLi, kNLr, va_rf_s, kOl_n, kOl_s, kap_n, kap_c, kb0, kb1, kbif, ki_0, ki_83, hcl, h1, nI_add, hc1, hv1, hc2, hv2]
  refine bc mi ml _ hC (fun mi1 c1 f1 => ?_)
  have e0 : mi1 2000 = mi 2000 := f1 2000 (by decide)
  have e1 : mi1 2001 = mi 2001 := f1 2001 (by decide)
  simp only [↓s199_800, ↓s199_801, ↓s199_802, ↓s199_803, ↓s199_804, ↓t199_805, ↓s199_806, ↓s199_807, ↓s199_808, ↓s199_809, ↓t199_810, ↓s199_811, ↓s199_814, ↓s199_815, ↓s199_816, ↓s199_817, ↓s199_818, ↓t199_819, ↓s199_820, ↓s199_821, ↓s199_822, ↓s199_823, ↓t199_824, ↓s199_825, ↓s199_828, ↓s199_831, ↓s199_832, kNLn, kNLi, kNLr, va_rf_s, kOl_n, kOl_s, kap_n, kap_c, kb0, kb1, kbif, ki_0, ki_83, e0, e1, hcl, h1, nI_add, hc1, hv1, hc2, hv2]
  refine br mi1 ml _ (RI_C hR f1) (fun mi2 ml2 r2 f2 => ?_)
  simp only [↓s199_800, ↓s199_801, ↓s199_802, ↓s199_803, ↓s199_804, ↓t199_805, ↓s199_806, ↓s199_807, ↓s199_808, ↓s199_809, ↓t199_810, ↓s199_811, ↓s199_814, ↓s199_815, ↓s199_816, ↓s199_817, ↓s199_818, ↓t199_819, ↓s199_820, ↓s199_821, ↓s199_822, ↓s199_823, ↓t199_824, ↓s199_825, ↓s199_828, ↓s199_831, ↓s199_832, kNLn, kNLi, kNLr, va_rf_s, kOl_n, kOl_s, kap_n, kap_c, kb0, kb1, kbif, lg_eq0, eq_self, if_true]
  exact hQ S' mi2 ml2 g' (CI_R c1 f2) r2 (by rw [f2 2000 (by omega), e0]) (by rw [f2 2001 (by omega), e1])
theorem L_21 (hi : i + 5 ≤ L) (hL : L ≤ 2560) (hg : gOK S) (hC : CI S mi) (hR : RI S mi) (h1 : mi 2001 0 = nI L) (hQ : lQ Q mi i) : kJ 199 833 [some (.ref 2000), some (.ref 0), some (.ref 83), some (.int (nI i))] [] (mi, ml, MR, 95) Q := by
  obtain ⟨S', r, g', bc, br⟩ := B_stop (x := mi 2000 (i + 1)) (y := mi 2000 (i + 2)) hg
  have hcl : (nI L).toNatClampNeg = L := nI_clamp (by omega)
  have hc1 : (nI (i + 1)).toNatClampNeg = i + 1 := nI_clamp (by omega)
  have hv1 : vp_in (nI (i + 1)) L := vp_in_nI (by omega) (by omega)
  have hc2 : (nI (i + 2)).toNatClampNeg = i + 2 := nI_clamp (by omega)
  have hv2 : vp_in (nI (i + 2)) L := vp_in_nI (by omega) (by omega)
  simp only [↓s199_833, ↓s199_834, ↓s199_835, ↓s199_836, ↓s199_837, ↓t199_838, ↓s199_839, ↓s199_840, ↓s199_841, ↓s199_842, ↓t199_843, ↓s199_844, ↓s199_847, ↓s199_848, ↓s199_849, ↓s199_850, ↓s199_851, ↓t199_852, ↓s199_853, ↓s199_854, ↓s199_855, ↓s199_856, ↓t199_857, ↓s199_858, ↓s199_861, ↓s199_864, ↓s199_865, kNLn, kNLi, kNLr, va_rf_s, kOl_n, kOl_s, kap_n, kap_c, kb0, kb1, kbif, ki_0, ki_83, hcl, h1, nI_add, hc1, hv1, hc2, hv2]
  refine bc mi ml _ hC (fun mi1 c1 f1 => ?_)
  have e0 : mi1 2000 = mi 2000 := f1 2000 (by decide)
  have e1 : mi1 2001 = mi 2001 := f1 2001 (by decide)
  simp only [↓s199_833, ↓s199_834, ↓s199_835, ↓s199_836, ↓s199_837, ↓t199_838, ↓s199_839, ↓s199_840, ↓s199_841, ↓s199_842, ↓t199_843, ↓s199_844, ↓s199_847, ↓s199_848, ↓s199_849, ↓s199_850, ↓s199_851, ↓t199_852, ↓s199_853, ↓s199_854, ↓s199_855, ↓s199_856, ↓t199_857, ↓s199_858, ↓s199_861, ↓s199_864, ↓s199_865, kNLn, kNLi, kNLr, va_rf_s, kOl_n, kOl_s, kap_n, kap_c, kb0, kb1, kbif, ki_0, ki_83, e0, e1, hcl, h1, nI_add, hc1, hv1, hc2, hv2]
  refine br mi1 ml _ (RI_C hR f1) (fun mi2 ml2 r2 f2 => ?_)
  simp only [↓s199_833, ↓s199_834, ↓s199_835, ↓s199_836, ↓s199_837, ↓t199_838, ↓s199_839, ↓s199_840, ↓s199_841, ↓s199_842, ↓t199_843, ↓s199_844, ↓s199_847, ↓s199_848, ↓s199_849, ↓s199_850, ↓s199_851, ↓t199_852, ↓s199_853, ↓s199_854, ↓s199_855, ↓s199_856, ↓t199_857, ↓s199_858, ↓s199_861, ↓s199_864, ↓s199_865, kNLn, kNLi, kNLr, va_rf_s, kOl_n, kOl_s, kap_n, kap_c, kb0, kb1, kbif, lg_eq0, eq_self, if_true]
  exact hQ S' mi2 ml2 g' (CI_R c1 f2) r2 (by rw [f2 2000 (by omega), e0]) (by rw [f2 2001 (by omega), e1])
theorem L_22 (hi : i + 5 ≤ L) (hL : L ≤ 2560) (hg : gOK S) (hC : CI S mi) (hR : RI S mi) (h1 : mi 2001 0 = nI L) (hQ : lQ Q mi i) : kJ 199 866 [some (.ref 2000), some (.ref 0), some (.ref 83), some (.int (nI i))] [] (mi, ml, MR, 95) Q := by
  obtain ⟨S', r, g', bc, br⟩ := B_kind (x := mi 2000 (i + 1)) (y := mi 2000 (i + 2)) (z := mi 2000 (i + 3)) hg
  have hcl : (nI L).toNatClampNeg = L := nI_clamp (by omega)
  have hc1 : (nI (i + 1)).toNatClampNeg = i + 1 := nI_clamp (by omega)
  have hv1 : vp_in (nI (i + 1)) L := vp_in_nI (by omega) (by omega)
  have hc2 : (nI (i + 2)).toNatClampNeg = i + 2 := nI_clamp (by omega)
  have hv2 : vp_in (nI (i + 2)) L := vp_in_nI (by omega) (by omega)
  have hc3 : (nI (i + 3)).toNatClampNeg = i + 3 := nI_clamp (by omega)
  have hv3 : vp_in (nI (i + 3)) L := vp_in_nI (by omega) (by omega)
  simp only [↓s199_866, ↓s199_867, ↓s199_868, ↓s199_869, ↓s199_870, ↓t199_871, ↓s199_872, ↓s199_873, ↓s199_874, ↓s199_875, ↓t199_876, ↓s199_877, ↓s199_878, ↓s199_879, ↓s199_880, ↓t199_881, ↓s199_882, ↓s199_885, ↓s199_886, ↓s199_887, ↓s199_888, ↓s199_889, ↓t199_890, ↓s199_891, ↓s199_892, ↓s199_893, ↓s199_894, ↓t199_895, ↓s199_896, ↓s199_897, ↓s199_898, ↓s199_899, ↓t199_900, ↓s199_901, ↓s199_904, ↓s199_907, ↓s199_908, kNLn, kNLi, kNLr, va_rf_s, kOl_n, kOl_s, kap_n, kap_c, kb0, kb1, kbif, ki_0, ki_83, hcl, h1, nI_add, hc1, hv1, hc2, hv2, hc3, hv3]
  refine bc mi ml _ hC (fun mi1 c1 f1 => ?_)
  have e0 : mi1 2000 = mi 2000 := f1 2000 (by decide)
  have e1 : mi1 2001 = mi 2001 := f1 2001 (by decide)
  simp only [↓s199_866, ↓s199_867, ↓s199_868, ↓s199_869, ↓s199_870, ↓t199_871, ↓s199_872, ↓s199_873, ↓s199_874, ↓s199_875, ↓t199_876, ↓s199_877, ↓s199_878, ↓s199_879, ↓s199_880, ↓t199_881, ↓s199_882, ↓s199_885, ↓s199_886, ↓s199_887, ↓s199_888, ↓s199_889, ↓t199_890, ↓s199_891, ↓s199_892, ↓s199_893, ↓s199_894, ↓t199_895, ↓s199_896, ↓s199_897, ↓s199_898, ↓s199_899, ↓t199_900, ↓s199_901, ↓s199_904, ↓s199_907, ↓s199_908, kNLn, kNLi, kNLr, va_rf_s, kOl_n, kOl_s, kap_n, kap_c, kb0, kb1, kbif, ki_0, ki_83, e0, e1, hcl, h1, nI_add, hc1, hv1, hc2, hv2, hc3, hv3]
  refine br mi1 ml _ (RI_C hR f1) (fun mi2 ml2 r2 f2 => ?_)
  simp only [↓s199_866, ↓s199_867, ↓s199_868, ↓s199_869, ↓s199_870, ↓t199_871, ↓s199_872, ↓s199_873, ↓s199_874, ↓s199_875, ↓t199_876, ↓s199_877, ↓s199_878, ↓s199_879, ↓s199_880, ↓t199_881, ↓s199_882, ↓s199_885, ↓s199_886, ↓s199_887, ↓s199_888, ↓s199_889, ↓t199_890, ↓s199_891, ↓s199_892, ↓s199_893, ↓s199_894, ↓t199_895, ↓s199_896, ↓s199_897, ↓s199_898, ↓s199_899, ↓t199_900, ↓s199_901, ↓s199_904, ↓s199_907, ↓s199_908, kNLn, kNLi, kNLr, va_rf_s, kOl_n, kOl_s, kap_n, kap_c, kb0, kb1, kbif, lg_eq0, eq_self, if_true]
  exact hQ S' mi2 ml2 g' (CI_R c1 f2) r2 (by rw [f2 2000 (by omega), e0]) (by rw [f2 2001 (by omega), e1])
theorem L_23 (hi : i + 5 ≤ L) (hL : L ≤ 2560) (hg : gOK S) (hC : CI S mi) (hR : RI S mi) (h1 : mi 2001 0 = nI L) (hQ : lQ Q mi i) : kJ 199 909 [some (.ref 2000), some (.ref 0), some (.ref 83), some (.int (nI i))] [] (mi, ml, MR, 95) Q := by
  obtain ⟨S', r, g', bc, br⟩ := B_luck (x := mi 2000 (i + 1)) (y := mi 2000 (i + 2)) (z := mi 2000 (i + 3)) (w := mi 2000 (i + 4)) hg
  have hcl : (nI L).toNatClampNeg = L := nI_clamp (by omega)
  have hc1 : (nI (i + 1)).toNatClampNeg = i + 1 := nI_clamp (by omega)
  have hv1 : vp_in (nI (i + 1)) L := vp_in_nI (by omega) (by omega)
  have hc2 : (nI (i + 2)).toNatClampNeg = i + 2 := nI_clamp (by omega)
  have hv2 : vp_in (nI (i + 2)) L := vp_in_nI (by omega) (by omega)
  have hc3 : (nI (i + 3)).toNatClampNeg = i + 3 := nI_clamp (by omega)
  have hv3 : vp_in (nI (i + 3)) L := vp_in_nI (by omega) (by omega)
  have hc4 : (nI (i + 4)).toNatClampNeg = i + 4 := nI_clamp (by omega)
  have hv4 : vp_in (nI (i + 4)) L := vp_in_nI (by omega) (by omega)
  simp only [↓s199_909, ↓s199_910, ↓s199_911, ↓s199_912, ↓s199_913, ↓t199_914, ↓s199_915, ↓s199_916, ↓s199_917, ↓s199_918, ↓t199_919, ↓s199_920, ↓s199_921, ↓s199_922, ↓s199_923, ↓t199_924, ↓s199_925, ↓s199_926, ↓s199_927, ↓s199_928, ↓t199_929, ↓s199_930, ↓s199_933, ↓s199_934, ↓s199_935, ↓s199_936, ↓s199_937, ↓t199_938, ↓s199_939, ↓s199_940, ↓s199_941, ↓s199_942, ↓t199_943, ↓s199_944, ↓s199_945, ↓s199_946, ↓s199_947, ↓t199_948, ↓s199_949, ↓s199_950, ↓s199_951, ↓s199_952, ↓t199_953, ↓s199_954, ↓s199_957, ↓s199_958, ↓s199_961, ↓s199_962, kNLn, kNLi, kNLr, va_rf_s, kOl_n, kOl_s, kap_n, kap_c, kb0, kb1, kbif, ki_0, ki_83, hcl, h1, nI_add, hc1, hv1, hc2, hv2, hc3, hv3, hc4, hv4]
  refine bc mi ml _ hC (fun mi1 c1 f1 => ?_)
  have e0 : mi1 2000 = mi 2000 := f1 2000 (by decide)
  have e1 : mi1 2001 = mi 2001 := f1 2001 (by decide)
  simp only [↓s199_909, ↓s199_910, ↓s199_911, ↓s199_912, ↓s199_913, ↓t199_914, ↓s199_915, ↓s199_916, ↓s199_917, ↓s199_918, ↓t199_919, ↓s199_920, ↓s199_921, ↓s199_922, ↓s199_923, ↓t199_924, ↓s199_925, ↓s199_926, ↓s199_927, ↓s199_928, ↓t199_929, ↓s199_930, ↓s199_933, ↓s199_934, ↓s199_935, ↓s199_936, ↓s199_937, ↓t199_938, ↓s199_939, ↓s199_940, ↓s199_941, ↓s199_942, ↓t199_943, ↓s199_944, ↓s199_945, ↓s199_946, ↓s199_947, ↓t199_948, ↓s199_949, ↓s199_950, ↓s199_951, ↓s199_952, ↓t199_953, ↓s199_954, ↓s199_957, ↓s199_958, ↓s199_961, ↓s199_962, kNLn, kNLi, kNLr, va_rf_s, kOl_n, kOl_s, kap_n, kap_c, kb0, kb1, kbif, ki_0, ki_83, e0, e1, hcl, h1, nI_add, hc1, hv1, hc2, hv2, hc3, hv3, hc4, hv4]
  refine br mi1 ml _ (RI_C hR f1) (fun mi2 ml2 r2 f2 => ?_)
  simp only [↓s199_909, ↓s199_910, ↓s199_911, ↓s199_912, ↓s199_913, ↓t199_914, ↓s199_915, ↓s199_916, ↓s199_917, ↓s199_918, ↓t199_919, ↓s199_920, ↓s199_921, ↓s199_922, ↓s199_923, ↓t199_924, ↓s199_925, ↓s199_926, ↓s199_927, ↓s199_928, ↓t199_929, ↓s199_930, ↓s199_933, ↓s199_934, ↓s199_935, ↓s199_936, ↓s199_937, ↓t199_938, ↓s199_939, ↓s199_940, ↓s199_941, ↓s199_942, ↓t199_943, ↓s199_944, ↓s199_945, ↓s199_946, ↓s199_947, ↓t199_948, ↓s199_949, ↓s199_950, ↓s199_951, ↓s199_952, ↓t199_953, ↓s199_954, ↓s199_957, ↓s199_958, ↓s199_961, ↓s199_962, kNLn, kNLi, kNLr, va_rf_s, kOl_n, kOl_s, kap_n, kap_c, kb0, kb1, kbif, lg_eq0, eq_self, if_true]
  exact hQ S' mi2 ml2 g' (CI_R c1 f2) r2 (by rw [f2 2000 (by omega), e0]) (by rw [f2 2001 (by omega), e1])
theorem L_24 (hi : i + 5 ≤ L) (hL : L ≤ 2560) (hg : gOK S) (hC : CI S mi) (hR : RI S mi) (h1 : mi 2001 0 = nI L) (hQ : lQ Q mi i) : kJ 199 963 [some (.ref 2000), some (.ref 0), some (.ref 83), some (.int (nI i))] [] (mi, ml, MR, 95) Q := by
  obtain ⟨S', r, g', bc, br⟩ := B_mean (x := mi 2000 (i + 1)) (z := mi 2000 (i + 2)) (w := mi 2000 (i + 3)) hg
  have hcl : (nI L).toNatClampNeg = L := nI_clamp (by omega)
  have hc1 : (nI (i + 1)).toNatClampNeg = i + 1 := nI_clamp (by omega)
  have hv1 : vp_in (nI (i + 1)) L := vp_in_nI (by omega) (by omega)
  have hc2 : (nI (i + 2)).toNatClampNeg = i + 2 := nI_clamp (by omega)
  have hv2 : vp_in (nI (i + 2)) L := vp_in_nI (by omega) (by omega)
  have hc3 : (nI (i + 3)).toNatClampNeg = i + 3 := nI_clamp (by omega)
  have hv3 : vp_in (nI (i + 3)) L := vp_in_nI (by omega) (by omega)
  simp only [↓s199_963, ↓s199_964, ↓s199_965, ↓s199_966, ↓s199_967, ↓t199_968, ↓s199_969, ↓s199_970, ↓s199_971, ↓s199_972, ↓t199_973, ↓s199_974, ↓s199_975, ↓s199_976, ↓s199_977, ↓t199_978, ↓s199_979, ↓s199_982, ↓s199_983, ↓s199_984, ↓s199_985, ↓s199_986, ↓t199_987, ↓s199_988, ↓s199_989, ↓s199_990, ↓s199_991, ↓t199_992, ↓s199_993, ↓s199_994, ↓s199_995, ↓s199_996, ↓t199_997, ↓s199_998, ↓s199_1001, ↓s199_1002, ↓s199_1005, ↓s199_1006, kNLn, kNLi, kNLr, va_rf_s, kOl_n, kOl_s, kap_n, kap_c, kb0, kb1, kbif, ki_0, ki_83, hcl, h1, nI_add, hc1, hv1, hc2, hv2, hc3, hv3]
  refine bc mi ml _ hC (fun mi1 c1 f1 => ?_)
  have e0 : mi1 2000 = mi 2000 := f1 2000 (by decide)
  have e1 : mi1 2001 = mi 2001 := f1 2001 (by decide)
  simp only [↓s199_963, ↓s199_964, ↓s199_965, ↓s199_966, ↓s199_967, ↓t199_968, ↓s199_969, ↓s199_970, ↓s199_971, ↓s199_972, ↓t199_973, ↓s199_974, ↓s199_975, ↓s199_976, ↓s199_977, ↓t199_978, ↓s199_979, ↓s199_982, ↓s199_983, ↓s199_984, ↓s199_985, ↓s199_986, ↓t199_987, ↓s199_988, ↓s199_989, ↓s199_990, ↓s199_991, ↓t199_992, ↓s199_993, ↓s199_994, ↓s199_995, ↓s199_996, ↓t199_997, ↓s199_998, ↓s199_1001, ↓s199_1002, ↓s199_1005, ↓s199_1006, kNLn, kNLi, kNLr, va_rf_s, kOl_n, kOl_s, kap_n, kap_c, kb0, kb1, kbif, ki_0, ki_83, e0, e1, hcl, h1, nI_add, hc1, hv1, hc2, hv2, hc3, hv3]
  refine br mi1 ml _ (RI_C hR f1) (fun mi2 ml2 r2 f2 => ?_)
  simp only [↓s199_963, ↓s199_964, ↓s199_965, ↓s199_966, ↓s199_967, ↓t199_968, ↓s199_969, ↓s199_970, ↓s199_971, ↓s199_972, ↓t199_973, ↓s199_974, ↓s199_975, ↓s199_976, ↓s199_977, ↓t199_978, ↓s199_979, ↓s199_982, ↓s199_983, ↓s199_984, ↓s199_985, ↓s199_986, ↓t199_987, ↓s199_988, ↓s199_989, ↓s199_990, ↓s199_991, ↓t199_992, ↓s199_993, ↓s199_994, ↓s199_995, ↓s199_996, ↓t199_997, ↓s199_998, ↓s199_1001, ↓s199_1002, ↓s199_1005, ↓s199_1006, kNLn, kNLi, kNLr, va_rf_s, kOl_n, kOl_s, kap_n, kap_c, kb0, kb1, kbif, lg_eq0, eq_self, if_true]
  exact hQ S' mi2 ml2 g' (CI_R c1 f2) r2 (by rw [f2 2000 (by omega), e0]) (by rw [f2 2001 (by omega), e1])
theorem L_25 (hi : i + 5 ≤ L) (hL : L ≤ 2560) (hg : gOK S) (hC : CI S mi) (hR : RI S mi) (h1 : mi 2001 0 = nI L) (hQ : lQ Q mi i) : kJ 199 1007 [some (.ref 2000), some (.ref 0), some (.ref 83), some (.int (nI i))] [] (mi, ml, MR, 95) Q := by
  obtain ⟨S', r, g', bc, br⟩ := B_see (x := mi 2000 (i + 1)) (y := mi 2000 (i + 2)) (z := mi 2000 (i + 3)) hg
  have hcl : (nI L).toNatClampNeg = L := nI_clamp (by omega)
  have hc1 : (nI (i + 1)).toNatClampNeg = i + 1 := nI_clamp (by omega)
  have hv1 : vp_in (nI (i + 1)) L := vp_in_nI (by omega) (by omega)
  have hc2 : (nI (i + 2)).toNatClampNeg = i + 2 := nI_clamp (by omega)
  have hv2 : vp_in (nI (i + 2)) L := vp_in_nI (by omega) (by omega)
  have hc3 : (nI (i + 3)).toNatClampNeg = i + 3 := nI_clamp (by omega)
  have hv3 : vp_in (nI (i + 3)) L := vp_in_nI (by omega) (by omega)
  simp only [↓s199_1007, ↓s199_1008, ↓s199_1009, ↓s199_1010, ↓s199_1011, ↓t199_1012, ↓s199_1013, ↓s199_1014, ↓s199_1015, ↓s199_1016, ↓t199_1017, ↓s199_1018, ↓s199_1019, ↓s199_1020, ↓s199_1021, ↓t199_1022, ↓s199_1023, ↓s199_1026, ↓s199_1027, ↓s199_1028, ↓s199_1029, ↓s199_1030, ↓t199_1031, ↓s199_1032, ↓s199_1033, ↓s199_1034, ↓s199_1035, ↓t199_1036, ↓s199_1037, ↓s199_1038, ↓s199_1039, ↓s199_1040, ↓t199_1041, ↓s199_1042, ↓s199_1045, ↓s199_1048, ↓s199_1049, kNLn, kNLi, kNLr, va_rf_s, kOl_n, kOl_s, kap_n, kap_c, kb0, kb1, kbif, ki_0, ki_83, hcl, h1, nI_add, hc1, hv1, hc2, hv2, hc3, hv3]
  refine bc mi ml _ hC (fun mi1 c1 f1 => ?_)
  have e0 : mi1 2000 = mi 2000 := f1 2000 (by decide)
  have e1 : mi1 2001 = mi 2001 := f1 2001 (by decide)
  simp only [↓s199_1007, ↓s199_1008, ↓s199_1009, ↓s199_1010, ↓s199_1011, ↓t199_1012, ↓s199_1013, ↓s199_1014, ↓s199_1015, ↓s199_1016, ↓t199_1017, ↓s199_1018, ↓s199_1019, ↓s199_1020, ↓s199_1021, ↓t199_1022, ↓s199_1023, ↓s199_1026, ↓s199_1027, ↓s199_1028, ↓s199_1029, ↓s199_1030, ↓t199_1031, ↓s199_1032, ↓s199_1033, ↓s199_1034, ↓s199_1035, ↓t199_1036, ↓s199_1037, ↓s199_1038, ↓s199_1039, ↓s199_1040, ↓t199_1041, ↓s199_1042, ↓s199_1045, ↓s199_1048, ↓s199_1049, kNLn, kNLi, kNLr, va_rf_s, kOl_n, kOl_s, kap_n, kap_c, kb0, kb1, kbif, ki_0, ki_83, e0, e1, hcl, h1, nI_add, hc1, hv1, hc2, hv2, hc3, hv3]
  refine br mi1 ml _ (RI_C hR f1) (fun mi2 ml2 r2 f2 => ?_)
  simp only [↓s199_1007, ↓s199_1008, ↓s199_1009, ↓s199_1010, ↓s199_1011, ↓t199_1012, ↓s199_1013, ↓s199_1014, ↓s199_1015, ↓s199_1016, ↓t199_1017, ↓s199_1018, ↓s199_1019, ↓s199_1020, ↓s199_1021, ↓t199_1022, ↓s199_1023, ↓s199_1026, ↓s199_1027, ↓s199_1028, ↓s199_1029, ↓s199_1030, ↓t199_1031, ↓s199_1032, ↓s199_1033, ↓s199_1034, ↓s199_1035, ↓t199_1036, ↓s199_1037, ↓s199_1038, ↓s199_1039, ↓s199_1040, ↓t199_1041, ↓s199_1042, ↓s199_1045, ↓s199_1048, ↓s199_1049, kNLn, kNLi, kNLr, va_rf_s, kOl_n, kOl_s, kap_n, kap_c, kb0, kb1, kbif, lg_eq0, eq_self, if_true]
  exact hQ S' mi2 ml2 g' (CI_R c1 f2) r2 (by rw [f2 2000 (by omega), e0]) (by rw [f2 2001 (by omega), e1])
theorem L_26 (hi : i + 5 ≤ L) (hL : L ≤ 2560) (hg : gOK S) (hC : CI S mi) (hR : RI S mi) (h1 : mi 2001 0 = nI L) (hQ : lQ Q mi i) : kJ 199 1050 [some (.ref 2000), some (.ref 0), some (.ref 83), some (.int (nI i))] [] (mi, ml, MR, 95) Q := by
  obtain ⟨S', r, g', bc, br⟩ := B_forget (x := mi 2000 (i + 1)) hg
  have hcl : (nI L).toNatClampNeg = L := nI_clamp (by omega)
  have hc1 : (nI (i + 1)).toNatClampNeg = i + 1 := nI_clamp (by omega)
  have hv1 : vp_in (nI (i + 1)) L := vp_in_nI (by omega) (by omega)
  simp only [↓s199_1050, ↓s199_1051, ↓s199_1052, ↓s199_1053, ↓s199_1054, ↓t199_1055, ↓s199_1056, ↓s199_1059, ↓s199_1060, ↓s199_1061, ↓s199_1062, ↓s199_1063, ↓t199_1064, ↓s199_1065, ↓s199_1068, ↓s199_1071, ↓s199_1072, kNLn, kNLi, kNLr, va_rf_s, kOl_n, kOl_s, kap_n, kap_c, kb0, kb1, kbif, ki_0, ki_83, hcl, h1, nI_add, hc1, hv1]
  refine bc mi ml _ hC (fun mi1 c1 f1 => ?_)
  have e0 : mi1 2000 = mi 2000 := f1 2000 (by decide)
  have e1 : mi1 2001 = mi 2001 := f1 2001 (by decide)
  simp only [↓s199_1050, ↓s199_1051, ↓s199_1052, ↓s199_1053, ↓s199_1054, ↓t199_1055, ↓s199_1056, ↓s199_1059, ↓s199_1060, ↓s199_1061, ↓s199_1062, ↓s199_1063, ↓t199_1064, ↓s199_1065, ↓s199_1068, ↓s199_1071, ↓s199_1072, kNLn, kNLi, kNLr, va_rf_s, kOl_n, kOl_s, kap_n, kap_c, kb0, kb1, kbif, ki_0, ki_83, e0, e1, hcl, h1, nI_add, hc1, hv1]
  refine br mi1 ml _ (RI_C hR f1) (fun mi2 ml2 r2 f2 => ?_)
  simp only [↓s199_1050, ↓s199_1051, ↓s199_1052, ↓s199_1053, ↓s199_1054, ↓t199_1055, ↓s199_1056, ↓s199_1059, ↓s199_1060, ↓s199_1061, ↓s199_1062, ↓s199_1063, ↓t199_1064, ↓s199_1065, ↓s199_1068, ↓s199_1071, ↓s199_1072, kNLn, kNLi, kNLr, va_rf_s, kOl_n, kOl_s, kap_n, kap_c, kb0, kb1, kbif, lg_eq0, eq_self, if_true]
  exact hQ S' mi2 ml2 g' (CI_R c1 f2) r2 (by rw [f2 2000 (by omega), e0]) (by rw [f2 2001 (by omega), e1])
theorem L_27 (hi : i + 5 ≤ L) (hL : L ≤ 2560) (hg : gOK S) (hC : CI S mi) (hR : RI S mi) (h1 : mi 2001 0 = nI L) (hQ : lQ Q mi i) : kJ 199 1073 [some (.ref 2000), some (.ref 0), some (.ref 83), some (.int (nI i))] [] (mi, ml, MR, 95) Q := by
  obtain ⟨S', r, g', bc, br⟩ := B_kinds (x := mi 2000 (i + 1)) hg
  have hcl : (nI L).toNatClampNeg = L := nI_clamp (by omega)
  have hc1 : (nI (i + 1)).toNatClampNeg = i + 1 := nI_clamp (by omega)
  have hv1 : vp_in (nI (i + 1)) L := vp_in_nI (by omega) (by omega)
  simp only [↓s199_1073, ↓s199_1074, ↓s199_1075, ↓s199_1076, ↓s199_1077, ↓t199_1078, ↓s199_1079, ↓s199_1082, ↓s199_1083, ↓s199_1084, ↓s199_1085, ↓s199_1086, ↓t199_1087, ↓s199_1088, ↓s199_1091, ↓s199_1094, ↓s199_1095, kNLn, kNLi, kNLr, va_rf_s, kOl_n, kOl_s, kap_n, kap_c, kb0, kb1, kbif, ki_0, ki_83, hcl, h1, nI_add, hc1, hv1]
  refine bc mi ml _ hC (fun mi1 c1 f1 => ?_)
  have e0 : mi1 2000 = mi 2000 := f1 2000 (by decide)
  have e1 : mi1 2001 = mi 2001 := f1 2001 (by decide)
  simp only [↓s199_1073, ↓s199_1074, ↓s199_1075, ↓s199_1076, ↓s199_1077, ↓t199_1078, ↓s199_1079, ↓s199_1082, ↓s199_1083, ↓s199_1084, ↓s199_1085, ↓s199_1086, ↓t199_1087, ↓s199_1088, ↓s199_1091, ↓s199_1094, ↓s199_1095, kNLn, kNLi, kNLr, va_rf_s, kOl_n, kOl_s, kap_n, kap_c, kb0, kb1, kbif, ki_0, ki_83, e0, e1, hcl, h1, nI_add, hc1, hv1]
  refine br mi1 ml _ (RI_C hR f1) (fun mi2 ml2 r2 f2 => ?_)
  simp only [↓s199_1073, ↓s199_1074, ↓s199_1075, ↓s199_1076, ↓s199_1077, ↓t199_1078, ↓s199_1079, ↓s199_1082, ↓s199_1083, ↓s199_1084, ↓s199_1085, ↓s199_1086, ↓t199_1087, ↓s199_1088, ↓s199_1091, ↓s199_1094, ↓s199_1095, kNLn, kNLi, kNLr, va_rf_s, kOl_n, kOl_s, kap_n, kap_c, kb0, kb1, kbif, lg_eq0, eq_self, if_true]
  exact hQ S' mi2 ml2 g' (CI_R c1 f2) r2 (by rw [f2 2000 (by omega), e0]) (by rw [f2 2001 (by omega), e1])
theorem L_28 (hi : i + 5 ≤ L) (hL : L ≤ 2560) (hg : gOK S) (hC : CI S mi) (hR : RI S mi) (h1 : mi 2001 0 = nI L) (hQ : lQ Q mi i) : kJ 199 1096 [some (.ref 2000), some (.ref 0), some (.ref 83), some (.int (nI i))] [] (mi, ml, MR, 95) Q := by
  obtain ⟨S', r, g', bc, br⟩ := B_tones (x := mi 2000 (i + 1)) hg
  have hcl : (nI L).toNatClampNeg = L := nI_clamp (by omega)
  have hc1 : (nI (i + 1)).toNatClampNeg = i + 1 := nI_clamp (by omega)
  have hv1 : vp_in (nI (i + 1)) L := vp_in_nI (by omega) (by omega)
  simp only [↓s199_1096, ↓s199_1097, ↓s199_1098, ↓s199_1099, ↓s199_1100, ↓t199_1101, ↓s199_1102, ↓s199_1105, ↓s199_1106, ↓s199_1107, ↓s199_1108, ↓s199_1109, ↓t199_1110, ↓s199_1111, ↓s199_1114, ↓s199_1117, ↓s199_1118, kNLn, kNLi, kNLr, va_rf_s, kOl_n, kOl_s, kap_n, kap_c, kb0, kb1, kbif, ki_0, ki_83, hcl, h1, nI_add, hc1, hv1]
  refine bc mi ml _ hC (fun mi1 c1 f1 => ?_)
  have e0 : mi1 2000 = mi 2000 := f1 2000 (by decide)
  have e1 : mi1 2001 = mi 2001 := f1 2001 (by decide)
  simp only [↓s199_1096, ↓s199_1097, ↓s199_1098, ↓s199_1099, ↓s199_1100, ↓t199_1101, ↓s199_1102, ↓s199_1105, ↓s199_1106, ↓s199_1107, ↓s199_1108, ↓s199_1109, ↓t199_1110, ↓s199_1111, ↓s199_1114, ↓s199_1117, ↓s199_1118, kNLn, kNLi, kNLr, va_rf_s, kOl_n, kOl_s, kap_n, kap_c, kb0, kb1, kbif, ki_0, ki_83, e0, e1, hcl, h1, nI_add, hc1, hv1]
  refine br mi1 ml _ (RI_C hR f1) (fun mi2 ml2 r2 f2 => ?_)
  simp only [↓s199_1096, ↓s199_1097, ↓s199_1098, ↓s199_1099, ↓s199_1100, ↓t199_1101, ↓s199_1102, ↓s199_1105, ↓s199_1106, ↓s199_1107, ↓s199_1108, ↓s199_1109, ↓t199_1110, ↓s199_1111, ↓s199_1114, ↓s199_1117, ↓s199_1118, kNLn, kNLi, kNLr, va_rf_s, kOl_n, kOl_s, kap_n, kap_c, kb0, kb1, kbif, lg_eq0, eq_self, if_true]
  exact hQ S' mi2 ml2 g' (CI_R c1 f2) r2 (by rw [f2 2000 (by omega), e0]) (by rw [f2 2001 (by omega), e1])
theorem L_29 (hi : i + 5 ≤ L) (hL : L ≤ 2560) (hg : gOK S) (hC : CI S mi) (hR : RI S mi) (h1 : mi 2001 0 = nI L) (hQ : lQ Q mi i) : kJ 199 1119 [some (.ref 2000), some (.ref 0), some (.ref 83), some (.int (nI i))] [] (mi, ml, MR, 95) Q := by
  obtain ⟨S', r, g', bc, br⟩ := B_ask (x := mi 2000 (i + 1)) (y := mi 2000 (i + 2)) hg
  have hcl : (nI L).toNatClampNeg = L := nI_clamp (by omega)
  have hc1 : (nI (i + 1)).toNatClampNeg = i + 1 := nI_clamp (by omega)
  have hv1 : vp_in (nI (i + 1)) L := vp_in_nI (by omega) (by omega)
  have hc2 : (nI (i + 2)).toNatClampNeg = i + 2 := nI_clamp (by omega)
  have hv2 : vp_in (nI (i + 2)) L := vp_in_nI (by omega) (by omega)
  simp only [↓s199_1119, ↓s199_1120, ↓s199_1121, ↓s199_1122, ↓s199_1123, ↓t199_1124, ↓s199_1125, ↓s199_1126, ↓s199_1127, ↓s199_1128, ↓t199_1129, ↓s199_1130, ↓s199_1133, ↓s199_1134, ↓s199_1135, ↓s199_1136, ↓s199_1137, ↓t199_1138, ↓s199_1139, ↓s199_1140, ↓s199_1141, ↓s199_1142, ↓t199_1143, ↓s199_1144, ↓s199_1147, ↓s199_1150, ↓s199_1151, kNLn, kNLi, kNLr, va_rf_s, kOl_n, kOl_s, kap_n, kap_c, kb0, kb1, kbif, ki_0, ki_83, hcl, h1, nI_add, hc1, hv1, hc2, hv2]
  refine bc mi ml _ hC (fun mi1 c1 f1 => ?_)
  have e0 : mi1 2000 = mi 2000 := f1 2000 (by decide)
  have e1 : mi1 2001 = mi 2001 := f1 2001 (by decide)
  simp only [↓s199_1119, ↓s199_1120, ↓s199_1121, ↓s199_1122, ↓s199_1123, ↓t199_1124, ↓s199_1125, ↓s199_1126, ↓s199_1127, ↓s199_1128, ↓t199_1129, ↓s199_1130, ↓s199_1133, ↓s199_1134, ↓s199_1135, ↓s199_1136, ↓s199_1137, ↓t199_1138, ↓s199_1139, ↓s199_1140, ↓s199_1141, ↓s199_1142, ↓t199_1143, ↓s199_1144, ↓s199_1147, ↓s199_1150, ↓s199_1151, kNLn, kNLi, kNLr, va_rf_s, kOl_n, kOl_s, kap_n, kap_c, kb0, kb1, kbif, ki_0, ki_83, e0, e1, hcl, h1, nI_add, hc1, hv1, hc2, hv2]
  refine br mi1 ml _ (RI_C hR f1) (fun mi2 ml2 r2 f2 => ?_)
  simp only [↓s199_1119, ↓s199_1120, ↓s199_1121, ↓s199_1122, ↓s199_1123, ↓t199_1124, ↓s199_1125, ↓s199_1126, ↓s199_1127, ↓s199_1128, ↓t199_1129, ↓s199_1130, ↓s199_1133, ↓s199_1134, ↓s199_1135, ↓s199_1136, ↓s199_1137, ↓t199_1138, ↓s199_1139, ↓s199_1140, ↓s199_1141, ↓s199_1142, ↓t199_1143, ↓s199_1144, ↓s199_1147, ↓s199_1150, ↓s199_1151, kNLn, kNLi, kNLr, va_rf_s, kOl_n, kOl_s, kap_n, kap_c, kb0, kb1, kbif, lg_eq0, eq_self, if_true]
  exact hQ S' mi2 ml2 g' (CI_R c1 f2) r2 (by rw [f2 2000 (by omega), e0]) (by rw [f2 2001 (by omega), e1])
theorem L_30 (hi : i + 5 ≤ L) (hL : L ≤ 2560) (hg : gOK S) (hC : CI S mi) (hR : RI S mi) (h1 : mi 2001 0 = nI L) (hQ : lQ Q mi i) : kJ 199 1152 [some (.ref 2000), some (.ref 0), some (.ref 83), some (.int (nI i))] [] (mi, ml, MR, 95) Q := by
  obtain ⟨S', r, g', bc, br⟩ := B_drift (x := mi 2000 (i + 1)) (y := mi 2000 (i + 2)) (z := mi 2000 (i + 3)) hg
  have hcl : (nI L).toNatClampNeg = L := nI_clamp (by omega)
  have hc1 : (nI (i + 1)).toNatClampNeg = i + 1 := nI_clamp (by omega)
  have hv1 : vp_in (nI (i + 1)) L := vp_in_nI (by omega) (by omega)
  have hc2 : (nI (i + 2)).toNatClampNeg = i + 2 := nI_clamp (by omega)
  have hv2 : vp_in (nI (i + 2)) L := vp_in_nI (by omega) (by omega)
  have hc3 : (nI (i + 3)).toNatClampNeg = i + 3 := nI_clamp (by omega)
  have hv3 : vp_in (nI (i + 3)) L := vp_in_nI (by omega) (by omega)
  simp only [↓s199_1152, ↓s199_1153, ↓s199_1154, ↓s199_1155, ↓s199_1156, ↓t199_1157, ↓s199_1158, ↓s199_1159, ↓s199_1160, ↓s199_1161, ↓t199_1162, ↓s199_1163, ↓s199_1164, ↓s199_1165, ↓s199_1166, ↓t199_1167, ↓s199_1168, ↓s199_1171, ↓s199_1172, ↓s199_1173, ↓s199_1174, ↓s199_1175, ↓t199_1176, ↓s199_1177, ↓s199_1178, ↓s199_1179, ↓s199_1180, ↓t199_1181, ↓s199_1182, ↓s199_1183, ↓s199_1184, ↓s199_1185, ↓t199_1186, ↓s199_1187, ↓s199_1190, ↓s199_1193, ↓s199_1194, kNLn, kNLi, kNLr, va_rf_s, kOl_n, kOl_s, kap_n, kap_c, kb0, kb1, kbif, ki_0, ki_83, hcl, h1, nI_add, hc1, hv1, hc2, hv2, hc3, hv3]
  refine bc mi ml _ hC (fun mi1 c1 f1 => ?_)
  have e0 : mi1 2000 = mi 2000 := f1 2000 (by decide)
  have e1 : mi1 2001 = mi 2001 := f1 2001 (by decide)
  simp only [↓s199_1152, ↓s199_1153, ↓s199_1154, ↓s199_1155, ↓s199_1156, ↓t199_1157, ↓s199_1158, ↓s199_1159, ↓s199_1160, ↓s199_1161, ↓t199_1162, ↓s199_1163, ↓s199_1164, ↓s199_1165, ↓s199_1166, ↓t199_1167, ↓s199_1168, ↓s199_1171, ↓s199_1172, ↓s199_1173, ↓s199_1174, ↓s199_1175, ↓t199_1176, ↓s199_1177, ↓s199_1178, ↓s199_1179, ↓s199_1180, ↓t199_1181, ↓s199_1182, ↓s199_1183, ↓s199_1184, ↓s199_1185, ↓t199_1186, ↓s199_1187, ↓s199_1190, ↓s199_1193, ↓s199_1194, kNLn, kNLi, kNLr, va_rf_s, kOl_n, kOl_s, kap_n, kap_c, kb0, kb1, kbif, ki_0, ki_83, e0, e1, hcl, h1, nI_add, hc1, hv1, hc2, hv2, hc3, hv3]
  refine br mi1 ml _ (RI_C hR f1) (fun mi2 ml2 r2 f2 => ?_)
  simp only [↓s199_1152, ↓s199_1153, ↓s199_1154, ↓s199_1155, ↓s199_1156, ↓t199_1157, ↓s199_1158, ↓s199_1159, ↓s199_1160, ↓s199_1161, ↓t199_1162, ↓s199_1163, ↓s199_1164, ↓s199_1165, ↓s199_1166, ↓t199_1167, ↓s199_1168, ↓s199_1171, ↓s199_1172, ↓s199_1173, ↓s199_1174, ↓s199_1175, ↓t199_1176, ↓s199_1177, ↓s199_1178, ↓s199_1179, ↓s199_1180, ↓t199_1181, ↓s199_1182, ↓s199_1183, ↓s199_1184, ↓s199_1185, ↓t199_1186, ↓s199_1187, ↓s199_1190, ↓s199_1193, ↓s199_1194, kNLn, kNLi, kNLr, va_rf_s, kOl_n, kOl_s, kap_n, kap_c, kb0, kb1, kbif, lg_eq0, eq_self, if_true]
  exact hQ S' mi2 ml2 g' (CI_R c1 f2) r2 (by rw [f2 2000 (by omega), e0]) (by rw [f2 2001 (by omega), e1])
theorem L_31 (hi : i + 5 ≤ L) (hL : L ≤ 2560) (hg : gOK S) (hC : CI S mi) (hR : RI S mi) (h1 : mi 2001 0 = nI L) (hQ : lQ Q mi i) : kJ 199 1195 [some (.ref 2000), some (.ref 0), some (.ref 83), some (.int (nI i))] [] (mi, ml, MR, 95) Q := by
  obtain ⟨S', r, g', bc, br⟩ := B_keep (x := mi 2000 (i + 1)) hg
  have hcl : (nI L).toNatClampNeg = L := nI_clamp (by omega)
  have hc1 : (nI (i + 1)).toNatClampNeg = i + 1 := nI_clamp (by omega)
  have hv1 : vp_in (nI (i + 1)) L := vp_in_nI (by omega) (by omega)
  simp only [↓s199_1195, ↓s199_1196, ↓s199_1197, ↓s199_1198, ↓s199_1199, ↓t199_1200, ↓s199_1201, ↓s199_1204, ↓s199_1205, ↓s199_1206, ↓s199_1207, ↓s199_1208, ↓t199_1209, ↓s199_1210, ↓s199_1213, ↓s199_1216, ↓s199_1217, kNLn, kNLi, kNLr, va_rf_s, kOl_n, kOl_s, kap_n, kap_c, kb0, kb1, kbif, ki_0, ki_83, hcl, h1, nI_add, hc1, hv1]
  refine bc mi ml _ hC (fun mi1 c1 f1 => ?_)
  have e0 : mi1 2000 = mi 2000 := f1 2000 (by decide)
  have e1 : mi1 2001 = mi 2001 := f1 2001 (by decide)
  simp only [↓s199_1195, ↓s199_1196, ↓s199_1197, ↓s199_1198, ↓s199_1199, ↓t199_1200, ↓s199_1201, ↓s199_1204, ↓s199_1205, ↓s199_1206, ↓s199_1207, ↓s199_1208, ↓t199_1209, ↓s199_1210, ↓s199_1213, ↓s199_1216, ↓s199_1217, kNLn, kNLi, kNLr, va_rf_s, kOl_n, kOl_s, kap_n, kap_c, kb0, kb1, kbif, ki_0, ki_83, e0, e1, hcl, h1, nI_add, hc1, hv1]
  refine br mi1 ml _ (RI_C hR f1) (fun mi2 ml2 r2 f2 => ?_)
  simp only [↓s199_1195, ↓s199_1196, ↓s199_1197, ↓s199_1198, ↓s199_1199, ↓t199_1200, ↓s199_1201, ↓s199_1204, ↓s199_1205, ↓s199_1206, ↓s199_1207, ↓s199_1208, ↓t199_1209, ↓s199_1210, ↓s199_1213, ↓s199_1216, ↓s199_1217, kNLn, kNLi, kNLr, va_rf_s, kOl_n, kOl_s, kap_n, kap_c, kb0, kb1, kbif, lg_eq0, eq_self, if_true]
  exact hQ S' mi2 ml2 g' (CI_R c1 f2) r2 (by rw [f2 2000 (by omega), e0]) (by rw [f2 2001 (by omega), e1])
theorem L_32 (hi : i + 5 ≤ L) (hL : L ≤ 2560) (hg : gOK S) (hC : CI S mi) (hR : RI S mi) (h1 : mi 2001 0 = nI L) (hQ : lQ Q mi i) : kJ 199 1218 [some (.ref 2000), some (.ref 0), some (.ref 83), some (.int (nI i))] [] (mi, ml, MR, 95) Q := by
  obtain ⟨S', r, g', bc, br⟩ := B_back (x := mi 2000 (i + 1)) hg
  have hcl : (nI L).toNatClampNeg = L := nI_clamp (by omega)
  have hc1 : (nI (i + 1)).toNatClampNeg = i + 1 := nI_clamp (by omega)
  have hv1 : vp_in (nI (i + 1)) L := vp_in_nI (by omega) (by omega)
  simp only [↓s199_1218, ↓s199_1219, ↓s199_1220, ↓s199_1221, ↓s199_1222, ↓t199_1223, ↓s199_1224, ↓s199_1227, ↓s199_1228, ↓s199_1229, ↓s199_1230, ↓s199_1231, ↓t199_1232, ↓s199_1233, ↓s199_1236, ↓s199_1239, ↓s199_1240, kNLn, kNLi, kNLr, va_rf_s, kOl_n, kOl_s, kap_n, kap_c, kb0, kb1, kbif, ki_0, ki_83, hcl, h1, nI_add, hc1, hv1]
  refine bc mi ml _ hC (fun mi1 c1 f1 => ?_)
  have e0 : mi1 2000 = mi 2000 := f1 2000 (by decide)
  have e1 : mi1 2001 = mi 2001 := f1 2001 (by decide)
  simp only [↓s199_1218, ↓s199_1219, ↓s199_1220, ↓s199_1221, ↓s199_1222, ↓t199_1223, ↓s199_1224, ↓s199_1227, ↓s199_1228, ↓s199_1229, ↓s199_1230, ↓s199_1231, ↓t199_1232, ↓s199_1233, ↓s199_1236, ↓s199_1239, ↓s199_1240, kNLn, kNLi, kNLr, va_rf_s, kOl_n, kOl_s, kap_n, kap_c, kb0, kb1, kbif, ki_0, ki_83, e0, e1, hcl, h1, nI_add, hc1, hv1]
  refine br mi1 ml _ (RI_C hR f1) (fun mi2 ml2 r2 f2 => ?_)
  simp only [↓s199_1218, ↓s199_1219, ↓s199_1220, ↓s199_1221, ↓s199_1222, ↓t199_1223, ↓s199_1224, ↓s199_1227, ↓s199_1228, ↓s199_1229, ↓s199_1230, ↓s199_1231, ↓t199_1232, ↓s199_1233, ↓s199_1236, ↓s199_1239, ↓s199_1240, kNLn, kNLi, kNLr, va_rf_s, kOl_n, kOl_s, kap_n, kap_c, kb0, kb1, kbif, lg_eq0, eq_self, if_true]
  exact hQ S' mi2 ml2 g' (CI_R c1 f2) r2 (by rw [f2 2000 (by omega), e0]) (by rw [f2 2001 (by omega), e1])
theorem L_33 (hi : i + 5 ≤ L) (hL : L ≤ 2560) (hg : gOK S) (hC : CI S mi) (hR : RI S mi) (h1 : mi 2001 0 = nI L) (hQ : lQ Q mi i) : kJ 199 1241 [some (.ref 2000), some (.ref 0), some (.ref 83), some (.int (nI i))] [] (mi, ml, MR, 95) Q := by
  obtain ⟨S', r, g', bc, br⟩ := B_sheet (x := mi 2000 (i + 1)) (y := mi 2000 (i + 2)) (z := mi 2000 (i + 3)) hg
  have hcl : (nI L).toNatClampNeg = L := nI_clamp (by omega)
  have hc1 : (nI (i + 1)).toNatClampNeg = i + 1 := nI_clamp (by omega)
  have hv1 : vp_in (nI (i + 1)) L := vp_in_nI (by omega) (by omega)
  have hc2 : (nI (i + 2)).toNatClampNeg = i + 2 := nI_clamp (by omega)
  have hv2 : vp_in (nI (i + 2)) L := vp_in_nI (by omega) (by omega)
  have hc3 : (nI (i + 3)).toNatClampNeg = i + 3 := nI_clamp (by omega)
  have hv3 : vp_in (nI (i + 3)) L := vp_in_nI (by omega) (by omega)
  simp only [↓s199_1241, ↓s199_1242, ↓s199_1243, ↓s199_1244, ↓s199_1245, ↓t199_1246, ↓s199_1247, ↓s199_1248, ↓s199_1249, ↓s199_1250, ↓t199_1251, ↓s199_1252, ↓s199_1253, ↓s199_1254, ↓s199_1255, ↓t199_1256, ↓s199_1257, ↓s199_1260, ↓s199_1261, ↓s199_1262, ↓s199_1263, ↓s199_1264, ↓t199_1265, ↓s199_1266, ↓s199_1267, ↓s199_1268, ↓s199_1269, ↓t199_1270, ↓s199_1271, ↓s199_1272, ↓s199_1273, ↓s199_1274, ↓t199_1275, ↓s199_1276, ↓s199_1279, ↓s199_1282, ↓s199_1283, kNLn, kNLi, kNLr, va_rf_s, kOl_n, kOl_s, kap_n, kap_c, kb0, kb1, kbif, ki_0, ki_83, hcl, h1, nI_add, hc1, hv1, hc2, hv2, hc3, hv3]
  refine bc mi ml _ hC (fun mi1 c1 f1 => ?_)
  have e0 : mi1 2000 = mi 2000 := f1 2000 (by decide)
  have e1 : mi1 2001 = mi 2001 := f1 2001 (by decide)
  simp only [↓s199_1241, ↓s199_1242, ↓s199_1243, ↓s199_1244, ↓s199_1245, ↓t199_1246, ↓s199_1247, ↓s199_1248, ↓s199_1249, ↓s199_1250, ↓t199_1251, ↓s199_1252, ↓s199_1253, ↓s199_1254, ↓s199_1255, ↓t199_1256, ↓s199_1257, ↓s199_1260, ↓s199_1261, ↓s199_1262, ↓s199_1263, ↓s199_1264, ↓t199_1265, ↓s199_1266, ↓s199_1267, ↓s199_1268, ↓s199_1269, ↓t199_1270, ↓s199_1271, ↓s199_1272, ↓s199_1273, ↓s199_1274, ↓t199_1275, ↓s199_1276, ↓s199_1279, ↓s199_1282, ↓s199_1283, kNLn, kNLi, kNLr, va_rf_s, kOl_n, kOl_s, kap_n, kap_c, kb0, kb1, kbif, ki_0, ki_83, e0, e1, hcl, h1, nI_add, hc1, hv1, hc2, hv2, hc3, hv3]
  refine br mi1 ml _ (RI_C hR f1) (fun mi2 ml2 r2 f2 => ?_)
  simp only [↓s199_1241, ↓s199_1242, ↓s199_1243, ↓s199_1244, ↓s199_1245, ↓t199_1246, ↓s199_1247, ↓s199_1248, ↓s199_1249, ↓s199_1250, ↓t199_1251, ↓s199_1252, ↓s199_1253, ↓s199_1254, ↓s199_1255, ↓t199_1256, ↓s199_1257, ↓s199_1260, ↓s199_1261, ↓s199_1262, ↓s199_1263, ↓s199_1264, ↓t199_1265, ↓s199_1266, ↓s199_1267, ↓s199_1268, ↓s199_1269, ↓t199_1270, ↓s199_1271, ↓s199_1272, ↓s199_1273, ↓s199_1274, ↓t199_1275, ↓s199_1276, ↓s199_1279, ↓s199_1282, ↓s199_1283, kNLn, kNLi, kNLr, va_rf_s, kOl_n, kOl_s, kap_n, kap_c, kb0, kb1, kbif, lg_eq0, eq_self, if_true]
  exact hQ S' mi2 ml2 g' (CI_R c1 f2) r2 (by rw [f2 2000 (by omega), e0]) (by rw [f2 2001 (by omega), e1])
theorem L_34 (hi : i + 5 ≤ L) (hL : L ≤ 2560) (hg : gOK S) (hC : CI S mi) (hR : RI S mi) (h1 : mi 2001 0 = nI L) (hQ : lQ Q mi i) : kJ 199 1284 [some (.ref 2000), some (.ref 0), some (.ref 83), some (.int (nI i))] [] (mi, ml, MR, 95) Q := by
  obtain ⟨S', r, g', bc, br⟩ := B_lay (x := mi 2000 (i + 1)) (y := mi 2000 (i + 2)) (z := mi 2000 (i + 3)) hg
  have hcl : (nI L).toNatClampNeg = L := nI_clamp (by omega)
  have hc1 : (nI (i + 1)).toNatClampNeg = i + 1 := nI_clamp (by omega)
  have hv1 : vp_in (nI (i + 1)) L := vp_in_nI (by omega) (by omega)
  have hc2 : (nI (i + 2)).toNatClampNeg = i + 2 := nI_clamp (by omega)
  have hv2 : vp_in (nI (i + 2)) L := vp_in_nI (by omega) (by omega)
  have hc3 : (nI (i + 3)).toNatClampNeg = i + 3 := nI_clamp (by omega)
  have hv3 : vp_in (nI (i + 3)) L := vp_in_nI (by omega) (by omega)
  simp only [↓s199_1284, ↓s199_1285, ↓s199_1286, ↓s199_1287, ↓s199_1288, ↓t199_1289, ↓s199_1290, ↓s199_1291, ↓s199_1292, ↓s199_1293, ↓t199_1294, ↓s199_1295, ↓s199_1296, ↓s199_1297, ↓s199_1298, ↓t199_1299, ↓s199_1300, ↓s199_1303, ↓s199_1304, ↓s199_1305, ↓s199_1306, ↓s199_1307, ↓t199_1308, ↓s199_1309, ↓s199_1310, ↓s199_1311, ↓s199_1312, ↓t199_1313, ↓s199_1314, ↓s199_1315, ↓s199_1316, ↓s199_1317, ↓t199_1318, ↓s199_1319, ↓s199_1322, ↓s199_1325, ↓s199_1326, kNLn, kNLi, kNLr, va_rf_s, kOl_n, kOl_s, kap_n, kap_c, kb0, kb1, kbif, ki_0, ki_83, hcl, h1, nI_add, hc1, hv1, hc2, hv2, hc3, hv3]
  refine bc mi ml _ hC (fun mi1 c1 f1 => ?_)
  have e0 : mi1 2000 = mi 2000 := f1 2000 (by decide)
  have e1 : mi1 2001 = mi 2001 := f1 2001 (by decide)
  simp only [↓s199_1284, ↓s199_1285, ↓s199_1286, ↓s199_1287, ↓s199_1288, ↓t199_1289, ↓s199_1290, ↓s199_1291, ↓s199_1292, ↓s199_1293, ↓t199_1294, ↓s199_1295, ↓s199_1296, ↓s199_1297, ↓s199_1298, ↓t199_1299, ↓s199_1300, ↓s199_1303, ↓s199_1304, ↓s199_1305, ↓s199_1306, ↓s199_1307, ↓t199_1308, ↓s199_1309, ↓s199_1310, ↓s199_1311, ↓s199_1312, ↓t199_1313, ↓s199_1314, ↓s199_1315, ↓s199_1316, ↓s199_1317, ↓t199_1318, ↓s199_1319, ↓s199_1322, ↓s199_1325, ↓s199_1326, kNLn, kNLi, kNLr, va_rf_s, kOl_n, kOl_s, kap_n, kap_c, kb0, kb1, kbif, ki_0, ki_83, e0, e1, hcl, h1, nI_add, hc1, hv1, hc2, hv2, hc3, hv3]
  refine br mi1 ml _ (RI_C hR f1) (fun mi2 ml2 r2 f2 => ?_)
  simp only [↓s199_1284, ↓s199_1285, ↓s199_1286, ↓s199_1287, ↓s199_1288, ↓t199_1289, ↓s199_1290, ↓s199_1291, ↓s199_1292, ↓s199_1293, ↓t199_1294, ↓s199_1295, ↓s199_1296, ↓s199_1297, ↓s199_1298, ↓t199_1299, ↓s199_1300, ↓s199_1303, ↓s199_1304, ↓s199_1305, ↓s199_1306, ↓s199_1307, ↓t199_1308, ↓s199_1309, ↓s199_1310, ↓s199_1311, ↓s199_1312, ↓t199_1313, ↓s199_1314, ↓s199_1315, ↓s199_1316, ↓s199_1317, ↓t199_1318, ↓s199_1319, ↓s199_1322, ↓s199_1325, ↓s199_1326, kNLn, kNLi, kNLr, va_rf_s, kOl_n, kOl_s, kap_n, kap_c, kb0, kb1, kbif, lg_eq0, eq_self, if_true]
  exact hQ S' mi2 ml2 g' (CI_R c1 f2) r2 (by rw [f2 2000 (by omega), e0]) (by rw [f2 2001 (by omega), e1])
theorem L_35 (hi : i + 5 ≤ L) (hL : L ≤ 2560) (hg : gOK S) (hC : CI S mi) (hR : RI S mi) (h1 : mi 2001 0 = nI L) (hQ : lQ Q mi i) : kJ 199 1327 [some (.ref 2000), some (.ref 0), some (.ref 83), some (.int (nI i))] [] (mi, ml, MR, 95) Q := by
  obtain ⟨S', r, g', bc, br⟩ := B_read (x := mi 2000 (i + 1)) (y := mi 2000 (i + 2)) (f := mi 2000 (i + 3)) (z := mi 2000 (i + 4)) hg
  have hcl : (nI L).toNatClampNeg = L := nI_clamp (by omega)
  have hc1 : (nI (i + 1)).toNatClampNeg = i + 1 := nI_clamp (by omega)
  have hv1 : vp_in (nI (i + 1)) L := vp_in_nI (by omega) (by omega)
  have hc2 : (nI (i + 2)).toNatClampNeg = i + 2 := nI_clamp (by omega)
  have hv2 : vp_in (nI (i + 2)) L := vp_in_nI (by omega) (by omega)
  have hc3 : (nI (i + 3)).toNatClampNeg = i + 3 := nI_clamp (by omega)
  have hv3 : vp_in (nI (i + 3)) L := vp_in_nI (by omega) (by omega)
  have hc4 : (nI (i + 4)).toNatClampNeg = i + 4 := nI_clamp (by omega)
  have hv4 : vp_in (nI (i + 4)) L := vp_in_nI (by omega) (by omega)
  simp only [↓s199_1327, ↓s199_1328, ↓s199_1329, ↓s199_1330, ↓s199_1331, ↓t199_1332, ↓s199_1333, ↓s199_1334, ↓s199_1335, ↓s199_1336, ↓t199_1337, ↓s199_1338, ↓s199_1339, ↓s199_1340, ↓s199_1341, ↓t199_1342, ↓s199_1343, ↓s199_1344, ↓s199_1345, ↓s199_1346, ↓t199_1347, ↓s199_1348, ↓s199_1351, ↓s199_1352, ↓s199_1353, ↓s199_1354, ↓s199_1355, ↓t199_1356, ↓s199_1357, ↓s199_1358, ↓s199_1359, ↓s199_1360, ↓t199_1361, ↓s199_1362, ↓s199_1363, ↓s199_1364, ↓s199_1365, ↓t199_1366, ↓s199_1367, ↓s199_1368, ↓s199_1369, ↓s199_1370, ↓t199_1371, ↓s199_1372, ↓s199_1375, ↓s199_1378, ↓s199_1379, kNLn, kNLi, kNLr, va_rf_s, kOl_n, kOl_s, kap_n, kap_c, kb0, kb1, kbif, ki_0, ki_83, hcl, h1, nI_add, hc1, hv1, hc2, hv2, hc3, hv3, hc4, hv4]
  refine bc mi ml _ hC (fun mi1 c1 f1 => ?_)
  have e0 : mi1 2000 = mi 2000 := f1 2000 (by decide)
  have e1 : mi1 2001 = mi 2001 := f1 2001 (by decide)
  simp only [↓s199_1327, ↓s199_1328, ↓s199_1329, ↓s199_1330, ↓s199_1331, ↓t199_1332, ↓s199_1333, ↓s199_1334, ↓s199_1335, ↓s199_1336, ↓t199_1337, ↓s199_1338, ↓s199_1339, ↓s199_1340, ↓s199_1341, ↓t199_1342, ↓s199_1343, ↓s199_1344, ↓s199_1345, ↓s199_1346, ↓t199_1347, ↓s199_1348, ↓s199_1351, ↓s199_1352, ↓s199_1353, ↓s199_1354, ↓s199_1355, ↓t199_1356, ↓s199_1357, ↓s199_1358, ↓s199_1359, ↓s199_1360, ↓t199_1361, ↓s199_1362, ↓s199_1363, ↓s199_1364, ↓s199_1365, ↓t199_1366, ↓s199_1367, ↓s199_1368, ↓s199_1369, ↓s199_1370, ↓t199_1371, ↓s199_1372, ↓s199_1375, ↓s199_1378, ↓s199_1379, kNLn, kNLi, kNLr, va_rf_s, kOl_n, kOl_s, kap_n, kap_c, kb0, kb1, kbif, ki_0, ki_83, e0, e1, hcl, h1, nI_add, hc1, hv1, hc2, hv2, hc3, hv3, hc4, hv4]
  refine br mi1 ml _ (RI_C hR f1) (fun mi2 ml2 r2 f2 => ?_)
  simp only [↓s199_1327, ↓s199_1328, ↓s199_1329, ↓s199_1330, ↓s199_1331, ↓t199_1332, ↓s199_1333, ↓s199_1334, ↓s199_1335, ↓s199_1336, ↓t199_1337, ↓s199_1338, ↓s199_1339, ↓s199_1340, ↓s199_1341, ↓t199_1342, ↓s199_1343, ↓s199_1344, ↓s199_1345, ↓s199_1346, ↓t199_1347, ↓s199_1348, ↓s199_1351, ↓s199_1352, ↓s199_1353, ↓s199_1354, ↓s199_1355, ↓t199_1356, ↓s199_1357, ↓s199_1358, ↓s199_1359, ↓s199_1360, ↓t199_1361, ↓s199_1362, ↓s199_1363, ↓s199_1364, ↓s199_1365, ↓t199_1366, ↓s199_1367, ↓s199_1368, ↓s199_1369, ↓s199_1370, ↓t199_1371, ↓s199_1372, ↓s199_1375, ↓s199_1378, ↓s199_1379, kNLn, kNLi, kNLr, va_rf_s, kOl_n, kOl_s, kap_n, kap_c, kb0, kb1, kbif, lg_eq0, eq_self, if_true]
  exact hQ S' mi2 ml2 g' (CI_R c1 f2) r2 (by rw [f2 2000 (by omega), e0]) (by rw [f2 2001 (by omega), e1])
theorem L_36 (hi : i + 5 ≤ L) (hL : L ≤ 2560) (hg : gOK S) (hC : CI S mi) (hR : RI S mi) (h1 : mi 2001 0 = nI L) (hQ : lQ Q mi i) : kJ 199 1380 [some (.ref 2000), some (.ref 0), some (.ref 83), some (.int (nI i))] [] (mi, ml, MR, 95) Q := by
  obtain ⟨S', r, g', bc, br⟩ := B_torn hg
  have hcl : (nI L).toNatClampNeg = L := nI_clamp (by omega)
  simp only [↓s199_1380, ↓s199_1381, ↓s199_1384, ↓s199_1385, ↓s199_1388, ↓s199_1391, ↓s199_1392, kNLn, kNLi, kNLr, va_rf_s, kOl_n, kOl_s, kap_n, kap_c, kb0, kb1, kbif, ki_0, ki_83, hcl, h1, nI_add]
  refine bc mi ml _ hC (fun mi1 c1 f1 => ?_)
  have e0 : mi1 2000 = mi 2000 := f1 2000 (by decide)
  have e1 : mi1 2001 = mi 2001 := f1 2001 (by decide)
  simp only [↓s199_1380, ↓s199_1381, ↓s199_1384, ↓s199_1385, ↓s199_1388, ↓s199_1391, ↓s199_1392, kNLn, kNLi, kNLr, va_rf_s, kOl_n, kOl_s, kap_n, kap_c, kb0, kb1, kbif, ki_0, ki_83, e0, e1, hcl, h1, nI_add]
  refine br mi1 ml _ (RI_C hR f1) (fun mi2 ml2 r2 f2 => ?_)
  simp only [↓s199_1380, ↓s199_1381, ↓s199_1384, ↓s199_1385, ↓s199_1388, ↓s199_1391, ↓s199_1392, kNLn, kNLi, kNLr, va_rf_s, kOl_n, kOl_s, kap_n, kap_c, kb0, kb1, kbif, lg_eq0, eq_self, if_true]
  exact hQ S' mi2 ml2 g' (CI_R c1 f2) r2 (by rw [f2 2000 (by omega), e0]) (by rw [f2 2001 (by omega), e1])
theorem L_37 (hi : i + 5 ≤ L) (hL : L ≤ 2560) (hg : gOK S) (hC : CI S mi) (hR : RI S mi) (h1 : mi 2001 0 = nI L) (hQ : lQ Q mi i) : kJ 199 1393 [some (.ref 2000), some (.ref 0), some (.ref 83), some (.int (nI i))] [] (mi, ml, MR, 95) Q := by
  obtain ⟨S', r, g', bc, br⟩ := B_count (x := mi 2000 (i + 1)) hg
  have hcl : (nI L).toNatClampNeg = L := nI_clamp (by omega)
  have hc1 : (nI (i + 1)).toNatClampNeg = i + 1 := nI_clamp (by omega)
  have hv1 : vp_in (nI (i + 1)) L := vp_in_nI (by omega) (by omega)
  simp only [↓s199_1393, ↓s199_1394, ↓s199_1395, ↓s199_1396, ↓s199_1397, ↓t199_1398, ↓s199_1399, ↓s199_1402, ↓s199_1403, ↓s199_1404, ↓s199_1405, ↓s199_1406, ↓t199_1407, ↓s199_1408, ↓s199_1411, ↓s199_1414, ↓s199_1415, kNLn, kNLi, kNLr, va_rf_s, kOl_n, kOl_s, kap_n, kap_c, kb0, kb1, kbif, ki_0, ki_83, hcl, h1, nI_add, hc1, hv1]
  refine bc mi ml _ hC (fun mi1 c1 f1 => ?_)
  have e0 : mi1 2000 = mi 2000 := f1 2000 (by decide)
  have e1 : mi1 2001 = mi 2001 := f1 2001 (by decide)
  simp only [↓s199_1393, ↓s199_1394, ↓s199_1395, ↓s199_1396, ↓s199_1397, ↓t199_1398, ↓s199_1399, ↓s199_1402, ↓s199_1403, ↓s199_1404, ↓s199_1405, ↓s199_1406, ↓t199_1407, ↓s199_1408, ↓s199_1411, ↓s199_1414, ↓s199_1415, kNLn, kNLi, kNLr, va_rf_s, kOl_n, kOl_s, kap_n, kap_c, kb0, kb1, kbif, ki_0, ki_83, e0, e1, hcl, h1, nI_add, hc1, hv1]
  refine br mi1 ml _ (RI_C hR f1) (fun mi2 ml2 r2 f2 => ?_)
  simp only [↓s199_1393, ↓s199_1394, ↓s199_1395, ↓s199_1396, ↓s199_1397, ↓t199_1398, ↓s199_1399, ↓s199_1402, ↓s199_1403, ↓s199_1404, ↓s199_1405, ↓s199_1406, ↓t199_1407, ↓s199_1408, ↓s199_1411, ↓s199_1414, ↓s199_1415, kNLn, kNLi, kNLr, va_rf_s, kOl_n, kOl_s, kap_n, kap_c, kb0, kb1, kbif, lg_eq0, eq_self, if_true]
  exact hQ S' mi2 ml2 g' (CI_R c1 f2) r2 (by rw [f2 2000 (by omega), e0]) (by rw [f2 2001 (by omega), e1])
theorem L_loop (hL : L ≤ 2560) (hF : ∀ mi ml, Q (some (.int (nI 1))) (mi, ml, MR, 95)) : ∀ (k i : Nat) (S : gS) (mi : Nat → Nat → Int32) (ml : Nat → Nat → Int64), L + 5 ≤ i + k → i < 4000 → gOK S → CI S mi → RI S mi → mi 2001 0 = nI L → kJ 199 18 [some (.ref 2000), some (.ref 0), some (.ref 83), some (.int (nI i))] [] (mi, ml, MR, 95) Q := by
  intro k
  induction k with
  | zero =>
    intro i S mi ml hk hi hg hC hR h1
    have hlt : nI L - nI 5 < nI i := by
      rw [Int32.lt_iff_toInt_lt, pk_sub_toInt (by omega) (by decide), nI_toInt (by omega)]
      omega
    rw [s199_18]
    simp only [↓s199_19, ↓t199_20, ↓s199_21, ↓s199_22, ↓s199_23, ↓s199_26, ↓s199_27, ↓t199_28, ↓s199_29, ↓s199_31, ↓s199_1422, ↓s199_1423, kNLn, kNLi, kNLr, va_rf_s, kOl_n, kOl_s, kap_n, kap_c, kb0, kb1, kbif, h1, hlt, if_true]
    exact hF mi ml
  | succ k ih =>
    intro i S mi ml hk hi hg hC hR h1
    rw [s199_18]
    by_cases c : i + 5 ≤ L
    · have hlt : ¬ nI L - nI 5 < nI i := by
        rw [Int32.lt_iff_toInt_lt, pk_sub_toInt (by omega) (by decide), nI_toInt (by omega)]
        omega
      have hcl : (nI L).toNatClampNeg = L := nI_clamp (by omega)
      have hc0 : (nI i).toNatClampNeg = i := nI_clamp (by omega)
      have hv0 : vp_in (nI i) L := vp_in_nI (by omega) (by omega)
      have nx : lQ Q mi i := fun S' mi' ml' g' c' r' e0 e1 => by
        simp only [↓s199_1416, ↓s199_1419, kNLn, kNLi, kNLr, va_rf_s, kOl_n, kOl_s, kap_n, kap_c, kb0, kb1, kbif, nI_add]
        exact ih (i + 5) S' mi' ml' (by omega) (by omega) g' c' r' (by rw [e1]; exact h1)
      simp only [↓s199_19, ↓t199_20, ↓s199_21, ↓s199_22, ↓s199_23, ↓s199_26, ↓s199_27, ↓t199_28, ↓s199_29, ↓s199_31, kNLn, kNLi, kNLr, va_rf_s, kOl_n, kOl_s, kap_n, kap_c, kb0, kb1, kbif, h1, hlt, if_false, hcl, hc0, hv0]
      rw [s199_32]
      generalize mi 2000 i &&& nI 63 = a
      by_cases c0 : a = nI 0
      · rw [if_pos c0]; exact L_0 c hL hg hC hR h1 nx
      rw [if_neg c0]
      by_cases c1 : a = nI 1
      · rw [if_pos c1]; exact L_1 c hL hg hC hR h1 nx
      rw [if_neg c1]
      by_cases c2 : a = nI 2
      · rw [if_pos c2]; exact L_2 c hL hg hC hR h1 nx
      rw [if_neg c2]
      by_cases c3 : a = nI 3
      · rw [if_pos c3]; exact L_3 c hL hg hC hR h1 nx
      rw [if_neg c3]
      by_cases c4 : a = nI 4
      · rw [if_pos c4]; exact L_4 c hL hg hC hR h1 nx
      rw [if_neg c4]
      by_cases c5 : a = nI 5
      · rw [if_pos c5]; exact L_5 c hL hg hC hR h1 nx
      rw [if_neg c5]
      by_cases c6 : a = nI 6
      · rw [if_pos c6]; exact L_6 c hL hg hC hR h1 nx
      rw [if_neg c6]
      by_cases c7 : a = nI 7
      · rw [if_pos c7]; exact L_7 c hL hg hC hR h1 nx
      rw [if_neg c7]
      by_cases c8 : a = nI 8
      · rw [if_pos c8]; exact L_8 c hL hg hC hR h1 nx
      rw [if_neg c8]
      by_cases c9 : a = nI 9
      · rw [if_pos c9]; exact L_9 c hL hg hC hR h1 nx
      rw [if_neg c9]
      by_cases c10 : a = nI 10
      · rw [if_pos c10]; exact L_10 c hL hg hC hR h1 nx
      rw [if_neg c10]
      by_cases c11 : a = nI 11
      · rw [if_pos c11]; exact L_11 c hL hg hC hR h1 nx
      rw [if_neg c11]
      by_cases c12 : a = nI 12
      · rw [if_pos c12]; exact L_12 c hL hg hC hR h1 nx
      rw [if_neg c12]
      by_cases c13 : a = nI 13
      · rw [if_pos c13]; exact L_13 c hL hg hC hR h1 nx
      rw [if_neg c13]
      by_cases c14 : a = nI 14
      · rw [if_pos c14]; exact L_14 c hL hg hC hR h1 nx
      rw [if_neg c14]
      by_cases c15 : a = nI 15
      · rw [if_pos c15]; exact L_15 c hL hg hC hR h1 nx
      rw [if_neg c15]
      by_cases c16 : a = nI 16
      · rw [if_pos c16]; exact L_16 c hL hg hC hR h1 nx
      rw [if_neg c16]
      by_cases c17 : a = nI 17
      · rw [if_pos c17]; exact L_17 c hL hg hC hR h1 nx
      rw [if_neg c17]
      by_cases c18 : a = nI 18
      · rw [if_pos c18]; exact L_18 c hL hg hC hR h1 nx
      rw [if_neg c18]
      by_cases c19 : a = nI 19
      · rw [if_pos c19]; exact L_19 c hL hg hC hR h1 nx
      rw [if_neg c19]
      by_cases c20 : a = nI 20
      · rw [if_pos c20]; exact L_20 c hL hg hC hR h1 nx
      rw [if_neg c20]
      by_cases c21 : a = nI 21
      · rw [if_pos c21]; exact L_21 c hL hg hC hR h1 nx
      rw [if_neg c21]
      by_cases c22 : a = nI 22
      · rw [if_pos c22]; exact L_22 c hL hg hC hR h1 nx
      rw [if_neg c22]
      by_cases c23 : a = nI 23
      · rw [if_pos c23]; exact L_23 c hL hg hC hR h1 nx
      rw [if_neg c23]
      by_cases c24 : a = nI 24
      · rw [if_pos c24]; exact L_24 c hL hg hC hR h1 nx
      rw [if_neg c24]
      by_cases c25 : a = nI 25
      · rw [if_pos c25]; exact L_25 c hL hg hC hR h1 nx
      rw [if_neg c25]
      by_cases c26 : a = nI 26
      · rw [if_pos c26]; exact L_26 c hL hg hC hR h1 nx
      rw [if_neg c26]
      by_cases c27 : a = nI 27
      · rw [if_pos c27]; exact L_27 c hL hg hC hR h1 nx
      rw [if_neg c27]
      by_cases c28 : a = nI 28
      · rw [if_pos c28]; exact L_28 c hL hg hC hR h1 nx
      rw [if_neg c28]
      by_cases c29 : a = nI 29
      · rw [if_pos c29]; exact L_29 c hL hg hC hR h1 nx
      rw [if_neg c29]
      by_cases c30 : a = nI 30
      · rw [if_pos c30]; exact L_30 c hL hg hC hR h1 nx
      rw [if_neg c30]
      by_cases c31 : a = nI 31
      · rw [if_pos c31]; exact L_31 c hL hg hC hR h1 nx
      rw [if_neg c31]
      by_cases c32 : a = nI 32
      · rw [if_pos c32]; exact L_32 c hL hg hC hR h1 nx
      rw [if_neg c32]
      by_cases c33 : a = nI 33
      · rw [if_pos c33]; exact L_33 c hL hg hC hR h1 nx
      rw [if_neg c33]
      by_cases c34 : a = nI 34
      · rw [if_pos c34]; exact L_34 c hL hg hC hR h1 nx
      rw [if_neg c34]
      by_cases c35 : a = nI 35
      · rw [if_pos c35]; exact L_35 c hL hg hC hR h1 nx
      rw [if_neg c35]
      by_cases c36 : a = nI 36
      · rw [if_pos c36]; exact L_36 c hL hg hC hR h1 nx
      rw [if_neg c36]
      by_cases c37 : a = nI 37
      · rw [if_pos c37]; exact L_37 c hL hg hC hR h1 nx
      rw [if_neg c37]
      exact nx S mi ml hg hC hR rfl rfl
    · have hlt : nI L - nI 5 < nI i := by
        rw [Int32.lt_iff_toInt_lt, pk_sub_toInt (by omega) (by decide), nI_toInt (by omega)]
        omega
      simp only [↓s199_19, ↓t199_20, ↓s199_21, ↓s199_22, ↓s199_23, ↓s199_26, ↓s199_27, ↓t199_28, ↓s199_29, ↓s199_31, ↓s199_1422, ↓s199_1423, kNLn, kNLi, kNLr, va_rf_s, kOl_n, kOl_s, kap_n, kap_c, kb0, kb1, kbif, h1, hlt, if_true]
      exact hF mi ml
end LAW
/-- the memory with which the law begins -/
def kM0 (L : Nat) (xs : Nat → Int32) : kMem := (fun q k => if q = 2000 then xs k else if q = 2001 then nI L else 0, fun _ _ => 0, fun _ _ => none, 0)
theorem k_law (L : Nat) (xs : Nat → Int32) (hL : L ≤ 2560) : kJ 199 0 (kEnt 199 [.ref 2000]) [] (kM0 L xs) (fun v m => v = some (.int 1) ∧ m.2.2.2 ≤ 95) := by
  show kJ 199 0 [some (.ref 2000), none, none, none] [] (kM0 L xs) _
  unfold kM0
  have a0 : kIs 1 0 4 = true := by decide
  have a83 : kIs 84 83 5 = true := by decide
  simp only [↓s199_0, ↓s199_3, ↓s199_4, ↓s199_7, ↓s199_8, ↓s199_11, ↓s199_12, ↓s199_15, ↓s199_16, ↓s199_17, kNLn, kNLi, kNLr, va_rf_s, kOl_n, kOl_s, kap_n, kap_c, kb0, kb1, kbif, ka_0, a0, Nat.reduceAdd, Nat.reduceLT, eq_self]
  refine I_class (by rw [kRow_eq]) (fun m1 l1 f1 c1 => ?_)
  simp only [↓s199_0, ↓s199_3, ↓s199_4, ↓s199_7, ↓s199_8, ↓s199_11, ↓s199_12, ↓s199_15, ↓s199_16, ↓s199_17, kNLn, kNLi, kNLr, va_rf_s, kOl_n, kOl_s, kap_n, kap_c, kb0, kb1, kbif, ka_83, a83, Nat.reduceAdd, Nat.reduceLT, eq_self]
  refine I_model (by rw [kRow_eq]) (fun m2 l2 f2 r2 => ?_)
  simp only [↓s199_0, ↓s199_3, ↓s199_4, ↓s199_7, ↓s199_8, ↓s199_11, ↓s199_12, ↓s199_15, ↓s199_16, ↓s199_17, kNLn, kNLi, kNLr, va_rf_s, kOl_n, kOl_s, kap_n, kap_c, kb0, kb1, kbif]
  have cc : CI gS0 m2 := CI_R c1 (fun q hq => by rw [f2 q hq, kRow_ne (by omega)])
  have h2001 : m2 2001 0 = nI L := by
    rw [f2 2001 (by omega), kRow_ne (by decide), f1 2001 (by decide), kRow_ne (by decide)]
    rfl
  exact L_loop hL (fun mi ml => ⟨rfl, Nat.le_refl _⟩) (L + 5) 0 gS0 m2 l2 (by omega) (by omega) gS0_ok cc r2 h2001
