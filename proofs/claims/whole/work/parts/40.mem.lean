/-! THE MEMORY BEHIND THE CONSTRUCTORS: references, and where each cell lies -/
def kRop (f : Nat → Nat → Option Nat) (e : Nat × Option (Nat × Nat)) : Nat → Nat → Option Nat := match e.2 with
  | none => kRow f e.1 (fun _ => none)
  | some (k, v) => kupR f e.1 k (some v)
def kRops : List (Nat × Option (Nat × Nat)) := [(0, none), (1, none), (2, none), (1, some (1, 2)), (3, none), (1, some (2, 3)), (4, none), (1, some (3, 4)), (5, none), (1, some (5, 5)), (6, none), (1, some (6, 6)), (7, none), (1, some (7, 7)), (8, none), (1, some (8, 8)), (9, none), (1, some (9, 9)), (10, none), (1, some (10, 10)), (11, none), (1, some (14, 11)), (12, none), (1, some (15, 12)), (13, none), (1, some (16, 13)), (0, some (0, 1)), (14, none), (15, none), (14, some (1, 15)), (16, none), (14, some (2, 16)), (17, none), (14, some (3, 17)), (18, none), (14, some (5, 18)), (19, none), (14, some (6, 19)), (20, none), (14, some (7, 20)), (21, none), (14, some (8, 21)), (22, none), (14, some (9, 22)), (23, none), (14, some (10, 23)), (24, none), (14, some (14, 24)), (25, none), (14, some (15, 25)), (26, none), (14, some (16, 26)), (0, some (1, 14)), (27, none), (0, some (2, 27)), (28, none), (29, none), (28, some (0, 29)), (30, none), (31, none), (30, some (1, 31)), (32, none), (30, some (2, 32)), (33, none), (30, some (3, 33)), (34, none), (30, some (5, 34)), (35, none), (30, some (6, 35)), (36, none), (30, some (7, 36)), (37, none), (30, some (8, 37)), (38, none), (30, some (9, 38)), (39, none), (30, some (10, 39)), (40, none), (30, some (14, 40)), (41, none), (30, some (15, 41)), (42, none), (30, some (16, 42)), (28, some (2, 30)), (43, none), (28, some (11, 43)), (0, some (3, 28)), (44, none), (0, some (4, 44)), (45, none), (0, some (5, 45)), (46, none), (0, some (6, 46)), (47, none), (0, some (7, 47)), (48, none), (0, some (8, 48)), (49, none), (50, none), (49, some (1, 50)), (51, none), (49, some (2, 51)), (52, none), (49, some (3, 52)), (53, none), (49, some (5, 53)), (54, none), (49, some (6, 54)), (55, none), (49, some (7, 55)), (56, none), (49, some (8, 56)), (57, none), (49, some (9, 57)), (58, none), (49, some (10, 58)), (59, none), (49, some (14, 59)), (60, none), (49, some (15, 60)), (61, none), (49, some (16, 61)), (44, some (0, 49)), (62, none), (63, none), (62, some (1, 63)), (64, none), (62, some (2, 64)), (65, none), (62, some (3, 65)), (66, none), (62, some (5, 66)), (67, none), (62, some (6, 67)), (68, none), (62, some (7, 68)), (69, none), (62, some (8, 69)), (70, none), (62, some (9, 70)), (71, none), (62, some (10, 71)), (72, none), (62, some (14, 72)), (73, none), (62, some (15, 73)), (74, none), (62, some (16, 74)), (44, some (1, 62)), (75, none), (76, none), (75, some (1, 76)), (46, some (0, 75)), (77, none), (78, none), (77, some (1, 78)), (46, some (1, 77)), (79, none), (80, none), (79, some (1, 80)), (46, some (2, 79)), (81, none), (82, none), (81, some (1, 82)), (46, some (3, 81)), (83, none), (84, none), (83, some (0, 84)), (85, none), (83, some (1, 85)), (86, none), (83, some (2, 86)), (87, none), (83, some (3, 87)), (88, none), (83, some (6, 88)), (89, none), (83, some (21, 89)), (90, none), (83, some (22, 90)), (91, none), (83, some (23, 91)), (92, none), (83, some (24, 92)), (93, none), (83, some (25, 93)), (94, none), (83, some (27, 94))]
def MR : Nat → Nat → Option Nat := kRops.foldl kRop (fun _ _ => none)
theorem mr_0_0 : MR 0 0 = some 1 := by decide +kernel
theorem mr_0_1 : MR 0 1 = some 14 := by decide +kernel
theorem mr_0_2 : MR 0 2 = some 27 := by decide +kernel
theorem mr_0_3 : MR 0 3 = some 28 := by decide +kernel
theorem mr_0_4 : MR 0 4 = some 44 := by decide +kernel
theorem mr_0_5 : MR 0 5 = some 45 := by decide +kernel
theorem mr_0_6 : MR 0 6 = some 46 := by decide +kernel
theorem mr_0_7 : MR 0 7 = some 47 := by decide +kernel
theorem mr_0_8 : MR 0 8 = some 48 := by decide +kernel
theorem mr_28_0 : MR 28 0 = some 29 := by decide +kernel
theorem mr_28_2 : MR 28 2 = some 30 := by decide +kernel
theorem mr_28_11 : MR 28 11 = some 43 := by decide +kernel
theorem mr_44_0 : MR 44 0 = some 49 := by decide +kernel
theorem mr_44_1 : MR 44 1 = some 62 := by decide +kernel
theorem mr_46_0 : MR 46 0 = some 75 := by decide +kernel
theorem mr_46_1 : MR 46 1 = some 77 := by decide +kernel
theorem mr_46_2 : MR 46 2 = some 79 := by decide +kernel
theorem mr_46_3 : MR 46 3 = some 81 := by decide +kernel
theorem mr_75_1 : MR 75 1 = some 76 := by decide +kernel
theorem mr_77_1 : MR 77 1 = some 78 := by decide +kernel
theorem mr_79_1 : MR 79 1 = some 80 := by decide +kernel
theorem mr_81_1 : MR 81 1 = some 82 := by decide +kernel
theorem mr_83_0 : MR 83 0 = some 84 := by decide +kernel
theorem mr_83_1 : MR 83 1 = some 85 := by decide +kernel
theorem mr_83_2 : MR 83 2 = some 86 := by decide +kernel
theorem mr_83_3 : MR 83 3 = some 87 := by decide +kernel
theorem mr_83_6 : MR 83 6 = some 88 := by decide +kernel
theorem mr_83_21 : MR 83 21 = some 89 := by decide +kernel
theorem mr_83_22 : MR 83 22 = some 90 := by decide +kernel
theorem mr_83_23 : MR 83 23 = some 91 := by decide +kernel
theorem mr_83_24 : MR 83 24 = some 92 := by decide +kernel
theorem mr_83_25 : MR 83 25 = some 93 := by decide +kernel
theorem mr_83_27 : MR 83 27 = some 94 := by decide +kernel
theorem ki_0 : kIs 95 0 4 = true := by decide
theorem ki_1 : kIs 95 1 1 = true := by decide
theorem ka_2 : kAr 95 2 10 = some 5 := by decide
theorem ka_3 : kAr 95 3 10 = some 5 := by decide
theorem ka_4 : kAr 95 4 10 = some 5 := by decide
theorem ka_5 : kAr 95 5 10 = some 6 := by decide
theorem ka_6 : kAr 95 6 10 = some 6 := by decide
theorem ka_7 : kAr 95 7 10 = some 6 := by decide
theorem ka_8 : kAr 95 8 10 = some 6 := by decide
theorem ka_9 : kAr 95 9 10 = some 6 := by decide
theorem ka_10 : kAr 95 10 10 = some 6 := by decide
theorem ka_11 : kAr 95 11 10 = some 6 := by decide
theorem ka_12 : kAr 95 12 10 = some 6 := by decide
theorem ka_13 : kAr 95 13 10 = some 6 := by decide
theorem ki_14 : kIs 95 14 1 = true := by decide
theorem ka_15 : kAr 95 15 10 = some 5 := by decide
theorem ka_16 : kAr 95 16 10 = some 5 := by decide
theorem ka_17 : kAr 95 17 10 = some 5 := by decide
theorem ka_18 : kAr 95 18 10 = some 6 := by decide
theorem ka_19 : kAr 95 19 10 = some 6 := by decide
theorem ka_20 : kAr 95 20 10 = some 6 := by decide
theorem ka_21 : kAr 95 21 10 = some 6 := by decide
theorem ka_22 : kAr 95 22 10 = some 6 := by decide
theorem ka_23 : kAr 95 23 10 = some 6 := by decide
theorem ka_24 : kAr 95 24 10 = some 6 := by decide
theorem ka_25 : kAr 95 25 10 = some 6 := by decide
theorem ka_26 : kAr 95 26 10 = some 6 := by decide
theorem ki_27 : kIs 95 27 0 = true := by decide
theorem ki_28 : kIs 95 28 3 = true := by decide
theorem ka_29 : kAr 95 29 10 = some 160 := by decide
theorem ki_30 : kIs 95 30 1 = true := by decide
theorem ka_31 : kAr 95 31 10 = some 5 := by decide
theorem ka_32 : kAr 95 32 10 = some 5 := by decide
theorem ka_33 : kAr 95 33 10 = some 5 := by decide
theorem ka_34 : kAr 95 34 10 = some 6 := by decide
theorem ka_35 : kAr 95 35 10 = some 6 := by decide
theorem ka_36 : kAr 95 36 10 = some 6 := by decide
theorem ka_37 : kAr 95 37 10 = some 6 := by decide
theorem ka_38 : kAr 95 38 10 = some 6 := by decide
theorem ka_39 : kAr 95 39 10 = some 6 := by decide
theorem ka_40 : kAr 95 40 10 = some 6 := by decide
theorem ka_41 : kAr 95 41 10 = some 6 := by decide
theorem ka_42 : kAr 95 42 10 = some 6 := by decide
theorem ka_43 : kAr 95 43 10 = some 4 := by decide
theorem ka_44 : kAr 95 44 12 = some 2 := by decide
theorem ka_45 : kAr 95 45 11 = some 2 := by decide
theorem ka_46 : kAr 95 46 13 = some 4 := by decide
theorem ka_47 : kAr 95 47 10 = some 1995 := by decide
theorem ka_48 : kAr 95 48 10 = some 21 := by decide
theorem ki_49 : kIs 95 49 1 = true := by decide
theorem ka_50 : kAr 95 50 10 = some 5 := by decide
theorem ka_51 : kAr 95 51 10 = some 5 := by decide
theorem ka_52 : kAr 95 52 10 = some 5 := by decide
theorem ka_53 : kAr 95 53 10 = some 6 := by decide
theorem ka_54 : kAr 95 54 10 = some 6 := by decide
theorem ka_55 : kAr 95 55 10 = some 6 := by decide
theorem ka_56 : kAr 95 56 10 = some 6 := by decide
theorem ka_57 : kAr 95 57 10 = some 6 := by decide
theorem ka_58 : kAr 95 58 10 = some 6 := by decide
theorem ka_59 : kAr 95 59 10 = some 6 := by decide
theorem ka_60 : kAr 95 60 10 = some 6 := by decide
theorem ka_61 : kAr 95 61 10 = some 6 := by decide
theorem ki_62 : kIs 95 62 1 = true := by decide
theorem ka_63 : kAr 95 63 10 = some 5 := by decide
theorem ka_64 : kAr 95 64 10 = some 5 := by decide
theorem ka_65 : kAr 95 65 10 = some 5 := by decide
theorem ka_66 : kAr 95 66 10 = some 6 := by decide
theorem ka_67 : kAr 95 67 10 = some 6 := by decide
theorem ka_68 : kAr 95 68 10 = some 6 := by decide
theorem ka_69 : kAr 95 69 10 = some 6 := by decide
theorem ka_70 : kAr 95 70 10 = some 6 := by decide
theorem ka_71 : kAr 95 71 10 = some 6 := by decide
theorem ka_72 : kAr 95 72 10 = some 6 := by decide
theorem ka_73 : kAr 95 73 10 = some 6 := by decide
theorem ka_74 : kAr 95 74 10 = some 6 := by decide
theorem ki_75 : kIs 95 75 2 = true := by decide
theorem ka_76 : kAr 95 76 10 = some 40 := by decide
theorem ki_77 : kIs 95 77 2 = true := by decide
theorem ka_78 : kAr 95 78 10 = some 40 := by decide
theorem ki_79 : kIs 95 79 2 = true := by decide
theorem ka_80 : kAr 95 80 10 = some 40 := by decide
theorem ki_81 : kIs 95 81 2 = true := by decide
theorem ka_82 : kAr 95 82 10 = some 40 := by decide
theorem ki_83 : kIs 95 83 5 = true := by decide
theorem ka_84 : kAr 95 84 10 = some 222 := by decide
theorem ka_85 : kAr 95 85 10 = some 74 := by decide
theorem ka_86 : kAr 95 86 11 = some 2 := by decide
theorem ka_87 : kAr 95 87 10 = some 74 := by decide
theorem ka_88 : kAr 95 88 10 = some 160 := by decide
theorem ka_89 : kAr 95 89 10 = some 105 := by decide
theorem ka_90 : kAr 95 90 10 = some 1995 := by decide
theorem ka_91 : kAr 95 91 10 = some 4 := by decide
theorem ka_92 : kAr 95 92 10 = some 4 := by decide
theorem ka_93 : kAr 95 93 10 = some 160 := by decide
theorem ka_94 : kAr 95 94 10 = some 74 := by decide
/-- a Post lies at b: its own arrays behind it -/
def kPost (b : Nat) : Prop := kIs 95 b 1 = true ∧ (MR b 1 = some (b + 1) ∧ MR b 2 = some (b + 2) ∧ MR b 3 = some (b + 3) ∧ MR b 5 = some (b + 4) ∧ MR b 6 = some (b + 5) ∧ MR b 7 = some (b + 6) ∧ MR b 8 = some (b + 7) ∧ MR b 9 = some (b + 8) ∧ MR b 10 = some (b + 9) ∧ MR b 14 = some (b + 10) ∧ MR b 15 = some (b + 11) ∧ MR b 16 = some (b + 12)) ∧ (kAr 95 (b + 1) 10 = some 5 ∧ kAr 95 (b + 2) 10 = some 5 ∧ kAr 95 (b + 3) 10 = some 5 ∧ kAr 95 (b + 4) 10 = some 6 ∧ kAr 95 (b + 5) 10 = some 6 ∧ kAr 95 (b + 6) 10 = some 6 ∧ kAr 95 (b + 7) 10 = some 6 ∧ kAr 95 (b + 8) 10 = some 6 ∧ kAr 95 (b + 9) 10 = some 6 ∧ kAr 95 (b + 10) 10 = some 6 ∧ kAr 95 (b + 11) 10 = some 6 ∧ kAr 95 (b + 12) 10 = some 6)
theorem kPost_1 : kPost 1 := ⟨by decide, ⟨by decide +kernel, by decide +kernel, by decide +kernel, by decide +kernel, by decide +kernel, by decide +kernel, by decide +kernel, by decide +kernel, by decide +kernel, by decide +kernel, by decide +kernel, by decide +kernel⟩, ⟨by decide, by decide, by decide, by decide, by decide, by decide, by decide, by decide, by decide, by decide, by decide, by decide⟩⟩
theorem kPost_14 : kPost 14 := ⟨by decide, ⟨by decide +kernel, by decide +kernel, by decide +kernel, by decide +kernel, by decide +kernel, by decide +kernel, by decide +kernel, by decide +kernel, by decide +kernel, by decide +kernel, by decide +kernel, by decide +kernel⟩, ⟨by decide, by decide, by decide, by decide, by decide, by decide, by decide, by decide, by decide, by decide, by decide, by decide⟩⟩
theorem kPost_30 : kPost 30 := ⟨by decide, ⟨by decide +kernel, by decide +kernel, by decide +kernel, by decide +kernel, by decide +kernel, by decide +kernel, by decide +kernel, by decide +kernel, by decide +kernel, by decide +kernel, by decide +kernel, by decide +kernel⟩, ⟨by decide, by decide, by decide, by decide, by decide, by decide, by decide, by decide, by decide, by decide, by decide, by decide⟩⟩
theorem kPost_49 : kPost 49 := ⟨by decide, ⟨by decide +kernel, by decide +kernel, by decide +kernel, by decide +kernel, by decide +kernel, by decide +kernel, by decide +kernel, by decide +kernel, by decide +kernel, by decide +kernel, by decide +kernel, by decide +kernel⟩, ⟨by decide, by decide, by decide, by decide, by decide, by decide, by decide, by decide, by decide, by decide, by decide, by decide⟩⟩
theorem kPost_62 : kPost 62 := ⟨by decide, ⟨by decide +kernel, by decide +kernel, by decide +kernel, by decide +kernel, by decide +kernel, by decide +kernel, by decide +kernel, by decide +kernel, by decide +kernel, by decide +kernel, by decide +kernel, by decide +kernel⟩, ⟨by decide, by decide, by decide, by decide, by decide, by decide, by decide, by decide, by decide, by decide, by decide, by decide⟩⟩
