/-! THE MEMORY BEHIND THE CONSTRUCTORS: references, and where each cell lies -/
def kRop (f : Nat → Nat → Option Nat) (e : Nat × Option (Nat × Nat)) : Nat → Nat → Option Nat := match e.2 with
  | none => kRow f e.1 (fun _ => none)
  | some (k, v) => kupR f e.1 k (some v)
def kRops : List (Nat × Option (Nat × Nat)) := [(0, none), (1, none), (2, none), (1, some (1, 2)), (3, none), (1, some (2, 3)), (4, none), (1, some (3, 4)), (5, none), (1, some (5, 5)), (6, none), (1, some (6, 6)), (7, none), (1, some (7, 7)), (8, none), (1, some (8, 8)), (9, none), (1, some (9, 9)), (10, none), (1, some (10, 10)), (11, none), (1, some (14, 11)), (12, none), (1, some (15, 12)), (13, none), (1, some (16, 13)), (0, some (0, 1)), (14, none), (15, none), (14, some (1, 15)), (16, none), (14, some (2, 16)), (17, none), (14, some (3, 17)), (18, none), (14, some (5, 18)), (19, none), (14, some (6, 19)), (20, none), (14, some (7, 20)), (21, none), (14, some (8, 21)), (22, none), (14, some (9, 22)), (23, none), (14, some (10, 23)), (24, none), (14, some (14, 24)), (25, none), (14, some (15, 25)), (26, none), (14, some (16, 26)), (0, some (1, 14)), (27, none), (0, some (2, 27)), (28, none), (29, none), (28, some (0, 29)), (30, none), (31, none), (30, some (1, 31)), (32, none), (30, some (2, 32)), (33, none), (30, some (3, 33)), (34, none), (30, some (5, 34)), (35, none), (30, some (6, 35)), (36, none), (30, some (7, 36)), (37, none), (30, some (8, 37)), (38, none), (30, some (9, 38)), (39, none), (30, some (10, 39)), (40, none), (30, some (14, 40)), (41, none), (30, some (15, 41)), (42, none), (30, some (16, 42)), (28, some (2, 30)), (43, none), (28, some (11, 43)), (0, some (3, 28)), (44, none), (0, some (4, 44)), (45, none), (0, some (5, 45)), (46, none), (0, some (6, 46)), (47, none), (0, some (7, 47)), (48, none), (0, some (8, 48)), (49, none), (50, none), (49, some (1, 50)), (51, none), (49, some (2, 51)), (52, none), (49, some (3, 52)), (53, none), (49, some (5, 53)), (54, none), (49, some (6, 54)), (55, none), (49, some (7, 55)), (56, none), (49, some (8, 56)), (57, none), (49, some (9, 57)), (58, none), (49, some (10, 58)), (59, none), (49, some (14, 59)), (60, none), (49, some (15, 60)), (61, none), (49, some (16, 61)), (44, some (0, 49)), (62, none), (63, none), (62, some (1, 63)), (64, none), (62, some (2, 64)), (65, none), (62, some (3, 65)), (66, none), (62, some (5, 66)), (67, none), (62, some (6, 67)), (68, none), (62, some (7, 68)), (69, none), (62, some (8, 69)), (70, none), (62, some (9, 70)), (71, none), (62, some (10, 71)), (72, none), (62, some (14, 72)), (73, none), (62, some (15, 73)), (74, none), (62, some (16, 74)), (44, some (1, 62)), (75, none), (76, none), (75, some (1, 76)), (46, some (0, 75)), (77, none), (78, none), (77, some (1, 78)), (46, some (1, 77)), (79, none), (80, none), (79, some (1, 80)), (46, some (2, 79)), (81, none), (82, none), (81, some (1, 82)), (46, some (3, 81)), (83, none), (84, none), (83, some (0, 84)), (85, none), (83, some (1, 85)), (86, none), (83, some (2, 86)), (87, none), (83, some (3, 87)), (88, none), (83, some (6, 88)), (89, none), (83, some (21, 89)), (90, none), (83, some (22, 90)), (91, none), (83, some (23, 91)), (92, none), (83, some (24, 92)), (93, none), (83, some (25, 93)), (94, none), (83, some (27, 94))]
def MR : Nat → Nat → Option Nat := kRops.foldl kRop (fun _ _ => none)
theorem mr_0_0 : MR 0 0 = some 1 := by decide +kernel
theorem mr_0_1 : MR 0 1 = some 14 := by decide +kernel
theorem mr_0_2 : MR 0 2 = some 27 := by decide +kernel
theorem mr_0_3 : MR 0 3 = some 28 := by decide +kernel
theorem mr_0_4 : MR 0 4 = some 44 := by decide +kernel
theorem mr_0_5 : MR 0 5 = some 45 := by decide +kernel
theorem mr_0_6 : MR 0 6 = some 46 := by decide +kernel
theorem mr_0_7 : MR 0 7 = some 47 := by decide +kernel
theorem mr_0_8 : MR 0 8 = some 48 := by decide +kernel
theorem mr_28_0 : MR 28 0 = some 29 := by decide +kernel
theorem mr_28_2 : MR 28 2 = some 30 := by decide +kernel
theorem mr_28_11 : MR 28 11 = some 43 := by decide +kernel
theorem mr_44_0 : MR 44 0 = some 49 := by decide +kernel
theorem mr_44_1 : MR 44 1 = some 62 := by decide +kernel
theorem mr_46_0 : MR 46 0 = some 75 := by decide +kernel
theorem mr_46_1 : MR 46 1 = some 77 := by decide +kernel
theorem mr_46_2 : MR 46 2 = some 79 := by decide +kernel
theorem mr_46_3 : MR 46 3 = some 81 := by decide +kernel
theorem mr_75_1 : MR 75 1 = some 76 := by decide +kernel
theorem mr_77_1 : MR 77 1 = some 78 := by decide +kernel
theorem mr_79_1 : MR 79 1 = some 80 := by decide +kernel
theorem mr_81_1 : MR 81 1 = some 82 := by decide +kernel
theorem mr_83_0 : MR 83 0 = some 84 := by decide +kernel
theorem mr_83_1 : MR 83 1 = some 85 := by decide +kernel
theorem mr_83_2 : MR 83 2 = some 86 := by decide +kernel
theorem mr_83_3 : MR 83 3 = some 87 := by decide +kernel
theorem mr_83_6 : MR 83 6 = some 88 := by decide +kernel
theorem mr_83_21 : MR 83 21 = some 89 := by decide +kernel
theorem mr_83_22 : MR 83 22 = some 90 := by decide +kernel
theorem mr_83_23 : MR 83 23 = some 91 := by decide +kernel
theorem mr_83_24 : MR 83 24 = some 92 := by decide +kernel
theorem mr_83_25 : MR 83 25 = some 93 := by decide +kernel
theorem mr_83_27 : MR 83 27 = some 94 := by decide +kernel
theorem ki_0 : kIs 95 0 4 = true := by decide
theorem ki_1 : kIs 95 1 1 = true := by decide
theorem ki_2 : kIs 95 2 10 = true := by decide
theorem kl_2 : kAl 2 = 5 := by decide
theorem ki_3 : kIs 95 3 10 = true := by decide
theorem kl_3 : kAl 3 = 5 := by decide
theorem ki_4 : kIs 95 4 10 = true := by decide
theorem kl_4 : kAl 4 = 5 := by decide
theorem ki_5 : kIs 95 5 10 = true := by decide
theorem kl_5 : kAl 5 = 6 := by decide
theorem ki_6 : kIs 95 6 10 = true := by decide
theorem kl_6 : kAl 6 = 6 := by decide
theorem ki_7 : kIs 95 7 10 = true := by decide
theorem kl_7 : kAl 7 = 6 := by decide
theorem ki_8 : kIs 95 8 10 = true := by decide
theorem kl_8 : kAl 8 = 6 := by decide
theorem ki_9 : kIs 95 9 10 = true := by decide
theorem kl_9 : kAl 9 = 6 := by decide
theorem ki_10 : kIs 95 10 10 = true := by decide
theorem kl_10 : kAl 10 = 6 := by decide
theorem ki_11 : kIs 95 11 10 = true := by decide
theorem kl_11 : kAl 11 = 6 := by decide
theorem ki_12 : kIs 95 12 10 = true := by decide
theorem kl_12 : kAl 12 = 6 := by decide
theorem ki_13 : kIs 95 13 10 = true := by decide
theorem kl_13 : kAl 13 = 6 := by decide
theorem ki_14 : kIs 95 14 1 = true := by decide
theorem ki_15 : kIs 95 15 10 = true := by decide
theorem kl_15 : kAl 15 = 5 := by decide
theorem ki_16 : kIs 95 16 10 = true := by decide
theorem kl_16 : kAl 16 = 5 := by decide
theorem ki_17 : kIs 95 17 10 = true := by decide
theorem kl_17 : kAl 17 = 5 := by decide
theorem ki_18 : kIs 95 18 10 = true := by decide
theorem kl_18 : kAl 18 = 6 := by decide
theorem ki_19 : kIs 95 19 10 = true := by decide
theorem kl_19 : kAl 19 = 6 := by decide
theorem ki_20 : kIs 95 20 10 = true := by decide
theorem kl_20 : kAl 20 = 6 := by decide
theorem ki_21 : kIs 95 21 10 = true := by decide
theorem kl_21 : kAl 21 = 6 := by decide
theorem ki_22 : kIs 95 22 10 = true := by decide
theorem kl_22 : kAl 22 = 6 := by decide
theorem ki_23 : kIs 95 23 10 = true := by decide
theorem kl_23 : kAl 23 = 6 := by decide
theorem ki_24 : kIs 95 24 10 = true := by decide
theorem kl_24 : kAl 24 = 6 := by decide
theorem ki_25 : kIs 95 25 10 = true := by decide
theorem kl_25 : kAl 25 = 6 := by decide
theorem ki_26 : kIs 95 26 10 = true := by decide
theorem kl_26 : kAl 26 = 6 := by decide
theorem ki_27 : kIs 95 27 0 = true := by decide
theorem ki_28 : kIs 95 28 3 = true := by decide
theorem ki_29 : kIs 95 29 10 = true := by decide
theorem kl_29 : kAl 29 = 160 := by decide
theorem ki_30 : kIs 95 30 1 = true := by decide
theorem ki_31 : kIs 95 31 10 = true := by decide
theorem kl_31 : kAl 31 = 5 := by decide
theorem ki_32 : kIs 95 32 10 = true := by decide
theorem kl_32 : kAl 32 = 5 := by decide
theorem ki_33 : kIs 95 33 10 = true := by decide
theorem kl_33 : kAl 33 = 5 := by decide
theorem ki_34 : kIs 95 34 10 = true := by decide
theorem kl_34 : kAl 34 = 6 := by decide
theorem ki_35 : kIs 95 35 10 = true := by decide
theorem kl_35 : kAl 35 = 6 := by decide
theorem ki_36 : kIs 95 36 10 = true := by decide
theorem kl_36 : kAl 36 = 6 := by decide
theorem ki_37 : kIs 95 37 10 = true := by decide
theorem kl_37 : kAl 37 = 6 := by decide
theorem ki_38 : kIs 95 38 10 = true := by decide
theorem kl_38 : kAl 38 = 6 := by decide
theorem ki_39 : kIs 95 39 10 = true := by decide
theorem kl_39 : kAl 39 = 6 := by decide
theorem ki_40 : kIs 95 40 10 = true := by decide
theorem kl_40 : kAl 40 = 6 := by decide
theorem ki_41 : kIs 95 41 10 = true := by decide
theorem kl_41 : kAl 41 = 6 := by decide
theorem ki_42 : kIs 95 42 10 = true := by decide
theorem kl_42 : kAl 42 = 6 := by decide
theorem ki_43 : kIs 95 43 10 = true := by decide
theorem kl_43 : kAl 43 = 4 := by decide
theorem ki_44 : kIs 95 44 12 = true := by decide
theorem kl_44 : kAl 44 = 2 := by decide
theorem ki_45 : kIs 95 45 11 = true := by decide
theorem kl_45 : kAl 45 = 2 := by decide
theorem ki_46 : kIs 95 46 13 = true := by decide
theorem kl_46 : kAl 46 = 4 := by decide
theorem ki_47 : kIs 95 47 10 = true := by decide
theorem kl_47 : kAl 47 = 1995 := by decide
theorem ki_48 : kIs 95 48 10 = true := by decide
theorem kl_48 : kAl 48 = 21 := by decide
theorem ki_49 : kIs 95 49 1 = true := by decide
theorem ki_50 : kIs 95 50 10 = true := by decide
theorem kl_50 : kAl 50 = 5 := by decide
theorem ki_51 : kIs 95 51 10 = true := by decide
theorem kl_51 : kAl 51 = 5 := by decide
theorem ki_52 : kIs 95 52 10 = true := by decide
theorem kl_52 : kAl 52 = 5 := by decide
theorem ki_53 : kIs 95 53 10 = true := by decide
theorem kl_53 : kAl 53 = 6 := by decide
theorem ki_54 : kIs 95 54 10 = true := by decide
theorem kl_54 : kAl 54 = 6 := by decide
theorem ki_55 : kIs 95 55 10 = true := by decide
theorem kl_55 : kAl 55 = 6 := by decide
theorem ki_56 : kIs 95 56 10 = true := by decide
theorem kl_56 : kAl 56 = 6 := by decide
theorem ki_57 : kIs 95 57 10 = true := by decide
theorem kl_57 : kAl 57 = 6 := by decide
theorem ki_58 : kIs 95 58 10 = true := by decide
theorem kl_58 : kAl 58 = 6 := by decide
theorem ki_59 : kIs 95 59 10 = true := by decide
theorem kl_59 : kAl 59 = 6 := by decide
theorem ki_60 : kIs 95 60 10 = true := by decide
theorem kl_60 : kAl 60 = 6 := by decide
theorem ki_61 : kIs 95 61 10 = true := by decide
theorem kl_61 : kAl 61 = 6 := by decide
theorem ki_62 : kIs 95 62 1 = true := by decide
theorem ki_63 : kIs 95 63 10 = true := by decide
theorem kl_63 : kAl 63 = 5 := by decide
theorem ki_64 : kIs 95 64 10 = true := by decide
theorem kl_64 : kAl 64 = 5 := by decide
theorem ki_65 : kIs 95 65 10 = true := by decide
theorem kl_65 : kAl 65 = 5 := by decide
theorem ki_66 : kIs 95 66 10 = true := by decide
theorem kl_66 : kAl 66 = 6 := by decide
theorem ki_67 : kIs 95 67 10 = true := by decide
theorem kl_67 : kAl 67 = 6 := by decide
theorem ki_68 : kIs 95 68 10 = true := by decide
theorem kl_68 : kAl 68 = 6 := by decide
theorem ki_69 : kIs 95 69 10 = true := by decide
theorem kl_69 : kAl 69 = 6 := by decide
theorem ki_70 : kIs 95 70 10 = true := by decide
theorem kl_70 : kAl 70 = 6 := by decide
theorem ki_71 : kIs 95 71 10 = true := by decide
theorem kl_71 : kAl 71 = 6 := by decide
theorem ki_72 : kIs 95 72 10 = true := by decide
theorem kl_72 : kAl 72 = 6 := by decide
theorem ki_73 : kIs 95 73 10 = true := by decide
theorem kl_73 : kAl 73 = 6 := by decide
theorem ki_74 : kIs 95 74 10 = true := by decide
theorem kl_74 : kAl 74 = 6 := by decide
theorem ki_75 : kIs 95 75 2 = true := by decide
theorem ki_76 : kIs 95 76 10 = true := by decide
theorem kl_76 : kAl 76 = 40 := by decide
theorem ki_77 : kIs 95 77 2 = true := by decide
theorem ki_78 : kIs 95 78 10 = true := by decide
theorem kl_78 : kAl 78 = 40 := by decide
theorem ki_79 : kIs 95 79 2 = true := by decide
theorem ki_80 : kIs 95 80 10 = true := by decide
theorem kl_80 : kAl 80 = 40 := by decide
theorem ki_81 : kIs 95 81 2 = true := by decide
theorem ki_82 : kIs 95 82 10 = true := by decide
theorem kl_82 : kAl 82 = 40 := by decide
theorem ki_83 : kIs 95 83 5 = true := by decide
theorem ki_84 : kIs 95 84 10 = true := by decide
theorem kl_84 : kAl 84 = 222 := by decide
theorem ki_85 : kIs 95 85 10 = true := by decide
theorem kl_85 : kAl 85 = 74 := by decide
theorem ki_86 : kIs 95 86 11 = true := by decide
theorem kl_86 : kAl 86 = 2 := by decide
theorem ki_87 : kIs 95 87 10 = true := by decide
theorem kl_87 : kAl 87 = 74 := by decide
theorem ki_88 : kIs 95 88 10 = true := by decide
theorem kl_88 : kAl 88 = 160 := by decide
theorem ki_89 : kIs 95 89 10 = true := by decide
theorem kl_89 : kAl 89 = 105 := by decide
theorem ki_90 : kIs 95 90 10 = true := by decide
theorem kl_90 : kAl 90 = 1995 := by decide
theorem ki_91 : kIs 95 91 10 = true := by decide
theorem kl_91 : kAl 91 = 4 := by decide
theorem ki_92 : kIs 95 92 10 = true := by decide
theorem kl_92 : kAl 92 = 4 := by decide
theorem ki_93 : kIs 95 93 10 = true := by decide
theorem kl_93 : kAl 93 = 160 := by decide
theorem ki_94 : kIs 95 94 10 = true := by decide
theorem kl_94 : kAl 94 = 74 := by decide
/-- a Post lies at b: its own arrays behind it -/
def kPost (b : Nat) : Prop := kIs 95 b 1 = true ∧ (MR b 1 = some (b + 1) ∧ MR b 2 = some (b + 2) ∧ MR b 3 = some (b + 3) ∧ MR b 5 = some (b + 4) ∧ MR b 6 = some (b + 5) ∧ MR b 7 = some (b + 6) ∧ MR b 8 = some (b + 7) ∧ MR b 9 = some (b + 8) ∧ MR b 10 = some (b + 9) ∧ MR b 14 = some (b + 10) ∧ MR b 15 = some (b + 11) ∧ MR b 16 = some (b + 12)) ∧ (kIs 95 (b + 1) 10 = true ∧ kIs 95 (b + 2) 10 = true ∧ kIs 95 (b + 3) 10 = true ∧ kIs 95 (b + 4) 10 = true ∧ kIs 95 (b + 5) 10 = true ∧ kIs 95 (b + 6) 10 = true ∧ kIs 95 (b + 7) 10 = true ∧ kIs 95 (b + 8) 10 = true ∧ kIs 95 (b + 9) 10 = true ∧ kIs 95 (b + 10) 10 = true ∧ kIs 95 (b + 11) 10 = true ∧ kIs 95 (b + 12) 10 = true) ∧ (kAl (b + 1) = 5 ∧ kAl (b + 2) = 5 ∧ kAl (b + 3) = 5 ∧ kAl (b + 4) = 6 ∧ kAl (b + 5) = 6 ∧ kAl (b + 6) = 6 ∧ kAl (b + 7) = 6 ∧ kAl (b + 8) = 6 ∧ kAl (b + 9) = 6 ∧ kAl (b + 10) = 6 ∧ kAl (b + 11) = 6 ∧ kAl (b + 12) = 6)
theorem kPost_1 : kPost 1 := ⟨by decide, ⟨by decide +kernel, by decide +kernel, by decide +kernel, by decide +kernel, by decide +kernel, by decide +kernel, by decide +kernel, by decide +kernel, by decide +kernel, by decide +kernel, by decide +kernel, by decide +kernel⟩, ⟨by decide, by decide, by decide, by decide, by decide, by decide, by decide, by decide, by decide, by decide, by decide, by decide⟩, by decide, by decide, by decide, by decide, by decide, by decide, by decide, by decide, by decide, by decide, by decide, by decide⟩
theorem kPost_14 : kPost 14 := ⟨by decide, ⟨by decide +kernel, by decide +kernel, by decide +kernel, by decide +kernel, by decide +kernel, by decide +kernel, by decide +kernel, by decide +kernel, by decide +kernel, by decide +kernel, by decide +kernel, by decide +kernel⟩, ⟨by decide, by decide, by decide, by decide, by decide, by decide, by decide, by decide, by decide, by decide, by decide, by decide⟩, by decide, by decide, by decide, by decide, by decide, by decide, by decide, by decide, by decide, by decide, by decide, by decide⟩
theorem kPost_30 : kPost 30 := ⟨by decide, ⟨by decide +kernel, by decide +kernel, by decide +kernel, by decide +kernel, by decide +kernel, by decide +kernel, by decide +kernel, by decide +kernel, by decide +kernel, by decide +kernel, by decide +kernel, by decide +kernel⟩, ⟨by decide, by decide, by decide, by decide, by decide, by decide, by decide, by decide, by decide, by decide, by decide, by decide⟩, by decide, by decide, by decide, by decide, by decide, by decide, by decide, by decide, by decide, by decide, by decide, by decide⟩
theorem kPost_49 : kPost 49 := ⟨by decide, ⟨by decide +kernel, by decide +kernel, by decide +kernel, by decide +kernel, by decide +kernel, by decide +kernel, by decide +kernel, by decide +kernel, by decide +kernel, by decide +kernel, by decide +kernel, by decide +kernel⟩, ⟨by decide, by decide, by decide, by decide, by decide, by decide, by decide, by decide, by decide, by decide, by decide, by decide⟩, by decide, by decide, by decide, by decide, by decide, by decide, by decide, by decide, by decide, by decide, by decide, by decide⟩
theorem kPost_62 : kPost 62 := ⟨by decide, ⟨by decide +kernel, by decide +kernel, by decide +kernel, by decide +kernel, by decide +kernel, by decide +kernel, by decide +kernel, by decide +kernel, by decide +kernel, by decide +kernel, by decide +kernel, by decide +kernel⟩, ⟨by decide, by decide, by decide, by decide, by decide, by decide, by decide, by decide, by decide, by decide, by decide, by decide⟩, by decide, by decide, by decide, by decide, by decide, by decide, by decide, by decide, by decide, by decide, by decide, by decide⟩
