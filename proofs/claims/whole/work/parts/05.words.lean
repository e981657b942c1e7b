/-! the words of the tables of part 02, each by its place in lw_tbl -/
theorem kw_in {w : Cond} (i : Nat) (h : lw_tbl[i]? = some w) : w ∈ lw_tbl := List.mem_of_getElem? h
def kFok (o : Nat) (e : Nat × Nat × Nat) : Prop := e.2.1 < 6 ∧ e.2.2 < kNf e.2.1 ∧ Cond.fieldLink (kOn o) e.1 (kTt e.2.1 e.2.2).1 (kTt e.2.1 e.2.2).2.1 (kTt e.2.1 e.2.2).2.2.1 ∈ lw_tbl
theorem kF_0_0 : kFok 0 (9, 0, 0) := ⟨by decide, by decide, kw_in 169 (by decide +kernel)⟩
theorem kF_0_1 : kFok 0 (15, 0, 1) := ⟨by decide, by decide, kw_in 170 (by decide +kernel)⟩
set_option maxRecDepth 20000 in
theorem kF_0 : ∀ e ∈ kFl 0, kFok 0 e := List.forall_mem_cons.mpr ⟨kF_0_0, List.forall_mem_cons.mpr ⟨kF_0_1, fun _ h => absurd h List.not_mem_nil⟩⟩
theorem kF_1_0 : kFok 1 (52, 1, 0) := ⟨by decide, by decide, kw_in 89 (by decide +kernel)⟩
theorem kF_1_1 : kFok 1 (9, 1, 1) := ⟨by decide, by decide, kw_in 92 (by decide +kernel)⟩
theorem kF_1_2 : kFok 1 (15, 1, 2) := ⟨by decide, by decide, kw_in 94 (by decide +kernel)⟩
theorem kF_1_3 : kFok 1 (18, 1, 3) := ⟨by decide, by decide, kw_in 96 (by decide +kernel)⟩
theorem kF_1_4 : kFok 1 (55, 1, 4) := ⟨by decide, by decide, kw_in 98 (by decide +kernel)⟩
theorem kF_1_5 : kFok 1 (21, 1, 5) := ⟨by decide, by decide, kw_in 101 (by decide +kernel)⟩
theorem kF_1_6 : kFok 1 (24, 1, 6) := ⟨by decide, by decide, kw_in 104 (by decide +kernel)⟩
theorem kF_1_7 : kFok 1 (27, 1, 7) := ⟨by decide, by decide, kw_in 107 (by decide +kernel)⟩
theorem kF_1_8 : kFok 1 (30, 1, 8) := ⟨by decide, by decide, kw_in 110 (by decide +kernel)⟩
theorem kF_1_9 : kFok 1 (33, 1, 9) := ⟨by decide, by decide, kw_in 113 (by decide +kernel)⟩
theorem kF_1_10 : kFok 1 (36, 1, 10) := ⟨by decide, by decide, kw_in 115 (by decide +kernel)⟩
theorem kF_1_11 : kFok 1 (39, 1, 11) := ⟨by decide, by decide, kw_in 117 (by decide +kernel)⟩
theorem kF_1_12 : kFok 1 (58, 1, 12) := ⟨by decide, by decide, kw_in 120 (by decide +kernel)⟩
theorem kF_1_13 : kFok 1 (61, 1, 13) := ⟨by decide, by decide, kw_in 122 (by decide +kernel)⟩
theorem kF_1_14 : kFok 1 (43, 1, 14) := ⟨by decide, by decide, kw_in 124 (by decide +kernel)⟩
theorem kF_1_15 : kFok 1 (46, 1, 15) := ⟨by decide, by decide, kw_in 125 (by decide +kernel)⟩
theorem kF_1_16 : kFok 1 (49, 1, 16) := ⟨by decide, by decide, kw_in 126 (by decide +kernel)⟩
set_option maxRecDepth 20000 in
theorem kF_1 : ∀ e ∈ kFl 1, kFok 1 e := List.forall_mem_cons.mpr ⟨kF_1_0, List.forall_mem_cons.mpr ⟨kF_1_1, List.forall_mem_cons.mpr ⟨kF_1_2, List.forall_mem_cons.mpr ⟨kF_1_3, List.forall_mem_cons.mpr ⟨kF_1_4, List.forall_mem_cons.mpr ⟨kF_1_5, List.forall_mem_cons.mpr ⟨kF_1_6, List.forall_mem_cons.mpr ⟨kF_1_7, List.forall_mem_cons.mpr ⟨kF_1_8, List.forall_mem_cons.mpr ⟨kF_1_9, List.forall_mem_cons.mpr ⟨kF_1_10, List.forall_mem_cons.mpr ⟨kF_1_11, List.forall_mem_cons.mpr ⟨kF_1_12, List.forall_mem_cons.mpr ⟨kF_1_13, List.forall_mem_cons.mpr ⟨kF_1_14, List.forall_mem_cons.mpr ⟨kF_1_15, List.forall_mem_cons.mpr ⟨kF_1_16, fun _ h => absurd h List.not_mem_nil⟩⟩⟩⟩⟩⟩⟩⟩⟩⟩⟩⟩⟩⟩⟩⟩⟩
theorem kF_2_0 : kFok 2 (11, 2, 0) := ⟨by decide, by decide, kw_in 235 (by decide +kernel)⟩
theorem kF_2_1 : kFok 2 (15, 2, 1) := ⟨by decide, by decide, kw_in 237 (by decide +kernel)⟩
theorem kF_2_2 : kFok 2 (19, 2, 2) := ⟨by decide, by decide, kw_in 239 (by decide +kernel)⟩
set_option maxRecDepth 20000 in
theorem kF_2 : ∀ e ∈ kFl 2, kFok 2 e := List.forall_mem_cons.mpr ⟨kF_2_0, List.forall_mem_cons.mpr ⟨kF_2_1, List.forall_mem_cons.mpr ⟨kF_2_2, fun _ h => absurd h List.not_mem_nil⟩⟩⟩
theorem kF_3_0 : kFok 3 (81, 1, 0) := ⟨by decide, by decide, kw_in 90 (by decide +kernel)⟩
theorem kF_3_1 : kFok 3 (78, 1, 4) := ⟨by decide, by decide, kw_in 99 (by decide +kernel)⟩
theorem kF_3_2 : kFok 3 (106, 1, 5) := ⟨by decide, by decide, kw_in 103 (by decide +kernel)⟩
theorem kF_3_3 : kFok 3 (113, 1, 6) := ⟨by decide, by decide, kw_in 106 (by decide +kernel)⟩
theorem kF_3_4 : kFok 3 (116, 1, 7) := ⟨by decide, by decide, kw_in 109 (by decide +kernel)⟩
theorem kF_3_5 : kFok 3 (122, 1, 8) := ⟨by decide, by decide, kw_in 112 (by decide +kernel)⟩
theorem kF_3_6 : kFok 3 (95, 1, 11) := ⟨by decide, by decide, kw_in 119 (by decide +kernel)⟩
theorem kF_3_7 : kFok 3 (9, 3, 0) := ⟨by decide, by decide, kw_in 184 (by decide +kernel)⟩
theorem kF_3_8 : kFok 3 (119, 3, 1) := ⟨by decide, by decide, kw_in 187 (by decide +kernel)⟩
theorem kF_3_9 : kFok 3 (18, 3, 2) := ⟨by decide, by decide, kw_in 188 (by decide +kernel)⟩
theorem kF_3_10 : kFok 3 (28, 3, 3) := ⟨by decide, by decide, kw_in 190 (by decide +kernel)⟩
theorem kF_3_11 : kFok 3 (32, 3, 4) := ⟨by decide, by decide, kw_in 192 (by decide +kernel)⟩
theorem kF_3_12 : kFok 3 (35, 3, 5) := ⟨by decide, by decide, kw_in 194 (by decide +kernel)⟩
theorem kF_3_13 : kFok 3 (38, 3, 6) := ⟨by decide, by decide, kw_in 196 (by decide +kernel)⟩
theorem kF_3_14 : kFok 3 (48, 3, 7) := ⟨by decide, by decide, kw_in 197 (by decide +kernel)⟩
theorem kF_3_15 : kFok 3 (69, 3, 8) := ⟨by decide, by decide, kw_in 198 (by decide +kernel)⟩
theorem kF_3_16 : kFok 3 (84, 3, 9) := ⟨by decide, by decide, kw_in 199 (by decide +kernel)⟩
theorem kF_3_17 : kFok 3 (41, 3, 10) := ⟨by decide, by decide, kw_in 200 (by decide +kernel)⟩
theorem kF_3_18 : kFok 3 (22, 3, 11) := ⟨by decide, by decide, kw_in 201 (by decide +kernel)⟩
set_option maxRecDepth 20000 in
theorem kF_3 : ∀ e ∈ kFl 3, kFok 3 e := List.forall_mem_cons.mpr ⟨kF_3_0, List.forall_mem_cons.mpr ⟨kF_3_1, List.forall_mem_cons.mpr ⟨kF_3_2, List.forall_mem_cons.mpr ⟨kF_3_3, List.forall_mem_cons.mpr ⟨kF_3_4, List.forall_mem_cons.mpr ⟨kF_3_5, List.forall_mem_cons.mpr ⟨kF_3_6, List.forall_mem_cons.mpr ⟨kF_3_7, List.forall_mem_cons.mpr ⟨kF_3_8, List.forall_mem_cons.mpr ⟨kF_3_9, List.forall_mem_cons.mpr ⟨kF_3_10, List.forall_mem_cons.mpr ⟨kF_3_11, List.forall_mem_cons.mpr ⟨kF_3_12, List.forall_mem_cons.mpr ⟨kF_3_13, List.forall_mem_cons.mpr ⟨kF_3_14, List.forall_mem_cons.mpr ⟨kF_3_15, List.forall_mem_cons.mpr ⟨kF_3_16, List.forall_mem_cons.mpr ⟨kF_3_17, List.forall_mem_cons.mpr ⟨kF_3_18, fun _ h => absurd h List.not_mem_nil⟩⟩⟩⟩⟩⟩⟩⟩⟩⟩⟩⟩⟩⟩⟩⟩⟩⟩⟩
theorem kF_4_0 : kFok 4 (88, 1, 0) := ⟨by decide, by decide, kw_in 91 (by decide +kernel)⟩
theorem kF_4_1 : kFok 4 (112, 1, 1) := ⟨by decide, by decide, kw_in 93 (by decide +kernel)⟩
theorem kF_4_2 : kFok 4 (115, 1, 2) := ⟨by decide, by decide, kw_in 95 (by decide +kernel)⟩
theorem kF_4_3 : kFok 4 (118, 1, 3) := ⟨by decide, by decide, kw_in 97 (by decide +kernel)⟩
theorem kF_4_4 : kFok 4 (91, 1, 4) := ⟨by decide, by decide, kw_in 100 (by decide +kernel)⟩
theorem kF_4_5 : kFok 4 (127, 1, 5) := ⟨by decide, by decide, kw_in 102 (by decide +kernel)⟩
theorem kF_4_6 : kFok 4 (130, 1, 6) := ⟨by decide, by decide, kw_in 105 (by decide +kernel)⟩
theorem kF_4_7 : kFok 4 (133, 1, 7) := ⟨by decide, by decide, kw_in 108 (by decide +kernel)⟩
theorem kF_4_8 : kFok 4 (136, 1, 8) := ⟨by decide, by decide, kw_in 111 (by decide +kernel)⟩
theorem kF_4_9 : kFok 4 (139, 1, 9) := ⟨by decide, by decide, kw_in 114 (by decide +kernel)⟩
theorem kF_4_10 : kFok 4 (142, 1, 10) := ⟨by decide, by decide, kw_in 116 (by decide +kernel)⟩
theorem kF_4_11 : kFok 4 (97, 1, 11) := ⟨by decide, by decide, kw_in 118 (by decide +kernel)⟩
theorem kF_4_12 : kFok 4 (94, 1, 12) := ⟨by decide, by decide, kw_in 121 (by decide +kernel)⟩
theorem kF_4_13 : kFok 4 (208, 1, 13) := ⟨by decide, by decide, kw_in 123 (by decide +kernel)⟩
theorem kF_4_14 : kFok 4 (63, 3, 0) := ⟨by decide, by decide, kw_in 185 (by decide +kernel)⟩
theorem kF_4_15 : kFok 4 (59, 3, 1) := ⟨by decide, by decide, kw_in 186 (by decide +kernel)⟩
theorem kF_4_16 : kFok 4 (78, 3, 2) := ⟨by decide, by decide, kw_in 189 (by decide +kernel)⟩
theorem kF_4_17 : kFok 4 (85, 3, 3) := ⟨by decide, by decide, kw_in 191 (by decide +kernel)⟩
theorem kF_4_18 : kFok 4 (69, 3, 4) := ⟨by decide, by decide, kw_in 193 (by decide +kernel)⟩
theorem kF_4_19 : kFok 4 (75, 3, 5) := ⟨by decide, by decide, kw_in 195 (by decide +kernel)⟩
theorem kF_4_20 : kFok 4 (262, 2, 0) := ⟨by decide, by decide, kw_in 236 (by decide +kernel)⟩
theorem kF_4_21 : kFok 4 (249, 2, 1) := ⟨by decide, by decide, kw_in 238 (by decide +kernel)⟩
theorem kF_4_22 : kFok 4 (10, 4, 0) := ⟨by decide, by decide, kw_in 248 (by decide +kernel)⟩
theorem kF_4_23 : kFok 4 (16, 4, 1) := ⟨by decide, by decide, kw_in 249 (by decide +kernel)⟩
theorem kF_4_24 : kFok 4 (22, 4, 2) := ⟨by decide, by decide, kw_in 250 (by decide +kernel)⟩
theorem kF_4_25 : kFok 4 (29, 4, 3) := ⟨by decide, by decide, kw_in 251 (by decide +kernel)⟩
theorem kF_4_26 : kFok 4 (33, 4, 4) := ⟨by decide, by decide, kw_in 252 (by decide +kernel)⟩
theorem kF_4_27 : kFok 4 (37, 4, 5) := ⟨by decide, by decide, kw_in 253 (by decide +kernel)⟩
theorem kF_4_28 : kFok 4 (43, 4, 6) := ⟨by decide, by decide, kw_in 254 (by decide +kernel)⟩
theorem kF_4_29 : kFok 4 (47, 4, 7) := ⟨by decide, by decide, kw_in 255 (by decide +kernel)⟩
theorem kF_4_30 : kFok 4 (51, 4, 8) := ⟨by decide, by decide, kw_in 256 (by decide +kernel)⟩
theorem kF_4_31 : kFok 4 (72, 4, 9) := ⟨by decide, by decide, kw_in 257 (by decide +kernel)⟩
theorem kF_4_32 : kFok 4 (256, 4, 10) := ⟨by decide, by decide, kw_in 258 (by decide +kernel)⟩
set_option maxRecDepth 20000 in
theorem kF_4 : ∀ e ∈ kFl 4, kFok 4 e := List.forall_mem_cons.mpr ⟨kF_4_0, List.forall_mem_cons.mpr ⟨kF_4_1, List.forall_mem_cons.mpr ⟨kF_4_2, List.forall_mem_cons.mpr ⟨kF_4_3, List.forall_mem_cons.mpr ⟨kF_4_4, List.forall_mem_cons.mpr ⟨kF_4_5, List.forall_mem_cons.mpr ⟨kF_4_6, List.forall_mem_cons.mpr ⟨kF_4_7, List.forall_mem_cons.mpr ⟨kF_4_8, List.forall_mem_cons.mpr ⟨kF_4_9, List.forall_mem_cons.mpr ⟨kF_4_10, List.forall_mem_cons.mpr ⟨kF_4_11, List.forall_mem_cons.mpr ⟨kF_4_12, List.forall_mem_cons.mpr ⟨kF_4_13, List.forall_mem_cons.mpr ⟨kF_4_14, List.forall_mem_cons.mpr ⟨kF_4_15, List.forall_mem_cons.mpr ⟨kF_4_16, List.forall_mem_cons.mpr ⟨kF_4_17, List.forall_mem_cons.mpr ⟨kF_4_18, List.forall_mem_cons.mpr ⟨kF_4_19, List.forall_mem_cons.mpr ⟨kF_4_20, List.forall_mem_cons.mpr ⟨kF_4_21, List.forall_mem_cons.mpr ⟨kF_4_22, List.forall_mem_cons.mpr ⟨kF_4_23, List.forall_mem_cons.mpr ⟨kF_4_24, List.forall_mem_cons.mpr ⟨kF_4_25, List.forall_mem_cons.mpr ⟨kF_4_26, List.forall_mem_cons.mpr ⟨kF_4_27, List.forall_mem_cons.mpr ⟨kF_4_28, List.forall_mem_cons.mpr ⟨kF_4_29, List.forall_mem_cons.mpr ⟨kF_4_30, List.forall_mem_cons.mpr ⟨kF_4_31, List.forall_mem_cons.mpr ⟨kF_4_32, fun _ h => absurd h List.not_mem_nil⟩⟩⟩⟩⟩⟩⟩⟩⟩⟩⟩⟩⟩⟩⟩⟩⟩⟩⟩⟩⟩⟩⟩⟩⟩⟩⟩⟩⟩⟩⟩⟩⟩
theorem kF_5_0 : kFok 5 (7, 5, 0) := ⟨by decide, by decide, kw_in 776 (by decide +kernel)⟩
theorem kF_5_1 : kFok 5 (13, 5, 1) := ⟨by decide, by decide, kw_in 777 (by decide +kernel)⟩
theorem kF_5_2 : kFok 5 (16, 5, 2) := ⟨by decide, by decide, kw_in 778 (by decide +kernel)⟩
theorem kF_5_3 : kFok 5 (20, 5, 3) := ⟨by decide, by decide, kw_in 779 (by decide +kernel)⟩
theorem kF_5_4 : kFok 5 (50, 5, 4) := ⟨by decide, by decide, kw_in 780 (by decide +kernel)⟩
theorem kF_5_5 : kFok 5 (54, 5, 5) := ⟨by decide, by decide, kw_in 781 (by decide +kernel)⟩
theorem kF_5_6 : kFok 5 (23, 5, 6) := ⟨by decide, by decide, kw_in 782 (by decide +kernel)⟩
theorem kF_5_7 : kFok 5 (64, 5, 7) := ⟨by decide, by decide, kw_in 783 (by decide +kernel)⟩
theorem kF_5_8 : kFok 5 (76, 5, 8) := ⟨by decide, by decide, kw_in 784 (by decide +kernel)⟩
theorem kF_5_9 : kFok 5 (70, 5, 9) := ⟨by decide, by decide, kw_in 785 (by decide +kernel)⟩
theorem kF_5_10 : kFok 5 (91, 5, 10) := ⟨by decide, by decide, kw_in 786 (by decide +kernel)⟩
theorem kF_5_11 : kFok 5 (102, 5, 11) := ⟨by decide, by decide, kw_in 787 (by decide +kernel)⟩
theorem kF_5_12 : kFok 5 (67, 5, 12) := ⟨by decide, by decide, kw_in 788 (by decide +kernel)⟩
theorem kF_5_13 : kFok 5 (73, 5, 13) := ⟨by decide, by decide, kw_in 789 (by decide +kernel)⟩
theorem kF_5_14 : kFok 5 (132, 5, 14) := ⟨by decide, by decide, kw_in 790 (by decide +kernel)⟩
theorem kF_5_15 : kFok 5 (135, 5, 15) := ⟨by decide, by decide, kw_in 791 (by decide +kernel)⟩
theorem kF_5_16 : kFok 5 (236, 5, 16) := ⟨by decide, by decide, kw_in 792 (by decide +kernel)⟩
theorem kF_5_17 : kFok 5 (239, 5, 17) := ⟨by decide, by decide, kw_in 793 (by decide +kernel)⟩
theorem kF_5_18 : kFok 5 (265, 5, 18) := ⟨by decide, by decide, kw_in 794 (by decide +kernel)⟩
theorem kF_5_19 : kFok 5 (269, 5, 19) := ⟨by decide, by decide, kw_in 795 (by decide +kernel)⟩
theorem kF_5_20 : kFok 5 (272, 5, 20) := ⟨by decide, by decide, kw_in 796 (by decide +kernel)⟩
theorem kF_5_21 : kFok 5 (26, 5, 21) := ⟨by decide, by decide, kw_in 797 (by decide +kernel)⟩
theorem kF_5_22 : kFok 5 (29, 5, 22) := ⟨by decide, by decide, kw_in 798 (by decide +kernel)⟩
theorem kF_5_23 : kFok 5 (32, 5, 23) := ⟨by decide, by decide, kw_in 799 (by decide +kernel)⟩
theorem kF_5_24 : kFok 5 (35, 5, 24) := ⟨by decide, by decide, kw_in 800 (by decide +kernel)⟩
theorem kF_5_25 : kFok 5 (38, 5, 25) := ⟨by decide, by decide, kw_in 801 (by decide +kernel)⟩
theorem kF_5_26 : kFok 5 (309, 5, 26) := ⟨by decide, by decide, kw_in 802 (by decide +kernel)⟩
theorem kF_5_27 : kFok 5 (41, 5, 27) := ⟨by decide, by decide, kw_in 803 (by decide +kernel)⟩
set_option maxRecDepth 20000 in
theorem kF_5 : ∀ e ∈ kFl 5, kFok 5 e := List.forall_mem_cons.mpr ⟨kF_5_0, List.forall_mem_cons.mpr ⟨kF_5_1, List.forall_mem_cons.mpr ⟨kF_5_2, List.forall_mem_cons.mpr ⟨kF_5_3, List.forall_mem_cons.mpr ⟨kF_5_4, List.forall_mem_cons.mpr ⟨kF_5_5, List.forall_mem_cons.mpr ⟨kF_5_6, List.forall_mem_cons.mpr ⟨kF_5_7, List.forall_mem_cons.mpr ⟨kF_5_8, List.forall_mem_cons.mpr ⟨kF_5_9, List.forall_mem_cons.mpr ⟨kF_5_10, List.forall_mem_cons.mpr ⟨kF_5_11, List.forall_mem_cons.mpr ⟨kF_5_12, List.forall_mem_cons.mpr ⟨kF_5_13, List.forall_mem_cons.mpr ⟨kF_5_14, List.forall_mem_cons.mpr ⟨kF_5_15, List.forall_mem_cons.mpr ⟨kF_5_16, List.forall_mem_cons.mpr ⟨kF_5_17, List.forall_mem_cons.mpr ⟨kF_5_18, List.forall_mem_cons.mpr ⟨kF_5_19, List.forall_mem_cons.mpr ⟨kF_5_20, List.forall_mem_cons.mpr ⟨kF_5_21, List.forall_mem_cons.mpr ⟨kF_5_22, List.forall_mem_cons.mpr ⟨kF_5_23, List.forall_mem_cons.mpr ⟨kF_5_24, List.forall_mem_cons.mpr ⟨kF_5_25, List.forall_mem_cons.mpr ⟨kF_5_26, List.forall_mem_cons.mpr ⟨kF_5_27, fun _ h => absurd h List.not_mem_nil⟩⟩⟩⟩⟩⟩⟩⟩⟩⟩⟩⟩⟩⟩⟩⟩⟩⟩⟩⟩⟩⟩⟩⟩⟩⟩⟩⟩
theorem kF : ∀ o, ∀ e ∈ kFl o, kFok o e := fun o => match o with
  | 0 => kF_0
  | 1 => kF_1
  | 2 => kF_2
  | 3 => kF_3
  | 4 => kF_4
  | 5 => kF_5
  | 6 => fun _ h => absurd h List.not_mem_nil
  | 7 => fun _ h => absurd h List.not_mem_nil
  | 8 => fun _ h => absurd h List.not_mem_nil
  | n + 9 => fun _ h => absurd h List.not_mem_nil
def kIok (o : Nat) (e : Nat × Int32) : Prop := Cond.constant (kOn o) e.1 e.2 ∈ lw_tbl
theorem kI_4_0 : kIok 4 (234, 1103515245) := kw_in 708 (by decide +kernel)
set_option maxRecDepth 20000 in
theorem kI_4 : ∀ e ∈ kIl 4, kIok 4 e := List.forall_mem_cons.mpr ⟨kI_4_0, fun _ h => absurd h List.not_mem_nil⟩
theorem kI_5_0 : kIok 5 (297, 1103515245) := kw_in 1186 (by decide +kernel)
set_option maxRecDepth 20000 in
theorem kI_5 : ∀ e ∈ kIl 5, kIok 5 e := List.forall_mem_cons.mpr ⟨kI_5_0, fun _ h => absurd h List.not_mem_nil⟩
theorem kI_7_0 : kIok 7 (265, 1431655765) := kw_in 527 (by decide +kernel)
theorem kI_7_1 : kIok 7 (266, 858993459) := kw_in 528 (by decide +kernel)
theorem kI_7_2 : kIok 7 (267, 252645135) := kw_in 529 (by decide +kernel)
set_option maxRecDepth 20000 in
theorem kI_7 : ∀ e ∈ kIl 7, kIok 7 e := List.forall_mem_cons.mpr ⟨kI_7_0, List.forall_mem_cons.mpr ⟨kI_7_1, List.forall_mem_cons.mpr ⟨kI_7_2, fun _ h => absurd h List.not_mem_nil⟩⟩⟩
theorem kI : ∀ o, ∀ e ∈ kIl o, kIok o e := fun o => match o with
  | 4 => kI_4
  | 5 => kI_5
  | 7 => kI_7
  | 0 => fun _ h => absurd h List.not_mem_nil
  | 1 => fun _ h => absurd h List.not_mem_nil
  | 2 => fun _ h => absurd h List.not_mem_nil
  | 3 => fun _ h => absurd h List.not_mem_nil
  | 6 => fun _ h => absurd h List.not_mem_nil
  | 8 => fun _ h => absurd h List.not_mem_nil
  | n + 9 => fun _ h => absurd h List.not_mem_nil
def kLok (o : Nat) (e : Nat × Int64) : Prop := Cond.constantLong (kOn o) e.1 e.2 ∈ lw_tbl
theorem kL_4_0 : kLok 4 (192, -1) := kw_in 639 (by decide +kernel)
theorem kL_4_1 : kLok 4 (198, 10) := kw_in 646 (by decide +kernel)
set_option maxRecDepth 20000 in
theorem kL_4 : ∀ e ∈ kLl 4, kLok 4 e := List.forall_mem_cons.mpr ⟨kL_4_0, List.forall_mem_cons.mpr ⟨kL_4_1, fun _ h => absurd h List.not_mem_nil⟩⟩
theorem kL_5_0 : kLok 5 (58, 127) := kw_in 865 (by decide +kernel)
theorem kL_5_1 : kLok 5 (94, 97) := kw_in 885 (by decide +kernel)
theorem kL_5_2 : kLok 5 (96, 122) := kw_in 886 (by decide +kernel)
theorem kL_5_3 : kLok 5 (98, 48) := kw_in 887 (by decide +kernel)
theorem kL_5_4 : kLok 5 (100, 57) := kw_in 888 (by decide +kernel)
theorem kL_5_5 : kLok 5 (204, 3) := kw_in 960 (by decide +kernel)
theorem kL_5_6 : kLok 5 (209, 5) := kw_in 977 (by decide +kernel)
theorem kL_5_7 : kLok 5 (130, 18) := kw_in 985 (by decide +kernel)
theorem kL_5_8 : kLok 5 (214, 9) := kw_in 993 (by decide +kernel)
theorem kL_5_9 : kLok 5 (216, 20) := kw_in 994 (by decide +kernel)
theorem kL_5_10 : kLok 5 (224, 4) := kw_in 1011 (by decide +kernel)
theorem kL_5_11 : kLok 5 (226, 30) := kw_in 1024 (by decide +kernel)
theorem kL_5_12 : kLok 5 (231, 60) := kw_in 1073 (by decide +kernel)
theorem kL_5_13 : kLok 5 (275, 10) := kw_in 1133 (by decide +kernel)
theorem kL_5_14 : kLok 5 (277, 8) := kw_in 1134 (by decide +kernel)
theorem kL_5_15 : kLok 5 (279, -1) := kw_in 1135 (by decide +kernel)
theorem kL_5_16 : kLok 5 (301, 2) := kw_in 1206 (by decide +kernel)
set_option maxRecDepth 20000 in
theorem kL_5 : ∀ e ∈ kLl 5, kLok 5 e := List.forall_mem_cons.mpr ⟨kL_5_0, List.forall_mem_cons.mpr ⟨kL_5_1, List.forall_mem_cons.mpr ⟨kL_5_2, List.forall_mem_cons.mpr ⟨kL_5_3, List.forall_mem_cons.mpr ⟨kL_5_4, List.forall_mem_cons.mpr ⟨kL_5_5, List.forall_mem_cons.mpr ⟨kL_5_6, List.forall_mem_cons.mpr ⟨kL_5_7, List.forall_mem_cons.mpr ⟨kL_5_8, List.forall_mem_cons.mpr ⟨kL_5_9, List.forall_mem_cons.mpr ⟨kL_5_10, List.forall_mem_cons.mpr ⟨kL_5_11, List.forall_mem_cons.mpr ⟨kL_5_12, List.forall_mem_cons.mpr ⟨kL_5_13, List.forall_mem_cons.mpr ⟨kL_5_14, List.forall_mem_cons.mpr ⟨kL_5_15, List.forall_mem_cons.mpr ⟨kL_5_16, fun _ h => absurd h List.not_mem_nil⟩⟩⟩⟩⟩⟩⟩⟩⟩⟩⟩⟩⟩⟩⟩⟩⟩
theorem kL : ∀ o, ∀ e ∈ kLl o, kLok o e := fun o => match o with
  | 4 => kL_4
  | 5 => kL_5
  | 0 => fun _ h => absurd h List.not_mem_nil
  | 1 => fun _ h => absurd h List.not_mem_nil
  | 2 => fun _ h => absurd h List.not_mem_nil
  | 3 => fun _ h => absurd h List.not_mem_nil
  | 6 => fun _ h => absurd h List.not_mem_nil
  | 7 => fun _ h => absurd h List.not_mem_nil
  | 8 => fun _ h => absurd h List.not_mem_nil
  | n + 9 => fun _ h => absurd h List.not_mem_nil
def kSi (i : Nat) : Nat := match i with
  | 0 => 147
  | 1 => 149
  | 2 => 151
  | 3 => 153
  | 4 => 155
  | _ => 157
def kStx (i : Nat) : String := match i with
  | 0 => "plain"
  | 1 => "proud"
  | 2 => "kind"
  | 3 => "sly"
  | 4 => "letter"
  | _ => "pace"
def kSok (o : Nat) (e : Nat × Nat) : Prop := o = 3 ∧ e.2 < 6 ∧ e.1 = kSi e.2
theorem kS_3_0 : kSok 3 (147, 0) := ⟨rfl, by decide, rfl⟩
theorem kS_3_1 : kSok 3 (149, 1) := ⟨rfl, by decide, rfl⟩
theorem kS_3_2 : kSok 3 (151, 2) := ⟨rfl, by decide, rfl⟩
theorem kS_3_3 : kSok 3 (153, 3) := ⟨rfl, by decide, rfl⟩
theorem kS_3_4 : kSok 3 (155, 4) := ⟨rfl, by decide, rfl⟩
theorem kS_3_5 : kSok 3 (157, 5) := ⟨rfl, by decide, rfl⟩
set_option maxRecDepth 20000 in
theorem kS_3 : ∀ e ∈ kSl 3, kSok 3 e := List.forall_mem_cons.mpr ⟨kS_3_0, List.forall_mem_cons.mpr ⟨kS_3_1, List.forall_mem_cons.mpr ⟨kS_3_2, List.forall_mem_cons.mpr ⟨kS_3_3, List.forall_mem_cons.mpr ⟨kS_3_4, List.forall_mem_cons.mpr ⟨kS_3_5, fun _ h => absurd h List.not_mem_nil⟩⟩⟩⟩⟩⟩
theorem kS : ∀ o, ∀ e ∈ kSl o, kSok o e := fun o => match o with
  | 3 => kS_3
  | 0 => fun _ h => absurd h List.not_mem_nil
  | 1 => fun _ h => absurd h List.not_mem_nil
  | 2 => fun _ h => absurd h List.not_mem_nil
  | 4 => fun _ h => absurd h List.not_mem_nil
  | 5 => fun _ h => absurd h List.not_mem_nil
  | 6 => fun _ h => absurd h List.not_mem_nil
  | 7 => fun _ h => absurd h List.not_mem_nil
  | 8 => fun _ h => absurd h List.not_mem_nil
  | n + 9 => fun _ h => absurd h List.not_mem_nil
theorem kSwd : ∀ i, i < 6 → Cond.stringRef RX3 (kSi i) (kStx i) ∈ lw_tbl := fun i => match i with
  | 0 => fun _ => kw_in 337 (by decide +kernel)
  | 1 => fun _ => kw_in 338 (by decide +kernel)
  | 2 => fun _ => kw_in 339 (by decide +kernel)
  | 3 => fun _ => kw_in 340 (by decide +kernel)
  | 4 => fun _ => kw_in 341 (by decide +kernel)
  | 5 => fun _ => kw_in 342 (by decide +kernel)
  | n + 6 => fun h => absurd h (by omega)
def kNok (o : Nat) (e : Nat × Nat) : Prop := e.2 < 6 ∧ Cond.classLink (kOn o) e.1 (kRn e.2) ∈ lw_tbl
theorem kN_3_0 : kNok 3 (15, 1) := ⟨by decide, kw_in 182 (by decide +kernel)⟩
set_option maxRecDepth 20000 in
theorem kN_3 : ∀ e ∈ kNl 3, kNok 3 e := List.forall_mem_cons.mpr ⟨kN_3_0, fun _ h => absurd h List.not_mem_nil⟩
theorem kN_4_0 : kNok 4 (7, 1) := ⟨by decide, kw_in 83 (by decide +kernel)⟩
theorem kN_4_1 : kNok 4 (19, 0) := ⟨by decide, kw_in 163 (by decide +kernel)⟩
theorem kN_4_2 : kNok 4 (26, 3) := ⟨by decide, kw_in 176 (by decide +kernel)⟩
theorem kN_4_3 : kNok 4 (41, 2) := ⟨by decide, kw_in 228 (by decide +kernel)⟩
set_option maxRecDepth 20000 in
theorem kN_4 : ∀ e ∈ kNl 4, kNok 4 e := List.forall_mem_cons.mpr ⟨kN_4_0, List.forall_mem_cons.mpr ⟨kN_4_1, List.forall_mem_cons.mpr ⟨kN_4_2, List.forall_mem_cons.mpr ⟨kN_4_3, fun _ h => absurd h List.not_mem_nil⟩⟩⟩⟩
theorem kN_6_0 : kNok 6 (7, 4) := ⟨by decide, kw_in 75 (by decide +kernel)⟩
theorem kN_6_1 : kNok 6 (10, 5) := ⟨by decide, kw_in 762 (by decide +kernel)⟩
set_option maxRecDepth 20000 in
theorem kN_6 : ∀ e ∈ kNl 6, kNok 6 e := List.forall_mem_cons.mpr ⟨kN_6_0, List.forall_mem_cons.mpr ⟨kN_6_1, fun _ h => absurd h List.not_mem_nil⟩⟩
theorem kN : ∀ o, ∀ e ∈ kNl o, kNok o e := fun o => match o with
  | 3 => kN_3
  | 4 => kN_4
  | 6 => kN_6
  | 0 => fun _ h => absurd h List.not_mem_nil
  | 1 => fun _ h => absurd h List.not_mem_nil
  | 2 => fun _ h => absurd h List.not_mem_nil
  | 5 => fun _ h => absurd h List.not_mem_nil
  | 7 => fun _ h => absurd h List.not_mem_nil
  | 8 => fun _ h => absurd h List.not_mem_nil
  | n + 9 => fun _ h => absurd h List.not_mem_nil
theorem kIns : ∀ ci, ci < 6 → Cond.instantiable (kRn ci) (kNf ci) ∈ lw_tbl := fun i => match i with
  | 0 => fun _ => kw_in 164 (by decide +kernel)
  | 1 => fun _ => kw_in 84 (by decide +kernel)
  | 2 => fun _ => kw_in 230 (by decide +kernel)
  | 3 => fun _ => kw_in 177 (by decide +kernel)
  | 4 => fun _ => kw_in 76 (by decide +kernel)
  | 5 => fun _ => kw_in 763 (by decide +kernel)
  | n + 6 => fun h => absurd h (by omega)
theorem kIni : ∀ o, o < 9 → Cond.initialized (kOn o) ∈ lw_tbl := fun i => match i with
  | 0 => fun _ => kw_in 64 (by decide +kernel)
  | 1 => fun _ => kw_in 63 (by decide +kernel)
  | 2 => fun _ => kw_in 66 (by decide +kernel)
  | 3 => fun _ => kw_in 65 (by decide +kernel)
  | 4 => fun _ => kw_in 62 (by decide +kernel)
  | 5 => fun _ => kw_in 67 (by decide +kernel)
  | 6 => fun _ => kw_in 61 (by decide +kernel)
  | 7 => fun _ => kw_in 73 (by decide +kernel)
  | 8 => fun _ => kw_in 74 (by decide +kernel)
  | n + 9 => fun h => absurd h (by omega)
theorem kRnOn : ∀ ci, ci < 6 → kRn ci = kOn ci := by decide +kernel
theorem kU_0 : ∀ k, k < 2 → u_lay RX0 TX0 k ∈ lw_tbl := fun k => match k with
  | 0 => fun _ => kw_in 171 (by decide +kernel)
  | 1 => fun _ => kw_in 173 (by decide +kernel)
  | n + 2 => fun h => absurd h (by omega)
theorem kU_1 : ∀ k, k < 17 → u_lay RX1 TX1 k ∈ lw_tbl := fun k => match k with
  | 0 => fun _ => kw_in 127 (by decide +kernel)
  | 1 => fun _ => kw_in 129 (by decide +kernel)
  | 2 => fun _ => kw_in 131 (by decide +kernel)
  | 3 => fun _ => kw_in 133 (by decide +kernel)
  | 4 => fun _ => kw_in 135 (by decide +kernel)
  | 5 => fun _ => kw_in 137 (by decide +kernel)
  | 6 => fun _ => kw_in 139 (by decide +kernel)
  | 7 => fun _ => kw_in 141 (by decide +kernel)
  | 8 => fun _ => kw_in 143 (by decide +kernel)
  | 9 => fun _ => kw_in 145 (by decide +kernel)
  | 10 => fun _ => kw_in 147 (by decide +kernel)
  | 11 => fun _ => kw_in 149 (by decide +kernel)
  | 12 => fun _ => kw_in 151 (by decide +kernel)
  | 13 => fun _ => kw_in 153 (by decide +kernel)
  | 14 => fun _ => kw_in 155 (by decide +kernel)
  | 15 => fun _ => kw_in 157 (by decide +kernel)
  | 16 => fun _ => kw_in 159 (by decide +kernel)
  | n + 17 => fun h => absurd h (by omega)
theorem kU_2 : ∀ k, k < 3 → u_lay RX2 TX2 k ∈ lw_tbl := fun k => match k with
  | 0 => fun _ => kw_in 240 (by decide +kernel)
  | 1 => fun _ => kw_in 242 (by decide +kernel)
  | 2 => fun _ => kw_in 244 (by decide +kernel)
  | n + 3 => fun h => absurd h (by omega)
theorem kU_3 : ∀ k, k < 12 → u_lay RX3 TX3 k ∈ lw_tbl := fun k => match k with
  | 0 => fun _ => kw_in 202 (by decide +kernel)
  | 1 => fun _ => kw_in 204 (by decide +kernel)
  | 2 => fun _ => kw_in 206 (by decide +kernel)
  | 3 => fun _ => kw_in 208 (by decide +kernel)
  | 4 => fun _ => kw_in 210 (by decide +kernel)
  | 5 => fun _ => kw_in 212 (by decide +kernel)
  | 6 => fun _ => kw_in 214 (by decide +kernel)
  | 7 => fun _ => kw_in 216 (by decide +kernel)
  | 8 => fun _ => kw_in 218 (by decide +kernel)
  | 9 => fun _ => kw_in 220 (by decide +kernel)
  | 10 => fun _ => kw_in 222 (by decide +kernel)
  | 11 => fun _ => kw_in 224 (by decide +kernel)
  | n + 12 => fun h => absurd h (by omega)
theorem kU_4 : ∀ k, k < 11 → u_lay RX4 TX4 k ∈ lw_tbl := fun k => match k with
  | 0 => fun _ => kw_in 259 (by decide +kernel)
  | 1 => fun _ => kw_in 261 (by decide +kernel)
  | 2 => fun _ => kw_in 263 (by decide +kernel)
  | 3 => fun _ => kw_in 265 (by decide +kernel)
  | 4 => fun _ => kw_in 267 (by decide +kernel)
  | 5 => fun _ => kw_in 269 (by decide +kernel)
  | 6 => fun _ => kw_in 271 (by decide +kernel)
  | 7 => fun _ => kw_in 273 (by decide +kernel)
  | 8 => fun _ => kw_in 275 (by decide +kernel)
  | 9 => fun _ => kw_in 277 (by decide +kernel)
  | 10 => fun _ => kw_in 279 (by decide +kernel)
  | n + 11 => fun h => absurd h (by omega)
theorem kU_5 : ∀ k, k < 28 → u_lay RX5 TX5 k ∈ lw_tbl := fun k => match k with
  | 0 => fun _ => kw_in 804 (by decide +kernel)
  | 1 => fun _ => kw_in 806 (by decide +kernel)
  | 2 => fun _ => kw_in 808 (by decide +kernel)
  | 3 => fun _ => kw_in 810 (by decide +kernel)
  | 4 => fun _ => kw_in 812 (by decide +kernel)
  | 5 => fun _ => kw_in 814 (by decide +kernel)
  | 6 => fun _ => kw_in 816 (by decide +kernel)
  | 7 => fun _ => kw_in 818 (by decide +kernel)
  | 8 => fun _ => kw_in 820 (by decide +kernel)
  | 9 => fun _ => kw_in 822 (by decide +kernel)
  | 10 => fun _ => kw_in 824 (by decide +kernel)
  | 11 => fun _ => kw_in 826 (by decide +kernel)
  | 12 => fun _ => kw_in 828 (by decide +kernel)
  | 13 => fun _ => kw_in 830 (by decide +kernel)
  | 14 => fun _ => kw_in 832 (by decide +kernel)
  | 15 => fun _ => kw_in 834 (by decide +kernel)
  | 16 => fun _ => kw_in 836 (by decide +kernel)
  | 17 => fun _ => kw_in 838 (by decide +kernel)
  | 18 => fun _ => kw_in 840 (by decide +kernel)
  | 19 => fun _ => kw_in 842 (by decide +kernel)
  | 20 => fun _ => kw_in 844 (by decide +kernel)
  | 21 => fun _ => kw_in 846 (by decide +kernel)
  | 22 => fun _ => kw_in 848 (by decide +kernel)
  | 23 => fun _ => kw_in 850 (by decide +kernel)
  | 24 => fun _ => kw_in 852 (by decide +kernel)
  | 25 => fun _ => kw_in 854 (by decide +kernel)
  | 26 => fun _ => kw_in 856 (by decide +kernel)
  | 27 => fun _ => kw_in 858 (by decide +kernel)
  | n + 28 => fun h => absurd h (by omega)
theorem kU : ∀ ci, ci < 6 → ∀ k, k < kNf ci → u_lay (kRn ci) (kTt ci) k ∈ lw_tbl := fun i => match i with
  | 0 => fun _ => kU_0
  | 1 => fun _ => kU_1
  | 2 => fun _ => kU_2
  | 3 => fun _ => kU_3
  | 4 => fun _ => kU_4
  | 5 => fun _ => kU_5
  | n + 6 => fun h => absurd h (by omega)
theorem kHty : ∀ ci, ci < 6 → ∀ k, k < kNf ci → parseFieldDescriptor (kTt ci k).2.2.1 = some (kTyf ci k) := fun i => match i with
  | 0 => fun _ => tyX0_ok
  | 1 => fun _ => tyX1_ok
  | 2 => fun _ => tyX2_ok
  | 3 => fun _ => tyX3_ok
  | 4 => fun _ => tyX4_ok
  | 5 => fun _ => tyX5_ok
  | n + 6 => fun h => absurd h (by omega)
theorem kHnm : ∀ ci, ci < 6 → ∀ a, a < kNf ci → ∀ b, b < kNf ci → a ≠ b → (kTt ci a).2.1 ≠ (kTt ci b).2.1 := fun i => match i with
  | 0 => fun _ => nmX0
  | 1 => fun _ => nmX1
  | 2 => fun _ => nmX2
  | 3 => fun _ => nmX3
  | 4 => fun _ => nmX4
  | 5 => fun _ => nmX5
  | n + 6 => fun h => absurd h (by omega)
theorem kCl_at : ∀ ci, ci < 6 → kCl[ci]? = some (kRn ci, kTt ci, kNf ci) := fun i => match i with
  | 0 => fun _ => rfl
  | 1 => fun _ => rfl
  | 2 => fun _ => rfl
  | 3 => fun _ => rfl
  | 4 => fun _ => rfl
  | 5 => fun _ => rfl
  | n + 6 => fun h => absurd h (by omega)
def kTyOk (ci k : Nat) : Bool := match kTy ci k, kTyf ci k with
  | 0, .int => true
  | 1, .boolean => true
  | 2, .long => true
  | 3, .object _ => true
  | 3, .array _ => true
  | _, _ => false
theorem kTy_ok : ∀ ci, ci < 6 → ∀ k, k < kNf ci → kTyOk ci k = true := by decide +kernel
/-- a method link: of the word itself, or of a nest mate; the code, initialised, static or not -/
def kCok (o : Nat) (e : Nat × Nat × Nat) : Prop := (Cond.methodLink (kOn o) e.1 (mN e.2.1) ∈ lw_tbl ∨ Cond.methodLinkNest (kOn o) e.1 (mN e.2.1) "FrankPost" ∈ lw_tbl) ∧ (parseMethodDescriptor (mN e.2.1).desc).map (fun d => d.parameters.length) = some e.2.2 ∧ e.2.1 < 199
theorem kC_1_0 : kCok 1 (70, 13, 2) := ⟨Or.inl (kw_in 414 (by decide +kernel)), by decide +kernel, by decide⟩
theorem kC_1_1 : kCok 1 (74, 94, 2) := ⟨Or.inr (kw_in 451 (by decide +kernel)), by decide +kernel, by decide⟩
theorem kC_1_2 : kCok 1 (78, 9, 1) := ⟨Or.inl (kw_in 467 (by decide +kernel)), by decide +kernel, by decide⟩
theorem kC_1_3 : kCok 1 (82, 10, 1) := ⟨Or.inl (kw_in 471 (by decide +kernel)), by decide +kernel, by decide⟩
theorem kC_1_4 : kCok 1 (86, 16, 1) := ⟨Or.inl (kw_in 523 (by decide +kernel)), by decide +kernel, by decide⟩
theorem kC_1_5 : kCok 1 (89, 198, 1) := ⟨Or.inl (kw_in 524 (by decide +kernel)), by decide +kernel, by decide⟩
theorem kC_1_6 : kCok 1 (94, 19, 0) := ⟨Or.inl (kw_in 534 (by decide +kernel)), by decide +kernel, by decide⟩
theorem kC_1_7 : kCok 1 (98, 23, 0) := ⟨Or.inl (kw_in 538 (by decide +kernel)), by decide +kernel, by decide⟩
theorem kC_1_8 : kCok 1 (109, 24, 2) := ⟨Or.inl (kw_in 542 (by decide +kernel)), by decide +kernel, by decide⟩
theorem kC_1_9 : kCok 1 (113, 25, 1) := ⟨Or.inl (kw_in 552 (by decide +kernel)), by decide +kernel, by decide⟩
theorem kC_1_10 : kCok 1 (124, 96, 2) := ⟨Or.inr (kw_in 556 (by decide +kernel)), by decide +kernel, by decide⟩
theorem kC_1_11 : kCok 1 (127, 26, 2) := ⟨Or.inl (kw_in 557 (by decide +kernel)), by decide +kernel, by decide⟩
theorem kC_1_12 : kCok 1 (130, 97, 2) := ⟨Or.inr (kw_in 561 (by decide +kernel)), by decide +kernel, by decide⟩
theorem kC_1_13 : kCok 1 (134, 98, 2) := ⟨Or.inr (kw_in 564 (by decide +kernel)), by decide +kernel, by decide⟩
theorem kC_1_14 : kCok 1 (102, 20, 1) := ⟨Or.inl (kw_in 598 (by decide +kernel)), by decide +kernel, by decide⟩
theorem kC_1_15 : kCok 1 (106, 15, 0) := ⟨Or.inl (kw_in 599 (by decide +kernel)), by decide +kernel, by decide⟩
theorem kC_1_16 : kCok 1 (137, 28, 0) := ⟨Or.inl (kw_in 677 (by decide +kernel)), by decide +kernel, by decide⟩
set_option maxRecDepth 20000 in
theorem kC_1 : ∀ e ∈ kCll 1, kCok 1 e := List.forall_mem_cons.mpr ⟨kC_1_0, List.forall_mem_cons.mpr ⟨kC_1_1, List.forall_mem_cons.mpr ⟨kC_1_2, List.forall_mem_cons.mpr ⟨kC_1_3, List.forall_mem_cons.mpr ⟨kC_1_4, List.forall_mem_cons.mpr ⟨kC_1_5, List.forall_mem_cons.mpr ⟨kC_1_6, List.forall_mem_cons.mpr ⟨kC_1_7, List.forall_mem_cons.mpr ⟨kC_1_8, List.forall_mem_cons.mpr ⟨kC_1_9, List.forall_mem_cons.mpr ⟨kC_1_10, List.forall_mem_cons.mpr ⟨kC_1_11, List.forall_mem_cons.mpr ⟨kC_1_12, List.forall_mem_cons.mpr ⟨kC_1_13, List.forall_mem_cons.mpr ⟨kC_1_14, List.forall_mem_cons.mpr ⟨kC_1_15, List.forall_mem_cons.mpr ⟨kC_1_16, fun _ h => absurd h List.not_mem_nil⟩⟩⟩⟩⟩⟩⟩⟩⟩⟩⟩⟩⟩⟩⟩⟩⟩
theorem kC_2_0 : kCok 2 (22, 30, 0) := ⟨Or.inl (kw_in 734 (by decide +kernel)), by decide +kernel, by decide⟩
theorem kC_2_1 : kCok 2 (26, 34, 2) := ⟨Or.inl (kw_in 750 (by decide +kernel)), by decide +kernel, by decide⟩
set_option maxRecDepth 20000 in
theorem kC_2 : ∀ e ∈ kCll 2, kCok 2 e := List.forall_mem_cons.mpr ⟨kC_2_0, List.forall_mem_cons.mpr ⟨kC_2_1, fun _ h => absurd h List.not_mem_nil⟩⟩
theorem kC_3_0 : kCok 3 (17, 4, 0) := ⟨Or.inr (kw_in 183 (by decide +kernel)), by decide +kernel, by decide⟩
theorem kC_3_1 : kCok 3 (25, 5, 0) := ⟨Or.inl (kw_in 301 (by decide +kernel)), by decide +kernel, by decide⟩
theorem kC_3_2 : kCok 3 (45, 44, 0) := ⟨Or.inl (kw_in 305 (by decide +kernel)), by decide +kernel, by decide⟩
theorem kC_3_3 : kCok 3 (128, 45, 3) := ⟨Or.inl (kw_in 309 (by decide +kernel)), by decide +kernel, by decide⟩
theorem kC_3_4 : kCok 3 (91, 90, 3) := ⟨Or.inr (kw_in 313 (by decide +kernel)), by decide +kernel, by decide⟩
theorem kC_3_5 : kCok 3 (132, 46, 2) := ⟨Or.inl (kw_in 314 (by decide +kernel)), by decide +kernel, by decide⟩
theorem kC_3_6 : kCok 3 (136, 47, 0) := ⟨Or.inl (kw_in 318 (by decide +kernel)), by decide +kernel, by decide⟩
theorem kC_3_7 : kCok 3 (72, 37, 2) := ⟨Or.inl (kw_in 322 (by decide +kernel)), by decide +kernel, by decide⟩
theorem kC_3_8 : kCok 3 (51, 38, 0) := ⟨Or.inl (kw_in 326 (by decide +kernel)), by decide +kernel, by decide⟩
theorem kC_3_9 : kCok 3 (57, 48, 0) := ⟨Or.inl (kw_in 330 (by decide +kernel)), by decide +kernel, by decide⟩
theorem kC_3_10 : kCok 3 (139, 49, 1) := ⟨Or.inl (kw_in 334 (by decide +kernel)), by decide +kernel, by decide⟩
theorem kC_3_11 : kCok 3 (143, 50, 1) := ⟨Or.inl (kw_in 343 (by decide +kernel)), by decide +kernel, by decide⟩
theorem kC_3_12 : kCok 3 (61, 39, 1) := ⟨Or.inl (kw_in 395 (by decide +kernel)), by decide +kernel, by decide⟩
theorem kC_3_13 : kCok 3 (65, 40, 2) := ⟨Or.inl (kw_in 399 (by decide +kernel)), by decide +kernel, by decide⟩
theorem kC_3_14 : kCok 3 (87, 41, 2) := ⟨Or.inl (kw_in 403 (by decide +kernel)), by decide +kernel, by decide⟩
theorem kC_3_15 : kCok 3 (75, 42, 1) := ⟨Or.inl (kw_in 406 (by decide +kernel)), by decide +kernel, by decide⟩
theorem kC_3_16 : kCok 3 (98, 12, 4) := ⟨Or.inl (kw_in 410 (by decide +kernel)), by decide +kernel, by decide⟩
theorem kC_3_17 : kCok 3 (102, 11, 3) := ⟨Or.inl (kw_in 418 (by decide +kernel)), by decide +kernel, by decide⟩
theorem kC_3_18 : kCok 3 (54, 43, 0) := ⟨Or.inl (kw_in 422 (by decide +kernel)), by decide +kernel, by decide⟩
theorem kC_3_19 : kCok 3 (109, 7, 1) := ⟨Or.inl (kw_in 426 (by decide +kernel)), by decide +kernel, by decide⟩
theorem kC_3_20 : kCok 3 (125, 13, 2) := ⟨Or.inl (kw_in 430 (by decide +kernel)), by decide +kernel, by decide⟩
set_option maxRecDepth 20000 in
theorem kC_3 : ∀ e ∈ kCll 3, kCok 3 e := List.forall_mem_cons.mpr ⟨kC_3_0, List.forall_mem_cons.mpr ⟨kC_3_1, List.forall_mem_cons.mpr ⟨kC_3_2, List.forall_mem_cons.mpr ⟨kC_3_3, List.forall_mem_cons.mpr ⟨kC_3_4, List.forall_mem_cons.mpr ⟨kC_3_5, List.forall_mem_cons.mpr ⟨kC_3_6, List.forall_mem_cons.mpr ⟨kC_3_7, List.forall_mem_cons.mpr ⟨kC_3_8, List.forall_mem_cons.mpr ⟨kC_3_9, List.forall_mem_cons.mpr ⟨kC_3_10, List.forall_mem_cons.mpr ⟨kC_3_11, List.forall_mem_cons.mpr ⟨kC_3_12, List.forall_mem_cons.mpr ⟨kC_3_13, List.forall_mem_cons.mpr ⟨kC_3_14, List.forall_mem_cons.mpr ⟨kC_3_15, List.forall_mem_cons.mpr ⟨kC_3_16, List.forall_mem_cons.mpr ⟨kC_3_17, List.forall_mem_cons.mpr ⟨kC_3_18, List.forall_mem_cons.mpr ⟨kC_3_19, List.forall_mem_cons.mpr ⟨kC_3_20, fun _ h => absurd h List.not_mem_nil⟩⟩⟩⟩⟩⟩⟩⟩⟩⟩⟩⟩⟩⟩⟩⟩⟩⟩⟩⟩⟩
theorem kC_4_0 : kCok 4 (9, 4, 0) := ⟨Or.inr (kw_in 85 (by decide +kernel)), by decide +kernel, by decide⟩
theorem kC_4_1 : kCok 4 (21, 0, 0) := ⟨Or.inr (kw_in 165 (by decide +kernel)), by decide +kernel, by decide⟩
theorem kC_4_2 : kCok 4 (28, 35, 0) := ⟨Or.inr (kw_in 178 (by decide +kernel)), by decide +kernel, by decide⟩
theorem kC_4_3 : kCok 4 (54, 29, 0) := ⟨Or.inr (kw_in 231 (by decide +kernel)), by decide +kernel, by decide⟩
theorem kC_4_4 : kCok 4 (55, 90, 3) := ⟨Or.inl (kw_in 286 (by decide +kernel)), by decide +kernel, by decide⟩
theorem kC_4_5 : kCok 4 (66, 36, 0) := ⟨Or.inl (kw_in 297 (by decide +kernel)), by decide +kernel, by decide⟩
theorem kC_4_6 : kCok 4 (81, 6, 1) := ⟨Or.inl (kw_in 431 (by decide +kernel)), by decide +kernel, by decide⟩
theorem kC_4_7 : kCok 4 (100, 15, 0) := ⟨Or.inl (kw_in 447 (by decide +kernel)), by decide +kernel, by decide⟩
theorem kC_4_8 : kCok 4 (104, 16, 1) := ⟨Or.inl (kw_in 454 (by decide +kernel)), by decide +kernel, by decide⟩
theorem kC_4_9 : kCok 4 (108, 7, 1) := ⟨Or.inl (kw_in 462 (by decide +kernel)), by decide +kernel, by decide⟩
theorem kC_4_10 : kCok 4 (121, 17, 1) := ⟨Or.inl (kw_in 463 (by decide +kernel)), by decide +kernel, by decide⟩
theorem kC_4_11 : kCok 4 (124, 8, 1) := ⟨Or.inl (kw_in 479 (by decide +kernel)), by decide +kernel, by decide⟩
theorem kC_4_12 : kCok 4 (145, 96, 2) := ⟨Or.inl (kw_in 487 (by decide +kernel)), by decide +kernel, by decide⟩
theorem kC_4_13 : kCok 4 (149, 93, 4) := ⟨Or.inl (kw_in 494 (by decide +kernel)), by decide +kernel, by decide⟩
theorem kC_4_14 : kCok 4 (153, 9, 1) := ⟨Or.inl (kw_in 501 (by decide +kernel)), by decide +kernel, by decide⟩
theorem kC_4_15 : kCok 4 (156, 12, 4) := ⟨Or.inl (kw_in 510 (by decide +kernel)), by decide +kernel, by decide⟩
theorem kC_4_16 : kCok 4 (160, 18, 0) := ⟨Or.inl (kw_in 519 (by decide +kernel)), by decide +kernel, by decide⟩
theorem kC_4_17 : kCok 4 (163, 20, 1) := ⟨Or.inl (kw_in 530 (by decide +kernel)), by decide +kernel, by decide⟩
theorem kC_4_18 : kCok 4 (167, 22, 1) := ⟨Or.inl (kw_in 571 (by decide +kernel)), by decide +kernel, by decide⟩
theorem kC_4_19 : kCok 4 (170, 91, 2) := ⟨Or.inl (kw_in 587 (by decide +kernel)), by decide +kernel, by decide⟩
theorem kC_4_20 : kCok 4 (174, 1, 1) := ⟨Or.inl (kw_in 590 (by decide +kernel)), by decide +kernel, by decide⟩
theorem kC_4_21 : kCok 4 (177, 21, 1) := ⟨Or.inl (kw_in 594 (by decide +kernel)), by decide +kernel, by decide⟩
theorem kC_4_22 : kCok 4 (180, 2, 2) := ⟨Or.inl (kw_in 600 (by decide +kernel)), by decide +kernel, by decide⟩
theorem kC_4_23 : kCok 4 (184, 3, 1) := ⟨Or.inl (kw_in 604 (by decide +kernel)), by decide +kernel, by decide⟩
theorem kC_4_24 : kCok 4 (186, 95, 1) := ⟨Or.inl (kw_in 620 (by decide +kernel)), by decide +kernel, by decide⟩
theorem kC_4_25 : kCok 4 (189, 92, 3) := ⟨Or.inl (kw_in 636 (by decide +kernel)), by decide +kernel, by decide⟩
theorem kC_4_26 : kCok 4 (194, 100, 3) := ⟨Or.inl (kw_in 640 (by decide +kernel)), by decide +kernel, by decide⟩
theorem kC_4_27 : kCok 4 (200, 99, 2) := ⟨Or.inl (kw_in 643 (by decide +kernel)), by decide +kernel, by decide⟩
theorem kC_4_28 : kCok 4 (204, 101, 3) := ⟨Or.inl (kw_in 647 (by decide +kernel)), by decide +kernel, by decide⟩
theorem kC_4_29 : kCok 4 (269, 102, 2) := ⟨Or.inl (kw_in 650 (by decide +kernel)), by decide +kernel, by decide⟩
theorem kC_4_30 : kCok 4 (211, 14, 3) := ⟨Or.inl (kw_in 661 (by decide +kernel)), by decide +kernel, by decide⟩
theorem kC_4_31 : kCok 4 (215, 27, 0) := ⟨Or.inl (kw_in 673 (by decide +kernel)), by decide +kernel, by decide⟩
theorem kC_4_32 : kCok 4 (219, 80, 1) := ⟨Or.inl (kw_in 689 (by decide +kernel)), by decide +kernel, by decide⟩
theorem kC_4_33 : kCok 4 (222, 104, 2) := ⟨Or.inl (kw_in 690 (by decide +kernel)), by decide +kernel, by decide⟩
theorem kC_4_34 : kCok 4 (273, 103, 3) := ⟨Or.inl (kw_in 694 (by decide +kernel)), by decide +kernel, by decide⟩
theorem kC_4_35 : kCok 4 (225, 198, 1) := ⟨Or.inl (kw_in 698 (by decide +kernel)), by decide +kernel, by decide⟩
theorem kC_4_36 : kCok 4 (230, 105, 3) := ⟨Or.inl (kw_in 699 (by decide +kernel)), by decide +kernel, by decide⟩
theorem kC_4_37 : kCok 4 (235, 13, 2) := ⟨Or.inl (kw_in 709 (by decide +kernel)), by decide +kernel, by decide⟩
theorem kC_4_38 : kCok 4 (238, 31, 2) := ⟨Or.inl (kw_in 722 (by decide +kernel)), by decide +kernel, by decide⟩
theorem kC_4_39 : kCok 4 (241, 34, 2) := ⟨Or.inl (kw_in 730 (by decide +kernel)), by decide +kernel, by decide⟩
theorem kC_4_40 : kCok 4 (244, 32, 2) := ⟨Or.inl (kw_in 738 (by decide +kernel)), by decide +kernel, by decide⟩
theorem kC_4_41 : kCok 4 (246, 33, 2) := ⟨Or.inl (kw_in 746 (by decide +kernel)), by decide +kernel, by decide⟩
theorem kC_4_42 : kCok 4 (252, 63, 4) := ⟨Or.inl (kw_in 751 (by decide +kernel)), by decide +kernel, by decide⟩
theorem kC_4_43 : kCok 4 (259, 30, 0) := ⟨Or.inl (kw_in 760 (by decide +kernel)), by decide +kernel, by decide⟩
theorem kC_4_44 : kCok 4 (265, 94, 2) := ⟨Or.inl (kw_in 761 (by decide +kernel)), by decide +kernel, by decide⟩
set_option maxRecDepth 20000 in
theorem kC_4 : ∀ e ∈ kCll 4, kCok 4 e := List.forall_mem_cons.mpr ⟨kC_4_0, List.forall_mem_cons.mpr ⟨kC_4_1, List.forall_mem_cons.mpr ⟨kC_4_2, List.forall_mem_cons.mpr ⟨kC_4_3, List.forall_mem_cons.mpr ⟨kC_4_4, List.forall_mem_cons.mpr ⟨kC_4_5, List.forall_mem_cons.mpr ⟨kC_4_6, List.forall_mem_cons.mpr ⟨kC_4_7, List.forall_mem_cons.mpr ⟨kC_4_8, List.forall_mem_cons.mpr ⟨kC_4_9, List.forall_mem_cons.mpr ⟨kC_4_10, List.forall_mem_cons.mpr ⟨kC_4_11, List.forall_mem_cons.mpr ⟨kC_4_12, List.forall_mem_cons.mpr ⟨kC_4_13, List.forall_mem_cons.mpr ⟨kC_4_14, List.forall_mem_cons.mpr ⟨kC_4_15, List.forall_mem_cons.mpr ⟨kC_4_16, List.forall_mem_cons.mpr ⟨kC_4_17, List.forall_mem_cons.mpr ⟨kC_4_18, List.forall_mem_cons.mpr ⟨kC_4_19, List.forall_mem_cons.mpr ⟨kC_4_20, List.forall_mem_cons.mpr ⟨kC_4_21, List.forall_mem_cons.mpr ⟨kC_4_22, List.forall_mem_cons.mpr ⟨kC_4_23, List.forall_mem_cons.mpr ⟨kC_4_24, List.forall_mem_cons.mpr ⟨kC_4_25, List.forall_mem_cons.mpr ⟨kC_4_26, List.forall_mem_cons.mpr ⟨kC_4_27, List.forall_mem_cons.mpr ⟨kC_4_28, List.forall_mem_cons.mpr ⟨kC_4_29, List.forall_mem_cons.mpr ⟨kC_4_30, List.forall_mem_cons.mpr ⟨kC_4_31, List.forall_mem_cons.mpr ⟨kC_4_32, List.forall_mem_cons.mpr ⟨kC_4_33, List.forall_mem_cons.mpr ⟨kC_4_34, List.forall_mem_cons.mpr ⟨kC_4_35, List.forall_mem_cons.mpr ⟨kC_4_36, List.forall_mem_cons.mpr ⟨kC_4_37, List.forall_mem_cons.mpr ⟨kC_4_38, List.forall_mem_cons.mpr ⟨kC_4_39, List.forall_mem_cons.mpr ⟨kC_4_40, List.forall_mem_cons.mpr ⟨kC_4_41, List.forall_mem_cons.mpr ⟨kC_4_42, List.forall_mem_cons.mpr ⟨kC_4_43, List.forall_mem_cons.mpr ⟨kC_4_44, fun _ h => absurd h List.not_mem_nil⟩⟩⟩⟩⟩⟩⟩⟩⟩⟩⟩⟩⟩⟩⟩⟩⟩⟩⟩⟩⟩⟩⟩⟩⟩⟩⟩⟩⟩⟩⟩⟩⟩⟩⟩⟩⟩⟩⟩⟩⟩⟩⟩⟩⟩
theorem kC_5_0 : kCok 5 (44, 110, 0) := ⟨Or.inl (kw_in 768 (by decide +kernel)), by decide +kernel, by decide⟩
theorem kC_5_1 : kCok 5 (47, 111, 0) := ⟨Or.inl (kw_in 772 (by decide +kernel)), by decide +kernel, by decide⟩
theorem kC_5_2 : kCok 5 (60, 107, 3) := ⟨Or.inl (kw_in 866 (by decide +kernel)), by decide +kernel, by decide⟩
theorem kC_5_3 : kCok 5 (109, 119, 0) := ⟨Or.inl (kw_in 877 (by decide +kernel)), by decide +kernel, by decide⟩
theorem kC_5_4 : kCok 5 (79, 115, 1) := ⟨Or.inl (kw_in 881 (by decide +kernel)), by decide +kernel, by decide⟩
theorem kC_5_5 : kCok 5 (105, 114, 2) := ⟨Or.inl (kw_in 889 (by decide +kernel)), by decide +kernel, by decide⟩
theorem kC_5_6 : kCok 5 (127, 123, 0) := ⟨Or.inl (kw_in 893 (by decide +kernel)), by decide +kernel, by decide⟩
theorem kC_5_7 : kCok 5 (119, 118, 0) := ⟨Or.inl (kw_in 897 (by decide +kernel)), by decide +kernel, by decide⟩
theorem kC_5_8 : kCok 5 (83, 116, 4) := ⟨Or.inl (kw_in 901 (by decide +kernel)), by decide +kernel, by decide⟩
theorem kC_5_9 : kCok 5 (87, 117, 3) := ⟨Or.inl (kw_in 905 (by decide +kernel)), by decide +kernel, by decide⟩
theorem kC_5_10 : kCok 5 (123, 122, 1) := ⟨Or.inl (kw_in 909 (by decide +kernel)), by decide +kernel, by decide⟩
theorem kC_5_11 : kCok 5 (116, 121, 0) := ⟨Or.inl (kw_in 913 (by decide +kernel)), by decide +kernel, by decide⟩
theorem kC_5_12 : kCok 5 (112, 120, 2) := ⟨Or.inl (kw_in 917 (by decide +kernel)), by decide +kernel, by decide⟩
theorem kC_5_13 : kCok 5 (195, 130, 0) := ⟨Or.inl (kw_in 929 (by decide +kernel)), by decide +kernel, by decide⟩
theorem kC_5_14 : kCok 5 (188, 146, 0) := ⟨Or.inl (kw_in 933 (by decide +kernel)), by decide +kernel, by decide⟩
theorem kC_5_15 : kCok 5 (144, 132, 2) := ⟨Or.inl (kw_in 937 (by decide +kernel)), by decide +kernel, by decide⟩
theorem kC_5_16 : kCok 5 (198, 148, 1) := ⟨Or.inl (kw_in 941 (by decide +kernel)), by decide +kernel, by decide⟩
theorem kC_5_17 : kCok 5 (141, 134, 2) := ⟨Or.inl (kw_in 945 (by decide +kernel)), by decide +kernel, by decide⟩
theorem kC_5_18 : kCok 5 (191, 108, 1) := ⟨Or.inl (kw_in 949 (by decide +kernel)), by decide +kernel, by decide⟩
theorem kC_5_19 : kCok 5 (201, 126, 1) := ⟨Or.inl (kw_in 956 (by decide +kernel)), by decide +kernel, by decide⟩
theorem kC_5_20 : kCok 5 (174, 139, 1) := ⟨Or.inl (kw_in 961 (by decide +kernel)), by decide +kernel, by decide⟩
theorem kC_5_21 : kCok 5 (151, 140, 1) := ⟨Or.inl (kw_in 965 (by decide +kernel)), by decide +kernel, by decide⟩
theorem kC_5_22 : kCok 5 (206, 127, 1) := ⟨Or.inl (kw_in 973 (by decide +kernel)), by decide +kernel, by decide⟩
theorem kC_5_23 : kCok 5 (211, 128, 1) := ⟨Or.inl (kw_in 982 (by decide +kernel)), by decide +kernel, by decide⟩
theorem kC_5_24 : kCok 5 (154, 136, 2) := ⟨Or.inl (kw_in 986 (by decide +kernel)), by decide +kernel, by decide⟩
theorem kC_5_25 : kCok 5 (218, 153, 2) := ⟨Or.inl (kw_in 995 (by decide +kernel)), by decide +kernel, by decide⟩
theorem kC_5_26 : kCok 5 (221, 155, 1) := ⟨Or.inl (kw_in 1003 (by decide +kernel)), by decide +kernel, by decide⟩
theorem kC_5_27 : kCok 5 (185, 145, 1) := ⟨Or.inl (kw_in 1025 (by decide +kernel)), by decide +kernel, by decide⟩
theorem kC_5_28 : kCok 5 (181, 144, 1) := ⟨Or.inl (kw_in 1029 (by decide +kernel)), by decide +kernel, by decide⟩
theorem kC_5_29 : kCok 5 (178, 143, 1) := ⟨Or.inl (kw_in 1033 (by decide +kernel)), by decide +kernel, by decide⟩
theorem kC_5_30 : kCok 5 (161, 135, 3) := ⟨Or.inl (kw_in 1037 (by decide +kernel)), by decide +kernel, by decide⟩
theorem kC_5_31 : kCok 5 (171, 142, 1) := ⟨Or.inl (kw_in 1041 (by decide +kernel)), by decide +kernel, by decide⟩
theorem kC_5_32 : kCok 5 (157, 141, 2) := ⟨Or.inl (kw_in 1045 (by decide +kernel)), by decide +kernel, by decide⟩
theorem kC_5_33 : kCok 5 (138, 109, 2) := ⟨Or.inl (kw_in 1049 (by decide +kernel)), by decide +kernel, by decide⟩
theorem kC_5_34 : kCok 5 (147, 133, 3) := ⟨Or.inl (kw_in 1052 (by decide +kernel)), by decide +kernel, by decide⟩
theorem kC_5_35 : kCok 5 (164, 137, 2) := ⟨Or.inl (kw_in 1056 (by decide +kernel)), by decide +kernel, by decide⟩
theorem kC_5_36 : kCok 5 (168, 138, 2) := ⟨Or.inl (kw_in 1059 (by decide +kernel)), by decide +kernel, by decide⟩
theorem kC_5_37 : kCok 5 (228, 131, 0) := ⟨Or.inl (kw_in 1062 (by decide +kernel)), by decide +kernel, by decide⟩
theorem kC_5_38 : kCok 5 (233, 161, 1) := ⟨Or.inl (kw_in 1070 (by decide +kernel)), by decide +kernel, by decide⟩
theorem kC_5_39 : kCok 5 (254, 129, 1) := ⟨Or.inl (kw_in 1086 (by decide +kernel)), by decide +kernel, by decide⟩
theorem kC_5_40 : kCok 5 (257, 168, 4) := ⟨Or.inl (kw_in 1089 (by decide +kernel)), by decide +kernel, by decide⟩
theorem kC_5_41 : kCok 5 (242, 165, 1) := ⟨Or.inl (kw_in 1093 (by decide +kernel)), by decide +kernel, by decide⟩
theorem kC_5_42 : kCok 5 (245, 147, 1) := ⟨Or.inl (kw_in 1097 (by decide +kernel)), by decide +kernel, by decide⟩
theorem kC_5_43 : kCok 5 (248, 166, 2) := ⟨Or.inl (kw_in 1101 (by decide +kernel)), by decide +kernel, by decide⟩
theorem kC_5_44 : kCok 5 (251, 167, 1) := ⟨Or.inl (kw_in 1105 (by decide +kernel)), by decide +kernel, by decide⟩
theorem kC_5_45 : kCok 5 (281, 177, 3) := ⟨Or.inl (kw_in 1136 (by decide +kernel)), by decide +kernel, by decide⟩
theorem kC_5_46 : kCok 5 (284, 176, 3) := ⟨Or.inl (kw_in 1140 (by decide +kernel)), by decide +kernel, by decide⟩
theorem kC_5_47 : kCok 5 (261, 175, 2) := ⟨Or.inl (kw_in 1143 (by decide +kernel)), by decide +kernel, by decide⟩
theorem kC_5_48 : kCok 5 (291, 183, 2) := ⟨Or.inl (kw_in 1162 (by decide +kernel)), by decide +kernel, by decide⟩
theorem kC_5_49 : kCok 5 (288, 182, 2) := ⟨Or.inl (kw_in 1166 (by decide +kernel)), by decide +kernel, by decide⟩
theorem kC_5_50 : kCok 5 (294, 186, 1) := ⟨Or.inl (kw_in 1178 (by decide +kernel)), by decide +kernel, by decide⟩
theorem kC_5_51 : kCok 5 (298, 189, 2) := ⟨Or.inl (kw_in 1191 (by decide +kernel)), by decide +kernel, by decide⟩
theorem kC_5_52 : kCok 5 (303, 192, 2) := ⟨Or.inl (kw_in 1203 (by decide +kernel)), by decide +kernel, by decide⟩
theorem kC_5_53 : kCok 5 (306, 158, 4) := ⟨Or.inl (kw_in 1215 (by decide +kernel)), by decide +kernel, by decide⟩
set_option maxRecDepth 20000 in
theorem kC_5 : ∀ e ∈ kCll 5, kCok 5 e := List.forall_mem_cons.mpr ⟨kC_5_0, List.forall_mem_cons.mpr ⟨kC_5_1, List.forall_mem_cons.mpr ⟨kC_5_2, List.forall_mem_cons.mpr ⟨kC_5_3, List.forall_mem_cons.mpr ⟨kC_5_4, List.forall_mem_cons.mpr ⟨kC_5_5, List.forall_mem_cons.mpr ⟨kC_5_6, List.forall_mem_cons.mpr ⟨kC_5_7, List.forall_mem_cons.mpr ⟨kC_5_8, List.forall_mem_cons.mpr ⟨kC_5_9, List.forall_mem_cons.mpr ⟨kC_5_10, List.forall_mem_cons.mpr ⟨kC_5_11, List.forall_mem_cons.mpr ⟨kC_5_12, List.forall_mem_cons.mpr ⟨kC_5_13, List.forall_mem_cons.mpr ⟨kC_5_14, List.forall_mem_cons.mpr ⟨kC_5_15, List.forall_mem_cons.mpr ⟨kC_5_16, List.forall_mem_cons.mpr ⟨kC_5_17, List.forall_mem_cons.mpr ⟨kC_5_18, List.forall_mem_cons.mpr ⟨kC_5_19, List.forall_mem_cons.mpr ⟨kC_5_20, List.forall_mem_cons.mpr ⟨kC_5_21, List.forall_mem_cons.mpr ⟨kC_5_22, List.forall_mem_cons.mpr ⟨kC_5_23, List.forall_mem_cons.mpr ⟨kC_5_24, List.forall_mem_cons.mpr ⟨kC_5_25, List.forall_mem_cons.mpr ⟨kC_5_26, List.forall_mem_cons.mpr ⟨kC_5_27, List.forall_mem_cons.mpr ⟨kC_5_28, List.forall_mem_cons.mpr ⟨kC_5_29, List.forall_mem_cons.mpr ⟨kC_5_30, List.forall_mem_cons.mpr ⟨kC_5_31, List.forall_mem_cons.mpr ⟨kC_5_32, List.forall_mem_cons.mpr ⟨kC_5_33, List.forall_mem_cons.mpr ⟨kC_5_34, List.forall_mem_cons.mpr ⟨kC_5_35, List.forall_mem_cons.mpr ⟨kC_5_36, List.forall_mem_cons.mpr ⟨kC_5_37, List.forall_mem_cons.mpr ⟨kC_5_38, List.forall_mem_cons.mpr ⟨kC_5_39, List.forall_mem_cons.mpr ⟨kC_5_40, List.forall_mem_cons.mpr ⟨kC_5_41, List.forall_mem_cons.mpr ⟨kC_5_42, List.forall_mem_cons.mpr ⟨kC_5_43, List.forall_mem_cons.mpr ⟨kC_5_44, List.forall_mem_cons.mpr ⟨kC_5_45, List.forall_mem_cons.mpr ⟨kC_5_46, List.forall_mem_cons.mpr ⟨kC_5_47, List.forall_mem_cons.mpr ⟨kC_5_48, List.forall_mem_cons.mpr ⟨kC_5_49, List.forall_mem_cons.mpr ⟨kC_5_50, List.forall_mem_cons.mpr ⟨kC_5_51, List.forall_mem_cons.mpr ⟨kC_5_52, List.forall_mem_cons.mpr ⟨kC_5_53, fun _ h => absurd h List.not_mem_nil⟩⟩⟩⟩⟩⟩⟩⟩⟩⟩⟩⟩⟩⟩⟩⟩⟩⟩⟩⟩⟩⟩⟩⟩⟩⟩⟩⟩⟩⟩⟩⟩⟩⟩⟩⟩⟩⟩⟩⟩⟩⟩⟩⟩⟩⟩⟩⟩⟩⟩⟩⟩⟩⟩
theorem kC_6_0 : kCok 6 (9, 51, 0) := ⟨Or.inl (kw_in 77 (by decide +kernel)), by decide +kernel, by decide⟩
theorem kC_6_1 : kCok 6 (13, 52, 1) := ⟨Or.inl (kw_in 282 (by decide +kernel)), by decide +kernel, by decide⟩
theorem kC_6_2 : kCok 6 (18, 53, 1) := ⟨Or.inl (kw_in 289 (by decide +kernel)), by decide +kernel, by decide⟩
theorem kC_6_3 : kCok 6 (22, 54, 0) := ⟨Or.inl (kw_in 293 (by decide +kernel)), by decide +kernel, by decide⟩
theorem kC_6_4 : kCok 6 (27, 55, 0) := ⟨Or.inl (kw_in 439 (by decide +kernel)), by decide +kernel, by decide⟩
theorem kC_6_5 : kCok 6 (31, 56, 1) := ⟨Or.inl (kw_in 443 (by decide +kernel)), by decide +kernel, by decide⟩
theorem kC_6_6 : kCok 6 (35, 57, 2) := ⟨Or.inl (kw_in 458 (by decide +kernel)), by decide +kernel, by decide⟩
theorem kC_6_7 : kCok 6 (40, 58, 2) := ⟨Or.inl (kw_in 475 (by decide +kernel)), by decide +kernel, by decide⟩
theorem kC_6_8 : kCok 6 (44, 59, 2) := ⟨Or.inl (kw_in 483 (by decide +kernel)), by decide +kernel, by decide⟩
theorem kC_6_9 : kCok 6 (48, 60, 3) := ⟨Or.inl (kw_in 490 (by decide +kernel)), by decide +kernel, by decide⟩
theorem kC_6_10 : kCok 6 (53, 61, 2) := ⟨Or.inl (kw_in 497 (by decide +kernel)), by decide +kernel, by decide⟩
theorem kC_6_11 : kCok 6 (57, 62, 1) := ⟨Or.inl (kw_in 502 (by decide +kernel)), by decide +kernel, by decide⟩
theorem kC_6_12 : kCok 6 (61, 63, 4) := ⟨Or.inl (kw_in 506 (by decide +kernel)), by decide +kernel, by decide⟩
theorem kC_6_13 : kCok 6 (66, 64, 1) := ⟨Or.inl (kw_in 511 (by decide +kernel)), by decide +kernel, by decide⟩
theorem kC_6_14 : kCok 6 (70, 65, 1) := ⟨Or.inl (kw_in 515 (by decide +kernel)), by decide +kernel, by decide⟩
theorem kC_6_15 : kCok 6 (74, 66, 2) := ⟨Or.inl (kw_in 567 (by decide +kernel)), by decide +kernel, by decide⟩
theorem kC_6_16 : kCok 6 (78, 67, 2) := ⟨Or.inl (kw_in 575 (by decide +kernel)), by decide +kernel, by decide⟩
theorem kC_6_17 : kCok 6 (82, 68, 1) := ⟨Or.inl (kw_in 579 (by decide +kernel)), by decide +kernel, by decide⟩
theorem kC_6_18 : kCok 6 (86, 69, 3) := ⟨Or.inl (kw_in 583 (by decide +kernel)), by decide +kernel, by decide⟩
theorem kC_6_19 : kCok 6 (90, 70, 2) := ⟨Or.inl (kw_in 608 (by decide +kernel)), by decide +kernel, by decide⟩
theorem kC_6_20 : kCok 6 (94, 71, 3) := ⟨Or.inl (kw_in 612 (by decide +kernel)), by decide +kernel, by decide⟩
theorem kC_6_21 : kCok 6 (98, 72, 2) := ⟨Or.inl (kw_in 616 (by decide +kernel)), by decide +kernel, by decide⟩
theorem kC_6_22 : kCok 6 (102, 73, 2) := ⟨Or.inl (kw_in 624 (by decide +kernel)), by decide +kernel, by decide⟩
theorem kC_6_23 : kCok 6 (106, 74, 3) := ⟨Or.inl (kw_in 628 (by decide +kernel)), by decide +kernel, by decide⟩
theorem kC_6_24 : kCok 6 (110, 75, 4) := ⟨Or.inl (kw_in 632 (by decide +kernel)), by decide +kernel, by decide⟩
theorem kC_6_25 : kCok 6 (115, 76, 3) := ⟨Or.inl (kw_in 653 (by decide +kernel)), by decide +kernel, by decide⟩
theorem kC_6_26 : kCok 6 (120, 77, 3) := ⟨Or.inl (kw_in 657 (by decide +kernel)), by decide +kernel, by decide⟩
theorem kC_6_27 : kCok 6 (124, 78, 1) := ⟨Or.inl (kw_in 665 (by decide +kernel)), by decide +kernel, by decide⟩
theorem kC_6_28 : kCok 6 (128, 79, 1) := ⟨Or.inl (kw_in 669 (by decide +kernel)), by decide +kernel, by decide⟩
theorem kC_6_29 : kCok 6 (132, 80, 1) := ⟨Or.inl (kw_in 681 (by decide +kernel)), by decide +kernel, by decide⟩
theorem kC_6_30 : kCok 6 (136, 81, 2) := ⟨Or.inl (kw_in 685 (by decide +kernel)), by decide +kernel, by decide⟩
theorem kC_6_31 : kCok 6 (140, 82, 3) := ⟨Or.inl (kw_in 704 (by decide +kernel)), by decide +kernel, by decide⟩
theorem kC_6_32 : kCok 6 (144, 83, 1) := ⟨Or.inl (kw_in 710 (by decide +kernel)), by decide +kernel, by decide⟩
theorem kC_6_33 : kCok 6 (148, 84, 1) := ⟨Or.inl (kw_in 714 (by decide +kernel)), by decide +kernel, by decide⟩
theorem kC_6_34 : kCok 6 (152, 85, 3) := ⟨Or.inl (kw_in 718 (by decide +kernel)), by decide +kernel, by decide⟩
theorem kC_6_35 : kCok 6 (156, 86, 3) := ⟨Or.inl (kw_in 726 (by decide +kernel)), by decide +kernel, by decide⟩
theorem kC_6_36 : kCok 6 (160, 87, 4) := ⟨Or.inl (kw_in 742 (by decide +kernel)), by decide +kernel, by decide⟩
theorem kC_6_37 : kCok 6 (164, 88, 0) := ⟨Or.inl (kw_in 752 (by decide +kernel)), by decide +kernel, by decide⟩
theorem kC_6_38 : kCok 6 (168, 89, 1) := ⟨Or.inl (kw_in 756 (by decide +kernel)), by decide +kernel, by decide⟩
theorem kC_6_39 : kCok 6 (12, 106, 0) := ⟨Or.inl (kw_in 764 (by decide +kernel)), by decide +kernel, by decide⟩
theorem kC_6_40 : kCok 6 (17, 112, 1) := ⟨Or.inl (kw_in 861 (by decide +kernel)), by decide +kernel, by decide⟩
theorem kC_6_41 : kCok 6 (21, 113, 1) := ⟨Or.inl (kw_in 869 (by decide +kernel)), by decide +kernel, by decide⟩
theorem kC_6_42 : kCok 6 (26, 124, 0) := ⟨Or.inl (kw_in 873 (by decide +kernel)), by decide +kernel, by decide⟩
theorem kC_6_43 : kCok 6 (30, 125, 0) := ⟨Or.inl (kw_in 921 (by decide +kernel)), by decide +kernel, by decide⟩
theorem kC_6_44 : kCok 6 (34, 149, 1) := ⟨Or.inl (kw_in 925 (by decide +kernel)), by decide +kernel, by decide⟩
theorem kC_6_45 : kCok 6 (39, 150, 2) := ⟨Or.inl (kw_in 952 (by decide +kernel)), by decide +kernel, by decide⟩
theorem kC_6_46 : kCok 6 (43, 151, 2) := ⟨Or.inl (kw_in 969 (by decide +kernel)), by decide +kernel, by decide⟩
theorem kC_6_47 : kCok 6 (47, 152, 2) := ⟨Or.inl (kw_in 978 (by decide +kernel)), by decide +kernel, by decide⟩
theorem kC_6_48 : kCok 6 (52, 154, 3) := ⟨Or.inl (kw_in 989 (by decide +kernel)), by decide +kernel, by decide⟩
theorem kC_6_49 : kCok 6 (56, 156, 2) := ⟨Or.inl (kw_in 999 (by decide +kernel)), by decide +kernel, by decide⟩
theorem kC_6_50 : kCok 6 (60, 157, 1) := ⟨Or.inl (kw_in 1007 (by decide +kernel)), by decide +kernel, by decide⟩
theorem kC_6_51 : kCok 6 (65, 158, 4) := ⟨Or.inl (kw_in 1012 (by decide +kernel)), by decide +kernel, by decide⟩
theorem kC_6_52 : kCok 6 (69, 159, 1) := ⟨Or.inl (kw_in 1016 (by decide +kernel)), by decide +kernel, by decide⟩
theorem kC_6_53 : kCok 6 (73, 160, 1) := ⟨Or.inl (kw_in 1020 (by decide +kernel)), by decide +kernel, by decide⟩
theorem kC_6_54 : kCok 6 (77, 162, 2) := ⟨Or.inl (kw_in 1066 (by decide +kernel)), by decide +kernel, by decide⟩
theorem kC_6_55 : kCok 6 (81, 163, 2) := ⟨Or.inl (kw_in 1074 (by decide +kernel)), by decide +kernel, by decide⟩
theorem kC_6_56 : kCok 6 (85, 164, 1) := ⟨Or.inl (kw_in 1078 (by decide +kernel)), by decide +kernel, by decide⟩
theorem kC_6_57 : kCok 6 (89, 169, 3) := ⟨Or.inl (kw_in 1082 (by decide +kernel)), by decide +kernel, by decide⟩
theorem kC_6_58 : kCok 6 (93, 170, 2) := ⟨Or.inl (kw_in 1109 (by decide +kernel)), by decide +kernel, by decide⟩
theorem kC_6_59 : kCok 6 (97, 171, 3) := ⟨Or.inl (kw_in 1113 (by decide +kernel)), by decide +kernel, by decide⟩
theorem kC_6_60 : kCok 6 (101, 172, 2) := ⟨Or.inl (kw_in 1117 (by decide +kernel)), by decide +kernel, by decide⟩
theorem kC_6_61 : kCok 6 (105, 173, 2) := ⟨Or.inl (kw_in 1121 (by decide +kernel)), by decide +kernel, by decide⟩
theorem kC_6_62 : kCok 6 (109, 174, 3) := ⟨Or.inl (kw_in 1125 (by decide +kernel)), by decide +kernel, by decide⟩
theorem kC_6_63 : kCok 6 (114, 178, 4) := ⟨Or.inl (kw_in 1129 (by decide +kernel)), by decide +kernel, by decide⟩
theorem kC_6_64 : kCok 6 (119, 179, 3) := ⟨Or.inl (kw_in 1146 (by decide +kernel)), by decide +kernel, by decide⟩
theorem kC_6_65 : kCok 6 (123, 180, 3) := ⟨Or.inl (kw_in 1150 (by decide +kernel)), by decide +kernel, by decide⟩
theorem kC_6_66 : kCok 6 (127, 181, 1) := ⟨Or.inl (kw_in 1154 (by decide +kernel)), by decide +kernel, by decide⟩
theorem kC_6_67 : kCok 6 (131, 184, 1) := ⟨Or.inl (kw_in 1158 (by decide +kernel)), by decide +kernel, by decide⟩
theorem kC_6_68 : kCok 6 (135, 185, 1) := ⟨Or.inl (kw_in 1170 (by decide +kernel)), by decide +kernel, by decide⟩
theorem kC_6_69 : kCok 6 (139, 187, 2) := ⟨Or.inl (kw_in 1174 (by decide +kernel)), by decide +kernel, by decide⟩
theorem kC_6_70 : kCok 6 (143, 188, 3) := ⟨Or.inl (kw_in 1182 (by decide +kernel)), by decide +kernel, by decide⟩
theorem kC_6_71 : kCok 6 (147, 190, 1) := ⟨Or.inl (kw_in 1187 (by decide +kernel)), by decide +kernel, by decide⟩
theorem kC_6_72 : kCok 6 (151, 191, 1) := ⟨Or.inl (kw_in 1195 (by decide +kernel)), by decide +kernel, by decide⟩
theorem kC_6_73 : kCok 6 (155, 193, 3) := ⟨Or.inl (kw_in 1199 (by decide +kernel)), by decide +kernel, by decide⟩
theorem kC_6_74 : kCok 6 (159, 194, 3) := ⟨Or.inl (kw_in 1207 (by decide +kernel)), by decide +kernel, by decide⟩
theorem kC_6_75 : kCok 6 (163, 195, 4) := ⟨Or.inl (kw_in 1211 (by decide +kernel)), by decide +kernel, by decide⟩
theorem kC_6_76 : kCok 6 (167, 196, 0) := ⟨Or.inl (kw_in 1216 (by decide +kernel)), by decide +kernel, by decide⟩
theorem kC_6_77 : kCok 6 (171, 197, 1) := ⟨Or.inl (kw_in 1220 (by decide +kernel)), by decide +kernel, by decide⟩
set_option maxRecDepth 20000 in
theorem kC_6 : ∀ e ∈ kCll 6, kCok 6 e := List.forall_mem_cons.mpr ⟨kC_6_0, List.forall_mem_cons.mpr ⟨kC_6_1, List.forall_mem_cons.mpr ⟨kC_6_2, List.forall_mem_cons.mpr ⟨kC_6_3, List.forall_mem_cons.mpr ⟨kC_6_4, List.forall_mem_cons.mpr ⟨kC_6_5, List.forall_mem_cons.mpr ⟨kC_6_6, List.forall_mem_cons.mpr ⟨kC_6_7, List.forall_mem_cons.mpr ⟨kC_6_8, List.forall_mem_cons.mpr ⟨kC_6_9, List.forall_mem_cons.mpr ⟨kC_6_10, List.forall_mem_cons.mpr ⟨kC_6_11, List.forall_mem_cons.mpr ⟨kC_6_12, List.forall_mem_cons.mpr ⟨kC_6_13, List.forall_mem_cons.mpr ⟨kC_6_14, List.forall_mem_cons.mpr ⟨kC_6_15, List.forall_mem_cons.mpr ⟨kC_6_16, List.forall_mem_cons.mpr ⟨kC_6_17, List.forall_mem_cons.mpr ⟨kC_6_18, List.forall_mem_cons.mpr ⟨kC_6_19, List.forall_mem_cons.mpr ⟨kC_6_20, List.forall_mem_cons.mpr ⟨kC_6_21, List.forall_mem_cons.mpr ⟨kC_6_22, List.forall_mem_cons.mpr ⟨kC_6_23, List.forall_mem_cons.mpr ⟨kC_6_24, List.forall_mem_cons.mpr ⟨kC_6_25, List.forall_mem_cons.mpr ⟨kC_6_26, List.forall_mem_cons.mpr ⟨kC_6_27, List.forall_mem_cons.mpr ⟨kC_6_28, List.forall_mem_cons.mpr ⟨kC_6_29, List.forall_mem_cons.mpr ⟨kC_6_30, List.forall_mem_cons.mpr ⟨kC_6_31, List.forall_mem_cons.mpr ⟨kC_6_32, List.forall_mem_cons.mpr ⟨kC_6_33, List.forall_mem_cons.mpr ⟨kC_6_34, List.forall_mem_cons.mpr ⟨kC_6_35, List.forall_mem_cons.mpr ⟨kC_6_36, List.forall_mem_cons.mpr ⟨kC_6_37, List.forall_mem_cons.mpr ⟨kC_6_38, List.forall_mem_cons.mpr ⟨kC_6_39, List.forall_mem_cons.mpr ⟨kC_6_40, List.forall_mem_cons.mpr ⟨kC_6_41, List.forall_mem_cons.mpr ⟨kC_6_42, List.forall_mem_cons.mpr ⟨kC_6_43, List.forall_mem_cons.mpr ⟨kC_6_44, List.forall_mem_cons.mpr ⟨kC_6_45, List.forall_mem_cons.mpr ⟨kC_6_46, List.forall_mem_cons.mpr ⟨kC_6_47, List.forall_mem_cons.mpr ⟨kC_6_48, List.forall_mem_cons.mpr ⟨kC_6_49, List.forall_mem_cons.mpr ⟨kC_6_50, List.forall_mem_cons.mpr ⟨kC_6_51, List.forall_mem_cons.mpr ⟨kC_6_52, List.forall_mem_cons.mpr ⟨kC_6_53, List.forall_mem_cons.mpr ⟨kC_6_54, List.forall_mem_cons.mpr ⟨kC_6_55, List.forall_mem_cons.mpr ⟨kC_6_56, List.forall_mem_cons.mpr ⟨kC_6_57, List.forall_mem_cons.mpr ⟨kC_6_58, List.forall_mem_cons.mpr ⟨kC_6_59, List.forall_mem_cons.mpr ⟨kC_6_60, List.forall_mem_cons.mpr ⟨kC_6_61, List.forall_mem_cons.mpr ⟨kC_6_62, List.forall_mem_cons.mpr ⟨kC_6_63, List.forall_mem_cons.mpr ⟨kC_6_64, List.forall_mem_cons.mpr ⟨kC_6_65, List.forall_mem_cons.mpr ⟨kC_6_66, List.forall_mem_cons.mpr ⟨kC_6_67, List.forall_mem_cons.mpr ⟨kC_6_68, List.forall_mem_cons.mpr ⟨kC_6_69, List.forall_mem_cons.mpr ⟨kC_6_70, List.forall_mem_cons.mpr ⟨kC_6_71, List.forall_mem_cons.mpr ⟨kC_6_72, List.forall_mem_cons.mpr ⟨kC_6_73, List.forall_mem_cons.mpr ⟨kC_6_74, List.forall_mem_cons.mpr ⟨kC_6_75, List.forall_mem_cons.mpr ⟨kC_6_76, List.forall_mem_cons.mpr ⟨kC_6_77, fun _ h => absurd h List.not_mem_nil⟩⟩⟩⟩⟩⟩⟩⟩⟩⟩⟩⟩⟩⟩⟩⟩⟩⟩⟩⟩⟩⟩⟩⟩⟩⟩⟩⟩⟩⟩⟩⟩⟩⟩⟩⟩⟩⟩⟩⟩⟩⟩⟩⟩⟩⟩⟩⟩⟩⟩⟩⟩⟩⟩⟩⟩⟩⟩⟩⟩⟩⟩⟩⟩⟩⟩⟩⟩⟩⟩⟩⟩⟩⟩⟩⟩⟩⟩
theorem kC : ∀ o, ∀ e ∈ kCll o, kCok o e := fun o => match o with
  | 1 => kC_1
  | 2 => kC_2
  | 3 => kC_3
  | 4 => kC_4
  | 5 => kC_5
  | 6 => kC_6
  | 0 => fun _ h => absurd h List.not_mem_nil
  | 7 => fun _ h => absurd h List.not_mem_nil
  | 8 => fun _ h => absurd h List.not_mem_nil
  | n + 9 => fun _ h => absurd h List.not_mem_nil
def kPok (o : Nat) (e : Nat × Nat) : Prop := match e.2 with
  | 0 => Cond.methodLink (kOn o) e.1 Lib.objectInit ∈ lw_tbl
  | 1 => Cond.methodLink (kOn o) e.1 arraycopyName ∈ lw_tbl
  | 2 => Cond.methodLink (kOn o) e.1 ⟨"java/lang/String", "length", "()I"⟩ ∈ lw_tbl
  | 3 => Cond.methodLink (kOn o) e.1 ⟨"java/lang/String", "charAt", "(I)C"⟩ ∈ lw_tbl
  | 4 => Cond.methodLink (kOn o) e.1 Lib.Math.max.name ∈ lw_tbl
  | _ => Cond.methodLink (kOn o) e.1 Lib.Math.min.name ∈ lw_tbl
theorem kP_0_0 : kPok 0 (3, 0) := kw_in 168 (by decide +kernel)
set_option maxRecDepth 20000 in
theorem kP_0 : ∀ e ∈ kPl 0, kPok 0 e := List.forall_mem_cons.mpr ⟨kP_0_0, fun _ h => absurd h List.not_mem_nil⟩
theorem kP_1_0 : kPok 1 (3, 0) := kw_in 88 (by decide +kernel)
theorem kP_1_1 : kPok 1 (64, 1) := kw_in 435 (by decide +kernel)
theorem kP_1_2 : kPok 1 (116, 5) := kw_in 546 (by decide +kernel)
theorem kP_1_3 : kPok 1 (121, 4) := kw_in 549 (by decide +kernel)
set_option maxRecDepth 20000 in
theorem kP_1 : ∀ e ∈ kPl 1, kPok 1 e := List.forall_mem_cons.mpr ⟨kP_1_0, List.forall_mem_cons.mpr ⟨kP_1_1, List.forall_mem_cons.mpr ⟨kP_1_2, List.forall_mem_cons.mpr ⟨kP_1_3, fun _ h => absurd h List.not_mem_nil⟩⟩⟩⟩
theorem kP_2_0 : kPok 2 (3, 0) := kw_in 234 (by decide +kernel)
set_option maxRecDepth 20000 in
theorem kP_2 : ∀ e ∈ kPl 2, kPok 2 e := List.forall_mem_cons.mpr ⟨kP_2_0, fun _ h => absurd h List.not_mem_nil⟩
theorem kP_3_0 : kPok 3 (3, 0) := kw_in 181 (by decide +kernel)
theorem kP_3_1 : kPok 3 (159, 2) := kw_in 347 (by decide +kernel)
theorem kP_3_2 : kPok 3 (163, 3) := kw_in 357 (by decide +kernel)
set_option maxRecDepth 20000 in
theorem kP_3 : ∀ e ∈ kPl 3, kPok 3 e := List.forall_mem_cons.mpr ⟨kP_3_0, List.forall_mem_cons.mpr ⟨kP_3_1, List.forall_mem_cons.mpr ⟨kP_3_2, fun _ h => absurd h List.not_mem_nil⟩⟩⟩
theorem kP_4_0 : kPok 4 (1, 0) := kw_in 80 (by decide +kernel)
theorem kP_4_1 : kPok 4 (276, 1) := kw_in 697 (by decide +kernel)
theorem kP_4_2 : kPok 4 (282, 4) := kw_in 703 (by decide +kernel)
set_option maxRecDepth 20000 in
theorem kP_4 : ∀ e ∈ kPl 4, kPok 4 e := List.forall_mem_cons.mpr ⟨kP_4_0, List.forall_mem_cons.mpr ⟨kP_4_1, List.forall_mem_cons.mpr ⟨kP_4_2, fun _ h => absurd h List.not_mem_nil⟩⟩⟩
theorem kP_5_0 : kPok 5 (1, 0) := kw_in 767 (by decide +kernel)
set_option maxRecDepth 20000 in
theorem kP_5 : ∀ e ∈ kPl 5, kPok 5 e := List.forall_mem_cons.mpr ⟨kP_5_0, fun _ h => absurd h List.not_mem_nil⟩
theorem kP : ∀ o, ∀ e ∈ kPl o, kPok o e := fun o => match o with
  | 0 => kP_0
  | 1 => kP_1
  | 2 => kP_2
  | 3 => kP_3
  | 4 => kP_4
  | 5 => kP_5
  | 6 => fun _ h => absurd h List.not_mem_nil
  | 7 => fun _ h => absurd h List.not_mem_nil
  | 8 => fun _ h => absurd h List.not_mem_nil
  | n + 9 => fun _ h => absurd h List.not_mem_nil
set_option maxRecDepth 20000 in
theorem kMw_0 : Cond.code (mN 0) (mB 0) (mL 0) (mR 0) ∈ lw_tbl := kw_in 167 rfl
set_option maxRecDepth 20000 in
theorem kMw_1 : Cond.code (mN 1) (mB 1) (mL 1) (mR 1) ∈ lw_tbl := kw_in 593 rfl
set_option maxRecDepth 20000 in
theorem kMw_2 : Cond.code (mN 2) (mB 2) (mL 2) (mR 2) ∈ lw_tbl := kw_in 603 rfl
set_option maxRecDepth 20000 in
theorem kMw_3 : Cond.code (mN 3) (mB 3) (mL 3) (mR 3) ∈ lw_tbl := kw_in 607 rfl
set_option maxRecDepth 20000 in
theorem kMw_4 : Cond.code (mN 4) (mB 4) (mL 4) (mR 4) ∈ lw_tbl := kw_in 87 rfl
set_option maxRecDepth 20000 in
theorem kMw_5 : Cond.code (mN 5) (mB 5) (mL 5) (mR 5) ∈ lw_tbl := kw_in 304 rfl
set_option maxRecDepth 20000 in
theorem kMw_6 : Cond.code (mN 6) (mB 6) (mL 6) (mR 6) ∈ lw_tbl := kw_in 434 rfl
set_option maxRecDepth 20000 in
theorem kMw_7 : Cond.code (mN 7) (mB 7) (mL 7) (mR 7) ∈ lw_tbl := kw_in 429 rfl
set_option maxRecDepth 20000 in
theorem kMw_8 : Cond.code (mN 8) (mB 8) (mL 8) (mR 8) ∈ lw_tbl := kw_in 482 rfl
set_option maxRecDepth 20000 in
theorem kMw_9 : Cond.code (mN 9) (mB 9) (mL 9) (mR 9) ∈ lw_tbl := kw_in 470 rfl
set_option maxRecDepth 20000 in
theorem kMw_10 : Cond.code (mN 10) (mB 10) (mL 10) (mR 10) ∈ lw_tbl := kw_in 474 rfl
set_option maxRecDepth 20000 in
theorem kMw_11 : Cond.code (mN 11) (mB 11) (mL 11) (mR 11) ∈ lw_tbl := kw_in 421 rfl
set_option maxRecDepth 20000 in
theorem kMw_12 : Cond.code (mN 12) (mB 12) (mL 12) (mR 12) ∈ lw_tbl := kw_in 413 rfl
set_option maxRecDepth 20000 in
theorem kMw_13 : Cond.code (mN 13) (mB 13) (mL 13) (mR 13) ∈ lw_tbl := kw_in 417 rfl
set_option maxRecDepth 20000 in
theorem kMw_14 : Cond.code (mN 14) (mB 14) (mL 14) (mR 14) ∈ lw_tbl := kw_in 664 rfl
set_option maxRecDepth 20000 in
theorem kMw_15 : Cond.code (mN 15) (mB 15) (mL 15) (mR 15) ∈ lw_tbl := kw_in 450 rfl
set_option maxRecDepth 20000 in
theorem kMw_16 : Cond.code (mN 16) (mB 16) (mL 16) (mR 16) ∈ lw_tbl := kw_in 457 rfl
set_option maxRecDepth 20000 in
theorem kMw_17 : Cond.code (mN 17) (mB 17) (mL 17) (mR 17) ∈ lw_tbl := kw_in 466 rfl
set_option maxRecDepth 20000 in
theorem kMw_18 : Cond.code (mN 18) (mB 18) (mL 18) (mR 18) ∈ lw_tbl := kw_in 522 rfl
set_option maxRecDepth 20000 in
theorem kMw_19 : Cond.code (mN 19) (mB 19) (mL 19) (mR 19) ∈ lw_tbl := kw_in 537 rfl
set_option maxRecDepth 20000 in
theorem kMw_20 : Cond.code (mN 20) (mB 20) (mL 20) (mR 20) ∈ lw_tbl := kw_in 533 rfl
set_option maxRecDepth 20000 in
theorem kMw_21 : Cond.code (mN 21) (mB 21) (mL 21) (mR 21) ∈ lw_tbl := kw_in 597 rfl
set_option maxRecDepth 20000 in
theorem kMw_22 : Cond.code (mN 22) (mB 22) (mL 22) (mR 22) ∈ lw_tbl := kw_in 574 rfl
set_option maxRecDepth 20000 in
theorem kMw_23 : Cond.code (mN 23) (mB 23) (mL 23) (mR 23) ∈ lw_tbl := kw_in 541 rfl
set_option maxRecDepth 20000 in
theorem kMw_24 : Cond.code (mN 24) (mB 24) (mL 24) (mR 24) ∈ lw_tbl := kw_in 545 rfl
set_option maxRecDepth 20000 in
theorem kMw_25 : Cond.code (mN 25) (mB 25) (mL 25) (mR 25) ∈ lw_tbl := kw_in 555 rfl
set_option maxRecDepth 20000 in
theorem kMw_26 : Cond.code (mN 26) (mB 26) (mL 26) (mR 26) ∈ lw_tbl := kw_in 560 rfl
set_option maxRecDepth 20000 in
theorem kMw_27 : Cond.code (mN 27) (mB 27) (mL 27) (mR 27) ∈ lw_tbl := kw_in 676 rfl
set_option maxRecDepth 20000 in
theorem kMw_28 : Cond.code (mN 28) (mB 28) (mL 28) (mR 28) ∈ lw_tbl := kw_in 680 rfl
set_option maxRecDepth 20000 in
theorem kMw_29 : Cond.code (mN 29) (mB 29) (mL 29) (mR 29) ∈ lw_tbl := kw_in 233 rfl
set_option maxRecDepth 20000 in
theorem kMw_30 : Cond.code (mN 30) (mB 30) (mL 30) (mR 30) ∈ lw_tbl := kw_in 737 rfl
set_option maxRecDepth 20000 in
theorem kMw_31 : Cond.code (mN 31) (mB 31) (mL 31) (mR 31) ∈ lw_tbl := kw_in 725 rfl
set_option maxRecDepth 20000 in
theorem kMw_32 : Cond.code (mN 32) (mB 32) (mL 32) (mR 32) ∈ lw_tbl := kw_in 741 rfl
set_option maxRecDepth 20000 in
theorem kMw_33 : Cond.code (mN 33) (mB 33) (mL 33) (mR 33) ∈ lw_tbl := kw_in 749 rfl
set_option maxRecDepth 20000 in
theorem kMw_34 : Cond.code (mN 34) (mB 34) (mL 34) (mR 34) ∈ lw_tbl := kw_in 733 rfl
set_option maxRecDepth 20000 in
theorem kMw_35 : Cond.code (mN 35) (mB 35) (mL 35) (mR 35) ∈ lw_tbl := kw_in 180 rfl
set_option maxRecDepth 20000 in
theorem kMw_36 : Cond.code (mN 36) (mB 36) (mL 36) (mR 36) ∈ lw_tbl := kw_in 300 rfl
set_option maxRecDepth 20000 in
theorem kMw_37 : Cond.code (mN 37) (mB 37) (mL 37) (mR 37) ∈ lw_tbl := kw_in 325 rfl
set_option maxRecDepth 20000 in
theorem kMw_38 : Cond.code (mN 38) (mB 38) (mL 38) (mR 38) ∈ lw_tbl := kw_in 329 rfl
set_option maxRecDepth 20000 in
theorem kMw_39 : Cond.code (mN 39) (mB 39) (mL 39) (mR 39) ∈ lw_tbl := kw_in 398 rfl
set_option maxRecDepth 20000 in
theorem kMw_40 : Cond.code (mN 40) (mB 40) (mL 40) (mR 40) ∈ lw_tbl := kw_in 402 rfl
set_option maxRecDepth 20000 in
theorem kMw_41 : Cond.code (mN 41) (mB 41) (mL 41) (mR 41) ∈ lw_tbl := kw_in 405 rfl
set_option maxRecDepth 20000 in
theorem kMw_42 : Cond.code (mN 42) (mB 42) (mL 42) (mR 42) ∈ lw_tbl := kw_in 409 rfl
set_option maxRecDepth 20000 in
theorem kMw_43 : Cond.code (mN 43) (mB 43) (mL 43) (mR 43) ∈ lw_tbl := kw_in 425 rfl
set_option maxRecDepth 20000 in
theorem kMw_44 : Cond.code (mN 44) (mB 44) (mL 44) (mR 44) ∈ lw_tbl := kw_in 308 rfl
set_option maxRecDepth 20000 in
theorem kMw_45 : Cond.code (mN 45) (mB 45) (mL 45) (mR 45) ∈ lw_tbl := kw_in 312 rfl
set_option maxRecDepth 20000 in
theorem kMw_46 : Cond.code (mN 46) (mB 46) (mL 46) (mR 46) ∈ lw_tbl := kw_in 317 rfl
set_option maxRecDepth 20000 in
theorem kMw_47 : Cond.code (mN 47) (mB 47) (mL 47) (mR 47) ∈ lw_tbl := kw_in 321 rfl
set_option maxRecDepth 20000 in
theorem kMw_48 : Cond.code (mN 48) (mB 48) (mL 48) (mR 48) ∈ lw_tbl := kw_in 333 rfl
set_option maxRecDepth 20000 in
theorem kMw_49 : Cond.code (mN 49) (mB 49) (mL 49) (mR 49) ∈ lw_tbl := kw_in 336 rfl
set_option maxRecDepth 20000 in
theorem kMw_50 : Cond.code (mN 50) (mB 50) (mL 50) (mR 50) ∈ lw_tbl := kw_in 346 rfl
set_option maxRecDepth 20000 in
theorem kMw_51 : Cond.code (mN 51) (mB 51) (mL 51) (mR 51) ∈ lw_tbl := kw_in 79 rfl
set_option maxRecDepth 20000 in
theorem kMw_52 : Cond.code (mN 52) (mB 52) (mL 52) (mR 52) ∈ lw_tbl := kw_in 285 rfl
set_option maxRecDepth 20000 in
theorem kMw_53 : Cond.code (mN 53) (mB 53) (mL 53) (mR 53) ∈ lw_tbl := kw_in 292 rfl
set_option maxRecDepth 20000 in
theorem kMw_54 : Cond.code (mN 54) (mB 54) (mL 54) (mR 54) ∈ lw_tbl := kw_in 296 rfl
set_option maxRecDepth 20000 in
theorem kMw_55 : Cond.code (mN 55) (mB 55) (mL 55) (mR 55) ∈ lw_tbl := kw_in 442 rfl
set_option maxRecDepth 20000 in
theorem kMw_56 : Cond.code (mN 56) (mB 56) (mL 56) (mR 56) ∈ lw_tbl := kw_in 446 rfl
set_option maxRecDepth 20000 in
theorem kMw_57 : Cond.code (mN 57) (mB 57) (mL 57) (mR 57) ∈ lw_tbl := kw_in 461 rfl
set_option maxRecDepth 20000 in
theorem kMw_58 : Cond.code (mN 58) (mB 58) (mL 58) (mR 58) ∈ lw_tbl := kw_in 478 rfl
set_option maxRecDepth 20000 in
theorem kMw_59 : Cond.code (mN 59) (mB 59) (mL 59) (mR 59) ∈ lw_tbl := kw_in 486 rfl
set_option maxRecDepth 20000 in
theorem kMw_60 : Cond.code (mN 60) (mB 60) (mL 60) (mR 60) ∈ lw_tbl := kw_in 493 rfl
set_option maxRecDepth 20000 in
theorem kMw_61 : Cond.code (mN 61) (mB 61) (mL 61) (mR 61) ∈ lw_tbl := kw_in 500 rfl
set_option maxRecDepth 20000 in
theorem kMw_62 : Cond.code (mN 62) (mB 62) (mL 62) (mR 62) ∈ lw_tbl := kw_in 505 rfl
set_option maxRecDepth 20000 in
theorem kMw_63 : Cond.code (mN 63) (mB 63) (mL 63) (mR 63) ∈ lw_tbl := kw_in 509 rfl
set_option maxRecDepth 20000 in
theorem kMw_64 : Cond.code (mN 64) (mB 64) (mL 64) (mR 64) ∈ lw_tbl := kw_in 514 rfl
set_option maxRecDepth 20000 in
theorem kMw_65 : Cond.code (mN 65) (mB 65) (mL 65) (mR 65) ∈ lw_tbl := kw_in 518 rfl
set_option maxRecDepth 20000 in
theorem kMw_66 : Cond.code (mN 66) (mB 66) (mL 66) (mR 66) ∈ lw_tbl := kw_in 570 rfl
set_option maxRecDepth 20000 in
theorem kMw_67 : Cond.code (mN 67) (mB 67) (mL 67) (mR 67) ∈ lw_tbl := kw_in 578 rfl
set_option maxRecDepth 20000 in
theorem kMw_68 : Cond.code (mN 68) (mB 68) (mL 68) (mR 68) ∈ lw_tbl := kw_in 582 rfl
set_option maxRecDepth 20000 in
theorem kMw_69 : Cond.code (mN 69) (mB 69) (mL 69) (mR 69) ∈ lw_tbl := kw_in 586 rfl
set_option maxRecDepth 20000 in
theorem kMw_70 : Cond.code (mN 70) (mB 70) (mL 70) (mR 70) ∈ lw_tbl := kw_in 611 rfl
set_option maxRecDepth 20000 in
theorem kMw_71 : Cond.code (mN 71) (mB 71) (mL 71) (mR 71) ∈ lw_tbl := kw_in 615 rfl
set_option maxRecDepth 20000 in
theorem kMw_72 : Cond.code (mN 72) (mB 72) (mL 72) (mR 72) ∈ lw_tbl := kw_in 619 rfl
set_option maxRecDepth 20000 in
theorem kMw_73 : Cond.code (mN 73) (mB 73) (mL 73) (mR 73) ∈ lw_tbl := kw_in 627 rfl
set_option maxRecDepth 20000 in
theorem kMw_74 : Cond.code (mN 74) (mB 74) (mL 74) (mR 74) ∈ lw_tbl := kw_in 631 rfl
set_option maxRecDepth 20000 in
theorem kMw_75 : Cond.code (mN 75) (mB 75) (mL 75) (mR 75) ∈ lw_tbl := kw_in 635 rfl
set_option maxRecDepth 20000 in
theorem kMw_76 : Cond.code (mN 76) (mB 76) (mL 76) (mR 76) ∈ lw_tbl := kw_in 656 rfl
set_option maxRecDepth 20000 in
theorem kMw_77 : Cond.code (mN 77) (mB 77) (mL 77) (mR 77) ∈ lw_tbl := kw_in 660 rfl
set_option maxRecDepth 20000 in
theorem kMw_78 : Cond.code (mN 78) (mB 78) (mL 78) (mR 78) ∈ lw_tbl := kw_in 668 rfl
set_option maxRecDepth 20000 in
theorem kMw_79 : Cond.code (mN 79) (mB 79) (mL 79) (mR 79) ∈ lw_tbl := kw_in 672 rfl
set_option maxRecDepth 20000 in
theorem kMw_80 : Cond.code (mN 80) (mB 80) (mL 80) (mR 80) ∈ lw_tbl := kw_in 684 rfl
set_option maxRecDepth 20000 in
theorem kMw_81 : Cond.code (mN 81) (mB 81) (mL 81) (mR 81) ∈ lw_tbl := kw_in 688 rfl
set_option maxRecDepth 20000 in
theorem kMw_82 : Cond.code (mN 82) (mB 82) (mL 82) (mR 82) ∈ lw_tbl := kw_in 707 rfl
set_option maxRecDepth 20000 in
theorem kMw_83 : Cond.code (mN 83) (mB 83) (mL 83) (mR 83) ∈ lw_tbl := kw_in 713 rfl
set_option maxRecDepth 20000 in
theorem kMw_84 : Cond.code (mN 84) (mB 84) (mL 84) (mR 84) ∈ lw_tbl := kw_in 717 rfl
set_option maxRecDepth 20000 in
theorem kMw_85 : Cond.code (mN 85) (mB 85) (mL 85) (mR 85) ∈ lw_tbl := kw_in 721 rfl
set_option maxRecDepth 20000 in
theorem kMw_86 : Cond.code (mN 86) (mB 86) (mL 86) (mR 86) ∈ lw_tbl := kw_in 729 rfl
set_option maxRecDepth 20000 in
theorem kMw_87 : Cond.code (mN 87) (mB 87) (mL 87) (mR 87) ∈ lw_tbl := kw_in 745 rfl
set_option maxRecDepth 20000 in
theorem kMw_88 : Cond.code (mN 88) (mB 88) (mL 88) (mR 88) ∈ lw_tbl := kw_in 755 rfl
set_option maxRecDepth 20000 in
theorem kMw_89 : Cond.code (mN 89) (mB 89) (mL 89) (mR 89) ∈ lw_tbl := kw_in 759 rfl
set_option maxRecDepth 20000 in
theorem kMw_90 : Cond.code (mN 90) (mB 90) (mL 90) (mR 90) ∈ lw_tbl := kw_in 288 rfl
set_option maxRecDepth 20000 in
theorem kMw_91 : Cond.code (mN 91) (mB 91) (mL 91) (mR 91) ∈ lw_tbl := kw_in 589 rfl
set_option maxRecDepth 20000 in
theorem kMw_92 : Cond.code (mN 92) (mB 92) (mL 92) (mR 92) ∈ lw_tbl := kw_in 638 rfl
set_option maxRecDepth 20000 in
theorem kMw_93 : Cond.code (mN 93) (mB 93) (mL 93) (mR 93) ∈ lw_tbl := kw_in 496 rfl
set_option maxRecDepth 20000 in
theorem kMw_94 : Cond.code (mN 94) (mB 94) (mL 94) (mR 94) ∈ lw_tbl := kw_in 453 rfl
set_option maxRecDepth 20000 in
theorem kMw_95 : Cond.code (mN 95) (mB 95) (mL 95) (mR 95) ∈ lw_tbl := kw_in 623 rfl
set_option maxRecDepth 20000 in
theorem kMw_96 : Cond.code (mN 96) (mB 96) (mL 96) (mR 96) ∈ lw_tbl := kw_in 489 rfl
set_option maxRecDepth 20000 in
theorem kMw_97 : Cond.code (mN 97) (mB 97) (mL 97) (mR 97) ∈ lw_tbl := kw_in 563 rfl
set_option maxRecDepth 20000 in
theorem kMw_98 : Cond.code (mN 98) (mB 98) (mL 98) (mR 98) ∈ lw_tbl := kw_in 566 rfl
set_option maxRecDepth 20000 in
theorem kMw_99 : Cond.code (mN 99) (mB 99) (mL 99) (mR 99) ∈ lw_tbl := kw_in 645 rfl
set_option maxRecDepth 20000 in
theorem kMw_100 : Cond.code (mN 100) (mB 100) (mL 100) (mR 100) ∈ lw_tbl := kw_in 642 rfl
set_option maxRecDepth 20000 in
theorem kMw_101 : Cond.code (mN 101) (mB 101) (mL 101) (mR 101) ∈ lw_tbl := kw_in 649 rfl
set_option maxRecDepth 20000 in
theorem kMw_102 : Cond.code (mN 102) (mB 102) (mL 102) (mR 102) ∈ lw_tbl := kw_in 652 rfl
set_option maxRecDepth 20000 in
theorem kMw_103 : Cond.code (mN 103) (mB 103) (mL 103) (mR 103) ∈ lw_tbl := kw_in 696 rfl
set_option maxRecDepth 20000 in
theorem kMw_104 : Cond.code (mN 104) (mB 104) (mL 104) (mR 104) ∈ lw_tbl := kw_in 693 rfl
set_option maxRecDepth 20000 in
theorem kMw_105 : Cond.code (mN 105) (mB 105) (mL 105) (mR 105) ∈ lw_tbl := kw_in 702 rfl
set_option maxRecDepth 20000 in
theorem kMw_106 : Cond.code (mN 106) (mB 106) (mL 106) (mR 106) ∈ lw_tbl := kw_in 766 rfl
set_option maxRecDepth 20000 in
theorem kMw_107 : Cond.code (mN 107) (mB 107) (mL 107) (mR 107) ∈ lw_tbl := kw_in 868 rfl
set_option maxRecDepth 20000 in
theorem kMw_108 : Cond.code (mN 108) (mB 108) (mL 108) (mR 108) ∈ lw_tbl := kw_in 951 rfl
set_option maxRecDepth 20000 in
theorem kMw_109 : Cond.code (mN 109) (mB 109) (mL 109) (mR 109) ∈ lw_tbl := kw_in 1051 rfl
set_option maxRecDepth 20000 in
theorem kMw_110 : Cond.code (mN 110) (mB 110) (mL 110) (mR 110) ∈ lw_tbl := kw_in 771 rfl
set_option maxRecDepth 20000 in
theorem kMw_111 : Cond.code (mN 111) (mB 111) (mL 111) (mR 111) ∈ lw_tbl := kw_in 775 rfl
set_option maxRecDepth 20000 in
theorem kMw_112 : Cond.code (mN 112) (mB 112) (mL 112) (mR 112) ∈ lw_tbl := kw_in 864 rfl
set_option maxRecDepth 20000 in
theorem kMw_113 : Cond.code (mN 113) (mB 113) (mL 113) (mR 113) ∈ lw_tbl := kw_in 872 rfl
set_option maxRecDepth 20000 in
theorem kMw_114 : Cond.code (mN 114) (mB 114) (mL 114) (mR 114) ∈ lw_tbl := kw_in 892 rfl
set_option maxRecDepth 20000 in
theorem kMw_115 : Cond.code (mN 115) (mB 115) (mL 115) (mR 115) ∈ lw_tbl := kw_in 884 rfl
set_option maxRecDepth 20000 in
theorem kMw_116 : Cond.code (mN 116) (mB 116) (mL 116) (mR 116) ∈ lw_tbl := kw_in 904 rfl
set_option maxRecDepth 20000 in
theorem kMw_117 : Cond.code (mN 117) (mB 117) (mL 117) (mR 117) ∈ lw_tbl := kw_in 908 rfl
set_option maxRecDepth 20000 in
theorem kMw_118 : Cond.code (mN 118) (mB 118) (mL 118) (mR 118) ∈ lw_tbl := kw_in 900 rfl
set_option maxRecDepth 20000 in
theorem kMw_119 : Cond.code (mN 119) (mB 119) (mL 119) (mR 119) ∈ lw_tbl := kw_in 880 rfl
set_option maxRecDepth 20000 in
theorem kMw_120 : Cond.code (mN 120) (mB 120) (mL 120) (mR 120) ∈ lw_tbl := kw_in 920 rfl
set_option maxRecDepth 20000 in
theorem kMw_121 : Cond.code (mN 121) (mB 121) (mL 121) (mR 121) ∈ lw_tbl := kw_in 916 rfl
set_option maxRecDepth 20000 in
theorem kMw_122 : Cond.code (mN 122) (mB 122) (mL 122) (mR 122) ∈ lw_tbl := kw_in 912 rfl
set_option maxRecDepth 20000 in
theorem kMw_123 : Cond.code (mN 123) (mB 123) (mL 123) (mR 123) ∈ lw_tbl := kw_in 896 rfl
set_option maxRecDepth 20000 in
theorem kMw_124 : Cond.code (mN 124) (mB 124) (mL 124) (mR 124) ∈ lw_tbl := kw_in 876 rfl
set_option maxRecDepth 20000 in
theorem kMw_125 : Cond.code (mN 125) (mB 125) (mL 125) (mR 125) ∈ lw_tbl := kw_in 924 rfl
set_option maxRecDepth 20000 in
theorem kMw_126 : Cond.code (mN 126) (mB 126) (mL 126) (mR 126) ∈ lw_tbl := kw_in 959 rfl
set_option maxRecDepth 20000 in
theorem kMw_127 : Cond.code (mN 127) (mB 127) (mL 127) (mR 127) ∈ lw_tbl := kw_in 976 rfl
set_option maxRecDepth 20000 in
theorem kMw_128 : Cond.code (mN 128) (mB 128) (mL 128) (mR 128) ∈ lw_tbl := kw_in 984 rfl
set_option maxRecDepth 20000 in
theorem kMw_129 : Cond.code (mN 129) (mB 129) (mL 129) (mR 129) ∈ lw_tbl := kw_in 1088 rfl
set_option maxRecDepth 20000 in
theorem kMw_130 : Cond.code (mN 130) (mB 130) (mL 130) (mR 130) ∈ lw_tbl := kw_in 932 rfl
set_option maxRecDepth 20000 in
theorem kMw_131 : Cond.code (mN 131) (mB 131) (mL 131) (mR 131) ∈ lw_tbl := kw_in 1065 rfl
set_option maxRecDepth 20000 in
theorem kMw_132 : Cond.code (mN 132) (mB 132) (mL 132) (mR 132) ∈ lw_tbl := kw_in 940 rfl
set_option maxRecDepth 20000 in
theorem kMw_133 : Cond.code (mN 133) (mB 133) (mL 133) (mR 133) ∈ lw_tbl := kw_in 1055 rfl
set_option maxRecDepth 20000 in
theorem kMw_134 : Cond.code (mN 134) (mB 134) (mL 134) (mR 134) ∈ lw_tbl := kw_in 948 rfl
set_option maxRecDepth 20000 in
theorem kMw_135 : Cond.code (mN 135) (mB 135) (mL 135) (mR 135) ∈ lw_tbl := kw_in 1040 rfl
set_option maxRecDepth 20000 in
theorem kMw_136 : Cond.code (mN 136) (mB 136) (mL 136) (mR 136) ∈ lw_tbl := kw_in 988 rfl
set_option maxRecDepth 20000 in
theorem kMw_137 : Cond.code (mN 137) (mB 137) (mL 137) (mR 137) ∈ lw_tbl := kw_in 1058 rfl
set_option maxRecDepth 20000 in
theorem kMw_138 : Cond.code (mN 138) (mB 138) (mL 138) (mR 138) ∈ lw_tbl := kw_in 1061 rfl
set_option maxRecDepth 20000 in
theorem kMw_139 : Cond.code (mN 139) (mB 139) (mL 139) (mR 139) ∈ lw_tbl := kw_in 964 rfl
set_option maxRecDepth 20000 in
theorem kMw_140 : Cond.code (mN 140) (mB 140) (mL 140) (mR 140) ∈ lw_tbl := kw_in 968 rfl
set_option maxRecDepth 20000 in
theorem kMw_141 : Cond.code (mN 141) (mB 141) (mL 141) (mR 141) ∈ lw_tbl := kw_in 1048 rfl
set_option maxRecDepth 20000 in
theorem kMw_142 : Cond.code (mN 142) (mB 142) (mL 142) (mR 142) ∈ lw_tbl := kw_in 1044 rfl
set_option maxRecDepth 20000 in
theorem kMw_143 : Cond.code (mN 143) (mB 143) (mL 143) (mR 143) ∈ lw_tbl := kw_in 1036 rfl
set_option maxRecDepth 20000 in
theorem kMw_144 : Cond.code (mN 144) (mB 144) (mL 144) (mR 144) ∈ lw_tbl := kw_in 1032 rfl
set_option maxRecDepth 20000 in
theorem kMw_145 : Cond.code (mN 145) (mB 145) (mL 145) (mR 145) ∈ lw_tbl := kw_in 1028 rfl
set_option maxRecDepth 20000 in
theorem kMw_146 : Cond.code (mN 146) (mB 146) (mL 146) (mR 146) ∈ lw_tbl := kw_in 936 rfl
set_option maxRecDepth 20000 in
theorem kMw_147 : Cond.code (mN 147) (mB 147) (mL 147) (mR 147) ∈ lw_tbl := kw_in 1100 rfl
set_option maxRecDepth 20000 in
theorem kMw_148 : Cond.code (mN 148) (mB 148) (mL 148) (mR 148) ∈ lw_tbl := kw_in 944 rfl
set_option maxRecDepth 20000 in
theorem kMw_149 : Cond.code (mN 149) (mB 149) (mL 149) (mR 149) ∈ lw_tbl := kw_in 928 rfl
set_option maxRecDepth 20000 in
theorem kMw_150 : Cond.code (mN 150) (mB 150) (mL 150) (mR 150) ∈ lw_tbl := kw_in 955 rfl
set_option maxRecDepth 20000 in
theorem kMw_151 : Cond.code (mN 151) (mB 151) (mL 151) (mR 151) ∈ lw_tbl := kw_in 972 rfl
set_option maxRecDepth 20000 in
theorem kMw_152 : Cond.code (mN 152) (mB 152) (mL 152) (mR 152) ∈ lw_tbl := kw_in 981 rfl
set_option maxRecDepth 20000 in
theorem kMw_153 : Cond.code (mN 153) (mB 153) (mL 153) (mR 153) ∈ lw_tbl := kw_in 998 rfl
set_option maxRecDepth 20000 in
theorem kMw_154 : Cond.code (mN 154) (mB 154) (mL 154) (mR 154) ∈ lw_tbl := kw_in 992 rfl
set_option maxRecDepth 20000 in
theorem kMw_155 : Cond.code (mN 155) (mB 155) (mL 155) (mR 155) ∈ lw_tbl := kw_in 1006 rfl
set_option maxRecDepth 20000 in
theorem kMw_156 : Cond.code (mN 156) (mB 156) (mL 156) (mR 156) ∈ lw_tbl := kw_in 1002 rfl
set_option maxRecDepth 20000 in
theorem kMw_157 : Cond.code (mN 157) (mB 157) (mL 157) (mR 157) ∈ lw_tbl := kw_in 1010 rfl
set_option maxRecDepth 20000 in
theorem kMw_158 : Cond.code (mN 158) (mB 158) (mL 158) (mR 158) ∈ lw_tbl := kw_in 1015 rfl
set_option maxRecDepth 20000 in
theorem kMw_159 : Cond.code (mN 159) (mB 159) (mL 159) (mR 159) ∈ lw_tbl := kw_in 1019 rfl
set_option maxRecDepth 20000 in
theorem kMw_160 : Cond.code (mN 160) (mB 160) (mL 160) (mR 160) ∈ lw_tbl := kw_in 1023 rfl
set_option maxRecDepth 20000 in
theorem kMw_161 : Cond.code (mN 161) (mB 161) (mL 161) (mR 161) ∈ lw_tbl := kw_in 1072 rfl
set_option maxRecDepth 20000 in
theorem kMw_162 : Cond.code (mN 162) (mB 162) (mL 162) (mR 162) ∈ lw_tbl := kw_in 1069 rfl
set_option maxRecDepth 20000 in
theorem kMw_163 : Cond.code (mN 163) (mB 163) (mL 163) (mR 163) ∈ lw_tbl := kw_in 1077 rfl
set_option maxRecDepth 20000 in
theorem kMw_164 : Cond.code (mN 164) (mB 164) (mL 164) (mR 164) ∈ lw_tbl := kw_in 1081 rfl
set_option maxRecDepth 20000 in
theorem kMw_165 : Cond.code (mN 165) (mB 165) (mL 165) (mR 165) ∈ lw_tbl := kw_in 1096 rfl
set_option maxRecDepth 20000 in
theorem kMw_166 : Cond.code (mN 166) (mB 166) (mL 166) (mR 166) ∈ lw_tbl := kw_in 1104 rfl
set_option maxRecDepth 20000 in
theorem kMw_167 : Cond.code (mN 167) (mB 167) (mL 167) (mR 167) ∈ lw_tbl := kw_in 1108 rfl
set_option maxRecDepth 20000 in
theorem kMw_168 : Cond.code (mN 168) (mB 168) (mL 168) (mR 168) ∈ lw_tbl := kw_in 1092 rfl
set_option maxRecDepth 20000 in
theorem kMw_169 : Cond.code (mN 169) (mB 169) (mL 169) (mR 169) ∈ lw_tbl := kw_in 1085 rfl
set_option maxRecDepth 20000 in
theorem kMw_170 : Cond.code (mN 170) (mB 170) (mL 170) (mR 170) ∈ lw_tbl := kw_in 1112 rfl
set_option maxRecDepth 20000 in
theorem kMw_171 : Cond.code (mN 171) (mB 171) (mL 171) (mR 171) ∈ lw_tbl := kw_in 1116 rfl
set_option maxRecDepth 20000 in
theorem kMw_172 : Cond.code (mN 172) (mB 172) (mL 172) (mR 172) ∈ lw_tbl := kw_in 1120 rfl
set_option maxRecDepth 20000 in
theorem kMw_173 : Cond.code (mN 173) (mB 173) (mL 173) (mR 173) ∈ lw_tbl := kw_in 1124 rfl
set_option maxRecDepth 20000 in
theorem kMw_174 : Cond.code (mN 174) (mB 174) (mL 174) (mR 174) ∈ lw_tbl := kw_in 1128 rfl
set_option maxRecDepth 20000 in
theorem kMw_175 : Cond.code (mN 175) (mB 175) (mL 175) (mR 175) ∈ lw_tbl := kw_in 1145 rfl
set_option maxRecDepth 20000 in
theorem kMw_176 : Cond.code (mN 176) (mB 176) (mL 176) (mR 176) ∈ lw_tbl := kw_in 1142 rfl
set_option maxRecDepth 20000 in
theorem kMw_177 : Cond.code (mN 177) (mB 177) (mL 177) (mR 177) ∈ lw_tbl := kw_in 1139 rfl
set_option maxRecDepth 20000 in
theorem kMw_178 : Cond.code (mN 178) (mB 178) (mL 178) (mR 178) ∈ lw_tbl := kw_in 1132 rfl
set_option maxRecDepth 20000 in
theorem kMw_179 : Cond.code (mN 179) (mB 179) (mL 179) (mR 179) ∈ lw_tbl := kw_in 1149 rfl
set_option maxRecDepth 20000 in
theorem kMw_180 : Cond.code (mN 180) (mB 180) (mL 180) (mR 180) ∈ lw_tbl := kw_in 1153 rfl
set_option maxRecDepth 20000 in
theorem kMw_181 : Cond.code (mN 181) (mB 181) (mL 181) (mR 181) ∈ lw_tbl := kw_in 1157 rfl
set_option maxRecDepth 20000 in
theorem kMw_182 : Cond.code (mN 182) (mB 182) (mL 182) (mR 182) ∈ lw_tbl := kw_in 1169 rfl
set_option maxRecDepth 20000 in
theorem kMw_183 : Cond.code (mN 183) (mB 183) (mL 183) (mR 183) ∈ lw_tbl := kw_in 1165 rfl
set_option maxRecDepth 20000 in
theorem kMw_184 : Cond.code (mN 184) (mB 184) (mL 184) (mR 184) ∈ lw_tbl := kw_in 1161 rfl
set_option maxRecDepth 20000 in
theorem kMw_185 : Cond.code (mN 185) (mB 185) (mL 185) (mR 185) ∈ lw_tbl := kw_in 1173 rfl
set_option maxRecDepth 20000 in
theorem kMw_186 : Cond.code (mN 186) (mB 186) (mL 186) (mR 186) ∈ lw_tbl := kw_in 1181 rfl
set_option maxRecDepth 20000 in
theorem kMw_187 : Cond.code (mN 187) (mB 187) (mL 187) (mR 187) ∈ lw_tbl := kw_in 1177 rfl
set_option maxRecDepth 20000 in
theorem kMw_188 : Cond.code (mN 188) (mB 188) (mL 188) (mR 188) ∈ lw_tbl := kw_in 1185 rfl
set_option maxRecDepth 20000 in
theorem kMw_189 : Cond.code (mN 189) (mB 189) (mL 189) (mR 189) ∈ lw_tbl := kw_in 1194 rfl
set_option maxRecDepth 20000 in
theorem kMw_190 : Cond.code (mN 190) (mB 190) (mL 190) (mR 190) ∈ lw_tbl := kw_in 1190 rfl
set_option maxRecDepth 20000 in
theorem kMw_191 : Cond.code (mN 191) (mB 191) (mL 191) (mR 191) ∈ lw_tbl := kw_in 1198 rfl
set_option maxRecDepth 20000 in
theorem kMw_192 : Cond.code (mN 192) (mB 192) (mL 192) (mR 192) ∈ lw_tbl := kw_in 1205 rfl
set_option maxRecDepth 20000 in
theorem kMw_193 : Cond.code (mN 193) (mB 193) (mL 193) (mR 193) ∈ lw_tbl := kw_in 1202 rfl
set_option maxRecDepth 20000 in
theorem kMw_194 : Cond.code (mN 194) (mB 194) (mL 194) (mR 194) ∈ lw_tbl := kw_in 1210 rfl
set_option maxRecDepth 20000 in
theorem kMw_195 : Cond.code (mN 195) (mB 195) (mL 195) (mR 195) ∈ lw_tbl := kw_in 1214 rfl
set_option maxRecDepth 20000 in
theorem kMw_196 : Cond.code (mN 196) (mB 196) (mL 196) (mR 196) ∈ lw_tbl := kw_in 1219 rfl
set_option maxRecDepth 20000 in
theorem kMw_197 : Cond.code (mN 197) (mB 197) (mL 197) (mR 197) ∈ lw_tbl := kw_in 1223 rfl
set_option maxRecDepth 20000 in
theorem kMw_198 : Cond.code (mN 198) (mB 198) (mL 198) (mR 198) ∈ lw_tbl := kw_in 526 rfl
theorem kMw : ∀ y, y < 199 → Cond.code (mN y) (mB y) (mL y) (mR y) ∈ lw_tbl := fun y => match y with
  | 0 => fun _ => kMw_0
  | 1 => fun _ => kMw_1
  | 2 => fun _ => kMw_2
  | 3 => fun _ => kMw_3
  | 4 => fun _ => kMw_4
  | 5 => fun _ => kMw_5
  | 6 => fun _ => kMw_6
  | 7 => fun _ => kMw_7
  | 8 => fun _ => kMw_8
  | 9 => fun _ => kMw_9
  | 10 => fun _ => kMw_10
  | 11 => fun _ => kMw_11
  | 12 => fun _ => kMw_12
  | 13 => fun _ => kMw_13
  | 14 => fun _ => kMw_14
  | 15 => fun _ => kMw_15
  | 16 => fun _ => kMw_16
  | 17 => fun _ => kMw_17
  | 18 => fun _ => kMw_18
  | 19 => fun _ => kMw_19
  | 20 => fun _ => kMw_20
  | 21 => fun _ => kMw_21
  | 22 => fun _ => kMw_22
  | 23 => fun _ => kMw_23
  | 24 => fun _ => kMw_24
  | 25 => fun _ => kMw_25
  | 26 => fun _ => kMw_26
  | 27 => fun _ => kMw_27
  | 28 => fun _ => kMw_28
  | 29 => fun _ => kMw_29
  | 30 => fun _ => kMw_30
  | 31 => fun _ => kMw_31
  | 32 => fun _ => kMw_32
  | 33 => fun _ => kMw_33
  | 34 => fun _ => kMw_34
  | 35 => fun _ => kMw_35
  | 36 => fun _ => kMw_36
  | 37 => fun _ => kMw_37
  | 38 => fun _ => kMw_38
  | 39 => fun _ => kMw_39
  | 40 => fun _ => kMw_40
  | 41 => fun _ => kMw_41
  | 42 => fun _ => kMw_42
  | 43 => fun _ => kMw_43
  | 44 => fun _ => kMw_44
  | 45 => fun _ => kMw_45
  | 46 => fun _ => kMw_46
  | 47 => fun _ => kMw_47
  | 48 => fun _ => kMw_48
  | 49 => fun _ => kMw_49
  | 50 => fun _ => kMw_50
  | 51 => fun _ => kMw_51
  | 52 => fun _ => kMw_52
  | 53 => fun _ => kMw_53
  | 54 => fun _ => kMw_54
  | 55 => fun _ => kMw_55
  | 56 => fun _ => kMw_56
  | 57 => fun _ => kMw_57
  | 58 => fun _ => kMw_58
  | 59 => fun _ => kMw_59
  | 60 => fun _ => kMw_60
  | 61 => fun _ => kMw_61
  | 62 => fun _ => kMw_62
  | 63 => fun _ => kMw_63
  | 64 => fun _ => kMw_64
  | 65 => fun _ => kMw_65
  | 66 => fun _ => kMw_66
  | 67 => fun _ => kMw_67
  | 68 => fun _ => kMw_68
  | 69 => fun _ => kMw_69
  | 70 => fun _ => kMw_70
  | 71 => fun _ => kMw_71
  | 72 => fun _ => kMw_72
  | 73 => fun _ => kMw_73
  | 74 => fun _ => kMw_74
  | 75 => fun _ => kMw_75
  | 76 => fun _ => kMw_76
  | 77 => fun _ => kMw_77
  | 78 => fun _ => kMw_78
  | 79 => fun _ => kMw_79
  | 80 => fun _ => kMw_80
  | 81 => fun _ => kMw_81
  | 82 => fun _ => kMw_82
  | 83 => fun _ => kMw_83
  | 84 => fun _ => kMw_84
  | 85 => fun _ => kMw_85
  | 86 => fun _ => kMw_86
  | 87 => fun _ => kMw_87
  | 88 => fun _ => kMw_88
  | 89 => fun _ => kMw_89
  | 90 => fun _ => kMw_90
  | 91 => fun _ => kMw_91
  | 92 => fun _ => kMw_92
  | 93 => fun _ => kMw_93
  | 94 => fun _ => kMw_94
  | 95 => fun _ => kMw_95
  | 96 => fun _ => kMw_96
  | 97 => fun _ => kMw_97
  | 98 => fun _ => kMw_98
  | 99 => fun _ => kMw_99
  | 100 => fun _ => kMw_100
  | 101 => fun _ => kMw_101
  | 102 => fun _ => kMw_102
  | 103 => fun _ => kMw_103
  | 104 => fun _ => kMw_104
  | 105 => fun _ => kMw_105
  | 106 => fun _ => kMw_106
  | 107 => fun _ => kMw_107
  | 108 => fun _ => kMw_108
  | 109 => fun _ => kMw_109
  | 110 => fun _ => kMw_110
  | 111 => fun _ => kMw_111
  | 112 => fun _ => kMw_112
  | 113 => fun _ => kMw_113
  | 114 => fun _ => kMw_114
  | 115 => fun _ => kMw_115
  | 116 => fun _ => kMw_116
  | 117 => fun _ => kMw_117
  | 118 => fun _ => kMw_118
  | 119 => fun _ => kMw_119
  | 120 => fun _ => kMw_120
  | 121 => fun _ => kMw_121
  | 122 => fun _ => kMw_122
  | 123 => fun _ => kMw_123
  | 124 => fun _ => kMw_124
  | 125 => fun _ => kMw_125
  | 126 => fun _ => kMw_126
  | 127 => fun _ => kMw_127
  | 128 => fun _ => kMw_128
  | 129 => fun _ => kMw_129
  | 130 => fun _ => kMw_130
  | 131 => fun _ => kMw_131
  | 132 => fun _ => kMw_132
  | 133 => fun _ => kMw_133
  | 134 => fun _ => kMw_134
  | 135 => fun _ => kMw_135
  | 136 => fun _ => kMw_136
  | 137 => fun _ => kMw_137
  | 138 => fun _ => kMw_138
  | 139 => fun _ => kMw_139
  | 140 => fun _ => kMw_140
  | 141 => fun _ => kMw_141
  | 142 => fun _ => kMw_142
  | 143 => fun _ => kMw_143
  | 144 => fun _ => kMw_144
  | 145 => fun _ => kMw_145
  | 146 => fun _ => kMw_146
  | 147 => fun _ => kMw_147
  | 148 => fun _ => kMw_148
  | 149 => fun _ => kMw_149
  | 150 => fun _ => kMw_150
  | 151 => fun _ => kMw_151
  | 152 => fun _ => kMw_152
  | 153 => fun _ => kMw_153
  | 154 => fun _ => kMw_154
  | 155 => fun _ => kMw_155
  | 156 => fun _ => kMw_156
  | 157 => fun _ => kMw_157
  | 158 => fun _ => kMw_158
  | 159 => fun _ => kMw_159
  | 160 => fun _ => kMw_160
  | 161 => fun _ => kMw_161
  | 162 => fun _ => kMw_162
  | 163 => fun _ => kMw_163
  | 164 => fun _ => kMw_164
  | 165 => fun _ => kMw_165
  | 166 => fun _ => kMw_166
  | 167 => fun _ => kMw_167
  | 168 => fun _ => kMw_168
  | 169 => fun _ => kMw_169
  | 170 => fun _ => kMw_170
  | 171 => fun _ => kMw_171
  | 172 => fun _ => kMw_172
  | 173 => fun _ => kMw_173
  | 174 => fun _ => kMw_174
  | 175 => fun _ => kMw_175
  | 176 => fun _ => kMw_176
  | 177 => fun _ => kMw_177
  | 178 => fun _ => kMw_178
  | 179 => fun _ => kMw_179
  | 180 => fun _ => kMw_180
  | 181 => fun _ => kMw_181
  | 182 => fun _ => kMw_182
  | 183 => fun _ => kMw_183
  | 184 => fun _ => kMw_184
  | 185 => fun _ => kMw_185
  | 186 => fun _ => kMw_186
  | 187 => fun _ => kMw_187
  | 188 => fun _ => kMw_188
  | 189 => fun _ => kMw_189
  | 190 => fun _ => kMw_190
  | 191 => fun _ => kMw_191
  | 192 => fun _ => kMw_192
  | 193 => fun _ => kMw_193
  | 194 => fun _ => kMw_194
  | 195 => fun _ => kMw_195
  | 196 => fun _ => kMw_196
  | 197 => fun _ => kMw_197
  | 198 => fun _ => kMw_198
  | n + 199 => fun h => absurd h (by omega)
theorem kMs_0 : (if kStat 0 then Cond.static (mN 0) else Cond.instanceMethod (mN 0)) ∈ lw_tbl := kw_in 166 (by decide +kernel)
theorem kMs_1 : (if kStat 1 then Cond.static (mN 1) else Cond.instanceMethod (mN 1)) ∈ lw_tbl := kw_in 591 (by decide +kernel)
theorem kMs_2 : (if kStat 2 then Cond.static (mN 2) else Cond.instanceMethod (mN 2)) ∈ lw_tbl := kw_in 601 (by decide +kernel)
theorem kMs_3 : (if kStat 3 then Cond.static (mN 3) else Cond.instanceMethod (mN 3)) ∈ lw_tbl := kw_in 605 (by decide +kernel)
theorem kMs_4 : (if kStat 4 then Cond.static (mN 4) else Cond.instanceMethod (mN 4)) ∈ lw_tbl := kw_in 86 (by decide +kernel)
theorem kMs_5 : (if kStat 5 then Cond.static (mN 5) else Cond.instanceMethod (mN 5)) ∈ lw_tbl := kw_in 302 (by decide +kernel)
theorem kMs_6 : (if kStat 6 then Cond.static (mN 6) else Cond.instanceMethod (mN 6)) ∈ lw_tbl := kw_in 432 (by decide +kernel)
theorem kMs_7 : (if kStat 7 then Cond.static (mN 7) else Cond.instanceMethod (mN 7)) ∈ lw_tbl := kw_in 427 (by decide +kernel)
theorem kMs_8 : (if kStat 8 then Cond.static (mN 8) else Cond.instanceMethod (mN 8)) ∈ lw_tbl := kw_in 480 (by decide +kernel)
theorem kMs_9 : (if kStat 9 then Cond.static (mN 9) else Cond.instanceMethod (mN 9)) ∈ lw_tbl := kw_in 468 (by decide +kernel)
theorem kMs_10 : (if kStat 10 then Cond.static (mN 10) else Cond.instanceMethod (mN 10)) ∈ lw_tbl := kw_in 472 (by decide +kernel)
theorem kMs_11 : (if kStat 11 then Cond.static (mN 11) else Cond.instanceMethod (mN 11)) ∈ lw_tbl := kw_in 419 (by decide +kernel)
theorem kMs_12 : (if kStat 12 then Cond.static (mN 12) else Cond.instanceMethod (mN 12)) ∈ lw_tbl := kw_in 411 (by decide +kernel)
theorem kMs_13 : (if kStat 13 then Cond.static (mN 13) else Cond.instanceMethod (mN 13)) ∈ lw_tbl := kw_in 415 (by decide +kernel)
theorem kMs_14 : (if kStat 14 then Cond.static (mN 14) else Cond.instanceMethod (mN 14)) ∈ lw_tbl := kw_in 662 (by decide +kernel)
theorem kMs_15 : (if kStat 15 then Cond.static (mN 15) else Cond.instanceMethod (mN 15)) ∈ lw_tbl := kw_in 448 (by decide +kernel)
theorem kMs_16 : (if kStat 16 then Cond.static (mN 16) else Cond.instanceMethod (mN 16)) ∈ lw_tbl := kw_in 455 (by decide +kernel)
theorem kMs_17 : (if kStat 17 then Cond.static (mN 17) else Cond.instanceMethod (mN 17)) ∈ lw_tbl := kw_in 464 (by decide +kernel)
theorem kMs_18 : (if kStat 18 then Cond.static (mN 18) else Cond.instanceMethod (mN 18)) ∈ lw_tbl := kw_in 520 (by decide +kernel)
theorem kMs_19 : (if kStat 19 then Cond.static (mN 19) else Cond.instanceMethod (mN 19)) ∈ lw_tbl := kw_in 535 (by decide +kernel)
theorem kMs_20 : (if kStat 20 then Cond.static (mN 20) else Cond.instanceMethod (mN 20)) ∈ lw_tbl := kw_in 531 (by decide +kernel)
theorem kMs_21 : (if kStat 21 then Cond.static (mN 21) else Cond.instanceMethod (mN 21)) ∈ lw_tbl := kw_in 595 (by decide +kernel)
theorem kMs_22 : (if kStat 22 then Cond.static (mN 22) else Cond.instanceMethod (mN 22)) ∈ lw_tbl := kw_in 572 (by decide +kernel)
theorem kMs_23 : (if kStat 23 then Cond.static (mN 23) else Cond.instanceMethod (mN 23)) ∈ lw_tbl := kw_in 540 (by decide +kernel)
theorem kMs_24 : (if kStat 24 then Cond.static (mN 24) else Cond.instanceMethod (mN 24)) ∈ lw_tbl := kw_in 544 (by decide +kernel)
theorem kMs_25 : (if kStat 25 then Cond.static (mN 25) else Cond.instanceMethod (mN 25)) ∈ lw_tbl := kw_in 554 (by decide +kernel)
theorem kMs_26 : (if kStat 26 then Cond.static (mN 26) else Cond.instanceMethod (mN 26)) ∈ lw_tbl := kw_in 559 (by decide +kernel)
theorem kMs_27 : (if kStat 27 then Cond.static (mN 27) else Cond.instanceMethod (mN 27)) ∈ lw_tbl := kw_in 674 (by decide +kernel)
theorem kMs_28 : (if kStat 28 then Cond.static (mN 28) else Cond.instanceMethod (mN 28)) ∈ lw_tbl := kw_in 679 (by decide +kernel)
theorem kMs_29 : (if kStat 29 then Cond.static (mN 29) else Cond.instanceMethod (mN 29)) ∈ lw_tbl := kw_in 232 (by decide +kernel)
theorem kMs_30 : (if kStat 30 then Cond.static (mN 30) else Cond.instanceMethod (mN 30)) ∈ lw_tbl := kw_in 735 (by decide +kernel)
theorem kMs_31 : (if kStat 31 then Cond.static (mN 31) else Cond.instanceMethod (mN 31)) ∈ lw_tbl := kw_in 723 (by decide +kernel)
theorem kMs_32 : (if kStat 32 then Cond.static (mN 32) else Cond.instanceMethod (mN 32)) ∈ lw_tbl := kw_in 739 (by decide +kernel)
theorem kMs_33 : (if kStat 33 then Cond.static (mN 33) else Cond.instanceMethod (mN 33)) ∈ lw_tbl := kw_in 747 (by decide +kernel)
theorem kMs_34 : (if kStat 34 then Cond.static (mN 34) else Cond.instanceMethod (mN 34)) ∈ lw_tbl := kw_in 731 (by decide +kernel)
theorem kMs_35 : (if kStat 35 then Cond.static (mN 35) else Cond.instanceMethod (mN 35)) ∈ lw_tbl := kw_in 179 (by decide +kernel)
theorem kMs_36 : (if kStat 36 then Cond.static (mN 36) else Cond.instanceMethod (mN 36)) ∈ lw_tbl := kw_in 298 (by decide +kernel)
theorem kMs_37 : (if kStat 37 then Cond.static (mN 37) else Cond.instanceMethod (mN 37)) ∈ lw_tbl := kw_in 324 (by decide +kernel)
theorem kMs_38 : (if kStat 38 then Cond.static (mN 38) else Cond.instanceMethod (mN 38)) ∈ lw_tbl := kw_in 328 (by decide +kernel)
theorem kMs_39 : (if kStat 39 then Cond.static (mN 39) else Cond.instanceMethod (mN 39)) ∈ lw_tbl := kw_in 397 (by decide +kernel)
theorem kMs_40 : (if kStat 40 then Cond.static (mN 40) else Cond.instanceMethod (mN 40)) ∈ lw_tbl := kw_in 401 (by decide +kernel)
theorem kMs_41 : (if kStat 41 then Cond.static (mN 41) else Cond.instanceMethod (mN 41)) ∈ lw_tbl := kw_in 404 (by decide +kernel)
theorem kMs_42 : (if kStat 42 then Cond.static (mN 42) else Cond.instanceMethod (mN 42)) ∈ lw_tbl := kw_in 408 (by decide +kernel)
theorem kMs_43 : (if kStat 43 then Cond.static (mN 43) else Cond.instanceMethod (mN 43)) ∈ lw_tbl := kw_in 424 (by decide +kernel)
theorem kMs_44 : (if kStat 44 then Cond.static (mN 44) else Cond.instanceMethod (mN 44)) ∈ lw_tbl := kw_in 307 (by decide +kernel)
theorem kMs_45 : (if kStat 45 then Cond.static (mN 45) else Cond.instanceMethod (mN 45)) ∈ lw_tbl := kw_in 311 (by decide +kernel)
theorem kMs_46 : (if kStat 46 then Cond.static (mN 46) else Cond.instanceMethod (mN 46)) ∈ lw_tbl := kw_in 316 (by decide +kernel)
theorem kMs_47 : (if kStat 47 then Cond.static (mN 47) else Cond.instanceMethod (mN 47)) ∈ lw_tbl := kw_in 320 (by decide +kernel)
theorem kMs_48 : (if kStat 48 then Cond.static (mN 48) else Cond.instanceMethod (mN 48)) ∈ lw_tbl := kw_in 332 (by decide +kernel)
theorem kMs_49 : (if kStat 49 then Cond.static (mN 49) else Cond.instanceMethod (mN 49)) ∈ lw_tbl := kw_in 335 (by decide +kernel)
theorem kMs_50 : (if kStat 50 then Cond.static (mN 50) else Cond.instanceMethod (mN 50)) ∈ lw_tbl := kw_in 345 (by decide +kernel)
theorem kMs_51 : (if kStat 51 then Cond.static (mN 51) else Cond.instanceMethod (mN 51)) ∈ lw_tbl := kw_in 78 (by decide +kernel)
theorem kMs_52 : (if kStat 52 then Cond.static (mN 52) else Cond.instanceMethod (mN 52)) ∈ lw_tbl := kw_in 283 (by decide +kernel)
theorem kMs_53 : (if kStat 53 then Cond.static (mN 53) else Cond.instanceMethod (mN 53)) ∈ lw_tbl := kw_in 290 (by decide +kernel)
theorem kMs_54 : (if kStat 54 then Cond.static (mN 54) else Cond.instanceMethod (mN 54)) ∈ lw_tbl := kw_in 294 (by decide +kernel)
theorem kMs_55 : (if kStat 55 then Cond.static (mN 55) else Cond.instanceMethod (mN 55)) ∈ lw_tbl := kw_in 440 (by decide +kernel)
theorem kMs_56 : (if kStat 56 then Cond.static (mN 56) else Cond.instanceMethod (mN 56)) ∈ lw_tbl := kw_in 444 (by decide +kernel)
theorem kMs_57 : (if kStat 57 then Cond.static (mN 57) else Cond.instanceMethod (mN 57)) ∈ lw_tbl := kw_in 459 (by decide +kernel)
theorem kMs_58 : (if kStat 58 then Cond.static (mN 58) else Cond.instanceMethod (mN 58)) ∈ lw_tbl := kw_in 476 (by decide +kernel)
theorem kMs_59 : (if kStat 59 then Cond.static (mN 59) else Cond.instanceMethod (mN 59)) ∈ lw_tbl := kw_in 484 (by decide +kernel)
theorem kMs_60 : (if kStat 60 then Cond.static (mN 60) else Cond.instanceMethod (mN 60)) ∈ lw_tbl := kw_in 491 (by decide +kernel)
theorem kMs_61 : (if kStat 61 then Cond.static (mN 61) else Cond.instanceMethod (mN 61)) ∈ lw_tbl := kw_in 498 (by decide +kernel)
theorem kMs_62 : (if kStat 62 then Cond.static (mN 62) else Cond.instanceMethod (mN 62)) ∈ lw_tbl := kw_in 503 (by decide +kernel)
theorem kMs_63 : (if kStat 63 then Cond.static (mN 63) else Cond.instanceMethod (mN 63)) ∈ lw_tbl := kw_in 507 (by decide +kernel)
theorem kMs_64 : (if kStat 64 then Cond.static (mN 64) else Cond.instanceMethod (mN 64)) ∈ lw_tbl := kw_in 512 (by decide +kernel)
theorem kMs_65 : (if kStat 65 then Cond.static (mN 65) else Cond.instanceMethod (mN 65)) ∈ lw_tbl := kw_in 516 (by decide +kernel)
theorem kMs_66 : (if kStat 66 then Cond.static (mN 66) else Cond.instanceMethod (mN 66)) ∈ lw_tbl := kw_in 568 (by decide +kernel)
theorem kMs_67 : (if kStat 67 then Cond.static (mN 67) else Cond.instanceMethod (mN 67)) ∈ lw_tbl := kw_in 576 (by decide +kernel)
theorem kMs_68 : (if kStat 68 then Cond.static (mN 68) else Cond.instanceMethod (mN 68)) ∈ lw_tbl := kw_in 580 (by decide +kernel)
theorem kMs_69 : (if kStat 69 then Cond.static (mN 69) else Cond.instanceMethod (mN 69)) ∈ lw_tbl := kw_in 584 (by decide +kernel)
theorem kMs_70 : (if kStat 70 then Cond.static (mN 70) else Cond.instanceMethod (mN 70)) ∈ lw_tbl := kw_in 609 (by decide +kernel)
theorem kMs_71 : (if kStat 71 then Cond.static (mN 71) else Cond.instanceMethod (mN 71)) ∈ lw_tbl := kw_in 613 (by decide +kernel)
theorem kMs_72 : (if kStat 72 then Cond.static (mN 72) else Cond.instanceMethod (mN 72)) ∈ lw_tbl := kw_in 617 (by decide +kernel)
theorem kMs_73 : (if kStat 73 then Cond.static (mN 73) else Cond.instanceMethod (mN 73)) ∈ lw_tbl := kw_in 625 (by decide +kernel)
theorem kMs_74 : (if kStat 74 then Cond.static (mN 74) else Cond.instanceMethod (mN 74)) ∈ lw_tbl := kw_in 629 (by decide +kernel)
theorem kMs_75 : (if kStat 75 then Cond.static (mN 75) else Cond.instanceMethod (mN 75)) ∈ lw_tbl := kw_in 633 (by decide +kernel)
theorem kMs_76 : (if kStat 76 then Cond.static (mN 76) else Cond.instanceMethod (mN 76)) ∈ lw_tbl := kw_in 654 (by decide +kernel)
theorem kMs_77 : (if kStat 77 then Cond.static (mN 77) else Cond.instanceMethod (mN 77)) ∈ lw_tbl := kw_in 658 (by decide +kernel)
theorem kMs_78 : (if kStat 78 then Cond.static (mN 78) else Cond.instanceMethod (mN 78)) ∈ lw_tbl := kw_in 666 (by decide +kernel)
theorem kMs_79 : (if kStat 79 then Cond.static (mN 79) else Cond.instanceMethod (mN 79)) ∈ lw_tbl := kw_in 670 (by decide +kernel)
theorem kMs_80 : (if kStat 80 then Cond.static (mN 80) else Cond.instanceMethod (mN 80)) ∈ lw_tbl := kw_in 682 (by decide +kernel)
theorem kMs_81 : (if kStat 81 then Cond.static (mN 81) else Cond.instanceMethod (mN 81)) ∈ lw_tbl := kw_in 686 (by decide +kernel)
theorem kMs_82 : (if kStat 82 then Cond.static (mN 82) else Cond.instanceMethod (mN 82)) ∈ lw_tbl := kw_in 705 (by decide +kernel)
theorem kMs_83 : (if kStat 83 then Cond.static (mN 83) else Cond.instanceMethod (mN 83)) ∈ lw_tbl := kw_in 711 (by decide +kernel)
theorem kMs_84 : (if kStat 84 then Cond.static (mN 84) else Cond.instanceMethod (mN 84)) ∈ lw_tbl := kw_in 715 (by decide +kernel)
theorem kMs_85 : (if kStat 85 then Cond.static (mN 85) else Cond.instanceMethod (mN 85)) ∈ lw_tbl := kw_in 719 (by decide +kernel)
theorem kMs_86 : (if kStat 86 then Cond.static (mN 86) else Cond.instanceMethod (mN 86)) ∈ lw_tbl := kw_in 727 (by decide +kernel)
theorem kMs_87 : (if kStat 87 then Cond.static (mN 87) else Cond.instanceMethod (mN 87)) ∈ lw_tbl := kw_in 743 (by decide +kernel)
theorem kMs_88 : (if kStat 88 then Cond.static (mN 88) else Cond.instanceMethod (mN 88)) ∈ lw_tbl := kw_in 753 (by decide +kernel)
theorem kMs_89 : (if kStat 89 then Cond.static (mN 89) else Cond.instanceMethod (mN 89)) ∈ lw_tbl := kw_in 757 (by decide +kernel)
theorem kMs_90 : (if kStat 90 then Cond.static (mN 90) else Cond.instanceMethod (mN 90)) ∈ lw_tbl := kw_in 287 (by decide +kernel)
theorem kMs_91 : (if kStat 91 then Cond.static (mN 91) else Cond.instanceMethod (mN 91)) ∈ lw_tbl := kw_in 588 (by decide +kernel)
theorem kMs_92 : (if kStat 92 then Cond.static (mN 92) else Cond.instanceMethod (mN 92)) ∈ lw_tbl := kw_in 637 (by decide +kernel)
theorem kMs_93 : (if kStat 93 then Cond.static (mN 93) else Cond.instanceMethod (mN 93)) ∈ lw_tbl := kw_in 495 (by decide +kernel)
theorem kMs_94 : (if kStat 94 then Cond.static (mN 94) else Cond.instanceMethod (mN 94)) ∈ lw_tbl := kw_in 452 (by decide +kernel)
theorem kMs_95 : (if kStat 95 then Cond.static (mN 95) else Cond.instanceMethod (mN 95)) ∈ lw_tbl := kw_in 622 (by decide +kernel)
theorem kMs_96 : (if kStat 96 then Cond.static (mN 96) else Cond.instanceMethod (mN 96)) ∈ lw_tbl := kw_in 488 (by decide +kernel)
theorem kMs_97 : (if kStat 97 then Cond.static (mN 97) else Cond.instanceMethod (mN 97)) ∈ lw_tbl := kw_in 562 (by decide +kernel)
theorem kMs_98 : (if kStat 98 then Cond.static (mN 98) else Cond.instanceMethod (mN 98)) ∈ lw_tbl := kw_in 565 (by decide +kernel)
theorem kMs_99 : (if kStat 99 then Cond.static (mN 99) else Cond.instanceMethod (mN 99)) ∈ lw_tbl := kw_in 644 (by decide +kernel)
theorem kMs_100 : (if kStat 100 then Cond.static (mN 100) else Cond.instanceMethod (mN 100)) ∈ lw_tbl := kw_in 641 (by decide +kernel)
theorem kMs_101 : (if kStat 101 then Cond.static (mN 101) else Cond.instanceMethod (mN 101)) ∈ lw_tbl := kw_in 648 (by decide +kernel)
theorem kMs_102 : (if kStat 102 then Cond.static (mN 102) else Cond.instanceMethod (mN 102)) ∈ lw_tbl := kw_in 651 (by decide +kernel)
theorem kMs_103 : (if kStat 103 then Cond.static (mN 103) else Cond.instanceMethod (mN 103)) ∈ lw_tbl := kw_in 695 (by decide +kernel)
theorem kMs_104 : (if kStat 104 then Cond.static (mN 104) else Cond.instanceMethod (mN 104)) ∈ lw_tbl := kw_in 692 (by decide +kernel)
theorem kMs_105 : (if kStat 105 then Cond.static (mN 105) else Cond.instanceMethod (mN 105)) ∈ lw_tbl := kw_in 701 (by decide +kernel)
theorem kMs_106 : (if kStat 106 then Cond.static (mN 106) else Cond.instanceMethod (mN 106)) ∈ lw_tbl := kw_in 765 (by decide +kernel)
theorem kMs_107 : (if kStat 107 then Cond.static (mN 107) else Cond.instanceMethod (mN 107)) ∈ lw_tbl := kw_in 867 (by decide +kernel)
theorem kMs_108 : (if kStat 108 then Cond.static (mN 108) else Cond.instanceMethod (mN 108)) ∈ lw_tbl := kw_in 950 (by decide +kernel)
theorem kMs_109 : (if kStat 109 then Cond.static (mN 109) else Cond.instanceMethod (mN 109)) ∈ lw_tbl := kw_in 1050 (by decide +kernel)
theorem kMs_110 : (if kStat 110 then Cond.static (mN 110) else Cond.instanceMethod (mN 110)) ∈ lw_tbl := kw_in 770 (by decide +kernel)
theorem kMs_111 : (if kStat 111 then Cond.static (mN 111) else Cond.instanceMethod (mN 111)) ∈ lw_tbl := kw_in 774 (by decide +kernel)
theorem kMs_112 : (if kStat 112 then Cond.static (mN 112) else Cond.instanceMethod (mN 112)) ∈ lw_tbl := kw_in 862 (by decide +kernel)
theorem kMs_113 : (if kStat 113 then Cond.static (mN 113) else Cond.instanceMethod (mN 113)) ∈ lw_tbl := kw_in 870 (by decide +kernel)
theorem kMs_114 : (if kStat 114 then Cond.static (mN 114) else Cond.instanceMethod (mN 114)) ∈ lw_tbl := kw_in 891 (by decide +kernel)
theorem kMs_115 : (if kStat 115 then Cond.static (mN 115) else Cond.instanceMethod (mN 115)) ∈ lw_tbl := kw_in 883 (by decide +kernel)
theorem kMs_116 : (if kStat 116 then Cond.static (mN 116) else Cond.instanceMethod (mN 116)) ∈ lw_tbl := kw_in 903 (by decide +kernel)
theorem kMs_117 : (if kStat 117 then Cond.static (mN 117) else Cond.instanceMethod (mN 117)) ∈ lw_tbl := kw_in 907 (by decide +kernel)
theorem kMs_118 : (if kStat 118 then Cond.static (mN 118) else Cond.instanceMethod (mN 118)) ∈ lw_tbl := kw_in 899 (by decide +kernel)
theorem kMs_119 : (if kStat 119 then Cond.static (mN 119) else Cond.instanceMethod (mN 119)) ∈ lw_tbl := kw_in 879 (by decide +kernel)
theorem kMs_120 : (if kStat 120 then Cond.static (mN 120) else Cond.instanceMethod (mN 120)) ∈ lw_tbl := kw_in 919 (by decide +kernel)
theorem kMs_121 : (if kStat 121 then Cond.static (mN 121) else Cond.instanceMethod (mN 121)) ∈ lw_tbl := kw_in 915 (by decide +kernel)
theorem kMs_122 : (if kStat 122 then Cond.static (mN 122) else Cond.instanceMethod (mN 122)) ∈ lw_tbl := kw_in 911 (by decide +kernel)
theorem kMs_123 : (if kStat 123 then Cond.static (mN 123) else Cond.instanceMethod (mN 123)) ∈ lw_tbl := kw_in 895 (by decide +kernel)
theorem kMs_124 : (if kStat 124 then Cond.static (mN 124) else Cond.instanceMethod (mN 124)) ∈ lw_tbl := kw_in 874 (by decide +kernel)
theorem kMs_125 : (if kStat 125 then Cond.static (mN 125) else Cond.instanceMethod (mN 125)) ∈ lw_tbl := kw_in 922 (by decide +kernel)
theorem kMs_126 : (if kStat 126 then Cond.static (mN 126) else Cond.instanceMethod (mN 126)) ∈ lw_tbl := kw_in 958 (by decide +kernel)
theorem kMs_127 : (if kStat 127 then Cond.static (mN 127) else Cond.instanceMethod (mN 127)) ∈ lw_tbl := kw_in 975 (by decide +kernel)
theorem kMs_128 : (if kStat 128 then Cond.static (mN 128) else Cond.instanceMethod (mN 128)) ∈ lw_tbl := kw_in 983 (by decide +kernel)
theorem kMs_129 : (if kStat 129 then Cond.static (mN 129) else Cond.instanceMethod (mN 129)) ∈ lw_tbl := kw_in 1087 (by decide +kernel)
theorem kMs_130 : (if kStat 130 then Cond.static (mN 130) else Cond.instanceMethod (mN 130)) ∈ lw_tbl := kw_in 931 (by decide +kernel)
theorem kMs_131 : (if kStat 131 then Cond.static (mN 131) else Cond.instanceMethod (mN 131)) ∈ lw_tbl := kw_in 1064 (by decide +kernel)
theorem kMs_132 : (if kStat 132 then Cond.static (mN 132) else Cond.instanceMethod (mN 132)) ∈ lw_tbl := kw_in 939 (by decide +kernel)
theorem kMs_133 : (if kStat 133 then Cond.static (mN 133) else Cond.instanceMethod (mN 133)) ∈ lw_tbl := kw_in 1054 (by decide +kernel)
theorem kMs_134 : (if kStat 134 then Cond.static (mN 134) else Cond.instanceMethod (mN 134)) ∈ lw_tbl := kw_in 947 (by decide +kernel)
theorem kMs_135 : (if kStat 135 then Cond.static (mN 135) else Cond.instanceMethod (mN 135)) ∈ lw_tbl := kw_in 1039 (by decide +kernel)
theorem kMs_136 : (if kStat 136 then Cond.static (mN 136) else Cond.instanceMethod (mN 136)) ∈ lw_tbl := kw_in 987 (by decide +kernel)
theorem kMs_137 : (if kStat 137 then Cond.static (mN 137) else Cond.instanceMethod (mN 137)) ∈ lw_tbl := kw_in 1057 (by decide +kernel)
theorem kMs_138 : (if kStat 138 then Cond.static (mN 138) else Cond.instanceMethod (mN 138)) ∈ lw_tbl := kw_in 1060 (by decide +kernel)
theorem kMs_139 : (if kStat 139 then Cond.static (mN 139) else Cond.instanceMethod (mN 139)) ∈ lw_tbl := kw_in 963 (by decide +kernel)
theorem kMs_140 : (if kStat 140 then Cond.static (mN 140) else Cond.instanceMethod (mN 140)) ∈ lw_tbl := kw_in 967 (by decide +kernel)
theorem kMs_141 : (if kStat 141 then Cond.static (mN 141) else Cond.instanceMethod (mN 141)) ∈ lw_tbl := kw_in 1047 (by decide +kernel)
theorem kMs_142 : (if kStat 142 then Cond.static (mN 142) else Cond.instanceMethod (mN 142)) ∈ lw_tbl := kw_in 1043 (by decide +kernel)
theorem kMs_143 : (if kStat 143 then Cond.static (mN 143) else Cond.instanceMethod (mN 143)) ∈ lw_tbl := kw_in 1035 (by decide +kernel)
theorem kMs_144 : (if kStat 144 then Cond.static (mN 144) else Cond.instanceMethod (mN 144)) ∈ lw_tbl := kw_in 1031 (by decide +kernel)
theorem kMs_145 : (if kStat 145 then Cond.static (mN 145) else Cond.instanceMethod (mN 145)) ∈ lw_tbl := kw_in 1027 (by decide +kernel)
theorem kMs_146 : (if kStat 146 then Cond.static (mN 146) else Cond.instanceMethod (mN 146)) ∈ lw_tbl := kw_in 935 (by decide +kernel)
theorem kMs_147 : (if kStat 147 then Cond.static (mN 147) else Cond.instanceMethod (mN 147)) ∈ lw_tbl := kw_in 1099 (by decide +kernel)
theorem kMs_148 : (if kStat 148 then Cond.static (mN 148) else Cond.instanceMethod (mN 148)) ∈ lw_tbl := kw_in 943 (by decide +kernel)
theorem kMs_149 : (if kStat 149 then Cond.static (mN 149) else Cond.instanceMethod (mN 149)) ∈ lw_tbl := kw_in 926 (by decide +kernel)
theorem kMs_150 : (if kStat 150 then Cond.static (mN 150) else Cond.instanceMethod (mN 150)) ∈ lw_tbl := kw_in 953 (by decide +kernel)
theorem kMs_151 : (if kStat 151 then Cond.static (mN 151) else Cond.instanceMethod (mN 151)) ∈ lw_tbl := kw_in 970 (by decide +kernel)
theorem kMs_152 : (if kStat 152 then Cond.static (mN 152) else Cond.instanceMethod (mN 152)) ∈ lw_tbl := kw_in 979 (by decide +kernel)
theorem kMs_153 : (if kStat 153 then Cond.static (mN 153) else Cond.instanceMethod (mN 153)) ∈ lw_tbl := kw_in 997 (by decide +kernel)
theorem kMs_154 : (if kStat 154 then Cond.static (mN 154) else Cond.instanceMethod (mN 154)) ∈ lw_tbl := kw_in 990 (by decide +kernel)
theorem kMs_155 : (if kStat 155 then Cond.static (mN 155) else Cond.instanceMethod (mN 155)) ∈ lw_tbl := kw_in 1005 (by decide +kernel)
theorem kMs_156 : (if kStat 156 then Cond.static (mN 156) else Cond.instanceMethod (mN 156)) ∈ lw_tbl := kw_in 1000 (by decide +kernel)
theorem kMs_157 : (if kStat 157 then Cond.static (mN 157) else Cond.instanceMethod (mN 157)) ∈ lw_tbl := kw_in 1008 (by decide +kernel)
theorem kMs_158 : (if kStat 158 then Cond.static (mN 158) else Cond.instanceMethod (mN 158)) ∈ lw_tbl := kw_in 1013 (by decide +kernel)
theorem kMs_159 : (if kStat 159 then Cond.static (mN 159) else Cond.instanceMethod (mN 159)) ∈ lw_tbl := kw_in 1017 (by decide +kernel)
theorem kMs_160 : (if kStat 160 then Cond.static (mN 160) else Cond.instanceMethod (mN 160)) ∈ lw_tbl := kw_in 1021 (by decide +kernel)
theorem kMs_161 : (if kStat 161 then Cond.static (mN 161) else Cond.instanceMethod (mN 161)) ∈ lw_tbl := kw_in 1071 (by decide +kernel)
theorem kMs_162 : (if kStat 162 then Cond.static (mN 162) else Cond.instanceMethod (mN 162)) ∈ lw_tbl := kw_in 1067 (by decide +kernel)
theorem kMs_163 : (if kStat 163 then Cond.static (mN 163) else Cond.instanceMethod (mN 163)) ∈ lw_tbl := kw_in 1075 (by decide +kernel)
theorem kMs_164 : (if kStat 164 then Cond.static (mN 164) else Cond.instanceMethod (mN 164)) ∈ lw_tbl := kw_in 1079 (by decide +kernel)
theorem kMs_165 : (if kStat 165 then Cond.static (mN 165) else Cond.instanceMethod (mN 165)) ∈ lw_tbl := kw_in 1095 (by decide +kernel)
theorem kMs_166 : (if kStat 166 then Cond.static (mN 166) else Cond.instanceMethod (mN 166)) ∈ lw_tbl := kw_in 1103 (by decide +kernel)
theorem kMs_167 : (if kStat 167 then Cond.static (mN 167) else Cond.instanceMethod (mN 167)) ∈ lw_tbl := kw_in 1107 (by decide +kernel)
theorem kMs_168 : (if kStat 168 then Cond.static (mN 168) else Cond.instanceMethod (mN 168)) ∈ lw_tbl := kw_in 1091 (by decide +kernel)
theorem kMs_169 : (if kStat 169 then Cond.static (mN 169) else Cond.instanceMethod (mN 169)) ∈ lw_tbl := kw_in 1083 (by decide +kernel)
theorem kMs_170 : (if kStat 170 then Cond.static (mN 170) else Cond.instanceMethod (mN 170)) ∈ lw_tbl := kw_in 1110 (by decide +kernel)
theorem kMs_171 : (if kStat 171 then Cond.static (mN 171) else Cond.instanceMethod (mN 171)) ∈ lw_tbl := kw_in 1114 (by decide +kernel)
theorem kMs_172 : (if kStat 172 then Cond.static (mN 172) else Cond.instanceMethod (mN 172)) ∈ lw_tbl := kw_in 1118 (by decide +kernel)
theorem kMs_173 : (if kStat 173 then Cond.static (mN 173) else Cond.instanceMethod (mN 173)) ∈ lw_tbl := kw_in 1122 (by decide +kernel)
theorem kMs_174 : (if kStat 174 then Cond.static (mN 174) else Cond.instanceMethod (mN 174)) ∈ lw_tbl := kw_in 1126 (by decide +kernel)
theorem kMs_175 : (if kStat 175 then Cond.static (mN 175) else Cond.instanceMethod (mN 175)) ∈ lw_tbl := kw_in 1144 (by decide +kernel)
theorem kMs_176 : (if kStat 176 then Cond.static (mN 176) else Cond.instanceMethod (mN 176)) ∈ lw_tbl := kw_in 1141 (by decide +kernel)
theorem kMs_177 : (if kStat 177 then Cond.static (mN 177) else Cond.instanceMethod (mN 177)) ∈ lw_tbl := kw_in 1138 (by decide +kernel)
theorem kMs_178 : (if kStat 178 then Cond.static (mN 178) else Cond.instanceMethod (mN 178)) ∈ lw_tbl := kw_in 1130 (by decide +kernel)
theorem kMs_179 : (if kStat 179 then Cond.static (mN 179) else Cond.instanceMethod (mN 179)) ∈ lw_tbl := kw_in 1147 (by decide +kernel)
theorem kMs_180 : (if kStat 180 then Cond.static (mN 180) else Cond.instanceMethod (mN 180)) ∈ lw_tbl := kw_in 1151 (by decide +kernel)
theorem kMs_181 : (if kStat 181 then Cond.static (mN 181) else Cond.instanceMethod (mN 181)) ∈ lw_tbl := kw_in 1155 (by decide +kernel)
theorem kMs_182 : (if kStat 182 then Cond.static (mN 182) else Cond.instanceMethod (mN 182)) ∈ lw_tbl := kw_in 1168 (by decide +kernel)
theorem kMs_183 : (if kStat 183 then Cond.static (mN 183) else Cond.instanceMethod (mN 183)) ∈ lw_tbl := kw_in 1164 (by decide +kernel)
theorem kMs_184 : (if kStat 184 then Cond.static (mN 184) else Cond.instanceMethod (mN 184)) ∈ lw_tbl := kw_in 1159 (by decide +kernel)
theorem kMs_185 : (if kStat 185 then Cond.static (mN 185) else Cond.instanceMethod (mN 185)) ∈ lw_tbl := kw_in 1171 (by decide +kernel)
theorem kMs_186 : (if kStat 186 then Cond.static (mN 186) else Cond.instanceMethod (mN 186)) ∈ lw_tbl := kw_in 1180 (by decide +kernel)
theorem kMs_187 : (if kStat 187 then Cond.static (mN 187) else Cond.instanceMethod (mN 187)) ∈ lw_tbl := kw_in 1175 (by decide +kernel)
theorem kMs_188 : (if kStat 188 then Cond.static (mN 188) else Cond.instanceMethod (mN 188)) ∈ lw_tbl := kw_in 1183 (by decide +kernel)
theorem kMs_189 : (if kStat 189 then Cond.static (mN 189) else Cond.instanceMethod (mN 189)) ∈ lw_tbl := kw_in 1193 (by decide +kernel)
theorem kMs_190 : (if kStat 190 then Cond.static (mN 190) else Cond.instanceMethod (mN 190)) ∈ lw_tbl := kw_in 1188 (by decide +kernel)
theorem kMs_191 : (if kStat 191 then Cond.static (mN 191) else Cond.instanceMethod (mN 191)) ∈ lw_tbl := kw_in 1196 (by decide +kernel)
theorem kMs_192 : (if kStat 192 then Cond.static (mN 192) else Cond.instanceMethod (mN 192)) ∈ lw_tbl := kw_in 1204 (by decide +kernel)
theorem kMs_193 : (if kStat 193 then Cond.static (mN 193) else Cond.instanceMethod (mN 193)) ∈ lw_tbl := kw_in 1200 (by decide +kernel)
theorem kMs_194 : (if kStat 194 then Cond.static (mN 194) else Cond.instanceMethod (mN 194)) ∈ lw_tbl := kw_in 1208 (by decide +kernel)
theorem kMs_195 : (if kStat 195 then Cond.static (mN 195) else Cond.instanceMethod (mN 195)) ∈ lw_tbl := kw_in 1212 (by decide +kernel)
theorem kMs_196 : (if kStat 196 then Cond.static (mN 196) else Cond.instanceMethod (mN 196)) ∈ lw_tbl := kw_in 1217 (by decide +kernel)
theorem kMs_197 : (if kStat 197 then Cond.static (mN 197) else Cond.instanceMethod (mN 197)) ∈ lw_tbl := kw_in 1221 (by decide +kernel)
theorem kMs_198 : (if kStat 198 then Cond.static (mN 198) else Cond.instanceMethod (mN 198)) ∈ lw_tbl := kw_in 525 (by decide +kernel)
theorem kMs : ∀ y, y < 199 → (if kStat y then Cond.static (mN y) else Cond.instanceMethod (mN y)) ∈ lw_tbl := fun y => match y with
  | 0 => fun _ => kMs_0
  | 1 => fun _ => kMs_1
  | 2 => fun _ => kMs_2
  | 3 => fun _ => kMs_3
  | 4 => fun _ => kMs_4
  | 5 => fun _ => kMs_5
  | 6 => fun _ => kMs_6
  | 7 => fun _ => kMs_7
  | 8 => fun _ => kMs_8
  | 9 => fun _ => kMs_9
  | 10 => fun _ => kMs_10
  | 11 => fun _ => kMs_11
  | 12 => fun _ => kMs_12
  | 13 => fun _ => kMs_13
  | 14 => fun _ => kMs_14
  | 15 => fun _ => kMs_15
  | 16 => fun _ => kMs_16
  | 17 => fun _ => kMs_17
  | 18 => fun _ => kMs_18
  | 19 => fun _ => kMs_19
  | 20 => fun _ => kMs_20
  | 21 => fun _ => kMs_21
  | 22 => fun _ => kMs_22
  | 23 => fun _ => kMs_23
  | 24 => fun _ => kMs_24
  | 25 => fun _ => kMs_25
  | 26 => fun _ => kMs_26
  | 27 => fun _ => kMs_27
  | 28 => fun _ => kMs_28
  | 29 => fun _ => kMs_29
  | 30 => fun _ => kMs_30
  | 31 => fun _ => kMs_31
  | 32 => fun _ => kMs_32
  | 33 => fun _ => kMs_33
  | 34 => fun _ => kMs_34
  | 35 => fun _ => kMs_35
  | 36 => fun _ => kMs_36
  | 37 => fun _ => kMs_37
  | 38 => fun _ => kMs_38
  | 39 => fun _ => kMs_39
  | 40 => fun _ => kMs_40
  | 41 => fun _ => kMs_41
  | 42 => fun _ => kMs_42
  | 43 => fun _ => kMs_43
  | 44 => fun _ => kMs_44
  | 45 => fun _ => kMs_45
  | 46 => fun _ => kMs_46
  | 47 => fun _ => kMs_47
  | 48 => fun _ => kMs_48
  | 49 => fun _ => kMs_49
  | 50 => fun _ => kMs_50
  | 51 => fun _ => kMs_51
  | 52 => fun _ => kMs_52
  | 53 => fun _ => kMs_53
  | 54 => fun _ => kMs_54
  | 55 => fun _ => kMs_55
  | 56 => fun _ => kMs_56
  | 57 => fun _ => kMs_57
  | 58 => fun _ => kMs_58
  | 59 => fun _ => kMs_59
  | 60 => fun _ => kMs_60
  | 61 => fun _ => kMs_61
  | 62 => fun _ => kMs_62
  | 63 => fun _ => kMs_63
  | 64 => fun _ => kMs_64
  | 65 => fun _ => kMs_65
  | 66 => fun _ => kMs_66
  | 67 => fun _ => kMs_67
  | 68 => fun _ => kMs_68
  | 69 => fun _ => kMs_69
  | 70 => fun _ => kMs_70
  | 71 => fun _ => kMs_71
  | 72 => fun _ => kMs_72
  | 73 => fun _ => kMs_73
  | 74 => fun _ => kMs_74
  | 75 => fun _ => kMs_75
  | 76 => fun _ => kMs_76
  | 77 => fun _ => kMs_77
  | 78 => fun _ => kMs_78
  | 79 => fun _ => kMs_79
  | 80 => fun _ => kMs_80
  | 81 => fun _ => kMs_81
  | 82 => fun _ => kMs_82
  | 83 => fun _ => kMs_83
  | 84 => fun _ => kMs_84
  | 85 => fun _ => kMs_85
  | 86 => fun _ => kMs_86
  | 87 => fun _ => kMs_87
  | 88 => fun _ => kMs_88
  | 89 => fun _ => kMs_89
  | 90 => fun _ => kMs_90
  | 91 => fun _ => kMs_91
  | 92 => fun _ => kMs_92
  | 93 => fun _ => kMs_93
  | 94 => fun _ => kMs_94
  | 95 => fun _ => kMs_95
  | 96 => fun _ => kMs_96
  | 97 => fun _ => kMs_97
  | 98 => fun _ => kMs_98
  | 99 => fun _ => kMs_99
  | 100 => fun _ => kMs_100
  | 101 => fun _ => kMs_101
  | 102 => fun _ => kMs_102
  | 103 => fun _ => kMs_103
  | 104 => fun _ => kMs_104
  | 105 => fun _ => kMs_105
  | 106 => fun _ => kMs_106
  | 107 => fun _ => kMs_107
  | 108 => fun _ => kMs_108
  | 109 => fun _ => kMs_109
  | 110 => fun _ => kMs_110
  | 111 => fun _ => kMs_111
  | 112 => fun _ => kMs_112
  | 113 => fun _ => kMs_113
  | 114 => fun _ => kMs_114
  | 115 => fun _ => kMs_115
  | 116 => fun _ => kMs_116
  | 117 => fun _ => kMs_117
  | 118 => fun _ => kMs_118
  | 119 => fun _ => kMs_119
  | 120 => fun _ => kMs_120
  | 121 => fun _ => kMs_121
  | 122 => fun _ => kMs_122
  | 123 => fun _ => kMs_123
  | 124 => fun _ => kMs_124
  | 125 => fun _ => kMs_125
  | 126 => fun _ => kMs_126
  | 127 => fun _ => kMs_127
  | 128 => fun _ => kMs_128
  | 129 => fun _ => kMs_129
  | 130 => fun _ => kMs_130
  | 131 => fun _ => kMs_131
  | 132 => fun _ => kMs_132
  | 133 => fun _ => kMs_133
  | 134 => fun _ => kMs_134
  | 135 => fun _ => kMs_135
  | 136 => fun _ => kMs_136
  | 137 => fun _ => kMs_137
  | 138 => fun _ => kMs_138
  | 139 => fun _ => kMs_139
  | 140 => fun _ => kMs_140
  | 141 => fun _ => kMs_141
  | 142 => fun _ => kMs_142
  | 143 => fun _ => kMs_143
  | 144 => fun _ => kMs_144
  | 145 => fun _ => kMs_145
  | 146 => fun _ => kMs_146
  | 147 => fun _ => kMs_147
  | 148 => fun _ => kMs_148
  | 149 => fun _ => kMs_149
  | 150 => fun _ => kMs_150
  | 151 => fun _ => kMs_151
  | 152 => fun _ => kMs_152
  | 153 => fun _ => kMs_153
  | 154 => fun _ => kMs_154
  | 155 => fun _ => kMs_155
  | 156 => fun _ => kMs_156
  | 157 => fun _ => kMs_157
  | 158 => fun _ => kMs_158
  | 159 => fun _ => kMs_159
  | 160 => fun _ => kMs_160
  | 161 => fun _ => kMs_161
  | 162 => fun _ => kMs_162
  | 163 => fun _ => kMs_163
  | 164 => fun _ => kMs_164
  | 165 => fun _ => kMs_165
  | 166 => fun _ => kMs_166
  | 167 => fun _ => kMs_167
  | 168 => fun _ => kMs_168
  | 169 => fun _ => kMs_169
  | 170 => fun _ => kMs_170
  | 171 => fun _ => kMs_171
  | 172 => fun _ => kMs_172
  | 173 => fun _ => kMs_173
  | 174 => fun _ => kMs_174
  | 175 => fun _ => kMs_175
  | 176 => fun _ => kMs_176
  | 177 => fun _ => kMs_177
  | 178 => fun _ => kMs_178
  | 179 => fun _ => kMs_179
  | 180 => fun _ => kMs_180
  | 181 => fun _ => kMs_181
  | 182 => fun _ => kMs_182
  | 183 => fun _ => kMs_183
  | 184 => fun _ => kMs_184
  | 185 => fun _ => kMs_185
  | 186 => fun _ => kMs_186
  | 187 => fun _ => kMs_187
  | 188 => fun _ => kMs_188
  | 189 => fun _ => kMs_189
  | 190 => fun _ => kMs_190
  | 191 => fun _ => kMs_191
  | 192 => fun _ => kMs_192
  | 193 => fun _ => kMs_193
  | 194 => fun _ => kMs_194
  | 195 => fun _ => kMs_195
  | 196 => fun _ => kMs_196
  | 197 => fun _ => kMs_197
  | 198 => fun _ => kMs_198
  | n + 199 => fun h => absurd h (by omega)
def kVirt (y : Nat) : Bool := !kStat y && !kInit y
theorem kInN : ∀ y, y < 199 → kInit y = true → (mN y).name = "<init>" ∧ mR y = none := by decide +kernel
theorem kMv_1 : Cond.selects (mN 1).cls (mN 1) (mN 1) ∈ lw_tbl := kw_in 592 (by decide +kernel)
theorem kMv_2 : Cond.selects (mN 2).cls (mN 2) (mN 2) ∈ lw_tbl := kw_in 602 (by decide +kernel)
theorem kMv_3 : Cond.selects (mN 3).cls (mN 3) (mN 3) ∈ lw_tbl := kw_in 606 (by decide +kernel)
theorem kMv_5 : Cond.selects (mN 5).cls (mN 5) (mN 5) ∈ lw_tbl := kw_in 303 (by decide +kernel)
theorem kMv_6 : Cond.selects (mN 6).cls (mN 6) (mN 6) ∈ lw_tbl := kw_in 433 (by decide +kernel)
theorem kMv_7 : Cond.selects (mN 7).cls (mN 7) (mN 7) ∈ lw_tbl := kw_in 428 (by decide +kernel)
theorem kMv_8 : Cond.selects (mN 8).cls (mN 8) (mN 8) ∈ lw_tbl := kw_in 481 (by decide +kernel)
theorem kMv_9 : Cond.selects (mN 9).cls (mN 9) (mN 9) ∈ lw_tbl := kw_in 469 (by decide +kernel)
theorem kMv_10 : Cond.selects (mN 10).cls (mN 10) (mN 10) ∈ lw_tbl := kw_in 473 (by decide +kernel)
theorem kMv_11 : Cond.selects (mN 11).cls (mN 11) (mN 11) ∈ lw_tbl := kw_in 420 (by decide +kernel)
theorem kMv_12 : Cond.selects (mN 12).cls (mN 12) (mN 12) ∈ lw_tbl := kw_in 412 (by decide +kernel)
theorem kMv_13 : Cond.selects (mN 13).cls (mN 13) (mN 13) ∈ lw_tbl := kw_in 416 (by decide +kernel)
theorem kMv_14 : Cond.selects (mN 14).cls (mN 14) (mN 14) ∈ lw_tbl := kw_in 663 (by decide +kernel)
theorem kMv_15 : Cond.selects (mN 15).cls (mN 15) (mN 15) ∈ lw_tbl := kw_in 449 (by decide +kernel)
theorem kMv_16 : Cond.selects (mN 16).cls (mN 16) (mN 16) ∈ lw_tbl := kw_in 456 (by decide +kernel)
theorem kMv_17 : Cond.selects (mN 17).cls (mN 17) (mN 17) ∈ lw_tbl := kw_in 465 (by decide +kernel)
theorem kMv_18 : Cond.selects (mN 18).cls (mN 18) (mN 18) ∈ lw_tbl := kw_in 521 (by decide +kernel)
theorem kMv_19 : Cond.selects (mN 19).cls (mN 19) (mN 19) ∈ lw_tbl := kw_in 536 (by decide +kernel)
theorem kMv_20 : Cond.selects (mN 20).cls (mN 20) (mN 20) ∈ lw_tbl := kw_in 532 (by decide +kernel)
theorem kMv_21 : Cond.selects (mN 21).cls (mN 21) (mN 21) ∈ lw_tbl := kw_in 596 (by decide +kernel)
theorem kMv_22 : Cond.selects (mN 22).cls (mN 22) (mN 22) ∈ lw_tbl := kw_in 573 (by decide +kernel)
theorem kMv_23 : Cond.selects (mN 23).cls (mN 23) (mN 23) ∈ lw_tbl := kw_in 12 (by decide +kernel)
theorem kMv_24 : Cond.selects (mN 24).cls (mN 24) (mN 24) ∈ lw_tbl := kw_in 13 (by decide +kernel)
theorem kMv_25 : Cond.selects (mN 25).cls (mN 25) (mN 25) ∈ lw_tbl := kw_in 14 (by decide +kernel)
theorem kMv_26 : Cond.selects (mN 26).cls (mN 26) (mN 26) ∈ lw_tbl := kw_in 15 (by decide +kernel)
theorem kMv_27 : Cond.selects (mN 27).cls (mN 27) (mN 27) ∈ lw_tbl := kw_in 675 (by decide +kernel)
theorem kMv_28 : Cond.selects (mN 28).cls (mN 28) (mN 28) ∈ lw_tbl := kw_in 17 (by decide +kernel)
theorem kMv_30 : Cond.selects (mN 30).cls (mN 30) (mN 30) ∈ lw_tbl := kw_in 736 (by decide +kernel)
theorem kMv_31 : Cond.selects (mN 31).cls (mN 31) (mN 31) ∈ lw_tbl := kw_in 724 (by decide +kernel)
theorem kMv_32 : Cond.selects (mN 32).cls (mN 32) (mN 32) ∈ lw_tbl := kw_in 740 (by decide +kernel)
theorem kMv_33 : Cond.selects (mN 33).cls (mN 33) (mN 33) ∈ lw_tbl := kw_in 748 (by decide +kernel)
theorem kMv_34 : Cond.selects (mN 34).cls (mN 34) (mN 34) ∈ lw_tbl := kw_in 732 (by decide +kernel)
theorem kMv_36 : Cond.selects (mN 36).cls (mN 36) (mN 36) ∈ lw_tbl := kw_in 299 (by decide +kernel)
theorem kMv_37 : Cond.selects (mN 37).cls (mN 37) (mN 37) ∈ lw_tbl := kw_in 4 (by decide +kernel)
theorem kMv_38 : Cond.selects (mN 38).cls (mN 38) (mN 38) ∈ lw_tbl := kw_in 5 (by decide +kernel)
theorem kMv_39 : Cond.selects (mN 39).cls (mN 39) (mN 39) ∈ lw_tbl := kw_in 8 (by decide +kernel)
theorem kMv_40 : Cond.selects (mN 40).cls (mN 40) (mN 40) ∈ lw_tbl := kw_in 9 (by decide +kernel)
theorem kMv_42 : Cond.selects (mN 42).cls (mN 42) (mN 42) ∈ lw_tbl := kw_in 10 (by decide +kernel)
theorem kMv_43 : Cond.selects (mN 43).cls (mN 43) (mN 43) ∈ lw_tbl := kw_in 11 (by decide +kernel)
theorem kMv_44 : Cond.selects (mN 44).cls (mN 44) (mN 44) ∈ lw_tbl := kw_in 0 (by decide +kernel)
theorem kMv_45 : Cond.selects (mN 45).cls (mN 45) (mN 45) ∈ lw_tbl := kw_in 1 (by decide +kernel)
theorem kMv_46 : Cond.selects (mN 46).cls (mN 46) (mN 46) ∈ lw_tbl := kw_in 2 (by decide +kernel)
theorem kMv_47 : Cond.selects (mN 47).cls (mN 47) (mN 47) ∈ lw_tbl := kw_in 3 (by decide +kernel)
theorem kMv_48 : Cond.selects (mN 48).cls (mN 48) (mN 48) ∈ lw_tbl := kw_in 6 (by decide +kernel)
theorem kMv_50 : Cond.selects (mN 50).cls (mN 50) (mN 50) ∈ lw_tbl := kw_in 7 (by decide +kernel)
theorem kMv_52 : Cond.selects (mN 52).cls (mN 52) (mN 52) ∈ lw_tbl := kw_in 284 (by decide +kernel)
theorem kMv_53 : Cond.selects (mN 53).cls (mN 53) (mN 53) ∈ lw_tbl := kw_in 291 (by decide +kernel)
theorem kMv_54 : Cond.selects (mN 54).cls (mN 54) (mN 54) ∈ lw_tbl := kw_in 295 (by decide +kernel)
theorem kMv_55 : Cond.selects (mN 55).cls (mN 55) (mN 55) ∈ lw_tbl := kw_in 441 (by decide +kernel)
theorem kMv_56 : Cond.selects (mN 56).cls (mN 56) (mN 56) ∈ lw_tbl := kw_in 445 (by decide +kernel)
theorem kMv_57 : Cond.selects (mN 57).cls (mN 57) (mN 57) ∈ lw_tbl := kw_in 460 (by decide +kernel)
theorem kMv_58 : Cond.selects (mN 58).cls (mN 58) (mN 58) ∈ lw_tbl := kw_in 477 (by decide +kernel)
theorem kMv_59 : Cond.selects (mN 59).cls (mN 59) (mN 59) ∈ lw_tbl := kw_in 485 (by decide +kernel)
theorem kMv_60 : Cond.selects (mN 60).cls (mN 60) (mN 60) ∈ lw_tbl := kw_in 492 (by decide +kernel)
theorem kMv_61 : Cond.selects (mN 61).cls (mN 61) (mN 61) ∈ lw_tbl := kw_in 499 (by decide +kernel)
theorem kMv_62 : Cond.selects (mN 62).cls (mN 62) (mN 62) ∈ lw_tbl := kw_in 504 (by decide +kernel)
theorem kMv_63 : Cond.selects (mN 63).cls (mN 63) (mN 63) ∈ lw_tbl := kw_in 508 (by decide +kernel)
theorem kMv_64 : Cond.selects (mN 64).cls (mN 64) (mN 64) ∈ lw_tbl := kw_in 513 (by decide +kernel)
theorem kMv_65 : Cond.selects (mN 65).cls (mN 65) (mN 65) ∈ lw_tbl := kw_in 517 (by decide +kernel)
theorem kMv_66 : Cond.selects (mN 66).cls (mN 66) (mN 66) ∈ lw_tbl := kw_in 569 (by decide +kernel)
theorem kMv_67 : Cond.selects (mN 67).cls (mN 67) (mN 67) ∈ lw_tbl := kw_in 577 (by decide +kernel)
theorem kMv_68 : Cond.selects (mN 68).cls (mN 68) (mN 68) ∈ lw_tbl := kw_in 581 (by decide +kernel)
theorem kMv_69 : Cond.selects (mN 69).cls (mN 69) (mN 69) ∈ lw_tbl := kw_in 585 (by decide +kernel)
theorem kMv_70 : Cond.selects (mN 70).cls (mN 70) (mN 70) ∈ lw_tbl := kw_in 610 (by decide +kernel)
theorem kMv_71 : Cond.selects (mN 71).cls (mN 71) (mN 71) ∈ lw_tbl := kw_in 614 (by decide +kernel)
theorem kMv_72 : Cond.selects (mN 72).cls (mN 72) (mN 72) ∈ lw_tbl := kw_in 618 (by decide +kernel)
theorem kMv_73 : Cond.selects (mN 73).cls (mN 73) (mN 73) ∈ lw_tbl := kw_in 626 (by decide +kernel)
theorem kMv_74 : Cond.selects (mN 74).cls (mN 74) (mN 74) ∈ lw_tbl := kw_in 630 (by decide +kernel)
theorem kMv_75 : Cond.selects (mN 75).cls (mN 75) (mN 75) ∈ lw_tbl := kw_in 634 (by decide +kernel)
theorem kMv_76 : Cond.selects (mN 76).cls (mN 76) (mN 76) ∈ lw_tbl := kw_in 655 (by decide +kernel)
theorem kMv_77 : Cond.selects (mN 77).cls (mN 77) (mN 77) ∈ lw_tbl := kw_in 659 (by decide +kernel)
theorem kMv_78 : Cond.selects (mN 78).cls (mN 78) (mN 78) ∈ lw_tbl := kw_in 667 (by decide +kernel)
theorem kMv_79 : Cond.selects (mN 79).cls (mN 79) (mN 79) ∈ lw_tbl := kw_in 671 (by decide +kernel)
theorem kMv_80 : Cond.selects (mN 80).cls (mN 80) (mN 80) ∈ lw_tbl := kw_in 683 (by decide +kernel)
theorem kMv_81 : Cond.selects (mN 81).cls (mN 81) (mN 81) ∈ lw_tbl := kw_in 687 (by decide +kernel)
theorem kMv_82 : Cond.selects (mN 82).cls (mN 82) (mN 82) ∈ lw_tbl := kw_in 706 (by decide +kernel)
theorem kMv_83 : Cond.selects (mN 83).cls (mN 83) (mN 83) ∈ lw_tbl := kw_in 712 (by decide +kernel)
theorem kMv_84 : Cond.selects (mN 84).cls (mN 84) (mN 84) ∈ lw_tbl := kw_in 716 (by decide +kernel)
theorem kMv_85 : Cond.selects (mN 85).cls (mN 85) (mN 85) ∈ lw_tbl := kw_in 720 (by decide +kernel)
theorem kMv_86 : Cond.selects (mN 86).cls (mN 86) (mN 86) ∈ lw_tbl := kw_in 728 (by decide +kernel)
theorem kMv_87 : Cond.selects (mN 87).cls (mN 87) (mN 87) ∈ lw_tbl := kw_in 744 (by decide +kernel)
theorem kMv_88 : Cond.selects (mN 88).cls (mN 88) (mN 88) ∈ lw_tbl := kw_in 754 (by decide +kernel)
theorem kMv_89 : Cond.selects (mN 89).cls (mN 89) (mN 89) ∈ lw_tbl := kw_in 758 (by decide +kernel)
theorem kMv_95 : Cond.selects (mN 95).cls (mN 95) (mN 95) ∈ lw_tbl := kw_in 16 (by decide +kernel)
theorem kMv_104 : Cond.selects (mN 104).cls (mN 104) (mN 104) ∈ lw_tbl := kw_in 18 (by decide +kernel)
theorem kMv_105 : Cond.selects (mN 105).cls (mN 105) (mN 105) ∈ lw_tbl := kw_in 19 (by decide +kernel)
theorem kMv_110 : Cond.selects (mN 110).cls (mN 110) (mN 110) ∈ lw_tbl := kw_in 20 (by decide +kernel)
theorem kMv_111 : Cond.selects (mN 111).cls (mN 111) (mN 111) ∈ lw_tbl := kw_in 21 (by decide +kernel)
theorem kMv_112 : Cond.selects (mN 112).cls (mN 112) (mN 112) ∈ lw_tbl := kw_in 863 (by decide +kernel)
theorem kMv_113 : Cond.selects (mN 113).cls (mN 113) (mN 113) ∈ lw_tbl := kw_in 871 (by decide +kernel)
theorem kMv_114 : Cond.selects (mN 114).cls (mN 114) (mN 114) ∈ lw_tbl := kw_in 24 (by decide +kernel)
theorem kMv_115 : Cond.selects (mN 115).cls (mN 115) (mN 115) ∈ lw_tbl := kw_in 23 (by decide +kernel)
theorem kMv_116 : Cond.selects (mN 116).cls (mN 116) (mN 116) ∈ lw_tbl := kw_in 27 (by decide +kernel)
theorem kMv_117 : Cond.selects (mN 117).cls (mN 117) (mN 117) ∈ lw_tbl := kw_in 28 (by decide +kernel)
theorem kMv_118 : Cond.selects (mN 118).cls (mN 118) (mN 118) ∈ lw_tbl := kw_in 26 (by decide +kernel)
theorem kMv_119 : Cond.selects (mN 119).cls (mN 119) (mN 119) ∈ lw_tbl := kw_in 22 (by decide +kernel)
theorem kMv_120 : Cond.selects (mN 120).cls (mN 120) (mN 120) ∈ lw_tbl := kw_in 31 (by decide +kernel)
theorem kMv_121 : Cond.selects (mN 121).cls (mN 121) (mN 121) ∈ lw_tbl := kw_in 30 (by decide +kernel)
theorem kMv_122 : Cond.selects (mN 122).cls (mN 122) (mN 122) ∈ lw_tbl := kw_in 29 (by decide +kernel)
theorem kMv_123 : Cond.selects (mN 123).cls (mN 123) (mN 123) ∈ lw_tbl := kw_in 25 (by decide +kernel)
theorem kMv_124 : Cond.selects (mN 124).cls (mN 124) (mN 124) ∈ lw_tbl := kw_in 875 (by decide +kernel)
theorem kMv_125 : Cond.selects (mN 125).cls (mN 125) (mN 125) ∈ lw_tbl := kw_in 923 (by decide +kernel)
theorem kMv_126 : Cond.selects (mN 126).cls (mN 126) (mN 126) ∈ lw_tbl := kw_in 37 (by decide +kernel)
theorem kMv_127 : Cond.selects (mN 127).cls (mN 127) (mN 127) ∈ lw_tbl := kw_in 40 (by decide +kernel)
theorem kMv_130 : Cond.selects (mN 130).cls (mN 130) (mN 130) ∈ lw_tbl := kw_in 32 (by decide +kernel)
theorem kMv_131 : Cond.selects (mN 131).cls (mN 131) (mN 131) ∈ lw_tbl := kw_in 50 (by decide +kernel)
theorem kMv_132 : Cond.selects (mN 132).cls (mN 132) (mN 132) ∈ lw_tbl := kw_in 34 (by decide +kernel)
theorem kMv_133 : Cond.selects (mN 133).cls (mN 133) (mN 133) ∈ lw_tbl := kw_in 49 (by decide +kernel)
theorem kMv_134 : Cond.selects (mN 134).cls (mN 134) (mN 134) ∈ lw_tbl := kw_in 36 (by decide +kernel)
theorem kMv_135 : Cond.selects (mN 135).cls (mN 135) (mN 135) ∈ lw_tbl := kw_in 46 (by decide +kernel)
theorem kMv_139 : Cond.selects (mN 139).cls (mN 139) (mN 139) ∈ lw_tbl := kw_in 38 (by decide +kernel)
theorem kMv_140 : Cond.selects (mN 140).cls (mN 140) (mN 140) ∈ lw_tbl := kw_in 39 (by decide +kernel)
theorem kMv_141 : Cond.selects (mN 141).cls (mN 141) (mN 141) ∈ lw_tbl := kw_in 48 (by decide +kernel)
theorem kMv_142 : Cond.selects (mN 142).cls (mN 142) (mN 142) ∈ lw_tbl := kw_in 47 (by decide +kernel)
theorem kMv_143 : Cond.selects (mN 143).cls (mN 143) (mN 143) ∈ lw_tbl := kw_in 45 (by decide +kernel)
theorem kMv_144 : Cond.selects (mN 144).cls (mN 144) (mN 144) ∈ lw_tbl := kw_in 44 (by decide +kernel)
theorem kMv_145 : Cond.selects (mN 145).cls (mN 145) (mN 145) ∈ lw_tbl := kw_in 43 (by decide +kernel)
theorem kMv_146 : Cond.selects (mN 146).cls (mN 146) (mN 146) ∈ lw_tbl := kw_in 33 (by decide +kernel)
theorem kMv_147 : Cond.selects (mN 147).cls (mN 147) (mN 147) ∈ lw_tbl := kw_in 53 (by decide +kernel)
theorem kMv_148 : Cond.selects (mN 148).cls (mN 148) (mN 148) ∈ lw_tbl := kw_in 35 (by decide +kernel)
theorem kMv_149 : Cond.selects (mN 149).cls (mN 149) (mN 149) ∈ lw_tbl := kw_in 927 (by decide +kernel)
theorem kMv_150 : Cond.selects (mN 150).cls (mN 150) (mN 150) ∈ lw_tbl := kw_in 954 (by decide +kernel)
theorem kMv_151 : Cond.selects (mN 151).cls (mN 151) (mN 151) ∈ lw_tbl := kw_in 971 (by decide +kernel)
theorem kMv_152 : Cond.selects (mN 152).cls (mN 152) (mN 152) ∈ lw_tbl := kw_in 980 (by decide +kernel)
theorem kMv_153 : Cond.selects (mN 153).cls (mN 153) (mN 153) ∈ lw_tbl := kw_in 41 (by decide +kernel)
theorem kMv_154 : Cond.selects (mN 154).cls (mN 154) (mN 154) ∈ lw_tbl := kw_in 991 (by decide +kernel)
theorem kMv_155 : Cond.selects (mN 155).cls (mN 155) (mN 155) ∈ lw_tbl := kw_in 42 (by decide +kernel)
theorem kMv_156 : Cond.selects (mN 156).cls (mN 156) (mN 156) ∈ lw_tbl := kw_in 1001 (by decide +kernel)
theorem kMv_157 : Cond.selects (mN 157).cls (mN 157) (mN 157) ∈ lw_tbl := kw_in 1009 (by decide +kernel)
theorem kMv_158 : Cond.selects (mN 158).cls (mN 158) (mN 158) ∈ lw_tbl := kw_in 1014 (by decide +kernel)
theorem kMv_159 : Cond.selects (mN 159).cls (mN 159) (mN 159) ∈ lw_tbl := kw_in 1018 (by decide +kernel)
theorem kMv_160 : Cond.selects (mN 160).cls (mN 160) (mN 160) ∈ lw_tbl := kw_in 1022 (by decide +kernel)
theorem kMv_162 : Cond.selects (mN 162).cls (mN 162) (mN 162) ∈ lw_tbl := kw_in 1068 (by decide +kernel)
theorem kMv_163 : Cond.selects (mN 163).cls (mN 163) (mN 163) ∈ lw_tbl := kw_in 1076 (by decide +kernel)
theorem kMv_164 : Cond.selects (mN 164).cls (mN 164) (mN 164) ∈ lw_tbl := kw_in 1080 (by decide +kernel)
theorem kMv_165 : Cond.selects (mN 165).cls (mN 165) (mN 165) ∈ lw_tbl := kw_in 52 (by decide +kernel)
theorem kMv_166 : Cond.selects (mN 166).cls (mN 166) (mN 166) ∈ lw_tbl := kw_in 54 (by decide +kernel)
theorem kMv_167 : Cond.selects (mN 167).cls (mN 167) (mN 167) ∈ lw_tbl := kw_in 55 (by decide +kernel)
theorem kMv_168 : Cond.selects (mN 168).cls (mN 168) (mN 168) ∈ lw_tbl := kw_in 51 (by decide +kernel)
theorem kMv_169 : Cond.selects (mN 169).cls (mN 169) (mN 169) ∈ lw_tbl := kw_in 1084 (by decide +kernel)
theorem kMv_170 : Cond.selects (mN 170).cls (mN 170) (mN 170) ∈ lw_tbl := kw_in 1111 (by decide +kernel)
theorem kMv_171 : Cond.selects (mN 171).cls (mN 171) (mN 171) ∈ lw_tbl := kw_in 1115 (by decide +kernel)
theorem kMv_172 : Cond.selects (mN 172).cls (mN 172) (mN 172) ∈ lw_tbl := kw_in 1119 (by decide +kernel)
theorem kMv_173 : Cond.selects (mN 173).cls (mN 173) (mN 173) ∈ lw_tbl := kw_in 1123 (by decide +kernel)
theorem kMv_174 : Cond.selects (mN 174).cls (mN 174) (mN 174) ∈ lw_tbl := kw_in 1127 (by decide +kernel)
theorem kMv_177 : Cond.selects (mN 177).cls (mN 177) (mN 177) ∈ lw_tbl := kw_in 56 (by decide +kernel)
theorem kMv_178 : Cond.selects (mN 178).cls (mN 178) (mN 178) ∈ lw_tbl := kw_in 1131 (by decide +kernel)
theorem kMv_179 : Cond.selects (mN 179).cls (mN 179) (mN 179) ∈ lw_tbl := kw_in 1148 (by decide +kernel)
theorem kMv_180 : Cond.selects (mN 180).cls (mN 180) (mN 180) ∈ lw_tbl := kw_in 1152 (by decide +kernel)
theorem kMv_181 : Cond.selects (mN 181).cls (mN 181) (mN 181) ∈ lw_tbl := kw_in 1156 (by decide +kernel)
theorem kMv_182 : Cond.selects (mN 182).cls (mN 182) (mN 182) ∈ lw_tbl := kw_in 58 (by decide +kernel)
theorem kMv_183 : Cond.selects (mN 183).cls (mN 183) (mN 183) ∈ lw_tbl := kw_in 57 (by decide +kernel)
theorem kMv_184 : Cond.selects (mN 184).cls (mN 184) (mN 184) ∈ lw_tbl := kw_in 1160 (by decide +kernel)
theorem kMv_185 : Cond.selects (mN 185).cls (mN 185) (mN 185) ∈ lw_tbl := kw_in 1172 (by decide +kernel)
theorem kMv_186 : Cond.selects (mN 186).cls (mN 186) (mN 186) ∈ lw_tbl := kw_in 59 (by decide +kernel)
theorem kMv_187 : Cond.selects (mN 187).cls (mN 187) (mN 187) ∈ lw_tbl := kw_in 1176 (by decide +kernel)
theorem kMv_188 : Cond.selects (mN 188).cls (mN 188) (mN 188) ∈ lw_tbl := kw_in 1184 (by decide +kernel)
theorem kMv_189 : Cond.selects (mN 189).cls (mN 189) (mN 189) ∈ lw_tbl := kw_in 60 (by decide +kernel)
theorem kMv_190 : Cond.selects (mN 190).cls (mN 190) (mN 190) ∈ lw_tbl := kw_in 1189 (by decide +kernel)
theorem kMv_191 : Cond.selects (mN 191).cls (mN 191) (mN 191) ∈ lw_tbl := kw_in 1197 (by decide +kernel)
theorem kMv_193 : Cond.selects (mN 193).cls (mN 193) (mN 193) ∈ lw_tbl := kw_in 1201 (by decide +kernel)
theorem kMv_194 : Cond.selects (mN 194).cls (mN 194) (mN 194) ∈ lw_tbl := kw_in 1209 (by decide +kernel)
theorem kMv_195 : Cond.selects (mN 195).cls (mN 195) (mN 195) ∈ lw_tbl := kw_in 1213 (by decide +kernel)
theorem kMv_196 : Cond.selects (mN 196).cls (mN 196) (mN 196) ∈ lw_tbl := kw_in 1218 (by decide +kernel)
theorem kMv_197 : Cond.selects (mN 197).cls (mN 197) (mN 197) ∈ lw_tbl := kw_in 1222 (by decide +kernel)
theorem kMv : ∀ y, y < 199 → kVirt y = true → Cond.selects (mN y).cls (mN y) (mN y) ∈ lw_tbl := fun y => match y with
  | 0 => fun _ h => absurd h (by decide +kernel)
  | 1 => fun _ _ => kMv_1
  | 2 => fun _ _ => kMv_2
  | 3 => fun _ _ => kMv_3
  | 4 => fun _ h => absurd h (by decide +kernel)
  | 5 => fun _ _ => kMv_5
  | 6 => fun _ _ => kMv_6
  | 7 => fun _ _ => kMv_7
  | 8 => fun _ _ => kMv_8
  | 9 => fun _ _ => kMv_9
  | 10 => fun _ _ => kMv_10
  | 11 => fun _ _ => kMv_11
  | 12 => fun _ _ => kMv_12
  | 13 => fun _ _ => kMv_13
  | 14 => fun _ _ => kMv_14
  | 15 => fun _ _ => kMv_15
  | 16 => fun _ _ => kMv_16
  | 17 => fun _ _ => kMv_17
  | 18 => fun _ _ => kMv_18
  | 19 => fun _ _ => kMv_19
  | 20 => fun _ _ => kMv_20
  | 21 => fun _ _ => kMv_21
  | 22 => fun _ _ => kMv_22
  | 23 => fun _ _ => kMv_23
  | 24 => fun _ _ => kMv_24
  | 25 => fun _ _ => kMv_25
  | 26 => fun _ _ => kMv_26
  | 27 => fun _ _ => kMv_27
  | 28 => fun _ _ => kMv_28
  | 29 => fun _ h => absurd h (by decide +kernel)
  | 30 => fun _ _ => kMv_30
  | 31 => fun _ _ => kMv_31
  | 32 => fun _ _ => kMv_32
  | 33 => fun _ _ => kMv_33
  | 34 => fun _ _ => kMv_34
  | 35 => fun _ h => absurd h (by decide +kernel)
  | 36 => fun _ _ => kMv_36
  | 37 => fun _ _ => kMv_37
  | 38 => fun _ _ => kMv_38
  | 39 => fun _ _ => kMv_39
  | 40 => fun _ _ => kMv_40
  | 41 => fun _ h => absurd h (by decide +kernel)
  | 42 => fun _ _ => kMv_42
  | 43 => fun _ _ => kMv_43
  | 44 => fun _ _ => kMv_44
  | 45 => fun _ _ => kMv_45
  | 46 => fun _ _ => kMv_46
  | 47 => fun _ _ => kMv_47
  | 48 => fun _ _ => kMv_48
  | 49 => fun _ h => absurd h (by decide +kernel)
  | 50 => fun _ _ => kMv_50
  | 51 => fun _ h => absurd h (by decide +kernel)
  | 52 => fun _ _ => kMv_52
  | 53 => fun _ _ => kMv_53
  | 54 => fun _ _ => kMv_54
  | 55 => fun _ _ => kMv_55
  | 56 => fun _ _ => kMv_56
  | 57 => fun _ _ => kMv_57
  | 58 => fun _ _ => kMv_58
  | 59 => fun _ _ => kMv_59
  | 60 => fun _ _ => kMv_60
  | 61 => fun _ _ => kMv_61
  | 62 => fun _ _ => kMv_62
  | 63 => fun _ _ => kMv_63
  | 64 => fun _ _ => kMv_64
  | 65 => fun _ _ => kMv_65
  | 66 => fun _ _ => kMv_66
  | 67 => fun _ _ => kMv_67
  | 68 => fun _ _ => kMv_68
  | 69 => fun _ _ => kMv_69
  | 70 => fun _ _ => kMv_70
  | 71 => fun _ _ => kMv_71
  | 72 => fun _ _ => kMv_72
  | 73 => fun _ _ => kMv_73
  | 74 => fun _ _ => kMv_74
  | 75 => fun _ _ => kMv_75
  | 76 => fun _ _ => kMv_76
  | 77 => fun _ _ => kMv_77
  | 78 => fun _ _ => kMv_78
  | 79 => fun _ _ => kMv_79
  | 80 => fun _ _ => kMv_80
  | 81 => fun _ _ => kMv_81
  | 82 => fun _ _ => kMv_82
  | 83 => fun _ _ => kMv_83
  | 84 => fun _ _ => kMv_84
  | 85 => fun _ _ => kMv_85
  | 86 => fun _ _ => kMv_86
  | 87 => fun _ _ => kMv_87
  | 88 => fun _ _ => kMv_88
  | 89 => fun _ _ => kMv_89
  | 90 => fun _ h => absurd h (by decide +kernel)
  | 91 => fun _ h => absurd h (by decide +kernel)
  | 92 => fun _ h => absurd h (by decide +kernel)
  | 93 => fun _ h => absurd h (by decide +kernel)
  | 94 => fun _ h => absurd h (by decide +kernel)
  | 95 => fun _ _ => kMv_95
  | 96 => fun _ h => absurd h (by decide +kernel)
  | 97 => fun _ h => absurd h (by decide +kernel)
  | 98 => fun _ h => absurd h (by decide +kernel)
  | 99 => fun _ h => absurd h (by decide +kernel)
  | 100 => fun _ h => absurd h (by decide +kernel)
  | 101 => fun _ h => absurd h (by decide +kernel)
  | 102 => fun _ h => absurd h (by decide +kernel)
  | 103 => fun _ h => absurd h (by decide +kernel)
  | 104 => fun _ _ => kMv_104
  | 105 => fun _ _ => kMv_105
  | 106 => fun _ h => absurd h (by decide +kernel)
  | 107 => fun _ h => absurd h (by decide +kernel)
  | 108 => fun _ h => absurd h (by decide +kernel)
  | 109 => fun _ h => absurd h (by decide +kernel)
  | 110 => fun _ _ => kMv_110
  | 111 => fun _ _ => kMv_111
  | 112 => fun _ _ => kMv_112
  | 113 => fun _ _ => kMv_113
  | 114 => fun _ _ => kMv_114
  | 115 => fun _ _ => kMv_115
  | 116 => fun _ _ => kMv_116
  | 117 => fun _ _ => kMv_117
  | 118 => fun _ _ => kMv_118
  | 119 => fun _ _ => kMv_119
  | 120 => fun _ _ => kMv_120
  | 121 => fun _ _ => kMv_121
  | 122 => fun _ _ => kMv_122
  | 123 => fun _ _ => kMv_123
  | 124 => fun _ _ => kMv_124
  | 125 => fun _ _ => kMv_125
  | 126 => fun _ _ => kMv_126
  | 127 => fun _ _ => kMv_127
  | 128 => fun _ h => absurd h (by decide +kernel)
  | 129 => fun _ h => absurd h (by decide +kernel)
  | 130 => fun _ _ => kMv_130
  | 131 => fun _ _ => kMv_131
  | 132 => fun _ _ => kMv_132
  | 133 => fun _ _ => kMv_133
  | 134 => fun _ _ => kMv_134
  | 135 => fun _ _ => kMv_135
  | 136 => fun _ h => absurd h (by decide +kernel)
  | 137 => fun _ h => absurd h (by decide +kernel)
  | 138 => fun _ h => absurd h (by decide +kernel)
  | 139 => fun _ _ => kMv_139
  | 140 => fun _ _ => kMv_140
  | 141 => fun _ _ => kMv_141
  | 142 => fun _ _ => kMv_142
  | 143 => fun _ _ => kMv_143
  | 144 => fun _ _ => kMv_144
  | 145 => fun _ _ => kMv_145
  | 146 => fun _ _ => kMv_146
  | 147 => fun _ _ => kMv_147
  | 148 => fun _ _ => kMv_148
  | 149 => fun _ _ => kMv_149
  | 150 => fun _ _ => kMv_150
  | 151 => fun _ _ => kMv_151
  | 152 => fun _ _ => kMv_152
  | 153 => fun _ _ => kMv_153
  | 154 => fun _ _ => kMv_154
  | 155 => fun _ _ => kMv_155
  | 156 => fun _ _ => kMv_156
  | 157 => fun _ _ => kMv_157
  | 158 => fun _ _ => kMv_158
  | 159 => fun _ _ => kMv_159
  | 160 => fun _ _ => kMv_160
  | 161 => fun _ h => absurd h (by decide +kernel)
  | 162 => fun _ _ => kMv_162
  | 163 => fun _ _ => kMv_163
  | 164 => fun _ _ => kMv_164
  | 165 => fun _ _ => kMv_165
  | 166 => fun _ _ => kMv_166
  | 167 => fun _ _ => kMv_167
  | 168 => fun _ _ => kMv_168
  | 169 => fun _ _ => kMv_169
  | 170 => fun _ _ => kMv_170
  | 171 => fun _ _ => kMv_171
  | 172 => fun _ _ => kMv_172
  | 173 => fun _ _ => kMv_173
  | 174 => fun _ _ => kMv_174
  | 175 => fun _ h => absurd h (by decide +kernel)
  | 176 => fun _ h => absurd h (by decide +kernel)
  | 177 => fun _ _ => kMv_177
  | 178 => fun _ _ => kMv_178
  | 179 => fun _ _ => kMv_179
  | 180 => fun _ _ => kMv_180
  | 181 => fun _ _ => kMv_181
  | 182 => fun _ _ => kMv_182
  | 183 => fun _ _ => kMv_183
  | 184 => fun _ _ => kMv_184
  | 185 => fun _ _ => kMv_185
  | 186 => fun _ _ => kMv_186
  | 187 => fun _ _ => kMv_187
  | 188 => fun _ _ => kMv_188
  | 189 => fun _ _ => kMv_189
  | 190 => fun _ _ => kMv_190
  | 191 => fun _ _ => kMv_191
  | 192 => fun _ h => absurd h (by decide +kernel)
  | 193 => fun _ _ => kMv_193
  | 194 => fun _ _ => kMv_194
  | 195 => fun _ _ => kMv_195
  | 196 => fun _ _ => kMv_196
  | 197 => fun _ _ => kMv_197
  | 198 => fun _ h => absurd h (by decide +kernel)
  | n + 199 => fun h => absurd h (by omega)
theorem kMc : ∀ y, y < 200 → (mN y).cls = kOn (oC y) ∧ oC y < 9 ∧ mL y ≤ 16 ∧ plainName (mN y).cls = true ∧ ((mN y).cls ≠ "java/lang/invoke/MethodHandle" ∧ (mN y).cls ≠ "java/lang/invoke/VarHandle") ∧ 1 ≤ mK y ∧ mK y ≤ 11 := by decide +kernel
set_option maxRecDepth 20000 in
theorem kMx : Cond.code Lib.Math.max.name Lib.Math.max.code 2 (some .int) ∈ lw_tbl ∧ Cond.static Lib.Math.max.name ∈ lw_tbl := ⟨kw_in 551 rfl, kw_in 550 (by decide +kernel)⟩
set_option maxRecDepth 20000 in
theorem kMi : Cond.code Lib.Math.min.name Lib.Math.min.code 2 (some .int) ∈ lw_tbl ∧ Cond.static Lib.Math.min.name ∈ lw_tbl := ⟨kw_in 548 rfl, kw_in 547 (by decide +kernel)⟩
theorem kOb : Cond.instanceMethod Lib.objectInit ∈ lw_tbl ∧ Cond.code Lib.objectInit ⟨#[0xb1]⟩ 1 none ∈ lw_tbl := ⟨kw_in 81 (by decide +kernel), kw_in 82 rfl⟩
theorem kCp : Cond.native arraycopyName ∈ lw_tbl ∧ Cond.static arraycopyName ∈ lw_tbl ∧ Cond.initialized "java/lang/System" ∈ lw_tbl := ⟨kw_in 437 (by decide +kernel), kw_in 436 (by decide +kernel), kw_in 72 (by decide +kernel)⟩
theorem kAc : Cond.arrayClass .int ∈ lw_tbl ∧ Cond.arrayClass .boolean ∈ lw_tbl ∧ Cond.arrayOver (.object RX1) ∈ lw_tbl ∧ Cond.arrayOver (.object RX2) ∈ lw_tbl := ⟨kw_in 162 (by decide +kernel), kw_in 247 (by decide +kernel), kw_in 227 (by decide +kernel), kw_in 229 (by decide +kernel)⟩
