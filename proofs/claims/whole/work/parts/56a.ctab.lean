/-! The constructors: names, codes, words, instructions. By program. -/
def kLocT : List Nat := [2, 1, 2, 2, 1, 2, 3, 1, 1, 3, 2, 1, 1]
def kLoc (k : Nat) : Nat := kLocT.getD k 0
def kCodeT : List ByteArray := [prog_2_method_1_code, prog_3_method_1_code, prog_4_method_1_code, prog_5_method_1_code, prog_6_method_1_code, prog_7_method_1_code, prog_8_method_1_code, prog_9_method_1_code, prog_10_method_1_code, prog_11_method_1_code, prog_12_method_1_code, prog_1_method_1_code, prog_14_method_1_code]
def kCode (k : Nat) : ByteArray := kCodeT.getD k ⟨#[]⟩
def kDsT : List String := ["(LFourHands$Tape;)V", "()V", "(LFourHands$Tape;)V", "(LFourHands$Law;)V", "()V", "()V", "(LFourHands$Tape;LFourHands$State;)V", "()V", "()V", "(LFourHands$Law;LFourHands$Way;)V", "(LFourHands$Law;)V", "()V", "()V"]
def kY (k : Nat) : MethodName := ⟨cN k, "<init>", kDsT.getD k ""⟩
def kNpT : List Nat := [1, 0, 1, 1, 0, 0, 2, 0, 0, 2, 1, 0, 0]
def kNp (k : Nat) : Nat := kNpT.getD k 0
/-- FourHands$Guess -/
def kT_0 : List (Nat × (Nat × Int × Nat × Nat) × Nat) := [(0, (6, 0, 0, 0), 1), (1, (101, 0, 3, 0), 4), (4, (6, 0, 0, 0), 5), (5, (1, 14, 0, 0), 7), (7, (105, 1, 0, 0), 9), (9, (103, 0, 0, 1), 12), (12, (6, 0, 0, 0), 13), (13, (6, 0, 1, 0), 14), (14, (103, 0, 0, 0), 17), (17, (83, 0, 0, 0), 18)]
/-- FourHands$Law -/
def kT_1 : List (Nat × (Nat × Int × Nat × Nat) × Nat) := [(0, (6, 0, 0, 0), 1), (1, (101, 0, 3, 0), 4), (4, (6, 0, 0, 0), 5), (5, (1, 400, 0, 0), 8), (8, (105, 1, 0, 0), 10), (10, (103, 0, 1, 0), 13), (13, (6, 0, 0, 0), 14), (14, (1, 12, 0, 0), 16), (16, (105, 1, 0, 0), 18), (18, (103, 0, 1, 1), 21), (21, (6, 0, 0, 0), 22), (22, (1, 12, 0, 0), 24), (24, (105, 1, 0, 0), 26), (26, (103, 0, 1, 2), 29), (29, (6, 0, 0, 0), 30), (30, (1, 9, 0, 0), 32), (32, (105, 1, 0, 0), 34), (34, (103, 0, 1, 3), 37), (37, (6, 0, 0, 0), 38), (38, (1, 20, 0, 0), 40), (40, (105, 1, 0, 0), 42), (42, (103, 0, 1, 4), 45), (45, (6, 0, 0, 0), 46), (46, (1, (-1), 0, 0), 47), (47, (103, 0, 1, 9), 50), (50, (83, 0, 0, 0), 51)]
/-- FourHands$LawText -/
def kT_2 : List (Nat × (Nat × Int × Nat × Nat) × Nat) := [(0, (6, 0, 0, 0), 1), (1, (101, 0, 3, 0), 4), (4, (6, 0, 0, 0), 5), (5, (100, 0, 1, 0), 8), (8, (47, 0, 0, 0), 9), (9, (102, 0, 1, 0), 12), (12, (103, 0, 2, 1), 15), (15, (6, 0, 0, 0), 16), (16, (6, 0, 1, 0), 17), (17, (103, 0, 2, 0), 20), (20, (83, 0, 0, 0), 21)]
/-- FourHands$Leftovers -/
def kT_3 : List (Nat × (Nat × Int × Nat × Nat) × Nat) := [(0, (6, 0, 0, 0), 1), (1, (101, 0, 3, 0), 4), (4, (6, 0, 0, 0), 5), (5, (1, 14, 0, 0), 7), (7, (105, 1, 0, 0), 9), (9, (103, 0, 3, 1), 12), (12, (6, 0, 0, 0), 13), (13, (1, 84, 0, 0), 15), (15, (105, 1, 0, 0), 17), (17, (103, 0, 3, 2), 20), (20, (6, 0, 0, 0), 21), (21, (6, 0, 1, 0), 22), (22, (103, 0, 3, 0), 25), (25, (83, 0, 0, 0), 26)]
/-- FourHands$Log -/
def kT_4 : List (Nat × (Nat × Int × Nat × Nat) × Nat) := [(0, (6, 0, 0, 0), 1), (1, (101, 0, 3, 0), 4), (4, (6, 0, 0, 0), 5), (5, (1, 60, 0, 0), 7), (7, (105, 1, 0, 0), 9), (9, (103, 0, 4, 0), 12), (12, (83, 0, 0, 0), 13)]
/-- FourHands$Past -/
def kT_5 : List (Nat × (Nat × Int × Nat × Nat) × Nat) := [(0, (6, 0, 0, 0), 1), (1, (101, 0, 1, 0), 4), (4, (6, 0, 0, 0), 5), (5, (1, 12, 0, 0), 7), (7, (106, 0, 0, 0), 10), (10, (103, 0, 5, 0), 13), (13, (1, 0, 0, 0), 14), (14, (7, 0, 1, 0), 15), (15, (4, 0, 1, 0), 16), (16, (1, 12, 0, 0), 18), (18, (65, 0, 40, 0), 21), (21, (6, 0, 0, 0), 22), (22, (104, 0, 5, 0), 25), (25, (4, 0, 1, 0), 26), (26, (100, 0, 7, 0), 29), (29, (47, 0, 0, 0), 30), (30, (102, 0, 7, 0), 33), (33, (108, 0, 0, 0), 34), (34, (10, 1, 1, 0), 37), (37, (60, 0, 15, 0), 40), (40, (83, 0, 0, 0), 41)]
/-- FourHands$PieceText -/
def kT_6 : List (Nat × (Nat × Int × Nat × Nat) × Nat) := [(0, (6, 0, 0, 0), 1), (1, (101, 0, 3, 0), 4), (4, (6, 0, 0, 0), 5), (5, (6, 0, 1, 0), 6), (6, (103, 0, 6, 0), 9), (9, (6, 0, 0, 0), 10), (10, (6, 0, 2, 0), 11), (11, (103, 0, 6, 1), 14), (14, (83, 0, 0, 0), 15)]
/-- FourHands$State -/
def kT_7 : List (Nat × (Nat × Int × Nat × Nat) × Nat) := [(0, (6, 0, 0, 0), 1), (1, (101, 0, 3, 0), 4), (4, (6, 0, 0, 0), 5), (5, (1, 7, 0, 0), 7), (7, (105, 1, 0, 0), 9), (9, (103, 0, 7, 0), 12), (12, (6, 0, 0, 0), 13), (13, (1, 7, 0, 0), 15), (15, (105, 1, 0, 0), 17), (17, (103, 0, 7, 1), 20), (20, (6, 0, 0, 0), 21), (21, (1, 7, 0, 0), 23), (23, (105, 1, 0, 0), 25), (25, (103, 0, 7, 2), 28), (28, (6, 0, 0, 0), 29), (29, (1, 7, 0, 0), 31), (31, (105, 1, 0, 0), 33), (33, (103, 0, 7, 3), 36), (36, (6, 0, 0, 0), 37), (37, (1, 7, 0, 0), 39), (39, (105, 1, 0, 0), 41), (41, (103, 0, 7, 4), 44), (44, (6, 0, 0, 0), 45), (45, (1, 14, 0, 0), 47), (47, (105, 1, 0, 0), 49), (49, (103, 0, 7, 5), 52), (52, (6, 0, 0, 0), 53), (53, (1, 14, 0, 0), 55), (55, (105, 1, 0, 0), 57), (57, (103, 0, 7, 6), 60), (60, (6, 0, 0, 0), 61), (61, (1, 14, 0, 0), 63), (63, (105, 1, 0, 0), 65), (65, (103, 0, 7, 7), 68), (68, (6, 0, 0, 0), 69), (69, (1, 4, 0, 0), 70), (70, (105, 1, 0, 0), 72), (72, (103, 0, 7, 8), 75), (75, (6, 0, 0, 0), 76), (76, (100, 0, 4, 0), 79), (79, (47, 0, 0, 0), 80), (80, (102, 0, 4, 0), 83), (83, (103, 0, 7, 9), 86), (86, (6, 0, 0, 0), 87), (87, (1, 1, 0, 0), 88), (88, (103, 0, 7, 18), 91), (91, (83, 0, 0, 0), 92)]
/-- FourHands$Tape -/
def kT_8 : List (Nat × (Nat × Int × Nat × Nat) × Nat) := [(0, (6, 0, 0, 0), 1), (1, (101, 0, 3, 0), 4), (4, (6, 0, 0, 0), 5), (5, (1, 400, 0, 0), 8), (8, (105, 1, 0, 0), 10), (10, (103, 0, 8, 0), 13), (13, (6, 0, 0, 0), 14), (14, (1, (-1), 0, 0), 15), (15, (103, 0, 8, 2), 18), (18, (83, 0, 0, 0), 19)]
/-- FourHands$Turns -/
def kT_9 : List (Nat × (Nat × Int × Nat × Nat) × Nat) := [(0, (6, 0, 0, 0), 1), (1, (101, 0, 3, 0), 4), (4, (6, 0, 0, 0), 5), (5, (6, 0, 1, 0), 6), (6, (103, 0, 9, 0), 9), (9, (6, 0, 0, 0), 10), (10, (6, 0, 2, 0), 11), (11, (103, 0, 9, 1), 14), (14, (83, 0, 0, 0), 15)]
/-- FourHands$Way -/
def kT_10 : List (Nat × (Nat × Int × Nat × Nat) × Nat) := [(0, (6, 0, 0, 0), 1), (1, (101, 0, 3, 0), 4), (4, (6, 0, 0, 0), 5), (5, (1, 14, 0, 0), 7), (7, (105, 1, 0, 0), 9), (9, (103, 0, 10, 1), 12), (12, (6, 0, 0, 0), 13), (13, (1, 14, 0, 0), 15), (15, (105, 1, 0, 0), 17), (17, (103, 0, 10, 2), 20), (20, (6, 0, 0, 0), 21), (21, (1, 84, 0, 0), 23), (23, (105, 1, 0, 0), 25), (25, (103, 0, 10, 3), 28), (28, (6, 0, 0, 0), 29), (29, (1, 15, 0, 0), 31), (31, (105, 1, 0, 0), 33), (33, (103, 0, 10, 4), 36), (36, (6, 0, 0, 0), 37), (37, (1, 960, 0, 0), 40), (40, (105, 1, 0, 0), 42), (42, (103, 0, 10, 5), 45), (45, (6, 0, 0, 0), 46), (46, (1, 14, 0, 0), 48), (48, (105, 1, 0, 0), 50), (50, (103, 0, 10, 7), 53), (53, (6, 0, 0, 0), 54), (54, (1, 6, 0, 0), 56), (56, (105, 1, 0, 0), 58), (58, (103, 0, 10, 8), 61), (61, (6, 0, 0, 0), 62), (62, (6, 0, 1, 0), 63), (63, (103, 0, 10, 0), 66), (66, (83, 0, 0, 0), 67)]
/-- FourHands -/
def kT_11 : List (Nat × (Nat × Int × Nat × Nat) × Nat) := [(0, (6, 0, 0, 0), 1), (1, (101, 0, 1, 0), 4), (4, (6, 0, 0, 0), 5), (5, (100, 0, 8, 0), 8), (8, (47, 0, 0, 0), 9), (9, (102, 0, 8, 0), 12), (12, (103, 0, 11, 0), 15), (15, (6, 0, 0, 0), 16), (16, (100, 0, 7, 0), 19), (19, (47, 0, 0, 0), 20), (20, (102, 0, 7, 0), 23), (23, (103, 0, 11, 1), 26), (26, (6, 0, 0, 0), 27), (27, (100, 0, 7, 0), 30), (30, (47, 0, 0, 0), 31), (31, (102, 0, 7, 0), 34), (34, (103, 0, 11, 2), 37), (37, (6, 0, 0, 0), 38), (38, (100, 0, 7, 0), 41), (41, (47, 0, 0, 0), 42), (42, (102, 0, 7, 0), 45), (45, (103, 0, 11, 3), 48), (48, (6, 0, 0, 0), 49), (49, (100, 0, 5, 0), 52), (52, (47, 0, 0, 0), 53), (53, (102, 0, 5, 0), 56), (56, (103, 0, 11, 4), 59), (59, (6, 0, 0, 0), 60), (60, (100, 0, 1, 0), 63), (63, (47, 0, 0, 0), 64), (64, (102, 0, 1, 0), 67), (67, (103, 0, 11, 5), 70), (70, (6, 0, 0, 0), 71), (71, (100, 0, 1, 0), 74), (74, (47, 0, 0, 0), 75), (75, (102, 0, 1, 0), 78), (78, (103, 0, 11, 6), 81), (81, (6, 0, 0, 0), 82), (82, (100, 0, 6, 0), 85), (85, (47, 0, 0, 0), 86), (86, (6, 0, 0, 0), 87), (87, (104, 0, 11, 0), 90), (90, (6, 0, 0, 0), 91), (91, (104, 0, 11, 2), 94), (94, (102, 2, 6, 0), 97), (97, (103, 0, 11, 7), 100), (100, (6, 0, 0, 0), 101), (101, (100, 0, 2, 0), 104), (104, (47, 0, 0, 0), 105), (105, (6, 0, 0, 0), 106), (106, (104, 0, 11, 0), 109), (109, (102, 1, 2, 0), 112), (112, (103, 0, 11, 8), 115), (115, (6, 0, 0, 0), 116), (116, (100, 0, 10, 0), 119), (119, (47, 0, 0, 0), 120), (120, (6, 0, 0, 0), 121), (121, (104, 0, 11, 5), 124), (124, (102, 1, 10, 0), 127), (127, (103, 0, 11, 9), 130), (130, (6, 0, 0, 0), 131), (131, (100, 0, 9, 0), 134), (134, (47, 0, 0, 0), 135), (135, (6, 0, 0, 0), 136), (136, (104, 0, 11, 5), 139), (139, (6, 0, 0, 0), 140), (140, (104, 0, 11, 9), 143), (143, (102, 2, 9, 0), 146), (146, (103, 0, 11, 10), 149), (149, (6, 0, 0, 0), 150), (150, (100, 0, 3, 0), 153), (153, (47, 0, 0, 0), 154), (154, (6, 0, 0, 0), 155), (155, (104, 0, 11, 5), 158), (158, (102, 1, 3, 0), 161), (161, (103, 0, 11, 11), 164), (164, (6, 0, 0, 0), 165), (165, (100, 0, 0, 0), 168), (168, (47, 0, 0, 0), 169), (169, (6, 0, 0, 0), 170), (170, (104, 0, 11, 0), 173), (173, (102, 1, 0, 0), 176), (176, (103, 0, 11, 12), 179), (179, (6, 0, 0, 0), 180), (180, (1, 12, 0, 0), 182), (182, (105, 1, 0, 0), 184), (184, (103, 0, 11, 13), 187), (187, (6, 0, 0, 0), 188), (188, (1, 0, 0, 0), 189), (189, (103, 0, 11, 14), 192), (192, (6, 0, 0, 0), 193), (193, (1, (-1), 0, 0), 194), (194, (103, 0, 11, 15), 197), (197, (6, 0, 0, 0), 198), (198, (1, 0, 0, 0), 199), (199, (103, 0, 11, 16), 202), (202, (83, 0, 0, 0), 203)]
/-- FourHandsModel -/
def kT_12 : List (Nat × (Nat × Int × Nat × Nat) × Nat) := [(0, (6, 0, 0, 0), 1), (1, (101, 0, 1, 0), 4), (4, (6, 0, 0, 0), 5), (5, (1, 746, 0, 0), 8), (8, (105, 1, 0, 0), 10), (10, (103, 0, 12, 1), 13), (13, (6, 0, 0, 0), 14), (14, (1, 746, 0, 0), 17), (17, (105, 1, 0, 0), 19), (19, (103, 0, 12, 2), 22), (22, (6, 0, 0, 0), 23), (23, (1, 346, 0, 0), 26), (26, (105, 1, 0, 0), 28), (28, (103, 0, 12, 4), 31), (31, (6, 0, 0, 0), 32), (32, (1, 4152, 0, 0), 35), (35, (105, 1, 0, 0), 37), (37, (103, 0, 12, 5), 40), (40, (6, 0, 0, 0), 41), (41, (1, 400, 0, 0), 44), (44, (105, 1, 0, 0), 46), (46, (103, 0, 12, 7), 49), (49, (6, 0, 0, 0), 50), (50, (1, (-1), 0, 0), 51), (51, (103, 0, 12, 12), 54), (54, (6, 0, 0, 0), 55), (55, (1, 7, 0, 0), 57), (57, (105, 1, 0, 0), 59), (59, (103, 0, 12, 14), 62), (62, (6, 0, 0, 0), 63), (63, (1, 98, 0, 0), 65), (65, (105, 2, 0, 0), 67), (67, (103, 0, 12, 19), 70), (70, (6, 0, 0, 0), 71), (71, (1, (-1), 0, 0), 72), (72, (103, 0, 12, 20), 75), (75, (6, 0, 0, 0), 76), (76, (1, 1920, 0, 0), 79), (79, (105, 1, 0, 0), 81), (81, (103, 0, 12, 21), 84), (84, (6, 0, 0, 0), 85), (85, (1, 14, 0, 0), 87), (87, (105, 1, 0, 0), 89), (89, (103, 0, 12, 22), 92), (92, (6, 0, 0, 0), 93), (93, (1, 14, 0, 0), 95), (95, (105, 1, 0, 0), 97), (97, (103, 0, 12, 24), 100), (100, (6, 0, 0, 0), 101), (101, (1, 7, 0, 0), 103), (103, (105, 1, 0, 0), 105), (105, (103, 0, 12, 25), 108), (108, (6, 0, 0, 0), 109), (109, (1, 640, 0, 0), 112), (112, (105, 2, 0, 0), 114), (114, (103, 0, 12, 26), 117), (117, (6, 0, 0, 0), 118), (118, (1, 12, 0, 0), 120), (120, (105, 1, 0, 0), 122), (122, (103, 0, 12, 27), 125), (125, (6, 0, 0, 0), 126), (126, (104, 0, 12, 1), 129), (129, (1, 1, 0, 0), 130), (130, (1, (-1), 0, 0), 131), (131, (107, 0, 0, 0), 132), (132, (6, 0, 0, 0), 133), (133, (104, 0, 12, 1), 136), (136, (1, 13, 0, 0), 138), (138, (1, 1, 0, 0), 139), (139, (107, 0, 0, 0), 140), (140, (83, 0, 0, 0), 141)]
def kTT : List (List (Nat × (Nat × Int × Nat × Nat) × Nat)) := [kT_0, kT_1, kT_2, kT_3, kT_4, kT_5, kT_6, kT_7, kT_8, kT_9, kT_10, kT_11, kT_12]
def kT (k : Nat) : List (Nat × (Nat × Int × Nat × Nat) × Nat) := kTT.getD k []
def kOk (k : Nat) : Prop := Cond.code (kY k) (kCode k) (kLoc k) none ∈ lw_tbl ∧ Cond.initialized (cN k) ∈ lw_tbl ∧ Cond.instanceMethod (kY k) ∈ lw_tbl ∧ ((kY k).cls ≠ "java/lang/invoke/MethodHandle" ∧ (kY k).cls ≠ "java/lang/invoke/VarHandle" ∧ (parseMethodDescriptor (kY k).desc).map (fun d => d.parameters.length) = some (kNp k)) ∧ plainName (kY k).cls = true ∧ Cond.instantiable (cN k) (nF k) ∈ lw_tbl
set_option maxRecDepth 20000 in
theorem kok_0 : kOk 0 := ⟨inT2 _ (List.mem_of_getElem? (i := 146) rfl), inT1 _ (List.mem_of_getElem? (i := 12) rfl), inT2 _ (List.mem_of_getElem? (i := 145) rfl), ⟨by decide +kernel, by decide +kernel, by decide +kernel⟩, by decide +kernel, inT2 _ (List.mem_of_getElem? (i := 143) rfl)⟩
set_option maxRecDepth 20000 in
theorem kok_1 : kOk 1 := ⟨inT1 _ (List.mem_of_getElem? (i := 238) rfl), inT1 _ (List.mem_of_getElem? (i := 6) rfl), inT1 _ (List.mem_of_getElem? (i := 237) rfl), ⟨by decide +kernel, by decide +kernel, by decide +kernel⟩, by decide +kernel, inT1 _ (List.mem_of_getElem? (i := 235) rfl)⟩
set_option maxRecDepth 20000 in
theorem kok_2 : kOk 2 := ⟨inT2 _ (List.mem_of_getElem? (i := 49) rfl), inT1 _ (List.mem_of_getElem? (i := 8) rfl), inT2 _ (List.mem_of_getElem? (i := 48) rfl), ⟨by decide +kernel, by decide +kernel, by decide +kernel⟩, by decide +kernel, inT2 _ (List.mem_of_getElem? (i := 46) rfl)⟩
set_option maxRecDepth 20000 in
theorem kok_3 : kOk 3 := ⟨inT2 _ (List.mem_of_getElem? (i := 124) rfl), inT1 _ (List.mem_of_getElem? (i := 11) rfl), inT2 _ (List.mem_of_getElem? (i := 123) rfl), ⟨by decide +kernel, by decide +kernel, by decide +kernel⟩, by decide +kernel, inT2 _ (List.mem_of_getElem? (i := 121) rfl)⟩
set_option maxRecDepth 20000 in
theorem kok_4 : kOk 4 := ⟨inT1 _ (List.mem_of_getElem? (i := 87) rfl), inT1 _ (List.mem_of_getElem? (i := 4) rfl), inT1 _ (List.mem_of_getElem? (i := 86) rfl), ⟨by decide +kernel, by decide +kernel, by decide +kernel⟩, by decide +kernel, inT1 _ (List.mem_of_getElem? (i := 84) rfl)⟩
set_option maxRecDepth 20000 in
theorem kok_5 : kOk 5 := ⟨inT1 _ (List.mem_of_getElem? (i := 218) rfl), inT1 _ (List.mem_of_getElem? (i := 5) rfl), inT1 _ (List.mem_of_getElem? (i := 217) rfl), ⟨by decide +kernel, by decide +kernel, by decide +kernel⟩, by decide +kernel, inT1 _ (List.mem_of_getElem? (i := 215) rfl)⟩
set_option maxRecDepth 20000 in
theorem kok_6 : kOk 6 := ⟨inT2 _ (List.mem_of_getElem? (i := 36) rfl), inT1 _ (List.mem_of_getElem? (i := 7) rfl), inT2 _ (List.mem_of_getElem? (i := 35) rfl), ⟨by decide +kernel, by decide +kernel, by decide +kernel⟩, by decide +kernel, inT2 _ (List.mem_of_getElem? (i := 33) rfl)⟩
set_option maxRecDepth 20000 in
theorem kok_7 : kOk 7 := ⟨inT1 _ (List.mem_of_getElem? (i := 81) rfl), inT1 _ (List.mem_of_getElem? (i := 3) rfl), inT1 _ (List.mem_of_getElem? (i := 80) rfl), ⟨by decide +kernel, by decide +kernel, by decide +kernel⟩, by decide +kernel, inT1 _ (List.mem_of_getElem? (i := 78) rfl)⟩
set_option maxRecDepth 20000 in
theorem kok_8 : kOk 8 := ⟨inT1 _ (List.mem_of_getElem? (i := 43) rfl), inT1 _ (List.mem_of_getElem? (i := 2) rfl), inT1 _ (List.mem_of_getElem? (i := 42) rfl), ⟨by decide +kernel, by decide +kernel, by decide +kernel⟩, by decide +kernel, inT1 _ (List.mem_of_getElem? (i := 40) rfl)⟩
set_option maxRecDepth 20000 in
theorem kok_9 : kOk 9 := ⟨inT2 _ (List.mem_of_getElem? (i := 111) rfl), inT1 _ (List.mem_of_getElem? (i := 10) rfl), inT2 _ (List.mem_of_getElem? (i := 110) rfl), ⟨by decide +kernel, by decide +kernel, by decide +kernel⟩, by decide +kernel, inT2 _ (List.mem_of_getElem? (i := 108) rfl)⟩
set_option maxRecDepth 20000 in
theorem kok_10 : kOk 10 := ⟨inT2 _ (List.mem_of_getElem? (i := 65) rfl), inT1 _ (List.mem_of_getElem? (i := 9) rfl), inT2 _ (List.mem_of_getElem? (i := 64) rfl), ⟨by decide +kernel, by decide +kernel, by decide +kernel⟩, by decide +kernel, inT2 _ (List.mem_of_getElem? (i := 62) rfl)⟩
set_option maxRecDepth 20000 in
theorem kok_11 : kOk 11 := ⟨inT1 _ (List.mem_of_getElem? (i := 35) rfl), inT1 _ (List.mem_of_getElem? (i := 1) rfl), inT1 _ (List.mem_of_getElem? (i := 34) rfl), ⟨by decide +kernel, by decide +kernel, by decide +kernel⟩, by decide +kernel, inT1 _ (List.mem_of_getElem? (i := 32) rfl)⟩
set_option maxRecDepth 20000 in
theorem kok_12 : kOk 12 := ⟨inT7 _ (List.mem_of_getElem? (i := 107) rfl), inT1 _ (List.mem_of_getElem? (i := 13) rfl), inT7 _ (List.mem_of_getElem? (i := 106) rfl), ⟨by decide +kernel, by decide +kernel, by decide +kernel⟩, by decide +kernel, inT7 _ (List.mem_of_getElem? (i := 104) rfl)⟩
theorem kok_all : ∀ k, k < 13 → kOk k := fun k hk => match k, hk with
  | 0, _ => kok_0
  | 1, _ => kok_1
  | 2, _ => kok_2
  | 3, _ => kok_3
  | 4, _ => kok_4
  | 5, _ => kok_5
  | 6, _ => kok_6
  | 7, _ => kok_7
  | 8, _ => kok_8
  | 9, _ => kok_9
  | 10, _ => kok_10
  | 11, _ => kok_11
  | 12, _ => kok_12
  | n + 13, h => absurd h (by omega)
theorem oi_inst : Cond.instanceMethod Lib.objectInit ∈ lw_tbl := inT1 _ (List.mem_of_getElem? (i := 37) rfl)
set_option maxRecDepth 20000 in
theorem oi_code : Cond.code Lib.objectInit ⟨#[0xb1]⟩ 1 none ∈ lw_tbl := inT1 _ (List.mem_of_getElem? (i := 38) rfl)
theorem ar_I : Cond.arrayClass .int ∈ lw_tbl := inT1 _ (List.mem_of_getElem? (i := 76) rfl)
theorem ar_Z : Cond.arrayClass .boolean ∈ lw_tbl := inT7 _ (List.mem_of_getElem? (i := 194) rfl)
theorem ar_J : Cond.arrayClass .long ∈ lw_tbl := inT10 _ (List.mem_of_getElem? (i := 77) rfl)
theorem ao_S : Cond.arrayOver (.object "FourHands$State") ∈ lw_tbl := inT1 _ (List.mem_of_getElem? (i := 221) rfl)
def czQ (q : Nat × Option (Nat)) : Prop := match q.2 with
  | some v => Cond.classLink (cN (q.1 / 10000)) (q.1 % 10000) (cN v) ∈ lw_tbl
  | none => True
def czT_0 : List (Nat × Option (Nat)) := [(110007, some 8), (110016, some 7), (110029, some 5), (110036, some 1), (110046, some 6), (110055, some 2), (110064, some 10), (110073, some 9), (110082, some 3), (110089, some 0), (20009, some 1), (50009, some 7), (70039, some 4), (130008, some 11), (130144, some 12)]
set_option maxRecDepth 20000 in
theorem czO_0 : ∀ q ∈ czT_0, czQ q := List.forall_mem_cons.mpr ⟨inT1 _ (List.mem_of_getElem? (i := 39) rfl), List.forall_mem_cons.mpr ⟨inT1 _ (List.mem_of_getElem? (i := 77) rfl), List.forall_mem_cons.mpr ⟨inT1 _ (List.mem_of_getElem? (i := 214) rfl), List.forall_mem_cons.mpr ⟨inT1 _ (List.mem_of_getElem? (i := 234) rfl), List.forall_mem_cons.mpr ⟨inT2 _ (List.mem_of_getElem? (i := 32) rfl), List.forall_mem_cons.mpr ⟨inT2 _ (List.mem_of_getElem? (i := 45) rfl), List.forall_mem_cons.mpr ⟨inT2 _ (List.mem_of_getElem? (i := 61) rfl), List.forall_mem_cons.mpr ⟨inT2 _ (List.mem_of_getElem? (i := 107) rfl), List.forall_mem_cons.mpr ⟨inT2 _ (List.mem_of_getElem? (i := 120) rfl), List.forall_mem_cons.mpr ⟨inT2 _ (List.mem_of_getElem? (i := 142) rfl), List.forall_mem_cons.mpr ⟨inT2 _ (List.mem_of_getElem? (i := 51) rfl), List.forall_mem_cons.mpr ⟨inT1 _ (List.mem_of_getElem? (i := 220) rfl), List.forall_mem_cons.mpr ⟨inT1 _ (List.mem_of_getElem? (i := 83) rfl), List.forall_mem_cons.mpr ⟨inT1 _ (List.mem_of_getElem? (i := 31) rfl), List.forall_mem_cons.mpr ⟨inT7 _ (List.mem_of_getElem? (i := 103) rfl), fun _ h => absurd h List.not_mem_nil⟩⟩⟩⟩⟩⟩⟩⟩⟩⟩⟩⟩⟩⟩⟩
def czT : List (Nat × Option (Nat)) := czT_0
theorem czO : ∀ q ∈ czT, czQ q := by
  intro q h
  unfold czT at h
  exact czO_0 q h
def czk (k : Nat) : Option (Nat) := lkp none k czT
theorem czk_ok {k : Nat} {v : Nat} (h : czk k = some v) : czQ (k, some v) := czO _ (lkp_mem h)
def ilQ (q : Nat × Option (Nat)) : Prop := match q.2 with
  | some v => Cond.methodLink (cN (q.1 / 10000)) (q.1 % 10000) (kY v) ∈ lw_tbl
  | none => True
def ilT_0 : List (Nat × Option (Nat)) := [(110031, some 5), (110048, some 6), (110057, some 2), (110066, some 10), (110075, some 9), (110084, some 3), (110091, some 0), (130143, some 11), (130146, some 12)]
set_option maxRecDepth 20000 in
theorem ilO_0 : ∀ q ∈ ilT_0, ilQ q := List.forall_mem_cons.mpr ⟨inT1 _ (List.mem_of_getElem? (i := 216) rfl), List.forall_mem_cons.mpr ⟨inT2 _ (List.mem_of_getElem? (i := 34) rfl), List.forall_mem_cons.mpr ⟨inT2 _ (List.mem_of_getElem? (i := 47) rfl), List.forall_mem_cons.mpr ⟨inT2 _ (List.mem_of_getElem? (i := 63) rfl), List.forall_mem_cons.mpr ⟨inT2 _ (List.mem_of_getElem? (i := 109) rfl), List.forall_mem_cons.mpr ⟨inT2 _ (List.mem_of_getElem? (i := 122) rfl), List.forall_mem_cons.mpr ⟨inT2 _ (List.mem_of_getElem? (i := 144) rfl), List.forall_mem_cons.mpr ⟨inT1 _ (List.mem_of_getElem? (i := 33) rfl), List.forall_mem_cons.mpr ⟨inT7 _ (List.mem_of_getElem? (i := 105) rfl), fun _ h => absurd h List.not_mem_nil⟩⟩⟩⟩⟩⟩⟩⟩⟩
def ilT : List (Nat × Option (Nat)) := ilT_0
theorem ilO : ∀ q ∈ ilT, ilQ q := by
  intro q h
  unfold ilT at h
  exact ilO_0 q h
def ilk (k : Nat) : Option (Nat) := lkp none k ilT
theorem ilk_ok {k : Nat} {v : Nat} (h : ilk k = some v) : ilQ (k, some v) := ilO _ (lkp_mem h)
def izQ (q : Nat × Option (Nat)) : Prop := match q.2 with
  | some v => Cond.methodLinkNest (cN (q.1 / 10000)) (q.1 % 10000) (kY v) "FourHands" ∈ lw_tbl
  | none => True
def izT_0 : List (Nat × Option (Nat)) := [(110009, some 8), (110018, some 7), (110038, some 1), (20011, some 1), (50015, some 7), (70041, some 4)]
set_option maxRecDepth 20000 in
theorem izO_0 : ∀ q ∈ izT_0, izQ q := List.forall_mem_cons.mpr ⟨inT1 _ (List.mem_of_getElem? (i := 41) rfl), List.forall_mem_cons.mpr ⟨inT1 _ (List.mem_of_getElem? (i := 79) rfl), List.forall_mem_cons.mpr ⟨inT1 _ (List.mem_of_getElem? (i := 236) rfl), List.forall_mem_cons.mpr ⟨inT2 _ (List.mem_of_getElem? (i := 52) rfl), List.forall_mem_cons.mpr ⟨inT1 _ (List.mem_of_getElem? (i := 222) rfl), List.forall_mem_cons.mpr ⟨inT1 _ (List.mem_of_getElem? (i := 85) rfl), fun _ h => absurd h List.not_mem_nil⟩⟩⟩⟩⟩⟩
def izT : List (Nat × Option (Nat)) := izT_0
theorem izO : ∀ q ∈ izT, izQ q := by
  intro q h
  unfold izT at h
  exact izO_0 q h
def izk (k : Nat) : Option (Nat) := lkp none k izT
theorem izk_ok {k : Nat} {v : Nat} (h : izk k = some v) : izQ (k, some v) := izO _ (lkp_mem h)
def ozQ (q : Nat × Option (Nat)) : Prop := match q.2 with
  | some v => Cond.methodLink (cN (q.1 / 10000)) (q.1 % 10000) Lib.objectInit ∈ lw_tbl
  | none => True
def ozT_0 : List (Nat × Option (Nat)) := [(110001, some 0), (3, some 0), (10003, some 0), (20003, some 0), (30003, some 0), (40003, some 0), (50001, some 0), (60003, some 0), (70003, some 0), (80003, some 0), (90003, some 0), (100003, some 0), (120001, some 0)]
set_option maxRecDepth 20000 in
theorem ozO_0 : ∀ q ∈ ozT_0, ozQ q := List.forall_mem_cons.mpr ⟨inT1 _ (List.mem_of_getElem? (i := 36) rfl), List.forall_mem_cons.mpr ⟨inT2 _ (List.mem_of_getElem? (i := 147) rfl), List.forall_mem_cons.mpr ⟨inT1 _ (List.mem_of_getElem? (i := 239) rfl), List.forall_mem_cons.mpr ⟨inT2 _ (List.mem_of_getElem? (i := 50) rfl), List.forall_mem_cons.mpr ⟨inT2 _ (List.mem_of_getElem? (i := 125) rfl), List.forall_mem_cons.mpr ⟨inT1 _ (List.mem_of_getElem? (i := 88) rfl), List.forall_mem_cons.mpr ⟨inT1 _ (List.mem_of_getElem? (i := 219) rfl), List.forall_mem_cons.mpr ⟨inT2 _ (List.mem_of_getElem? (i := 37) rfl), List.forall_mem_cons.mpr ⟨inT1 _ (List.mem_of_getElem? (i := 82) rfl), List.forall_mem_cons.mpr ⟨inT1 _ (List.mem_of_getElem? (i := 44) rfl), List.forall_mem_cons.mpr ⟨inT2 _ (List.mem_of_getElem? (i := 112) rfl), List.forall_mem_cons.mpr ⟨inT2 _ (List.mem_of_getElem? (i := 66) rfl), List.forall_mem_cons.mpr ⟨inT7 _ (List.mem_of_getElem? (i := 108) rfl), fun _ h => absurd h List.not_mem_nil⟩⟩⟩⟩⟩⟩⟩⟩⟩⟩⟩⟩⟩
def ozT : List (Nat × Option (Nat)) := ozT_0
theorem ozO : ∀ q ∈ ozT, ozQ q := by
  intro q h
  unfold ozT at h
  exact ozO_0 q h
def ozk (k : Nat) : Option (Nat) := lkp none k ozT
theorem ozk_ok {k : Nat} {v : Nat} (h : ozk k = some v) : ozQ (k, some v) := ozO _ (lkp_mem h)
