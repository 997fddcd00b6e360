/-! ===== what the cells are; loads and stores ===== -/
/-- numbers (kind, how many, set); cells (kind, which); an object (class, its fields: a cell, or a number: long?, set) -/
abbrev ax_T : Type := (Nat × Nat × ax_s) ⊕ (Nat × List Nat) ⊕ (Nat × List (Nat ⊕ (Bool × ax_s)))
def ax_tyT : tr ax_T 8 := (128, (64, (32, (16, (8, (4, (2, (1, (.inr (.inr (11, [.inl 1, .inl 6, .inl 13, .inl 29, .inl 40, .inl 45, .inl 50, .inl 64, .inl 68, .inl 69, .inr (false, [(.ofNat 0, .ofNat 12)]), .inl 70, .inr (false, [(.ofNat 0, .ofNat 4)]), .inl 71, .inl 97]))), (.inr (.inr (3, [.inr (false, [(.ofNat 0, .ofNat 8)]), .inl 2, .inl 3, .inl 4, .inl 5])))), (3, (.inl (0, 8, [(.ofNat 0, .ofNat 1000000)])), (.inl (0, 8, [(.ofNat 0, .ofNat 1)])))), (6, (5, (.inl (0, 8, [(.ofNat 0, .ofNat 9)])), (.inl (0, 8, [(.negSucc 99, .ofNat 100)]))), (7, (.inr (.inr (4, [.inr (false, [(.ofNat 0, .ofNat 16)]), .inl 7, .inl 8, .inl 9, .inl 10, .inl 11, .inl 12]))), (.inl (0, 16, [(.ofNat 0, .ofNat 1000000)]))))), (12, (10, (9, (.inl (0, 16, [(.ofNat 0, .ofNat 1000)])), (.inl (0, 16, [(.ofNat 0, .ofNat 999)]))), (11, (.inl (0, 16, [(.ofNat 0, .ofNat 3)])), (.inl (0, 16, [(.negSucc 3, .negSucc 3), (.ofNat 0, .ofNat 7)])))), (14, (13, (.inl (0, 16, [(.negSucc 3, .negSucc 3), (.ofNat 0, .ofNat 7)])), (.inr (.inr (5, [.inl 14, .inl 28, .inr (false, [(.ofNat 0, .ofNat 12)]), .inr (false, [(.ofNat 0, .ofNat 13)]), .inr (false, [(.negSucc 2147483647, .ofNat 2147483647)])])))), (15, (.inr (.inl (5, [15, 16, 17, 18, 19, 20, 21, 22, 23, 24, 25, 26, 27]))), (.inl (0, 64, [(.negSucc 2147483647, .ofNat 2147483647)])))))), (24, (20, (18, (17, (.inl (0, 64, [(.negSucc 2147483647, .ofNat 2147483647)])), (.inl (0, 64, [(.negSucc 2147483647, .ofNat 2147483647)]))), (19, (.inl (0, 64, [(.negSucc 2147483647, .ofNat 2147483647)])), (.inl (0, 64, [(.negSucc 2147483647, .ofNat 2147483647)])))), (22, (21, (.inl (0, 64, [(.negSucc 2147483647, .ofNat 2147483647)])), (.inl (0, 64, [(.negSucc 2147483647, .ofNat 2147483647)]))), (23, (.inl (0, 64, [(.negSucc 2147483647, .ofNat 2147483647)])), (.inl (0, 64, [(.negSucc 2147483647, .ofNat 2147483647)]))))), (28, (26, (25, (.inl (0, 64, [(.negSucc 2147483647, .ofNat 2147483647)])), (.inl (0, 64, [(.negSucc 2147483647, .ofNat 2147483647)]))), (27, (.inl (0, 64, [(.negSucc 2147483647, .ofNat 2147483647)])), (.inl (0, 64, [(.negSucc 2147483647, .ofNat 2147483647)])))), (30, (29, (.inl (0, 12, [(.ofNat 0, .ofNat 15)])), (.inr (.inr (10, [.inl 30, .inr (true, [(.negSucc 9223372036854775807, .ofNat 9223372036854775807)]), .inr (false, [(.ofNat 0, .ofNat 8)]), .inl 31])))), (31, (.inl (0, 8, [(.ofNat 0, .ofNat 7)])), (.inr (.inl (6, [32, 33, 34, 35, 36, 37, 38, 39])))))))), (48, (40, (36, (34, (33, (.inl (1, 9, [(.negSucc 9223372036854775807, .ofNat 9223372036854775807)])), (.inl (1, 9, [(.negSucc 9223372036854775807, .ofNat 9223372036854775807)]))), (35, (.inl (1, 9, [(.negSucc 9223372036854775807, .ofNat 9223372036854775807)])), (.inl (1, 9, [(.negSucc 9223372036854775807, .ofNat 9223372036854775807)])))), (38, (37, (.inl (1, 9, [(.negSucc 9223372036854775807, .ofNat 9223372036854775807)])), (.inl (1, 9, [(.negSucc 9223372036854775807, .ofNat 9223372036854775807)]))), (39, (.inl (1, 9, [(.negSucc 9223372036854775807, .ofNat 9223372036854775807)])), (.inl (1, 9, [(.negSucc 9223372036854775807, .ofNat 9223372036854775807)]))))), (44, (42, (41, (.inr (.inr (6, [.inl 41, .inr (false, [(.ofNat 0, .ofNat 8)]), .inr (false, [(.negSucc 3, .negSucc 3), (.ofNat 0, .ofNat 1000000)]), .inr (false, [(.negSucc 2147483647, .ofNat 2147483647)]), .inr (false, [(.ofNat 0, .ofNat 28)]), .inl 42, .inl 43, .inl 44]))), (.inl (0, 8, [(.ofNat 0, .ofNat 1000000)]))), (43, (.inl (0, 28, [(.negSucc 999999, .ofNat 1000000)])), (.inl (0, 28, [(.ofNat 0, .ofNat 7)])))), (46, (45, (.inl (0, 28, [(.ofNat 0, .ofNat 7)])), (.inr (.inr (8, [.inr (false, [(.ofNat 0, .ofNat 80)]), .inl 46, .inr (false, [(.ofNat 0, .ofNat 4)]), .inl 47, .inl 48, .inl 49, .inr (false, [(.ofNat 0, .ofNat 12)]), .inr (false, [(.negSucc 2147483647, .ofNat 2147483647)]), .inr (false, [(.negSucc 2147483647, .ofNat 2147483647)]), .inr (false, [(.ofNat 0, .ofNat 80)]), .inr (false, [(.ofNat 0, .ofNat 3)]), .inr (false, [(.ofNat 0, .ofNat 80)]), .inr (false, [(.negSucc 0, .ofNat 99)])])))), (47, (.inl (2, 80, [(.negSucc 127, .ofNat 127)])), (.inl (0, 4, [(.negSucc 2147483647, .ofNat 2147483647)])))))), (56, (52, (50, (49, (.inl (0, 4, [(.negSucc 0, .ofNat 99)])), (.inl (0, 4, [(.ofNat 0, .ofNat 12)]))), (51, (.inr (.inr (2, [.inr (false, [(.ofNat 0, .ofNat 4)]), .inr (false, [(.negSucc 2147483647, .ofNat 2147483647)]), .inl 51, .inl 52, .inl 53, .inl 62, .inl 63, .inr (false, [(.ofNat 0, .ofNat 12)]), .inr (false, [(.negSucc 2147483647, .ofNat 2147483647)])]))), (.inl (1, 2025, [(.negSucc 9223372036854775807, .ofNat 9223372036854775807)])))), (54, (53, (.inl (1, 2025, [(.negSucc 9223372036854775807, .ofNat 9223372036854775807)])), (.inr (.inl (6, [54, 55, 56, 57, 58, 59, 60, 61])))), (55, (.inl (1, 13, [(.negSucc 9223372036854775807, .ofNat 9223372036854775807)])), (.inl (1, 13, [(.negSucc 9223372036854775807, .ofNat 9223372036854775807)]))))), (60, (58, (57, (.inl (1, 13, [(.negSucc 9223372036854775807, .ofNat 9223372036854775807)])), (.inl (1, 13, [(.negSucc 9223372036854775807, .ofNat 9223372036854775807)]))), (59, (.inl (1, 13, [(.negSucc 9223372036854775807, .ofNat 9223372036854775807)])), (.inl (1, 13, [(.negSucc 9223372036854775807, .ofNat 9223372036854775807)])))), (62, (61, (.inl (1, 13, [(.negSucc 9223372036854775807, .ofNat 9223372036854775807)])), (.inl (1, 13, [(.negSucc 9223372036854775807, .ofNat 9223372036854775807)]))), (63, (.inl (1, 25, [(.negSucc 9223372036854775807, .ofNat 9223372036854775807)])), (.inl (1, 533, [(.negSucc 9223372036854775807, .ofNat 9223372036854775807)])))))))), (96, (80, (72, (68, (66, (65, (.inr (.inr (1, [.inr (false, [(.ofNat 0, .ofNat 30)]), .inl 65, .inl 66, .inl 67]))), (.inl (0, 30, [(.negSucc 2147483647, .ofNat 2147483647)]))), (67, (.inl (0, 30, [(.ofNat 0, .ofNat 1)])), (.inl (0, 30, [(.negSucc 2147483647, .ofNat 2147483647)])))), (70, (69, (.inl (0, 12, [(.ofNat 0, .ofNat 15)])), (.inl (0, 12, [(.ofNat 0, .ofNat 15)]))), (71, (.inr (.inl (3, [98, 102, 106, 110]))), (.inr (.inr (0, [.inr (false, [(.ofNat 0, .ofNat 6)]), .inr (false, [(.ofNat 0, .ofNat 5)]), .inl 72])))))), (76, (74, (73, (.inr (.inl (3, [73, 77, 81, 85, 89, 93]))), (.inr (.inr (9, [.inr (false, [(.ofNat 0, .ofNat 8)]), .inr (false, [(.ofNat 0, .ofNat 16)]), .inl 74, .inl 75, .inl 76])))), (75, (.inl (0, 8, [(.ofNat 0, .ofNat 1000000)])), (.inl (0, 16, [(.negSucc 3, .negSucc 3), (.ofNat 0, .ofNat 7)])))), (78, (77, (.inl (0, 16, [(.negSucc 3, .negSucc 3), (.ofNat 0, .ofNat 7)])), (.inr (.inr (9, [.inr (false, [(.ofNat 0, .ofNat 8)]), .inr (false, [(.ofNat 0, .ofNat 16)]), .inl 78, .inl 79, .inl 80])))), (79, (.inl (0, 8, [(.ofNat 0, .ofNat 1000000)])), (.inl (0, 16, [(.negSucc 3, .negSucc 3), (.ofNat 0, .ofNat 7)])))))), (88, (84, (82, (81, (.inl (0, 16, [(.negSucc 3, .negSucc 3), (.ofNat 0, .ofNat 7)])), (.inr (.inr (9, [.inr (false, [(.ofNat 0, .ofNat 8)]), .inr (false, [(.ofNat 0, .ofNat 16)]), .inl 82, .inl 83, .inl 84])))), (83, (.inl (0, 8, [(.ofNat 0, .ofNat 1000000)])), (.inl (0, 16, [(.negSucc 3, .negSucc 3), (.ofNat 0, .ofNat 7)])))), (86, (85, (.inl (0, 16, [(.negSucc 3, .negSucc 3), (.ofNat 0, .ofNat 7)])), (.inr (.inr (9, [.inr (false, [(.ofNat 0, .ofNat 8)]), .inr (false, [(.ofNat 0, .ofNat 16)]), .inl 86, .inl 87, .inl 88])))), (87, (.inl (0, 8, [(.ofNat 0, .ofNat 1000000)])), (.inl (0, 16, [(.negSucc 3, .negSucc 3), (.ofNat 0, .ofNat 7)]))))), (92, (90, (89, (.inl (0, 16, [(.negSucc 3, .negSucc 3), (.ofNat 0, .ofNat 7)])), (.inr (.inr (9, [.inr (false, [(.ofNat 0, .ofNat 8)]), .inr (false, [(.ofNat 0, .ofNat 16)]), .inl 90, .inl 91, .inl 92])))), (91, (.inl (0, 8, [(.ofNat 0, .ofNat 1000000)])), (.inl (0, 16, [(.negSucc 3, .negSucc 3), (.ofNat 0, .ofNat 7)])))), (94, (93, (.inl (0, 16, [(.negSucc 3, .negSucc 3), (.ofNat 0, .ofNat 7)])), (.inr (.inr (9, [.inr (false, [(.ofNat 0, .ofNat 8)]), .inr (false, [(.ofNat 0, .ofNat 16)]), .inl 94, .inl 95, .inl 96])))), (95, (.inl (0, 8, [(.ofNat 0, .ofNat 1000000)])), (.inl (0, 16, [(.negSucc 3, .negSucc 3), (.ofNat 0, .ofNat 7)]))))))), (112, (104, (100, (98, (97, (.inl (0, 16, [(.negSucc 3, .negSucc 3), (.ofNat 0, .ofNat 7)])), (.inr (.inl (4, [114, 116, 118, 120])))), (99, (.inr (.inr (9, [.inr (false, [(.ofNat 0, .ofNat 8)]), .inr (false, [(.ofNat 0, .ofNat 16)]), .inl 99, .inl 100, .inl 101]))), (.inl (0, 8, [(.ofNat 0, .ofNat 1000000)])))), (102, (101, (.inl (0, 16, [(.negSucc 3, .negSucc 3), (.ofNat 0, .ofNat 7)])), (.inl (0, 16, [(.negSucc 3, .negSucc 3), (.ofNat 0, .ofNat 7)]))), (103, (.inr (.inr (9, [.inr (false, [(.ofNat 0, .ofNat 8)]), .inr (false, [(.ofNat 0, .ofNat 16)]), .inl 103, .inl 104, .inl 105]))), (.inl (0, 8, [(.ofNat 0, .ofNat 1000000)]))))), (108, (106, (105, (.inl (0, 16, [(.negSucc 3, .negSucc 3), (.ofNat 0, .ofNat 7)])), (.inl (0, 16, [(.negSucc 3, .negSucc 3), (.ofNat 0, .ofNat 7)]))), (107, (.inr (.inr (9, [.inr (false, [(.ofNat 0, .ofNat 8)]), .inr (false, [(.ofNat 0, .ofNat 16)]), .inl 107, .inl 108, .inl 109]))), (.inl (0, 8, [(.ofNat 0, .ofNat 1000000)])))), (110, (109, (.inl (0, 16, [(.negSucc 3, .negSucc 3), (.ofNat 0, .ofNat 7)])), (.inl (0, 16, [(.negSucc 3, .negSucc 3), (.ofNat 0, .ofNat 7)]))), (111, (.inr (.inr (9, [.inr (false, [(.ofNat 0, .ofNat 8)]), .inr (false, [(.ofNat 0, .ofNat 16)]), .inl 111, .inl 112, .inl 113]))), (.inl (0, 8, [(.ofNat 0, .ofNat 1000000)])))))), (120, (116, (114, (113, (.inl (0, 16, [(.negSucc 3, .negSucc 3), (.ofNat 0, .ofNat 7)])), (.inl (0, 16, [(.negSucc 3, .negSucc 3), (.ofNat 0, .ofNat 7)]))), (115, (.inr (.inr (7, [.inr (false, [(.ofNat 0, .ofNat 60)]), .inl 115, .inr (false, [(.negSucc 0, .ofNat 2)])]))), (.inl (0, 60, [(.negSucc 2147483647, .ofNat 2147483647)])))), (118, (117, (.inr (.inr (7, [.inr (false, [(.ofNat 0, .ofNat 60)]), .inl 117, .inr (false, [(.negSucc 0, .ofNat 2)])]))), (.inl (0, 60, [(.negSucc 2147483647, .ofNat 2147483647)]))), (119, (.inr (.inr (7, [.inr (false, [(.ofNat 0, .ofNat 60)]), .inl 119, .inr (false, [(.negSucc 0, .ofNat 2)])]))), (.inl (0, 60, [(.negSucc 2147483647, .ofNat 2147483647)]))))), (124, (122, (121, (.inr (.inr (7, [.inr (false, [(.ofNat 0, .ofNat 60)]), .inl 121, .inr (false, [(.negSucc 0, .ofNat 2)])]))), (.inl (0, 60, [(.negSucc 2147483647, .ofNat 2147483647)]))), (123, (.inr (.inr (12, [.inr (false, [(.ofNat 0, .ofNat 8)]), .inl 123, .inl 124, .inl 125, .inl 126, .inr (false, [(.ofNat 0, .ofNat 16)]), .inl 127, .inl 128, .inl 129, .inl 130, .inl 131, .inl 132, .inr (false, [(.ofNat 0, .ofNat 16)]), .inl 133, .inl 134, .inl 135, .inl 136, .inl 137, .inr (false, [(.ofNat 0, .ofNat 8)]), .inl 138, .inl 139, .inr (true, [(.negSucc 9223372036854775807, .ofNat 9223372036854775807)]), .inl 140, .inr (false, [(.negSucc 3, .negSucc 3), (.ofNat 0, .ofNat 1000000)]), .inr (false, [(.negSucc 2147483647, .ofNat 2147483647)]), .inl 141, .inr (false, [(.ofNat 0, .ofNat 80)]), .inr (false, [(.negSucc 2147483647, .ofNat 2147483647)]), .inr (false, [(.ofNat 0, .ofNat 5)]), .inr (false, [(.negSucc 2147483647, .ofNat 2147483647)]), .inr (false, [(.ofNat 0, .ofNat 80)]), .inr (false, [(.ofNat 0, .ofNat 80)]), .inr (false, [(.ofNat 0, .ofNat 3)]), .inr (false, [(.negSucc 2147483647, .ofNat 2147483647)]), .inr (false, [(.ofNat 0, .ofNat 4)]), .inl 142, .inl 143, .inl 144, .inr (false, [(.ofNat 0, .ofNat 4)]), .inl 145, .inl 146, .inl 147, .inl 148, .inr (false, [(.ofNat 0, .ofNat 40)]), .inl 149, .inl 150, .inl 151, .inr (false, [(.ofNat 0, .ofNat 12)]), .inl 152, .inl 153, .inl 154, .inl 155, .inr (false, [(.ofNat 0, .ofNat 4)]), .inl 156, .inr (false, [(.ofNat 0, .ofNat 6)]), .inl 157, .inl 158, .inl 159, .inl 160]))), (.inl (0, 8, [(.ofNat 0, .ofNat 1000000)])))), (126, (125, (.inl (0, 8, [(.ofNat 0, .ofNat 1)])), (.inl (0, 8, [(.ofNat 0, .ofNat 9)]))), (127, (.inl (0, 8, [(.negSucc 99, .ofNat 100)])), (.inl (0, 16, [(.ofNat 0, .ofNat 1000000)]))))))))), (160, (160, (144, (136, (132, (130, (129, (.inl (0, 16, [(.ofNat 0, .ofNat 1000)])), (.inl (0, 16, [(.ofNat 0, .ofNat 999)]))), (131, (.inl (0, 16, [(.negSucc 3, .negSucc 3), (.ofNat 0, .ofNat 7)])), (.inl (0, 16, [(.negSucc 3, .negSucc 3), (.ofNat 0, .ofNat 7)])))), (134, (133, (.inl (0, 16, [(.ofNat 0, .ofNat 3)])), (.inl (0, 16, [(.ofNat 0, .ofNat 7)]))), (135, (.inl (0, 16, [(.ofNat 0, .ofNat 7)])), (.inl (0, 16, [(.negSucc 999999, .ofNat 1000000)]))))), (140, (138, (137, (.inl (0, 8, [(.ofNat 0, .ofNat 7)])), (.inl (0, 64, [(.negSucc 2147483647, .ofNat 2147483647)]))), (139, (.inl (0, 8, [(.negSucc 3, .negSucc 3), (.ofNat 0, .ofNat 7)])), (.inl (1, 64, [(.negSucc 9223372036854775807, .ofNat 9223372036854775807)])))), (142, (141, (.inl (0, 8, [(.ofNat 0, .ofNat 1000000)])), (.inl (0, 80, [(.ofNat 0, .ofNat 255)]))), (143, (.inl (0, 4, [(.negSucc 2147483647, .ofNat 2147483647)])), (.inl (0, 4, [(.ofNat 0, .ofNat 3)])))))), (152, (148, (146, (145, (.inl (0, 4, [(.ofNat 0, .ofNat 14)])), (.inl (0, 4, [(.negSucc 2147483647, .ofNat 2147483647)]))), (147, (.inl (0, 4, [(.ofNat 0, .ofNat 3)])), (.inl (0, 4, [(.ofNat 0, .ofNat 14)])))), (150, (149, (.inl (1, 30375, [(.negSucc 9223372036854775807, .ofNat 9223372036854775807)])), (.inl (0, 40, [(.negSucc 2147483647, .ofNat 2147483647)]))), (151, (.inl (0, 40, [(.negSucc 2147483647, .ofNat 2147483647)])), (.inl (0, 40, [(.negSucc 2147483647, .ofNat 2147483647)]))))), (156, (154, (153, (.inl (0, 12, [(.ofNat 0, .ofNat 15)])), (.inl (0, 12, [(.ofNat 0, .ofNat 15)]))), (155, (.inl (1, 4, [(.negSucc 9223372036854775807, .ofNat 9223372036854775807)])), (.inl (1, 4, [(.negSucc 9223372036854775807, .ofNat 9223372036854775807)])))), (158, (157, (.inl (0, 200, [(.negSucc 3, .ofNat 1000000)])), (.inl (0, 300, [(.negSucc 3, .ofNat 1000000)]))), (159, (.inl (0, 4, [(.negSucc 3, .negSucc 3), (.ofNat 0, .ofNat 2)])), (.inl (0, 4, [(.ofNat 0, .ofNat 60)]))))))), (160, (160, (160, (160, (160, (.inl (0, 240, [(.negSucc 2147483647, .ofNat 2147483647)])), (.inl (0, 240, [(.negSucc 2147483647, .ofNat 2147483647)]))), (160, (.inl (0, 240, [(.negSucc 2147483647, .ofNat 2147483647)])), (.inl (0, 240, [(.negSucc 2147483647, .ofNat 2147483647)])))), (160, (160, (.inl (0, 240, [(.negSucc 2147483647, .ofNat 2147483647)])), (.inl (0, 240, [(.negSucc 2147483647, .ofNat 2147483647)]))), (160, (.inl (0, 240, [(.negSucc 2147483647, .ofNat 2147483647)])), (.inl (0, 240, [(.negSucc 2147483647, .ofNat 2147483647)]))))), (160, (160, (160, (.inl (0, 240, [(.negSucc 2147483647, .ofNat 2147483647)])), (.inl (0, 240, [(.negSucc 2147483647, .ofNat 2147483647)]))), (160, (.inl (0, 240, [(.negSucc 2147483647, .ofNat 2147483647)])), (.inl (0, 240, [(.negSucc 2147483647, .ofNat 2147483647)])))), (160, (160, (.inl (0, 240, [(.negSucc 2147483647, .ofNat 2147483647)])), (.inl (0, 240, [(.negSucc 2147483647, .ofNat 2147483647)]))), (160, (.inl (0, 240, [(.negSucc 2147483647, .ofNat 2147483647)])), (.inl (0, 240, [(.negSucc 2147483647, .ofNat 2147483647)])))))), (160, (160, (160, (160, (.inl (0, 240, [(.negSucc 2147483647, .ofNat 2147483647)])), (.inl (0, 240, [(.negSucc 2147483647, .ofNat 2147483647)]))), (160, (.inl (0, 240, [(.negSucc 2147483647, .ofNat 2147483647)])), (.inl (0, 240, [(.negSucc 2147483647, .ofNat 2147483647)])))), (160, (160, (.inl (0, 240, [(.negSucc 2147483647, .ofNat 2147483647)])), (.inl (0, 240, [(.negSucc 2147483647, .ofNat 2147483647)]))), (160, (.inl (0, 240, [(.negSucc 2147483647, .ofNat 2147483647)])), (.inl (0, 240, [(.negSucc 2147483647, .ofNat 2147483647)]))))), (160, (160, (160, (.inl (0, 240, [(.negSucc 2147483647, .ofNat 2147483647)])), (.inl (0, 240, [(.negSucc 2147483647, .ofNat 2147483647)]))), (160, (.inl (0, 240, [(.negSucc 2147483647, .ofNat 2147483647)])), (.inl (0, 240, [(.negSucc 2147483647, .ofNat 2147483647)])))), (160, (160, (.inl (0, 240, [(.negSucc 2147483647, .ofNat 2147483647)])), (.inl (0, 240, [(.negSucc 2147483647, .ofNat 2147483647)]))), (160, (.inl (0, 240, [(.negSucc 2147483647, .ofNat 2147483647)])), (.inl (0, 240, [(.negSucc 2147483647, .ofNat 2147483647)])))))))), (160, (160, (160, (160, (160, (160, (.inl (0, 240, [(.negSucc 2147483647, .ofNat 2147483647)])), (.inl (0, 240, [(.negSucc 2147483647, .ofNat 2147483647)]))), (160, (.inl (0, 240, [(.negSucc 2147483647, .ofNat 2147483647)])), (.inl (0, 240, [(.negSucc 2147483647, .ofNat 2147483647)])))), (160, (160, (.inl (0, 240, [(.negSucc 2147483647, .ofNat 2147483647)])), (.inl (0, 240, [(.negSucc 2147483647, .ofNat 2147483647)]))), (160, (.inl (0, 240, [(.negSucc 2147483647, .ofNat 2147483647)])), (.inl (0, 240, [(.negSucc 2147483647, .ofNat 2147483647)]))))), (160, (160, (160, (.inl (0, 240, [(.negSucc 2147483647, .ofNat 2147483647)])), (.inl (0, 240, [(.negSucc 2147483647, .ofNat 2147483647)]))), (160, (.inl (0, 240, [(.negSucc 2147483647, .ofNat 2147483647)])), (.inl (0, 240, [(.negSucc 2147483647, .ofNat 2147483647)])))), (160, (160, (.inl (0, 240, [(.negSucc 2147483647, .ofNat 2147483647)])), (.inl (0, 240, [(.negSucc 2147483647, .ofNat 2147483647)]))), (160, (.inl (0, 240, [(.negSucc 2147483647, .ofNat 2147483647)])), (.inl (0, 240, [(.negSucc 2147483647, .ofNat 2147483647)])))))), (160, (160, (160, (160, (.inl (0, 240, [(.negSucc 2147483647, .ofNat 2147483647)])), (.inl (0, 240, [(.negSucc 2147483647, .ofNat 2147483647)]))), (160, (.inl (0, 240, [(.negSucc 2147483647, .ofNat 2147483647)])), (.inl (0, 240, [(.negSucc 2147483647, .ofNat 2147483647)])))), (160, (160, (.inl (0, 240, [(.negSucc 2147483647, .ofNat 2147483647)])), (.inl (0, 240, [(.negSucc 2147483647, .ofNat 2147483647)]))), (160, (.inl (0, 240, [(.negSucc 2147483647, .ofNat 2147483647)])), (.inl (0, 240, [(.negSucc 2147483647, .ofNat 2147483647)]))))), (160, (160, (160, (.inl (0, 240, [(.negSucc 2147483647, .ofNat 2147483647)])), (.inl (0, 240, [(.negSucc 2147483647, .ofNat 2147483647)]))), (160, (.inl (0, 240, [(.negSucc 2147483647, .ofNat 2147483647)])), (.inl (0, 240, [(.negSucc 2147483647, .ofNat 2147483647)])))), (160, (160, (.inl (0, 240, [(.negSucc 2147483647, .ofNat 2147483647)])), (.inl (0, 240, [(.negSucc 2147483647, .ofNat 2147483647)]))), (160, (.inl (0, 240, [(.negSucc 2147483647, .ofNat 2147483647)])), (.inl (0, 240, [(.negSucc 2147483647, .ofNat 2147483647)]))))))), (160, (160, (160, (160, (160, (.inl (0, 240, [(.negSucc 2147483647, .ofNat 2147483647)])), (.inl (0, 240, [(.negSucc 2147483647, .ofNat 2147483647)]))), (160, (.inl (0, 240, [(.negSucc 2147483647, .ofNat 2147483647)])), (.inl (0, 240, [(.negSucc 2147483647, .ofNat 2147483647)])))), (160, (160, (.inl (0, 240, [(.negSucc 2147483647, .ofNat 2147483647)])), (.inl (0, 240, [(.negSucc 2147483647, .ofNat 2147483647)]))), (160, (.inl (0, 240, [(.negSucc 2147483647, .ofNat 2147483647)])), (.inl (0, 240, [(.negSucc 2147483647, .ofNat 2147483647)]))))), (160, (160, (160, (.inl (0, 240, [(.negSucc 2147483647, .ofNat 2147483647)])), (.inl (0, 240, [(.negSucc 2147483647, .ofNat 2147483647)]))), (160, (.inl (0, 240, [(.negSucc 2147483647, .ofNat 2147483647)])), (.inl (0, 240, [(.negSucc 2147483647, .ofNat 2147483647)])))), (160, (160, (.inl (0, 240, [(.negSucc 2147483647, .ofNat 2147483647)])), (.inl (0, 240, [(.negSucc 2147483647, .ofNat 2147483647)]))), (160, (.inl (0, 240, [(.negSucc 2147483647, .ofNat 2147483647)])), (.inl (0, 240, [(.negSucc 2147483647, .ofNat 2147483647)])))))), (160, (160, (160, (160, (.inl (0, 240, [(.negSucc 2147483647, .ofNat 2147483647)])), (.inl (0, 240, [(.negSucc 2147483647, .ofNat 2147483647)]))), (160, (.inl (0, 240, [(.negSucc 2147483647, .ofNat 2147483647)])), (.inl (0, 240, [(.negSucc 2147483647, .ofNat 2147483647)])))), (160, (160, (.inl (0, 240, [(.negSucc 2147483647, .ofNat 2147483647)])), (.inl (0, 240, [(.negSucc 2147483647, .ofNat 2147483647)]))), (160, (.inl (0, 240, [(.negSucc 2147483647, .ofNat 2147483647)])), (.inl (0, 240, [(.negSucc 2147483647, .ofNat 2147483647)]))))), (160, (160, (160, (.inl (0, 240, [(.negSucc 2147483647, .ofNat 2147483647)])), (.inl (0, 240, [(.negSucc 2147483647, .ofNat 2147483647)]))), (160, (.inl (0, 240, [(.negSucc 2147483647, .ofNat 2147483647)])), (.inl (0, 240, [(.negSucc 2147483647, .ofNat 2147483647)])))), (160, (160, (.inl (0, 240, [(.negSucc 2147483647, .ofNat 2147483647)])), (.inl (0, 240, [(.negSucc 2147483647, .ofNat 2147483647)]))), (160, (.inl (0, 240, [(.negSucc 2147483647, .ofNat 2147483647)])), (.inl (0, 240, [(.negSucc 2147483647, .ofNat 2147483647)]))))))))))
def ax_ty (k : Nat) : ax_T := tr_get 8 ax_tyT k
/-- pairs of rows that are NONE together -/
def ax_lkT : tr (Nat × Nat) 5 := (104, (87, (79, (75, (12, (11, 12), (12, 11)), (76, (75, 76), (76, 75))), (83, (80, (79, 80), (80, 79)), (84, (83, 84), (84, 83)))), (95, (91, (88, (87, 88), (88, 87)), (92, (91, 92), (92, 91))), (100, (96, (95, 96), (96, 95)), (101, (100, 101), (101, 100))))), (131, (112, (108, (105, (104, 105), (105, 104)), (109, (108, 109), (109, 108))), (130, (113, (112, 113), (113, 112)), (131, (130, 131), (131, 130)))), (131, (131, (131, (131, 130), (131, 130)), (131, (131, 130), (131, 130))), (131, (131, (131, 130), (131, 130)), (131, (131, 130), (131, 130))))))
def ax_link (c : Nat) : Option Nat := bif Nat.blt c 161 then tr_at 5 ax_lkT c else none
def ax_prot (c : Nat) : Bool := Nat.beq c 156 || Nat.beq c 157
def ax_is16 (T : ax_T) : Bool := match T with
  | .inl (t, n, s) => decide (t = 0) && decide (n = 16) && decide (s = [(-4, -4), (0, 7)])
  | _ => false
theorem ax_is16_eq {T : ax_T} (h : ax_is16 T = true) : T = .inl (0, 16, [(-4, -4), (0, 7)]) := by
  unfold ax_is16 at h
  split at h
  · simp only [Bool.and_eq_true, decide_eq_true_eq] at h
    obtain ⟨⟨rfl, rfl⟩, rfl⟩ := h
    rfl
  · cases h
def ax_lchk : Bool := (List.range 161).all fun c => match ax_link c with
  | none => true
  | some p => decide (ax_link p = some c) && decide (c ≠ p) && decide (ax_prot c = false) && decide (ax_prot p = false) && decide (p < 161) && ax_is16 (ax_ty c)
theorem ax_lchk_ok : ax_lchk = true := by decide +kernel
theorem ax_link_lt {c p : Nat} (h : ax_link c = some p) : c < 161 := by
  unfold ax_link at h
  cases hb : Nat.blt c 161
  · rw [hb] at h
    cases h
  · exact Nat.le_of_ble_eq_true hb
theorem ax_link_all {c p : Nat} (h : ax_link c = some p) : ax_link p = some c ∧ c ≠ p ∧ ax_prot c = false ∧ ax_prot p = false ∧ p < 161 ∧ ax_ty c = .inl (0, 16, [(-4, -4), (0, 7)]) := by
  have := List.all_eq_true.mp ax_lchk_ok c (List.mem_range.mpr (ax_link_lt h))
  rw [h] at this
  simp only [Bool.and_eq_true, decide_eq_true_eq] at this
  exact ⟨this.1.1.1.1.1, this.1.1.1.1.2, this.1.1.1.2, this.1.1.2, this.1.2, ax_is16_eq this.2⟩
theorem ax_link_sym {c p : Nat} (h : ax_link c = some p) : ax_link p = some c ∧ c ≠ p ∧ ax_prot c = false ∧ ax_prot p = false ∧ c < 161 ∧ p < 161 := by
  obtain ⟨h1, h2, h3, h4, h5, -⟩ := ax_link_all h
  exact ⟨h1, h2, h3, h4, ax_link_lt h, h5⟩
def ax_el (c : Nat) (i : Int) : ax_s := match ax_ty c with
  | .inl (_, _, s) => s
  | .inr (.inr (_, fs)) => (match fs[i.toNat]? with
    | some (.inr (_, s)) => s
    | _ => [])
  | _ => []
theorem ax_link_el {c p : Nat} {j v : Int} (h : ax_link c = some p) (hv : ax_in v (ax_el c j)) : v = -4 ∨ (0 ≤ v ∧ v ≤ 7) := by
  have e : ax_el c j = [(-4, -4), (0, 7)] := by
    unfold ax_el
    rw [(ax_link_all h).2.2.2.2.2]
  rw [e] at hv
  obtain ⟨q, hq, h1, h2⟩ := hv
  rcases List.mem_cons.mp hq with rfl | hq
  · dsimp only at h1 h2
    omega
  · rcases List.mem_cons.mp hq with rfl | hq
    · dsimp only at h1 h2
      omega
    · cases hq
def ax_fd (F : Nat ⊕ (Bool × ax_s)) (v : Option Value) : Prop := match F with
  | .inl c => v = some (.ref c)
  | .inr (false, _) => ∃ x, v = some (.int x)
  | .inr (true, _) => ∃ x, v = some (.long x)
def ax_sh (T : ax_T) (e : am_E) : Prop := match T with
  | .inl (t, n, _) => if t = 1 then ∃ f, e = .inl (t, n, .inr (.inl f)) else ∃ f, e = .inl (t, n, .inl f)
  | .inr (.inl (t, l)) => ∃ f, e = .inl (t, l.length, .inr (.inr (.inr (.inr f)))) ∧ ∀ i, i < l.length → f i = l[i]?
  | .inr (.inr (ci, fs)) => ∃ vs, e = .inr (ci, vs) ∧ vs.length = fs.length ∧ ∀ (k : Nat) F, fs[k]? = some F → ax_fd F vs[k]?
def ax_typed (S : am_S) : Prop := S.1 = 161 ∧ S.2.1 = 38646 ∧ (∀ c, c < 161 → ax_sh (ax_ty c) (S.2.2 c)) ∧ ∀ c i v, c < 161 → ax_rd S c i = some v → ax_in v (ax_el c i)
def ax_lks (pd : Option (Nat × Int × Bool)) (S : am_S) : Prop :=
  (∀ c p, ax_link c = some p → ∀ i v w, ax_rd S c i = some v → ax_rd S p i = some w → (v = -4 ↔ w = -4) ∨ (∃ b, pd = some (c, i, b)) ∨ (∃ b, pd = some (p, i, b))) ∧
  ∀ c i b, pd = some (c, i, b) → ax_link c ≠ none ∧ ∃ v, ax_rd S c i = some v ∧ (v = -4 ↔ b = true)
/-- rows of versions and acts in the reference: heights, pairs that are NONE together -/
def ax_row (S : am_S) (r from_ : Nat) : Prop :=
  (∀ k : Nat, k < 8 → ∃ v, ax_rd S r (from_ + k : Nat) = some v ∧ 0 ≤ v ∧ v ≤ 1000000) ∧
  ∀ n : Nat, n < 16 → ∃ v w, ax_rd S r (from_ + 8 + n : Nat) = some v ∧ ax_rd S r (from_ + 24 + n : Nat) = some w ∧ ((v = -4 ∧ w = -4) ∨ (0 ≤ v ∧ v ≤ 7 ∧ 0 ≤ w ∧ w ≤ 7))
def ax_rows (S : am_S) : Prop := (∀ v : Nat, v < 4 → ax_row S 156 (50 * v)) ∧ ∀ v : Nat, v < 6 → ax_row S 157 (50 * v)
/-- what is GIVEN in the reference, now or in its rows, goes to levels that are there -/
def ax_ub (S : am_S) : Prop := ∃ lv, ax_rd S 122 0 = some lv ∧ (∀ i v, ax_rd S 130 i = some v → v < lv ∨ v < 1) ∧ (∀ i v, ax_rd S 131 i = some v → v < lv ∨ v < 1) ∧
  ∀ (c r n : Nat) v, ax_prot c = true → r < 6 → n < 32 → ax_rd S c (50 * r + 8 + n : Nat) = some v → v < lv ∨ v < 1
def ax_P0 : ax_P := fun pd S => ax_typed S ∧ ax_lks pd S ∧ ax_rows S ∧ ax_ub S
/-- places in Z are other ones now, no others -/
def ax_chg (Z : Nat → Int → Prop) (S S' : am_S) : Prop := S'.1 = S.1 ∧ S'.2.1 = S.2.1 ∧ (∀ c, c < 161 → ax_sh (ax_ty c) (S.2.2 c) → ax_sh (ax_ty c) (S'.2.2 c)) ∧
  (∀ c i, ¬ Z c i → ax_rd S' c i = ax_rd S c i) ∧ ∀ c i v, c < 161 → Z c i → ax_rd S' c i = some v → ax_in v (ax_el c i)
theorem ax_chg_typed {Z : Nat → Int → Prop} {S S' : am_S} (h : ax_typed S) (g : ax_chg Z S S') : ax_typed S' := by
  obtain ⟨h1, h2, h3, h4⟩ := h
  obtain ⟨g1, g2, g3, g4, g5⟩ := g
  refine ⟨g1.trans h1, g2.trans h2, fun c hc => g3 c hc (h3 c hc), ?_⟩
  intro c i v hc hr
  by_cases hz : Z c i
  · exact g5 c i v hc hz hr
  · rw [g4 c i hz] at hr
    exact h4 c i v hc hr
theorem ax_row_same {S S' : am_S} {r f : Nat} (h : ax_row S r f) (g : ∀ i, ax_rd S' r i = ax_rd S r i) : ax_row S' r f := by
  refine ⟨fun k hk => ?_, fun n hn => ?_⟩
  · rw [g]
    exact h.1 k hk
  · rw [g, g]
    exact h.2 n hn
theorem ax_rows_same {S S' : am_S} (h : ax_rows S) (g : ∀ c i, ax_prot c = true → ax_rd S' c i = ax_rd S c i) : ax_rows S' := ⟨fun v hv => ax_row_same (h.1 v hv) fun i => g 156 i rfl, fun v hv => ax_row_same (h.2 v hv) fun i => g 157 i rfl⟩
theorem ax_ub_chg {S S' : am_S} (h : ax_ub S) (h0 : ∀ a, ax_rd S 122 0 = some a → ∃ b, ax_rd S' 122 0 = some b ∧ a ≤ b) (h1 : ∀ i v, ax_rd S' 130 i = some v → ax_rd S 130 i = some v ∨ ∀ lv, ax_rd S 122 0 = some lv → v < lv ∨ v < 1) (h2 : ∀ i v, ax_rd S' 131 i = some v → ax_rd S 131 i = some v ∨ ∀ lv, ax_rd S 122 0 = some lv → v < lv ∨ v < 1) (h3 : ∀ c i, ax_prot c = true → ax_rd S' c i = ax_rd S c i) : ax_ub S' := by
  obtain ⟨lv, g0, g1, g2, g3⟩ := h
  obtain ⟨b, hb, hab⟩ := h0 lv g0
  refine ⟨b, hb, ?_, ?_, ?_⟩
  · intro i v hv
    rcases h1 i v hv with h | h
    · have := g1 i v h
      omega
    · have := h lv g0
      omega
  · intro i v hv
    rcases h2 i v hv with h | h
    · have := g2 i v h
      omega
    · have := h lv g0
      omega
  · intro c r n v hc hr hn hv
    rw [h3 c _ hc] at hv
    have := g3 c r n v hc hr hn hv
    omega
theorem ax_P0_chg {Z : Nat → Int → Prop} {S S' : am_S} {pd : Option (Nat × Int × Bool)} (h : ax_P0 pd S) (g : ax_chg Z S S') (hZ : ∀ c i, Z c i → ax_link c = none ∧ ax_prot c = false) (h0 : ∀ a, ax_rd S 122 0 = some a → ∃ b, ax_rd S' 122 0 = some b ∧ a ≤ b) : ax_P0 pd S' := by
  obtain ⟨h1, ⟨h2, h3⟩, h4, h5⟩ := h
  have hp : ∀ c i, ax_prot c = true → ax_rd S' c i = ax_rd S c i := by
    intro c i hp
    refine g.2.2.2.1 c i fun z => ?_
    rw [(hZ c i z).2] at hp
    cases hp
  have hl : ∀ c i, ax_link c ≠ none → ax_rd S' c i = ax_rd S c i := fun c i hl => g.2.2.2.1 c i fun z => hl (hZ c i z).1
  refine ⟨ax_chg_typed h1 g, ⟨?_, ?_⟩, ax_rows_same h4 hp, ax_ub_chg h5 h0 (fun i v hv => Or.inl (by rw [← hl 130 i (by decide)]; exact hv)) (fun i v hv => Or.inl (by rw [← hl 131 i (by decide)]; exact hv)) hp⟩
  · intro c p hl i v w hv hw
    have z1 : ¬ Z c i := fun z => by rw [(hZ c i z).1] at hl; cases hl
    have z2 : ¬ Z p i := fun z => by have := (ax_link_sym hl).1; rw [(hZ p i z).1] at this; cases this
    rw [g.2.2.2.1 c i z1] at hv
    rw [g.2.2.2.1 p i z2] at hw
    exact h2 c p hl i v w hv hw
  · intro c i b hp
    obtain ⟨hn, v, hv, hb⟩ := h3 c i b hp
    have z1 : ¬ Z c i := fun z => hn (hZ c i z).1
    exact ⟨hn, v, by rw [g.2.2.2.1 c i z1]; exact hv, hb⟩
theorem ax_ub_one {S S' : am_S} {c p : Nat} {i v : Int} (h : ax_ub S) (hl : ax_link c = some p) (g : ax_chg (fun c' i' => c' = c ∧ i' = i) S S') (hv : ax_rd S' c i = some v) (hu : c = 130 ∨ c = 131 → ∀ lv, ax_rd S 122 0 = some lv → v < lv ∨ v < 1) : ax_ub S' := by
  obtain ⟨-, -, p1, -, -, -⟩ := ax_link_sym hl
  have n122 : c ≠ 122 := fun e => by
    rw [e, show ax_link 122 = none from rfl] at hl
    cases hl
  refine ax_ub_chg h (fun a ha => ⟨a, by rw [g.2.2.2.1 122 0 (fun z => n122 z.1.symm)]; exact ha, Int.le_refl _⟩) ?_ ?_ ?_
  · intro j w hw
    by_cases e : 130 = c ∧ j = i
    · obtain ⟨rfl, rfl⟩ := e
      rw [hv] at hw
      cases hw
      exact Or.inr (hu (Or.inl rfl))
    · rw [g.2.2.2.1 130 j e] at hw
      exact Or.inl hw
  · intro j w hw
    by_cases e : 131 = c ∧ j = i
    · obtain ⟨rfl, rfl⟩ := e
      rw [hv] at hw
      cases hw
      exact Or.inr (hu (Or.inr rfl))
    · rw [g.2.2.2.1 131 j e] at hw
      exact Or.inl hw
  · intro c' i' hp
    refine g.2.2.2.1 c' i' ?_
    rintro ⟨rfl, -⟩
    rw [p1] at hp
    cases hp
/-- a pair's one half is written, then the other -/
theorem ax_P0_half {S S' : am_S} {c p : Nat} {i v : Int} {b : Bool} (h : ax_P0 none S) (hl : ax_link c = some p) (g : ax_chg (fun c' i' => c' = c ∧ i' = i) S S') (hv : ax_rd S' c i = some v) (hb : v = -4 ↔ b = true) (hu : c = 130 ∨ c = 131 → ∀ lv, ax_rd S 122 0 = some lv → v < lv ∨ v < 1) : ax_P0 (some (c, i, b)) S' := by
  obtain ⟨h1, ⟨h2, -⟩, h4, h5⟩ := h
  obtain ⟨-, -, p1, p2, -, -⟩ := ax_link_sym hl
  refine ⟨ax_chg_typed h1 g, ⟨?_, ?_⟩, ?_, ax_ub_one h5 hl g hv hu⟩
  · intro c' p' hl' i' v' w' hv' hw'
    by_cases e1 : c' = c ∧ i' = i
    · obtain ⟨rfl, rfl⟩ := e1
      exact Or.inr (Or.inl ⟨b, rfl⟩)
    · by_cases e2 : p' = c ∧ i' = i
      · obtain ⟨rfl, rfl⟩ := e2
        exact Or.inr (Or.inr ⟨b, rfl⟩)
      · rw [g.2.2.2.1 c' i' e1] at hv'
        rw [g.2.2.2.1 p' i' e2] at hw'
        rcases h2 c' p' hl' i' v' w' hv' hw' with h | ⟨_, h⟩ | ⟨_, h⟩
        · exact Or.inl h
        · cases h
        · cases h
  · intro c' i' b' e
    cases e
    exact ⟨by rw [hl]; simp, v, hv, hb⟩
  · refine ax_rows_same h4 fun c' i' hp => g.2.2.2.1 c' i' ?_
    rintro ⟨rfl, -⟩
    rw [p1] at hp
    cases hp
theorem ax_P0_whole {S S' : am_S} {c p : Nat} {i v : Int} {b : Bool} (h : ax_P0 (some (p, i, b)) S) (hl : ax_link c = some p) (g : ax_chg (fun c' i' => c' = c ∧ i' = i) S S') (hv : ax_rd S' c i = some v) (hb : v = -4 ↔ b = true) (hub0 : c = 130 ∨ c = 131 → ∀ lv, ax_rd S 122 0 = some lv → v < lv ∨ v < 1) : ax_P0 none S' := by
  obtain ⟨h1, ⟨h2, h3⟩, h4, h5⟩ := h
  obtain ⟨l2, ne, p1, p2, -, -⟩ := ax_link_sym hl
  obtain ⟨-, u, hu, hub⟩ := h3 p i b rfl
  have hu' : ax_rd S' p i = some u := by
    rw [g.2.2.2.1 p i (fun z => ne z.1.symm)]
    exact hu
  refine ⟨ax_chg_typed h1 g, ⟨?_, fun _ _ _ e => by cases e⟩, ?_, ax_ub_one h5 hl g hv hub0⟩
  · intro c' p' hl' i' v' w' hv' hw'
    left
    by_cases e1 : c' = c ∧ i' = i
    · obtain ⟨rfl, rfl⟩ := e1
      rw [hl] at hl'
      cases hl'
      rw [hv] at hv'
      rw [hu'] at hw'
      cases hv'
      cases hw'
      rw [hb, hub]
    · by_cases e2 : p' = c ∧ i' = i
      · obtain ⟨rfl, rfl⟩ := e2
        have hc' : c' = p := by
          have h5 := (ax_link_sym hl').1
          rw [hl] at h5
          cases h5
          rfl
        subst hc'
        rw [hv] at hw'
        rw [hu'] at hv'
        cases hv'
        cases hw'
        rw [hb, hub]
      · rw [g.2.2.2.1 c' i' e1] at hv'
        rw [g.2.2.2.1 p' i' e2] at hw'
        rcases h2 c' p' hl' i' v' w' hv' hw' with h | ⟨_, h⟩ | ⟨_, h⟩
        · exact h
        · cases h
          have h5 := hl'
          rw [l2] at h5
          cases h5
          exact absurd ⟨rfl, rfl⟩ e2
        · cases h
          have h5 := (ax_link_sym hl').1
          rw [l2] at h5
          cases h5
          exact absurd ⟨rfl, rfl⟩ e1
  · refine ax_rows_same h4 fun c' i' hp => g.2.2.2.1 c' i' ?_
    rintro ⟨rfl, -⟩
    rw [p1] at hp
    cases hp
/-! the machine's own writes -/
theorem ax_rd_put {S : am_S} {a : Nat} {e : am_E} {c : Nat} {i : Int} (h : c ≠ a) : ax_rd (am_put S a e) c i = ax_rd S c i := by
  unfold ax_rd am_put am_up
  dsimp only
  rw [if_neg h]
theorem ax_at_put {S : am_S} {a : Nat} {e : am_E} : (am_put S a e).2.2 a = e := by
  unfold am_put am_up
  dsimp only
  rw [if_pos rfl]
theorem ax_at_put' {S : am_S} {a c : Nat} {e : am_E} (h : c ≠ a) : (am_put S a e).2.2 c = S.2.2 c := by
  unfold am_put am_up
  dsimp only
  rw [if_neg h]
/-- a cell becomes another one of its own shape: what can be read says what has changed -/
theorem ax_chg_put {S : am_S} {a : Nat} {e : am_E} {i v : Int} (hs : a < 161 → ax_sh (ax_ty a) (S.2.2 a) → ax_sh (ax_ty a) e) (h1 : ax_rd (am_put S a e) a i = some v) (h2 : ∀ i', i' ≠ i → ax_rd (am_put S a e) a i' = ax_rd S a i') (hv : a < 161 → ax_in v (ax_el a i)) : ax_chg (fun c' i' => c' = a ∧ i' = i) S (am_put S a e) := by
  refine ⟨rfl, rfl, ?_, ?_, ?_⟩
  · intro c hc h
    by_cases e1 : c = a
    · subst e1
      rw [ax_at_put]
      exact hs hc h
    · rw [ax_at_put' e1]
      exact h
  · intro c i' hz
    by_cases e1 : c = a
    · subst e1
      exact h2 i' fun e2 => hz ⟨rfl, e2⟩
    · exact ax_rd_put e1
  · rintro c i' w hc ⟨rfl, rfl⟩ hr
    rw [h1] at hr
    cases hr
    exact hv hc
theorem ax_rdI {S : am_S} {c t n : Nat} {f : Nat → Int32} {i : Int} (h : S.2.2 c = .inl (t, n, .inl f)) : ax_rd S c i = if 0 ≤ i ∧ i < n then some (f i.toNat).toInt else none := by
  unfold ax_rd
  rw [h]
theorem ax_rdL {S : am_S} {c t n : Nat} {f : Nat → Int64} {i : Int} (h : S.2.2 c = .inl (t, n, .inr (.inl f))) : ax_rd S c i = if 0 ≤ i ∧ i < n then some (f i.toNat).toInt else none := by
  unfold ax_rd
  rw [h]
theorem ax_rdO {S : am_S} {c ci : Nat} {fs : List Value} {k : Nat} (h : S.2.2 c = .inr (ci, fs)) : ax_rd S c (k : Int) = match fs[k]? with
    | some (.int x) => some x.toInt
    | some (.long x) => some x.toInt
    | _ => none := by
  unfold ax_rd
  rw [h]
  dsimp only
  rw [if_pos (Int.natCast_nonneg k), Int.toNat_natCast]
  rfl
theorem ax_rdN {S : am_S} {c ci : Nat} {fs : List Value} {i : Int} (h : S.2.2 c = .inr (ci, fs)) (hi : i < 0) : ax_rd S c i = none := by
  unfold ax_rd
  rw [h]
  dsimp only
  rw [if_neg (by omega)]
