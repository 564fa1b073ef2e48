/-! CONTRACTS by a run (printed by wip/sx/gen90.py) -/
def kc_97_0 : sx_K := (97, [.inl (2, .ofNat 0, .ofNat 0, 1), .inl (0, .negSucc 2147483647, .ofNat 2147483647, 0), .inl (0, .negSucc 2147483647, .ofNat 2147483647, 0)], [], [(1, .ofNat 10, .ofNat 10)], (false, false), [([.inl (0, .negSucc 0, .ofNat 2147483646, 0)], [(0, 10, .ofNat 0, .ofNat 5, 0)], [], [])]) -- B.root
def kc_97_0_u : List (Nat × sx_U) := []
theorem kc_97_0_b : sx_chk (g_P []) xT (sx_tbl [kc_61_0]) kc_97_0 kc_97_0_u 99 = true := by decide +kernel
theorem kc_97_0_k (ys : List Int32) : xk ys kc_97_0 := sx_by (xC ys) (sx_m1 (kc_61_0_k ys) sx_m0) kc_97_0_b
def kc_98_0 : sx_K := (98, [.inl (2, .ofNat 0, .ofNat 0, 1), .inl (0, .negSucc 2147483647, .ofNat 2147483647, 0), .inl (0, .negSucc 2147483647, .ofNat 2147483647, 0), .inl (0, .negSucc 2147483647, .ofNat 2147483647, 0)], [], [(1, .ofNat 10, .ofNat 10)], (false, false), [([.inl (0, .negSucc 0, .ofNat 999, 0)], [(0, 10, .ofNat 0, .ofNat 2, 0)], [], [])]) -- B.thing
def kc_98_0_u : List (Nat × sx_U) := []
theorem kc_98_0_b : sx_chk (g_P []) xT (sx_tbl []) kc_98_0 kc_98_0_u 67 = true := by decide +kernel
theorem kc_98_0_k (ys : List Int32) : xk ys kc_98_0 := sx_by (xC ys) sx_m0 kc_98_0_b
def kc_107_0 : sx_K := (107, [.inl (2, .ofNat 0, .ofNat 0, 16), .inl (2, .ofNat 0, .ofNat 0, 28)], [], [(16, .ofNat 3, .ofNat 3), (17, .ofNat 0, .ofNat 7), (18, .ofNat 0, .ofNat 7)], (false, false), [([], [], [], [])]) -- Marks.copyFrom
def kc_107_0_u : List (Nat × sx_U) := [(18, [.inl (2, .ofNat 0, .ofNat 0, 16), .inl (2, .ofNat 0, .ofNat 0, 28), .inl (0, .ofNat 0, .ofNat 8, 0)], [], (.ofNat 8, [(.negSucc 0, .inl 2)]))]
theorem kc_107_0_b : sx_chk (g_P []) xT (sx_tbl []) kc_107_0 kc_107_0_u 34 = true := by decide +kernel
theorem kc_107_0_k (ys : List Int32) : xk ys kc_107_0 := sx_by (xC ys) sx_m0 kc_107_0_b
def kc_107_1 : sx_K := (107, [.inl (2, .ofNat 0, .ofNat 0, 19), .inl (2, .ofNat 0, .ofNat 0, 31)], [], [(19, .ofNat 3, .ofNat 3), (20, .ofNat 0, .ofNat 11), (21, .ofNat 0, .ofNat 11)], (false, false), [([], [], [], [])]) -- Marks.copyFrom
def kc_107_1_u : List (Nat × sx_U) := [(18, [.inl (2, .ofNat 0, .ofNat 0, 19), .inl (2, .ofNat 0, .ofNat 0, 31), .inl (0, .ofNat 0, .ofNat 12, 0)], [], (.ofNat 12, [(.negSucc 0, .inl 2)]))]
theorem kc_107_1_b : sx_chk (g_P []) xT (sx_tbl []) kc_107_1 kc_107_1_u 34 = true := by decide +kernel
theorem kc_107_1_k (ys : List Int32) : xk ys kc_107_1 := sx_by (xC ys) sx_m0 kc_107_1_b
def kc_101_0 : sx_K := (101, [.inl (2, .ofNat 0, .ofNat 0, 1), .inl (0, .negSucc 2147483647, .ofNat 2147483647, 0), .inl (0, .negSucc 2147483647, .ofNat 2147483647, 0), .inl (0, .negSucc 2147483647, .ofNat 2147483647, 0), .inl (0, .negSucc 2147483647, .ofNat 2147483647, 0)], [], [(1, .ofNat 10, .ofNat 10), (13, .ofNat 1, .ofNat 2), (15, .ofNat 3, .ofNat 4), (16, .ofNat 3, .ofNat 3), (17, .ofNat 0, .ofNat 7), (18, .ofNat 0, .ofNat 7), (19, .ofNat 3, .ofNat 3), (20, .ofNat 0, .ofNat 11), (21, .ofNat 0, .ofNat 11), (28, .ofNat 3, .ofNat 3), (29, .ofNat 0, .ofNat 7), (30, .ofNat 0, .ofNat 7), (40, .ofNat 15, .ofNat 15)], (false, false), [([.inl (0, .negSucc 0, .ofNat 7, 0)], [(0, 10, .ofNat 0, .ofNat 3, 0)], [], [])]) -- B.add
def kc_101_0_u : List (Nat × sx_U) := []
theorem kc_101_0_b : sx_chk (g_P []) xT (sx_tbl [kc_107_0, kc_107_1]) kc_101_0 kc_101_0_u 199 = true := by decide +kernel
theorem kc_101_0_k (ys : List Int32) : xk ys kc_101_0 := sx_by (xC ys) (sx_m1 (kc_107_0_k ys) (sx_m1 (kc_107_1_k ys) sx_m0)) kc_101_0_b
def kc_110_0 : sx_K := (110, [.inl (2, .ofNat 0, .ofNat 0, 28), .inl (0, .negSucc 2147483647, .ofNat 2147483647, 0)], [], [(28, .ofNat 3, .ofNat 3), (29, .ofNat 0, .ofNat 6), (30, .ofNat 0, .ofNat 6)], (false, false), [([], [], [], [])]) -- Marks.takeOut
def kc_110_0_u : List (Nat × sx_U) := [(11, [.inl (2, .ofNat 0, .ofNat 0, 28), .inl (0, .ofNat 0, .ofNat 7, 0), .inl (0, .ofNat 0, .ofNat 7, 0)], [(0, 3, .ofNat 1, .ofNat 8, 0)], (.ofNat 7, [(.negSucc 0, .inl 2)]))]
theorem kc_110_0_b : sx_chk (g_P []) xT (sx_tbl []) kc_110_0 kc_110_0_u 42 = true := by decide +kernel
theorem kc_110_0_k (ys : List Int32) : xk ys kc_110_0 := sx_by (xC ys) sx_m0 kc_110_0_b
def kc_108_0 : sx_K := (108, [.inl (2, .ofNat 0, .ofNat 0, 1), .inl (0, .negSucc 2147483647, .ofNat 2147483647, 0), .inl (0, .negSucc 2147483647, .ofNat 2147483647, 0)], [], [(1, .ofNat 10, .ofNat 10), (13, .ofNat 1, .ofNat 2), (15, .ofNat 3, .ofNat 4), (16, .ofNat 3, .ofNat 3), (17, .ofNat 0, .ofNat 7), (18, .ofNat 0, .ofNat 7), (19, .ofNat 3, .ofNat 3), (20, .ofNat 0, .ofNat 11), (21, .ofNat 0, .ofNat 11), (28, .ofNat 3, .ofNat 3), (29, .ofNat 0, .ofNat 6), (30, .ofNat 0, .ofNat 6), (40, .ofNat 15, .ofNat 15)], (false, false), [([.inl (0, .negSucc 0, .ofNat 8, 0)], [(0, 10, .ofNat 0, .ofNat 2, 0)], [], [])]) -- B.drop
def kc_108_0_u : List (Nat × sx_U) := []
theorem kc_108_0_b : sx_chk (g_P []) xT (sx_tbl [kc_107_0, kc_107_1, kc_110_0]) kc_108_0 kc_108_0_u 141 = true := by decide +kernel
theorem kc_108_0_k (ys : List Int32) : xk ys kc_108_0 := sx_by (xC ys) (sx_m1 (kc_107_0_k ys) (sx_m1 (kc_107_1_k ys) (sx_m1 (kc_110_0_k ys) sx_m0))) kc_108_0_b
def kc_112_0 : sx_K := (112, [.inl (2, .ofNat 0, .ofNat 0, 31), .inl (0, .negSucc 2147483647, .ofNat 2147483647, 0), .inl (0, .negSucc 2147483647, .ofNat 2147483647, 0)], [], [], (false, false), [([.inl (0, .ofNat 0, .ofNat 1, 0)], [], [], [])]) -- Marks.tells
def kc_112_0_u : List (Nat × sx_U) := [(2, [.inl (2, .ofNat 0, .ofNat 0, 31), .inl (0, .negSucc 2147483647, .ofNat 2147483647, 0), .inl (0, .negSucc 2147483647, .ofNat 2147483647, 0), .inl (0, .ofNat 0, .ofNat 12, 0)], [], (.ofNat 12, [(.negSucc 0, .inl 3)]))]
theorem kc_112_0_b : sx_chk (g_P []) xT (sx_tbl []) kc_112_0 kc_112_0_u 22 = true := by decide +kernel
theorem kc_112_0_k (ys : List Int32) : xk ys kc_112_0 := sx_by (xC ys) sx_m0 kc_112_0_b
def kc_111_0 : sx_K := (111, [.inl (2, .ofNat 0, .ofNat 0, 1), .inl (0, .negSucc 2147483647, .ofNat 2147483647, 0), .inl (0, .negSucc 2147483647, .ofNat 2147483647, 0)], [], [(1, .ofNat 10, .ofNat 10), (13, .ofNat 1, .ofNat 2), (15, .ofNat 3, .ofNat 4), (16, .ofNat 3, .ofNat 3), (17, .ofNat 0, .ofNat 7), (18, .ofNat 0, .ofNat 7), (19, .ofNat 3, .ofNat 3), (20, .ofNat 0, .ofNat 11), (21, .ofNat 0, .ofNat 11), (31, .ofNat 3, .ofNat 3), (32, .ofNat 0, .ofNat 11), (33, .ofNat 0, .ofNat 11), (40, .ofNat 15, .ofNat 15)], (false, false), [([.inl (0, .negSucc 0, .ofNat 12, 0)], [(0, 10, .ofNat 0, .ofNat 4, 0)], [], [])]) -- B.lose
def kc_111_0_u : List (Nat × sx_U) := []
theorem kc_111_0_b : sx_chk (g_P []) xT (sx_tbl [kc_107_0, kc_107_1, kc_112_0]) kc_111_0 kc_111_0_u 169 = true := by decide +kernel
theorem kc_111_0_k (ys : List Int32) : xk ys kc_111_0 := sx_by (xC ys) (sx_m1 (kc_107_0_k ys) (sx_m1 (kc_107_1_k ys) (sx_m1 (kc_112_0_k ys) sx_m0))) kc_111_0_b
def kc_110_1 : sx_K := (110, [.inl (2, .ofNat 0, .ofNat 0, 31), .inl (0, .negSucc 2147483647, .ofNat 2147483647, 0)], [], [(31, .ofNat 3, .ofNat 3), (32, .ofNat 0, .ofNat 10), (33, .ofNat 0, .ofNat 10)], (false, false), [([], [], [], [])]) -- Marks.takeOut
def kc_110_1_u : List (Nat × sx_U) := [(11, [.inl (2, .ofNat 0, .ofNat 0, 31), .inl (0, .ofNat 0, .ofNat 11, 0), .inl (0, .ofNat 0, .ofNat 11, 0)], [(0, 3, .ofNat 1, .ofNat 12, 0)], (.ofNat 11, [(.negSucc 0, .inl 2)]))]
theorem kc_110_1_b : sx_chk (g_P []) xT (sx_tbl []) kc_110_1 kc_110_1_u 42 = true := by decide +kernel
theorem kc_110_1_k (ys : List Int32) : xk ys kc_110_1 := sx_by (xC ys) sx_m0 kc_110_1_b
def kc_113_0 : sx_K := (113, [.inl (2, .ofNat 0, .ofNat 0, 1), .inl (0, .negSucc 2147483647, .ofNat 2147483647, 0)], [], [(1, .ofNat 10, .ofNat 10), (13, .ofNat 1, .ofNat 2), (15, .ofNat 3, .ofNat 4), (16, .ofNat 3, .ofNat 3), (17, .ofNat 0, .ofNat 7), (18, .ofNat 0, .ofNat 7), (19, .ofNat 3, .ofNat 3), (20, .ofNat 0, .ofNat 11), (21, .ofNat 0, .ofNat 11), (31, .ofNat 3, .ofNat 3), (32, .ofNat 0, .ofNat 10), (33, .ofNat 0, .ofNat 10), (40, .ofNat 15, .ofNat 15)], (false, false), [([.inl (0, .negSucc 0, .ofNat 12, 0)], [(0, 10, .ofNat 0, .ofNat 2, 0)], [], [])]) -- B.heal
def kc_113_0_u : List (Nat × sx_U) := []
theorem kc_113_0_b : sx_chk (g_P []) xT (sx_tbl [kc_107_0, kc_107_1, kc_110_1]) kc_113_0 kc_113_0_u 116 = true := by decide +kernel
theorem kc_113_0_k (ys : List Int32) : xk ys kc_113_0 := sx_by (xC ys) (sx_m1 (kc_107_0_k ys) (sx_m1 (kc_107_1_k ys) (sx_m1 (kc_110_1_k ys) sx_m0))) kc_113_0_b
def kc_114_0 : sx_K := (114, [.inl (2, .ofNat 0, .ofNat 0, 1), .inl (0, .negSucc 2147483647, .ofNat 2147483647, 0)], [], [(1, .ofNat 10, .ofNat 10), (13, .ofNat 1, .ofNat 2), (15, .ofNat 3, .ofNat 4), (16, .ofNat 3, .ofNat 3), (17, .ofNat 0, .ofNat 7), (18, .ofNat 0, .ofNat 7), (19, .ofNat 3, .ofNat 3), (20, .ofNat 0, .ofNat 11), (21, .ofNat 0, .ofNat 11), (27, .ofNat 3, .ofNat 3), (40, .ofNat 15, .ofNat 15)], (false, false), [([.inl (0, .negSucc 0, .ofNat 999, 0)], [(0, 10, .ofNat 0, .ofNat 4, 0)], [], [])]) -- B.light
def kc_114_0_u : List (Nat × sx_U) := []
theorem kc_114_0_b : sx_chk (g_P []) xT (sx_tbl [kc_107_0, kc_107_1]) kc_114_0 kc_114_0_u 107 = true := by decide +kernel
theorem kc_114_0_k (ys : List Int32) : xk ys kc_114_0 := sx_by (xC ys) (sx_m1 (kc_107_0_k ys) (sx_m1 (kc_107_1_k ys) sx_m0)) kc_114_0_b
def kc_115_0 : sx_K := (115, [.inl (2, .ofNat 0, .ofNat 0, 1), .inl (0, .negSucc 2147483647, .ofNat 2147483647, 0)], [], [(1, .ofNat 10, .ofNat 10), (13, .ofNat 1, .ofNat 2), (15, .ofNat 3, .ofNat 4), (16, .ofNat 3, .ofNat 3), (17, .ofNat 0, .ofNat 7), (18, .ofNat 0, .ofNat 7), (19, .ofNat 3, .ofNat 3), (20, .ofNat 0, .ofNat 11), (21, .ofNat 0, .ofNat 11), (27, .ofNat 4, .ofNat 4), (40, .ofNat 15, .ofNat 15)], (false, false), [([.inl (0, .negSucc 0, .ofNat 999, 0)], [(0, 10, .ofNat 0, .ofNat 4, 0)], [], [])]) -- B.use
def kc_115_0_u : List (Nat × sx_U) := []
theorem kc_115_0_b : sx_chk (g_P []) xT (sx_tbl [kc_107_0, kc_107_1]) kc_115_0 kc_115_0_u 119 = true := by decide +kernel
theorem kc_115_0_k (ys : List Int32) : xk ys kc_115_0 := sx_by (xC ys) (sx_m1 (kc_107_0_k ys) (sx_m1 (kc_107_1_k ys) sx_m0)) kc_115_0_b
def kc_117_0 : sx_K := (117, [.inl (2, .ofNat 0, .ofNat 0, 28), .inl (0, .ofNat 1, .ofNat 99, 0), .inl (0, .ofNat 0, .ofNat 99, 0)], [], [(29, .ofNat 0, .ofNat 7)], (false, false), [([], [], [], [])]) -- Marks.shift
def kc_117_0_u : List (Nat × sx_U) := [(2, [.inl (2, .ofNat 0, .ofNat 0, 28), .inl (0, .ofNat 1, .ofNat 99, 0), .inl (0, .ofNat 0, .ofNat 99, 0), .inl (0, .ofNat 0, .ofNat 8, 0)], [], (.ofNat 8, [(.negSucc 0, .inl 3)]))]
theorem kc_117_0_b : sx_chk (g_P []) xT (sx_tbl []) kc_117_0 kc_117_0_u 34 = true := by decide +kernel
theorem kc_117_0_k (ys : List Int32) : xk ys kc_117_0 := sx_by (xC ys) sx_m0 kc_117_0_b
def kc_117_1 : sx_K := (117, [.inl (2, .ofNat 0, .ofNat 0, 28), .inl (0, .ofNat 0, .ofNat 0, 0), .inl (0, .ofNat 1, .ofNat 99, 0)], [], [(29, .ofNat 0, .ofNat 7)], (false, false), [([], [], [], [])]) -- Marks.shift
def kc_117_1_u : List (Nat × sx_U) := [(2, [.inl (2, .ofNat 0, .ofNat 0, 28), .inl (0, .ofNat 0, .ofNat 0, 0), .inl (0, .ofNat 1, .ofNat 99, 0), .inl (0, .ofNat 0, .ofNat 8, 0)], [], (.ofNat 8, [(.negSucc 0, .inl 3)]))]
theorem kc_117_1_b : sx_chk (g_P []) xT (sx_tbl []) kc_117_1 kc_117_1_u 34 = true := by decide +kernel
theorem kc_117_1_k (ys : List Int32) : xk ys kc_117_1 := sx_by (xC ys) sx_m0 kc_117_1_b
def kc_116_0 : sx_K := (116, [.inl (2, .ofNat 0, .ofNat 0, 1), .inl (0, .negSucc 2147483647, .ofNat 2147483647, 0), .inl (0, .negSucc 2147483647, .ofNat 2147483647, 0)], [], [(1, .ofNat 10, .ofNat 10), (13, .ofNat 1, .ofNat 2), (15, .ofNat 3, .ofNat 4), (16, .ofNat 3, .ofNat 3), (17, .ofNat 0, .ofNat 7), (18, .ofNat 0, .ofNat 7), (19, .ofNat 3, .ofNat 3), (20, .ofNat 0, .ofNat 11), (21, .ofNat 0, .ofNat 11), (29, .ofNat 0, .ofNat 7), (40, .ofNat 15, .ofNat 15)], (false, false), [([.inl (0, .negSucc 0, .ofNat 8, 0)], [(0, 10, .ofNat 0, .ofNat 5, 0)], [], [])]) -- B.slide
def kc_116_0_u : List (Nat × sx_U) := []
theorem kc_116_0_b : sx_chk (g_P []) xT (sx_tbl [kc_107_0, kc_107_1, kc_117_0, kc_117_1]) kc_116_0 kc_116_0_u 123 = true := by decide +kernel
theorem kc_116_0_k (ys : List Int32) : xk ys kc_116_0 := sx_by (xC ys) (sx_m1 (kc_107_0_k ys) (sx_m1 (kc_107_1_k ys) (sx_m1 (kc_117_0_k ys) (sx_m1 (kc_117_1_k ys) sx_m0)))) kc_116_0_b
def kc_107_2 : sx_K := (107, [.inl (2, .ofNat 0, .ofNat 0, 28), .inl (2, .ofNat 0, .ofNat 0, 16)], [], [(28, .ofNat 3, .ofNat 3), (29, .ofNat 0, .ofNat 7), (30, .ofNat 0, .ofNat 7)], (false, false), [([], [], [], [])]) -- Marks.copyFrom
def kc_107_2_u : List (Nat × sx_U) := [(18, [.inl (2, .ofNat 0, .ofNat 0, 28), .inl (2, .ofNat 0, .ofNat 0, 16), .inl (0, .ofNat 0, .ofNat 8, 0)], [], (.ofNat 8, [(.negSucc 0, .inl 2)]))]
theorem kc_107_2_b : sx_chk (g_P []) xT (sx_tbl []) kc_107_2 kc_107_2_u 34 = true := by decide +kernel
theorem kc_107_2_k (ys : List Int32) : xk ys kc_107_2 := sx_by (xC ys) sx_m0 kc_107_2_b
def kc_107_3 : sx_K := (107, [.inl (2, .ofNat 0, .ofNat 0, 31), .inl (2, .ofNat 0, .ofNat 0, 19)], [], [(31, .ofNat 3, .ofNat 3), (32, .ofNat 0, .ofNat 11), (33, .ofNat 0, .ofNat 11)], (false, false), [([], [], [], [])]) -- Marks.copyFrom
def kc_107_3_u : List (Nat × sx_U) := [(18, [.inl (2, .ofNat 0, .ofNat 0, 31), .inl (2, .ofNat 0, .ofNat 0, 19), .inl (0, .ofNat 0, .ofNat 12, 0)], [], (.ofNat 12, [(.negSucc 0, .inl 2)]))]
theorem kc_107_3_b : sx_chk (g_P []) xT (sx_tbl []) kc_107_3 kc_107_3_u 34 = true := by decide +kernel
theorem kc_107_3_k (ys : List Int32) : xk ys kc_107_3 := sx_by (xC ys) sx_m0 kc_107_3_b
def kc_118_0 : sx_K := (118, [.inl (2, .ofNat 0, .ofNat 0, 1)], [], [(1, .ofNat 10, .ofNat 10), (13, .ofNat 2, .ofNat 2), (27, .ofNat 3, .ofNat 4), (28, .ofNat 3, .ofNat 3), (29, .ofNat 0, .ofNat 7), (30, .ofNat 0, .ofNat 7), (31, .ofNat 3, .ofNat 3), (32, .ofNat 0, .ofNat 11), (33, .ofNat 0, .ofNat 11), (40, .ofNat 15, .ofNat 15)], (false, false), [([.inl (0, .negSucc 0, .ofNat 11, 0)], [(0, 10, .ofNat 0, .ofNat 5, 0)], [], [])]) -- B.undo
def kc_118_0_u : List (Nat × sx_U) := []
theorem kc_118_0_b : sx_chk (g_P []) xT (sx_tbl [kc_107_2, kc_107_3]) kc_118_0 kc_118_0_u 77 = true := by decide +kernel
theorem kc_118_0_k (ys : List Int32) : xk ys kc_118_0 := sx_by (xC ys) (sx_m1 (kc_107_2_k ys) (sx_m1 (kc_107_3_k ys) sx_m0)) kc_118_0_b
def kc_50_2 : sx_K := (50, [.inl (2, .ofNat 0, .ofNat 0, 41), .inl (0, .ofNat 0, .ofNat 0, 0), .inl (0, .ofNat 1, .ofNat 289, 0), .inl (0, .ofNat 0, .ofNat 0, 0)], [], [(41, .ofNat 0, .ofNat 288)], (false, false), [([], [], [], [])]) -- java/util/Arrays.fill
def kc_50_2_u : List (Nat × sx_U) := [(10, [.inl (2, .ofNat 0, .ofNat 0, 41), .inl (0, .ofNat 0, .ofNat 0, 0), .inl (0, .ofNat 1, .ofNat 289, 0), .inl (0, .ofNat 0, .ofNat 0, 0), .inl (0, .ofNat 0, .ofNat 289, 0)], [], (.ofNat 289, [(.negSucc 0, .inl 4)]))]
theorem kc_50_2_b : sx_chk (g_P []) xT (sx_tbl []) kc_50_2 kc_50_2_u 20 = true := by decide +kernel
theorem kc_50_2_k (ys : List Int32) : xk ys kc_50_2 := sx_by (xC ys) sx_m0 kc_50_2_b
def kc_72_0 : sx_K := (72, [.inl (2, .ofNat 0, .ofNat 0, 41), .inl (0, .ofNat 0, .ofNat 0, 0), .inl (0, .ofNat 1, .ofNat 289, 0)], [], [], (false, false), [([.inl (0, .negSucc 2147483647, .ofNat 2147483647, 0)], [], [], [])]) -- B.sumOf
def kc_72_0_u : List (Nat × sx_U) := [(5, [.inl (2, .ofNat 0, .ofNat 0, 41), .inl (0, .ofNat 0, .ofNat 0, 0), .inl (0, .ofNat 1, .ofNat 289, 0), .inl (0, .negSucc 2147483647, .ofNat 2147483647, 0), .inl (0, .ofNat 0, .ofNat 289, 0)], [], (.ofNat 289, [(.negSucc 0, .inl 4)]))]
theorem kc_72_0_b : sx_chk (g_P []) xT (sx_tbl []) kc_72_0 kc_72_0_u 17 = true := by decide +kernel
theorem kc_72_0_k (ys : List Int32) : xk ys kc_72_0 := sx_by (xC ys) sx_m0 kc_72_0_b
def kc_125_0 : sx_K := (125, [.inl (2, .ofNat 0, .ofNat 0, 40)], [], [(40, .ofNat 12, .ofNat 12), (41, .ofNat 0, .ofNat 288)], (false, false), [([], [], [], [])]) -- Camera.markLost
def kc_125_0_u : List (Nat × sx_U) := [(26, [.inl (2, .ofNat 0, .ofNat 0, 40), .inl (2, .ofNat 0, .ofNat 0, 31), .inl (0, .ofNat 0, .ofNat 12, 0)], [], (.ofNat 12, [(.negSucc 0, .inl 2)]))]
theorem kc_125_0_b : sx_chk (g_P []) xT (sx_tbl [kh_93_0, kc_50_2, kc_72_0]) kc_125_0 kc_125_0_u 25 = true := by decide +kernel
theorem kc_125_0_k (ys : List Int32) (p_93_0 : xk ys kh_93_0) : xk ys kc_125_0 := sx_by (xC ys) (sx_m1 p_93_0 (sx_m1 (kc_50_2_k ys) (sx_m1 (kc_72_0_k ys) sx_m0))) kc_125_0_b
def kc_50_3 : sx_K := (50, [.inl (2, .ofNat 0, .ofNat 0, 44), .inl (0, .ofNat 0, .ofNat 0, 0), .inl (0, .ofNat 1, .ofNat 289, 0), .inl (0, .ofNat 0, .ofNat 0, 0)], [], [(44, .ofNat 0, .ofNat 288)], (false, false), [([], [], [], [])]) -- java/util/Arrays.fill
def kc_50_3_u : List (Nat × sx_U) := [(10, [.inl (2, .ofNat 0, .ofNat 0, 44), .inl (0, .ofNat 0, .ofNat 0, 0), .inl (0, .ofNat 1, .ofNat 289, 0), .inl (0, .ofNat 0, .ofNat 0, 0), .inl (0, .ofNat 0, .ofNat 289, 0)], [], (.ofNat 289, [(.negSucc 0, .inl 4)]))]
theorem kc_50_3_b : sx_chk (g_P []) xT (sx_tbl []) kc_50_3 kc_50_3_u 20 = true := by decide +kernel
theorem kc_50_3_k (ys : List Int32) : xk ys kc_50_3 := sx_by (xC ys) sx_m0 kc_50_3_b
def kc_126_0 : sx_K := (126, [.inl (2, .ofNat 0, .ofNat 0, 40), .inl (2, .ofNat 0, .ofNat 0, 44), .inl (2, .ofNat 0, .ofNat 0, 28)], [], [(44, .ofNat 0, .ofNat 288)], (false, false), [([], [], [], [])]) -- Camera.addCounts
def kc_126_0_u : List (Nat × sx_U) := [(2, [.inl (2, .ofNat 0, .ofNat 0, 40), .inl (2, .ofNat 0, .ofNat 0, 44), .inl (2, .ofNat 0, .ofNat 0, 28), .inl (0, .ofNat 0, .ofNat 8, 0)], [], (.ofNat 8, [(.negSucc 0, .inl 3)]))]
theorem kc_126_0_b : sx_chk (g_P []) xT (sx_tbl [kh_93_0]) kc_126_0 kc_126_0_u 30 = true := by decide +kernel
theorem kc_126_0_k (ys : List Int32) (p_93_0 : xk ys kh_93_0) : xk ys kc_126_0 := sx_by (xC ys) (sx_m1 p_93_0 sx_m0) kc_126_0_b
def kc_50_4 : sx_K := (50, [.inl (2, .ofNat 0, .ofNat 0, 42), .inl (0, .ofNat 0, .ofNat 0, 0), .inl (0, .ofNat 1, .ofNat 289, 0), .inl (0, .ofNat 0, .ofNat 999, 0)], [], [(42, .ofNat 0, .ofNat 288)], (false, false), [([], [], [], [])]) -- java/util/Arrays.fill
def kc_50_4_u : List (Nat × sx_U) := [(10, [.inl (2, .ofNat 0, .ofNat 0, 42), .inl (0, .ofNat 0, .ofNat 0, 0), .inl (0, .ofNat 1, .ofNat 289, 0), .inl (0, .ofNat 0, .ofNat 999, 0), .inl (0, .ofNat 0, .ofNat 289, 0)], [], (.ofNat 289, [(.negSucc 0, .inl 4)]))]
theorem kc_50_4_b : sx_chk (g_P []) xT (sx_tbl []) kc_50_4 kc_50_4_u 20 = true := by decide +kernel
theorem kc_50_4_k (ys : List Int32) : xk ys kc_50_4 := sx_by (xC ys) sx_m0 kc_50_4_b
def kc_126_1 : sx_K := (126, [.inl (2, .ofNat 0, .ofNat 0, 40), .inl (2, .ofNat 0, .ofNat 0, 42), .inl (2, .ofNat 0, .ofNat 0, 28)], [], [(42, .ofNat 0, .ofNat 288)], (false, false), [([], [], [], [])]) -- Camera.addCounts
def kc_126_1_u : List (Nat × sx_U) := [(2, [.inl (2, .ofNat 0, .ofNat 0, 40), .inl (2, .ofNat 0, .ofNat 0, 42), .inl (2, .ofNat 0, .ofNat 0, 28), .inl (0, .ofNat 0, .ofNat 8, 0)], [], (.ofNat 8, [(.negSucc 0, .inl 3)]))]
theorem kc_126_1_b : sx_chk (g_P []) xT (sx_tbl [kh_93_0]) kc_126_1 kc_126_1_u 30 = true := by decide +kernel
theorem kc_126_1_k (ys : List Int32) (p_93_0 : xk ys kh_93_0) : xk ys kc_126_1 := sx_by (xC ys) (sx_m1 p_93_0 sx_m0) kc_126_1_b
def kc_127_0 : sx_K := (127, [.inl (2, .ofNat 0, .ofNat 0, 40), .inl (2, .ofNat 0, .ofNat 0, 42), .inl (0, .negSucc 2147483647, .ofNat 2147483647, 0)], [], [(42, .ofNat 0, .ofNat 288)], (false, false), [([], [], [], [])]) -- Camera.throwAll
def kc_127_0_u : List (Nat × sx_U) := [(30, [.inl (2, .ofNat 0, .ofNat 0, 40), .inl (2, .ofNat 0, .ofNat 0, 42), .inl (0, .negSucc 2147483647, .ofNat 2147483647, 0), .inl (2, .ofNat 0, .ofNat 0, 28), .inl (0, .ofNat 0, .ofNat 8, 0)], [], (.ofNat 8, [(.negSucc 0, .inl 4)]))]
theorem kc_127_0_b : sx_chk (g_P []) xT (sx_tbl [kh_65_2, kc_50_4, kc_126_1]) kc_127_0 kc_127_0_u 33 = true := by decide +kernel
theorem kc_127_0_k (ys : List Int32) (p_93_0 : xk ys kh_93_0) (p_65_2 : xk ys kh_65_2) : xk ys kc_127_0 := sx_by (xC ys) (sx_m1 p_65_2 (sx_m1 (kc_50_4_k ys) (sx_m1 (kc_126_1_k ys p_93_0) sx_m0))) kc_127_0_b
def kc_124_0 : sx_K := (124, [.inl (2, .ofNat 0, .ofNat 0, 40), .inl (2, .ofNat 0, .ofNat 0, 36), .inl (2, .ofNat 0, .ofNat 0, 27)], [], [(40, .ofNat 12, .ofNat 12), (40, .ofNat 15, .ofNat 18), (41, .ofNat 0, .ofNat 288), (42, .ofNat 0, .ofNat 288), (43, .ofNat 0, .ofNat 288), (44, .ofNat 0, .ofNat 288)], (false, true), [([], [(0, 15, .ofNat 1, .ofNat 1, 0)], [], [])]) -- Camera.aim
def kc_124_0_u : List (Nat × sx_U) := [(84, [.inl (2, .ofNat 0, .ofNat 0, 40), .inl (2, .ofNat 0, .ofNat 0, 36), .inl (2, .ofNat 0, .ofNat 0, 27), .inl (0, .ofNat 0, .ofNat 289, 0)], [(0, 15, .ofNat 1, .ofNat 1, 0), (0, 16, .ofNat 0, .ofNat 0, 0), (0, 17, .ofNat 0, .ofNat 0, 0), (0, 18, .ofNat 0, .ofNat 0, 0)], (.ofNat 289, [(.negSucc 0, .inl 3)]))]
theorem kc_124_0_b : sx_chk (g_P []) xT (sx_tbl [kc_125_0, kc_50_3, kc_126_0, kc_127_0]) kc_124_0 kc_124_0_u 49 = true := by decide +kernel
theorem kc_124_0_k (ys : List Int32) (p_93_0 : xk ys kh_93_0) (p_65_2 : xk ys kh_65_2) : xk ys kc_124_0 := sx_by (xC ys) (sx_m1 (kc_125_0_k ys p_93_0) (sx_m1 (kc_50_3_k ys) (sx_m1 (kc_126_0_k ys p_93_0) (sx_m1 (kc_127_0_k ys p_93_0 p_65_2) sx_m0)))) kc_124_0_b
def kc_134_0 : sx_K := (134, [.inl (2, .ofNat 0, .ofNat 0, 40)], [], [(46, .ofNat 0, .ofNat 288), (47, .ofNat 0, .ofNat 288)], (false, false), [([], [], [], [])]) -- Camera.findMoved
def kc_134_0_u : List (Nat × sx_U) := [(2, [.inl (2, .ofNat 0, .ofNat 0, 40), .inl (0, .ofNat 0, .ofNat 289, 0)], [], (.ofNat 289, [(.negSucc 0, .inl 1)]))]
theorem kc_134_0_b : sx_chk (g_P []) xT (sx_tbl [kh_132_1]) kc_134_0 kc_134_0_u 24 = true := by decide +kernel
theorem kc_134_0_k (ys : List Int32) (p_132_1 : xk ys kh_132_1) : xk ys kc_134_0 := sx_by (xC ys) (sx_m1 p_132_1 sx_m0) kc_134_0_b
def kc_72_1 : sx_K := (72, [.inl (2, .ofNat 0, .ofNat 0, 43), .inl (0, .ofNat 0, .ofNat 0, 0), .inl (0, .ofNat 1, .ofNat 289, 0)], [], [], (false, false), [([.inl (0, .negSucc 2147483647, .ofNat 2147483647, 0)], [], [], [])]) -- B.sumOf
def kc_72_1_u : List (Nat × sx_U) := [(5, [.inl (2, .ofNat 0, .ofNat 0, 43), .inl (0, .ofNat 0, .ofNat 0, 0), .inl (0, .ofNat 1, .ofNat 289, 0), .inl (0, .negSucc 2147483647, .ofNat 2147483647, 0), .inl (0, .ofNat 0, .ofNat 289, 0)], [], (.ofNat 289, [(.negSucc 0, .inl 4)]))]
theorem kc_72_1_b : sx_chk (g_P []) xT (sx_tbl []) kc_72_1 kc_72_1_u 17 = true := by decide +kernel
theorem kc_72_1_k (ys : List Int32) : xk ys kc_72_1 := sx_by (xC ys) sx_m0 kc_72_1_b
