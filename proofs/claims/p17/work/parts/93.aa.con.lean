/-! CONTRACTS by a run (printed by wip/sx/gen90.py) -/
def kc_213_0 : sx_K := (213, [.inl (0, .negSucc 2147483647, .ofNat 2147483647, 0), .inl (0, .negSucc 2147483647, .ofNat 2147483647, 0)], [], [], (false, false), [([.inl (0, .negSucc 0, .ofNat 2147483646, 0)], [], [], [])]) -- M.rootOf
def kc_213_0_u : List (Nat × sx_U) := [(2, [.inl (0, .negSucc 2147483647, .ofNat 2147483647, 0), .inl (0, .negSucc 2147483647, .ofNat 2147483647, 0), .inl (0, .ofNat 1, .ofNat 2147483647, 0)], [], (.ofNat 2147483647, [(.negSucc 0, .inl 2)]))]
theorem kc_213_0_b : sx_chk (g_P []) xT (sx_tbl []) kc_213_0 kc_213_0_u 16 = true := by decide +kernel
theorem kc_213_0_k (ys : List Int32) : xk ys kc_213_0 := sx_by (xC ys) sx_m0 kc_213_0_b
def kc_292_0 : sx_K := (292, [.inl (2, .ofNat 0, .ofNat 0, 50), .inl (0, .ofNat 3, .ofNat 47, 0)], [(0, 15, .ofNat 0, .ofNat 5, 0)], [(54, .ofNat 0, .ofNat 41), (56, .ofNat 0, .ofNat 1491), (58, .ofNat 0, .ofNat 1491)], (false, false), [([], [(0, 15, .ofNat 0, .ofNat 5, 5)], [], [])]) -- M.makesRow
def kc_292_0_u : List (Nat × sx_U) := [(16, [.inl (2, .ofNat 0, .ofNat 0, 50), .inl (0, .ofNat 3, .ofNat 47, 0), .inl (0, .ofNat 0, .ofNat 47, 0), .inl (3, .ofNat 0, .ofNat 0, 0)], [(0, 15, .ofNat 0, .ofNat 5, 5)], (.ofNat 47, [(.negSucc 0, .inl 2)]))]
theorem kc_292_0_b : sx_chk (g_P []) xT (sx_tbl [kh_293_0, kh_294_0, kc_213_0]) kc_292_0 kc_292_0_u 57 = true := by decide +kernel
theorem kc_292_0_k (ys : List Int32) (p_293_0 : xk ys kh_293_0) (p_294_0 : xk ys kh_294_0) : xk ys kc_292_0 := sx_by (xC ys) (sx_m1 p_293_0 (sx_m1 p_294_0 (sx_m1 (kc_213_0_k ys) sx_m0))) kc_292_0_b
def kc_297_0 : sx_K := (297, [.inl (2, .ofNat 0, .ofNat 0, 50), .inl (0, .ofNat 3, .ofNat 17, 0)], [(0, 15, .ofNat 0, .ofNat 5, 0)], [(54, .ofNat 0, .ofNat 41), (56, .ofNat 0, .ofNat 1733), (58, .ofNat 0, .ofNat 1733)], (false, false), [([], [(0, 15, .ofNat 0, .ofNat 5, 5)], [], [])]) -- M.makesSquare
def kc_297_0_u : List (Nat × sx_U) := [(16, [.inl (2, .ofNat 0, .ofNat 0, 50), .inl (0, .ofNat 3, .ofNat 17, 0), .inl (0, .ofNat 0, .ofNat 17, 0), .inl (3, .ofNat 0, .ofNat 0, 0), .inl (3, .ofNat 0, .ofNat 0, 0)], [(0, 15, .ofNat 0, .ofNat 5, 5)], (.ofNat 341, [(.negSucc 18, .inl 2)])), (23, [.inl (2, .ofNat 0, .ofNat 0, 50), .inl (0, .ofNat 3, .ofNat 17, 0), .inl (0, .ofNat 0, .ofNat 16, 0), .inl (0, .ofNat 0, .ofNat 17, 0), .inl (3, .ofNat 0, .ofNat 0, 0)], [(0, 15, .ofNat 0, .ofNat 5, 5)], (.ofNat 340, [(.negSucc 18, .inl 2), (.negSucc 0, .inl 3)]))]
theorem kc_297_0_b : sx_chk (g_P []) xT (sx_tbl [kh_293_5, kh_294_1, kc_213_0]) kc_297_0 kc_297_0_u 73 = true := by decide +kernel
theorem kc_297_0_k (ys : List Int32) (p_293_5 : xk ys kh_293_5) (p_294_1 : xk ys kh_294_1) : xk ys kc_297_0 := sx_by (xC ys) (sx_m1 p_293_5 (sx_m1 p_294_1 (sx_m1 (kc_213_0_k ys) sx_m0))) kc_297_0_b
def kc_298_0 : sx_K := (298, [.inl (2, .ofNat 0, .ofNat 0, 50), .inl (1, .negSucc 9223372036854775807, .ofNat 9223372036854775807, 0), .inl (0, .ofNat 1, .ofNat 40, 0)], [(0, 15, .ofNat 0, .ofNat 5, 0)], [(54, .ofNat 0, .ofNat 41), (56, .ofNat 0, .ofNat 1484), (58, .ofNat 0, .ofNat 1484)], (false, false), [([], [(0, 15, .ofNat 0, .ofNat 5, 5)], [], [])]) -- M.makesBits
def kc_298_0_u : List (Nat × sx_U) := [(27, [.inl (2, .ofNat 0, .ofNat 0, 50), .inl (1, .negSucc 9223372036854775807, .ofNat 9223372036854775807, 0), .inr (.retAddr 0), .inl (0, .ofNat 1, .ofNat 40, 0), .inl (0, .ofNat 0, .ofNat 40, 0), .inl (3, .ofNat 0, .ofNat 0, 0)], [(0, 15, .ofNat 0, .ofNat 5, 5)], (.ofNat 40, [(.negSucc 0, .inl 4)]))]
theorem kc_298_0_b : sx_chk (g_P []) xT (sx_tbl [kh_293_1, kh_294_0]) kc_298_0 kc_298_0_u 56 = true := by decide +kernel
theorem kc_298_0_k (ys : List Int32) (p_293_1 : xk ys kh_293_1) (p_294_0 : xk ys kh_294_0) : xk ys kc_298_0 := sx_by (xC ys) (sx_m1 p_293_1 (sx_m1 p_294_0 sx_m0)) kc_298_0_b
def kc_288_0 : sx_K := (288, [.inl (2, .ofNat 0, .ofNat 0, 50)], [(0, 46, .ofNat 1, .ofNat 6, 0)], [], (false, false), [([.inl (0, .ofNat 0, .ofNat 0, 0)], [(0, 46, .ofNat 1, .ofNat 6, 0)], [], [])]) -- M.isName
def kc_288_0_u : List (Nat × sx_U) := []
theorem kc_288_0_b : sx_chk (g_P []) xT (sx_tbl []) kc_288_0 kc_288_0_u 13 = true := by decide +kernel
theorem kc_288_0_k (ys : List Int32) : xk ys kc_288_0 := sx_by (xC ys) sx_m0 kc_288_0_b
def kc_288_1 : sx_K := (288, [.inl (2, .ofNat 0, .ofNat 0, 50)], [(0, 50, .ofNat 0, .ofNat 0, 0)], [], (false, false), [([.inl (0, .ofNat 0, .ofNat 0, 0)], [(0, 50, .ofNat 0, .ofNat 0, 0)], [], [])]) -- M.isName
def kc_288_1_u : List (Nat × sx_U) := []
theorem kc_288_1_b : sx_chk (g_P []) xT (sx_tbl []) kc_288_1 kc_288_1_u 18 = true := by decide +kernel
theorem kc_288_1_k (ys : List Int32) : xk ys kc_288_1 := sx_by (xC ys) sx_m0 kc_288_1_b
def kc_288_2 : sx_K := (288, [.inl (2, .ofNat 0, .ofNat 0, 50)], [(0, 50, .ofNat 2, .ofNat 5, 0)], [], (false, false), [([.inl (0, .ofNat 0, .ofNat 0, 0)], [(0, 50, .ofNat 2, .ofNat 5, 0)], [], [])]) -- M.isName
def kc_288_2_u : List (Nat × sx_U) := []
theorem kc_288_2_b : sx_chk (g_P []) xT (sx_tbl []) kc_288_2 kc_288_2_u 18 = true := by decide +kernel
theorem kc_288_2_k (ys : List Int32) : xk ys kc_288_2 := sx_by (xC ys) sx_m0 kc_288_2_b
def kc_288_3 : sx_K := (288, [.inl (2, .ofNat 0, .ofNat 0, 50)], [], [], (false, false), [([.inl (0, .ofNat 0, .ofNat 0, 0)], [], [], []), ([.inl (0, .ofNat 1, .ofNat 1, 0)], [(0, 46, .ofNat 0, .ofNat 0, 0), (0, 50, .ofNat 1, .ofNat 1, 0)], [], [])]) -- M.isName
def kc_288_3_u : List (Nat × sx_U) := [(19, [.inl (2, .ofNat 0, .ofNat 0, 50), .inl (0, .ofNat 0, .ofNat 13, 0)], [(0, 46, .ofNat 0, .ofNat 0, 0), (0, 50, .ofNat 1, .ofNat 1, 0)], (.ofNat 13, [(.negSucc 0, .inl 1)]))]
theorem kc_288_3_b : sx_chk (g_P []) xT (sx_tbl []) kc_288_3 kc_288_3_u 19 = true := by decide +kernel
theorem kc_288_3_k (ys : List Int32) : xk ys kc_288_3 := sx_by (xC ys) sx_m0 kc_288_3_b
def kc_299_0 : sx_K := (299, [.inl (2, .ofNat 0, .ofNat 0, 50)], [(0, 15, .ofNat 0, .ofNat 5, 0), (0, 46, .ofNat 0, .ofNat 0, 0), (0, 50, .ofNat 0, .ofNat 0, 0)], [(50, .ofNat 46, .ofNat 47), (54, .ofNat 0, .ofNat 41), (56, .ofNat 0, .ofNat 1445), (58, .ofNat 0, .ofNat 1445)], (false, false), [([], [(0, 46, .ofNat 1, .ofNat 6, 0)], [], [])]) -- M.makesSet
def kc_299_0_u : List (Nat × sx_U) := [(25, [.inl (2, .ofNat 0, .ofNat 0, 50), .inl (0, .ofNat 1, .ofNat 1, 0), .inl (0, .ofNat 0, .ofNat 1, 0)], [(0, 15, .ofNat 0, .ofNat 5, 5), (0, 46, .ofNat 1, .ofNat 6, 0), (0, 50, .ofNat 0, .ofNat 0, 0)], (.ofNat 2, [(.negSucc 0, .inl 2)])), (43, [.inl (2, .ofNat 0, .ofNat 0, 50), .inl (0, .ofNat 1, .ofNat 1, 0), .inl (0, .ofNat 1, .ofNat 1, 0)], [(0, 15, .ofNat 0, .ofNat 5, 5), (0, 46, .ofNat 1, .ofNat 6, 0), (0, 50, .ofNat 0, .ofNat 0, 0)], (.ofNat 0, []))]
theorem kc_299_0_b : sx_chk (g_P []) xT (sx_tbl [kh_286_0, kh_286_1, kh_293_6, kh_294_0]) kc_299_0 kc_299_0_u 75 = true := by decide +kernel
theorem kc_299_0_k (ys : List Int32) (p_286_0 : xk ys kh_286_0) (p_286_1 : xk ys kh_286_1) (p_293_6 : xk ys kh_293_6) (p_294_0 : xk ys kh_294_0) : xk ys kc_299_0 := sx_by (xC ys) (sx_m1 p_286_0 (sx_m1 p_286_1 (sx_m1 p_293_6 (sx_m1 p_294_0 sx_m0)))) kc_299_0_b
def kc_290_0 : sx_K := (290, [.inl (2, .ofNat 0, .ofNat 0, 50)], [(0, 15, .ofNat 0, .ofNat 5, 0), (0, 46, .ofNat 0, .ofNat 0, 0), (0, 50, .ofNat 0, .ofNat 0, 0)], [(50, .ofNat 46, .ofNat 47)], (false, false), [([], [(0, 46, .ofNat 1, .ofNat 6, 0)], [], [])]) -- M.readsForm
def kc_290_0_u : List (Nat × sx_U) := []
theorem kc_290_0_b : sx_chk (g_P []) xT (sx_tbl [kh_286_0, kh_286_1, kc_288_0]) kc_290_0 kc_290_0_u 287 = true := by decide +kernel
theorem kc_290_0_k (ys : List Int32) (p_286_0 : xk ys kh_286_0) (p_286_1 : xk ys kh_286_1) : xk ys kc_290_0 := sx_by (xC ys) (sx_m1 p_286_0 (sx_m1 p_286_1 (sx_m1 (kc_288_0_k ys) sx_m0))) kc_290_0_b
def kc_13_0 : sx_K := (13, [.inl (2, .ofNat 0, .ofNat 0, 1)], [], [], (false, false), [([.inl (0, .ofNat 0, .ofNat 9, 0)], [], [], [])]) -- B.status
def kc_13_0_u : List (Nat × sx_U) := []
theorem kc_13_0_b : sx_chk (g_P []) xT (sx_tbl []) kc_13_0 kc_13_0_u 6 = true := by decide +kernel
theorem kc_13_0_k (ys : List Int32) : xk ys kc_13_0 := sx_by (xC ys) sx_m0 kc_13_0_b
def kc_14_0 : sx_K := (14, [.inl (2, .ofNat 0, .ofNat 0, 1), .inl (0, .negSucc 2147483647, .ofNat 2147483647, 0), .inl (0, .negSucc 2147483647, .ofNat 2147483647, 0), .inl (0, .negSucc 2147483647, .ofNat 2147483647, 0), .inl (0, .negSucc 2147483647, .ofNat 2147483647, 0), .inl (0, .negSucc 2147483647, .ofNat 2147483647, 0)], [], [(2, .ofNat 1, .ofNat 1), (3, .ofNat 0, .ofNat 799)], (false, false), [([.inl (0, .negSucc 0, .ofNat 800, 0)], [], [], [])]) -- B.feed
def kc_14_0_u : List (Nat × sx_U) := []
theorem kc_14_0_b : sx_chk (g_P []) xT (sx_tbl []) kc_14_0 kc_14_0_u 659 = true := by decide +kernel
theorem kc_14_0_k (ys : List Int32) : xk ys kc_14_0 := sx_by (xC ys) sx_m0 kc_14_0_b
def kc_81_0 : sx_K := (81, [.inl (2, .ofNat 0, .ofNat 0, 1), .inl (0, .negSucc 2147483647, .ofNat 2147483647, 0)], [], [], (false, false), [([.inl (0, .negSucc 0, .ofNat 800, 0)], [], [], [])]) -- B.fault
def kc_81_0_u : List (Nat × sx_U) := []
theorem kc_81_0_b : sx_chk (g_P []) xT (sx_tbl []) kc_81_0 kc_81_0_u 12 = true := by decide +kernel
theorem kc_81_0_k (ys : List Int32) : xk ys kc_81_0 := sx_by (xC ys) sx_m0 kc_81_0_b
def kc_82_0 : sx_K := (82, [.inl (2, .ofNat 0, .ofNat 0, 1), .inl (0, .negSucc 2147483647, .ofNat 2147483647, 0)], [], [(1, .ofNat 10, .ofNat 10)], (false, false), [([.inl (0, .negSucc 0, .ofNat 999, 0)], [(0, 10, .ofNat 0, .ofNat 5, 0)], [], [])]) -- B.many
def kc_82_0_u : List (Nat × sx_U) := []
theorem kc_82_0_b : sx_chk (g_P []) xT (sx_tbl []) kc_82_0 kc_82_0_u 26 = true := by decide +kernel
theorem kc_82_0_k (ys : List Int32) : xk ys kc_82_0 := sx_by (xC ys) sx_m0 kc_82_0_b
def kc_50_0 : sx_K := (50, [.inl (2, .ofNat 0, .ofNat 0, 39), .inl (0, .ofNat 0, .ofNat 0, 0), .inl (0, .ofNat 1, .ofNat 289, 0), .inl (0, .ofNat 0, .ofNat 0, 0)], [], [(39, .ofNat 0, .ofNat 288)], (false, false), [([], [], [], [])]) -- java/util/Arrays.fill
def kc_50_0_u : List (Nat × sx_U) := [(10, [.inl (2, .ofNat 0, .ofNat 0, 39), .inl (0, .ofNat 0, .ofNat 0, 0), .inl (0, .ofNat 1, .ofNat 289, 0), .inl (0, .ofNat 0, .ofNat 0, 0), .inl (0, .ofNat 0, .ofNat 289, 0)], [], (.ofNat 289, [(.negSucc 0, .inl 4)]))]
theorem kc_50_0_b : sx_chk (g_P []) xT (sx_tbl []) kc_50_0 kc_50_0_u 20 = true := by decide +kernel
theorem kc_50_0_k (ys : List Int32) : xk ys kc_50_0 := sx_by (xC ys) sx_m0 kc_50_0_b
def kc_86_0 : sx_K := (86, [.inl (2, .ofNat 0, .ofNat 0, 36), .inl (2, .ofNat 0, .ofNat 0, 39), .inl (2, .ofNat 0, .ofNat 0, 38)], [], [(39, .ofNat 0, .ofNat 288)], (false, false), [([], [], [], [])]) -- Plate.addOverHoles
def kc_86_0_u : List (Nat × sx_U) := [(12, [.inl (2, .ofNat 0, .ofNat 0, 36), .inl (2, .ofNat 0, .ofNat 0, 39), .inl (2, .ofNat 0, .ofNat 0, 38), .inl (0, .ofNat 0, .ofNat 289, 0)], [], (.ofNat 289, [(.negSucc 0, .inl 3)]))]
theorem kc_86_0_b : sx_chk (g_P []) xT (sx_tbl [kh_65_0, kc_50_0]) kc_86_0 kc_86_0_u 37 = true := by decide +kernel
theorem kc_86_0_k (ys : List Int32) (p_65_0 : xk ys kh_65_0) : xk ys kc_86_0 := sx_by (xC ys) (sx_m1 p_65_0 (sx_m1 (kc_50_0_k ys) sx_m0)) kc_86_0_b
def kc_87_0 : sx_K := (87, [.inl (2, .ofNat 0, .ofNat 0, 36), .inl (2, .ofNat 0, .ofNat 0, 39)], [], [], (false, false), [([.inl (0, .negSucc 2147483647, .ofNat 2147483647, 0)], [], [], [])]) -- Plate.leastBehindFirst
def kc_87_0_u : List (Nat × sx_U) := [(18, [.inl (2, .ofNat 0, .ofNat 0, 36), .inl (2, .ofNat 0, .ofNat 0, 39), .inl (0, .negSucc 2147483647, .ofNat 2147483647, 0), .inl (0, .ofNat 2, .ofNat 289, 0)], [], (.ofNat 289, [(.negSucc 0, .inl 3)]))]
theorem kc_87_0_b : sx_chk (g_P []) xT (sx_tbl []) kc_87_0 kc_87_0_u 22 = true := by decide +kernel
theorem kc_87_0_k (ys : List Int32) : xk ys kc_87_0 := sx_by (xC ys) sx_m0 kc_87_0_b
def kc_88_0 : sx_K := (88, [.inl (2, .ofNat 0, .ofNat 0, 36), .inl (2, .ofNat 0, .ofNat 0, 39)], [], [], (false, false), [([.inl (0, .negSucc 2147483647, .ofNat 2147483647, 0)], [], [], [])]) -- Plate.greatestBehindFirst
def kc_88_0_u : List (Nat × sx_U) := [(18, [.inl (2, .ofNat 0, .ofNat 0, 36), .inl (2, .ofNat 0, .ofNat 0, 39), .inl (0, .negSucc 2147483647, .ofNat 2147483647, 0), .inl (0, .ofNat 2, .ofNat 289, 0)], [], (.ofNat 289, [(.negSucc 0, .inl 3)]))]
theorem kc_88_0_b : sx_chk (g_P []) xT (sx_tbl []) kc_88_0 kc_88_0_u 22 = true := by decide +kernel
theorem kc_88_0_k (ys : List Int32) : xk ys kc_88_0 := sx_by (xC ys) sx_m0 kc_88_0_b
def kc_83_0 : sx_K := (83, [.inl (2, .ofNat 0, .ofNat 0, 1), .inl (0, .negSucc 2147483647, .ofNat 2147483647, 0), .inl (0, .negSucc 2147483647, .ofNat 2147483647, 0)], [], [(1, .ofNat 10, .ofNat 10), (36, .ofNat 9, .ofNat 11), (39, .ofNat 0, .ofNat 288)], (false, false), [([.inl (0, .negSucc 2147483647, .ofNat 2147483647, 0)], [(0, 10, .ofNat 0, .ofNat 5, 0)], [], [])]) -- B.plate
def kc_83_0_u : List (Nat × sx_U) := []
theorem kc_83_0_b : sx_chk (g_P []) xT (sx_tbl [kc_86_0, kc_87_0, kc_88_0]) kc_83_0 kc_83_0_u 81 = true := by decide +kernel
theorem kc_83_0_k (ys : List Int32) (p_65_0 : xk ys kh_65_0) : xk ys kc_83_0 := sx_by (xC ys) (sx_m1 (kc_86_0_k ys p_65_0) (sx_m1 (kc_87_0_k ys) (sx_m1 (kc_88_0_k ys) sx_m0))) kc_83_0_b
def kc_50_1 : sx_K := (50, [.inl (2, .ofNat 0, .ofNat 0, 24), .inl (0, .ofNat 0, .ofNat 0, 0), .inl (0, .ofNat 1, .ofNat 289, 0), .inl (0, .ofNat 0, .ofNat 0, 0)], [], [(24, .ofNat 0, .ofNat 288)], (false, false), [([], [], [], [])]) -- java/util/Arrays.fill
def kc_50_1_u : List (Nat × sx_U) := [(10, [.inl (2, .ofNat 0, .ofNat 0, 24), .inl (0, .ofNat 0, .ofNat 0, 0), .inl (0, .ofNat 1, .ofNat 289, 0), .inl (0, .ofNat 0, .ofNat 0, 0), .inl (0, .ofNat 0, .ofNat 289, 0)], [], (.ofNat 289, [(.negSucc 0, .inl 4)]))]
theorem kc_50_1_b : sx_chk (g_P []) xT (sx_tbl []) kc_50_1 kc_50_1_u 20 = true := by decide +kernel
theorem kc_50_1_k (ys : List Int32) : xk ys kc_50_1 := sx_by (xC ys) sx_m0 kc_50_1_b
def kc_86_1 : sx_K := (86, [.inl (2, .ofNat 0, .ofNat 0, 36), .inl (2, .ofNat 0, .ofNat 0, 24), .inl (2, .ofNat 0, .ofNat 0, 37)], [], [(24, .ofNat 0, .ofNat 288)], (false, false), [([], [], [], [])]) -- Plate.addOverHoles
def kc_86_1_u : List (Nat × sx_U) := [(12, [.inl (2, .ofNat 0, .ofNat 0, 36), .inl (2, .ofNat 0, .ofNat 0, 24), .inl (2, .ofNat 0, .ofNat 0, 37), .inl (0, .ofNat 0, .ofNat 289, 0)], [], (.ofNat 289, [(.negSucc 0, .inl 3)]))]
theorem kc_86_1_b : sx_chk (g_P []) xT (sx_tbl [kh_65_1, kc_50_1]) kc_86_1 kc_86_1_u 37 = true := by decide +kernel
theorem kc_86_1_k (ys : List Int32) (p_65_1 : xk ys kh_65_1) : xk ys kc_86_1 := sx_by (xC ys) (sx_m1 p_65_1 (sx_m1 (kc_50_1_k ys) sx_m0)) kc_86_1_b
def kc_88_1 : sx_K := (88, [.inl (2, .ofNat 0, .ofNat 0, 36), .inl (2, .ofNat 0, .ofNat 0, 24)], [], [], (false, false), [([.inl (0, .negSucc 2147483647, .ofNat 2147483647, 0)], [], [], [])]) -- Plate.greatestBehindFirst
def kc_88_1_u : List (Nat × sx_U) := [(18, [.inl (2, .ofNat 0, .ofNat 0, 36), .inl (2, .ofNat 0, .ofNat 0, 24), .inl (0, .negSucc 2147483647, .ofNat 2147483647, 0), .inl (0, .ofNat 2, .ofNat 289, 0)], [], (.ofNat 289, [(.negSucc 0, .inl 3)]))]
theorem kc_88_1_b : sx_chk (g_P []) xT (sx_tbl []) kc_88_1 kc_88_1_u 22 = true := by decide +kernel
theorem kc_88_1_k (ys : List Int32) : xk ys kc_88_1 := sx_by (xC ys) sx_m0 kc_88_1_b
def kc_91_0 : sx_K := (91, [.inl (2, .ofNat 0, .ofNat 0, 36), .inl (2, .ofNat 0, .ofNat 0, 24), .inl (0, .negSucc 2147483647, .ofNat 2147483647, 0)], [], [], (false, false), [([.inl (0, .negSucc 2147483647, .ofNat 2147483647, 0)], [], [], [])]) -- Plate.timesBehindFirst
def kc_91_0_u : List (Nat × sx_U) := [(5, [.inl (2, .ofNat 0, .ofNat 0, 36), .inl (2, .ofNat 0, .ofNat 0, 24), .inl (0, .negSucc 2147483647, .ofNat 2147483647, 0), .inl (0, .negSucc 2147483647, .ofNat 2147483647, 0), .inl (0, .ofNat 1, .ofNat 289, 0)], [], (.ofNat 289, [(.negSucc 0, .inl 4)]))]
theorem kc_91_0_b : sx_chk (g_P []) xT (sx_tbl []) kc_91_0 kc_91_0_u 20 = true := by decide +kernel
theorem kc_91_0_k (ys : List Int32) : xk ys kc_91_0 := sx_by (xC ys) sx_m0 kc_91_0_b
def kc_87_1 : sx_K := (87, [.inl (2, .ofNat 0, .ofNat 0, 36), .inl (2, .ofNat 0, .ofNat 0, 24)], [], [], (false, false), [([.inl (0, .negSucc 2147483647, .ofNat 2147483647, 0)], [], [], [])]) -- Plate.leastBehindFirst
def kc_87_1_u : List (Nat × sx_U) := [(18, [.inl (2, .ofNat 0, .ofNat 0, 36), .inl (2, .ofNat 0, .ofNat 0, 24), .inl (0, .negSucc 2147483647, .ofNat 2147483647, 0), .inl (0, .ofNat 2, .ofNat 289, 0)], [], (.ofNat 289, [(.negSucc 0, .inl 3)]))]
theorem kc_87_1_b : sx_chk (g_P []) xT (sx_tbl []) kc_87_1 kc_87_1_u 22 = true := by decide +kernel
theorem kc_87_1_k (ys : List Int32) : xk ys kc_87_1 := sx_by (xC ys) sx_m0 kc_87_1_b
def kc_90_0 : sx_K := (90, [.inl (2, .ofNat 0, .ofNat 0, 1), .inl (0, .negSucc 2147483647, .ofNat 2147483647, 0), .inl (0, .negSucc 2147483647, .ofNat 2147483647, 0)], [], [(1, .ofNat 10, .ofNat 10), (24, .ofNat 0, .ofNat 288)], (false, false), [([.inl (0, .negSucc 2147483647, .ofNat 2147483647, 0)], [(0, 10, .ofNat 0, .ofNat 5, 0)], [], [])]) -- B.differences
def kc_90_0_u : List (Nat × sx_U) := []
theorem kc_90_0_b : sx_chk (g_P []) xT (sx_tbl [kc_86_1, kc_88_1, kc_91_0, kc_87_1]) kc_90_0 kc_90_0_u 60 = true := by decide +kernel
theorem kc_90_0_k (ys : List Int32) (p_65_1 : xk ys kh_65_1) : xk ys kc_90_0 := sx_by (xC ys) (sx_m1 (kc_86_1_k ys p_65_1) (sx_m1 (kc_88_1_k ys) (sx_m1 (kc_91_0_k ys) (sx_m1 (kc_87_1_k ys) sx_m0)))) kc_90_0_b
def kc_92_0 : sx_K := (92, [.inl (2, .ofNat 0, .ofNat 0, 1), .inl (0, .negSucc 2147483647, .ofNat 2147483647, 0), .inl (0, .negSucc 2147483647, .ofNat 2147483647, 0), .inl (0, .negSucc 2147483647, .ofNat 2147483647, 0), .inl (0, .negSucc 2147483647, .ofNat 2147483647, 0), .inl (0, .negSucc 2147483647, .ofNat 2147483647, 0)], [], [(1, .ofNat 10, .ofNat 10)], (false, false), [([.inl (0, .negSucc 2147483647, .ofNat 2147483647, 0)], [(0, 10, .ofNat 0, .ofNat 2, 0)], [], [])]) -- B.window
def kc_92_0_u : List (Nat × sx_U) := [(69, [.inl (2, .ofNat 0, .ofNat 0, 1), .inl (0, .ofNat 0, .ofNat 5, 0), .inl (0, .ofNat 0, .ofNat 288, 0), .inl (0, .ofNat 0, .ofNat 288, 0), .inl (0, .ofNat 1, .ofNat 99, 0), .inl (0, .ofNat 1, .ofNat 99, 0), .inl (2, .ofNat 0, .ofNat 0, 36), .inl (0, .negSucc 2147483647, .ofNat 2147483647, 0), .inl (0, .ofNat 0, .ofNat 801, 0), .inl (3, .ofNat 0, .ofNat 0, 0)], [], (.ofNat 311977, [(.negSucc 388, .inl 8)])), (81, [.inl (2, .ofNat 0, .ofNat 0, 1), .inl (0, .ofNat 0, .ofNat 5, 0), .inl (0, .ofNat 0, .ofNat 288, 0), .inl (0, .ofNat 0, .ofNat 288, 0), .inl (0, .ofNat 1, .ofNat 99, 0), .inl (0, .ofNat 1, .ofNat 99, 0), .inl (2, .ofNat 0, .ofNat 0, 36), .inl (0, .negSucc 2147483647, .ofNat 2147483647, 0), .inl (0, .ofNat 0, .ofNat 800, 0), .inl (0, .ofNat 0, .ofNat 387, 0)], [], (.ofNat 311976, [(.negSucc 388, .inl 8), (.negSucc 0, .inl 9)]))]
theorem kc_92_0_b : sx_chk (g_P []) xT (sx_tbl [kh_93_0]) kc_92_0 kc_92_0_u 62 = true := by decide +kernel
theorem kc_92_0_k (ys : List Int32) (p_93_0 : xk ys kh_93_0) : xk ys kc_92_0 := sx_by (xC ys) (sx_m1 p_93_0 sx_m0) kc_92_0_b
def kc_96_0 : sx_K := (96, [.inl (2, .ofNat 0, .ofNat 0, 36), .inl (2, .ofNat 0, .ofNat 0, 36), .inl (0, .negSucc 2147483647, .ofNat 2147483647, 0), .inl (0, .negSucc 2147483647, .ofNat 2147483647, 0)], [], [], (false, false), [([.inl (0, .ofNat 0, .ofNat 1, 0)], [], [], [])]) -- Plate.hasHolesOf
def kc_96_0_u : List (Nat × sx_U) := [(3, [.inl (2, .ofNat 0, .ofNat 0, 36), .inl (2, .ofNat 0, .ofNat 0, 36), .inl (0, .negSucc 2147483647, .ofNat 2147483647, 0), .inl (0, .negSucc 2147483647, .ofNat 2147483647, 0), .inl (0, .ofNat 0, .ofNat 289, 0)], [], (.ofNat 289, [(.negSucc 0, .inl 4)]))]
theorem kc_96_0_b : sx_chk (g_P []) xT (sx_tbl [kh_93_0]) kc_96_0 kc_96_0_u 40 = true := by decide +kernel
theorem kc_96_0_k (ys : List Int32) (p_93_0 : xk ys kh_93_0) : xk ys kc_96_0 := sx_by (xC ys) (sx_m1 p_93_0 sx_m0) kc_96_0_b
def kc_95_0 : sx_K := (95, [.inl (2, .ofNat 0, .ofNat 0, 36), .inl (2, .ofNat 0, .ofNat 0, 36)], [], [], (false, false), [([.inl (0, .ofNat 0, .ofNat 1, 0)], [], [], [])]) -- Plate.isTurned
def kc_95_0_u : List (Nat × sx_U) := [(37, [.inl (2, .ofNat 0, .ofNat 0, 36), .inl (2, .ofNat 0, .ofNat 0, 36), .inl (0, .ofNat 0, .ofNat 289, 0)], [], (.ofNat 289, [(.negSucc 0, .inl 2)]))]
theorem kc_95_0_b : sx_chk (g_P []) xT (sx_tbl [kc_96_0]) kc_95_0 kc_95_0_u 30 = true := by decide +kernel
theorem kc_95_0_k (ys : List Int32) (p_93_0 : xk ys kh_93_0) : xk ys kc_95_0 := sx_by (xC ys) (sx_m1 (kc_96_0_k ys p_93_0) sx_m0) kc_95_0_b
def kc_94_0 : sx_K := (94, [.inl (2, .ofNat 0, .ofNat 0, 1), .inl (0, .negSucc 2147483647, .ofNat 2147483647, 0), .inl (0, .negSucc 2147483647, .ofNat 2147483647, 0)], [], [(1, .ofNat 10, .ofNat 10)], (false, false), [([.inl (0, .negSucc 0, .ofNat 1, 0)], [(0, 10, .ofNat 0, .ofNat 2, 0)], [], [])]) -- B.alike
def kc_94_0_u : List (Nat × sx_U) := []
theorem kc_94_0_b : sx_chk (g_P []) xT (sx_tbl [kc_95_0]) kc_94_0 kc_94_0_u 55 = true := by decide +kernel
theorem kc_94_0_k (ys : List Int32) (p_93_0 : xk ys kh_93_0) : xk ys kc_94_0 := sx_by (xC ys) (sx_m1 (kc_95_0_k ys p_93_0) sx_m0) kc_94_0_b
def kc_61_0 : sx_K := (61, [.inl (0, .negSucc 2147483647, .ofNat 2147483647, 0), .inl (0, .negSucc 2147483647, .ofNat 2147483647, 0)], [], [], (false, false), [([.inl (0, .negSucc 0, .ofNat 2147483646, 0)], [], [], [])]) -- B.leastRoot
def kc_61_0_u : List (Nat × sx_U) := [(2, [.inl (0, .negSucc 2147483647, .ofNat 2147483647, 0), .inl (0, .negSucc 2147483647, .ofNat 2147483647, 0), .inl (0, .ofNat 1, .ofNat 2147483647, 0)], [], (.ofNat 2147483647, [(.negSucc 0, .inl 2)]))]
theorem kc_61_0_b : sx_chk (g_P []) xT (sx_tbl []) kc_61_0 kc_61_0_u 16 = true := by decide +kernel
theorem kc_61_0_k (ys : List Int32) : xk ys kc_61_0 := sx_by (xC ys) sx_m0 kc_61_0_b
