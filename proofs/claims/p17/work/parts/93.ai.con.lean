/-! CONTRACTS by a run (printed by wip/sx/gen90.py) -/
def kc_39_0 : sx_K := (39, [.inl (2, .ofNat 0, .ofNat 0, 25), .inl (0, .negSucc 2147483647, .ofNat 2147483647, 0)], [], [], (false, false), [([.inl (0, .negSucc 0, .ofNat 5, 0)], [], [], [])]) -- Bench.numberOf
def kc_39_0_u : List (Nat × sx_U) := [(2, [.inl (2, .ofNat 0, .ofNat 0, 25), .inl (0, .negSucc 2147483647, .ofNat 2147483647, 0), .inl (0, .ofNat 0, .ofNat 6, 0)], [], (.ofNat 6, [(.negSucc 0, .inl 2)]))]
theorem kc_39_0_b : sx_chk (g_P []) xT (sx_tbl []) kc_39_0 kc_39_0_u 17 = true := by decide +kernel
theorem kc_39_0_k (ys : List Int32) : xk ys kc_39_0 := sx_by (xC ys) sx_m0 kc_39_0_b
def kc_38_0 : sx_K := (38, [.inl (2, .ofNat 0, .ofNat 0, 6), .inl (2, .ofNat 0, .ofNat 0, 25)], [], [(6, .ofNat 3, .ofNat 5), (36, .ofNat 3, .ofNat 3)], (false, false), [([.inl (0, .ofNat 0, .ofNat 0, 0)], [(0, 4, .ofNat 1, .ofNat 4, 0), (0, 5, .ofNat 0, .ofNat 800, 0)], [], []), ([.inl (0, .ofNat 1, .ofNat 1, 0)], [(0, 3, .ofNat 1, .ofNat 800, 0)], [], [])]) -- Loader.takeNewName
def kc_38_0_u : List (Nat × sx_U) := []
theorem kc_38_0_b : sx_chk (g_P []) xT (sx_tbl [kc_35_13, kc_39_0]) kc_38_0 kc_38_0_u 69 = true := by decide +kernel
theorem kc_38_0_k (ys : List Int32) : xk ys kc_38_0 := sx_by (xC ys) (sx_m1 (kc_35_13_k ys) (sx_m1 (kc_39_0_k ys) sx_m0)) kc_38_0_b
def kc_41_0 : sx_K := (41, [.inl (2, .ofNat 0, .ofNat 0, 6)], [], [(6, .ofNat 3, .ofNat 5)], (false, false), [([.inl (0, .ofNat 0, .ofNat 0, 0)], [(0, 4, .ofNat 1, .ofNat 2, 0), (0, 5, .ofNat 0, .ofNat 800, 0)], [], []), ([.inl (0, .ofNat 1, .ofNat 1, 0)], [(0, 3, .ofNat 1, .ofNat 800, 0)], [], [])]) -- Loader.takeFormWord
def kc_41_0_u : List (Nat × sx_U) := []
theorem kc_41_0_b : sx_chk (g_P []) xT (sx_tbl [kc_35_13]) kc_41_0 kc_41_0_u 58 = true := by decide +kernel
theorem kc_41_0_k (ys : List Int32) : xk ys kc_41_0 := sx_by (xC ys) (sx_m1 (kc_35_13_k ys) sx_m0) kc_41_0_b
def kc_43_0 : sx_K := (43, [.inl (2, .ofNat 0, .ofNat 0, 6), .inl (0, .ofNat 35, .ofNat 35, 0), .inl (2, .ofNat 0, .ofNat 0, 2), .inl (2, .ofNat 0, .ofNat 0, 25)], [], [(6, .ofNat 3, .ofNat 5), (36, .ofNat 4, .ofNat 6), (36, .ofNat 9, .ofNat 9), (37, .ofNat 0, .ofNat 288)], (false, false), [([.inl (0, .ofNat 0, .ofNat 1, 0)], [], [], [])]) -- Loader.takeSlot
def kc_43_0_u : List (Nat × sx_U) := []
theorem kc_43_0_b : sx_chk (g_P []) xT (sx_tbl [kh_47_0]) kc_43_0 kc_43_0_u 25 = true := by decide +kernel
theorem kc_43_0_k (ys : List Int32) (p_47_0 : xk ys kh_47_0) : xk ys kc_43_0 := sx_by (xC ys) (sx_m1 p_47_0 sx_m0) kc_43_0_b
def kc_50_7 : sx_K := (50, [.inl (2, .ofNat 0, .ofNat 0, 37), .inl (0, .ofNat 0, .ofNat 0, 0), .inl (0, .ofNat 1, .ofNat 289, 0), .inl (0, .ofNat 0, .ofNat 0, 0)], [], [(37, .ofNat 0, .ofNat 288)], (false, false), [([], [], [], [])]) -- java/util/Arrays.fill
def kc_50_7_u : List (Nat × sx_U) := [(10, [.inl (2, .ofNat 0, .ofNat 0, 37), .inl (0, .ofNat 0, .ofNat 0, 0), .inl (0, .ofNat 1, .ofNat 289, 0), .inl (0, .ofNat 0, .ofNat 0, 0), .inl (0, .ofNat 0, .ofNat 289, 0)], [], (.ofNat 289, [(.negSucc 0, .inl 4)]))]
theorem kc_50_7_b : sx_chk (g_P []) xT (sx_tbl []) kc_50_7 kc_50_7_u 20 = true := by decide +kernel
theorem kc_50_7_k (ys : List Int32) : xk ys kc_50_7 := sx_by (xC ys) sx_m0 kc_50_7_b
def kc_53_0 : sx_K := (53, [.inl (2, .ofNat 0, .ofNat 0, 6), .inl (2, .ofNat 0, .ofNat 0, 36)], [], [(6, .ofNat 3, .ofNat 5), (36, .ofNat 4, .ofNat 6), (36, .ofNat 9, .ofNat 9), (37, .ofNat 0, .ofNat 288)], (false, false), [([.inl (0, .ofNat 0, .ofNat 0, 0)], [(0, 3, .ofNat 0, .ofNat 799, 0), (0, 4, .ofNat 3, .ofNat 3, 0), (0, 5, .ofNat 0, .ofNat 800, 0)], [], []), ([.inl (0, .ofNat 1, .ofNat 1, 0)], [], [], [])]) -- Loader.takePlaces
def kc_53_0_u : List (Nat × sx_U) := [(12, [.inl (2, .ofNat 0, .ofNat 0, 6), .inl (2, .ofNat 0, .ofNat 0, 36), .inl (0, .ofNat 0, .ofNat 801, 0), .inl (3, .ofNat 0, .ofNat 0, 0)], [], (.ofNat 801, [(.negSucc 0, .inl 2)]))]
theorem kc_53_0_b : sx_chk (g_P []) xT (sx_tbl [kh_49_0, kc_50_7]) kc_53_0 kc_53_0_u 67 = true := by decide +kernel
theorem kc_53_0_k (ys : List Int32) (p_49_0 : xk ys kh_49_0) : xk ys kc_53_0 := sx_by (xC ys) (sx_m1 p_49_0 (sx_m1 (kc_50_7_k ys) sx_m0)) kc_53_0_b
def kc_43_1 : sx_K := (43, [.inl (2, .ofNat 0, .ofNat 0, 6), .inl (0, .ofNat 42, .ofNat 42, 0), .inl (2, .ofNat 0, .ofNat 0, 2), .inl (2, .ofNat 0, .ofNat 0, 25)], [], [(6, .ofNat 3, .ofNat 5), (36, .ofNat 4, .ofNat 6), (36, .ofNat 9, .ofNat 9), (37, .ofNat 0, .ofNat 288)], (false, false), [([.inl (0, .ofNat 0, .ofNat 0, 0)], [(0, 3, .ofNat 0, .ofNat 799, 0), (0, 4, .ofNat 3, .ofNat 3, 0), (0, 5, .ofNat 0, .ofNat 800, 0)], [], []), ([.inl (0, .ofNat 1, .ofNat 1, 0)], [], [], [])]) -- Loader.takeSlot
def kc_43_1_u : List (Nat × sx_U) := []
theorem kc_43_1_b : sx_chk (g_P []) xT (sx_tbl [kc_53_0]) kc_43_1 kc_43_1_u 24 = true := by decide +kernel
theorem kc_43_1_k (ys : List Int32) (p_49_0 : xk ys kh_49_0) : xk ys kc_43_1 := sx_by (xC ys) (sx_m1 (kc_53_0_k ys p_49_0) sx_m0) kc_43_1_b
def kc_43_2 : sx_K := (43, [.inl (2, .ofNat 0, .ofNat 0, 6), .inl (0, .ofNat 59, .ofNat 59, 0), .inl (2, .ofNat 0, .ofNat 0, 2), .inl (2, .ofNat 0, .ofNat 0, 25)], [], [(6, .ofNat 3, .ofNat 5)], (false, false), [([.inl (0, .ofNat 0, .ofNat 0, 0)], [(0, 4, .ofNat 1, .ofNat 2, 0), (0, 5, .ofNat 0, .ofNat 800, 0)], [], []), ([.inl (0, .ofNat 1, .ofNat 1, 0)], [(0, 3, .ofNat 1, .ofNat 800, 0)], [], [])]) -- Loader.takeSlot
def kc_43_2_u : List (Nat × sx_U) := []
theorem kc_43_2_b : sx_chk (g_P []) xT (sx_tbl []) kc_43_2 kc_43_2_u 50 = true := by decide +kernel
theorem kc_43_2_k (ys : List Int32) : xk ys kc_43_2 := sx_by (xC ys) sx_m0 kc_43_2_b
def kc_43_3 : sx_K := (43, [.inl (2, .ofNat 0, .ofNat 0, 6), .inl (0, .ofNat 97, .ofNat 97, 0), .inl (2, .ofNat 0, .ofNat 0, 2), .inl (2, .ofNat 0, .ofNat 0, 25)], [], [(6, .ofNat 2, .ofNat 5), (12, .ofNat 0, .ofNat 2)], (false, false), [([.inl (0, .ofNat 0, .ofNat 0, 0)], [(0, 4, .ofNat 1, .ofNat 5, 0), (0, 5, .ofNat 0, .ofNat 800, 0)], [], []), ([.inl (0, .ofNat 1, .ofNat 1, 0)], [(0, 2, .ofNat 1, .ofNat 3, 0), (0, 3, .ofNat 1, .ofNat 800, 0)], [], [])]) -- Loader.takeSlot
def kc_43_3_u : List (Nat × sx_U) := []
theorem kc_43_3_b : sx_chk (g_P []) xT (sx_tbl [kc_35_13, kc_39_0]) kc_43_3 kc_43_3_u 109 = true := by decide +kernel
theorem kc_43_3_k (ys : List Int32) : xk ys kc_43_3 := sx_by (xC ys) (sx_m1 (kc_35_13_k ys) (sx_m1 (kc_39_0_k ys) sx_m0)) kc_43_3_b
def kc_43_4 : sx_K := (43, [.inl (2, .ofNat 0, .ofNat 0, 6), .inl (0, .ofNat 98, .ofNat 98, 0), .inl (2, .ofNat 0, .ofNat 0, 2), .inl (2, .ofNat 0, .ofNat 0, 25)], [], [(6, .ofNat 2, .ofNat 5), (12, .ofNat 0, .ofNat 2)], (false, false), [([.inl (0, .ofNat 0, .ofNat 0, 0)], [(0, 4, .ofNat 1, .ofNat 5, 0), (0, 5, .ofNat 0, .ofNat 800, 0)], [], []), ([.inl (0, .ofNat 1, .ofNat 1, 0)], [(0, 2, .ofNat 1, .ofNat 3, 0), (0, 3, .ofNat 1, .ofNat 800, 0)], [], [])]) -- Loader.takeSlot
def kc_43_4_u : List (Nat × sx_U) := []
theorem kc_43_4_b : sx_chk (g_P []) xT (sx_tbl [kc_35_13, kc_39_0]) kc_43_4 kc_43_4_u 129 = true := by decide +kernel
theorem kc_43_4_k (ys : List Int32) : xk ys kc_43_4 := sx_by (xC ys) (sx_m1 (kc_35_13_k ys) (sx_m1 (kc_39_0_k ys) sx_m0)) kc_43_4_b
def kc_43_5 : sx_K := (43, [.inl (2, .ofNat 0, .ofNat 0, 6), .inl (0, .ofNat 99, .ofNat 99, 0), .inl (2, .ofNat 0, .ofNat 0, 2), .inl (2, .ofNat 0, .ofNat 0, 25)], [], [(6, .ofNat 2, .ofNat 5), (12, .ofNat 0, .ofNat 2)], (false, false), [([.inl (0, .ofNat 0, .ofNat 0, 0)], [(0, 4, .ofNat 1, .ofNat 3, 0), (0, 5, .ofNat 0, .ofNat 800, 0)], [], []), ([.inl (0, .ofNat 1, .ofNat 1, 0)], [(0, 2, .ofNat 1, .ofNat 3, 0), (0, 3, .ofNat 1, .ofNat 800, 0)], [], [])]) -- Loader.takeSlot
def kc_43_5_u : List (Nat × sx_U) := []
theorem kc_43_5_b : sx_chk (g_P []) xT (sx_tbl []) kc_43_5 kc_43_5_u 77 = true := by decide +kernel
theorem kc_43_5_k (ys : List Int32) : xk ys kc_43_5 := sx_by (xC ys) sx_m0 kc_43_5_b
def kc_43_6 : sx_K := (43, [.inl (2, .ofNat 0, .ofNat 0, 6), .inl (0, .ofNat 110, .ofNat 110, 0), .inl (2, .ofNat 0, .ofNat 0, 2), .inl (2, .ofNat 0, .ofNat 0, 25)], [], [(6, .ofNat 2, .ofNat 5), (12, .ofNat 0, .ofNat 2)], (false, false), [([.inl (0, .ofNat 0, .ofNat 0, 0)], [(0, 4, .ofNat 1, .ofNat 4, 0), (0, 5, .ofNat 0, .ofNat 800, 0)], [], []), ([.inl (0, .ofNat 1, .ofNat 1, 0)], [(0, 2, .ofNat 1, .ofNat 3, 0), (0, 3, .ofNat 1, .ofNat 800, 0)], [], [])]) -- Loader.takeSlot
def kc_43_6_u : List (Nat × sx_U) := []
theorem kc_43_6_b : sx_chk (g_P []) xT (sx_tbl [kc_35_13, kc_39_0]) kc_43_6 kc_43_6_u 109 = true := by decide +kernel
theorem kc_43_6_k (ys : List Int32) : xk ys kc_43_6 := sx_by (xC ys) (sx_m1 (kc_35_13_k ys) (sx_m1 (kc_39_0_k ys) sx_m0)) kc_43_6_b
def kc_43_7 : sx_K := (43, [.inl (2, .ofNat 0, .ofNat 0, 6), .inl (0, .ofNat 113, .ofNat 113, 0), .inl (2, .ofNat 0, .ofNat 0, 2), .inl (2, .ofNat 0, .ofNat 0, 25)], [], [(6, .ofNat 2, .ofNat 5), (12, .ofNat 0, .ofNat 2)], (false, false), [([.inl (0, .ofNat 0, .ofNat 0, 0)], [(0, 4, .ofNat 1, .ofNat 3, 0), (0, 5, .ofNat 0, .ofNat 800, 0)], [], []), ([.inl (0, .ofNat 1, .ofNat 1, 0)], [(0, 2, .ofNat 1, .ofNat 3, 0), (0, 3, .ofNat 1, .ofNat 800, 0)], [], [])]) -- Loader.takeSlot
def kc_43_7_u : List (Nat × sx_U) := []
theorem kc_43_7_b : sx_chk (g_P []) xT (sx_tbl []) kc_43_7 kc_43_7_u 124 = true := by decide +kernel
theorem kc_43_7_k (ys : List Int32) : xk ys kc_43_7 := sx_by (xC ys) sx_m0 kc_43_7_b
def kc_43_8 : sx_K := (43, [.inl (2, .ofNat 0, .ofNat 0, 6), .inl (0, .ofNat 114, .ofNat 114, 0), .inl (2, .ofNat 0, .ofNat 0, 2), .inl (2, .ofNat 0, .ofNat 0, 25)], [], [(6, .ofNat 2, .ofNat 5), (12, .ofNat 0, .ofNat 2)], (false, false), [([.inl (0, .ofNat 0, .ofNat 0, 0)], [(0, 4, .ofNat 1, .ofNat 3, 0), (0, 5, .ofNat 0, .ofNat 800, 0)], [], []), ([.inl (0, .ofNat 1, .ofNat 1, 0)], [(0, 2, .ofNat 1, .ofNat 3, 0), (0, 3, .ofNat 1, .ofNat 800, 0)], [], [])]) -- Loader.takeSlot
def kc_43_8_u : List (Nat × sx_U) := []
theorem kc_43_8_b : sx_chk (g_P []) xT (sx_tbl []) kc_43_8 kc_43_8_u 146 = true := by decide +kernel
theorem kc_43_8_k (ys : List Int32) : xk ys kc_43_8 := sx_by (xC ys) sx_m0 kc_43_8_b
def kc_43_9 : sx_K := (43, [.inl (2, .ofNat 0, .ofNat 0, 6), .inl (0, .ofNat 119, .ofNat 119, 0), .inl (2, .ofNat 0, .ofNat 0, 2), .inl (2, .ofNat 0, .ofNat 0, 25)], [], [(6, .ofNat 2, .ofNat 5), (12, .ofNat 0, .ofNat 2)], (false, false), [([.inl (0, .ofNat 0, .ofNat 0, 0)], [(0, 4, .ofNat 1, .ofNat 3, 0), (0, 5, .ofNat 0, .ofNat 800, 0)], [], []), ([.inl (0, .ofNat 1, .ofNat 1, 0)], [(0, 2, .ofNat 1, .ofNat 3, 0), (0, 3, .ofNat 1, .ofNat 800, 0)], [], [])]) -- Loader.takeSlot
def kc_43_9_u : List (Nat × sx_U) := []
theorem kc_43_9_b : sx_chk (g_P []) xT (sx_tbl []) kc_43_9 kc_43_9_u 77 = true := by decide +kernel
theorem kc_43_9_k (ys : List Int32) : xk ys kc_43_9 := sx_by (xC ys) sx_m0 kc_43_9_b
def kc_43_10 : sx_K := (43, [.inl (2, .ofNat 0, .ofNat 0, 6), .inl (0, .ofNat 120, .ofNat 120, 0), .inl (2, .ofNat 0, .ofNat 0, 2), .inl (2, .ofNat 0, .ofNat 0, 25)], [], [(6, .ofNat 2, .ofNat 5), (12, .ofNat 0, .ofNat 2)], (false, false), [([.inl (0, .ofNat 0, .ofNat 0, 0)], [(0, 4, .ofNat 1, .ofNat 3, 0), (0, 5, .ofNat 0, .ofNat 800, 0)], [], []), ([.inl (0, .ofNat 1, .ofNat 1, 0)], [(0, 2, .ofNat 1, .ofNat 3, 0), (0, 3, .ofNat 1, .ofNat 800, 0)], [], [])]) -- Loader.takeSlot
def kc_43_10_u : List (Nat × sx_U) := []
theorem kc_43_10_b : sx_chk (g_P []) xT (sx_tbl []) kc_43_10 kc_43_10_u 77 = true := by decide +kernel
theorem kc_43_10_k (ys : List Int32) : xk ys kc_43_10 := sx_by (xC ys) sx_m0 kc_43_10_b
def kc_62_0 : sx_K := (62, [.inl (2, .ofNat 0, .ofNat 0, 36)], [], [(38, .ofNat 0, .ofNat 288)], (false, false), [([], [], [], [])]) -- Plate.weighByHoles
def kc_62_0_u : List (Nat × sx_U) := [(2, [.inl (2, .ofNat 0, .ofNat 0, 36), .inl (0, .ofNat 0, .ofNat 289, 0)], [], (.ofNat 289, [(.negSucc 0, .inl 1)]))]
theorem kc_62_0_b : sx_chk (g_P []) xT (sx_tbl []) kc_62_0 kc_62_0_u 22 = true := by decide +kernel
theorem kc_62_0_k (ys : List Int32) : xk ys kc_62_0 := sx_by (xC ys) sx_m0 kc_62_0_b
def kc_72_4 : sx_K := (72, [.inl (2, .ofNat 0, .ofNat 0, 37), .inl (0, .ofNat 0, .ofNat 0, 0), .inl (0, .ofNat 1, .ofNat 289, 0)], [], [], (false, false), [([.inl (0, .negSucc 2147483647, .ofNat 2147483647, 0)], [], [], [])]) -- B.sumOf
def kc_72_4_u : List (Nat × sx_U) := [(5, [.inl (2, .ofNat 0, .ofNat 0, 37), .inl (0, .ofNat 0, .ofNat 0, 0), .inl (0, .ofNat 1, .ofNat 289, 0), .inl (0, .negSucc 2147483647, .ofNat 2147483647, 0), .inl (0, .ofNat 0, .ofNat 289, 0)], [], (.ofNat 289, [(.negSucc 0, .inl 4)]))]
theorem kc_72_4_b : sx_chk (g_P []) xT (sx_tbl []) kc_72_4 kc_72_4_u 17 = true := by decide +kernel
theorem kc_72_4_k (ys : List Int32) : xk ys kc_72_4 := sx_by (xC ys) sx_m0 kc_72_4_b
def kc_72_5 : sx_K := (72, [.inl (2, .ofNat 0, .ofNat 0, 38), .inl (0, .ofNat 0, .ofNat 0, 0), .inl (0, .ofNat 1, .ofNat 289, 0)], [], [], (false, false), [([.inl (0, .negSucc 2147483647, .ofNat 2147483647, 0)], [], [], [])]) -- B.sumOf
def kc_72_5_u : List (Nat × sx_U) := [(5, [.inl (2, .ofNat 0, .ofNat 0, 38), .inl (0, .ofNat 0, .ofNat 0, 0), .inl (0, .ofNat 1, .ofNat 289, 0), .inl (0, .negSucc 2147483647, .ofNat 2147483647, 0), .inl (0, .ofNat 0, .ofNat 289, 0)], [], (.ofNat 289, [(.negSucc 0, .inl 4)]))]
theorem kc_72_5_b : sx_chk (g_P []) xT (sx_tbl []) kc_72_5 kc_72_5_u 17 = true := by decide +kernel
theorem kc_72_5_k (ys : List Int32) : xk ys kc_72_5 := sx_by (xC ys) sx_m0 kc_72_5_b
def kc_60_0 : sx_K := (60, [.inl (2, .ofNat 0, .ofNat 0, 36), .inl (0, .negSucc 2147483647, .ofNat 2147483647, 0)], [], [(36, .ofNat 4, .ofNat 6), (36, .ofNat 9, .ofNat 9), (37, .ofNat 0, .ofNat 288), (38, .ofNat 0, .ofNat 288)], (false, false), [([], [], [], [])]) -- Plate.makeRow
def kc_60_0_u : List (Nat × sx_U) := [(7, [.inl (2, .ofNat 0, .ofNat 0, 36), .inl (0, .negSucc 2147483647, .ofNat 2147483647, 0), .inl (0, .ofNat 1, .ofNat 289, 0)], [], (.ofNat 289, [(.negSucc 0, .inl 2)]))]
theorem kc_60_0_b : sx_chk (g_P []) xT (sx_tbl [kh_49_0, kc_61_0, kc_50_7, kc_62_0]) kc_60_0 kc_60_0_u 21 = true := by decide +kernel
theorem kc_60_0_k (ys : List Int32) (p_49_0 : xk ys kh_49_0) : xk ys kc_60_0 := sx_by (xC ys) (sx_m1 p_49_0 (sx_m1 (kc_61_0_k ys) (sx_m1 (kc_50_7_k ys) (sx_m1 (kc_62_0_k ys) sx_m0)))) kc_60_0_b
def kc_50_8 : sx_K := (50, [.inl (2, .ofNat 0, .ofNat 0, 38), .inl (0, .ofNat 0, .ofNat 0, 0), .inl (0, .ofNat 1, .ofNat 289, 0), .inl (0, .ofNat 0, .ofNat 0, 0)], [], [(38, .ofNat 0, .ofNat 288)], (false, false), [([], [], [], [])]) -- java/util/Arrays.fill
def kc_50_8_u : List (Nat × sx_U) := [(10, [.inl (2, .ofNat 0, .ofNat 0, 38), .inl (0, .ofNat 0, .ofNat 0, 0), .inl (0, .ofNat 1, .ofNat 289, 0), .inl (0, .ofNat 0, .ofNat 0, 0), .inl (0, .ofNat 0, .ofNat 289, 0)], [], (.ofNat 289, [(.negSucc 0, .inl 4)]))]
theorem kc_50_8_b : sx_chk (g_P []) xT (sx_tbl []) kc_50_8 kc_50_8_u 20 = true := by decide +kernel
theorem kc_50_8_k (ys : List Int32) : xk ys kc_50_8 := sx_by (xC ys) sx_m0 kc_50_8_b
def kc_67_0 : sx_K := (67, [.inl (2, .ofNat 0, .ofNat 0, 36), .inl (2, .ofNat 0, .ofNat 0, 36)], [], [(36, .ofNat 4, .ofNat 6), (36, .ofNat 9, .ofNat 9), (37, .ofNat 0, .ofNat 288), (38, .ofNat 0, .ofNat 288)], (false, false), [([], [], [], [])]) -- Plate.makeNegative
def kc_67_0_u : List (Nat × sx_U) := [(14, [.inl (2, .ofNat 0, .ofNat 0, 36), .inl (2, .ofNat 0, .ofNat 0, 36), .inl (0, .ofNat 0, .ofNat 289, 0)], [], (.ofNat 289, [(.negSucc 0, .inl 2)]))]
theorem kc_67_0_b : sx_chk (g_P []) xT (sx_tbl [kh_49_0]) kc_67_0 kc_67_0_u 29 = true := by decide +kernel
theorem kc_67_0_k (ys : List Int32) (p_49_0 : xk ys kh_49_0) : xk ys kc_67_0 := sx_by (xC ys) (sx_m1 p_49_0 sx_m0) kc_67_0_b
def kc_68_0 : sx_K := (68, [.inl (2, .ofNat 0, .ofNat 0, 36), .inl (2, .ofNat 0, .ofNat 0, 36), .inl (2, .ofNat 0, .ofNat 0, 36)], [], [(36, .ofNat 4, .ofNat 6), (36, .ofNat 9, .ofNat 9), (37, .ofNat 0, .ofNat 288), (38, .ofNat 0, .ofNat 288)], (false, false), [([], [], [], [])]) -- Plate.makeBoth
def kc_68_0_u : List (Nat × sx_U) := [(14, [.inl (2, .ofNat 0, .ofNat 0, 36), .inl (2, .ofNat 0, .ofNat 0, 36), .inl (2, .ofNat 0, .ofNat 0, 36), .inl (0, .ofNat 0, .ofNat 289, 0), .inl (3, .ofNat 0, .ofNat 0, 0), .inl (3, .ofNat 0, .ofNat 0, 0)], [], (.ofNat 289, [(.negSucc 0, .inl 3)]))]
theorem kc_68_0_b : sx_chk (g_P []) xT (sx_tbl [kh_49_0]) kc_68_0 kc_68_0_u 56 = true := by decide +kernel
theorem kc_68_0_k (ys : List Int32) (p_49_0 : xk ys kh_49_0) : xk ys kc_68_0 := sx_by (xC ys) (sx_m1 p_49_0 sx_m0) kc_68_0_b
def kc_59_0 : sx_K := (59, [.inl (2, .ofNat 0, .ofNat 0, 6), .inl (0, .negSucc 0, .ofNat 7, 0), .inl (2, .ofNat 0, .ofNat 0, 25)], [(2, 3, .ofNat 0, .ofNat 5, 0)], [(25, .ofNat 3, .ofNat 3), (36, .ofNat 4, .ofNat 9), (37, .ofNat 0, .ofNat 288), (38, .ofNat 0, .ofNat 288)], (false, false), [([], [], [], [])]) -- Loader.finishPlate
def kc_59_0_u : List (Nat × sx_U) := []
theorem kc_59_0_b : sx_chk (g_P []) xT (sx_tbl [kh_49_0, kh_63_0, kh_65_4, kh_65_5, kc_50_7, kc_62_0, kc_72_4, kc_72_5, kc_60_0, kc_50_8, kc_67_0, kc_68_0]) kc_59_0 kc_59_0_u 120 = true := by decide +kernel
theorem kc_59_0_k (ys : List Int32) (p_49_0 : xk ys kh_49_0) (p_63_0 : xk ys kh_63_0) (p_65_4 : xk ys kh_65_4) (p_65_5 : xk ys kh_65_5) : xk ys kc_59_0 := sx_by (xC ys) (sx_m1 p_49_0 (sx_m1 p_63_0 (sx_m1 p_65_4 (sx_m1 p_65_5 (sx_m1 (kc_50_7_k ys) (sx_m1 (kc_62_0_k ys) (sx_m1 (kc_72_4_k ys) (sx_m1 (kc_72_5_k ys) (sx_m1 (kc_60_0_k ys p_49_0) (sx_m1 (kc_50_8_k ys) (sx_m1 (kc_67_0_k ys p_49_0) (sx_m1 (kc_68_0_k ys p_49_0) sx_m0)))))))))))) kc_59_0_b
def kc_75_0 : sx_K := (75, [.inl (2, .ofNat 0, .ofNat 0, 6), .inl (0, .ofNat 8, .ofNat 12, 0), .inl (2, .ofNat 0, .ofNat 0, 27)], [], [(27, .ofNat 3, .ofNat 4), (28, .ofNat 3, .ofNat 3), (29, .ofNat 0, .ofNat 7), (30, .ofNat 0, .ofNat 7), (31, .ofNat 3, .ofNat 3), (32, .ofNat 0, .ofNat 11), (33, .ofNat 0, .ofNat 11)], (false, false), [([], [], [], [])]) -- Loader.finishScene
def kc_75_0_u : List (Nat × sx_U) := []
theorem kc_75_0_b : sx_chk (g_P []) xT (sx_tbl []) kc_75_0 kc_75_0_u 58 = true := by decide +kernel
theorem kc_75_0_k (ys : List Int32) : xk ys kc_75_0 := sx_by (xC ys) sx_m0 kc_75_0_b
def kc_73_0 : sx_K := (73, [.inl (2, .ofNat 0, .ofNat 0, 6), .inl (0, .ofNat 0, .ofNat 800, 0), .inl (2, .ofNat 0, .ofNat 0, 2), .inl (2, .ofNat 0, .ofNat 0, 34)], [], [(34, .ofNat 1, .ofNat 1), (35, .ofNat 0, .ofNat 811)], (false, false), [([], [], [], [])]) -- Loader.tellLine
def kc_73_0_u : List (Nat × sx_U) := [(3, [.inl (2, .ofNat 0, .ofNat 0, 6), .inl (0, .ofNat 0, .ofNat 800, 0), .inl (2, .ofNat 0, .ofNat 0, 2), .inl (2, .ofNat 0, .ofNat 0, 34), .inl (0, .ofNat 0, .ofNat 800, 0), .inl (3, .ofNat 0, .ofNat 0, 0)], [], (.ofNat 642401, [(.negSucc 801, .inl 4)])), (42, [.inl (2, .ofNat 0, .ofNat 0, 6), .inl (0, .ofNat 0, .ofNat 800, 0), .inl (2, .ofNat 0, .ofNat 0, 2), .inl (2, .ofNat 0, .ofNat 0, 34), .inl (0, .ofNat 0, .ofNat 799, 0), .inl (0, .ofNat 0, .ofNat 800, 0)], [(0, 3, .ofNat 1, .ofNat 800, 0)], (.ofNat 642400, [(.negSucc 801, .inl 4), (.negSucc 0, .inl 5)]))]
theorem kc_73_0_b : sx_chk (g_P []) xT (sx_tbl []) kc_73_0 kc_73_0_u 58 = true := by decide +kernel
theorem kc_73_0_k (ys : List Int32) : xk ys kc_73_0 := sx_by (xC ys) sx_m0 kc_73_0_b
def kc_19_0 : sx_K := (19, [.inl (2, .ofNat 0, .ofNat 0, 6), .inl (2, .ofNat 0, .ofNat 0, 2), .inl (0, .ofNat 0, .ofNat 800, 0), .inl (2, .ofNat 0, .ofNat 0, 25)], [], [(6, .ofNat 2, .ofNat 5), (7, .ofNat 4, .ofNat 4), (8, .ofNat 0, .ofNat 800), (9, .ofNat 0, .ofNat 800), (10, .ofNat 0, .ofNat 800), (11, .ofNat 0, .ofNat 800), (12, .ofNat 0, .ofNat 2), (25, .ofNat 3, .ofNat 3), (27, .ofNat 3, .ofNat 4), (28, .ofNat 3, .ofNat 3), (29, .ofNat 0, .ofNat 7), (30, .ofNat 0, .ofNat 7), (31, .ofNat 3, .ofNat 3), (32, .ofNat 0, .ofNat 11), (33, .ofNat 0, .ofNat 11), (34, .ofNat 1, .ofNat 1), (35, .ofNat 0, .ofNat 811), (36, .ofNat 3, .ofNat 9), (37, .ofNat 0, .ofNat 288), (38, .ofNat 0, .ofNat 288)], (false, false), [([.inl (0, .ofNat 0, .ofNat 1, 0)], [], [], [])]) -- Loader.read
def kc_19_0_u : List (Nat × sx_U) := [(31, [.inl (2, .ofNat 0, .ofNat 0, 6), .inl (2, .ofNat 0, .ofNat 0, 2), .inl (0, .ofNat 0, .ofNat 800, 0), .inl (2, .ofNat 0, .ofNat 0, 25), .inl (0, .ofNat 0, .ofNat 801, 0)], [], (.ofNat 801, [(.negSucc 0, .inl 4)]))]
theorem kc_19_0_b : sx_chk (g_P []) xT (sx_tbl [kh_23_0, kh_31_0]) kc_19_0 kc_19_0_u 55 = true := by decide +kernel
theorem kc_19_0_k (ys : List Int32) (p_23_0 : xk ys kh_23_0) (p_31_0 : xk ys kh_31_0) : xk ys kc_19_0 := sx_by (xC ys) (sx_m1 p_23_0 (sx_m1 p_31_0 sx_m0)) kc_19_0_b
