/-! CONTRACTS by a run (printed by wip/sx/gen90.py) -/
def kc_50_6 : sx_K := (50, [.inl (2, .ofNat 0, .ofNat 0, 47), .inl (0, .ofNat 0, .ofNat 0, 0), .inl (0, .ofNat 1, .ofNat 289, 0), .inl (0, .ofNat 0, .ofNat 0, 0)], [], [(47, .ofNat 0, .ofNat 288)], (false, false), [([], [], [], [])]) -- java/util/Arrays.fill
def kc_50_6_u : List (Nat × sx_U) := [(10, [.inl (2, .ofNat 0, .ofNat 0, 47), .inl (0, .ofNat 0, .ofNat 0, 0), .inl (0, .ofNat 1, .ofNat 289, 0), .inl (0, .ofNat 0, .ofNat 0, 0), .inl (0, .ofNat 0, .ofNat 289, 0)], [], (.ofNat 289, [(.negSucc 0, .inl 4)]))]
theorem kc_50_6_b : sx_chk (g_P []) xT (sx_tbl []) kc_50_6 kc_50_6_u 20 = true := by decide +kernel
theorem kc_50_6_k (ys : List Int32) : xk ys kc_50_6 := sx_by (xC ys) sx_m0 kc_50_6_b
def kc_176_0 : sx_K := (176, [.inl (2, .ofNat 0, .ofNat 0, 40), .inl (0, .negSucc 2147483647, .ofNat 2147483647, 0)], [], [], (false, false), [([.inl (0, .ofNat 0, .ofNat 288, 0)], [], [], [])]) -- Camera.placeOfNumber
def kc_176_0_u : List (Nat × sx_U) := [(4, [.inl (2, .ofNat 0, .ofNat 0, 40), .inl (0, .negSucc 2147483647, .ofNat 2147483647, 0), .inl (0, .negSucc 2147483647, .ofNat 2147483647, 0), .inl (0, .ofNat 0, .ofNat 288, 0)], [], (.ofNat 288, [(.negSucc 0, .inl 3)]))]
theorem kc_176_0_b : sx_chk (g_P []) xT (sx_tbl []) kc_176_0 kc_176_0_u 26 = true := by decide +kernel
theorem kc_176_0_k (ys : List Int32) : xk ys kc_176_0 := sx_by (xC ys) sx_m0 kc_176_0_b
def kc_175_0 : sx_K := (175, [.inl (2, .ofNat 0, .ofNat 0, 40), .inl (0, .negSucc 2147483647, .ofNat 2147483647, 0), .inl (0, .negSucc 2147483647, .ofNat 2147483647, 0), .inl (0, .negSucc 2147483647, .ofNat 2147483647, 0)], [], [(47, .ofNat 0, .ofNat 288)], (false, false), [([.inl (0, .negSucc 2147483647, .ofNat 2147483647, 0)], [], [], [])]) -- Camera.shoot
def kc_175_0_u : List (Nat × sx_U) := [(32, [.inl (2, .ofNat 0, .ofNat 0, 40), .inl (0, .negSucc 2147483647, .ofNat 2147483647, 0), .inl (0, .negSucc 2147483647, .ofNat 2147483647, 0), .inl (0, .ofNat 1, .ofNat 2147483647, 0), .inl (1, .negSucc 9223372036854775807, .ofNat 9223372036854775807, 0), .inr (.retAddr 0), .inl (0, .negSucc 2147483647, .ofNat 2147483647, 0), .inl (0, .ofNat 0, .ofNat 2147483647, 0), .inl (3, .ofNat 0, .ofNat 0, 0)], [], (.ofNat 2147483647, [(.negSucc 0, .inl 7)]))]
theorem kc_175_0_b : sx_chk (g_P []) xT (sx_tbl [kc_50_6, kc_176_0]) kc_175_0 kc_175_0_u 37 = true := by decide +kernel
theorem kc_175_0_k (ys : List Int32) : xk ys kc_175_0 := sx_by (xC ys) (sx_m1 (kc_50_6_k ys) (sx_m1 (kc_176_0_k ys) sx_m0)) kc_175_0_b
def kc_148_1 : sx_K := (148, [.inl (2, .ofNat 0, .ofNat 0, 40), .inl (2, .ofNat 0, .ofNat 0, 46)], [], [], (false, false), [([.inl (0, .ofNat 0, .ofNat 288, 0)], [], [], [])]) -- Camera.placeOfGreatest
def kc_148_1_u : List (Nat × sx_U) := [(4, [.inl (2, .ofNat 0, .ofNat 0, 40), .inl (2, .ofNat 0, .ofNat 0, 46), .inl (0, .ofNat 0, .ofNat 288, 0), .inl (0, .ofNat 1, .ofNat 289, 0)], [], (.ofNat 289, [(.negSucc 0, .inl 3)]))]
theorem kc_148_1_b : sx_chk (g_P []) xT (sx_tbl []) kc_148_1 kc_148_1_u 20 = true := by decide +kernel
theorem kc_148_1_k (ys : List Int32) : xk ys kc_148_1 := sx_by (xC ys) sx_m0 kc_148_1_b
def kc_174_0 : sx_K := (174, [.inl (2, .ofNat 0, .ofNat 0, 1), .inl (0, .negSucc 2147483647, .ofNat 2147483647, 0), .inl (0, .negSucc 2147483647, .ofNat 2147483647, 0), .inl (0, .negSucc 2147483647, .ofNat 2147483647, 0)], [], [(1, .ofNat 10, .ofNat 10), (40, .ofNat 12, .ofNat 12), (40, .ofNat 15, .ofNat 18), (41, .ofNat 0, .ofNat 288), (42, .ofNat 0, .ofNat 288), (43, .ofNat 0, .ofNat 288), (44, .ofNat 0, .ofNat 288), (46, .ofNat 0, .ofNat 288), (47, .ofNat 0, .ofNat 288)], (false, true), [([.inl (0, .negSucc 2147483647, .ofNat 2147483647, 0)], [(0, 10, .ofNat 0, .ofNat 5, 0)], [], [])]) -- B.shots
def kc_174_0_u : List (Nat × sx_U) := []
theorem kc_174_0_b : sx_chk (g_P []) xT (sx_tbl [kh_132_1, kc_124_0, kc_72_2, kc_175_0, kc_148_1]) kc_174_0 kc_174_0_u 131 = true := by decide +kernel
theorem kc_174_0_k (ys : List Int32) (p_93_0 : xk ys kh_93_0) (p_65_2 : xk ys kh_65_2) (p_132_1 : xk ys kh_132_1) : xk ys kc_174_0 := sx_by (xC ys) (sx_m1 p_132_1 (sx_m1 (kc_124_0_k ys p_93_0 p_65_2) (sx_m1 (kc_72_2_k ys) (sx_m1 (kc_175_0_k ys) (sx_m1 (kc_148_1_k ys) sx_m0))))) kc_174_0_b
def kc_178_0 : sx_K := (178, [.inl (2, .ofNat 0, .ofNat 0, 1), .inl (0, .negSucc 2147483647, .ofNat 2147483647, 0)], [], [(1, .ofNat 10, .ofNat 10), (36, .ofNat 9, .ofNat 11), (39, .ofNat 0, .ofNat 288), (40, .ofNat 12, .ofNat 12), (40, .ofNat 15, .ofNat 18), (41, .ofNat 0, .ofNat 288), (42, .ofNat 0, .ofNat 288), (43, .ofNat 0, .ofNat 288), (44, .ofNat 0, .ofNat 288), (45, .ofNat 0, .ofNat 288)], (false, true), [([.inl (0, .negSucc 2147483647, .ofNat 2147483647, 0)], [(0, 10, .ofNat 0, .ofNat 5, 0)], [], [])]) -- B.best
def kc_178_0_u : List (Nat × sx_U) := [(22, [.inl (2, .ofNat 0, .ofNat 0, 1), .inl (0, .ofNat 0, .ofNat 1, 0), .inl (0, .negSucc 0, .ofNat 7, 0), .inl (0, .negSucc 2147483647, .ofNat 2147483647, 0), .inl (0, .ofNat 0, .ofNat 6, 0), .inl (3, .ofNat 0, .ofNat 0, 0), .inl (3, .ofNat 0, .ofNat 0, 0)], [], (.ofNat 6, [(.negSucc 0, .inl 4)]))]
theorem kc_178_0_b : sx_chk (g_P []) xT (sx_tbl [kh_132_0, kc_86_0, kc_87_0, kc_88_0, kc_124_0, kc_72_1, kc_142_0]) kc_178_0 kc_178_0_u 155 = true := by decide +kernel
theorem kc_178_0_k (ys : List Int32) (p_93_0 : xk ys kh_93_0) (p_65_0 : xk ys kh_65_0) (p_65_2 : xk ys kh_65_2) (p_132_0 : xk ys kh_132_0) : xk ys kc_178_0 := sx_by (xC ys) (sx_m1 p_132_0 (sx_m1 (kc_86_0_k ys p_65_0) (sx_m1 (kc_87_0_k ys) (sx_m1 (kc_88_0_k ys) (sx_m1 (kc_124_0_k ys p_93_0 p_65_2) (sx_m1 (kc_72_1_k ys) (sx_m1 (kc_142_0_k ys) sx_m0))))))) kc_178_0_b
def kc_179_0 : sx_K := (179, [.inl (2, .ofNat 0, .ofNat 0, 1), .inl (0, .negSucc 2147483647, .ofNat 2147483647, 0)], [], [(1, .ofNat 10, .ofNat 10), (36, .ofNat 9, .ofNat 11), (39, .ofNat 0, .ofNat 288), (40, .ofNat 10, .ofNat 12), (40, .ofNat 15, .ofNat 18), (41, .ofNat 0, .ofNat 288), (42, .ofNat 0, .ofNat 288), (43, .ofNat 0, .ofNat 288), (44, .ofNat 0, .ofNat 288), (45, .ofNat 0, .ofNat 288), (46, .ofNat 0, .ofNat 288)], (false, true), [([.inl (0, .negSucc 2147483647, .ofNat 2147483647, 0)], [(0, 10, .ofNat 0, .ofNat 5, 0)], [], [])]) -- B.worst
def kc_179_0_u : List (Nat × sx_U) := []
theorem kc_179_0_b : sx_chk (g_P []) xT (sx_tbl [kh_180_0, kc_86_0, kc_87_0, kc_88_0, kc_124_0]) kc_179_0 kc_179_0_u 146 = true := by decide +kernel
theorem kc_179_0_k (ys : List Int32) (p_93_0 : xk ys kh_93_0) (p_180_0 : xk ys kh_180_0) (p_65_0 : xk ys kh_65_0) (p_65_2 : xk ys kh_65_2) : xk ys kc_179_0 := sx_by (xC ys) (sx_m1 p_180_0 (sx_m1 (kc_86_0_k ys p_65_0) (sx_m1 (kc_87_0_k ys) (sx_m1 (kc_88_0_k ys) (sx_m1 (kc_124_0_k ys p_93_0 p_65_2) sx_m0))))) kc_179_0_b
def kc_182_0 : sx_K := (182, [.inl (2, .ofNat 0, .ofNat 0, 4), .inl (2, .ofNat 0, .ofNat 0, 34)], [], [(4, .ofNat 1, .ofNat 1), (5, .ofNat 0, .ofNat 1321)], (false, false), [([], [], [], [])]) -- Paper.putAll
def kc_182_0_u : List (Nat × sx_U) := [(2, [.inl (2, .ofNat 0, .ofNat 0, 4), .inl (2, .ofNat 0, .ofNat 0, 34), .inl (0, .ofNat 0, .ofNat 812, 0)], [], (.ofNat 812, [(.negSucc 0, .inl 2)]))]
theorem kc_182_0_b : sx_chk (g_P []) xT (sx_tbl []) kc_182_0 kc_182_0_u 35 = true := by decide +kernel
theorem kc_182_0_k (ys : List Int32) : xk ys kc_182_0 := sx_by (xC ys) sx_m0 kc_182_0_b
def kc_184_0 : sx_K := (184, [.inl (2, .ofNat 0, .ofNat 0, 4), .inr (.ref 100011)], [], [(4, .ofNat 1, .ofNat 1), (5, .ofNat 0, .ofNat 1321)], (false, false), [([], [(0, 1, .ofNat 6, .ofNat 1322, 0)], [], [])]) -- Paper.putWord
def kc_184_0_u : List (Nat × sx_U) := []
theorem kc_184_0_b : sx_chk (g_P []) xT (sx_tbl []) kc_184_0 kc_184_0_u 227 = true := by decide +kernel
theorem kc_184_0_k (ys : List Int32) : xk ys kc_184_0 := sx_by (xC ys) sx_m0 kc_184_0_b
def kc_185_0 : sx_K := (185, [.inl (2, .ofNat 0, .ofNat 0, 4), .inl (0, .negSucc 2147483647, .ofNat 2147483647, 0)], [], [(4, .ofNat 1, .ofNat 1), (5, .ofNat 0, .ofNat 1321)], (false, false), [([], [(0, 1, .ofNat 1, .ofNat 1322, 0)], [], [])]) -- Paper.putNumber
def kc_185_0_u : List (Nat × sx_U) := []
theorem kc_185_0_b : sx_chk (g_P []) xT (sx_tbl []) kc_185_0 kc_185_0_u 227 = true := by decide +kernel
theorem kc_185_0_k (ys : List Int32) : xk ys kc_185_0 := sx_by (xC ys) sx_m0 kc_185_0_b
def kc_183_0 : sx_K := (183, [.inl (2, .ofNat 0, .ofNat 0, 1), .inr (.ref 100011), .inl (2, .ofNat 0, .ofNat 0, 28), .inl (0, .negSucc 2147483647, .ofNat 2147483647, 0)], [], [(4, .ofNat 1, .ofNat 1), (5, .ofNat 0, .ofNat 1321)], (false, false), [([], [], [], [])]) -- B.printMarks
def kc_183_0_u : List (Nat × sx_U) := [(3, [.inl (2, .ofNat 0, .ofNat 0, 1), .inr (.ref 100011), .inl (2, .ofNat 0, .ofNat 0, 28), .inl (0, .negSucc 2147483647, .ofNat 2147483647, 0), .inl (0, .ofNat 0, .ofNat 8, 0)], [], (.ofNat 8, [(.negSucc 0, .inl 4)]))]
theorem kc_183_0_b : sx_chk (g_P []) xT (sx_tbl [kc_184_0, kc_185_0]) kc_183_0 kc_183_0_u 60 = true := by decide +kernel
theorem kc_183_0_k (ys : List Int32) : xk ys kc_183_0 := sx_by (xC ys) (sx_m1 (kc_184_0_k ys) (sx_m1 (kc_185_0_k ys) sx_m0)) kc_183_0_b
def kc_184_1 : sx_K := (184, [.inl (2, .ofNat 0, .ofNat 0, 4), .inr (.ref 100012)], [], [(4, .ofNat 1, .ofNat 1), (5, .ofNat 0, .ofNat 1321)], (false, false), [([], [(0, 1, .ofNat 4, .ofNat 1322, 0)], [], [])]) -- Paper.putWord
def kc_184_1_u : List (Nat × sx_U) := []
theorem kc_184_1_b : sx_chk (g_P []) xT (sx_tbl []) kc_184_1 kc_184_1_u 167 = true := by decide +kernel
theorem kc_184_1_k (ys : List Int32) : xk ys kc_184_1 := sx_by (xC ys) sx_m0 kc_184_1_b
def kc_183_1 : sx_K := (183, [.inl (2, .ofNat 0, .ofNat 0, 1), .inr (.ref 100012), .inl (2, .ofNat 0, .ofNat 0, 31), .inl (0, .negSucc 2147483647, .ofNat 2147483647, 0)], [], [(4, .ofNat 1, .ofNat 1), (5, .ofNat 0, .ofNat 1321)], (false, false), [([], [], [], [])]) -- B.printMarks
def kc_183_1_u : List (Nat × sx_U) := [(3, [.inl (2, .ofNat 0, .ofNat 0, 1), .inr (.ref 100012), .inl (2, .ofNat 0, .ofNat 0, 31), .inl (0, .negSucc 2147483647, .ofNat 2147483647, 0), .inl (0, .ofNat 0, .ofNat 12, 0)], [], (.ofNat 12, [(.negSucc 0, .inl 4)]))]
theorem kc_183_1_b : sx_chk (g_P []) xT (sx_tbl [kc_185_0, kc_184_1]) kc_183_1 kc_183_1_u 60 = true := by decide +kernel
theorem kc_183_1_k (ys : List Int32) : xk ys kc_183_1 := sx_by (xC ys) (sx_m1 (kc_185_0_k ys) (sx_m1 (kc_184_1_k ys) sx_m0)) kc_183_1_b
def kc_184_2 : sx_K := (184, [.inl (2, .ofNat 0, .ofNat 0, 4), .inr (.ref 100013)], [], [(4, .ofNat 1, .ofNat 1), (5, .ofNat 0, .ofNat 1321)], (false, false), [([], [(0, 1, .ofNat 5, .ofNat 1322, 0)], [], [])]) -- Paper.putWord
def kc_184_2_u : List (Nat × sx_U) := []
theorem kc_184_2_b : sx_chk (g_P []) xT (sx_tbl []) kc_184_2 kc_184_2_u 197 = true := by decide +kernel
theorem kc_184_2_k (ys : List Int32) : xk ys kc_184_2 := sx_by (xC ys) sx_m0 kc_184_2_b
def kc_183_2 : sx_K := (183, [.inl (2, .ofNat 0, .ofNat 0, 1), .inr (.ref 100013), .inl (2, .ofNat 0, .ofNat 0, 28), .inl (0, .negSucc 2147483647, .ofNat 2147483647, 0)], [], [(4, .ofNat 1, .ofNat 1), (5, .ofNat 0, .ofNat 1321)], (false, false), [([], [], [], [])]) -- B.printMarks
def kc_183_2_u : List (Nat × sx_U) := [(3, [.inl (2, .ofNat 0, .ofNat 0, 1), .inr (.ref 100013), .inl (2, .ofNat 0, .ofNat 0, 28), .inl (0, .negSucc 2147483647, .ofNat 2147483647, 0), .inl (0, .ofNat 0, .ofNat 8, 0)], [], (.ofNat 8, [(.negSucc 0, .inl 4)]))]
theorem kc_183_2_b : sx_chk (g_P []) xT (sx_tbl [kc_185_0, kc_184_2]) kc_183_2 kc_183_2_u 60 = true := by decide +kernel
theorem kc_183_2_k (ys : List Int32) : xk ys kc_183_2 := sx_by (xC ys) (sx_m1 (kc_185_0_k ys) (sx_m1 (kc_184_2_k ys) sx_m0)) kc_183_2_b
def kc_184_3 : sx_K := (184, [.inl (2, .ofNat 0, .ofNat 0, 4), .inr (.ref 100014)], [], [(4, .ofNat 1, .ofNat 1), (5, .ofNat 0, .ofNat 1321)], (false, false), [([], [(0, 1, .ofNat 4, .ofNat 1322, 0)], [], [])]) -- Paper.putWord
def kc_184_3_u : List (Nat × sx_U) := []
theorem kc_184_3_b : sx_chk (g_P []) xT (sx_tbl []) kc_184_3 kc_184_3_u 167 = true := by decide +kernel
theorem kc_184_3_k (ys : List Int32) : xk ys kc_184_3 := sx_by (xC ys) sx_m0 kc_184_3_b
def kc_184_4 : sx_K := (184, [.inl (2, .ofNat 0, .ofNat 0, 4), .inr (.ref 100015)], [], [(4, .ofNat 1, .ofNat 1), (5, .ofNat 0, .ofNat 1321)], (false, false), [([], [(0, 1, .ofNat 3, .ofNat 1322, 0)], [], [])]) -- Paper.putWord
def kc_184_4_u : List (Nat × sx_U) := []
theorem kc_184_4_b : sx_chk (g_P []) xT (sx_tbl []) kc_184_4 kc_184_4_u 137 = true := by decide +kernel
theorem kc_184_4_k (ys : List Int32) : xk ys kc_184_4 := sx_by (xC ys) sx_m0 kc_184_4_b
def kc_186_0 : sx_K := (186, [.inl (2, .ofNat 0, .ofNat 0, 4), .inl (0, .negSucc 2147483647, .ofNat 2147483647, 0)], [], [(4, .ofNat 1, .ofNat 1), (5, .ofNat 0, .ofNat 1321)], (false, false), [([], [], [], [])]) -- Paper.putName
def kc_186_0_u : List (Nat × sx_U) := []
theorem kc_186_0_b : sx_chk (g_P []) xT (sx_tbl []) kc_186_0 kc_186_0_u 273 = true := by decide +kernel
theorem kc_186_0_k (ys : List Int32) : xk ys kc_186_0 := sx_by (xC ys) sx_m0 kc_186_0_b
def kc_181_0 : sx_K := (181, [.inl (2, .ofNat 0, .ofNat 0, 1)], [], [(1, .ofNat 10, .ofNat 10), (4, .ofNat 1, .ofNat 1), (5, .ofNat 0, .ofNat 1321)], (false, false), [([.inl (0, .ofNat 1, .ofNat 1322, 0)], [(0, 10, .ofNat 0, .ofNat 0, 0)], [], [])]) -- B.print
def kc_181_0_u : List (Nat × sx_U) := []
theorem kc_181_0_b : sx_chk (g_P []) xT (sx_tbl [kc_182_0, kc_185_0, kc_183_0, kc_183_1, kc_183_2, kc_184_3, kc_184_4, kc_186_0]) kc_181_0 kc_181_0_u 141 = true := by decide +kernel
theorem kc_181_0_k (ys : List Int32) : xk ys kc_181_0 := sx_by (xC ys) (sx_m1 (kc_182_0_k ys) (sx_m1 (kc_185_0_k ys) (sx_m1 (kc_183_0_k ys) (sx_m1 (kc_183_1_k ys) (sx_m1 (kc_183_2_k ys) (sx_m1 (kc_184_3_k ys) (sx_m1 (kc_184_4_k ys) (sx_m1 (kc_186_0_k ys) sx_m0)))))))) kc_181_0_b
def kc_187_0 : sx_K := (187, [.inl (2, .ofNat 0, .ofNat 0, 1), .inl (0, .negSucc 2147483647, .ofNat 2147483647, 0)], [], [(1, .ofNat 10, .ofNat 10)], (false, false), [([.inl (0, .negSucc 2147483647, .ofNat 2147483647, 0)], [(0, 10, .ofNat 0, .ofNat 5, 0)], [], [])]) -- B.out
def kc_187_0_u : List (Nat × sx_U) := []
theorem kc_187_0_b : sx_chk (g_P []) xT (sx_tbl []) kc_187_0 kc_187_0_u 23 = true := by decide +kernel
theorem kc_187_0_k (ys : List Int32) : xk ys kc_187_0 := sx_by (xC ys) sx_m0 kc_187_0_b
def kc_189_0 : sx_K := (189, [.inl (2, .ofNat 0, .ofNat 0, 50)], [], [(50, .ofNat 1, .ofNat 1)], (false, false), [([.inl (0, .ofNat 0, .ofNat 9, 0)], [], [], [])]) -- M.status
def kc_189_0_u : List (Nat × sx_U) := []
theorem kc_189_0_b : sx_chk (g_P []) xT (sx_tbl []) kc_189_0 kc_189_0_u 9 = true := by decide +kernel
theorem kc_189_0_k (ys : List Int32) : xk ys kc_189_0 := sx_by (xC ys) sx_m0 kc_189_0_b
def kc_190_0 : sx_K := (190, [.inl (2, .ofNat 0, .ofNat 0, 50), .inl (0, .negSucc 2147483647, .ofNat 2147483647, 0)], [], [(50, .ofNat 0, .ofNat 1)], (false, false), [([.inl (0, .negSucc 0, .ofNat 99, 0)], [(0, 0, .ofNat 0, .ofNat 5, 0)], [], [])]) -- M.many
def kc_190_0_u : List (Nat × sx_U) := []
theorem kc_190_0_b : sx_chk (g_P []) xT (sx_tbl []) kc_190_0 kc_190_0_u 48 = true := by decide +kernel
theorem kc_190_0_k (ys : List Int32) : xk ys kc_190_0 := sx_by (xC ys) sx_m0 kc_190_0_b
def kc_205_0 : sx_K := (205, [.inl (2, .ofNat 0, .ofNat 0, 50), .inl (0, .ofNat 0, .ofNat 5, 1)], [], [], (false, false), [([.inl (0, .negSucc 2147483647, .ofNat 2147483647, 0)], [], [], [])]) -- M.weightsOf
def kc_205_0_u : List (Nat × sx_U) := [(4, [.inl (2, .ofNat 0, .ofNat 0, 50), .inl (0, .ofNat 0, .ofNat 5, 1), .inl (0, .negSucc 2147483647, .ofNat 2147483647, 0), .inl (0, .ofNat 0, .ofNat 289, 0)], [], (.ofNat 289, [(.negSucc 0, .inl 3)]))]
theorem kc_205_0_b : sx_chk (g_P []) xT (sx_tbl [kh_195_0]) kc_205_0 kc_205_0_u 22 = true := by decide +kernel
theorem kc_205_0_k (ys : List Int32) (p_195_0 : xk ys kh_195_0) : xk ys kc_205_0 := sx_by (xC ys) (sx_m1 p_195_0 sx_m0) kc_205_0_b
def kc_193_0 : sx_K := (193, [.inl (2, .ofNat 0, .ofNat 0, 50), .inl (0, .negSucc 2147483647, .ofNat 2147483647, 0), .inl (0, .negSucc 2147483647, .ofNat 2147483647, 0)], [], [(50, .ofNat 0, .ofNat 1), (66, .ofNat 0, .ofNat 5), (67, .ofNat 0, .ofNat 5), (68, .ofNat 0, .ofNat 5), (69, .ofNat 0, .ofNat 5)], (false, false), [([.inl (0, .negSucc 2147483647, .ofNat 2147483647, 0)], [(0, 0, .ofNat 0, .ofNat 5, 0)], [], [])]) -- M.plate
def kc_193_0_u : List (Nat × sx_U) := []
theorem kc_193_0_b : sx_chk (g_P []) xT (sx_tbl [kh_196_0, kh_197_0, kh_195_0, kh_194_0, kh_204_2, kh_198_0, kc_205_0]) kc_193_0 kc_193_0_u 74 = true := by decide +kernel
theorem kc_193_0_k (ys : List Int32) (p_196_0 : xk ys kh_196_0) (p_197_0 : xk ys kh_197_0) (p_195_0 : xk ys kh_195_0) (p_194_0 : xk ys kh_194_0) (p_204_2 : xk ys kh_204_2) (p_198_0 : xk ys kh_198_0) : xk ys kc_193_0 := sx_by (xC ys) (sx_m1 p_196_0 (sx_m1 p_197_0 (sx_m1 p_195_0 (sx_m1 p_194_0 (sx_m1 p_204_2 (sx_m1 p_198_0 (sx_m1 (kc_205_0_k ys p_195_0) sx_m0))))))) kc_193_0_b
def kc_199_0 : sx_K := (199, [.inl (2, .ofNat 0, .ofNat 0, 50), .inl (0, .ofNat 0, .ofNat 5, 1), .inl (0, .ofNat 0, .ofNat 288, 0), .inl (0, .ofNat 0, .ofNat 288, 0)], [], [], (false, false), [([.inl (0, .negSucc 2147483647, .ofNat 2147483647, 0)], [], [], [])]) -- M.sideOf
def kc_199_0_u : List (Nat × sx_U) := [(6, [.inl (2, .ofNat 0, .ofNat 0, 50), .inl (0, .ofNat 0, .ofNat 5, 1), .inl (0, .ofNat 0, .ofNat 288, 0), .inl (0, .ofNat 0, .ofNat 288, 0), .inl (0, .negSucc 2147483647, .ofNat 2147483647, 0), .inl (0, .ofNat 0, .ofNat 289, 0), .inl (3, .ofNat 0, .ofNat 0, 0)], [], (.ofNat 84389, [(.negSucc 290, .inl 5)])), (19, [.inl (2, .ofNat 0, .ofNat 0, 50), .inl (0, .ofNat 0, .ofNat 5, 1), .inl (0, .ofNat 0, .ofNat 288, 0), .inl (0, .ofNat 0, .ofNat 288, 0), .inl (0, .negSucc 2147483647, .ofNat 2147483647, 0), .inl (0, .ofNat 0, .ofNat 288, 0), .inl (0, .ofNat 0, .ofNat 289, 0)], [], (.ofNat 84388, [(.negSucc 290, .inl 5), (.negSucc 0, .inl 6)]))]
theorem kc_199_0_b : sx_chk (g_P []) xT (sx_tbl [kh_196_0, kh_197_0, kh_201_0]) kc_199_0 kc_199_0_u 52 = true := by decide +kernel
theorem kc_199_0_k (ys : List Int32) (p_196_0 : xk ys kh_196_0) (p_197_0 : xk ys kh_197_0) (p_201_0 : xk ys kh_201_0) : xk ys kc_199_0 := sx_by (xC ys) (sx_m1 p_196_0 (sx_m1 p_197_0 (sx_m1 p_201_0 sx_m0))) kc_199_0_b
def kc_207_0 : sx_K := (207, [.inl (2, .ofNat 0, .ofNat 0, 50), .inl (0, .negSucc 2147483647, .ofNat 2147483647, 0), .inl (0, .negSucc 2147483647, .ofNat 2147483647, 0), .inl (0, .negSucc 2147483647, .ofNat 2147483647, 0), .inl (0, .negSucc 2147483647, .ofNat 2147483647, 0)], [], [(50, .ofNat 0, .ofNat 1)], (false, false), [([.inl (0, .negSucc 2147483647, .ofNat 2147483647, 0)], [(0, 0, .ofNat 0, .ofNat 2, 0)], [], [])]) -- M.cell
def kc_207_0_u : List (Nat × sx_U) := []
theorem kc_207_0_b : sx_chk (g_P []) xT (sx_tbl [kh_196_0, kh_197_0, kh_201_0, kh_194_0, kc_199_0]) kc_207_0 kc_207_0_u 114 = true := by decide +kernel
theorem kc_207_0_k (ys : List Int32) (p_196_0 : xk ys kh_196_0) (p_197_0 : xk ys kh_197_0) (p_201_0 : xk ys kh_201_0) (p_194_0 : xk ys kh_194_0) : xk ys kc_207_0 := sx_by (xC ys) (sx_m1 p_196_0 (sx_m1 p_197_0 (sx_m1 p_201_0 (sx_m1 p_194_0 (sx_m1 (kc_199_0_k ys p_196_0 p_197_0 p_201_0) sx_m0))))) kc_207_0_b
def kc_210_0 : sx_K := (210, [.inl (2, .ofNat 0, .ofNat 0, 50), .inl (0, .ofNat 0, .ofNat 5, 1), .inl (0, .ofNat 0, .ofNat 5, 1), .inl (0, .ofNat 0, .ofNat 0, 0), .inl (0, .ofNat 0, .ofNat 0, 0)], [], [], (false, false), [([.inl (0, .ofNat 0, .ofNat 1, 0)], [], [], [])]) -- M.areAlike
def kc_210_0_u : List (Nat × sx_U) := [(3, [.inl (2, .ofNat 0, .ofNat 0, 50), .inl (0, .ofNat 0, .ofNat 5, 1), .inl (0, .ofNat 0, .ofNat 5, 1), .inl (0, .ofNat 0, .ofNat 0, 0), .inl (0, .ofNat 0, .ofNat 0, 0), .inl (0, .ofNat 0, .ofNat 289, 0), .inl (3, .ofNat 0, .ofNat 0, 0)], [], (.ofNat 84389, [(.negSucc 290, .inl 5)])), (16, [.inl (2, .ofNat 0, .ofNat 0, 50), .inl (0, .ofNat 0, .ofNat 5, 1), .inl (0, .ofNat 0, .ofNat 5, 1), .inl (0, .ofNat 0, .ofNat 0, 0), .inl (0, .ofNat 0, .ofNat 0, 0), .inl (0, .ofNat 0, .ofNat 288, 0), .inl (0, .ofNat 0, .ofNat 289, 0)], [], (.ofNat 84388, [(.negSucc 290, .inl 5), (.negSucc 0, .inl 6)]))]
theorem kc_210_0_b : sx_chk (g_P []) xT (sx_tbl [kh_196_0, kh_197_0, kh_201_0]) kc_210_0 kc_210_0_u 52 = true := by decide +kernel
theorem kc_210_0_k (ys : List Int32) (p_196_0 : xk ys kh_196_0) (p_197_0 : xk ys kh_197_0) (p_201_0 : xk ys kh_201_0) : xk ys kc_210_0 := sx_by (xC ys) (sx_m1 p_196_0 (sx_m1 p_197_0 (sx_m1 p_201_0 sx_m0))) kc_210_0_b
def kc_210_1 : sx_K := (210, [.inl (2, .ofNat 0, .ofNat 0, 50), .inl (0, .ofNat 0, .ofNat 5, 1), .inl (0, .ofNat 0, .ofNat 5, 1), .inl (0, .ofNat 0, .ofNat 1, 0), .inl (0, .ofNat 0, .ofNat 0, 0)], [], [], (false, false), [([.inl (0, .ofNat 0, .ofNat 1, 0)], [], [], [])]) -- M.areAlike
def kc_210_1_u : List (Nat × sx_U) := [(3, [.inl (2, .ofNat 0, .ofNat 0, 50), .inl (0, .ofNat 0, .ofNat 5, 1), .inl (0, .ofNat 0, .ofNat 5, 1), .inl (0, .ofNat 0, .ofNat 1, 0), .inl (0, .ofNat 0, .ofNat 0, 0), .inl (0, .ofNat 0, .ofNat 289, 0), .inl (3, .ofNat 0, .ofNat 0, 0)], [], (.ofNat 84389, [(.negSucc 290, .inl 5)])), (16, [.inl (2, .ofNat 0, .ofNat 0, 50), .inl (0, .ofNat 0, .ofNat 5, 1), .inl (0, .ofNat 0, .ofNat 5, 1), .inl (0, .ofNat 0, .ofNat 1, 0), .inl (0, .ofNat 0, .ofNat 0, 0), .inl (0, .ofNat 0, .ofNat 288, 0), .inl (0, .ofNat 0, .ofNat 289, 0)], [], (.ofNat 84388, [(.negSucc 290, .inl 5), (.negSucc 0, .inl 6)]))]
theorem kc_210_1_b : sx_chk (g_P []) xT (sx_tbl [kh_196_0, kh_197_0, kh_201_0]) kc_210_1 kc_210_1_u 52 = true := by decide +kernel
theorem kc_210_1_k (ys : List Int32) (p_196_0 : xk ys kh_196_0) (p_197_0 : xk ys kh_197_0) (p_201_0 : xk ys kh_201_0) : xk ys kc_210_1 := sx_by (xC ys) (sx_m1 p_196_0 (sx_m1 p_197_0 (sx_m1 p_201_0 sx_m0))) kc_210_1_b
def kc_210_2 : sx_K := (210, [.inl (2, .ofNat 0, .ofNat 0, 50), .inl (0, .ofNat 0, .ofNat 5, 1), .inl (0, .ofNat 0, .ofNat 5, 1), .inl (0, .ofNat 0, .ofNat 2, 0), .inl (0, .ofNat 0, .ofNat 1, 0)], [], [], (false, false), [([.inl (0, .ofNat 0, .ofNat 1, 0)], [], [], [])]) -- M.areAlike
def kc_210_2_u : List (Nat × sx_U) := [(3, [.inl (2, .ofNat 0, .ofNat 0, 50), .inl (0, .ofNat 0, .ofNat 5, 1), .inl (0, .ofNat 0, .ofNat 5, 1), .inl (0, .ofNat 0, .ofNat 2, 0), .inl (0, .ofNat 0, .ofNat 1, 0), .inl (0, .ofNat 0, .ofNat 289, 0), .inl (3, .ofNat 0, .ofNat 0, 0)], [], (.ofNat 84389, [(.negSucc 290, .inl 5)])), (16, [.inl (2, .ofNat 0, .ofNat 0, 50), .inl (0, .ofNat 0, .ofNat 5, 1), .inl (0, .ofNat 0, .ofNat 5, 1), .inl (0, .ofNat 0, .ofNat 2, 0), .inl (0, .ofNat 0, .ofNat 1, 0), .inl (0, .ofNat 0, .ofNat 288, 0), .inl (0, .ofNat 0, .ofNat 289, 0)], [], (.ofNat 84388, [(.negSucc 290, .inl 5), (.negSucc 0, .inl 6)]))]
theorem kc_210_2_b : sx_chk (g_P []) xT (sx_tbl [kh_196_0, kh_197_0, kh_201_0]) kc_210_2 kc_210_2_u 52 = true := by decide +kernel
theorem kc_210_2_k (ys : List Int32) (p_196_0 : xk ys kh_196_0) (p_197_0 : xk ys kh_197_0) (p_201_0 : xk ys kh_201_0) : xk ys kc_210_2 := sx_by (xC ys) (sx_m1 p_196_0 (sx_m1 p_197_0 (sx_m1 p_201_0 sx_m0))) kc_210_2_b
def kc_210_3 : sx_K := (210, [.inl (2, .ofNat 0, .ofNat 0, 50), .inl (0, .ofNat 0, .ofNat 5, 1), .inl (0, .ofNat 0, .ofNat 5, 1), .inl (0, .ofNat 0, .ofNat 7, 0), .inl (0, .ofNat 0, .ofNat 2, 0)], [], [], (false, false), [([.inl (0, .ofNat 0, .ofNat 1, 0)], [], [], [])]) -- M.areAlike
def kc_210_3_u : List (Nat × sx_U) := [(3, [.inl (2, .ofNat 0, .ofNat 0, 50), .inl (0, .ofNat 0, .ofNat 5, 1), .inl (0, .ofNat 0, .ofNat 5, 1), .inl (0, .ofNat 0, .ofNat 7, 0), .inl (0, .ofNat 0, .ofNat 2, 0), .inl (0, .ofNat 0, .ofNat 289, 0), .inl (3, .ofNat 0, .ofNat 0, 0)], [], (.ofNat 84389, [(.negSucc 290, .inl 5)])), (16, [.inl (2, .ofNat 0, .ofNat 0, 50), .inl (0, .ofNat 0, .ofNat 5, 1), .inl (0, .ofNat 0, .ofNat 5, 1), .inl (0, .ofNat 0, .ofNat 7, 0), .inl (0, .ofNat 0, .ofNat 2, 0), .inl (0, .ofNat 0, .ofNat 288, 0), .inl (0, .ofNat 0, .ofNat 289, 0)], [], (.ofNat 84388, [(.negSucc 290, .inl 5), (.negSucc 0, .inl 6)]))]
theorem kc_210_3_b : sx_chk (g_P []) xT (sx_tbl [kh_196_0, kh_197_0, kh_201_0]) kc_210_3 kc_210_3_u 52 = true := by decide +kernel
theorem kc_210_3_k (ys : List Int32) (p_196_0 : xk ys kh_196_0) (p_197_0 : xk ys kh_197_0) (p_201_0 : xk ys kh_201_0) : xk ys kc_210_3 := sx_by (xC ys) (sx_m1 p_196_0 (sx_m1 p_197_0 (sx_m1 p_201_0 sx_m0))) kc_210_3_b
