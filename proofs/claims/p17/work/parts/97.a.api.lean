/-! EVERY CALL BY CONTRACT (printed by wip/sx/gen97.py) -/
section KB
variable {ys : List Int32} {h h' : pm_H} {vs v : List Value}
theorem out_1 {lo hi : Int} {F : List sx_F} {A : List (Nat × Int × Int × Nat)} {D : List (Nat × Nat × Int × Int)} (q : ∃ o, o ∈ [([.inl (0, lo, hi, 0)], F, A, D)] ∧ sx_po xtg xVP h h' vs v o) : ∃ x : Int32, v = [.int x] := by
  obtain ⟨o, ho, po⟩ := q
  rcases List.mem_cons.mp ho with rfl | ho
  · obtain ⟨_, c1, rfl, ⟨x, rfl, _⟩, va1⟩ := vas_c po.1
    cases vas_n va1
    exact ⟨x, rfl⟩
  · cases ho
theorem out_l {lo hi : Int} {F : List sx_F} {A : List (Nat × Int × Int × Nat)} {D : List (Nat × Nat × Int × Int)} (q : ∃ o, o ∈ [([.inl (1, lo, hi, 0)], F, A, D)] ∧ sx_po xtg xVP h h' vs v o) : ∃ x : Int64, v = [.long x] := by
  obtain ⟨o, ho, po⟩ := q
  rcases List.mem_cons.mp ho with rfl | ho
  · obtain ⟨_, c1, rfl, ⟨x, rfl, _⟩, va1⟩ := vas_c po.1
    cases vas_n va1
    exact ⟨x, rfl⟩
  · cases ho
theorem out_up {vs' : List Value} {lo hi : Int} {F : List sx_F} {A : List (Nat × Int × Int × Nat)} {D : List (Nat × Nat × Int × Int)} (q : ∃ o, o ∈ [([.inl (0, lo, hi, 0)], F, A, D)] ∧ sx_po xtg xVP h h' vs v o) : ∃ o, o ∈ [(([.inl (0, .negSucc 2147483647, .ofNat 2147483647, 0)], [], [], []) : sx_O)] ∧ sx_po xtg xVP h h' vs' v o := by
  obtain ⟨x, rfl⟩ := out_1 q
  exact ⟨_, List.mem_cons_self, po_f⟩
theorem va_i {lo hi : Int} {x : Int32} (h1 : lo ≤ x.toInt) (h2 : x.toInt ≤ hi) : sx_va xtg xVP h (.inl (0, lo, hi, 0)) (.int x) := ⟨x, rfl, h1, h2, Or.inl rfl⟩

theorem ap_13 : xk ys kc_13_0 := (kc_13_0_k ys) -- B.status
theorem ap_14 : xk ys kc_14_0 := (kc_14_0_k ys) -- B.feed
theorem ap_17 : xk ys kh_17_0 := k_cLoad -- B.load
theorem ap_81 : xk ys kc_81_0 := (kc_81_0_k ys) -- B.fault
theorem ap_82 : xk ys kc_82_0 := (kc_82_0_k ys) -- B.many
theorem ap_83 : xk ys kc_83_0 := (kc_83_0_k ys (k_addShifted (by decide) (by decide) rfl rfl)) -- B.plate
theorem ap_89 : xk ys kh_89_0 := k_cell -- B.cell
theorem ap_90 : xk ys kc_90_0 := (kc_90_0_k ys (k_addShifted (by decide) (by decide) rfl rfl)) -- B.differences
theorem ap_92 : xk ys kc_92_0 := (kc_92_0_k ys k_cIndexOf) -- B.window
theorem ap_94 : xk ys kc_94_0 := (kc_94_0_k ys k_cIndexOf) -- B.alike
theorem ap_97 : xk ys kc_97_0 := (kc_97_0_k ys) -- B.root
theorem ap_98 : xk ys kc_98_0 := (kc_98_0_k ys) -- B.thing
theorem ap_101 : xk ys kc_101_0 := (kc_101_0_k ys) -- B.add
theorem ap_108 : xk ys kc_108_0 := (kc_108_0_k ys) -- B.drop
theorem ap_111 : xk ys kc_111_0 := (kc_111_0_k ys) -- B.lose
theorem ap_113 : xk ys kc_113_0 := (kc_113_0_k ys) -- B.heal
theorem ap_114 : xk ys kc_114_0 := (kc_114_0_k ys) -- B.light
theorem ap_115 : xk ys kc_115_0 := (kc_115_0_k ys) -- B.use
theorem ap_116 : xk ys kc_116_0 := (kc_116_0_k ys) -- B.slide
theorem ap_118 : xk ys kc_118_0 := (kc_118_0_k ys) -- B.undo
theorem ap_120 : xk ys kc_120_0 := (kc_120_0_k ys k_cIndexOf (k_addShifted (by decide) (by decide) rfl rfl) (k_addShifted (by decide) (by decide) rfl rfl) (k_decodeAll (by decide) (by decide) rfl rfl) (k_decodeAll (by decide) (by decide) rfl rfl)) -- B.at
theorem ap_140 : xk ys kc_140_0 := (kc_140_0_k ys k_cIndexOf (k_addShifted (by decide) (by decide) rfl rfl) (k_addShifted (by decide) (by decide) rfl rfl) (k_decodeAll (by decide) (by decide) rfl rfl) (k_decodeAll (by decide) (by decide) rfl rfl)) -- B.all
theorem ap_146 : xk ys kc_146_0 := (kc_146_0_k ys k_cIndexOf (k_addShifted (by decide) (by decide) rfl rfl) (k_decodeAll (by decide) (by decide) rfl rfl)) -- B.peak
theorem ap_151 : xk ys kc_151_0 := (kc_151_0_k ys k_cIndexOf k_seekSources (k_addShifted (by decide) (by decide) rfl rfl) (k_addShifted (by decide) (by decide) rfl rfl)) -- B.found
theorem ap_155 : xk ys kc_155_0 := (kc_155_0_k ys k_cIndexOf (k_addShifted (by decide) (by decide) rfl rfl) (k_addShifted (by decide) (by decide) rfl rfl)) -- B.frames
theorem ap_159 : xk ys kc_159_0 := (kc_159_0_k ys k_cIndexOf k_seekSources (k_addShifted (by decide) (by decide) rfl rfl) (k_addShifted (by decide) (by decide) rfl rfl) (k_decodeAll (by decide) (by decide) rfl rfl)) -- B.filled
theorem ap_164 : xk ys kh_164_0 := k_cCoarse -- B.coarse
theorem ap_165 : xk ys kc_165_0 := (kc_165_0_k ys k_cIndexOf (k_addShifted (by decide) (by decide) rfl rfl) (k_addShifted (by decide) (by decide) rfl rfl)) -- B.anti
theorem ap_167 : xk ys kc_167_0 := (kc_167_0_k ys k_cIndexOf (k_addShifted (by decide) (by decide) rfl rfl)) -- B.keep
theorem ap_169 : xk ys kc_169_0 := (kc_169_0_k ys k_cIndexOf k_sumAt (k_addShifted (by decide) (by decide) rfl rfl)) -- B.match
theorem ap_173 : xk ys kc_173_0 := (kc_173_0_k ys k_cIndexOf (k_addShifted (by decide) (by decide) rfl rfl)) -- B.minus
theorem ap_174 : xk ys kc_174_0 := (kc_174_0_k ys k_cIndexOf (k_addShifted (by decide) (by decide) rfl rfl) (k_decodeAll (by decide) (by decide) rfl rfl)) -- B.shots
theorem ap_178 : xk ys kc_178_0 := (kc_178_0_k ys k_cIndexOf (k_addShifted (by decide) (by decide) rfl rfl) (k_addShifted (by decide) (by decide) rfl rfl) (k_decodeAll (by decide) (by decide) rfl rfl)) -- B.best
theorem ap_179 : xk ys kc_179_0 := (kc_179_0_k ys k_cIndexOf k_seekWorst (k_addShifted (by decide) (by decide) rfl rfl) (k_addShifted (by decide) (by decide) rfl rfl)) -- B.worst
theorem ap_181 : xk ys kc_181_0 := (kc_181_0_k ys) -- B.print
theorem ap_187 : xk ys kc_187_0 := (kc_187_0_k ys) -- B.out
theorem ap_189 : xk ys kc_189_0 := (kc_189_0_k ys) -- M.status
theorem ap_190 : xk ys kc_190_0 := (kc_190_0_k ys) -- M.many
theorem ap_193 : xk ys kc_193_0 := (kc_193_0_k ys (k_wideOf (Or.inl rfl)) (k_highOf (Or.inl rfl)) (k_cellsOf (Or.inl rfl)) k_isPlate k_holesOf1 (k_laysSides (Or.inl rfl))) -- M.plate
theorem ap_207 : xk ys kc_207_0 := (kc_207_0_k ys (k_wideOf (Or.inl rfl)) (k_highOf (Or.inl rfl)) (k_indexOf (Or.inl rfl)) k_isPlate) -- M.cell
theorem ap_209 : xk ys kc_209_0 := (kc_209_0_k ys (k_wideOf (Or.inl rfl)) (k_highOf (Or.inl rfl)) (k_indexOf (Or.inl rfl)) k_isPlate) -- M.alike
theorem ap_211 : xk ys kc_211_0 := (kc_211_0_k ys k_isPrime) -- M.root
theorem ap_214 : xk ys kc_214_0 := (kc_214_0_k ys (k_wideOf (Or.inl rfl)) (k_highOf (Or.inl rfl)) (k_cellsOf (Or.inl rfl)) (k_indexOf (Or.inl rfl)) k_isPlate) -- M.differences
theorem ap_216 : xk ys kc_216_0 := (kc_216_0_k ys (k_wideOf (Or.inl rfl)) (k_highOf (Or.inl rfl)) (k_indexOf (Or.inl rfl)) k_isPlate) -- M.window
theorem ap_217 : xk ys kc_217_0 := (kc_217_0_k ys) -- M.thing
theorem ap_221 : xk ys kc_221_0 := (kc_221_0_k ys k_remembers) -- M.add
theorem ap_224 : xk ys kh_224_0 := k_drop -- M.drop
theorem ap_226 : xk ys kc_226_0 := (kc_226_0_k ys k_remembers) -- M.lose
theorem ap_227 : xk ys kh_227_0 := k_heal -- M.heal
theorem ap_228 : xk ys kc_228_0 := (kc_228_0_k ys k_remembers) -- M.light
theorem ap_230 : xk ys kh_230_0 := k_use -- M.use
theorem ap_231 : xk ys kc_231_0 := (kc_231_0_k ys k_remembers) -- M.slide
theorem ap_232 : xk ys kh_232_0 := k_undo -- M.undo
def ka_233 : sx_K := (233, [.inl (2, .ofNat 0, .ofNat 0, 50), .inl (0, .negSucc 2147483647, .ofNat 2147483647, 0), .inl (0, .negSucc 2147483647, .ofNat 2147483647, 0), .inl (0, .negSucc 2147483647, .ofNat 2147483647, 0)], [], [(50, .ofNat 0, .ofNat 1), (50, .ofNat 24, .ofNat 26), (70, .ofNat 0, .ofNat 288), (71, .ofNat 0, .ofNat 288), (72, .ofNat 0, .ofNat 288), (66, .ofNat 0, .ofNat 5), (67, .ofNat 0, .ofNat 5), (68, .ofNat 0, .ofNat 5), (69, .ofNat 0, .ofNat 5)], (false, false), [([.inl (0, .negSucc 2147483647, .ofNat 2147483647, 0)], [], [], [])]) -- M.at
theorem ap_233 : xk ys ka_233 := by
  intro h vs Q iv va fa kk
  obtain ⟨_, c0, rfl, ⟨a, rfl, ha, _⟩, va0⟩ := vas_c va
  obtain ⟨_, c1, rfl, ⟨x1, rfl, _⟩, va1⟩ := vas_c va0
  obtain ⟨_, c2, rfl, ⟨x2, rfl, _⟩, va2⟩ := vas_c va1
  obtain ⟨_, c3, rfl, ⟨x3, rfl, _⟩, va3⟩ := vas_c va2
  cases vas_n va3
  obtain rfl : a = 275 := ref_M ha
  have bd := i_bd x3
  have lo : (-2147483648 : Int) ≤ x3.toInt := bd.1
  have hi : x3.toInt ≤ 2147483647 := by omega
  by_cases n0 : x3.toInt ≤ -1
  · exact (kc_233_0_k ys) h _ Q iv ⟨va_M, va_f, va_f, va_i (by show (-2147483648 : Int) ≤ _; omega) (by show _ ≤ (-1 : Int); omega), trivial⟩ fas_n (fun v h' iv' fr' q => kk v h' iv' (fr_wp (by decide) fr') (out_up q))
  by_cases n1 : x3.toInt ≤ 0
  · exact (kc_233_1_k ys (k_wideOf (Or.inl rfl)) (k_highOf (Or.inl rfl)) (k_cellAt (Or.inl rfl)) (k_laysShadows (Or.inl rfl))) h _ Q iv ⟨va_M, va_f, va_f, va_i (by show (0 : Int) ≤ _; omega) (by show _ ≤ (0 : Int); omega), trivial⟩ fas_n (fun v h' iv' fr' q => kk v h' iv' (fr_wp (by decide) fr') (out_up q))
  by_cases n2 : x3.toInt ≤ 1
  · exact (kc_233_2_k ys (k_wideOf (Or.inl rfl)) (k_highOf (Or.inl rfl)) (k_cellAt (Or.inl rfl)) (k_laysShadows (Or.inl rfl))) h _ Q iv ⟨va_M, va_f, va_f, va_i (by show (1 : Int) ≤ _; omega) (by show _ ≤ (1 : Int); omega), trivial⟩ fas_n (fun v h' iv' fr' q => kk v h' iv' (fr_wp (by decide) fr') (out_up q))
  by_cases n3 : x3.toInt ≤ 2
  · exact (kc_233_3_k ys (k_wideOf (Or.inl rfl)) (k_highOf (Or.inl rfl)) (k_decodedAt (Or.inl rfl) rfl) (k_laysShadows (Or.inl rfl))) h _ Q iv ⟨va_M, va_f, va_f, va_i (by show (2 : Int) ≤ _; omega) (by show _ ≤ (2 : Int); omega), trivial⟩ fas_n (fun v h' iv' fr' q => kk v h' iv' (fr_wp (by decide) fr') (out_up q))
  by_cases n4 : x3.toInt ≤ 3
  · exact (kc_233_4_k ys (k_wideOf (Or.inl rfl)) (k_highOf (Or.inl rfl)) (k_decodedAt (Or.inl rfl) rfl) (k_decodedAt (Or.inl rfl) rfl) (k_laysShadows (Or.inl rfl))) h _ Q iv ⟨va_M, va_f, va_f, va_i (by show (3 : Int) ≤ _; omega) (by show _ ≤ (3 : Int); omega), trivial⟩ fas_n (fun v h' iv' fr' q => kk v h' iv' (fr_wp (by decide) fr') (out_up q))
  by_cases n5 : x3.toInt ≤ 4
  · exact (kc_233_5_k ys (k_wideOf (Or.inl rfl)) (k_highOf (Or.inl rfl)) (k_decodedAt (Or.inl rfl) rfl) k_canRestore k_restoredFrom (k_laysShadows (Or.inl rfl))) h _ Q iv ⟨va_M, va_f, va_f, va_i (by show (4 : Int) ≤ _; omega) (by show _ ≤ (4 : Int); omega), trivial⟩ fas_n (fun v h' iv' fr' q => kk v h' iv' (fr_wp (by decide) fr') (out_up q))
  by_cases n6 : x3.toInt ≤ 5
  · exact (kc_233_6_k ys (k_wideOf (Or.inl rfl)) (k_highOf (Or.inl rfl)) (k_cellAt (Or.inl rfl)) (k_laysShadows (Or.inl rfl))) h _ Q iv ⟨va_M, va_f, va_f, va_i (by show (5 : Int) ≤ _; omega) (by show _ ≤ (5 : Int); omega), trivial⟩ fas_n (fun v h' iv' fr' q => kk v h' iv' (fr_wp (by decide) fr') (out_up q))
  exact (kc_233_7_k ys) h _ Q iv ⟨va_M, va_f, va_f, va_i (by show (6 : Int) ≤ _; omega) (by show _ ≤ (2147483647 : Int); omega), trivial⟩ fas_n (fun v h' iv' fr' q => kk v h' iv' (fr_wp (by decide) fr') (out_up q))
def ka_251 : sx_K := (251, [.inl (2, .ofNat 0, .ofNat 0, 50), .inl (0, .negSucc 2147483647, .ofNat 2147483647, 0)], [], [(50, .ofNat 0, .ofNat 1), (50, .ofNat 24, .ofNat 26), (70, .ofNat 0, .ofNat 288), (71, .ofNat 0, .ofNat 288), (72, .ofNat 0, .ofNat 288), (66, .ofNat 0, .ofNat 5), (67, .ofNat 0, .ofNat 5), (68, .ofNat 0, .ofNat 5), (69, .ofNat 0, .ofNat 5), (73, .ofNat 0, .ofNat 288)], (false, false), [([.inl (0, .negSucc 2147483647, .ofNat 2147483647, 0)], [], [], [])]) -- M.all
theorem ap_251 : xk ys ka_251 := by
  intro h vs Q iv va fa kk
  obtain ⟨_, c0, rfl, ⟨a, rfl, ha, _⟩, va0⟩ := vas_c va
  obtain ⟨_, c1, rfl, ⟨x1, rfl, _⟩, va1⟩ := vas_c va0
  cases vas_n va1
  obtain rfl : a = 275 := ref_M ha
  have bd := i_bd x1
  have lo : (-2147483648 : Int) ≤ x1.toInt := bd.1
  have hi : x1.toInt ≤ 2147483647 := by omega
  by_cases n0 : x1.toInt ≤ -1
  · exact (kc_251_0_k ys) h _ Q iv ⟨va_M, va_i (by show (-2147483648 : Int) ≤ _; omega) (by show _ ≤ (-1 : Int); omega), trivial⟩ fas_n (fun v h' iv' fr' q => kk v h' iv' (fr_wp (by decide) fr') (out_up q))
  by_cases n1 : x1.toInt ≤ 0
  · exact (kc_251_1_k ys (k_cellsOf (Or.inl rfl)) (k_laysShadows (Or.inl rfl))) h _ Q iv ⟨va_M, va_i (by show (0 : Int) ≤ _; omega) (by show _ ≤ (0 : Int); omega), trivial⟩ fas_n (fun v h' iv' fr' q => kk v h' iv' (fr_wp (by decide) fr') (out_up q))
  by_cases n2 : x1.toInt ≤ 1
  · exact (kc_251_2_k ys (k_cellsOf (Or.inl rfl)) (k_laysShadows (Or.inl rfl))) h _ Q iv ⟨va_M, va_i (by show (1 : Int) ≤ _; omega) (by show _ ≤ (1 : Int); omega), trivial⟩ fas_n (fun v h' iv' fr' q => kk v h' iv' (fr_wp (by decide) fr') (out_up q))
  by_cases n3 : x1.toInt ≤ 2
  · exact (kc_251_3_k ys (k_cellsOf (Or.inl rfl)) (k_holesOf (Or.inr rfl)) k_holesOf1 (k_laysShadows (Or.inl rfl))) h _ Q iv ⟨va_M, va_i (by show (2 : Int) ≤ _; omega) (by show _ ≤ (2 : Int); omega), trivial⟩ fas_n (fun v h' iv' fr' q => kk v h' iv' (fr_wp (by decide) fr') (out_up q))
  by_cases n4 : x1.toInt ≤ 3
  · exact (kc_251_4_k ys k_canRestore k_errorNow (k_laysShadows (Or.inl rfl))) h _ Q iv ⟨va_M, va_i (by show (3 : Int) ≤ _; omega) (by show _ ≤ (3 : Int); omega), trivial⟩ fas_n (fun v h' iv' fr' q => kk v h' iv' (fr_wp (by decide) fr') (out_up q))
  by_cases n5 : x1.toInt ≤ 4
  · exact (kc_251_5_k ys (k_cellsOf (Or.inl rfl)) (k_laysShadows (Or.inl rfl))) h _ Q iv ⟨va_M, va_i (by show (4 : Int) ≤ _; omega) (by show _ ≤ (4 : Int); omega), trivial⟩ fas_n (fun v h' iv' fr' q => kk v h' iv' (fr_wp (by decide) fr') (out_up q))
  by_cases n6 : x1.toInt ≤ 5
  · exact (kc_251_6_k ys (k_wideOf (Or.inl rfl)) (k_cellsOf (Or.inl rfl)) (k_decodedAt (Or.inl rfl) rfl) (k_decodedAt (Or.inl rfl) rfl) (k_laysShadows (Or.inl rfl))) h _ Q iv ⟨va_M, va_i (by show (5 : Int) ≤ _; omega) (by show _ ≤ (5 : Int); omega), trivial⟩ fas_n (fun v h' iv' fr' q => kk v h' iv' (fr_wp (by decide) fr') (out_up q))
  by_cases n7 : x1.toInt ≤ 6
  · exact (kc_251_7_k ys (k_wideOf (Or.inl rfl)) (k_cellsOf (Or.inl rfl)) (k_decodedAt (Or.inl rfl) rfl) (k_decodedAt (Or.inl rfl) rfl) (k_laysShadows (Or.inl rfl))) h _ Q iv ⟨va_M, va_i (by show (6 : Int) ≤ _; omega) (by show _ ≤ (6 : Int); omega), trivial⟩ fas_n (fun v h' iv' fr' q => kk v h' iv' (fr_wp (by decide) fr') (out_up q))
  by_cases n8 : x1.toInt ≤ 7
  · exact (kc_251_8_k ys (k_cellsOf (Or.inl rfl)) (k_laysShadows (Or.inl rfl))) h _ Q iv ⟨va_M, va_i (by show (7 : Int) ≤ _; omega) (by show _ ≤ (7 : Int); omega), trivial⟩ fas_n (fun v h' iv' fr' q => kk v h' iv' (fr_wp (by decide) fr') (out_up q))
  exact (kc_251_9_k ys) h _ Q iv ⟨va_M, va_i (by show (8 : Int) ≤ _; omega) (by show _ ≤ (2147483647 : Int); omega), trivial⟩ fas_n (fun v h' iv' fr' q => kk v h' iv' (fr_wp (by decide) fr') (out_up q))
theorem ap_257 : xk ys kc_257_0 := (kc_257_0_k ys (k_wideOf (Or.inl rfl)) (k_highOf (Or.inl rfl)) (k_cellsOf (Or.inl rfl)) (k_cellAt (Or.inl rfl)) (k_decodedAt (Or.inl rfl) rfl) (k_laysShadows (Or.inl rfl))) -- M.peak
theorem ap_259 : xk ys kc_259_0 := (kc_259_0_k ys (k_wideOf (Or.inr (Or.inl rfl))) (k_highOf (Or.inr (Or.inl rfl))) (k_cellsOf (Or.inr (Or.inl rfl))) (k_indexOf (Or.inr (Or.inl rfl))) (k_cellAt (Or.inr (Or.inl rfl))) (k_decodedAt (Or.inr (Or.inl rfl)) rfl) k_canRestore k_restoredFrom (k_laysShadows (Or.inl rfl))) -- M.found
theorem ap_262 : xk ys kc_262_0 := (kc_262_0_k ys (k_wideOf (Or.inr (Or.inl rfl))) (k_highOf (Or.inr (Or.inl rfl))) (k_cellsOf (Or.inr (Or.inl rfl))) (k_indexOf (Or.inr (Or.inl rfl))) (k_cellAt (Or.inr (Or.inl rfl))) (k_decodedAt (Or.inr (Or.inl rfl)) rfl) k_canRestore k_restoredFrom k_errorNow (k_laysShadows (Or.inl rfl)) (k_laysShadows (Or.inr (Or.inl rfl)))) -- M.filled
theorem ap_264 : xk ys kh_264_0 := k_coarse -- M.coarse
theorem ap_265 : xk ys kc_265_0 := (kc_265_0_k ys (k_wideOf (Or.inl rfl)) (k_highOf (Or.inl rfl)) (k_decodedAt (Or.inl rfl) rfl) (k_laysShadows (Or.inl rfl))) -- M.frames
theorem ap_266 : xk ys kc_266_0 := (kc_266_0_k ys (k_wideOf (Or.inl rfl)) (k_highOf (Or.inl rfl)) (k_cellsOf (Or.inl rfl)) (k_decodedAt (Or.inl rfl) rfl) (k_laysShadows (Or.inl rfl))) -- M.anti
theorem ap_267 : xk ys kc_267_0 := (kc_267_0_k ys (k_wideOf (Or.inl rfl)) (k_highOf (Or.inl rfl)) (k_cellsOf (Or.inl rfl)) (k_laysShadows (Or.inl rfl))) -- M.keep
theorem ap_268 : xk ys kc_268_0 := (kc_268_0_k ys (k_wideOf (Or.inl rfl)) (k_highOf (Or.inl rfl)) (k_cellAt (Or.inl rfl)) (k_laysShadows (Or.inl rfl))) -- M.match
theorem ap_271 : xk ys kc_271_0 := (kc_271_0_k ys (k_wideOf (Or.inl rfl)) (k_highOf (Or.inl rfl)) (k_cellsOf (Or.inl rfl)) (k_decodedAt (Or.inl rfl) rfl) (k_laysShadows (Or.inl rfl))) -- M.minus
theorem ap_272 : xk ys kh_272_0 := k_shots -- M.shots
theorem ap_274 : xk ys kh_274_0 := k_best -- M.best
theorem ap_275 : xk ys kc_275_0 := (kc_275_0_k ys (k_wideOf (Or.inr (Or.inl rfl))) (k_cellsOf (Or.inr (Or.inl rfl))) k_canRestore k_errorNow (k_laysShadows (Or.inl rfl))) -- M.worst
theorem ap_276 : xk ys kc_276_0 := (kc_276_0_k ys) -- M.feed
theorem ap_278 : xk ys kh_278_0 := k_load -- M.load
theorem ap_306 : xk ys kc_306_0 := (kc_306_0_k ys) -- M.fault
theorem ap_307 : xk ys kh_307_0 := k_print -- M.print
theorem ap_314 : xk ys kc_314_0 := (kc_314_0_k ys) -- M.out
end KB
