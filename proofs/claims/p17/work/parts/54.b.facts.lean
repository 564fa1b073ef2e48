set_option maxRecDepth 20000 in
theorem cls_0 (xs : List Int32) : pm_Cls (g_P xs) gTbl gCl 0 RC0 TC0 13 yC0 := by
  refine ⟨rfl, rfl, ?_, by decide +kernel, by decide +kernel, (show ∀ k, k < 13 → ((gF.getD 0 []).getD k 0 = pm_tk (yC0 k) ∧ pm_tk (yC0 k) < 4) by decide +kernel)⟩
  intro w hw
  obtain ⟨j, hj, rfl⟩ := List.mem_map.mp hw
  have hj := List.mem_range.mp hj
  exact (show ∀ a, a < 13 → u_lay RC0 TC0 a ∈ gTbl from (lt_s (lt_s (lt_s (lt_s (lt_s (lt_s (lt_s (lt_s (lt_s (lt_s (lt_s (lt_s (lt_s lt_0 (tb2 160 rfl rfl)) (tb2 162 rfl rfl)) (tb2 164 rfl rfl)) (tb2 166 rfl rfl)) (tb2 168 rfl rfl)) (tb2 170 rfl rfl)) (tb2 172 rfl rfl)) (tb2 174 rfl rfl)) (tb2 176 rfl rfl)) (tb2 178 rfl rfl)) (tb2 180 rfl rfl)) (tb2 182 rfl rfl)) (tb2 184 rfl rfl))) j hj
set_option maxRecDepth 20000 in
theorem cls_1 (xs : List Int32) : pm_Cls (g_P xs) gTbl gCl 1 RC1 TC1 2 yC1 := by
  refine ⟨rfl, rfl, ?_, by decide +kernel, by decide +kernel, (show ∀ k, k < 2 → ((gF.getD 1 []).getD k 0 = pm_tk (yC1 k) ∧ pm_tk (yC1 k) < 4) by decide +kernel)⟩
  intro w hw
  obtain ⟨j, hj, rfl⟩ := List.mem_map.mp hw
  have hj := List.mem_range.mp hj
  exact (show ∀ a, a < 2 → u_lay RC1 TC1 a ∈ gTbl from (lt_s (lt_s lt_0 (tb1 44 rfl rfl)) (tb1 46 rfl rfl))) j hj
set_option maxRecDepth 20000 in
theorem cls_2 (xs : List Int32) : pm_Cls (g_P xs) gTbl gCl 2 RC2 TC2 6 yC2 := by
  refine ⟨rfl, rfl, ?_, by decide +kernel, by decide +kernel, (show ∀ k, k < 6 → ((gF.getD 2 []).getD k 0 = pm_tk (yC2 k) ∧ pm_tk (yC2 k) < 4) by decide +kernel)⟩
  intro w hw
  obtain ⟨j, hj, rfl⟩ := List.mem_map.mp hw
  have hj := List.mem_range.mp hj
  exact (show ∀ a, a < 6 → u_lay RC2 TC2 a ∈ gTbl from (lt_s (lt_s (lt_s (lt_s (lt_s (lt_s lt_0 (tb1 91 rfl rfl)) (tb1 93 rfl rfl)) (tb1 95 rfl rfl)) (tb1 97 rfl rfl)) (tb1 99 rfl rfl)) (tb1 101 rfl rfl))) j hj
set_option maxRecDepth 20000 in
theorem cls_3 (xs : List Int32) : pm_Cls (g_P xs) gTbl gCl 3 RC3 TC3 5 yC3 := by
  refine ⟨rfl, rfl, ?_, by decide +kernel, by decide +kernel, (show ∀ k, k < 5 → ((gF.getD 3 []).getD k 0 = pm_tk (yC3 k) ∧ pm_tk (yC3 k) < 4) by decide +kernel)⟩
  intro w hw
  obtain ⟨j, hj, rfl⟩ := List.mem_map.mp hw
  have hj := List.mem_range.mp hj
  exact (show ∀ a, a < 5 → u_lay RC3 TC3 a ∈ gTbl from (lt_s (lt_s (lt_s (lt_s (lt_s lt_0 (tb1 72 rfl rfl)) (tb1 74 rfl rfl)) (tb1 76 rfl rfl)) (tb1 78 rfl rfl)) (tb1 80 rfl rfl))) j hj
set_option maxRecDepth 20000 in
theorem cls_4 (xs : List Int32) : pm_Cls (g_P xs) gTbl gCl 4 RC4 TC4 3 yC4 := by
  refine ⟨rfl, rfl, ?_, by decide +kernel, by decide +kernel, (show ∀ k, k < 3 → ((gF.getD 4 []).getD k 0 = pm_tk (yC4 k) ∧ pm_tk (yC4 k) < 4) by decide +kernel)⟩
  intro w hw
  obtain ⟨j, hj, rfl⟩ := List.mem_map.mp hw
  have hj := List.mem_range.mp hj
  exact (show ∀ a, a < 3 → u_lay RC4 TC4 a ∈ gTbl from (lt_s (lt_s (lt_s lt_0 (tb1 184 rfl rfl)) (tb1 186 rfl rfl)) (tb1 188 rfl rfl))) j hj
set_option maxRecDepth 20000 in
theorem cls_5 (xs : List Int32) : pm_Cls (g_P xs) gTbl gCl 5 RC5 TC5 5 yC5 := by
  refine ⟨rfl, rfl, ?_, by decide +kernel, by decide +kernel, (show ∀ k, k < 5 → ((gF.getD 5 []).getD k 0 = pm_tk (yC5 k) ∧ pm_tk (yC5 k) < 4) by decide +kernel)⟩
  intro w hw
  obtain ⟨j, hj, rfl⟩ := List.mem_map.mp hw
  have hj := List.mem_range.mp hj
  exact (show ∀ a, a < 5 → u_lay RC5 TC5 a ∈ gTbl from (lt_s (lt_s (lt_s (lt_s (lt_s lt_0 (tb1 169 rfl rfl)) (tb1 171 rfl rfl)) (tb1 173 rfl rfl)) (tb1 175 rfl rfl)) (tb1 177 rfl rfl))) j hj
set_option maxRecDepth 20000 in
theorem cls_6 (xs : List Int32) : pm_Cls (g_P xs) gTbl gCl 6 RC6 TC6 4 yC6 := by
  refine ⟨rfl, rfl, ?_, by decide +kernel, by decide +kernel, (show ∀ k, k < 4 → ((gF.getD 6 []).getD k 0 = pm_tk (yC6 k) ∧ pm_tk (yC6 k) < 4) by decide +kernel)⟩
  intro w hw
  obtain ⟨j, hj, rfl⟩ := List.mem_map.mp hw
  have hj := List.mem_range.mp hj
  exact (show ∀ a, a < 4 → u_lay RC6 TC6 a ∈ gTbl from (lt_s (lt_s (lt_s (lt_s lt_0 (tb1 137 rfl rfl)) (tb1 139 rfl rfl)) (tb1 141 rfl rfl)) (tb1 143 rfl rfl))) j hj
set_option maxRecDepth 20000 in
theorem cls_7 (xs : List Int32) : pm_Cls (g_P xs) gTbl gCl 7 RC7 TC7 5 yC7 := by
  refine ⟨rfl, rfl, ?_, by decide +kernel, by decide +kernel, (show ∀ k, k < 5 → ((gF.getD 7 []).getD k 0 = pm_tk (yC7 k) ∧ pm_tk (yC7 k) < 4) by decide +kernel)⟩
  intro w hw
  obtain ⟨j, hj, rfl⟩ := List.mem_map.mp hw
  have hj := List.mem_range.mp hj
  exact (show ∀ a, a < 5 → u_lay RC7 TC7 a ∈ gTbl from (lt_s (lt_s (lt_s (lt_s (lt_s lt_0 (tb1 205 rfl rfl)) (tb1 207 rfl rfl)) (tb1 209 rfl rfl)) (tb1 211 rfl rfl)) (tb1 213 rfl rfl))) j hj
set_option maxRecDepth 20000 in
theorem cls_8 (xs : List Int32) : pm_Cls (g_P xs) gTbl gCl 8 RC8 TC8 4 yC8 := by
  refine ⟨rfl, rfl, ?_, by decide +kernel, by decide +kernel, (show ∀ k, k < 4 → ((gF.getD 8 []).getD k 0 = pm_tk (yC8 k) ∧ pm_tk (yC8 k) < 4) by decide +kernel)⟩
  intro w hw
  obtain ⟨j, hj, rfl⟩ := List.mem_map.mp hw
  have hj := List.mem_range.mp hj
  exact (show ∀ a, a < 4 → u_lay RC8 TC8 a ∈ gTbl from (lt_s (lt_s (lt_s (lt_s lt_0 (tb2 63 rfl rfl)) (tb2 65 rfl rfl)) (tb2 67 rfl rfl)) (tb2 69 rfl rfl))) j hj
set_option maxRecDepth 20000 in
theorem cls_9 (xs : List Int32) : pm_Cls (g_P xs) gTbl gCl 9 RC9 TC9 12 yC9 := by
  refine ⟨rfl, rfl, ?_, by decide +kernel, by decide +kernel, (show ∀ k, k < 12 → ((gF.getD 9 []).getD k 0 = pm_tk (yC9 k) ∧ pm_tk (yC9 k) < 4) by decide +kernel)⟩
  intro w hw
  obtain ⟨j, hj, rfl⟩ := List.mem_map.mp hw
  have hj := List.mem_range.mp hj
  exact (show ∀ a, a < 12 → u_lay RC9 TC9 a ∈ gTbl from (lt_s (lt_s (lt_s (lt_s (lt_s (lt_s (lt_s (lt_s (lt_s (lt_s (lt_s (lt_s lt_0 (tb2 27 rfl rfl)) (tb2 29 rfl rfl)) (tb2 31 rfl rfl)) (tb2 33 rfl rfl)) (tb2 35 rfl rfl)) (tb2 37 rfl rfl)) (tb2 39 rfl rfl)) (tb2 41 rfl rfl)) (tb2 43 rfl rfl)) (tb2 45 rfl rfl)) (tb2 47 rfl rfl)) (tb2 49 rfl rfl))) j hj
set_option maxRecDepth 20000 in
theorem cls_10 (xs : List Int32) : pm_Cls (g_P xs) gTbl gCl 10 RC10 TC10 19 yC10 := by
  refine ⟨rfl, rfl, ?_, by decide +kernel, by decide +kernel, (show ∀ k, k < 19 → ((gF.getD 10 []).getD k 0 = pm_tk (yC10 k) ∧ pm_tk (yC10 k) < 4) by decide +kernel)⟩
  intro w hw
  obtain ⟨j, hj, rfl⟩ := List.mem_map.mp hw
  have hj := List.mem_range.mp hj
  exact (show ∀ a, a < 19 → u_lay RC10 TC10 a ∈ gTbl from (lt_s (lt_s (lt_s (lt_s (lt_s (lt_s (lt_s (lt_s (lt_s (lt_s (lt_s (lt_s (lt_s (lt_s (lt_s (lt_s (lt_s (lt_s (lt_s lt_0 (tb2 108 rfl rfl)) (tb2 110 rfl rfl)) (tb2 112 rfl rfl)) (tb2 114 rfl rfl)) (tb2 116 rfl rfl)) (tb2 118 rfl rfl)) (tb2 120 rfl rfl)) (tb2 122 rfl rfl)) (tb2 124 rfl rfl)) (tb2 126 rfl rfl)) (tb2 128 rfl rfl)) (tb2 130 rfl rfl)) (tb2 132 rfl rfl)) (tb2 134 rfl rfl)) (tb2 136 rfl rfl)) (tb2 138 rfl rfl)) (tb2 140 rfl rfl)) (tb2 142 rfl rfl)) (tb2 144 rfl rfl))) j hj
set_option maxRecDepth 20000 in
theorem cls_11 (xs : List Int32) : pm_Cls (g_P xs) gTbl gCl 11 RC11 TC11 58 yC11 := by
  refine ⟨rfl, rfl, ?_, by decide +kernel, by decide +kernel, (show ∀ k, k < 58 → ((gF.getD 11 []).getD k 0 = pm_tk (yC11 k) ∧ pm_tk (yC11 k) < 4) by decide +kernel)⟩
  intro w hw
  obtain ⟨j, hj, rfl⟩ := List.mem_map.mp hw
  have hj := List.mem_range.mp hj
  exact (show ∀ a, a < 58 → u_lay RC11 TC11 a ∈ gTbl from (lt_s (lt_s (lt_s (lt_s (lt_s (lt_s (lt_s (lt_s (lt_s (lt_s (lt_s (lt_s (lt_s (lt_s (lt_s (lt_s (lt_s (lt_s (lt_s (lt_s (lt_s (lt_s (lt_s (lt_s (lt_s (lt_s (lt_s (lt_s (lt_s (lt_s (lt_s (lt_s (lt_s (lt_s (lt_s (lt_s (lt_s (lt_s (lt_s (lt_s (lt_s (lt_s (lt_s (lt_s (lt_s (lt_s (lt_s (lt_s (lt_s (lt_s (lt_s (lt_s (lt_s (lt_s (lt_s (lt_s (lt_s (lt_s lt_0 (tb6 105 rfl rfl)) (tb6 107 rfl rfl)) (tb6 109 rfl rfl)) (tb6 111 rfl rfl)) (tb6 113 rfl rfl)) (tb6 115 rfl rfl)) (tb6 117 rfl rfl)) (tb6 119 rfl rfl)) (tb6 121 rfl rfl)) (tb6 123 rfl rfl)) (tb6 125 rfl rfl)) (tb6 127 rfl rfl)) (tb6 129 rfl rfl)) (tb6 131 rfl rfl)) (tb6 133 rfl rfl)) (tb6 135 rfl rfl)) (tb6 137 rfl rfl)) (tb6 139 rfl rfl)) (tb6 141 rfl rfl)) (tb6 143 rfl rfl)) (tb6 145 rfl rfl)) (tb6 147 rfl rfl)) (tb6 149 rfl rfl)) (tb6 151 rfl rfl)) (tb6 153 rfl rfl)) (tb6 155 rfl rfl)) (tb6 157 rfl rfl)) (tb6 159 rfl rfl)) (tb6 161 rfl rfl)) (tb6 163 rfl rfl)) (tb6 165 rfl rfl)) (tb6 167 rfl rfl)) (tb6 169 rfl rfl)) (tb6 171 rfl rfl)) (tb6 173 rfl rfl)) (tb6 175 rfl rfl)) (tb6 177 rfl rfl)) (tb6 179 rfl rfl)) (tb6 181 rfl rfl)) (tb6 183 rfl rfl)) (tb6 185 rfl rfl)) (tb6 187 rfl rfl)) (tb6 189 rfl rfl)) (tb6 191 rfl rfl)) (tb6 193 rfl rfl)) (tb6 195 rfl rfl)) (tb6 197 rfl rfl)) (tb6 199 rfl rfl)) (tb6 201 rfl rfl)) (tb6 203 rfl rfl)) (tb6 205 rfl rfl)) (tb6 207 rfl rfl)) (tb6 209 rfl rfl)) (tb6 211 rfl rfl)) (tb6 213 rfl rfl)) (tb6 215 rfl rfl)) (tb6 217 rfl rfl)) (tb6 219 rfl rfl))) j hj
