set_option maxRecDepth 20000 in
theorem cls_0 (xs : List Int32) : pm_Cls (g_P xs) gTbl gCl 0 RC0 TC0 13 yC0 := by
  refine ⟨rfl, rfl, ?_, by decide +kernel, by decide +kernel, (show ∀ k, k < 13 → ((gF.getD 0 []).getD k 0 = pm_tk (yC0 k) ∧ pm_tk (yC0 k) < 4) by decide +kernel)⟩
  intro w hw
  obtain ⟨j, hj, rfl⟩ := List.mem_map.mp hw
  have hj := List.mem_range.mp hj
  exact (show ∀ a, a < 13 → u_lay RC0 TC0 a ∈ gTbl from (lt_s (lt_s (lt_s (lt_s (lt_s (lt_s (lt_s (lt_s (lt_s (lt_s (lt_s (lt_s (lt_s lt_0 (tb_w 400 rfl rfl)) (tb_w 402 rfl rfl)) (tb_w 404 rfl rfl)) (tb_w 406 rfl rfl)) (tb_w 408 rfl rfl)) (tb_w 410 rfl rfl)) (tb_w 412 rfl rfl)) (tb_w 414 rfl rfl)) (tb_w 416 rfl rfl)) (tb_w 418 rfl rfl)) (tb_w 420 rfl rfl)) (tb_w 422 rfl rfl)) (tb_w 424 rfl rfl))) j hj
set_option maxRecDepth 20000 in
theorem cls_1 (xs : List Int32) : pm_Cls (g_P xs) gTbl gCl 1 RC1 TC1 2 yC1 := by
  refine ⟨rfl, rfl, ?_, by decide +kernel, by decide +kernel, (show ∀ k, k < 2 → ((gF.getD 1 []).getD k 0 = pm_tk (yC1 k) ∧ pm_tk (yC1 k) < 4) by decide +kernel)⟩
  intro w hw
  obtain ⟨j, hj, rfl⟩ := List.mem_map.mp hw
  have hj := List.mem_range.mp hj
  exact (show ∀ a, a < 2 → u_lay RC1 TC1 a ∈ gTbl from (lt_s (lt_s lt_0 (tb_w 44 rfl rfl)) (tb_w 46 rfl rfl))) j hj
set_option maxRecDepth 20000 in
theorem cls_2 (xs : List Int32) : pm_Cls (g_P xs) gTbl gCl 2 RC2 TC2 6 yC2 := by
  refine ⟨rfl, rfl, ?_, by decide +kernel, by decide +kernel, (show ∀ k, k < 6 → ((gF.getD 2 []).getD k 0 = pm_tk (yC2 k) ∧ pm_tk (yC2 k) < 4) by decide +kernel)⟩
  intro w hw
  obtain ⟨j, hj, rfl⟩ := List.mem_map.mp hw
  have hj := List.mem_range.mp hj
  exact (show ∀ a, a < 6 → u_lay RC2 TC2 a ∈ gTbl from (lt_s (lt_s (lt_s (lt_s (lt_s (lt_s lt_0 (tb_w 91 rfl rfl)) (tb_w 93 rfl rfl)) (tb_w 95 rfl rfl)) (tb_w 97 rfl rfl)) (tb_w 99 rfl rfl)) (tb_w 101 rfl rfl))) j hj
set_option maxRecDepth 20000 in
theorem cls_3 (xs : List Int32) : pm_Cls (g_P xs) gTbl gCl 3 RC3 TC3 5 yC3 := by
  refine ⟨rfl, rfl, ?_, by decide +kernel, by decide +kernel, (show ∀ k, k < 5 → ((gF.getD 3 []).getD k 0 = pm_tk (yC3 k) ∧ pm_tk (yC3 k) < 4) by decide +kernel)⟩
  intro w hw
  obtain ⟨j, hj, rfl⟩ := List.mem_map.mp hw
  have hj := List.mem_range.mp hj
  exact (show ∀ a, a < 5 → u_lay RC3 TC3 a ∈ gTbl from (lt_s (lt_s (lt_s (lt_s (lt_s lt_0 (tb_w 72 rfl rfl)) (tb_w 74 rfl rfl)) (tb_w 76 rfl rfl)) (tb_w 78 rfl rfl)) (tb_w 80 rfl rfl))) j hj
set_option maxRecDepth 20000 in
theorem cls_4 (xs : List Int32) : pm_Cls (g_P xs) gTbl gCl 4 RC4 TC4 3 yC4 := by
  refine ⟨rfl, rfl, ?_, by decide +kernel, by decide +kernel, (show ∀ k, k < 3 → ((gF.getD 4 []).getD k 0 = pm_tk (yC4 k) ∧ pm_tk (yC4 k) < 4) by decide +kernel)⟩
  intro w hw
  obtain ⟨j, hj, rfl⟩ := List.mem_map.mp hw
  have hj := List.mem_range.mp hj
  exact (show ∀ a, a < 3 → u_lay RC4 TC4 a ∈ gTbl from (lt_s (lt_s (lt_s lt_0 (tb_w 184 rfl rfl)) (tb_w 186 rfl rfl)) (tb_w 188 rfl rfl))) j hj
set_option maxRecDepth 20000 in
theorem cls_5 (xs : List Int32) : pm_Cls (g_P xs) gTbl gCl 5 RC5 TC5 5 yC5 := by
  refine ⟨rfl, rfl, ?_, by decide +kernel, by decide +kernel, (show ∀ k, k < 5 → ((gF.getD 5 []).getD k 0 = pm_tk (yC5 k) ∧ pm_tk (yC5 k) < 4) by decide +kernel)⟩
  intro w hw
  obtain ⟨j, hj, rfl⟩ := List.mem_map.mp hw
  have hj := List.mem_range.mp hj
  exact (show ∀ a, a < 5 → u_lay RC5 TC5 a ∈ gTbl from (lt_s (lt_s (lt_s (lt_s (lt_s lt_0 (tb_w 169 rfl rfl)) (tb_w 171 rfl rfl)) (tb_w 173 rfl rfl)) (tb_w 175 rfl rfl)) (tb_w 177 rfl rfl))) j hj
set_option maxRecDepth 20000 in
theorem cls_6 (xs : List Int32) : pm_Cls (g_P xs) gTbl gCl 6 RC6 TC6 4 yC6 := by
  refine ⟨rfl, rfl, ?_, by decide +kernel, by decide +kernel, (show ∀ k, k < 4 → ((gF.getD 6 []).getD k 0 = pm_tk (yC6 k) ∧ pm_tk (yC6 k) < 4) by decide +kernel)⟩
  intro w hw
  obtain ⟨j, hj, rfl⟩ := List.mem_map.mp hw
  have hj := List.mem_range.mp hj
  exact (show ∀ a, a < 4 → u_lay RC6 TC6 a ∈ gTbl from (lt_s (lt_s (lt_s (lt_s lt_0 (tb_w 137 rfl rfl)) (tb_w 139 rfl rfl)) (tb_w 141 rfl rfl)) (tb_w 143 rfl rfl))) j hj
set_option maxRecDepth 20000 in
theorem cls_7 (xs : List Int32) : pm_Cls (g_P xs) gTbl gCl 7 RC7 TC7 5 yC7 := by
  refine ⟨rfl, rfl, ?_, by decide +kernel, by decide +kernel, (show ∀ k, k < 5 → ((gF.getD 7 []).getD k 0 = pm_tk (yC7 k) ∧ pm_tk (yC7 k) < 4) by decide +kernel)⟩
  intro w hw
  obtain ⟨j, hj, rfl⟩ := List.mem_map.mp hw
  have hj := List.mem_range.mp hj
  exact (show ∀ a, a < 5 → u_lay RC7 TC7 a ∈ gTbl from (lt_s (lt_s (lt_s (lt_s (lt_s lt_0 (tb_w 205 rfl rfl)) (tb_w 207 rfl rfl)) (tb_w 209 rfl rfl)) (tb_w 211 rfl rfl)) (tb_w 213 rfl rfl))) j hj
set_option maxRecDepth 20000 in
theorem cls_8 (xs : List Int32) : pm_Cls (g_P xs) gTbl gCl 8 RC8 TC8 4 yC8 := by
  refine ⟨rfl, rfl, ?_, by decide +kernel, by decide +kernel, (show ∀ k, k < 4 → ((gF.getD 8 []).getD k 0 = pm_tk (yC8 k) ∧ pm_tk (yC8 k) < 4) by decide +kernel)⟩
  intro w hw
  obtain ⟨j, hj, rfl⟩ := List.mem_map.mp hw
  have hj := List.mem_range.mp hj
  exact (show ∀ a, a < 4 → u_lay RC8 TC8 a ∈ gTbl from (lt_s (lt_s (lt_s (lt_s lt_0 (tb_w 303 rfl rfl)) (tb_w 305 rfl rfl)) (tb_w 307 rfl rfl)) (tb_w 309 rfl rfl))) j hj
set_option maxRecDepth 20000 in
theorem cls_9 (xs : List Int32) : pm_Cls (g_P xs) gTbl gCl 9 RC9 TC9 12 yC9 := by
  refine ⟨rfl, rfl, ?_, by decide +kernel, by decide +kernel, (show ∀ k, k < 12 → ((gF.getD 9 []).getD k 0 = pm_tk (yC9 k) ∧ pm_tk (yC9 k) < 4) by decide +kernel)⟩
  intro w hw
  obtain ⟨j, hj, rfl⟩ := List.mem_map.mp hw
  have hj := List.mem_range.mp hj
  exact (show ∀ a, a < 12 → u_lay RC9 TC9 a ∈ gTbl from (lt_s (lt_s (lt_s (lt_s (lt_s (lt_s (lt_s (lt_s (lt_s (lt_s (lt_s (lt_s lt_0 (tb_w 267 rfl rfl)) (tb_w 269 rfl rfl)) (tb_w 271 rfl rfl)) (tb_w 273 rfl rfl)) (tb_w 275 rfl rfl)) (tb_w 277 rfl rfl)) (tb_w 279 rfl rfl)) (tb_w 281 rfl rfl)) (tb_w 283 rfl rfl)) (tb_w 285 rfl rfl)) (tb_w 287 rfl rfl)) (tb_w 289 rfl rfl))) j hj
set_option maxRecDepth 20000 in
theorem cls_10 (xs : List Int32) : pm_Cls (g_P xs) gTbl gCl 10 RC10 TC10 19 yC10 := by
  refine ⟨rfl, rfl, ?_, by decide +kernel, by decide +kernel, (show ∀ k, k < 19 → ((gF.getD 10 []).getD k 0 = pm_tk (yC10 k) ∧ pm_tk (yC10 k) < 4) by decide +kernel)⟩
  intro w hw
  obtain ⟨j, hj, rfl⟩ := List.mem_map.mp hw
  have hj := List.mem_range.mp hj
  exact (show ∀ a, a < 19 → u_lay RC10 TC10 a ∈ gTbl from (lt_s (lt_s (lt_s (lt_s (lt_s (lt_s (lt_s (lt_s (lt_s (lt_s (lt_s (lt_s (lt_s (lt_s (lt_s (lt_s (lt_s (lt_s (lt_s lt_0 (tb_w 348 rfl rfl)) (tb_w 350 rfl rfl)) (tb_w 352 rfl rfl)) (tb_w 354 rfl rfl)) (tb_w 356 rfl rfl)) (tb_w 358 rfl rfl)) (tb_w 360 rfl rfl)) (tb_w 362 rfl rfl)) (tb_w 364 rfl rfl)) (tb_w 366 rfl rfl)) (tb_w 368 rfl rfl)) (tb_w 370 rfl rfl)) (tb_w 372 rfl rfl)) (tb_w 374 rfl rfl)) (tb_w 376 rfl rfl)) (tb_w 378 rfl rfl)) (tb_w 380 rfl rfl)) (tb_w 382 rfl rfl)) (tb_w 384 rfl rfl))) j hj
set_option maxRecDepth 20000 in
theorem cls_11 (xs : List Int32) : pm_Cls (g_P xs) gTbl gCl 11 RC11 TC11 58 yC11 := by
  refine ⟨rfl, rfl, ?_, by decide +kernel, by decide +kernel, (show ∀ k, k < 58 → ((gF.getD 11 []).getD k 0 = pm_tk (yC11 k) ∧ pm_tk (yC11 k) < 4) by decide +kernel)⟩
  intro w hw
  obtain ⟨j, hj, rfl⟩ := List.mem_map.mp hw
  have hj := List.mem_range.mp hj
  exact (show ∀ a, a < 58 → u_lay RC11 TC11 a ∈ gTbl from (lt_s (lt_s (lt_s (lt_s (lt_s (lt_s (lt_s (lt_s (lt_s (lt_s (lt_s (lt_s (lt_s (lt_s (lt_s (lt_s (lt_s (lt_s (lt_s (lt_s (lt_s (lt_s (lt_s (lt_s (lt_s (lt_s (lt_s (lt_s (lt_s (lt_s (lt_s (lt_s (lt_s (lt_s (lt_s (lt_s (lt_s (lt_s (lt_s (lt_s (lt_s (lt_s (lt_s (lt_s (lt_s (lt_s (lt_s (lt_s (lt_s (lt_s (lt_s (lt_s (lt_s (lt_s (lt_s (lt_s (lt_s (lt_s lt_0 (tb_w 1305 rfl rfl)) (tb_w 1307 rfl rfl)) (tb_w 1309 rfl rfl)) (tb_w 1311 rfl rfl)) (tb_w 1313 rfl rfl)) (tb_w 1315 rfl rfl)) (tb_w 1317 rfl rfl)) (tb_w 1319 rfl rfl)) (tb_w 1321 rfl rfl)) (tb_w 1323 rfl rfl)) (tb_w 1325 rfl rfl)) (tb_w 1327 rfl rfl)) (tb_w 1329 rfl rfl)) (tb_w 1331 rfl rfl)) (tb_w 1333 rfl rfl)) (tb_w 1335 rfl rfl)) (tb_w 1337 rfl rfl)) (tb_w 1339 rfl rfl)) (tb_w 1341 rfl rfl)) (tb_w 1343 rfl rfl)) (tb_w 1345 rfl rfl)) (tb_w 1347 rfl rfl)) (tb_w 1349 rfl rfl)) (tb_w 1351 rfl rfl)) (tb_w 1353 rfl rfl)) (tb_w 1355 rfl rfl)) (tb_w 1357 rfl rfl)) (tb_w 1359 rfl rfl)) (tb_w 1361 rfl rfl)) (tb_w 1363 rfl rfl)) (tb_w 1365 rfl rfl)) (tb_w 1367 rfl rfl)) (tb_w 1369 rfl rfl)) (tb_w 1371 rfl rfl)) (tb_w 1373 rfl rfl)) (tb_w 1375 rfl rfl)) (tb_w 1377 rfl rfl)) (tb_w 1379 rfl rfl)) (tb_w 1381 rfl rfl)) (tb_w 1383 rfl rfl)) (tb_w 1385 rfl rfl)) (tb_w 1387 rfl rfl)) (tb_w 1389 rfl rfl)) (tb_w 1391 rfl rfl)) (tb_w 1393 rfl rfl)) (tb_w 1395 rfl rfl)) (tb_w 1397 rfl rfl)) (tb_w 1399 rfl rfl)) (tb_w 1401 rfl rfl)) (tb_w 1403 rfl rfl)) (tb_w 1405 rfl rfl)) (tb_w 1407 rfl rfl)) (tb_w 1409 rfl rfl)) (tb_w 1411 rfl rfl)) (tb_w 1413 rfl rfl)) (tb_w 1415 rfl rfl)) (tb_w 1417 rfl rfl)) (tb_w 1419 rfl rfl))) j hj
