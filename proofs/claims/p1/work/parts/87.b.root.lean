/-! PRINTED by wip/p1/gen84.py: root on the fresh heap: p below 3, 3 .. 47 one by one, above; from 29 on by pieces of n -/
theorem cas_root_27a : se_cas 20000 [(se_mn, se_mx), (29, 29), (se_mn, 11), (se_mn, se_mx), (se_mn, se_mx), (se_mn, se_mx)] 552 = true := by decide +kernel
theorem cas_root_27b : se_cas 20000 [(se_mn, se_mx), (29, 29), (12, 23), (se_mn, se_mx), (se_mn, se_mx), (se_mn, se_mx)] 552 = true := by decide +kernel
theorem cas_root_27c : se_cas 20000 [(se_mn, se_mx), (29, 29), (24, 35), (se_mn, se_mx), (se_mn, se_mx), (se_mn, se_mx)] 552 = true := by decide +kernel
theorem cas_root_27d : se_cas 20000 [(se_mn, se_mx), (29, 29), (36, se_mx), (se_mn, se_mx), (se_mn, se_mx), (se_mn, se_mx)] 552 = true := by decide +kernel
theorem cas_root_29a : se_cas 20000 [(se_mn, se_mx), (31, 31), (se_mn, 11), (se_mn, se_mx), (se_mn, se_mx), (se_mn, se_mx)] 552 = true := by decide +kernel
theorem cas_root_29b : se_cas 20000 [(se_mn, se_mx), (31, 31), (12, 23), (se_mn, se_mx), (se_mn, se_mx), (se_mn, se_mx)] 552 = true := by decide +kernel
theorem cas_root_29c : se_cas 20000 [(se_mn, se_mx), (31, 31), (24, 35), (se_mn, se_mx), (se_mn, se_mx), (se_mn, se_mx)] 552 = true := by decide +kernel
theorem cas_root_29d : se_cas 20000 [(se_mn, se_mx), (31, 31), (36, se_mx), (se_mn, se_mx), (se_mn, se_mx), (se_mn, se_mx)] 552 = true := by decide +kernel
theorem cas_root_35a : se_cas 20000 [(se_mn, se_mx), (37, 37), (se_mn, 11), (se_mn, se_mx), (se_mn, se_mx), (se_mn, se_mx)] 552 = true := by decide +kernel
theorem cas_root_35b : se_cas 20000 [(se_mn, se_mx), (37, 37), (12, 23), (se_mn, se_mx), (se_mn, se_mx), (se_mn, se_mx)] 552 = true := by decide +kernel
theorem cas_root_35c : se_cas 20000 [(se_mn, se_mx), (37, 37), (24, 35), (se_mn, se_mx), (se_mn, se_mx), (se_mn, se_mx)] 552 = true := by decide +kernel
theorem cas_root_35d : se_cas 20000 [(se_mn, se_mx), (37, 37), (36, se_mx), (se_mn, se_mx), (se_mn, se_mx), (se_mn, se_mx)] 552 = true := by decide +kernel
theorem cas_root_39a : se_cas 20000 [(se_mn, se_mx), (41, 41), (se_mn, 11), (se_mn, se_mx), (se_mn, se_mx), (se_mn, se_mx)] 552 = true := by decide +kernel
theorem cas_root_39b : se_cas 20000 [(se_mn, se_mx), (41, 41), (12, 23), (se_mn, se_mx), (se_mn, se_mx), (se_mn, se_mx)] 552 = true := by decide +kernel
theorem cas_root_39c : se_cas 20000 [(se_mn, se_mx), (41, 41), (24, 35), (se_mn, se_mx), (se_mn, se_mx), (se_mn, se_mx)] 552 = true := by decide +kernel
theorem cas_root_39d : se_cas 20000 [(se_mn, se_mx), (41, 41), (36, se_mx), (se_mn, se_mx), (se_mn, se_mx), (se_mn, se_mx)] 552 = true := by decide +kernel
