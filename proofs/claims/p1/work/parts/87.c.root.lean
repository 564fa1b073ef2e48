/-! PRINTED by wip/p1/gen84.py: root on the fresh heap: p below 3, 3 .. 47 one by one, above; from 29 on by pieces of n -/
theorem cas_root_41a : se_cas 20000 [(se_mn, se_mx), (43, 43), (se_mn, 11), (se_mn, se_mx), (se_mn, se_mx), (se_mn, se_mx)] 552 = true := by decide +kernel
theorem cas_root_41b : se_cas 20000 [(se_mn, se_mx), (43, 43), (12, 23), (se_mn, se_mx), (se_mn, se_mx), (se_mn, se_mx)] 552 = true := by decide +kernel
theorem cas_root_41c : se_cas 20000 [(se_mn, se_mx), (43, 43), (24, 35), (se_mn, se_mx), (se_mn, se_mx), (se_mn, se_mx)] 552 = true := by decide +kernel
theorem cas_root_41d : se_cas 20000 [(se_mn, se_mx), (43, 43), (36, se_mx), (se_mn, se_mx), (se_mn, se_mx), (se_mn, se_mx)] 552 = true := by decide +kernel
theorem cas_root_45a : se_cas 20000 [(se_mn, se_mx), (47, 47), (se_mn, 11), (se_mn, se_mx), (se_mn, se_mx), (se_mn, se_mx)] 552 = true := by decide +kernel
theorem cas_root_45b : se_cas 20000 [(se_mn, se_mx), (47, 47), (12, 23), (se_mn, se_mx), (se_mn, se_mx), (se_mn, se_mx)] 552 = true := by decide +kernel
theorem cas_root_45c : se_cas 20000 [(se_mn, se_mx), (47, 47), (24, 35), (se_mn, se_mx), (se_mn, se_mx), (se_mn, se_mx)] 552 = true := by decide +kernel
theorem cas_root_45d : se_cas 20000 [(se_mn, se_mx), (47, 47), (36, se_mx), (se_mn, se_mx), (se_mn, se_mx), (se_mn, se_mx)] 552 = true := by decide +kernel
