/-! PRINTED by wip/p1/gen84.py: each call on the fresh heap -/
def se_fin2 (_ : se_E) (m pc : Nat) (lv st : List se_V) (_ : se_H) (cs : Nat × Nat) (fs : List se_F) : Bool := se_at 1321 m pc fs && se_lw lv st cs
abbrev g_B : se_E := [(se_mn, se_mx), (se_mn, se_mx), (se_mn, se_mx), (se_mn, se_mx), (se_mn, se_mx), (se_mn, se_mx)]
/-- from a case of the law to the end of its switch -/
def se_cas (f : Nat) (σ : se_E) (pc : Nat) : Bool := se_run (g_P []) 6 (se_stp 1321) se_fin2 f σ 0 pc g_lv [] g_H1 g_c1 []
theorem cas_status : se_cas 20000 g_B 192 = true := by decide +kernel
theorem cas_feed : se_cas 20000 g_B 205 = true := by decide +kernel
theorem cas_fault : se_cas 20000 g_B 291 = true := by decide +kernel
theorem cas_many : se_cas 20000 g_B 314 = true := by decide +kernel
theorem cas_plate : se_cas 20000 g_B 337 = true := by decide +kernel
theorem cas_cell : se_cas 20000 g_B 370 = true := by decide +kernel
theorem cas_differences : se_cas 20000 g_B 423 = true := by decide +kernel
theorem cas_window : se_cas 20000 g_B 456 = true := by decide +kernel
theorem cas_alike : se_cas 20000 g_B 519 = true := by decide +kernel
theorem cas_thing : se_cas 20000 g_B 585 = true := by decide +kernel
theorem cas_add : se_cas 20000 g_B 628 = true := by decide +kernel
theorem cas_drop : se_cas 20000 g_B 681 = true := by decide +kernel
theorem cas_lose : se_cas 20000 g_B 714 = true := by decide +kernel
theorem cas_heal : se_cas 20000 g_B 747 = true := by decide +kernel
theorem cas_light : se_cas 20000 g_B 770 = true := by decide +kernel
theorem cas_use : se_cas 20000 g_B 793 = true := by decide +kernel
theorem cas_slide : se_cas 20000 g_B 816 = true := by decide +kernel
theorem cas_undo : se_cas 20000 g_B 849 = true := by decide +kernel
theorem cas_at : se_cas 20000 g_B 862 = true := by decide +kernel
theorem cas_all : se_cas 20000 g_B 905 = true := by decide +kernel
theorem cas_peak : se_cas 20000 g_B 928 = true := by decide +kernel
theorem cas_found : se_cas 20000 g_B 951 = true := by decide +kernel
theorem cas_frames : se_cas 20000 g_B 984 = true := by decide +kernel
theorem cas_filled : se_cas 20000 g_B 1037 = true := by decide +kernel
theorem cas_coarse : se_cas 20000 g_B 1060 = true := by decide +kernel
theorem cas_anti : se_cas 20000 g_B 1093 = true := by decide +kernel
theorem cas_keep : se_cas 20000 g_B 1126 = true := by decide +kernel
theorem cas_match : se_cas 20000 g_B 1139 = true := by decide +kernel
theorem cas_minus : se_cas 20000 g_B 1163 = true := by decide +kernel
theorem cas_shots : se_cas 20000 g_B 1196 = true := by decide +kernel
theorem cas_best : se_cas 20000 g_B 1239 = true := by decide +kernel
theorem cas_worst : se_cas 20000 g_B 1262 = true := by decide +kernel
theorem cas_print : se_cas 20000 g_B 1285 = true := by decide +kernel
theorem cas_out : se_cas 20000 g_B 1298 = true := by decide +kernel
