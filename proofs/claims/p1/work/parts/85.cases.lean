def se_fin2 (lv st : List se_V) (_ : se_H) (cs : Nat × Nat) : Bool := se_lw lv st cs
abbrev g_B : se_E := [(se_mn, se_mx), (se_mn, se_mx), (se_mn, se_mx), (se_mn, se_mx), (se_mn, se_mx), (se_mn, se_mx)]
/-- from a case of the law to the end of its switch -/
def se_cas (f : Nat) (σ : se_E) (pc : Nat) : Bool := se_run (g_P []) 6 1321 se_fin2 f σ 0 pc g_lv [] g_H1 g_c1 []
theorem cas_slide : se_cas 20000 g_B 816 = true := by decide +kernel
