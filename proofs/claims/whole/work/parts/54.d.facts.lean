set_option maxRecDepth 20000 in
theorem hml_0 : ∀ e ∈ gML_0, pm_lk1 gTbl g_y gNst (g_cn 0) e.1 e.2 ∧ (9000 < e.2 → Jvm.Cond.methodLink (g_cn 0) e.1 (g_y e.2) ∈ gTbl) := by
  refine List.forall_mem_cons.mpr ⟨⟨Or.inl (tb_w 22 rfl rfl), fun h => absurd h (by decide)⟩, ?_⟩
  refine List.forall_mem_cons.mpr ⟨⟨Or.inl (tb_w 1230 rfl rfl), fun h => absurd h (by decide)⟩, ?_⟩
  refine List.forall_mem_cons.mpr ⟨⟨Or.inl (tb_w 427 rfl rfl), fun h => absurd h (by decide)⟩, ?_⟩
  refine List.forall_mem_cons.mpr ⟨⟨Or.inl (tb_w 1424 rfl rfl), fun h => absurd h (by decide)⟩, ?_⟩
  refine List.forall_mem_cons.mpr ⟨⟨Or.inl (tb_w 431 rfl rfl), fun h => absurd h (by decide)⟩, ?_⟩
  refine List.forall_mem_cons.mpr ⟨⟨Or.inl (tb_w 1779 rfl rfl), fun h => absurd h (by decide)⟩, ?_⟩
  refine List.forall_mem_cons.mpr ⟨⟨Or.inl (tb_w 443 rfl rfl), fun h => absurd h (by decide)⟩, ?_⟩
  refine List.forall_mem_cons.mpr ⟨⟨Or.inl (tb_w 1787 rfl rfl), fun h => absurd h (by decide)⟩, ?_⟩
  refine List.forall_mem_cons.mpr ⟨⟨Or.inl (tb_w 756 rfl rfl), fun h => absurd h (by decide)⟩, ?_⟩
  refine List.forall_mem_cons.mpr ⟨⟨Or.inl (tb_w 1902 rfl rfl), fun h => absurd h (by decide)⟩, ?_⟩
  refine List.forall_mem_cons.mpr ⟨⟨Or.inl (tb_w 760 rfl rfl), fun h => absurd h (by decide)⟩, ?_⟩
  refine List.forall_mem_cons.mpr ⟨⟨Or.inl (tb_w 1428 rfl rfl), fun h => absurd h (by decide)⟩, ?_⟩
  refine List.forall_mem_cons.mpr ⟨⟨Or.inl (tb_w 764 rfl rfl), fun h => absurd h (by decide)⟩, ?_⟩
  refine List.forall_mem_cons.mpr ⟨⟨Or.inl (tb_w 1440 rfl rfl), fun h => absurd h (by decide)⟩, ?_⟩
  refine List.forall_mem_cons.mpr ⟨⟨Or.inl (tb_w 791 rfl rfl), fun h => absurd h (by decide)⟩, ?_⟩
  refine List.forall_mem_cons.mpr ⟨⟨Or.inl (tb_w 1496 rfl rfl), fun h => absurd h (by decide)⟩, ?_⟩
  refine List.forall_mem_cons.mpr ⟨⟨Or.inl (tb_w 797 rfl rfl), fun h => absurd h (by decide)⟩, ?_⟩
  refine List.forall_mem_cons.mpr ⟨⟨Or.inl (tb_w 1525 rfl rfl), fun h => absurd h (by decide)⟩, ?_⟩
  refine List.forall_mem_cons.mpr ⟨⟨Or.inl (tb_w 808 rfl rfl), fun h => absurd h (by decide)⟩, ?_⟩
  refine List.forall_mem_cons.mpr ⟨⟨Or.inl (tb_w 1533 rfl rfl), fun h => absurd h (by decide)⟩, ?_⟩
  refine List.forall_mem_cons.mpr ⟨⟨Or.inl (tb_w 816 rfl rfl), fun h => absurd h (by decide)⟩, ?_⟩
  refine List.forall_mem_cons.mpr ⟨⟨Or.inl (tb_w 1505 rfl rfl), fun h => absurd h (by decide)⟩, ?_⟩
  refine List.forall_mem_cons.mpr ⟨⟨Or.inl (tb_w 829 rfl rfl), fun h => absurd h (by decide)⟩, ?_⟩
  refine List.forall_mem_cons.mpr ⟨⟨Or.inl (tb_w 1513 rfl rfl), fun h => absurd h (by decide)⟩, ?_⟩
  refine List.forall_mem_cons.mpr ⟨⟨Or.inl (tb_w 835 rfl rfl), fun h => absurd h (by decide)⟩, ?_⟩
  refine List.forall_mem_cons.mpr ⟨⟨Or.inl (tb_w 1538 rfl rfl), fun h => absurd h (by decide)⟩, ?_⟩
  refine List.forall_mem_cons.mpr ⟨⟨Or.inl (tb_w 847 rfl rfl), fun h => absurd h (by decide)⟩, ?_⟩
  refine List.forall_mem_cons.mpr ⟨⟨Or.inl (tb_w 1552 rfl rfl), fun h => absurd h (by decide)⟩, ?_⟩
  refine List.forall_mem_cons.mpr ⟨⟨Or.inl (tb_w 876 rfl rfl), fun h => absurd h (by decide)⟩, ?_⟩
  refine List.forall_mem_cons.mpr ⟨⟨Or.inl (tb_w 1565 rfl rfl), fun h => absurd h (by decide)⟩, ?_⟩
  refine List.forall_mem_cons.mpr ⟨⟨Or.inl (tb_w 889 rfl rfl), fun h => absurd h (by decide)⟩, ?_⟩
  refine List.forall_mem_cons.mpr ⟨⟨Or.inl (tb_w 1573 rfl rfl), fun h => absurd h (by decide)⟩, ?_⟩
  refine List.forall_mem_cons.mpr ⟨⟨Or.inl (tb_w 897 rfl rfl), fun h => absurd h (by decide)⟩, ?_⟩
  refine List.forall_mem_cons.mpr ⟨⟨Or.inl (tb_w 1577 rfl rfl), fun h => absurd h (by decide)⟩, ?_⟩
  refine List.forall_mem_cons.mpr ⟨⟨Or.inl (tb_w 901 rfl rfl), fun h => absurd h (by decide)⟩, ?_⟩
  refine List.forall_mem_cons.mpr ⟨⟨Or.inl (tb_w 1581 rfl rfl), fun h => absurd h (by decide)⟩, ?_⟩
  refine List.forall_mem_cons.mpr ⟨⟨Or.inl (tb_w 905 rfl rfl), fun h => absurd h (by decide)⟩, ?_⟩
  refine List.forall_mem_cons.mpr ⟨⟨Or.inl (tb_w 1589 rfl rfl), fun h => absurd h (by decide)⟩, ?_⟩
  refine List.forall_mem_cons.mpr ⟨⟨Or.inl (tb_w 909 rfl rfl), fun h => absurd h (by decide)⟩, ?_⟩
  refine List.forall_mem_cons.mpr ⟨⟨Or.inl (tb_w 1593 rfl rfl), fun h => absurd h (by decide)⟩, ?_⟩
  refine List.forall_mem_cons.mpr ⟨⟨Or.inl (tb_w 917 rfl rfl), fun h => absurd h (by decide)⟩, ?_⟩
  refine List.forall_mem_cons.mpr ⟨⟨Or.inl (tb_w 1597 rfl rfl), fun h => absurd h (by decide)⟩, ?_⟩
  refine List.forall_mem_cons.mpr ⟨⟨Or.inl (tb_w 925 rfl rfl), fun h => absurd h (by decide)⟩, ?_⟩
  refine List.forall_mem_cons.mpr ⟨⟨Or.inl (tb_w 1601 rfl rfl), fun h => absurd h (by decide)⟩, ?_⟩
  refine List.forall_mem_cons.mpr ⟨⟨Or.inl (tb_w 1009 rfl rfl), fun h => absurd h (by decide)⟩, ?_⟩
  refine List.forall_mem_cons.mpr ⟨⟨Or.inl (tb_w 1673 rfl rfl), fun h => absurd h (by decide)⟩, ?_⟩
  refine List.forall_mem_cons.mpr ⟨⟨Or.inl (tb_w 1033 rfl rfl), fun h => absurd h (by decide)⟩, ?_⟩
  refine List.forall_mem_cons.mpr ⟨⟨Or.inl (tb_w 1697 rfl rfl), fun h => absurd h (by decide)⟩, ?_⟩
  refine List.forall_mem_cons.mpr ⟨⟨Or.inl (tb_w 1054 rfl rfl), fun h => absurd h (by decide)⟩, ?_⟩
  refine List.forall_mem_cons.mpr ⟨⟨Or.inl (tb_w 1705 rfl rfl), fun h => absurd h (by decide)⟩, ?_⟩
  refine List.forall_mem_cons.mpr ⟨⟨Or.inl (tb_w 1077 rfl rfl), fun h => absurd h (by decide)⟩, ?_⟩
  refine List.forall_mem_cons.mpr ⟨⟨Or.inl (tb_w 1729 rfl rfl), fun h => absurd h (by decide)⟩, ?_⟩
  refine List.forall_mem_cons.mpr ⟨⟨Or.inl (tb_w 1093 rfl rfl), fun h => absurd h (by decide)⟩, ?_⟩
  refine List.forall_mem_cons.mpr ⟨⟨Or.inl (tb_w 1717 rfl rfl), fun h => absurd h (by decide)⟩, ?_⟩
  refine List.forall_mem_cons.mpr ⟨⟨Or.inl (tb_w 1114 rfl rfl), fun h => absurd h (by decide)⟩, ?_⟩
  refine List.forall_mem_cons.mpr ⟨⟨Or.inl (tb_w 1725 rfl rfl), fun h => absurd h (by decide)⟩, ?_⟩
  refine List.forall_mem_cons.mpr ⟨⟨Or.inl (tb_w 1119 rfl rfl), fun h => absurd h (by decide)⟩, ?_⟩
  refine List.forall_mem_cons.mpr ⟨⟨Or.inl (tb_w 1734 rfl rfl), fun h => absurd h (by decide)⟩, ?_⟩
  refine List.forall_mem_cons.mpr ⟨⟨Or.inl (tb_w 1127 rfl rfl), fun h => absurd h (by decide)⟩, ?_⟩
  refine List.forall_mem_cons.mpr ⟨⟨Or.inl (tb_w 1738 rfl rfl), fun h => absurd h (by decide)⟩, ?_⟩
  refine List.forall_mem_cons.mpr ⟨⟨Or.inl (tb_w 1136 rfl rfl), fun h => absurd h (by decide)⟩, ?_⟩
  refine List.forall_mem_cons.mpr ⟨⟨Or.inl (tb_w 1742 rfl rfl), fun h => absurd h (by decide)⟩, ?_⟩
  refine List.forall_mem_cons.mpr ⟨⟨Or.inl (tb_w 1154 rfl rfl), fun h => absurd h (by decide)⟩, ?_⟩
  refine List.forall_mem_cons.mpr ⟨⟨Or.inl (tb_w 1755 rfl rfl), fun h => absurd h (by decide)⟩, ?_⟩
  refine List.forall_mem_cons.mpr ⟨⟨Or.inl (tb_w 1159 rfl rfl), fun h => absurd h (by decide)⟩, ?_⟩
  refine List.forall_mem_cons.mpr ⟨⟨Or.inl (tb_w 1759 rfl rfl), fun h => absurd h (by decide)⟩, ?_⟩
  refine List.forall_mem_cons.mpr ⟨⟨Or.inl (tb_w 1179 rfl rfl), fun h => absurd h (by decide)⟩, ?_⟩
  refine List.forall_mem_cons.mpr ⟨⟨Or.inl (tb_w 1771 rfl rfl), fun h => absurd h (by decide)⟩, ?_⟩
  refine List.forall_mem_cons.mpr ⟨⟨Or.inl (tb_w 1183 rfl rfl), fun h => absurd h (by decide)⟩, ?_⟩
  refine List.forall_mem_cons.mpr ⟨⟨Or.inl (tb_w 1775 rfl rfl), fun h => absurd h (by decide)⟩, ?_⟩
  refine List.forall_mem_cons.mpr ⟨⟨Or.inl (tb_w 1191 rfl rfl), fun h => absurd h (by decide)⟩, ?_⟩
  refine List.forall_mem_cons.mpr ⟨⟨Or.inl (tb_w 1906 rfl rfl), fun h => absurd h (by decide)⟩, ?_⟩
  refine List.forall_mem_cons.mpr ⟨⟨Or.inl (tb_w 1224 rfl rfl), fun h => absurd h (by decide)⟩, ?_⟩
  refine List.forall_mem_cons.mpr ⟨⟨Or.inl (tb_w 1934 rfl rfl), fun h => absurd h (by decide)⟩, ?_⟩
  exact fun e he => absurd he List.not_mem_nil
set_option maxRecDepth 20000 in
theorem hml_1 : ∀ e ∈ gML_1, pm_lk1 gTbl g_y gNst (g_cn 1) e.1 e.2 ∧ (9000 < e.2 → Jvm.Cond.methodLink (g_cn 1) e.1 (g_y e.2) ∈ gTbl) := by
  refine List.forall_mem_cons.mpr ⟨⟨Or.inr ⟨_, (nb_w 30 (List.mem_of_getElem? (i := 0) rfl) rfl)⟩, fun h => absurd h (by decide)⟩, ?_⟩
  refine List.forall_mem_cons.mpr ⟨⟨Or.inr ⟨_, (nb_w 52 (List.mem_of_getElem? (i := 6) rfl) rfl)⟩, fun h => absurd h (by decide)⟩, ?_⟩
  refine List.forall_mem_cons.mpr ⟨⟨Or.inr ⟨_, (nb_w 106 (List.mem_of_getElem? (i := 15) rfl) rfl)⟩, fun h => absurd h (by decide)⟩, ?_⟩
  refine List.forall_mem_cons.mpr ⟨⟨Or.inr ⟨_, (nb_w 193 (List.mem_of_getElem? (i := 47) rfl) rfl)⟩, fun h => absurd h (by decide)⟩, ?_⟩
  refine List.forall_mem_cons.mpr ⟨⟨Or.inr ⟨_, (nb_w 218 (List.mem_of_getElem? (i := 51) rfl) rfl)⟩, fun h => absurd h (by decide)⟩, ?_⟩
  refine List.forall_mem_cons.mpr ⟨⟨Or.inr ⟨_, (nb_w 314 (List.mem_of_getElem? (i := 85) rfl) rfl)⟩, fun h => absurd h (by decide)⟩, ?_⟩
  refine List.forall_mem_cons.mpr ⟨⟨Or.inr ⟨_, (nb_w 435 (List.mem_of_getElem? (i := 97) rfl) rfl)⟩, fun h => absurd h (by decide)⟩, ?_⟩
  refine List.forall_mem_cons.mpr ⟨⟨Or.inl (tb_w 447 rfl rfl), fun h => absurd h (by decide)⟩, ?_⟩
  refine List.forall_mem_cons.mpr ⟨⟨Or.inr ⟨_, (nb_w 451 (List.mem_of_getElem? (i := 98) rfl) rfl)⟩, fun h => absurd h (by decide)⟩, ?_⟩
  refine List.forall_mem_cons.mpr ⟨⟨Or.inr ⟨_, (nb_w 738 (List.mem_of_getElem? (i := 127) rfl) rfl)⟩, fun h => absurd h (by decide)⟩, ?_⟩
  refine List.forall_mem_cons.mpr ⟨⟨Or.inr ⟨_, (nb_w 739 (List.mem_of_getElem? (i := 128) rfl) rfl)⟩, fun h => absurd h (by decide)⟩, ?_⟩
  refine List.forall_mem_cons.mpr ⟨⟨Or.inr ⟨_, (nb_w 743 (List.mem_of_getElem? (i := 129) rfl) rfl)⟩, fun h => absurd h (by decide)⟩, ?_⟩
  refine List.forall_mem_cons.mpr ⟨⟨Or.inr ⟨_, (nb_w 747 (List.mem_of_getElem? (i := 130) rfl) rfl)⟩, fun h => absurd h (by decide)⟩, ?_⟩
  refine List.forall_mem_cons.mpr ⟨⟨Or.inl (tb_w 751 rfl rfl), fun h => absurd h (by decide)⟩, ?_⟩
  refine List.forall_mem_cons.mpr ⟨⟨Or.inl (tb_w 515 rfl rfl), fun _ => (tb_w 515 rfl rfl)⟩, ?_⟩
  refine List.forall_mem_cons.mpr ⟨⟨Or.inl (tb_w 525 rfl rfl), fun _ => (tb_w 525 rfl rfl)⟩, ?_⟩
  refine List.forall_mem_cons.mpr ⟨⟨Or.inl (tb_w 563 rfl rfl), fun h => absurd h (by decide)⟩, ?_⟩
  refine List.forall_mem_cons.mpr ⟨⟨Or.inr ⟨_, (nb_w 768 (List.mem_of_getElem? (i := 131) rfl) rfl)⟩, fun h => absurd h (by decide)⟩, ?_⟩
  refine List.forall_mem_cons.mpr ⟨⟨Or.inr ⟨_, (nb_w 769 (List.mem_of_getElem? (i := 132) rfl) rfl)⟩, fun h => absurd h (by decide)⟩, ?_⟩
  refine List.forall_mem_cons.mpr ⟨⟨Or.inr ⟨_, (nb_w 795 (List.mem_of_getElem? (i := 133) rfl) rfl)⟩, fun h => absurd h (by decide)⟩, ?_⟩
  refine List.forall_mem_cons.mpr ⟨⟨Or.inr ⟨_, (nb_w 796 (List.mem_of_getElem? (i := 134) rfl) rfl)⟩, fun h => absurd h (by decide)⟩, ?_⟩
  refine List.forall_mem_cons.mpr ⟨⟨Or.inr ⟨_, (nb_w 801 (List.mem_of_getElem? (i := 135) rfl) rfl)⟩, fun h => absurd h (by decide)⟩, ?_⟩
  refine List.forall_mem_cons.mpr ⟨⟨Or.inr ⟨_, (nb_w 802 (List.mem_of_getElem? (i := 136) rfl) rfl)⟩, fun h => absurd h (by decide)⟩, ?_⟩
  refine List.forall_mem_cons.mpr ⟨⟨Or.inr ⟨_, (nb_w 803 (List.mem_of_getElem? (i := 137) rfl) rfl)⟩, fun h => absurd h (by decide)⟩, ?_⟩
  refine List.forall_mem_cons.mpr ⟨⟨Or.inr ⟨_, (nb_w 804 (List.mem_of_getElem? (i := 138) rfl) rfl)⟩, fun h => absurd h (by decide)⟩, ?_⟩
  refine List.forall_mem_cons.mpr ⟨⟨Or.inr ⟨_, (nb_w 812 (List.mem_of_getElem? (i := 139) rfl) rfl)⟩, fun h => absurd h (by decide)⟩, ?_⟩
  refine List.forall_mem_cons.mpr ⟨⟨Or.inr ⟨_, (nb_w 820 (List.mem_of_getElem? (i := 140) rfl) rfl)⟩, fun h => absurd h (by decide)⟩, ?_⟩
  refine List.forall_mem_cons.mpr ⟨⟨Or.inl (tb_w 833 rfl rfl), fun h => absurd h (by decide)⟩, ?_⟩
  refine List.forall_mem_cons.mpr ⟨⟨Or.inl (tb_w 834 rfl rfl), fun h => absurd h (by decide)⟩, ?_⟩
  refine List.forall_mem_cons.mpr ⟨⟨Or.inr ⟨_, (nb_w 839 (List.mem_of_getElem? (i := 141) rfl) rfl)⟩, fun h => absurd h (by decide)⟩, ?_⟩
  refine List.forall_mem_cons.mpr ⟨⟨Or.inr ⟨_, (nb_w 843 (List.mem_of_getElem? (i := 142) rfl) rfl)⟩, fun h => absurd h (by decide)⟩, ?_⟩
  refine List.forall_mem_cons.mpr ⟨⟨Or.inl (tb_w 851 rfl rfl), fun h => absurd h (by decide)⟩, ?_⟩
  refine List.forall_mem_cons.mpr ⟨⟨Or.inl (tb_w 854 rfl rfl), fun h => absurd h (by decide)⟩, ?_⟩
  refine List.forall_mem_cons.mpr ⟨⟨Or.inr ⟨_, (nb_w 857 (List.mem_of_getElem? (i := 143) rfl) rfl)⟩, fun h => absurd h (by decide)⟩, ?_⟩
  refine List.forall_mem_cons.mpr ⟨⟨Or.inl (tb_w 858 rfl rfl), fun h => absurd h (by decide)⟩, ?_⟩
  refine List.forall_mem_cons.mpr ⟨⟨Or.inr ⟨_, (nb_w 875 (List.mem_of_getElem? (i := 147) rfl) rfl)⟩, fun h => absurd h (by decide)⟩, ?_⟩
  refine List.forall_mem_cons.mpr ⟨⟨Or.inr ⟨_, (nb_w 862 (List.mem_of_getElem? (i := 144) rfl) rfl)⟩, fun h => absurd h (by decide)⟩, ?_⟩
  refine List.forall_mem_cons.mpr ⟨⟨Or.inl (tb_w 880 rfl rfl), fun h => absurd h (by decide)⟩, ?_⟩
  refine List.forall_mem_cons.mpr ⟨⟨Or.inr ⟨_, (nb_w 884 (List.mem_of_getElem? (i := 148) rfl) rfl)⟩, fun h => absurd h (by decide)⟩, ?_⟩
  refine List.forall_mem_cons.mpr ⟨⟨Or.inr ⟨_, (nb_w 893 (List.mem_of_getElem? (i := 149) rfl) rfl)⟩, fun h => absurd h (by decide)⟩, ?_⟩
  refine List.forall_mem_cons.mpr ⟨⟨Or.inr ⟨_, (nb_w 913 (List.mem_of_getElem? (i := 150) rfl) rfl)⟩, fun h => absurd h (by decide)⟩, ?_⟩
  refine List.forall_mem_cons.mpr ⟨⟨Or.inr ⟨_, (nb_w 921 (List.mem_of_getElem? (i := 151) rfl) rfl)⟩, fun h => absurd h (by decide)⟩, ?_⟩
  refine List.forall_mem_cons.mpr ⟨⟨Or.inl (tb_w 929 rfl rfl), fun h => absurd h (by decide)⟩, ?_⟩
  refine List.forall_mem_cons.mpr ⟨⟨Or.inl (tb_w 962 rfl rfl), fun h => absurd h (by decide)⟩, ?_⟩
  refine List.forall_mem_cons.mpr ⟨⟨Or.inr ⟨_, (nb_w 970 (List.mem_of_getElem? (i := 158) rfl) rfl)⟩, fun h => absurd h (by decide)⟩, ?_⟩
  refine List.forall_mem_cons.mpr ⟨⟨Or.inl (tb_w 933 rfl rfl), fun h => absurd h (by decide)⟩, ?_⟩
  refine List.forall_mem_cons.mpr ⟨⟨Or.inr ⟨_, (nb_w 937 (List.mem_of_getElem? (i := 152) rfl) rfl)⟩, fun h => absurd h (by decide)⟩, ?_⟩
  refine List.forall_mem_cons.mpr ⟨⟨Or.inr ⟨_, (nb_w 942 (List.mem_of_getElem? (i := 153) rfl) rfl)⟩, fun h => absurd h (by decide)⟩, ?_⟩
  refine List.forall_mem_cons.mpr ⟨⟨Or.inr ⟨_, (nb_w 966 (List.mem_of_getElem? (i := 157) rfl) rfl)⟩, fun h => absurd h (by decide)⟩, ?_⟩
  refine List.forall_mem_cons.mpr ⟨⟨Or.inr ⟨_, (nb_w 1013 (List.mem_of_getElem? (i := 160) rfl) rfl)⟩, fun h => absurd h (by decide)⟩, ?_⟩
  refine List.forall_mem_cons.mpr ⟨⟨Or.inr ⟨_, (nb_w 1037 (List.mem_of_getElem? (i := 161) rfl) rfl)⟩, fun h => absurd h (by decide)⟩, ?_⟩
  refine List.forall_mem_cons.mpr ⟨⟨Or.inr ⟨_, (nb_w 1038 (List.mem_of_getElem? (i := 162) rfl) rfl)⟩, fun h => absurd h (by decide)⟩, ?_⟩
  refine List.forall_mem_cons.mpr ⟨⟨Or.inr ⟨_, (nb_w 1046 (List.mem_of_getElem? (i := 163) rfl) rfl)⟩, fun h => absurd h (by decide)⟩, ?_⟩
  refine List.forall_mem_cons.mpr ⟨⟨Or.inr ⟨_, (nb_w 1058 (List.mem_of_getElem? (i := 165) rfl) rfl)⟩, fun h => absurd h (by decide)⟩, ?_⟩
  refine List.forall_mem_cons.mpr ⟨⟨Or.inr ⟨_, (nb_w 1076 (List.mem_of_getElem? (i := 169) rfl) rfl)⟩, fun h => absurd h (by decide)⟩, ?_⟩
  refine List.forall_mem_cons.mpr ⟨⟨Or.inr ⟨_, (nb_w 1081 (List.mem_of_getElem? (i := 170) rfl) rfl)⟩, fun h => absurd h (by decide)⟩, ?_⟩
  refine List.forall_mem_cons.mpr ⟨⟨Or.inr ⟨_, (nb_w 1097 (List.mem_of_getElem? (i := 172) rfl) rfl)⟩, fun h => absurd h (by decide)⟩, ?_⟩
  refine List.forall_mem_cons.mpr ⟨⟨Or.inr ⟨_, (nb_w 1106 (List.mem_of_getElem? (i := 173) rfl) rfl)⟩, fun h => absurd h (by decide)⟩, ?_⟩
  refine List.forall_mem_cons.mpr ⟨⟨Or.inr ⟨_, (nb_w 1110 (List.mem_of_getElem? (i := 174) rfl) rfl)⟩, fun h => absurd h (by decide)⟩, ?_⟩
  refine List.forall_mem_cons.mpr ⟨⟨Or.inl (tb_w 1118 rfl rfl), fun h => absurd h (by decide)⟩, ?_⟩
  refine List.forall_mem_cons.mpr ⟨⟨Or.inr ⟨_, (nb_w 1123 (List.mem_of_getElem? (i := 175) rfl) rfl)⟩, fun h => absurd h (by decide)⟩, ?_⟩
  refine List.forall_mem_cons.mpr ⟨⟨Or.inr ⟨_, (nb_w 1131 (List.mem_of_getElem? (i := 176) rfl) rfl)⟩, fun h => absurd h (by decide)⟩, ?_⟩
  refine List.forall_mem_cons.mpr ⟨⟨Or.inr ⟨_, (nb_w 1140 (List.mem_of_getElem? (i := 177) rfl) rfl)⟩, fun h => absurd h (by decide)⟩, ?_⟩
  refine List.forall_mem_cons.mpr ⟨⟨Or.inr ⟨_, (nb_w 1144 (List.mem_of_getElem? (i := 178) rfl) rfl)⟩, fun h => absurd h (by decide)⟩, ?_⟩
  refine List.forall_mem_cons.mpr ⟨⟨Or.inr ⟨_, (nb_w 1158 (List.mem_of_getElem? (i := 181) rfl) rfl)⟩, fun h => absurd h (by decide)⟩, ?_⟩
  refine List.forall_mem_cons.mpr ⟨⟨Or.inr ⟨_, (nb_w 1164 (List.mem_of_getElem? (i := 182) rfl) rfl)⟩, fun h => absurd h (by decide)⟩, ?_⟩
  refine List.forall_mem_cons.mpr ⟨⟨Or.inr ⟨_, (nb_w 1174 (List.mem_of_getElem? (i := 183) rfl) rfl)⟩, fun h => absurd h (by decide)⟩, ?_⟩
  refine List.forall_mem_cons.mpr ⟨⟨Or.inr ⟨_, (nb_w 1187 (List.mem_of_getElem? (i := 184) rfl) rfl)⟩, fun h => absurd h (by decide)⟩, ?_⟩
  refine List.forall_mem_cons.mpr ⟨⟨Or.inr ⟨_, (nb_w 1195 (List.mem_of_getElem? (i := 185) rfl) rfl)⟩, fun h => absurd h (by decide)⟩, ?_⟩
  refine List.forall_mem_cons.mpr ⟨⟨Or.inl (tb_w 1200 rfl rfl), fun h => absurd h (by decide)⟩, ?_⟩
  refine List.forall_mem_cons.mpr ⟨⟨Or.inr ⟨_, (nb_w 1204 (List.mem_of_getElem? (i := 186) rfl) rfl)⟩, fun h => absurd h (by decide)⟩, ?_⟩
  refine List.forall_mem_cons.mpr ⟨⟨Or.inr ⟨_, (nb_w 1211 (List.mem_of_getElem? (i := 187) rfl) rfl)⟩, fun h => absurd h (by decide)⟩, ?_⟩
  refine List.forall_mem_cons.mpr ⟨⟨Or.inr ⟨_, (nb_w 1215 (List.mem_of_getElem? (i := 188) rfl) rfl)⟩, fun h => absurd h (by decide)⟩, ?_⟩
  refine List.forall_mem_cons.mpr ⟨⟨Or.inr ⟨_, (nb_w 1220 (List.mem_of_getElem? (i := 189) rfl) rfl)⟩, fun h => absurd h (by decide)⟩, ?_⟩
  exact fun e he => absurd he List.not_mem_nil
set_option maxRecDepth 20000 in
theorem hml_2 : ∀ e ∈ gML_2, pm_lk1 gTbl g_y gNst (g_cn 2) e.1 e.2 ∧ (9000 < e.2 → Jvm.Cond.methodLink (g_cn 2) e.1 (g_y e.2) ∈ gTbl) := by
  refine List.forall_mem_cons.mpr ⟨⟨Or.inl (tb_w 34 rfl rfl), fun h => absurd h (by decide)⟩, ?_⟩
  refine List.forall_mem_cons.mpr ⟨⟨Or.inl (tb_w 439 rfl rfl), fun h => absurd h (by decide)⟩, ?_⟩
  refine List.forall_mem_cons.mpr ⟨⟨Or.inl (tb_w 1208 rfl rfl), fun h => absurd h (by decide)⟩, ?_⟩
  refine List.forall_mem_cons.mpr ⟨⟨Or.inl (tb_w 1209 rfl rfl), fun _ => (tb_w 1209 rfl rfl)⟩, ?_⟩
  refine List.forall_mem_cons.mpr ⟨⟨Or.inl (tb_w 1210 rfl rfl), fun _ => (tb_w 1210 rfl rfl)⟩, ?_⟩
  exact fun e he => absurd he List.not_mem_nil
set_option maxRecDepth 20000 in
theorem hml_4 : ∀ e ∈ gML_4, pm_lk1 gTbl g_y gNst (g_cn 4) e.1 e.2 ∧ (9000 < e.2 → Jvm.Cond.methodLink (g_cn 4) e.1 (g_y e.2) ∈ gTbl) := by
  refine List.forall_mem_cons.mpr ⟨⟨Or.inr ⟨_, (nb_w 58 (List.mem_of_getElem? (i := 7) rfl) rfl)⟩, fun h => absurd h (by decide)⟩, ?_⟩
  refine List.forall_mem_cons.mpr ⟨⟨Or.inr ⟨_, (nb_w 455 (List.mem_of_getElem? (i := 99) rfl) rfl)⟩, fun h => absurd h (by decide)⟩, ?_⟩
  refine List.forall_mem_cons.mpr ⟨⟨Or.inr ⟨_, (nb_w 467 (List.mem_of_getElem? (i := 102) rfl) rfl)⟩, fun h => absurd h (by decide)⟩, ?_⟩
  refine List.forall_mem_cons.mpr ⟨⟨Or.inl (tb_w 495 rfl rfl), fun h => absurd h (by decide)⟩, ?_⟩
  refine List.forall_mem_cons.mpr ⟨⟨Or.inl (tb_w 499 rfl rfl), fun h => absurd h (by decide)⟩, ?_⟩
  refine List.forall_mem_cons.mpr ⟨⟨Or.inr ⟨_, (nb_w 511 (List.mem_of_getElem? (i := 105) rfl) rfl)⟩, fun h => absurd h (by decide)⟩, ?_⟩
  refine List.forall_mem_cons.mpr ⟨⟨Or.inl (tb_w 572 rfl rfl), fun h => absurd h (by decide)⟩, ?_⟩
  refine List.forall_mem_cons.mpr ⟨⟨Or.inl (tb_w 585 rfl rfl), fun h => absurd h (by decide)⟩, ?_⟩
  refine List.forall_mem_cons.mpr ⟨⟨Or.inl (tb_w 589 rfl rfl), fun h => absurd h (by decide)⟩, ?_⟩
  refine List.forall_mem_cons.mpr ⟨⟨Or.inl (tb_w 602 rfl rfl), fun _ => (tb_w 602 rfl rfl)⟩, ?_⟩
  refine List.forall_mem_cons.mpr ⟨⟨Or.inl (tb_w 603 rfl rfl), fun _ => (tb_w 603 rfl rfl)⟩, ?_⟩
  refine List.forall_mem_cons.mpr ⟨⟨Or.inl (tb_w 604 rfl rfl), fun h => absurd h (by decide)⟩, ?_⟩
  refine List.forall_mem_cons.mpr ⟨⟨Or.inl (tb_w 665 rfl rfl), fun h => absurd h (by decide)⟩, ?_⟩
  refine List.forall_mem_cons.mpr ⟨⟨Or.inl (tb_w 720 rfl rfl), fun h => absurd h (by decide)⟩, ?_⟩
  refine List.forall_mem_cons.mpr ⟨⟨Or.inl (tb_w 729 rfl rfl), fun h => absurd h (by decide)⟩, ?_⟩
  refine List.forall_mem_cons.mpr ⟨⟨Or.inl (tb_w 503 rfl rfl), fun h => absurd h (by decide)⟩, ?_⟩
  refine List.forall_mem_cons.mpr ⟨⟨Or.inl (tb_w 507 rfl rfl), fun h => absurd h (by decide)⟩, ?_⟩
  refine List.forall_mem_cons.mpr ⟨⟨Or.inr ⟨_, (nb_w 564 (List.mem_of_getElem? (i := 106) rfl) rfl)⟩, fun h => absurd h (by decide)⟩, ?_⟩
  refine List.forall_mem_cons.mpr ⟨⟨Or.inr ⟨_, (nb_w 576 (List.mem_of_getElem? (i := 108) rfl) rfl)⟩, fun h => absurd h (by decide)⟩, ?_⟩
  refine List.forall_mem_cons.mpr ⟨⟨Or.inr ⟨_, (nb_w 580 (List.mem_of_getElem? (i := 109) rfl) rfl)⟩, fun h => absurd h (by decide)⟩, ?_⟩
  refine List.forall_mem_cons.mpr ⟨⟨Or.inl (tb_w 608 rfl rfl), fun h => absurd h (by decide)⟩, ?_⟩
  refine List.forall_mem_cons.mpr ⟨⟨Or.inl (tb_w 619 rfl rfl), fun h => absurd h (by decide)⟩, ?_⟩
  refine List.forall_mem_cons.mpr ⟨⟨Or.inl (tb_w 637 rfl rfl), fun h => absurd h (by decide)⟩, ?_⟩
  refine List.forall_mem_cons.mpr ⟨⟨Or.inl (tb_w 641 rfl rfl), fun h => absurd h (by decide)⟩, ?_⟩
  refine List.forall_mem_cons.mpr ⟨⟨Or.inl (tb_w 649 rfl rfl), fun h => absurd h (by decide)⟩, ?_⟩
  refine List.forall_mem_cons.mpr ⟨⟨Or.inr ⟨_, (nb_w 657 (List.mem_of_getElem? (i := 114) rfl) rfl)⟩, fun h => absurd h (by decide)⟩, ?_⟩
  refine List.forall_mem_cons.mpr ⟨⟨Or.inl (tb_w 661 rfl rfl), fun h => absurd h (by decide)⟩, ?_⟩
  refine List.forall_mem_cons.mpr ⟨⟨Or.inr ⟨_, (nb_w 612 (List.mem_of_getElem? (i := 110) rfl) rfl)⟩, fun h => absurd h (by decide)⟩, ?_⟩
  refine List.forall_mem_cons.mpr ⟨⟨Or.inl (tb_w 615 rfl rfl), fun h => absurd h (by decide)⟩, ?_⟩
  refine List.forall_mem_cons.mpr ⟨⟨Or.inr ⟨_, (nb_w 623 (List.mem_of_getElem? (i := 111) rfl) rfl)⟩, fun h => absurd h (by decide)⟩, ?_⟩
  refine List.forall_mem_cons.mpr ⟨⟨Or.inr ⟨_, (nb_w 645 (List.mem_of_getElem? (i := 112) rfl) rfl)⟩, fun h => absurd h (by decide)⟩, ?_⟩
  refine List.forall_mem_cons.mpr ⟨⟨Or.inr ⟨_, (nb_w 653 (List.mem_of_getElem? (i := 113) rfl) rfl)⟩, fun h => absurd h (by decide)⟩, ?_⟩
  refine List.forall_mem_cons.mpr ⟨⟨Or.inr ⟨_, (nb_w 669 (List.mem_of_getElem? (i := 115) rfl) rfl)⟩, fun h => absurd h (by decide)⟩, ?_⟩
  refine List.forall_mem_cons.mpr ⟨⟨Or.inr ⟨_, (nb_w 681 (List.mem_of_getElem? (i := 117) rfl) rfl)⟩, fun h => absurd h (by decide)⟩, ?_⟩
  refine List.forall_mem_cons.mpr ⟨⟨Or.inr ⟨_, (nb_w 685 (List.mem_of_getElem? (i := 118) rfl) rfl)⟩, fun h => absurd h (by decide)⟩, ?_⟩
  refine List.forall_mem_cons.mpr ⟨⟨Or.inr ⟨_, (nb_w 696 (List.mem_of_getElem? (i := 119) rfl) rfl)⟩, fun h => absurd h (by decide)⟩, ?_⟩
  refine List.forall_mem_cons.mpr ⟨⟨Or.inr ⟨_, (nb_w 700 (List.mem_of_getElem? (i := 120) rfl) rfl)⟩, fun h => absurd h (by decide)⟩, ?_⟩
  refine List.forall_mem_cons.mpr ⟨⟨Or.inr ⟨_, (nb_w 712 (List.mem_of_getElem? (i := 121) rfl) rfl)⟩, fun h => absurd h (by decide)⟩, ?_⟩
  refine List.forall_mem_cons.mpr ⟨⟨Or.inr ⟨_, (nb_w 713 (List.mem_of_getElem? (i := 122) rfl) rfl)⟩, fun h => absurd h (by decide)⟩, ?_⟩
  refine List.forall_mem_cons.mpr ⟨⟨Or.inr ⟨_, (nb_w 724 (List.mem_of_getElem? (i := 124) rfl) rfl)⟩, fun h => absurd h (by decide)⟩, ?_⟩
  refine List.forall_mem_cons.mpr ⟨⟨Or.inr ⟨_, (nb_w 728 (List.mem_of_getElem? (i := 125) rfl) rfl)⟩, fun h => absurd h (by decide)⟩, ?_⟩
  refine List.forall_mem_cons.mpr ⟨⟨Or.inr ⟨_, (nb_w 733 (List.mem_of_getElem? (i := 126) rfl) rfl)⟩, fun h => absurd h (by decide)⟩, ?_⟩
  exact fun e he => absurd he List.not_mem_nil
set_option maxRecDepth 20000 in
theorem hml_5 : ∀ e ∈ gML_5, pm_lk1 gTbl g_y gNst (g_cn 5) e.1 e.2 ∧ (9000 < e.2 → Jvm.Cond.methodLink (g_cn 5) e.1 (g_y e.2) ∈ gTbl) := by
  refine List.forall_mem_cons.mpr ⟨⟨Or.inl (tb_w 471 rfl rfl), fun h => absurd h (by decide)⟩, ?_⟩
  refine List.forall_mem_cons.mpr ⟨⟨Or.inl (tb_w 474 rfl rfl), fun h => absurd h (by decide)⟩, ?_⟩
  refine List.forall_mem_cons.mpr ⟨⟨Or.inl (tb_w 488 rfl rfl), fun h => absurd h (by decide)⟩, ?_⟩
  refine List.forall_mem_cons.mpr ⟨⟨Or.inr ⟨_, (nb_w 478 (List.mem_of_getElem? (i := 103) rfl) rfl)⟩, fun h => absurd h (by decide)⟩, ?_⟩
  refine List.forall_mem_cons.mpr ⟨⟨Or.inl (tb_w 482 rfl rfl), fun h => absurd h (by decide)⟩, ?_⟩
  refine List.forall_mem_cons.mpr ⟨⟨Or.inl (tb_w 492 rfl rfl), fun h => absurd h (by decide)⟩, ?_⟩
  refine List.forall_mem_cons.mpr ⟨⟨Or.inr ⟨_, (nb_w 485 (List.mem_of_getElem? (i := 104) rfl) rfl)⟩, fun h => absurd h (by decide)⟩, ?_⟩
  exact fun e he => absurd he List.not_mem_nil
set_option maxRecDepth 20000 in
theorem hml_6 : ∀ e ∈ gML_6, pm_lk1 gTbl g_y gNst (g_cn 6) e.1 e.2 ∧ (9000 < e.2 → Jvm.Cond.methodLink (g_cn 6) e.1 (g_y e.2) ∈ gTbl) := by
  refine List.forall_mem_cons.mpr ⟨⟨Or.inr ⟨_, (nb_w 113 (List.mem_of_getElem? (i := 17) rfl) rfl)⟩, fun h => absurd h (by decide)⟩, ?_⟩
  refine List.forall_mem_cons.mpr ⟨⟨Or.inr ⟨_, (nb_w 866 (List.mem_of_getElem? (i := 145) rfl) rfl)⟩, fun h => absurd h (by decide)⟩, ?_⟩
  exact fun e he => absurd he List.not_mem_nil
set_option maxRecDepth 20000 in
theorem hml_7 : ∀ e ∈ gML_7, pm_lk1 gTbl g_y gNst (g_cn 7) e.1 e.2 ∧ (9000 < e.2 → Jvm.Cond.methodLink (g_cn 7) e.1 (g_y e.2) ∈ gTbl) := by
  refine List.forall_mem_cons.mpr ⟨⟨Or.inr ⟨_, (nb_w 119 (List.mem_of_getElem? (i := 18) rfl) rfl)⟩, fun h => absurd h (by decide)⟩, ?_⟩
  refine List.forall_mem_cons.mpr ⟨⟨Or.inr ⟨_, (nb_w 870 (List.mem_of_getElem? (i := 146) rfl) rfl)⟩, fun h => absurd h (by decide)⟩, ?_⟩
  exact fun e he => absurd he List.not_mem_nil
set_option maxRecDepth 20000 in
theorem hml_8 : ∀ e ∈ gML_8, pm_lk1 gTbl g_y gNst (g_cn 8) e.1 e.2 ∧ (9000 < e.2 → Jvm.Cond.methodLink (g_cn 8) e.1 (g_y e.2) ∈ gTbl) := by
  refine List.forall_mem_cons.mpr ⟨⟨Or.inl (tb_w 123 rfl rfl), fun h => absurd h (by decide)⟩, ?_⟩
  refine List.forall_mem_cons.mpr ⟨⟨Or.inl (tb_w 737 rfl rfl), fun h => absurd h (by decide)⟩, ?_⟩
  refine List.forall_mem_cons.mpr ⟨⟨Or.inl (tb_w 874 rfl rfl), fun h => absurd h (by decide)⟩, ?_⟩
  refine List.forall_mem_cons.mpr ⟨⟨Or.inl (tb_w 888 rfl rfl), fun h => absurd h (by decide)⟩, ?_⟩
  exact fun e he => absurd he List.not_mem_nil
set_option maxRecDepth 20000 in
theorem hml_9 : ∀ e ∈ gML_9, pm_lk1 gTbl g_y gNst (g_cn 9) e.1 e.2 ∧ (9000 < e.2 → Jvm.Cond.methodLink (g_cn 9) e.1 (g_y e.2) ∈ gTbl) := by
  refine List.forall_mem_cons.mpr ⟨⟨Or.inl (tb_w 1148 rfl rfl), fun h => absurd h (by decide)⟩, ?_⟩
  refine List.forall_mem_cons.mpr ⟨⟨Or.inr ⟨_, (nb_w 1152 (List.mem_of_getElem? (i := 179) rfl) rfl)⟩, fun h => absurd h (by decide)⟩, ?_⟩
  refine List.forall_mem_cons.mpr ⟨⟨Or.inr ⟨_, (nb_w 1153 (List.mem_of_getElem? (i := 180) rfl) rfl)⟩, fun h => absurd h (by decide)⟩, ?_⟩
  exact fun e he => absurd he List.not_mem_nil
set_option maxRecDepth 20000 in
theorem hml_10 : ∀ e ∈ gML_10, pm_lk1 gTbl g_y gNst (g_cn 10) e.1 e.2 ∧ (9000 < e.2 → Jvm.Cond.methodLink (g_cn 10) e.1 (g_y e.2) ∈ gTbl) := by
  refine List.forall_mem_cons.mpr ⟨⟨Or.inr ⟨_, (nb_w 225 (List.mem_of_getElem? (i := 53) rfl) rfl)⟩, fun h => absurd h (by decide)⟩, ?_⟩
  refine List.forall_mem_cons.mpr ⟨⟨Or.inr ⟨_, (nb_w 227 (List.mem_of_getElem? (i := 54) rfl) rfl)⟩, fun h => absurd h (by decide)⟩, ?_⟩
  refine List.forall_mem_cons.mpr ⟨⟨Or.inr ⟨_, (nb_w 229 (List.mem_of_getElem? (i := 55) rfl) rfl)⟩, fun h => absurd h (by decide)⟩, ?_⟩
  refine List.forall_mem_cons.mpr ⟨⟨Or.inr ⟨_, (nb_w 459 (List.mem_of_getElem? (i := 100) rfl) rfl)⟩, fun h => absurd h (by decide)⟩, ?_⟩
  refine List.forall_mem_cons.mpr ⟨⟨Or.inr ⟨_, (nb_w 463 (List.mem_of_getElem? (i := 101) rfl) rfl)⟩, fun h => absurd h (by decide)⟩, ?_⟩
  refine List.forall_mem_cons.mpr ⟨⟨Or.inr ⟨_, (nb_w 568 (List.mem_of_getElem? (i := 107) rfl) rfl)⟩, fun h => absurd h (by decide)⟩, ?_⟩
  refine List.forall_mem_cons.mpr ⟨⟨Or.inl (tb_w 584 rfl rfl), fun h => absurd h (by decide)⟩, ?_⟩
  refine List.forall_mem_cons.mpr ⟨⟨Or.inl (tb_w 941 rfl rfl), fun h => absurd h (by decide)⟩, ?_⟩
  exact fun e he => absurd he List.not_mem_nil
set_option maxRecDepth 20000 in
theorem hml_11 : ∀ e ∈ gML_11, pm_lk1 gTbl g_y gNst (g_cn 11) e.1 e.2 ∧ (9000 < e.2 → Jvm.Cond.methodLink (g_cn 11) e.1 (g_y e.2) ∈ gTbl) := by
  refine List.forall_mem_cons.mpr ⟨⟨Or.inl (tb_w 627 rfl rfl), fun h => absurd h (by decide)⟩, ?_⟩
  refine List.forall_mem_cons.mpr ⟨⟨Or.inl (tb_w 631 rfl rfl), fun h => absurd h (by decide)⟩, ?_⟩
  refine List.forall_mem_cons.mpr ⟨⟨Or.inl (tb_w 673 rfl rfl), fun h => absurd h (by decide)⟩, ?_⟩
  refine List.forall_mem_cons.mpr ⟨⟨Or.inr ⟨_, (nb_w 674 (List.mem_of_getElem? (i := 116) rfl) rfl)⟩, fun h => absurd h (by decide)⟩, ?_⟩
  refine List.forall_mem_cons.mpr ⟨⟨Or.inl (tb_w 677 rfl rfl), fun h => absurd h (by decide)⟩, ?_⟩
  refine List.forall_mem_cons.mpr ⟨⟨Or.inl (tb_w 689 rfl rfl), fun h => absurd h (by decide)⟩, ?_⟩
  refine List.forall_mem_cons.mpr ⟨⟨Or.inl (tb_w 693 rfl rfl), fun h => absurd h (by decide)⟩, ?_⟩
  refine List.forall_mem_cons.mpr ⟨⟨Or.inl (tb_w 704 rfl rfl), fun h => absurd h (by decide)⟩, ?_⟩
  refine List.forall_mem_cons.mpr ⟨⟨Or.inl (tb_w 708 rfl rfl), fun h => absurd h (by decide)⟩, ?_⟩
  refine List.forall_mem_cons.mpr ⟨⟨Or.inr ⟨_, (nb_w 717 (List.mem_of_getElem? (i := 123) rfl) rfl)⟩, fun h => absurd h (by decide)⟩, ?_⟩
  refine List.forall_mem_cons.mpr ⟨⟨Or.inl (tb_w 773 rfl rfl), fun h => absurd h (by decide)⟩, ?_⟩
  refine List.forall_mem_cons.mpr ⟨⟨Or.inl (tb_w 777 rfl rfl), fun h => absurd h (by decide)⟩, ?_⟩
  refine List.forall_mem_cons.mpr ⟨⟨Or.inl (tb_w 781 rfl rfl), fun h => absurd h (by decide)⟩, ?_⟩
  refine List.forall_mem_cons.mpr ⟨⟨Or.inl (tb_w 786 rfl rfl), fun h => absurd h (by decide)⟩, ?_⟩
  refine List.forall_mem_cons.mpr ⟨⟨Or.inl (tb_w 785 rfl rfl), fun h => absurd h (by decide)⟩, ?_⟩
  refine List.forall_mem_cons.mpr ⟨⟨Or.inl (tb_w 790 rfl rfl), fun h => absurd h (by decide)⟩, ?_⟩
  refine List.forall_mem_cons.mpr ⟨⟨Or.inl (tb_w 824 rfl rfl), fun h => absurd h (by decide)⟩, ?_⟩
  refine List.forall_mem_cons.mpr ⟨⟨Or.inl (tb_w 828 rfl rfl), fun h => absurd h (by decide)⟩, ?_⟩
  refine List.forall_mem_cons.mpr ⟨⟨Or.inl (tb_w 982 rfl rfl), fun h => absurd h (by decide)⟩, ?_⟩
  exact fun e he => absurd he List.not_mem_nil
set_option maxRecDepth 20000 in
theorem hml_12 : ∀ e ∈ gML_12, pm_lk1 gTbl g_y gNst (g_cn 12) e.1 e.2 ∧ (9000 < e.2 → Jvm.Cond.methodLink (g_cn 12) e.1 (g_y e.2) ∈ gTbl) := by
  refine List.forall_mem_cons.mpr ⟨⟨Or.inl (tb_w 946 rfl rfl), fun h => absurd h (by decide)⟩, ?_⟩
  refine List.forall_mem_cons.mpr ⟨⟨Or.inl (tb_w 950 rfl rfl), fun h => absurd h (by decide)⟩, ?_⟩
  refine List.forall_mem_cons.mpr ⟨⟨Or.inl (tb_w 953 rfl rfl), fun h => absurd h (by decide)⟩, ?_⟩
  refine List.forall_mem_cons.mpr ⟨⟨Or.inl (tb_w 957 rfl rfl), fun h => absurd h (by decide)⟩, ?_⟩
  refine List.forall_mem_cons.mpr ⟨⟨Or.inr ⟨_, (nb_w 951 (List.mem_of_getElem? (i := 154) rfl) rfl)⟩, fun h => absurd h (by decide)⟩, ?_⟩
  refine List.forall_mem_cons.mpr ⟨⟨Or.inr ⟨_, (nb_w 952 (List.mem_of_getElem? (i := 155) rfl) rfl)⟩, fun h => absurd h (by decide)⟩, ?_⟩
  refine List.forall_mem_cons.mpr ⟨⟨Or.inr ⟨_, (nb_w 961 (List.mem_of_getElem? (i := 156) rfl) rfl)⟩, fun h => absurd h (by decide)⟩, ?_⟩
  refine List.forall_mem_cons.mpr ⟨⟨Or.inl (tb_w 974 rfl rfl), fun h => absurd h (by decide)⟩, ?_⟩
  refine List.forall_mem_cons.mpr ⟨⟨Or.inl (tb_w 986 rfl rfl), fun h => absurd h (by decide)⟩, ?_⟩
  refine List.forall_mem_cons.mpr ⟨⟨Or.inl (tb_w 990 rfl rfl), fun h => absurd h (by decide)⟩, ?_⟩
  refine List.forall_mem_cons.mpr ⟨⟨Or.inl (tb_w 994 rfl rfl), fun h => absurd h (by decide)⟩, ?_⟩
  refine List.forall_mem_cons.mpr ⟨⟨Or.inl (tb_w 1005 rfl rfl), fun h => absurd h (by decide)⟩, ?_⟩
  refine List.forall_mem_cons.mpr ⟨⟨Or.inr ⟨_, (nb_w 978 (List.mem_of_getElem? (i := 159) rfl) rfl)⟩, fun h => absurd h (by decide)⟩, ?_⟩
  refine List.forall_mem_cons.mpr ⟨⟨Or.inl (tb_w 998 rfl rfl), fun h => absurd h (by decide)⟩, ?_⟩
  refine List.forall_mem_cons.mpr ⟨⟨Or.inl (tb_w 1002 rfl rfl), fun h => absurd h (by decide)⟩, ?_⟩
  refine List.forall_mem_cons.mpr ⟨⟨Or.inl (tb_w 1017 rfl rfl), fun h => absurd h (by decide)⟩, ?_⟩
  refine List.forall_mem_cons.mpr ⟨⟨Or.inl (tb_w 1024 rfl rfl), fun h => absurd h (by decide)⟩, ?_⟩
  refine List.forall_mem_cons.mpr ⟨⟨Or.inl (tb_w 1028 rfl rfl), fun h => absurd h (by decide)⟩, ?_⟩
  refine List.forall_mem_cons.mpr ⟨⟨Or.inl (tb_w 1021 rfl rfl), fun h => absurd h (by decide)⟩, ?_⟩
  refine List.forall_mem_cons.mpr ⟨⟨Or.inl (tb_w 1032 rfl rfl), fun h => absurd h (by decide)⟩, ?_⟩
  refine List.forall_mem_cons.mpr ⟨⟨Or.inl (tb_w 1042 rfl rfl), fun h => absurd h (by decide)⟩, ?_⟩
  refine List.forall_mem_cons.mpr ⟨⟨Or.inr ⟨_, (nb_w 1050 (List.mem_of_getElem? (i := 164) rfl) rfl)⟩, fun h => absurd h (by decide)⟩, ?_⟩
  refine List.forall_mem_cons.mpr ⟨⟨Or.inl (tb_w 1065 rfl rfl), fun h => absurd h (by decide)⟩, ?_⟩
  refine List.forall_mem_cons.mpr ⟨⟨Or.inr ⟨_, (nb_w 1069 (List.mem_of_getElem? (i := 166) rfl) rfl)⟩, fun h => absurd h (by decide)⟩, ?_⟩
  refine List.forall_mem_cons.mpr ⟨⟨Or.inl (tb_w 1070 rfl rfl), fun h => absurd h (by decide)⟩, ?_⟩
  refine List.forall_mem_cons.mpr ⟨⟨Or.inr ⟨_, (nb_w 1074 (List.mem_of_getElem? (i := 167) rfl) rfl)⟩, fun h => absurd h (by decide)⟩, ?_⟩
  refine List.forall_mem_cons.mpr ⟨⟨Or.inr ⟨_, (nb_w 1075 (List.mem_of_getElem? (i := 168) rfl) rfl)⟩, fun h => absurd h (by decide)⟩, ?_⟩
  refine List.forall_mem_cons.mpr ⟨⟨Or.inl (tb_w 1085 rfl rfl), fun h => absurd h (by decide)⟩, ?_⟩
  refine List.forall_mem_cons.mpr ⟨⟨Or.inr ⟨_, (nb_w 1089 (List.mem_of_getElem? (i := 171) rfl) rfl)⟩, fun h => absurd h (by decide)⟩, ?_⟩
  refine List.forall_mem_cons.mpr ⟨⟨Or.inl (tb_w 1101 rfl rfl), fun h => absurd h (by decide)⟩, ?_⟩
  refine List.forall_mem_cons.mpr ⟨⟨Or.inl (tb_w 1102 rfl rfl), fun h => absurd h (by decide)⟩, ?_⟩
  refine List.forall_mem_cons.mpr ⟨⟨Or.inl (tb_w 1170 rfl rfl), fun h => absurd h (by decide)⟩, ?_⟩
  refine List.forall_mem_cons.mpr ⟨⟨Or.inl (tb_w 1178 rfl rfl), fun h => absurd h (by decide)⟩, ?_⟩
  exact fun e he => absurd he List.not_mem_nil
set_option maxRecDepth 20000 in
theorem hml_13 : ∀ e ∈ gML_13, pm_lk1 gTbl g_y gNst (g_cn 13) e.1 e.2 ∧ (9000 < e.2 → Jvm.Cond.methodLink (g_cn 13) e.1 (g_y e.2) ∈ gTbl) := by
  refine List.forall_mem_cons.mpr ⟨⟨Or.inl (tb_w 634 rfl rfl), fun h => absurd h (by decide)⟩, ?_⟩
  exact fun e he => absurd he List.not_mem_nil
set_option maxRecDepth 20000 in
theorem hml_14 : ∀ e ∈ gML_14, pm_lk1 gTbl g_y gNst (g_cn 14) e.1 e.2 ∧ (9000 < e.2 → Jvm.Cond.methodLink (g_cn 14) e.1 (g_y e.2) ∈ gTbl) := by
  refine List.forall_mem_cons.mpr ⟨⟨Or.inl (tb_w 1433 rfl rfl), fun h => absurd h (by decide)⟩, ?_⟩
  refine List.forall_mem_cons.mpr ⟨⟨Or.inl (tb_w 1436 rfl rfl), fun h => absurd h (by decide)⟩, ?_⟩
  refine List.forall_mem_cons.mpr ⟨⟨Or.inl (tb_w 1445 rfl rfl), fun h => absurd h (by decide)⟩, ?_⟩
  refine List.forall_mem_cons.mpr ⟨⟨Or.inl (tb_w 1449 rfl rfl), fun h => absurd h (by decide)⟩, ?_⟩
  refine List.forall_mem_cons.mpr ⟨⟨Or.inl (tb_w 1461 rfl rfl), fun h => absurd h (by decide)⟩, ?_⟩
  refine List.forall_mem_cons.mpr ⟨⟨Or.inl (tb_w 1453 rfl rfl), fun h => absurd h (by decide)⟩, ?_⟩
  refine List.forall_mem_cons.mpr ⟨⟨Or.inl (tb_w 1457 rfl rfl), fun h => absurd h (by decide)⟩, ?_⟩
  refine List.forall_mem_cons.mpr ⟨⟨Or.inl (tb_w 1484 rfl rfl), fun h => absurd h (by decide)⟩, ?_⟩
  refine List.forall_mem_cons.mpr ⟨⟨Or.inl (tb_w 1488 rfl rfl), fun h => absurd h (by decide)⟩, ?_⟩
  refine List.forall_mem_cons.mpr ⟨⟨Or.inl (tb_w 1492 rfl rfl), fun h => absurd h (by decide)⟩, ?_⟩
  refine List.forall_mem_cons.mpr ⟨⟨Or.inl (tb_w 1465 rfl rfl), fun h => absurd h (by decide)⟩, ?_⟩
  refine List.forall_mem_cons.mpr ⟨⟨Or.inl (tb_w 1469 rfl rfl), fun h => absurd h (by decide)⟩, ?_⟩
  refine List.forall_mem_cons.mpr ⟨⟨Or.inl (tb_w 1480 rfl rfl), fun h => absurd h (by decide)⟩, ?_⟩
  refine List.forall_mem_cons.mpr ⟨⟨Or.inl (tb_w 1473 rfl rfl), fun h => absurd h (by decide)⟩, ?_⟩
  refine List.forall_mem_cons.mpr ⟨⟨Or.inl (tb_w 1477 rfl rfl), fun h => absurd h (by decide)⟩, ?_⟩
  refine List.forall_mem_cons.mpr ⟨⟨Or.inl (tb_w 1501 rfl rfl), fun h => absurd h (by decide)⟩, ?_⟩
  refine List.forall_mem_cons.mpr ⟨⟨Or.inl (tb_w 1509 rfl rfl), fun h => absurd h (by decide)⟩, ?_⟩
  refine List.forall_mem_cons.mpr ⟨⟨Or.inl (tb_w 1517 rfl rfl), fun h => absurd h (by decide)⟩, ?_⟩
  refine List.forall_mem_cons.mpr ⟨⟨Or.inl (tb_w 1522 rfl rfl), fun h => absurd h (by decide)⟩, ?_⟩
  refine List.forall_mem_cons.mpr ⟨⟨Or.inl (tb_w 1529 rfl rfl), fun h => absurd h (by decide)⟩, ?_⟩
  refine List.forall_mem_cons.mpr ⟨⟨Or.inl (tb_w 1542 rfl rfl), fun h => absurd h (by decide)⟩, ?_⟩
  refine List.forall_mem_cons.mpr ⟨⟨Or.inl (tb_w 1549 rfl rfl), fun h => absurd h (by decide)⟩, ?_⟩
  refine List.forall_mem_cons.mpr ⟨⟨Or.inl (tb_w 1546 rfl rfl), fun h => absurd h (by decide)⟩, ?_⟩
  refine List.forall_mem_cons.mpr ⟨⟨Or.inl (tb_w 1557 rfl rfl), fun h => absurd h (by decide)⟩, ?_⟩
  refine List.forall_mem_cons.mpr ⟨⟨Or.inl (tb_w 1561 rfl rfl), fun h => absurd h (by decide)⟩, ?_⟩
  refine List.forall_mem_cons.mpr ⟨⟨Or.inl (tb_w 1569 rfl rfl), fun h => absurd h (by decide)⟩, ?_⟩
  refine List.forall_mem_cons.mpr ⟨⟨Or.inl (tb_w 1585 rfl rfl), fun h => absurd h (by decide)⟩, ?_⟩
  refine List.forall_mem_cons.mpr ⟨⟨Or.inl (tb_w 1606 rfl rfl), fun h => absurd h (by decide)⟩, ?_⟩
  refine List.forall_mem_cons.mpr ⟨⟨Or.inl (tb_w 1610 rfl rfl), fun h => absurd h (by decide)⟩, ?_⟩
  refine List.forall_mem_cons.mpr ⟨⟨Or.inl (tb_w 1614 rfl rfl), fun h => absurd h (by decide)⟩, ?_⟩
  refine List.forall_mem_cons.mpr ⟨⟨Or.inl (tb_w 1618 rfl rfl), fun h => absurd h (by decide)⟩, ?_⟩
  refine List.forall_mem_cons.mpr ⟨⟨Or.inl (tb_w 1626 rfl rfl), fun h => absurd h (by decide)⟩, ?_⟩
  refine List.forall_mem_cons.mpr ⟨⟨Or.inl (tb_w 1650 rfl rfl), fun h => absurd h (by decide)⟩, ?_⟩
  refine List.forall_mem_cons.mpr ⟨⟨Or.inl (tb_w 1654 rfl rfl), fun h => absurd h (by decide)⟩, ?_⟩
  refine List.forall_mem_cons.mpr ⟨⟨Or.inl (tb_w 1669 rfl rfl), fun h => absurd h (by decide)⟩, ?_⟩
  refine List.forall_mem_cons.mpr ⟨⟨Or.inl (tb_w 1622 rfl rfl), fun h => absurd h (by decide)⟩, ?_⟩
  refine List.forall_mem_cons.mpr ⟨⟨Or.inl (tb_w 1630 rfl rfl), fun h => absurd h (by decide)⟩, ?_⟩
  refine List.forall_mem_cons.mpr ⟨⟨Or.inl (tb_w 1634 rfl rfl), fun h => absurd h (by decide)⟩, ?_⟩
  refine List.forall_mem_cons.mpr ⟨⟨Or.inl (tb_w 1638 rfl rfl), fun h => absurd h (by decide)⟩, ?_⟩
  refine List.forall_mem_cons.mpr ⟨⟨Or.inl (tb_w 1646 rfl rfl), fun h => absurd h (by decide)⟩, ?_⟩
  refine List.forall_mem_cons.mpr ⟨⟨Or.inl (tb_w 1642 rfl rfl), fun h => absurd h (by decide)⟩, ?_⟩
  refine List.forall_mem_cons.mpr ⟨⟨Or.inl (tb_w 1658 rfl rfl), fun h => absurd h (by decide)⟩, ?_⟩
  refine List.forall_mem_cons.mpr ⟨⟨Or.inl (tb_w 1666 rfl rfl), fun h => absurd h (by decide)⟩, ?_⟩
  refine List.forall_mem_cons.mpr ⟨⟨Or.inl (tb_w 1662 rfl rfl), fun h => absurd h (by decide)⟩, ?_⟩
  refine List.forall_mem_cons.mpr ⟨⟨Or.inl (tb_w 1677 rfl rfl), fun h => absurd h (by decide)⟩, ?_⟩
  refine List.forall_mem_cons.mpr ⟨⟨Or.inl (tb_w 1681 rfl rfl), fun h => absurd h (by decide)⟩, ?_⟩
  refine List.forall_mem_cons.mpr ⟨⟨Or.inl (tb_w 1685 rfl rfl), fun h => absurd h (by decide)⟩, ?_⟩
  refine List.forall_mem_cons.mpr ⟨⟨Or.inl (tb_w 1693 rfl rfl), fun h => absurd h (by decide)⟩, ?_⟩
  refine List.forall_mem_cons.mpr ⟨⟨Or.inl (tb_w 1689 rfl rfl), fun h => absurd h (by decide)⟩, ?_⟩
  refine List.forall_mem_cons.mpr ⟨⟨Or.inl (tb_w 1701 rfl rfl), fun h => absurd h (by decide)⟩, ?_⟩
  refine List.forall_mem_cons.mpr ⟨⟨Or.inl (tb_w 1709 rfl rfl), fun h => absurd h (by decide)⟩, ?_⟩
  refine List.forall_mem_cons.mpr ⟨⟨Or.inl (tb_w 1713 rfl rfl), fun h => absurd h (by decide)⟩, ?_⟩
  refine List.forall_mem_cons.mpr ⟨⟨Or.inl (tb_w 1721 rfl rfl), fun h => absurd h (by decide)⟩, ?_⟩
  refine List.forall_mem_cons.mpr ⟨⟨Or.inl (tb_w 1746 rfl rfl), fun h => absurd h (by decide)⟩, ?_⟩
  refine List.forall_mem_cons.mpr ⟨⟨Or.inl (tb_w 1751 rfl rfl), fun h => absurd h (by decide)⟩, ?_⟩
  refine List.forall_mem_cons.mpr ⟨⟨Or.inl (tb_w 1767 rfl rfl), fun h => absurd h (by decide)⟩, ?_⟩
  refine List.forall_mem_cons.mpr ⟨⟨Or.inl (tb_w 1783 rfl rfl), fun h => absurd h (by decide)⟩, ?_⟩
  refine List.forall_mem_cons.mpr ⟨⟨Or.inl (tb_w 1791 rfl rfl), fun h => absurd h (by decide)⟩, ?_⟩
  refine List.forall_mem_cons.mpr ⟨⟨Or.inl (tb_w 1803 rfl rfl), fun h => absurd h (by decide)⟩, ?_⟩
  refine List.forall_mem_cons.mpr ⟨⟨Or.inl (tb_w 1807 rfl rfl), fun h => absurd h (by decide)⟩, ?_⟩
  refine List.forall_mem_cons.mpr ⟨⟨Or.inl (tb_w 1795 rfl rfl), fun h => absurd h (by decide)⟩, ?_⟩
  refine List.forall_mem_cons.mpr ⟨⟨Or.inl (tb_w 1811 rfl rfl), fun h => absurd h (by decide)⟩, ?_⟩
  refine List.forall_mem_cons.mpr ⟨⟨Or.inl (tb_w 1815 rfl rfl), fun h => absurd h (by decide)⟩, ?_⟩
  refine List.forall_mem_cons.mpr ⟨⟨Or.inl (tb_w 1898 rfl rfl), fun h => absurd h (by decide)⟩, ?_⟩
  refine List.forall_mem_cons.mpr ⟨⟨Or.inl (tb_w 1827 rfl rfl), fun h => absurd h (by decide)⟩, ?_⟩
  refine List.forall_mem_cons.mpr ⟨⟨Or.inl (tb_w 1878 rfl rfl), fun h => absurd h (by decide)⟩, ?_⟩
  refine List.forall_mem_cons.mpr ⟨⟨Or.inl (tb_w 1823 rfl rfl), fun h => absurd h (by decide)⟩, ?_⟩
  refine List.forall_mem_cons.mpr ⟨⟨Or.inl (tb_w 1882 rfl rfl), fun h => absurd h (by decide)⟩, ?_⟩
  refine List.forall_mem_cons.mpr ⟨⟨Or.inl (tb_w 1819 rfl rfl), fun h => absurd h (by decide)⟩, ?_⟩
  refine List.forall_mem_cons.mpr ⟨⟨Or.inl (tb_w 1831 rfl rfl), fun h => absurd h (by decide)⟩, ?_⟩
  refine List.forall_mem_cons.mpr ⟨⟨Or.inl (tb_w 1835 rfl rfl), fun h => absurd h (by decide)⟩, ?_⟩
  refine List.forall_mem_cons.mpr ⟨⟨Or.inl (tb_w 1839 rfl rfl), fun h => absurd h (by decide)⟩, ?_⟩
  refine List.forall_mem_cons.mpr ⟨⟨Or.inl (tb_w 1843 rfl rfl), fun h => absurd h (by decide)⟩, ?_⟩
  refine List.forall_mem_cons.mpr ⟨⟨Or.inl (tb_w 1847 rfl rfl), fun h => absurd h (by decide)⟩, ?_⟩
  refine List.forall_mem_cons.mpr ⟨⟨Or.inl (tb_w 1866 rfl rfl), fun h => absurd h (by decide)⟩, ?_⟩
  refine List.forall_mem_cons.mpr ⟨⟨Or.inl (tb_w 1870 rfl rfl), fun h => absurd h (by decide)⟩, ?_⟩
  refine List.forall_mem_cons.mpr ⟨⟨Or.inl (tb_w 1874 rfl rfl), fun h => absurd h (by decide)⟩, ?_⟩
  refine List.forall_mem_cons.mpr ⟨⟨Or.inl (tb_w 1886 rfl rfl), fun h => absurd h (by decide)⟩, ?_⟩
  refine List.forall_mem_cons.mpr ⟨⟨Or.inl (tb_w 1890 rfl rfl), fun h => absurd h (by decide)⟩, ?_⟩
  refine List.forall_mem_cons.mpr ⟨⟨Or.inl (tb_w 1894 rfl rfl), fun h => absurd h (by decide)⟩, ?_⟩
  refine List.forall_mem_cons.mpr ⟨⟨Or.inl (tb_w 1851 rfl rfl), fun h => absurd h (by decide)⟩, ?_⟩
  refine List.forall_mem_cons.mpr ⟨⟨Or.inl (tb_w 1855 rfl rfl), fun h => absurd h (by decide)⟩, ?_⟩
  refine List.forall_mem_cons.mpr ⟨⟨Or.inl (tb_w 1859 rfl rfl), fun h => absurd h (by decide)⟩, ?_⟩
  refine List.forall_mem_cons.mpr ⟨⟨Or.inl (tb_w 1862 rfl rfl), fun h => absurd h (by decide)⟩, ?_⟩
  refine List.forall_mem_cons.mpr ⟨⟨Or.inl (tb_w 1910 rfl rfl), fun h => absurd h (by decide)⟩, ?_⟩
  refine List.forall_mem_cons.mpr ⟨⟨Or.inl (tb_w 1930 rfl rfl), fun h => absurd h (by decide)⟩, ?_⟩
  refine List.forall_mem_cons.mpr ⟨⟨Or.inl (tb_w 1914 rfl rfl), fun h => absurd h (by decide)⟩, ?_⟩
  refine List.forall_mem_cons.mpr ⟨⟨Or.inl (tb_w 1922 rfl rfl), fun h => absurd h (by decide)⟩, ?_⟩
  refine List.forall_mem_cons.mpr ⟨⟨Or.inl (tb_w 1918 rfl rfl), fun h => absurd h (by decide)⟩, ?_⟩
  refine List.forall_mem_cons.mpr ⟨⟨Or.inl (tb_w 1926 rfl rfl), fun h => absurd h (by decide)⟩, ?_⟩
  exact fun e he => absurd he List.not_mem_nil
