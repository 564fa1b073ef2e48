/-! PRINTED by wip/gen3.py: the tables' facts -/
theorem pm_nb {k n : Nat} (h : ¬ k < n) : Nat.blt k n = false := by
  cases e : Nat.blt k n with
  | true => exact absurd (Nat.blt_eq.mp e) h
  | false => rfl
def gTbl : List Jvm.Cond := lw_tbl.filter goodWord
theorem gTbl_in : ∀ w ∈ gTbl, w ∈ lw_tbl := fun w h => (List.mem_filter.mp h).1
theorem gTbl_good : ∀ w ∈ gTbl, (w.onTables && w.keeps) = true ∨ ∃ ty, w = .arrayClass ty := fun w h => good_of_word (List.mem_filter.mp h).2
def tx_nk : Jvm.Cond → Bool
  | .fieldLinkNest .. => true
  | .methodLinkNest .. => true
  | .arrayOver (.object _) => true
  | _ => false
def gNst : List Jvm.Cond := tables_1.filter tx_nk
theorem ti1 {w : Jvm.Cond} (i : Nat) (h : tables_1_1[i]? = some w) : w ∈ tables_1 := List.mem_append_left _ (List.mem_of_getElem? h)
theorem tb1 {w : Jvm.Cond} (i : Nat) (h : tables_1_1[i]? = some w) (hg : goodWord w = true) : w ∈ gTbl := List.mem_filter.mpr ⟨List.mem_append_right _ (ti1 i h), hg⟩
theorem nb1 {w : Jvm.Cond} (i : Nat) (h : tables_1_1[i]? = some w) (hg : tx_nk w = true) : w ∈ gNst := List.mem_filter.mpr ⟨ti1 i h, hg⟩
theorem ti2 {w : Jvm.Cond} (i : Nat) (h : tables_1_2[i]? = some w) : w ∈ tables_1 := List.mem_append_right _ (List.mem_append_left _ (List.mem_of_getElem? h))
theorem tb2 {w : Jvm.Cond} (i : Nat) (h : tables_1_2[i]? = some w) (hg : goodWord w = true) : w ∈ gTbl := List.mem_filter.mpr ⟨List.mem_append_right _ (ti2 i h), hg⟩
theorem nb2 {w : Jvm.Cond} (i : Nat) (h : tables_1_2[i]? = some w) (hg : tx_nk w = true) : w ∈ gNst := List.mem_filter.mpr ⟨ti2 i h, hg⟩
theorem ti3 {w : Jvm.Cond} (i : Nat) (h : tables_1_3[i]? = some w) : w ∈ tables_1 := List.mem_append_right _ (List.mem_append_right _ (List.mem_append_left _ (List.mem_of_getElem? h)))
theorem tb3 {w : Jvm.Cond} (i : Nat) (h : tables_1_3[i]? = some w) (hg : goodWord w = true) : w ∈ gTbl := List.mem_filter.mpr ⟨List.mem_append_right _ (ti3 i h), hg⟩
theorem nb3 {w : Jvm.Cond} (i : Nat) (h : tables_1_3[i]? = some w) (hg : tx_nk w = true) : w ∈ gNst := List.mem_filter.mpr ⟨ti3 i h, hg⟩
theorem ti4 {w : Jvm.Cond} (i : Nat) (h : tables_1_4[i]? = some w) : w ∈ tables_1 := List.mem_append_right _ (List.mem_append_right _ (List.mem_append_right _ (List.mem_append_left _ (List.mem_of_getElem? h))))
theorem tb4 {w : Jvm.Cond} (i : Nat) (h : tables_1_4[i]? = some w) (hg : goodWord w = true) : w ∈ gTbl := List.mem_filter.mpr ⟨List.mem_append_right _ (ti4 i h), hg⟩
theorem nb4 {w : Jvm.Cond} (i : Nat) (h : tables_1_4[i]? = some w) (hg : tx_nk w = true) : w ∈ gNst := List.mem_filter.mpr ⟨ti4 i h, hg⟩
theorem ti5 {w : Jvm.Cond} (i : Nat) (h : tables_1_5[i]? = some w) : w ∈ tables_1 := List.mem_append_right _ (List.mem_append_right _ (List.mem_append_right _ (List.mem_append_right _ (List.mem_append_left _ (List.mem_of_getElem? h)))))
theorem tb5 {w : Jvm.Cond} (i : Nat) (h : tables_1_5[i]? = some w) (hg : goodWord w = true) : w ∈ gTbl := List.mem_filter.mpr ⟨List.mem_append_right _ (ti5 i h), hg⟩
theorem nb5 {w : Jvm.Cond} (i : Nat) (h : tables_1_5[i]? = some w) (hg : tx_nk w = true) : w ∈ gNst := List.mem_filter.mpr ⟨ti5 i h, hg⟩
theorem ti6 {w : Jvm.Cond} (i : Nat) (h : tables_1_6[i]? = some w) : w ∈ tables_1 := List.mem_append_right _ (List.mem_append_right _ (List.mem_append_right _ (List.mem_append_right _ (List.mem_append_right _ (List.mem_append_left _ (List.mem_of_getElem? h))))))
theorem tb6 {w : Jvm.Cond} (i : Nat) (h : tables_1_6[i]? = some w) (hg : goodWord w = true) : w ∈ gTbl := List.mem_filter.mpr ⟨List.mem_append_right _ (ti6 i h), hg⟩
theorem nb6 {w : Jvm.Cond} (i : Nat) (h : tables_1_6[i]? = some w) (hg : tx_nk w = true) : w ∈ gNst := List.mem_filter.mpr ⟨ti6 i h, hg⟩
theorem ti7 {w : Jvm.Cond} (i : Nat) (h : tables_1_7[i]? = some w) : w ∈ tables_1 := List.mem_append_right _ (List.mem_append_right _ (List.mem_append_right _ (List.mem_append_right _ (List.mem_append_right _ (List.mem_append_right _ (List.mem_append_left _ (List.mem_of_getElem? h)))))))
theorem tb7 {w : Jvm.Cond} (i : Nat) (h : tables_1_7[i]? = some w) (hg : goodWord w = true) : w ∈ gTbl := List.mem_filter.mpr ⟨List.mem_append_right _ (ti7 i h), hg⟩
theorem nb7 {w : Jvm.Cond} (i : Nat) (h : tables_1_7[i]? = some w) (hg : tx_nk w = true) : w ∈ gNst := List.mem_filter.mpr ⟨ti7 i h, hg⟩
theorem ti8 {w : Jvm.Cond} (i : Nat) (h : tables_1_8[i]? = some w) : w ∈ tables_1 := List.mem_append_right _ (List.mem_append_right _ (List.mem_append_right _ (List.mem_append_right _ (List.mem_append_right _ (List.mem_append_right _ (List.mem_append_right _ (List.mem_append_left _ (List.mem_of_getElem? h))))))))
theorem tb8 {w : Jvm.Cond} (i : Nat) (h : tables_1_8[i]? = some w) (hg : goodWord w = true) : w ∈ gTbl := List.mem_filter.mpr ⟨List.mem_append_right _ (ti8 i h), hg⟩
theorem nb8 {w : Jvm.Cond} (i : Nat) (h : tables_1_8[i]? = some w) (hg : tx_nk w = true) : w ∈ gNst := List.mem_filter.mpr ⟨ti8 i h, hg⟩
theorem ti9 {w : Jvm.Cond} (i : Nat) (h : tables_1_9[i]? = some w) : w ∈ tables_1 := List.mem_append_right _ (List.mem_append_right _ (List.mem_append_right _ (List.mem_append_right _ (List.mem_append_right _ (List.mem_append_right _ (List.mem_append_right _ (List.mem_append_right _ (List.mem_of_getElem? h))))))))
theorem tb9 {w : Jvm.Cond} (i : Nat) (h : tables_1_9[i]? = some w) (hg : goodWord w = true) : w ∈ gTbl := List.mem_filter.mpr ⟨List.mem_append_right _ (ti9 i h), hg⟩
theorem nb9 {w : Jvm.Cond} (i : Nat) (h : tables_1_9[i]? = some w) (hg : tx_nk w = true) : w ∈ gNst := List.mem_filter.mpr ⟨ti9 i h, hg⟩
theorem tb_s {q : MethodName × Nat} (i : Nat) (h : lw_privs[i]? = some q) (hg : goodWord (.selects q.1.cls q.1 q.1) = true) : Jvm.Cond.selects q.1.cls q.1 q.1 ∈ gTbl := List.mem_filter.mpr ⟨List.mem_append_left _ (List.mem_map.mpr ⟨q, List.mem_of_getElem? h, rfl⟩), hg⟩
