/-! BY HAND: texts; keyword, exactly -/
section KU
variable {P : pm_P} {m pc nx : Nat} {lv st r : List Value} {h : pm_H} {cs : Nat × Nat} {Q : List Value → pm_H → Prop}
theorem ps_tlen {a n : Nat} (hc : pm_cod P m pc = some (.inr (.invokevirtual 9001), nx)) (ha : Nat.ble 100000 a = true) (hl : (pm_txt P (a - 100000)).length = n + 1) (hr : decide ((r.map Value.category).sum ≤ 8) = true) (kk : pm_W P m nx lv (.int (nI (n + 1)) :: r) h cs Q) : pm_W P m pc lv (.ref a :: r) h cs Q := by
  refine ps_he (st' := .int (nI (n + 1)) :: r) (h' := h) hc rfl rfl rfl rfl rfl ?_ kk
  show (if (r.map Value.category).sum ≤ 8 ∧ 100000 ≤ a ∧ 0 < (pm_txt P (a - 100000)).length then some (.int (Int32.ofNat (pm_txt P (a - 100000)).length) :: r, h) else none) = _
  rw [if_pos ⟨of_decide_eq_true hr, Nat.le_of_ble_eq_true ha, by rw [hl]; omega⟩, hl]
  rfl
theorem ps_tchr (i : Nat) {a n : Nat} {j : Int32} (hc : pm_cod P m pc = some (.inr (.invokevirtual 9002), nx)) (ha : Nat.ble 100000 a = true) (hl : (pm_txt P (a - 100000)).length = n) (hn : n < 1000) (hj : j = nI i) (hi : i < n) (hr : decide ((r.map Value.category).sum ≤ 8) = true) (kk : pm_W P m nx lv (.int ((pm_txt P (a - 100000)).getD i 0) :: r) h cs Q) : pm_W P m pc lv (.int j :: .ref a :: r) h cs Q := by
  subst hj
  refine ps_he (st' := .int ((pm_txt P (a - 100000)).getD i 0) :: r) (h' := h) hc rfl rfl rfl rfl rfl ?_ kk
  show (if (r.map Value.category).sum ≤ 8 ∧ 100000 ≤ a ∧ pm_in (nI i) (pm_txt P (a - 100000)).length = true then some (.int ((pm_txt P (a - 100000)).getD (nI i).toNatClampNeg 0) :: r, h) else none) = _
  rw [hl, if_pos ⟨of_decide_eq_true hr, Nat.le_of_ble_eq_true ha, pm_in_nI hi (by omega)⟩, nI_clamp (show i < 2 ^ 31 by omega)]
end KU
section KV
variable {h : pm_H} {Q : List Value → pm_H → Prop} {ys : List Int32}
def kwG (x : Int32) : List Int32 → Int32 → Int32 → Int32
  | [], _, _ => -1
  | ch :: l, code, num => if ch = 32 then (if x = code then num else kwG x l 0 (num + 1)) else kwG x l (code * 32 + (ch - 97 + 1)) num
def kwT : List Int32 := [112, 108, 97, 116, 101, 32, 114, 111, 119, 32, 98, 105, 116, 115, 32, 115, 101, 116, 32, 116, 117, 114, 110, 32, 110, 101, 103, 32, 98, 111, 116, 104, 32, 115, 113, 117, 97, 114, 101, 32, 115, 111, 117, 114, 99, 101, 32, 108, 111, 115, 116, 32, 115, 116, 114, 97, 121, 32, 98, 97, 99, 107, 32, 117, 115, 101, 32]
theorem kwT_t : pm_txt (g_P ys) 0 = kwT := rfl
theorem kwG_c {x ch code num : Int32} {l : List Int32} (hn : ¬ ch = 32) : kwG x (ch :: l) code num = kwG x l (code * 32 + (ch - 97 + 1)) num := by rw [kwG, if_neg hn]
theorem kwG_b {x code num : Int32} {l : List Int32} : kwG x (32 :: l) code num = if x = code then num else kwG x l 0 (num + 1) := by rw [kwG, if_pos rfl]
theorem kwG_F (x : Int32) : kwG x kwT 0 0 = kwF x := by
  unfold kwT kwF
  rw [kwG_c (by decide), kwG_c (by decide), kwG_c (by decide), kwG_c (by decide), kwG_c (by decide), kwG_b, kwG_c (by decide), kwG_c (by decide), kwG_c (by decide), kwG_b, kwG_c (by decide), kwG_c (by decide), kwG_c (by decide), kwG_c (by decide), kwG_b, kwG_c (by decide), kwG_c (by decide), kwG_c (by decide), kwG_b, kwG_c (by decide), kwG_c (by decide), kwG_c (by decide), kwG_c (by decide), kwG_b, kwG_c (by decide), kwG_c (by decide), kwG_c (by decide), kwG_b, kwG_c (by decide), kwG_c (by decide), kwG_c (by decide), kwG_c (by decide), kwG_b, kwG_c (by decide), kwG_c (by decide), kwG_c (by decide), kwG_c (by decide), kwG_c (by decide), kwG_c (by decide), kwG_b, kwG_c (by decide), kwG_c (by decide), kwG_c (by decide), kwG_c (by decide), kwG_c (by decide), kwG_c (by decide), kwG_b, kwG_c (by decide), kwG_c (by decide), kwG_c (by decide), kwG_c (by decide), kwG_b, kwG_c (by decide), kwG_c (by decide), kwG_c (by decide), kwG_c (by decide), kwG_c (by decide), kwG_b, kwG_c (by decide), kwG_c (by decide), kwG_c (by decide), kwG_c (by decide), kwG_b, kwG_c (by decide), kwG_c (by decide), kwG_c (by decide), kwG_b, kwG]
  rfl
theorem B_kwX (x : Int32) (kk : Q [.int (kwF x)] h) : pm_W (g_P ys) 35 0 [.int x, .retAddr 0, .retAddr 0, .retAddr 0, .retAddr 0] [] h (0, 0) Q := by
  have loop : ∀ (l pre : List Int32) (code num : Int32) (u4 : Value), kwT = pre ++ l → Q [.int (kwG x l code num)] h → pm_W (g_P ys) 35 6 [.int x, .int num, .int code, .int (nI pre.length), u4] [] h (0, 0) Q := by
    intro l
    induction l with
    | nil =>
      intro pre code num u4 e k
      have hl : pre.length = 67 := by
        have := congrArg List.length e
        rw [List.append_nil] at this
        exact this.symm
      refine ps_iload rfl rfl ?_
      refine pw_c rfl ?_
      refine ps_tlen (n := 66) rfl rfl rfl rfl ?_
      rw [hl]
      refine ps_icmpt rfl (rfl) ?_
      refine pw_c rfl ?_
      refine ps_iret rfl rfl ?_
      exact k
    | cons ch l ih =>
      intro pre code num u4 e k
      have hl : pre.length < 67 := by
        have := congrArg List.length e
        rw [List.length_append, List.length_cons] at this
        have q : kwT.length = 67 := rfl
        omega
      have hch : kwT.getD pre.length 0 = ch := by
        rw [e, List.getD_eq_getElem?_getD, List.getElem?_append_right (Nat.le_refl _), Nat.sub_self]
        rfl
      have nx : ∀ (code num : Int32) (u4 : Value), Q [.int (kwG x l code num)] h → pm_W (g_P ys) 35 54 [.int x, .int num, .int code, .int (nI pre.length), u4] [] h (0, 0) Q := by
        intro code num u4 k
        refine ps_iinc rfl rfl ?_
        refine ps_goto rfl ?_
        rw [show nI pre.length + Int32.ofInt 1 = nI (pre.length + 1) from nI_1 pre.length]
        have z := ih (pre ++ [ch]) code num u4 (by rw [List.append_assoc]; exact e) k
        rw [List.length_append] at z
        exact z
      refine ps_iload rfl rfl ?_
      refine pw_c rfl ?_
      refine ps_tlen (n := 66) rfl rfl rfl rfl ?_
      refine ps_icmpf rfl (decide_eq_false (nI_ge (b := 67) (by omega) (by omega))) ?_
      refine pw_c rfl ?_
      refine ps_iload rfl rfl ?_
      refine ps_tchr pre.length (n := 67) rfl rfl rfl (by omega) rfl hl rfl ?_
      rw [show (pm_txt (g_P ys) (100000 - 100000)).getD pre.length 0 = ch from hch]
      rw [kwG] at k
      by_cases c32 : ch = 32
      · rw [if_pos c32] at k
        refine ps_istore rfl rfl ?_
        refine ps_iload rfl rfl ?_
        refine pw_c rfl ?_
        refine ps_icmpt rfl (decide_eq_true c32) ?_
        by_cases ex : x = code
        · rw [if_pos ex] at k
          refine ps_iload rfl rfl ?_
          refine ps_iload rfl rfl ?_
          refine ps_icmpf rfl (decide_eq_false (fun z => z ex.symm)) ?_
          refine ps_iload rfl rfl ?_
          refine ps_iret rfl rfl ?_
          exact k
        · rw [if_neg ex] at k
          refine ps_iload rfl rfl ?_
          refine ps_iload rfl rfl ?_
          refine ps_icmpt rfl (decide_eq_true (fun z => ex z.symm)) ?_
          refine ps_iinc rfl rfl ?_
          refine pw_c rfl ?_
          refine ps_istore rfl rfl ?_
          exact nx _ _ _ k
      · rw [if_neg c32] at k
        refine ps_istore rfl rfl ?_
        refine ps_iload rfl rfl ?_
        refine pw_c rfl ?_
        refine ps_icmpf rfl (decide_eq_false c32) ?_
        refine ps_iload rfl rfl ?_
        refine ps_iload rfl rfl ?_
        refine pw_k rfl rfl rfl rfl ⟨Nat.zero_le _, Nat.zero_le _⟩ ?_
        refine B_packed ?_
        refine ps_istore rfl rfl ?_
        refine ps_goto rfl ?_
        exact nx _ _ _ k
  refine pw_c rfl ?_
  refine ps_istore rfl rfl ?_
  refine pw_c rfl ?_
  refine ps_istore rfl rfl ?_
  refine pw_c rfl ?_
  refine ps_istore rfl rfl ?_
  exact loop kwT [] 0 0 _ rfl (by rw [kwG_F]; exact kk)
end KV
