/-! A RUN OVER UNKNOWN INTS, second: branches on what is not known -/
def se_ci (c : ClassFile.Cond) (x y : Int) : Bool := match c with
  | .eq => decide (x = y)
  | .ne => decide (¬ x = y)
  | .lt => decide (x < y)
  | .ge => decide (y ≤ x)
  | .gt => decide (y < x)
  | .le => decide (x ≤ y)
def se_fl (c : ClassFile.Cond) : ClassFile.Cond := match c with
  | .eq => .eq
  | .ne => .ne
  | .lt => .gt
  | .ge => .le
  | .gt => .lt
  | .le => .ge
theorem se_fl_ok (c : ClassFile.Cond) (x y : Int) : se_ci (se_fl c) x y = se_ci c y x := by
  cases c <;> simp only [se_fl, se_ci, decide_eq_decide]
  · exact ⟨Eq.symm, Eq.symm⟩
  · exact ⟨fun h q => h q.symm, fun h q => h q.symm⟩
theorem se_ci_ok (c : ClassFile.Cond) (x y : Int32) : pm_cmp c x y = se_ci c x.toInt y.toInt := by
  cases c <;> simp only [pm_cmp, se_ci, decide_eq_decide, Int32.lt_iff_toInt_lt, Int32.le_iff_toInt_le, ← Int32.toInt_inj]
theorem se_lg_ok (c : ClassFile.Cond) (x y : Int64) : pm_cmp c (lg_cmp x y) 0 = se_ci c x.toInt y.toInt := by
  have t : x.toInt < y.toInt ∨ x.toInt = y.toInt ∨ y.toInt < x.toInt := by omega
  unfold lg_cmp
  rcases t with t | t | t
  · have h1 : ¬ x > y := fun q => by have := Int64.lt_iff_toInt_lt.mp q; omega
    have h2 : ¬ x = y := fun q => by rw [q] at t; omega
    rw [if_neg h1, if_neg h2]
    cases c <;> simp only [se_ci] <;> first | (rw [decide_eq_true (by omega)]; rfl) | (rw [decide_eq_false (by omega)]; rfl)
  · have h1 : ¬ x > y := fun q => by have := Int64.lt_iff_toInt_lt.mp q; omega
    have h2 : x = y := Int64.toInt_inj.mp t
    rw [if_neg h1, if_pos h2]
    cases c <;> simp only [se_ci] <;> first | (rw [decide_eq_true (by omega)]; rfl) | (rw [decide_eq_false (by omega)]; rfl)
  · have h1 : x > y := Int64.lt_iff_toInt_lt.mpr t
    rw [if_pos h1]
    cases c <;> simp only [se_ci] <;> first | (rw [decide_eq_true (by omega)]; rfl) | (rw [decide_eq_false (by omega)]; rfl)
/-- pieces of a row of numbers, each with how a comparison comes out there -/
def se_p1 (lo hi : Int) (b : Bool) : List (Int × Int × Bool) := bif decide (lo ≤ hi) then [(lo, hi, b)] else []
theorem se_p1_ok {lo hi x : Int} {b : Bool} (h1 : lo ≤ x) (h2 : x ≤ hi) : (lo, hi, b) ∈ se_p1 lo hi b := by
  unfold se_p1
  rw [decide_eq_true (by omega)]
  exact List.mem_singleton.mpr rfl
def se_pc (c : ClassFile.Cond) (n lo hi : Int) : List (Int × Int × Bool) := match c with
  | .lt => se_p1 lo (min hi (n - 1)) true ++ se_p1 (max lo n) hi false
  | .ge => se_p1 lo (min hi (n - 1)) false ++ se_p1 (max lo n) hi true
  | .gt => se_p1 lo (min hi n) false ++ se_p1 (max lo (n + 1)) hi true
  | .le => se_p1 lo (min hi n) true ++ se_p1 (max lo (n + 1)) hi false
  | .eq => se_p1 lo (min hi (n - 1)) false ++ (se_p1 (max lo n) (min hi n) true ++ se_p1 (max lo (n + 1)) hi false)
  | .ne => se_p1 lo (min hi (n - 1)) true ++ (se_p1 (max lo n) (min hi n) false ++ se_p1 (max lo (n + 1)) hi true)
theorem se_pc_ok (c : ClassFile.Cond) {n lo hi x : Int} (h1 : lo ≤ x) (h2 : x ≤ hi) : ∃ q ∈ se_pc c n lo hi, q.1 ≤ x ∧ x ≤ q.2.1 ∧ q.2.2 = se_ci c x n := by
  have t : x < n ∨ x = n ∨ n < x := by omega
  cases c <;> rcases t with t | t | t <;> simp only [se_pc, se_ci]
  · exact ⟨_, List.mem_append_left _ (se_p1_ok (x := x) h1 (by omega)), h1, by show x ≤ min hi (n - 1); omega, (decide_eq_false (by omega)).symm⟩
  · exact ⟨_, List.mem_append_right _ (List.mem_append_left _ (se_p1_ok (x := x) (by omega) (by omega))), by show max lo n ≤ x; omega, by show x ≤ min hi n; omega, (decide_eq_true (by omega)).symm⟩
  · exact ⟨_, List.mem_append_right _ (List.mem_append_right _ (se_p1_ok (x := x) (by omega) h2)), by show max lo (n + 1) ≤ x; omega, h2, (decide_eq_false (by omega)).symm⟩
  · exact ⟨_, List.mem_append_left _ (se_p1_ok (x := x) h1 (by omega)), h1, by show x ≤ min hi (n - 1); omega, (decide_eq_true (by omega)).symm⟩
  · exact ⟨_, List.mem_append_right _ (List.mem_append_left _ (se_p1_ok (x := x) (by omega) (by omega))), by show max lo n ≤ x; omega, by show x ≤ min hi n; omega, (decide_eq_false (by omega)).symm⟩
  · exact ⟨_, List.mem_append_right _ (List.mem_append_right _ (se_p1_ok (x := x) (by omega) h2)), by show max lo (n + 1) ≤ x; omega, h2, (decide_eq_true (by omega)).symm⟩
  · exact ⟨_, List.mem_append_left _ (se_p1_ok (x := x) h1 (by omega)), h1, by show x ≤ min hi (n - 1); omega, (decide_eq_true (by omega)).symm⟩
  · exact ⟨_, List.mem_append_right _ (se_p1_ok (x := x) (by omega) h2), by show max lo n ≤ x; omega, h2, (decide_eq_false (by omega)).symm⟩
  · exact ⟨_, List.mem_append_right _ (se_p1_ok (x := x) (by omega) h2), by show max lo n ≤ x; omega, h2, (decide_eq_false (by omega)).symm⟩
  · exact ⟨_, List.mem_append_left _ (se_p1_ok (x := x) h1 (by omega)), h1, by show x ≤ min hi (n - 1); omega, (decide_eq_false (by omega)).symm⟩
  · exact ⟨_, List.mem_append_right _ (se_p1_ok (x := x) (by omega) h2), by show max lo n ≤ x; omega, h2, (decide_eq_true (by omega)).symm⟩
  · exact ⟨_, List.mem_append_right _ (se_p1_ok (x := x) (by omega) h2), by show max lo n ≤ x; omega, h2, (decide_eq_true (by omega)).symm⟩
  · exact ⟨_, List.mem_append_left _ (se_p1_ok (x := x) h1 (by omega)), h1, by show x ≤ min hi n; omega, (decide_eq_false (by omega)).symm⟩
  · exact ⟨_, List.mem_append_left _ (se_p1_ok (x := x) h1 (by omega)), h1, by show x ≤ min hi n; omega, (decide_eq_false (by omega)).symm⟩
  · exact ⟨_, List.mem_append_right _ (se_p1_ok (x := x) (by omega) h2), by show max lo (n + 1) ≤ x; omega, h2, (decide_eq_true (by omega)).symm⟩
  · exact ⟨_, List.mem_append_left _ (se_p1_ok (x := x) h1 (by omega)), h1, by show x ≤ min hi n; omega, (decide_eq_true (by omega)).symm⟩
  · exact ⟨_, List.mem_append_left _ (se_p1_ok (x := x) h1 (by omega)), h1, by show x ≤ min hi n; omega, (decide_eq_true (by omega)).symm⟩
  · exact ⟨_, List.mem_append_right _ (se_p1_ok (x := x) (by omega) h2), by show max lo (n + 1) ≤ x; omega, h2, (decide_eq_false (by omega)).symm⟩
/-- bounds of an expression -/
def se_iv (σ : se_E) (e : Nat × List (Instr × (Int32 ⊕ Nat))) : Int × Int := match e with
  | (i, []) => se_b σ i
  | (i, [(.iadd, .inr j)]) => bif decide (se_mn ≤ (se_b σ i).1 + (se_b σ j).1) && decide ((se_b σ i).2 + (se_b σ j).2 ≤ se_mx) then ((se_b σ i).1 + (se_b σ j).1, (se_b σ i).2 + (se_b σ j).2) else (se_mn, se_mx)
  | (i, [(.iadd, .inl c)]) => bif decide (se_mn ≤ (se_b σ i).1 + c.toInt) && decide ((se_b σ i).2 + c.toInt ≤ se_mx) then ((se_b σ i).1 + c.toInt, (se_b σ i).2 + c.toInt) else (se_mn, se_mx)
  | _ => (se_mn, se_mx)
theorem se_rng (x : Int32) : se_mn ≤ x.toInt ∧ x.toInt ≤ se_mx := ⟨Int32.le_toInt x, by have := Int32.toInt_lt x; unfold se_mx; omega⟩
theorem se_add_toInt {x y : Int32} (h1 : se_mn ≤ x.toInt + y.toInt) (h2 : x.toInt + y.toInt ≤ se_mx) : (x + y).toInt = x.toInt + y.toInt := by
  unfold se_mn at h1
  unfold se_mx at h2
  rw [Int32.toInt_add]
  exact Int.bmod_eq_of_le (by omega) (by omega)
theorem se_iv_ok {ρ : Nat → Int32} {σ : se_E} (h : se_in ρ σ) (e : Nat × List (Instr × (Int32 ⊕ Nat))) : (se_iv σ e).1 ≤ (se_ex ρ e).toInt ∧ (se_ex ρ e).toInt ≤ (se_iv σ e).2 := by
  unfold se_iv
  split
  · exact h _
  · rename_i i j
    have hi := h i
    have hj := h j
    show _ ≤ (ρ i + ρ j).toInt ∧ (ρ i + ρ j).toInt ≤ _
    cases e : decide (se_mn ≤ (se_b σ i).1 + (se_b σ j).1) && decide ((se_b σ i).2 + (se_b σ j).2 ≤ se_mx) with
    | false => exact se_rng _
    | true =>
      rw [Bool.and_eq_true, decide_eq_true_iff, decide_eq_true_iff] at e
      rw [se_add_toInt (by omega) (by omega)]
      exact ⟨by show (se_b σ i).1 + (se_b σ j).1 ≤ _; omega, by show _ ≤ (se_b σ i).2 + (se_b σ j).2; omega⟩
  · rename_i i c
    have hi := h i
    show _ ≤ (ρ i + c).toInt ∧ (ρ i + c).toInt ≤ _
    cases e : decide (se_mn ≤ (se_b σ i).1 + c.toInt) && decide ((se_b σ i).2 + c.toInt ≤ se_mx) with
    | false => exact se_rng _
    | true =>
      rw [Bool.and_eq_true, decide_eq_true_iff, decide_eq_true_iff] at e
      rw [se_add_toInt (by omega) (by omega)]
      exact ⟨by show (se_b σ i).1 + c.toInt ≤ _; omega, by show _ ≤ (se_b σ i).2 + c.toInt; omega⟩
  · exact se_rng _
abbrev se_Q : Type := se_E × Nat × List se_V
/-- narrower bounds where the expression is an int of the script as it stands -/
def se_nw (σ : se_E) (e : Nat × List (Instr × (Int32 ⊕ Nat))) (lo hi : Int) : se_E := match e.2 with
  | [] => se_set σ e.1 (lo, hi)
  | _ => σ
theorem se_nw_ok {ρ : Nat → Int32} {σ : se_E} (h : se_in ρ σ) {e : Nat × List (Instr × (Int32 ⊕ Nat))} {lo hi : Int} (h1 : lo ≤ (se_ex ρ e).toInt) (h2 : (se_ex ρ e).toInt ≤ hi) : se_in ρ (se_nw σ e lo hi) := by
  obtain ⟨i, ops⟩ := e
  unfold se_nw
  cases ops with
  | nil => exact se_in_set h h1 h2
  | cons a r => exact h
/-- a comparison of an expression with a number -/
def se_cp (σ : se_E) (e : Nat × List (Instr × (Int32 ⊕ Nat))) (c : ClassFile.Cond) (n : Int) (t nx : Nat) (r : List se_V) : List se_Q := (se_pc c n (se_iv σ e).1 (se_iv σ e).2).map fun q => (se_nw σ e q.1 q.2.1, bif q.2.2 then t else nx, r)
theorem se_cp_ok {ρ : Nat → Int32} {σ : se_E} (h : se_in ρ σ) (e : Nat × List (Instr × (Int32 ⊕ Nat))) (c : ClassFile.Cond) (n : Int) (t nx : Nat) (r : List se_V) :
    ∃ q ∈ se_cp σ e c n t nx r, se_in ρ q.1 ∧ q.2.1 = (if se_ci c (se_ex ρ e).toInt n = true then t else nx) ∧ q.2.2 = r := by
  obtain ⟨q, h1, h2, h3, h4⟩ := se_pc_ok c (n := n) (se_iv_ok h e).1 (se_iv_ok h e).2
  refine ⟨_, List.mem_map.mpr ⟨q, h1, rfl⟩, se_nw_ok h h2 h3, ?_, rfl⟩
  show (bif q.2.2 then t else nx) = _
  rw [h4]
  cases se_ci c (se_ex ρ e).toInt n <;> rfl
/-- a switch, number by number -/
def se_tab (i : Instr) (nx : Nat) (σ : se_E) (k : Nat) (r : List se_V) : Nat → Int → Option (List se_Q)
  | 0, _ => some []
  | n + 1, v => match pm_br i nx [.int (Int32.ofInt v)] with
    | some q => match se_tab i nx σ k r n (v + 1) with
      | some l => some ((se_set σ k (v, v), q.1, r) :: l)
      | none => none
    | none => none
theorem pm_br_ts {d lo hi : Int} {ts : Array Int} {nx : Nat} {x : Int32} {q : Nat × List Value} (h : pm_br (.tableswitch d lo hi ts) nx [.int x] = some q) (r : List Value) : pm_br (.tableswitch d lo hi ts) nx (.int x :: r) = some (q.1, r) := by
  simp only [pm_br] at h ⊢
  split at h
  · rename_i h1
    cases h
    rw [if_pos h1]
  · rename_i h1
    rw [if_neg h1]
    split at h
    · rename_i h2
      cases h
      rfl
    · cases h
theorem se_tab_ok {ρ : Nat → Int32} {σ : se_E} (hρ : se_in ρ σ) {d lo hi : Int} {ts : Array Int} {nx k : Nat} {r : List se_V} : ∀ (n : Nat) (v : Int) (l : List se_Q), se_tab (.tableswitch d lo hi ts) nx σ k r n v = some l → v ≤ (ρ k).toInt → (ρ k).toInt < v + n →
    ∃ q ∈ l, se_in ρ q.1 ∧ q.2.2 = r ∧ pm_br (.tableswitch d lo hi ts) nx (.int (ρ k) :: r.map (se_ev ρ)) = some (q.2.1, r.map (se_ev ρ)) := by
  intro n
  induction n with
  | zero => intro v l _ h1 h2; exact absurd h2 (by omega)
  | succ n ih =>
    intro v l h h1 h2
    rw [se_tab] at h
    split at h
    · rename_i q hq
      split at h
      · rename_i l' hl
        cases h
        by_cases e : (ρ k).toInt = v
        · refine ⟨_, List.mem_cons_self, se_in_set hρ (by omega) (by omega), rfl, ?_⟩
          rw [← e, Int32.ofInt_toInt] at hq
          exact pm_br_ts hq _
        · obtain ⟨q', g1, g2⟩ := ih (v + 1) l' hl (by omega) (by omega)
          exact ⟨q', List.mem_cons_of_mem _ g1, g2⟩
      · cases h
    · cases h
/-- an operation of two ints of which the first is not known -/
def se_b2 (i : Instr) (y x : se_V) : Option se_V := match x with
  | .inr (.inl e) => match y with
    | .inl (.int c) => some (.inr (.inl (e.1, e.2 ++ [(i, .inl c)])))
    | .inr (.inl (j, [])) => some (.inr (.inl (e.1, e.2 ++ [(i, .inr j)])))
    | _ => none
  | _ => none
theorem se_b2_ok {ρ : Nat → Int32} {i : Instr} {y x z : se_V} (h : se_b2 i y x = some z) : ∃ a b, se_ev ρ x = .int a ∧ se_ev ρ y = .int b ∧ se_ev ρ z = .int (se_op i a b) := by
  unfold se_b2 at h
  split at h
  · rename_i e
    split at h
    · rename_i c
      cases h
      exact ⟨se_ex ρ e, c, rfl, rfl, by simp only [se_ev, se_ex, List.foldl_append, List.foldl_cons, List.foldl_nil]⟩
    · rename_i j
      cases h
      exact ⟨se_ex ρ e, ρ j, rfl, rfl, by simp only [se_ev, se_ex, List.foldl_append, List.foldl_cons, List.foldl_nil]⟩
    · cases h
  · cases h
def se_sy (σ : se_E) (i : Instr) (nx : Nat) (st : List se_V) : Option (List se_Q) := match i with
  | .iadd => match st with
    | y :: x :: r => match se_b2 .iadd y x with
      | some z => some [(σ, nx, z :: r)]
      | none => (se_b2 .iadd x y).map fun z => [(σ, nx, z :: r)]
    | _ => none
  | .isub => match st with
    | y :: x :: r => (se_b2 .isub y x).map fun z => [(σ, nx, z :: r)]
    | _ => none
  | .imul => match st with
    | y :: x :: r => (se_b2 .imul y x).map fun z => [(σ, nx, z :: r)]
    | _ => none
  | .iand => match st with
    | y :: x :: r => (se_b2 .iand y x).map fun z => [(σ, nx, z :: r)]
    | _ => none
  | .ixor => match st with
    | y :: x :: r => (se_b2 .ixor y x).map fun z => [(σ, nx, z :: r)]
    | _ => none
  | .ishr => match st with
    | y :: x :: r => (se_b2 .ishr y x).map fun z => [(σ, nx, z :: r)]
    | _ => none
  | .i2b => match st with
    | .inr (.inl e) :: r => some [(σ, nx, .inr (.inl (e.1, e.2 ++ [(.i2b, .inl 0)])) :: r)]
    | _ => none
  | .i2l => match st with
    | .inr (.inl (i, [])) :: r => some [(σ, nx, .inr (.inr (.inl i)) :: r)]
    | _ => none
  | .lcmp => match st with
    | .inl (.long y) :: .inr (.inr (.inl i)) :: r => some [(σ, nx, .inr (.inr (.inr (i, y.toInt))) :: r)]
    | _ => none
  | .ifCond c t => match st with
    | .inr (.inl e) :: r => some (se_cp σ e c 0 t.toNat nx r)
    | .inr (.inr (.inr q)) :: r => some (se_cp σ (q.1, []) c (Int64.ofInt q.2).toInt t.toNat nx r)
    | _ => none
  | .if_icmp c t => match st with
    | .inl (.int y) :: .inr (.inl e) :: r => some (se_cp σ e c y.toInt t.toNat nx r)
    | .inr (.inl e) :: .inl (.int x) :: r => some (se_cp σ e (se_fl c) x.toInt t.toNat nx r)
    | y :: x :: r => bif se_isI y && se_isI x then some [(σ, t.toNat, r), (σ, nx, r)] else none
    | _ => none
  | .tableswitch d lo hi ts => match st with
    | .inr (.inl (k, [])) :: r => bif decide ((se_b σ k).2 - (se_b σ k).1 ≤ 70) then se_tab (.tableswitch d lo hi ts) nx σ k r ((se_b σ k).2 - (se_b σ k).1 + 1).toNat (se_b σ k).1 else none
    | _ => none
  | _ => none
theorem se_toInt64 (x : Int32) : x.toInt64.toInt = x.toInt := Int32.toInt_toInt64 x
theorem se_sy_ok {ρ : Nat → Int32} {σ : se_E} (hρ : se_in ρ σ) {i : Instr} {nx : Nat} {st : List se_V} {l : List se_Q} (h : se_sy σ i nx st = some l) (lv : List Value) (rt : Nat) (P : pm_P) (hh : pm_H) :
    ∃ q ∈ l, se_in ρ q.1 ∧ pm_lo i lv (st.map (se_ev ρ)) = none ∧ pm_re rt i (st.map (se_ev ρ)) = none ∧ pm_ca P i (st.map (se_ev ρ)) hh = none ∧
      ((q.2.1 = nx ∧ pm_ar i (st.map (se_ev ρ)) = some (q.2.2.map (se_ev ρ))) ∨ (pm_ar i (st.map (se_ev ρ)) = none ∧ pm_br i nx (st.map (se_ev ρ)) = some (q.2.1, q.2.2.map (se_ev ρ)))) := by
  unfold se_sy at h
  split at h
  · split at h
    · rename_i y x r
      split at h
      · rename_i z hz
        cases h
        obtain ⟨a, b, g1, g2, g3⟩ := se_b2_ok (ρ := ρ) hz
        refine ⟨_, List.mem_singleton.mpr rfl, hρ, rfl, rfl, rfl, Or.inl ⟨rfl, ?_⟩⟩
        simp only [List.map_cons, g1, g2, g3, pm_ar, se_op]
      · obtain ⟨z, hz, hl⟩ := Option.map_eq_some_iff.mp h
        subst hl
        obtain ⟨a, b, g1, g2, g3⟩ := se_b2_ok (ρ := ρ) hz
        refine ⟨_, List.mem_singleton.mpr rfl, hρ, rfl, rfl, rfl, Or.inl ⟨rfl, ?_⟩⟩
        simp only [List.map_cons, g1, g2, g3, pm_ar, se_op, Int32.add_comm b a]
    · cases h
  iterate 5
    · split at h
      · rename_i y x r
        obtain ⟨z, hz, hl⟩ := Option.map_eq_some_iff.mp h
        subst hl
        obtain ⟨a, b, g1, g2, g3⟩ := se_b2_ok (ρ := ρ) hz
        refine ⟨_, List.mem_singleton.mpr rfl, hρ, rfl, rfl, rfl, Or.inl ⟨rfl, ?_⟩⟩
        simp only [List.map_cons, g1, g2, g3, pm_ar, se_op]
      · cases h
  · split at h
    · rename_i e r
      cases h
      refine ⟨_, List.mem_singleton.mpr rfl, hρ, rfl, rfl, rfl, Or.inl ⟨rfl, ?_⟩⟩
      simp only [List.map_cons, se_ev, se_ex, List.foldl_append, List.foldl_cons, List.foldl_nil, pm_ar, se_op]
    · cases h
  · split at h
    · rename_i k r
      cases h
      exact ⟨_, List.mem_singleton.mpr rfl, hρ, rfl, rfl, rfl, Or.inl ⟨rfl, rfl⟩⟩
    · cases h
  · split at h
    · rename_i y k r
      cases h
      refine ⟨_, List.mem_singleton.mpr rfl, hρ, rfl, rfl, rfl, Or.inl ⟨rfl, ?_⟩⟩
      simp only [List.map_cons, se_ev, pm_ar, Int64.ofInt_toInt]
    · cases h
  · rename_i c t
    split at h
    · rename_i e r
      cases h
      obtain ⟨q, g1, g2, g3, g4⟩ := se_cp_ok hρ e c 0 t.toNat nx r
      refine ⟨q, g1, g2, rfl, rfl, rfl, Or.inr ⟨rfl, ?_⟩⟩
      simp only [List.map_cons, se_ev, pm_br, se_ci_ok, g3, g4]
      rfl
    · rename_i p r
      cases h
      obtain ⟨q, g1, g2, g3, g4⟩ := se_cp_ok hρ (p.1, []) c (Int64.ofInt p.2).toInt t.toNat nx r
      refine ⟨q, g1, g2, rfl, rfl, rfl, Or.inr ⟨rfl, ?_⟩⟩
      simp only [List.map_cons, se_ev, pm_br, se_lg_ok, se_toInt64, g3, g4]
      rfl
    · cases h
  · rename_i c t
    split at h
    · rename_i y e r
      cases h
      obtain ⟨q, g1, g2, g3, g4⟩ := se_cp_ok hρ e c y.toInt t.toNat nx r
      refine ⟨q, g1, g2, rfl, rfl, rfl, Or.inr ⟨rfl, ?_⟩⟩
      simp only [List.map_cons, se_ev, pm_br, se_ci_ok, g3, g4]
    · rename_i e x r
      cases h
      obtain ⟨q, g1, g2, g3, g4⟩ := se_cp_ok hρ e (se_fl c) x.toInt t.toNat nx r
      refine ⟨q, g1, g2, rfl, rfl, rfl, Or.inr ⟨rfl, ?_⟩⟩
      rw [se_fl_ok] at g3
      simp only [List.map_cons, se_ev, pm_br, se_ci_ok, g3, g4]
    · rename_i y x r _ _
      obtain ⟨h1, h2⟩ := se_bif h
      subst h2
      rw [Bool.and_eq_true] at h1
      obtain ⟨a, ha⟩ := se_isI_ev (ρ := ρ) h1.1
      obtain ⟨b, hb⟩ := se_isI_ev (ρ := ρ) h1.2
      cases e : pm_cmp c b a with
      | true => exact ⟨(σ, t.toNat, r), List.mem_cons_self, hρ, rfl, rfl, rfl, Or.inr ⟨rfl, by simp only [List.map_cons, ha, hb, pm_br, e, if_true]⟩⟩
      | false => exact ⟨(σ, nx, r), List.mem_cons_of_mem _ List.mem_cons_self, hρ, rfl, rfl, rfl, Or.inr ⟨rfl, by simp only [List.map_cons, ha, hb, pm_br, e]; rfl⟩⟩
    · cases h
  · rename_i d lo hi ts
    split at h
    · rename_i k r
      cases e : decide ((se_b σ k).2 - (se_b σ k).1 ≤ 70) with
      | false => rw [e] at h; cases h
      | true =>
        rw [e] at h
        have hk := hρ k
        obtain ⟨q, g1, g2, g3, g4⟩ := se_tab_ok hρ _ _ l h hk.1 (by omega)
        refine ⟨q, g1, g2, rfl, rfl, rfl, Or.inr ⟨rfl, ?_⟩⟩
        rw [g3]
        exact g4
    · cases h
  · cases h
