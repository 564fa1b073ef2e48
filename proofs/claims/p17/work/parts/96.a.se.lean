/-! A RUN OVER UNKNOWN INTS: the pure machine run with the script's ints left open. A value is known, or an int out of the script with operations behind it, or the long of one, or how the long of one compares with a number. What is known of the script's ints is a list of bounds; a branch on one of them narrows its bounds, each way by itself. No word of any class stands here. -/
abbrev se_V : Type := Value ⊕ (Nat × List (Instr × (Int32 ⊕ Nat))) ⊕ Nat ⊕ (Nat × Int)
abbrev se_E : Type := List (Int × Int)
abbrev se_H : Type := List (Nat × Nat × se_V) × List (Nat × Nat × Int64) × List (Nat × Nat × Option Nat) × Nat
/-- an operation of two ints, or of one -/
def se_op (i : Instr) (x y : Int32) : Int32 := match i with
  | .iadd => x + y
  | .isub => x - y
  | .imul => x * y
  | .iand => x &&& y
  | .ixor => x ^^^ y
  | .ishr => x >>> (y &&& 31)
  | .i2b => x.toInt8.toInt32
  | .bastore => vp_nar .byte x
  | _ => -x
def se_ex (ρ : Nat → Int32) (e : Nat × List (Instr × (Int32 ⊕ Nat))) : Int32 := e.2.foldl (fun x q => se_op q.1 x (match q.2 with | .inl c => c | .inr j => ρ j)) (ρ e.1)
def se_ev (ρ : Nat → Int32) : se_V → Value
  | .inl w => w
  | .inr (.inl e) => .int (se_ex ρ e)
  | .inr (.inr (.inl i)) => .long (ρ i).toInt64
  | .inr (.inr (.inr q)) => .int (lg_cmp (ρ q.1).toInt64 (Int64.ofInt q.2))
def se_isI : se_V → Bool
  | .inl (.int _) => true
  | .inr (.inl _) => true
  | .inr (.inr (.inr _)) => true
  | _ => false
def se_isL : se_V → Bool
  | .inl (.long _) => true
  | .inr (.inr (.inl _)) => true
  | _ => false
def se_isR : se_V → Bool
  | .inl (.ref _) => true
  | .inl .null => true
  | _ => false
/-- bounds -/
def se_mn : Int := -2147483648
def se_mx : Int := 2147483647
def se_b : se_E → Nat → Int × Int
  | [], _ => (se_mn, se_mx)
  | q :: _, 0 => q
  | _ :: r, i + 1 => se_b r i
def se_in (ρ : Nat → Int32) (σ : se_E) : Prop := ∀ i, (se_b σ i).1 ≤ (ρ i).toInt ∧ (ρ i).toInt ≤ (se_b σ i).2
def se_set : se_E → Nat → Int × Int → se_E
  | [], _, _ => []
  | _ :: r, 0, q => q :: r
  | p :: r, i + 1, q => p :: se_set r i q
theorem se_b_set (σ : se_E) (i j : Nat) (q : Int × Int) : se_b (se_set σ i q) j = se_b σ j ∨ (j = i ∧ se_b (se_set σ i q) j = q) := by
  induction σ generalizing i j with
  | nil => exact Or.inl rfl
  | cons p r ih =>
    cases i with
    | zero => cases j with
      | zero => exact Or.inr ⟨rfl, rfl⟩
      | succ j => exact Or.inl rfl
    | succ i => cases j with
      | zero => exact Or.inl rfl
      | succ j => rcases ih i j with h | ⟨h1, h2⟩
                  · exact Or.inl h
                  · exact Or.inr ⟨by omega, h2⟩
theorem se_in_set {ρ : Nat → Int32} {σ : se_E} {i : Nat} {lo hi : Int} (h : se_in ρ σ) (h1 : lo ≤ (ρ i).toInt) (h2 : (ρ i).toInt ≤ hi) : se_in ρ (se_set σ i (lo, hi)) := by
  intro j
  rcases se_b_set σ i j (lo, hi) with e | ⟨rfl, e⟩
  · rw [e]; exact h j
  · rw [e]; exact ⟨h1, h2⟩
/-- an int whose bounds meet is known -/
def se_nm (σ : se_E) : se_V → se_V
  | .inr (.inl (i, [])) => bif (se_b σ i).1 == (se_b σ i).2 then .inl (.int (Int32.ofInt (se_b σ i).1)) else .inr (.inl (i, []))
  | v => v
theorem se_nm_ev {ρ : Nat → Int32} {σ : se_E} (h : se_in ρ σ) (v : se_V) : se_ev ρ (se_nm σ v) = se_ev ρ v := by
  unfold se_nm
  split
  · rename_i i
    cases e : (se_b σ i).1 == (se_b σ i).2 with
    | false => rfl
    | true =>
      have e1 := eq_of_beq e
      have h1 := h i
      have h2 : (se_b σ i).1 = (ρ i).toInt := by omega
      show Value.int (Int32.ofInt (se_b σ i).1) = Value.int (ρ i)
      rw [h2, Int32.ofInt_toInt]
  · rfl
theorem se_isI_ev {ρ : Nat → Int32} {v : se_V} (h : se_isI v = true) : ∃ x, se_ev ρ v = .int x := by
  unfold se_isI at h
  split at h
  · exact ⟨_, rfl⟩
  · exact ⟨_, rfl⟩
  · exact ⟨_, rfl⟩
  · cases h
theorem se_isL_ev {ρ : Nat → Int32} {v : se_V} (h : se_isL v = true) : ∃ x, se_ev ρ v = .long x := by
  unfold se_isL at h
  split at h
  · exact ⟨_, rfl⟩
  · exact ⟨_, rfl⟩
  · cases h
theorem se_isR_ev {ρ : Nat → Int32} {v : se_V} (h : se_isR v = true) : (∃ x, se_ev ρ v = .ref x) ∨ se_ev ρ v = .null := by
  unfold se_isR at h
  split at h
  · exact Or.inl ⟨_, rfl⟩
  · exact Or.inr rfl
  · cases h
/-! locals -/
def se_k (lv : List se_V) (i : Nat) : List se_V := match i with
  | 0 => lv
  | j + 1 => match lv[j]? with
    | some (.inl (.long _)) => lv.set j (.inl (.retAddr 0))
    | some (.inl (.double _)) => lv.set j (.inl (.retAddr 0))
    | some (.inr (.inr (.inl _))) => lv.set j (.inl (.retAddr 0))
    | _ => lv
theorem se_k_ev (ρ : Nat → Int32) (lv : List se_V) (i : Nat) : (se_k lv i).map (se_ev ρ) = pm_k (lv.map (se_ev ρ)) i := by
  cases i with
  | zero => rfl
  | succ j =>
    unfold se_k pm_k
    simp only [List.getElem?_map]
    cases e : lv[j]? with
    | none => rfl
    | some v =>
      rcases v with w | q | i | q
      · cases w <;> simp [se_ev, List.map_set]
      · simp [se_ev]
      · simp [se_ev, List.map_set]
      · simp [se_ev]
def se_st1 (lv : List se_V) (i : Nat) (v : se_V) : List se_V := (se_k lv i).set i v
def se_st2 (lv : List se_V) (i : Nat) (v : se_V) : List se_V := ((se_k lv i).set i v).set (i + 1) (.inl (.retAddr 0))
theorem se_st1_ev (ρ : Nat → Int32) (lv : List se_V) (i : Nat) (v : se_V) : (se_st1 lv i v).map (se_ev ρ) = pm_st1 (lv.map (se_ev ρ)) i (se_ev ρ v) := by
  simp only [se_st1, pm_st1, List.map_set, se_k_ev]
theorem se_st2_ev (ρ : Nat → Int32) (lv : List se_V) (i : Nat) (v : se_V) : (se_st2 lv i v).map (se_ev ρ) = pm_st2 (lv.map (se_ev ρ)) i (se_ev ρ v) := by
  simp only [se_st2, pm_st2, List.map_set, se_k_ev]; rfl
/-- an int that is counted is worked out at once -/
def se_ii (lv st : List se_V) (k : Nat) (y : Int32) : Option (List se_V × List se_V) := match y.toInt with
  | .ofNat 0 => some (se_st1 lv k (.inl (.int (Int32.ofInt (.ofNat 0)))), st)
  | .ofNat (m + 1) => some (se_st1 lv k (.inl (.int (Int32.ofInt (.ofNat (m + 1))))), st)
  | .negSucc m => some (se_st1 lv k (.inl (.int (Int32.ofInt (.negSucc m)))), st)
theorem se_ii_eq (lv st : List se_V) (k : Nat) (y : Int32) : se_ii lv st k y = some (se_st1 lv k (.inl (.int y)), st) := by
  unfold se_ii
  split
  · rename_i h
    rw [← h, Int32.ofInt_toInt]
  · rename_i h
    rw [← h, Int32.ofInt_toInt]
  · rename_i h
    rw [← h, Int32.ofInt_toInt]
def se_lo (σ : se_E) (i : Instr) (lv st : List se_V) : Option (List se_V × List se_V) := match i with
  | .iload k => match lv[k]? with
    | some v => bif se_isI v then some (lv, se_nm σ v :: st) else none
    | _ => none
  | .lload k => match lv[k]? with
    | some v => bif se_isL v then some (lv, v :: st) else none
    | _ => none
  | .aload k => match lv[k]? with
    | some v => bif se_isR v then some (lv, v :: st) else none
    | _ => none
  | .istore k => match st with
    | v :: r => bif se_isI v && Nat.blt k lv.length then some (se_st1 lv k v, r) else none
    | _ => none
  | .lstore k => match st with
    | v :: r => bif se_isL v && Nat.blt (k + 1) lv.length then some (se_st2 lv k v, r) else none
    | _ => none
  | .astore k => match st with
    | v :: r => bif se_isR v && Nat.blt k lv.length then some (se_st1 lv k v, r) else none
    | _ => none
  | .iinc k n => match lv[k]? with
    | some (.inl (.int x)) => se_ii lv st k (x + Int32.ofInt n)
    | _ => none
  | _ => none
theorem se_bif {α : Type} {b : Bool} {x y : α} (h : (bif b then some x else none) = some y) : b = true ∧ x = y := by
  cases b
  · cases h
  · cases h; exact ⟨rfl, rfl⟩
theorem se_lo_ok {ρ : Nat → Int32} {σ : se_E} (hρ : se_in ρ σ) {i : Instr} {lv st lv' st' : List se_V} (h : se_lo σ i lv st = some (lv', st')) (rt : Nat) (P : pm_P) (hh : pm_H) :
    pm_lo i (lv.map (se_ev ρ)) (st.map (se_ev ρ)) = some (lv'.map (se_ev ρ), st'.map (se_ev ρ)) ∧ pm_re rt i (st.map (se_ev ρ)) = none ∧ pm_ca P i (st.map (se_ev ρ)) hh = none := by
  unfold se_lo at h
  simp only [se_ii_eq] at h
  split at h
  · split at h
    · rename_i k v e
      obtain ⟨h1, h2⟩ := se_bif h
      cases h2
      obtain ⟨x, hx⟩ := se_isI_ev (ρ := ρ) h1
      refine ⟨?_, rfl, rfl⟩
      simp only [pm_lo, List.getElem?_map, e, Option.map_some, hx, List.map_cons, se_nm_ev hρ]
    · cases h
  · split at h
    · rename_i k v e
      obtain ⟨h1, h2⟩ := se_bif h
      cases h2
      obtain ⟨x, hx⟩ := se_isL_ev (ρ := ρ) h1
      refine ⟨?_, rfl, rfl⟩
      simp only [pm_lo, List.getElem?_map, e, Option.map_some, hx, List.map_cons]
    · cases h
  · split at h
    · rename_i k v e
      obtain ⟨h1, h2⟩ := se_bif h
      cases h2
      refine ⟨?_, rfl, rfl⟩
      rcases se_isR_ev (ρ := ρ) h1 with ⟨x, hx⟩ | hx
      · simp only [pm_lo, List.getElem?_map, e, Option.map_some, hx, List.map_cons]
      · simp only [pm_lo, List.getElem?_map, e, Option.map_some, hx, List.map_cons]
    · cases h
  · split at h
    · rename_i k _ v r
      obtain ⟨h1, h2⟩ := se_bif h
      cases h2
      rw [Bool.and_eq_true] at h1
      obtain ⟨x, hx⟩ := se_isI_ev (ρ := ρ) h1.1
      have hk : k < (lv.map (se_ev ρ)).length := by rw [List.length_map]; exact Nat.blt_eq.mp h1.2
      refine ⟨?_, rfl, rfl⟩
      simp only [pm_lo, List.map_cons, hx, if_pos hk, se_st1_ev]
    · cases h
  · split at h
    · rename_i k _ v r
      obtain ⟨h1, h2⟩ := se_bif h
      cases h2
      rw [Bool.and_eq_true] at h1
      obtain ⟨x, hx⟩ := se_isL_ev (ρ := ρ) h1.1
      have hk : k + 1 < (lv.map (se_ev ρ)).length := by rw [List.length_map]; exact Nat.blt_eq.mp h1.2
      refine ⟨?_, rfl, rfl⟩
      simp only [pm_lo, List.map_cons, hx, if_pos hk, se_st2_ev]
    · cases h
  · split at h
    · rename_i k _ v r
      obtain ⟨h1, h2⟩ := se_bif h
      cases h2
      rw [Bool.and_eq_true] at h1
      have hk : k < (lv.map (se_ev ρ)).length := by rw [List.length_map]; exact Nat.blt_eq.mp h1.2
      refine ⟨?_, rfl, rfl⟩
      rcases se_isR_ev (ρ := ρ) h1.1 with ⟨x, hx⟩ | hx
      · simp only [pm_lo, List.map_cons, hx, if_pos hk, se_st1_ev]
      · simp only [pm_lo, List.map_cons, hx, if_pos hk, se_st1_ev]
    · cases h
  · split at h
    · rename_i k n x e
      cases h
      refine ⟨?_, rfl, rfl⟩
      simp only [pm_lo, List.getElem?_map, e, Option.map_some, se_ev, se_st1_ev]
    · cases h
  · cases h
/-! what is known on top of the stack -/
def se_cn : List se_V → List Value × List se_V
  | .inl w :: r => (w :: (se_cn r).1, (se_cn r).2)
  | r => ([], r)
theorem se_cn_ev (ρ : Nat → Int32) (st : List se_V) : st.map (se_ev ρ) = (se_cn st).1 ++ (se_cn st).2.map (se_ev ρ) := by
  induction st with
  | nil => rfl
  | cons v r ih =>
    rcases v with w | q
    · simp only [se_cn, List.map_cons, List.cons_append, ← ih]; rfl
    · rfl
theorem se_inl_ev (ρ : Nat → Int32) (s : List Value) (r : List se_V) : (s.map Sum.inl ++ r).map (se_ev ρ) = s ++ r.map (se_ev ρ) := by
  rw [List.map_append]
  congr 1
  induction s with
  | nil => rfl
  | cons v s ih => simp only [List.map_cons, ih]; rfl
theorem pm_ar_app {i : Instr} {s s' : List Value} (h : pm_ar i s = some s') (r : List Value) : pm_ar i (s ++ r) = some (s' ++ r) := by
  unfold pm_ar at h
  repeat' split at h
  all_goals first | (cases h; done) | skip
  all_goals first | (cases h; rfl; done) | (cases h; simp only [pm_ar, List.cons_append, if_true, if_false, *]; done) | skip
theorem pm_br_app {i : Instr} {nx pc : Nat} {s s' : List Value} (h : pm_br i nx s = some (pc, s')) (r : List Value) : pm_br i nx (s ++ r) = some (pc, s' ++ r) := by
  unfold pm_br at h
  repeat' split at h
  all_goals first | (cases h; done) | skip
  all_goals first | (cases h; rfl; done) | (cases h; simp only [pm_br, List.cons_append, if_true, if_false, *]; done) | (rename_i hn; cases h; simp only [pm_br, List.cons_append, if_neg hn]; done) | skip
theorem pm_ar_no {i : Instr} {s s' : List Value} (h : pm_ar i s = some s') (lv st : List Value) (rt : Nat) (P : pm_P) (hh : pm_H) : pm_lo i lv st = none ∧ pm_re rt i st = none ∧ pm_ca P i st hh = none := by
  unfold pm_ar at h
  split at h
  all_goals first | exact ⟨rfl, rfl, rfl⟩ | cases h
theorem pm_br_no {i : Instr} {nx : Nat} {s : List Value} {q : Nat × List Value} (h : pm_br i nx s = some q) (lv st : List Value) (rt : Nat) (P : pm_P) (hh : pm_H) : pm_lo i lv st = none ∧ pm_ar i st = none ∧ pm_re rt i st = none ∧ pm_ca P i st hh = none := by
  unfold pm_br at h
  split at h
  all_goals first | exact ⟨rfl, rfl, rfl, rfl⟩ | cases h
