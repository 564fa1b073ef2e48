/-! THE PURE HEAP IN THE REAL ONE -/
/-- a pure value as the real machine has it: ρ says where a pure address lies -/
def pm_c (ρ : Nat → Nat) : Value → Value
  | .ref a => .ref (ρ a)
  | v => v
theorem pm_c_cat (ρ : Nat → Nat) (v : Value) : (pm_c ρ v).category = v.category := by cases v <;> rfl
theorem pm_c_rf (ρ : Nat → Nat) (o : Option Nat) : pm_c ρ (va_rf o) = va_rf (o.map ρ) := by cases o <;> rfl
theorem pm_c_sum (ρ : Nat → Nat) (r : List Value) : ((r.map (pm_c ρ)).map fun v => v.category).sum = (r.map Value.category).sum := by
  induction r with
  | nil => rfl
  | cons v r ih => simp only [List.map_cons, List.sum_cons, ih, pm_c_cat]
/-- a cell -/
def pm_E (P : pm_P) (tA : Nat → ClassId) (ρ : Nat → Nat) (h : pm_H) (a : Nat) : va_E := match pm_shp P a with
  | some (.inl c) => .inr (c, (List.range (pm_nf P c)).map fun k => pm_c ρ (pm_g (pm_fty P c k) h a k))
  | some (.inr (0, n)) => .inl (tA 0, n, .inl (h.1 a))
  | some (.inr (1, n)) => .inl (tA 1, n, .inr (.inl (h.2.1 a)))
  | some (.inr (2, n)) => .inl (tA 2, n, .inl (h.1 a))
  | some (.inr (3, n)) => .inl (tA 3, n, .inl (h.1 a))
  | some (.inr (t + 4, n)) => .inl (tA (t + 4), n, .inr (.inr (.inr (.inr fun i => (h.2.2.1 a i).map ρ))))
  | none => .inr (0, [])
def pm_w (P : pm_P) (tA : Nat → ClassId) (ρ : Nat → Nat) (h : pm_H) : va_W := (List.range h.2.2.2).map fun a => (ρ a, pm_E P tA ρ h a)
theorem pm_w_get {P : pm_P} {tA : Nat → ClassId} {ρ : Nat → Nat} {h : pm_H} {a : Nat} (ha : a < h.2.2.2) : (pm_w P tA ρ h)[a]? = some (ρ a, pm_E P tA ρ h a) := by
  simp [pm_w, ha]
theorem pm_w_len {P : pm_P} {tA : Nat → ClassId} {ρ : Nat → Nat} {h : pm_H} : (pm_w P tA ρ h).length = h.2.2.2 := by simp [pm_w]
theorem pm_w_set {P : pm_P} {tA : Nat → ClassId} {ρ : Nat → Nat} {h h' : pm_H} {a : Nat} {e : va_E} (hn : h'.2.2.2 = h.2.2.2) (he : e = pm_E P tA ρ h' a) (ho : ∀ b, b ≠ a → pm_E P tA ρ h' b = pm_E P tA ρ h b) : (pm_w P tA ρ h).set a (ρ a, e) = pm_w P tA ρ h' := by
  subst he
  apply List.ext_getElem?
  intro j
  rw [List.getElem?_set]
  by_cases hj : a = j
  · subst hj
    by_cases hl : a < h.2.2.2
    · rw [if_pos rfl, if_pos (by rw [pm_w_len]; exact hl), pm_w_get (by rw [hn]; exact hl)]
    · rw [if_pos rfl, if_neg (by rw [pm_w_len]; exact hl)]
      symm
      rw [List.getElem?_eq_none_iff, pm_w_len]
      omega
  · rw [if_neg hj]
    by_cases hl : j < h.2.2.2
    · rw [pm_w_get hl, pm_w_get (by rw [hn]; exact hl), ho j (fun q => hj q.symm)]
    · rw [List.getElem?_eq_none_iff.mpr (by rw [pm_w_len]; omega), List.getElem?_eq_none_iff.mpr (by rw [pm_w_len]; omega)]
/-- nothing is there yet from n on -/
def pm_Z (h : pm_H) : Prop := ∀ a k, h.2.2.2 ≤ a → h.1 a k = 0 ∧ h.2.1 a k = 0 ∧ h.2.2.1 a k = none
def pm_Rel (P : pm_P) (tA : Nat → ClassId) (ρ : Nat → Nat) (base : Nat) (D : va_G) (cl : List vw_C) (h : pm_H) (H : Heap) : Prop :=
  va_P D cl (pm_w P tA ρ h) H ∧ h.2.2.2 ≤ 99999 ∧ pm_Z h
theorem pm_D {P : pm_P} {tA : Nat → ClassId} {ρ : Nat → Nat} {base : Nat} {h : pm_H} (hρ : ∀ a, a < 99999 → ρ a = base + a) (hn : h.2.2.2 ≤ 99999) : va_D (fun q : Nat => base ≤ q) (pm_w P tA ρ h) := by
  have key : ∀ (k : Nat) (q : Nat × va_E), (pm_w P tA ρ h)[k]? = some q → q.1 = base + k := by
    intro k q hq
    have hk : k < h.2.2.2 := by
      have := (List.getElem?_eq_some_iff.mp hq).1
      rwa [pm_w_len] at this
    rw [pm_w_get hk] at hq
    cases hq
    exact hρ k (by omega)
  refine ⟨fun i j p q hp hq e => ?_, fun k q hq => ?_⟩
  · have h1 := key i p hp
    have h2 := key j q hq
    omega
  · have h1 := key k q hq
    show base ≤ q.1
    omega
/-- the locals -/
def pm_L (ρ : Nat → Nat) (ls : Array Slot) (lv : List Value) : Prop := ls.size = lv.length ∧ lv_wf ls ∧ ∀ (i : Nat) (v : Value), lv[i]? = some v → (∀ q, v ≠ .retAddr q) → ls[i]? = some (.val (pm_c ρ v))
def pm_ll (ρ : Nat → Nat) (lv : List Value) : List (Nat × Value) := (List.range lv.length).filterMap fun j => match (lv[j]? : Option Value) with
  | some (Value.retAddr _) => none
  | some v => some (j, pm_c ρ v)
  | none => none
theorem pm_ll_mem {ρ : Nat → Nat} {lv : List Value} {j : Nat} {w : Value} : (j, w) ∈ pm_ll ρ lv ↔ ∃ v, lv[j]? = some v ∧ (∀ q, v ≠ .retAddr q) ∧ w = pm_c ρ v := by
  unfold pm_ll
  rw [List.mem_filterMap]
  constructor
  · rintro ⟨i, hi, e⟩
    cases hv : lv[i]? with
    | none => rw [hv] at e; cases e
    | some v =>
      rw [hv] at e
      cases v <;> first | (cases e; done) | (cases e; exact ⟨_, hv, fun q => by simp, rfl⟩)
  · rintro ⟨v, hv, hq, rfl⟩
    refine ⟨j, List.mem_range.mpr (List.getElem?_eq_some_iff.mp hv).1, ?_⟩
    rw [hv]
    cases v <;> first | rfl | exact absurd rfl (hq _)
theorem pm_L_has {ρ : Nat → Nat} {ls : Array Slot} {lv : List Value} (h : pm_L ρ ls lv) : lv_has ls lv.length (pm_ll ρ lv) := by
  refine ⟨h.1, h.2.1, fun q hq => ?_⟩
  obtain ⟨v, h1, h2, h3⟩ := pm_ll_mem.mp (show (q.1, q.2) ∈ _ from hq)
  rw [h3]
  exact h.2.2 _ _ h1 h2
theorem pm_k_len (lv : List Value) (i : Nat) : (pm_k lv i).length = lv.length := by
  unfold pm_k
  split
  · rfl
  · split <;> simp
theorem pm_st1_len (lv : List Value) (i : Nat) (v : Value) : (pm_st1 lv i v).length = lv.length := by simp [pm_st1, pm_k_len]
theorem pm_st2_len (lv : List Value) (i : Nat) (v : Value) : (pm_st2 lv i v).length = lv.length := by simp [pm_st2, pm_k_len]
theorem pm_k_get {lv : List Value} {i j : Nat} {u : Value} (h : (pm_k lv i)[j]? = some u) (hu : ∀ q, u ≠ .retAddr q) : lv[j]? = some u ∧ ¬ (j + 1 = i ∧ u.category = 2) := by
  unfold pm_k at h
  split at h
  · exact ⟨h, fun q => by omega⟩
  · rename_i n
    have key : ∀ x, (lv.set n (.retAddr 0))[j]? = some u → lv[n]? = some x → lv[j]? = some u ∧ ¬ (j + 1 = n + 1 ∧ u.category = 2) := by
      intro x e hx
      by_cases hj : n = j
      · subst hj
        rw [List.getElem?_set, if_pos rfl, if_pos (List.getElem?_eq_some_iff.mp hx).1] at e
        cases e
        exact absurd rfl (hu 0)
      · rw [List.getElem?_set, if_neg hj] at e
        exact ⟨e, fun q => hj (by omega)⟩
    split at h
    · exact key _ h (by assumption)
    · exact key _ h (by assumption)
    · rename_i h1 h2
      refine ⟨h, fun q => ?_⟩
      have : j = n := by omega
      subst this
      cases u with
      | long z => exact h1 z h
      | double z => exact h2 z h
      | _ => simp [Value.category] at q
theorem pm_L_st1 {ρ : Nat → Nat} {ls' : Array Slot} {lv : List Value} {i : Nat} {v : Value} (hh : lv_has ls' lv.length ((i, pm_c ρ v) :: (pm_ll ρ lv).filter (fun q => !(q.1 == i) && !(q.1 + 1 == i && q.2.category == 2)))) : pm_L ρ ls' (pm_st1 lv i v) := by
  obtain ⟨h1, h2, h3⟩ := hh
  refine ⟨by rw [h1, pm_st1_len], h2, fun j u hj hu => ?_⟩
  unfold pm_st1 at hj
  rw [List.getElem?_set] at hj
  by_cases e : i = j
  · subst e
    rw [if_pos rfl] at hj
    split at hj
    · cases hj
      exact h3 (i, pm_c ρ v) List.mem_cons_self
    · cases hj
  · rw [if_neg e] at hj
    obtain ⟨g1, g2⟩ := pm_k_get hj hu
    refine h3 (j, pm_c ρ u) (List.mem_cons_of_mem _ (List.mem_filter.mpr ⟨pm_ll_mem.mpr ⟨u, g1, hu, rfl⟩, ?_⟩))
    simp only [pm_c_cat, Bool.and_eq_true, Bool.not_eq_true', beq_eq_false_iff_ne, ne_eq, Bool.and_eq_false_iff]
    refine ⟨fun q => e q.symm, ?_⟩
    by_cases q1 : j + 1 = i
    · exact Or.inr fun q2 => g2 ⟨q1, q2⟩
    · exact Or.inl q1
theorem pm_L_st2 {ρ : Nat → Nat} {ls' : Array Slot} {lv : List Value} {i : Nat} {v : Value} (hh : lv_has ls' lv.length ((i, pm_c ρ v) :: (pm_ll ρ lv).filter (fun q => !(q.1 == i) && (!(q.1 == i + 1) && !(q.1 + 1 == i && q.2.category == 2))))) : pm_L ρ ls' (pm_st2 lv i v) := by
  obtain ⟨h1, h2, h3⟩ := hh
  refine ⟨by rw [h1, pm_st2_len], h2, fun j u hj hu => ?_⟩
  unfold pm_st2 at hj
  rw [List.getElem?_set] at hj
  by_cases e1 : i + 1 = j
  · subst e1
    rw [if_pos rfl] at hj
    split at hj
    · cases hj
      exact absurd rfl (hu 0)
    · cases hj
  · rw [if_neg e1, List.getElem?_set] at hj
    by_cases e : i = j
    · subst e
      rw [if_pos rfl] at hj
      split at hj
      · cases hj
        exact h3 (i, pm_c ρ v) List.mem_cons_self
      · cases hj
    · rw [if_neg e] at hj
      obtain ⟨g1, g2⟩ := pm_k_get hj hu
      refine h3 (j, pm_c ρ u) (List.mem_cons_of_mem _ (List.mem_filter.mpr ⟨pm_ll_mem.mpr ⟨u, g1, hu, rfl⟩, ?_⟩))
      simp only [pm_c_cat, Bool.and_eq_true, Bool.not_eq_true', beq_eq_false_iff_ne, ne_eq, Bool.and_eq_false_iff]
      refine ⟨fun q => e q.symm, fun q => e1 q.symm, ?_⟩
      by_cases q1 : j + 1 = i
      · exact Or.inr fun q2 => g2 ⟨q1, q2⟩
      · exact Or.inl q1
theorem pm_sl_len (vs : List Value) (ρ : Nat → Nat) : (lg_sl (vs.map (pm_c ρ))).length = (pm_sl vs).length := by
  unfold lg_sl pm_sl
  induction vs with
  | nil => rfl
  | cons v vs ih =>
    simp only [List.map_cons, List.flatMap_cons, List.length_append, ih, pm_c_cat]
    by_cases h : v.category = 2
    · rw [if_pos h, if_pos h]; rfl
    · rw [if_neg h, if_neg h]; rfl
theorem pm_args_mem {ρ : Nat → Nat} (vs : List Value) : ∀ (i j : Nat) (u : Value), (pm_sl vs)[j]? = some u → (∀ q, u ≠ .retAddr q) → (i + j, pm_c ρ u) ∈ lv_args i (vs.map (pm_c ρ)) := by
  induction vs with
  | nil => intro i j u h; simp [pm_sl] at h
  | cons v vs ih =>
    intro i j u h hu
    simp only [pm_sl, List.flatMap_cons] at h
    simp only [List.map_cons, lv_args, pm_c_cat]
    by_cases hc : v.category = 2
    · rw [if_pos hc] at h ⊢
      match j, h with
      | 0, h =>
        simp at h
        subst h
        exact List.mem_cons_self
      | 1, h =>
        simp at h
        exact absurd h.symm (hu 0)
      | j + 2, h =>
        refine List.mem_cons_of_mem _ ?_
        have := ih (i + 2) j u (by simpa [pm_sl] using h) hu
        rwa [show i + 2 + j = i + (j + 2) by omega] at this
    · rw [if_neg hc] at h ⊢
      match j, h with
      | 0, h =>
        simp at h
        subst h
        exact List.mem_cons_self
      | j + 1, h =>
        refine List.mem_cons_of_mem _ ?_
        have := ih (i + 1) j u (by simpa [pm_sl] using h) hu
        rwa [show i + 1 + j = i + (j + 1) by omega] at this
theorem pm_en_len {vs : List Value} {n : Nat} (h : (pm_sl vs).length ≤ n) : (pm_en vs n).length = n := by
  simp [pm_en]; omega
theorem pm_L_entry {ρ : Nat → Nat} {vs : List Value} {n : Nat} (h : (pm_sl vs).length ≤ n) : pm_L ρ ((lg_sl (vs.map (pm_c ρ)) ++ List.replicate (n - (lg_sl (vs.map (pm_c ρ))).length) Slot.unset).toArray) (pm_en vs n) := by
  obtain ⟨h1, h2, h3⟩ := lv_entry (vs.map (pm_c ρ)) (n := n) (by rw [pm_sl_len]; exact h)
  refine ⟨by rw [h1, pm_en_len h], h2, fun j u hj hu => ?_⟩
  unfold pm_en at hj
  rw [List.getElem?_append] at hj
  split at hj
  · have := pm_args_mem (ρ := ρ) vs 0 j u hj hu
    rw [Nat.zero_add] at this
    exact h3 _ this
  · rw [List.getElem?_replicate] at hj
    split at hj
    · cases hj
      exact absurd rfl (hu 0)
    · cases hj
