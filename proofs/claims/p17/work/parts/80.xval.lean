/-! A RUN OVER AN UNKNOWN HEAP, first: values. ρ is a list of numbers, one a variable. A value is known; or an int, a variable with a number added; or a long; or how two longs compare; or a reference into a region (tg: the region that an address lies in). -/
abbrev sx_V : Type := Value ⊕ (Nat × Int) ⊕ Nat ⊕ ((Int ⊕ Nat) × (Int ⊕ Nat)) ⊕ (Nat × Nat)
abbrev sx_S : Type := List (Nat × Int × Int)
def sx_mn : Int := -2147483648
def sx_mx : Int := 2147483647
def sx_ln : Int := -9223372036854775808
def sx_lx : Int := 9223372036854775807
def sx_lo (ρ : List Int) (q : Int ⊕ Nat) : Option Int := match q with
  | .inl z => some z
  | .inr j => ρ[j]?
def sx_ev (tg : Nat → Nat) (ρ : List Int) (v : sx_V) : Option Value := match v with
  | .inl w => some w
  | .inr (.inl (i, c)) => match ρ[i]? with
    | some z => some (.int (Int32.ofInt (z + c)))
    | none => none
  | .inr (.inr (.inl i)) => match ρ[i]? with
    | some z => some (.long (Int64.ofInt z))
    | none => none
  | .inr (.inr (.inr (.inl (p, q)))) => match sx_lo ρ p with
    | some a => match sx_lo ρ q with
      | some b => some (.int (lg_cmp (Int64.ofInt a) (Int64.ofInt b)))
      | none => none
    | none => none
  | .inr (.inr (.inr (.inr (i, t)))) => match ρ[i]? with
    | some (.ofNat a) => if tg a = t then some (.ref a) else none
    | _ => none
/-! what a value that is there is -/
theorem sx_evl {tg : Nat → Nat} {ρ : List Int} {v w : Value} (h : sx_ev tg ρ (.inl v) = some w) : v = w := by injection h
theorem sx_evi {tg : Nat → Nat} {ρ : List Int} {i : Nat} {c : Int} {w : Value} (h : sx_ev tg ρ (.inr (.inl (i, c))) = some w) : ∃ z, ρ[i]? = some z ∧ w = .int (Int32.ofInt (z + c)) := by
  simp only [sx_ev] at h
  split at h
  · rename_i z hz
    cases h
    exact ⟨z, hz, rfl⟩
  · cases h
theorem sx_evj {tg : Nat → Nat} {ρ : List Int} {i : Nat} {w : Value} (h : sx_ev tg ρ (.inr (.inr (.inl i))) = some w) : ∃ z, ρ[i]? = some z ∧ w = .long (Int64.ofInt z) := by
  simp only [sx_ev] at h
  split at h
  · rename_i z hz
    cases h
    exact ⟨z, hz, rfl⟩
  · cases h
theorem sx_evc {tg : Nat → Nat} {ρ : List Int} {p q : Int ⊕ Nat} {w : Value} (h : sx_ev tg ρ (.inr (.inr (.inr (.inl (p, q))))) = some w) : ∃ a b, sx_lo ρ p = some a ∧ sx_lo ρ q = some b ∧ w = .int (lg_cmp (Int64.ofInt a) (Int64.ofInt b)) := by
  simp only [sx_ev] at h
  split at h
  · rename_i a ha
    split at h
    · rename_i b hb
      cases h
      exact ⟨a, b, ha, hb, rfl⟩
    · cases h
  · cases h
theorem sx_evr {tg : Nat → Nat} {ρ : List Int} {i t : Nat} {w : Value} (h : sx_ev tg ρ (.inr (.inr (.inr (.inr (i, t))))) = some w) : ∃ a : Nat, ρ[i]? = some (a : Int) ∧ tg a = t ∧ w = .ref a := by
  simp only [sx_ev] at h
  split at h
  · rename_i a hz
    split at h
    · rename_i ht
      cases h
      exact ⟨a, hz, ht, rfl⟩
    · cases h
  · cases h
theorem sx_evi' {tg : Nat → Nat} {ρ : List Int} {i : Nat} {c z : Int} (h : ρ[i]? = some z) : sx_ev tg ρ (.inr (.inl (i, c))) = some (.int (Int32.ofInt (z + c))) := by
  simp only [sx_ev, h]
theorem sx_evj' {tg : Nat → Nat} {ρ : List Int} {i : Nat} {z : Int} (h : ρ[i]? = some z) : sx_ev tg ρ (.inr (.inr (.inl i))) = some (.long (Int64.ofInt z)) := by
  simp only [sx_ev, h]
theorem sx_evr' {tg : Nat → Nat} {ρ : List Int} {i t a : Nat} (h : ρ[i]? = some (a : Int)) (ht : tg a = t) : sx_ev tg ρ (.inr (.inr (.inr (.inr (i, t))))) = some (.ref a) := by
  have h' : ρ[i]? = some (Int.ofNat a) := h
  simp only [sx_ev, h', ht, if_true]
/-! more variables change nothing -/
theorem sx_gm {ρ : List Int} {i : Nat} {z : Int} (h : ρ[i]? = some z) (e : List Int) : (ρ ++ e)[i]? = some z := by
  have hi : i < ρ.length := (List.getElem?_eq_some_iff.mp h).1
  rw [List.getElem?_append_left hi]
  exact h
theorem sx_lm {ρ : List Int} {q : Int ⊕ Nat} {z : Int} (h : sx_lo ρ q = some z) (e : List Int) : sx_lo (ρ ++ e) q = some z := by
  cases q with
  | inl c => exact h
  | inr j => exact sx_gm h e
theorem sx_em {tg : Nat → Nat} {ρ : List Int} {v : sx_V} {w : Value} (h : sx_ev tg ρ v = some w) (e : List Int) : sx_ev tg (ρ ++ e) v = some w := by
  rcases v with v | ⟨i, c⟩ | i | ⟨p, q⟩ | ⟨i, t⟩
  · exact h
  · obtain ⟨z, h1, rfl⟩ := sx_evi h
    exact sx_evi' (sx_gm h1 e)
  · obtain ⟨z, h1, rfl⟩ := sx_evj h
    exact sx_evj' (sx_gm h1 e)
  · obtain ⟨a, b, h1, h2, rfl⟩ := sx_evc h
    simp only [sx_ev, sx_lm h1 e, sx_lm h2 e]
  · obtain ⟨a, h1, h2, rfl⟩ := sx_evr h
    exact sx_evr' (sx_gm h1 e) h2
/-! bounds of variables: the newest row of a variable tells -/
def sx_b : sx_S → Nat → Option (Int × Int)
  | [], _ => none
  | q :: r, i => bif Nat.beq q.1 i then some q.2 else sx_b r i
def sx_in (ρ : List Int) (σ : sx_S) : Prop := ∀ i b, sx_b σ i = some b → ∀ z, ρ[i]? = some z → b.1 ≤ z ∧ z ≤ b.2
theorem sx_b_cons (σ : sx_S) (i j : Nat) (b : Int × Int) : sx_b ((i, b) :: σ) j = if i = j then some b else sx_b σ j := by
  rw [sx_b]
  cases e : Nat.beq i j with
  | true => rw [if_pos (Nat.eq_of_beq_eq_true e)]; rfl
  | false => rw [if_neg (fun q => by rw [q, Nat.beq_refl] at e; cases e)]; rfl
theorem sx_in_cons {ρ : List Int} {σ : sx_S} {i : Nat} {lo hi : Int} (h : sx_in ρ σ) (h1 : ∀ z, ρ[i]? = some z → lo ≤ z ∧ z ≤ hi) : sx_in ρ ((i, lo, hi) :: σ) := by
  intro j b hb z hz
  rw [sx_b_cons] at hb
  split at hb
  · rename_i e
    subst e
    cases hb
    exact h1 z hz
  · exact h j b hb z hz
theorem sx_in_new {ρ : List Int} {σ : sx_S} {lo hi z : Int} (h : sx_in ρ σ) (h1 : lo ≤ z) (h2 : z ≤ hi) : sx_in (ρ ++ [z]) ((ρ.length, lo, hi) :: σ) := by
  intro j b hb y hy
  rw [sx_b_cons] at hb
  split at hb
  · rename_i e
    subst e
    cases hb
    rw [List.getElem?_append_right (Nat.le_refl _), Nat.sub_self] at hy
    cases hy
    exact ⟨h1, h2⟩
  · rename_i e
    by_cases hj : j < ρ.length
    · rw [List.getElem?_append_left hj] at hy
      exact h j b hb y hy
    · have : (ρ ++ [z])[j]? = none := List.getElem?_eq_none (by simp; omega)
      rw [this] at hy
      cases hy
theorem sx_get_new (ρ : List Int) (z : Int) : (ρ ++ [z])[ρ.length]? = some z := by
  rw [List.getElem?_append_right (Nat.le_refl _), Nat.sub_self]; rfl
/-! lists of values -/
def sx_R (tg : Nat → Nat) (ρ : List Int) : List sx_V → List Value → Prop
  | [], [] => True
  | v :: l, w :: c => sx_ev tg ρ v = some w ∧ sx_R tg ρ l c
  | _, _ => False
section XR
variable {tg : Nat → Nat} {ρ : List Int}
theorem sx_R_mono (e : List Int) : ∀ {l : List sx_V} {c : List Value}, sx_R tg ρ l c → sx_R tg (ρ ++ e) l c
  | [], [], _ => trivial
  | _ :: _, _ :: _, h => ⟨sx_em h.1 e, sx_R_mono e h.2⟩
  | [], _ :: _, h => h.elim
  | _ :: _, [], h => h.elim
theorem sx_R_len : ∀ {l : List sx_V} {c : List Value}, sx_R tg ρ l c → l.length = c.length
  | [], [], _ => rfl
  | _ :: _, _ :: _, h => by rw [List.length_cons, List.length_cons, sx_R_len h.2]
  | [], _ :: _, h => h.elim
  | _ :: _, [], h => h.elim
theorem sx_R_get : ∀ {l : List sx_V} {c : List Value} {k : Nat} {v : sx_V}, sx_R tg ρ l c → l[k]? = some v → ∃ w, c[k]? = some w ∧ sx_ev tg ρ v = some w
  | [], _, _, _, _, e => by simp at e
  | _ :: _, [], _, _, h, _ => h.elim
  | a :: l, w :: c, 0, v, h, e => by
    simp only [List.getElem?_cons_zero, Option.some.injEq] at e ⊢
    subst e
    exact ⟨w, rfl, h.1⟩
  | a :: l, w :: c, k + 1, v, h, e => by
    simp only [List.getElem?_cons_succ] at e ⊢
    exact sx_R_get h.2 e
theorem sx_R_set {v : sx_V} {w : Value} (hv : sx_ev tg ρ v = some w) : ∀ {l : List sx_V} {c : List Value} (k : Nat), sx_R tg ρ l c → sx_R tg ρ (l.set k v) (c.set k w)
  | [], [], _, h => h
  | _ :: _, [], _, h => h.elim
  | [], _ :: _, _, h => h.elim
  | _ :: _, _ :: _, 0, h => ⟨hv, h.2⟩
  | _ :: _, _ :: _, k + 1, h => ⟨h.1, sx_R_set hv k h.2⟩
theorem sx_R_app : ∀ {l : List sx_V} {c : List Value} {l' : List sx_V} {c' : List Value}, sx_R tg ρ l c → sx_R tg ρ l' c' → sx_R tg ρ (l ++ l') (c ++ c')
  | [], [], _, _, _, h' => h'
  | _ :: _, [], _, _, h, _ => h.elim
  | [], _ :: _, _, _, h, _ => h.elim
  | _ :: _, _ :: _, _, _, h, h' => ⟨h.1, sx_R_app h.2 h'⟩
theorem sx_R_drop : ∀ {l : List sx_V} {c : List Value} (k : Nat), sx_R tg ρ l c → sx_R tg ρ (l.drop k) (c.drop k)
  | [], [], 0, h => h
  | [], [], _ + 1, h => h
  | _ :: _, [], _, h => h.elim
  | [], _ :: _, _, h => h.elim
  | _ :: _, _ :: _, 0, h => h
  | _ :: _, _ :: _, k + 1, h => sx_R_drop k h.2
theorem sx_R_take : ∀ {l : List sx_V} {c : List Value} (k : Nat), sx_R tg ρ l c → sx_R tg ρ (l.take k) (c.take k)
  | [], [], 0, h => h
  | [], [], _ + 1, h => h
  | _ :: _, [], _, h => h.elim
  | [], _ :: _, _, h => h.elim
  | _ :: _, _ :: _, 0, _ => trivial
  | _ :: _, _ :: _, k + 1, h => ⟨h.1, sx_R_take k h.2⟩
theorem sx_R_rev : ∀ {l : List sx_V} {c : List Value}, sx_R tg ρ l c → sx_R tg ρ l.reverse c.reverse
  | [], [], h => h
  | _ :: _, [], h => h.elim
  | [], _ :: _, h => h.elim
  | v :: l, w :: c, h => by
    rw [List.reverse_cons, List.reverse_cons]
    exact sx_R_app (sx_R_rev h.2) ⟨h.1, trivial⟩
theorem sx_R_inl : ∀ (s : List Value), sx_R tg ρ (s.map Sum.inl) s
  | [] => trivial
  | _ :: s => ⟨rfl, sx_R_inl s⟩
theorem sx_R_cons {v : sx_V} {l : List sx_V} {c : List Value} (h : sx_R tg ρ (v :: l) c) : ∃ w c', c = w :: c' ∧ sx_ev tg ρ v = some w ∧ sx_R tg ρ l c' := by
  cases c with
  | nil => exact h.elim
  | cons w c' => exact ⟨w, c', rfl, h.1, h.2⟩
theorem sx_R_nil {c : List Value} (h : sx_R tg ρ [] c) : c = [] := by
  cases c with
  | nil => rfl
  | cons w c' => exact h.elim
end XR
/-- what is known on top of the stack -/
def sx_cn : List sx_V → List Value × List sx_V
  | .inl w :: r => (w :: (sx_cn r).1, (sx_cn r).2)
  | r => ([], r)
theorem sx_cn_ok {tg : Nat → Nat} {ρ : List Int} : ∀ {st : List sx_V} {c : List Value}, sx_R tg ρ st c → ∃ r, c = (sx_cn st).1 ++ r ∧ sx_R tg ρ (sx_cn st).2 r
  | [], [], _ => ⟨[], rfl, trivial⟩
  | [], _ :: _, h => h.elim
  | _ :: _, [], h => h.elim
  | .inl w :: st, w' :: c, h => by
    obtain ⟨r, h1, h2⟩ := sx_cn_ok h.2
    have e : w = w' := sx_evl h.1
    subst e
    exact ⟨r, by show w :: c = w :: (sx_cn st).1 ++ r; rw [List.cons_append, ← h1], h2⟩
  | .inr q :: st, w' :: c, h => ⟨w' :: c, rfl, h⟩
def sx_isI : sx_V → Bool
  | .inl (.int _) => true
  | .inr (.inl _) => true
  | .inr (.inr (.inr (.inl _))) => true
  | _ => false
def sx_isL : sx_V → Bool
  | .inl (.long _) => true
  | .inr (.inr (.inl _)) => true
  | _ => false
def sx_isR : sx_V → Bool
  | .inl (.ref _) => true
  | .inl .null => true
  | .inr (.inr (.inr (.inr _))) => true
  | _ => false
section XI
variable {tg : Nat → Nat} {ρ : List Int} {v : sx_V} {w : Value}
theorem sx_isI_ev (h : sx_isI v = true) (e : sx_ev tg ρ v = some w) : ∃ x, w = .int x := by
  unfold sx_isI at h
  split at h
  · exact ⟨_, (sx_evl e).symm⟩
  · rename_i q
    obtain ⟨z, _, h2⟩ := sx_evi (i := q.1) (c := q.2) e
    exact ⟨_, h2⟩
  · rename_i q
    obtain ⟨a, b, _, _, h2⟩ := sx_evc (p := q.1) (q := q.2) e
    exact ⟨_, h2⟩
  · cases h
theorem sx_isL_ev (h : sx_isL v = true) (e : sx_ev tg ρ v = some w) : ∃ x, w = .long x := by
  unfold sx_isL at h
  split at h
  · exact ⟨_, (sx_evl e).symm⟩
  · rename_i i
    obtain ⟨z, _, h2⟩ := sx_evj e
    exact ⟨_, h2⟩
  · cases h
theorem sx_isR_ev (h : sx_isR v = true) (e : sx_ev tg ρ v = some w) : (∃ x, w = .ref x) ∨ w = .null := by
  unfold sx_isR at h
  split at h
  · exact Or.inl ⟨_, (sx_evl e).symm⟩
  · exact Or.inr (sx_evl e).symm
  · rename_i q
    obtain ⟨z, _, _, h2⟩ := sx_evr (i := q.1) (t := q.2) e
    exact Or.inl ⟨_, h2⟩
  · cases h
end XI
