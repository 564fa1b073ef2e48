/-! A RUN OVER AN UNKNOWN HEAP, third: comparisons narrow bounds -/
def sx_ci (c : ClassFile.Cond) (x y : Int) : Bool := match c with
  | .eq => decide (x = y)
  | .ne => decide (¬ x = y)
  | .lt => decide (x < y)
  | .ge => decide (y ≤ x)
  | .gt => decide (y < x)
  | .le => decide (x ≤ y)
def sx_ng (c : ClassFile.Cond) : ClassFile.Cond := match c with
  | .eq => .ne
  | .ne => .eq
  | .lt => .ge
  | .ge => .lt
  | .gt => .le
  | .le => .gt
theorem sx_ng_ok {c : ClassFile.Cond} {x y : Int} (h : sx_ci c x y = false) : sx_ci (sx_ng c) x y = true := by
  cases c <;> simp only [sx_ci, sx_ng, decide_eq_false_iff_not, decide_eq_true_iff] at h ⊢ <;> omega
theorem sx_ci_ok (c : ClassFile.Cond) (x y : Int32) : pm_cmp c x y = sx_ci c x.toInt y.toInt := by
  cases c <;> simp only [pm_cmp, sx_ci, decide_eq_decide, Int32.lt_iff_toInt_lt, Int32.le_iff_toInt_le, ← Int32.toInt_inj]
theorem sx_lg_ok (c : ClassFile.Cond) (x y : Int64) : pm_cmp c (lg_cmp x y) 0 = sx_ci c x.toInt y.toInt := by
  have t : x.toInt < y.toInt ∨ x.toInt = y.toInt ∨ y.toInt < x.toInt := by omega
  unfold lg_cmp
  rcases t with t | t | t
  · have h1 : ¬ x > y := fun q => by have := Int64.lt_iff_toInt_lt.mp q; omega
    have h2 : ¬ x = y := fun q => by rw [q] at t; omega
    rw [if_neg h1, if_neg h2]
    cases c <;> simp only [sx_ci] <;> first | (rw [decide_eq_true (by omega)]; rfl) | (rw [decide_eq_false (by omega)]; rfl)
  · have h1 : ¬ x > y := fun q => by have := Int64.lt_iff_toInt_lt.mp q; omega
    have h2 : x = y := Int64.toInt_inj.mp t
    rw [if_neg h1, if_pos h2]
    cases c <;> simp only [sx_ci] <;> first | (rw [decide_eq_true (by omega)]; rfl) | (rw [decide_eq_false (by omega)]; rfl)
  · have h1 : x > y := Int64.lt_iff_toInt_lt.mpr t
    rw [if_pos h1]
    cases c <;> simp only [sx_ci] <;> first | (rw [decide_eq_true (by omega)]; rfl) | (rw [decide_eq_false (by omega)]; rfl)
/-- bounds of two numbers of which a comparison holds -/
def sx_nt (c : ClassFile.Cond) (a b : Int × Int) : (Int × Int) × (Int × Int) := match c with
  | .lt => ((a.1, min a.2 (b.2 - 1)), (max b.1 (a.1 + 1), b.2))
  | .ge => ((max a.1 b.1, a.2), (b.1, min b.2 a.2))
  | .gt => ((max a.1 (b.1 + 1), a.2), (b.1, min b.2 (a.2 - 1)))
  | .le => ((a.1, min a.2 b.2), (max b.1 a.1, b.2))
  | .eq => ((max a.1 b.1, min a.2 b.2), (max a.1 b.1, min a.2 b.2))
  | .ne => (bif decide (b.1 = b.2) then (if a.1 = b.1 then a.1 + 1 else a.1, if a.2 = b.1 then a.2 - 1 else a.2) else a, bif decide (a.1 = a.2) then (if b.1 = a.1 then b.1 + 1 else b.1, if b.2 = a.1 then b.2 - 1 else b.2) else b)
theorem sx_nt_ok (c : ClassFile.Cond) {a b : Int × Int} {x y : Int} (h1 : a.1 ≤ x) (h2 : x ≤ a.2) (h3 : b.1 ≤ y) (h4 : y ≤ b.2) (h : sx_ci c x y = true) :
    ((sx_nt c a b).1.1 ≤ x ∧ x ≤ (sx_nt c a b).1.2) ∧ ((sx_nt c a b).2.1 ≤ y ∧ y ≤ (sx_nt c a b).2.2) := by
  cases c <;> simp only [sx_nt, sx_ci, decide_eq_true_iff] at h ⊢
  · omega
  · constructor
    · cases e : decide (b.1 = b.2) with
      | false => exact ⟨h1, h2⟩
      | true =>
        have e1 := of_decide_eq_true e
        simp only [cond_true]
        constructor
        · split <;> omega
        · split <;> omega
    · cases e : decide (a.1 = a.2) with
      | false => exact ⟨h3, h4⟩
      | true =>
        have e1 := of_decide_eq_true e
        simp only [cond_true]
        constructor
        · split <;> omega
        · split <;> omega
  · omega
  · omega
  · omega
  · omega
/-- the same int -/
def sx_eqv (x y : sx_V) : Bool := match x with
  | .inr (.inl (i, c)) => match y with
    | .inr (.inl (j, d)) => Nat.beq i j && decide (c = d)
    | _ => false
  | _ => false
theorem sx_eqv_ok {x y : sx_V} (h : sx_eqv x y = true) : x = y := by
  unfold sx_eqv at h
  split at h
  · split at h
    · rw [Bool.and_eq_true, decide_eq_true_iff] at h
      rw [Nat.eq_of_beq_eq_true h.1, h.2]
    · cases h
  · cases h
/-- what is known of ints behind a comparison that holds (ν: variables that are not 0) -/
def sx_zz (c : ClassFile.Cond) (y : sx_V) (x : sx_V) (ν : List Nat) : List Nat := match c with
  | .ne => match y with
    | .inl (.int v) => match x with
      | .inr (.inl (i, .ofNat 0)) => bif decide (v.toInt = 0) then i :: ν else ν
      | _ => ν
    | _ => ν
  | _ => ν
def sx_nz (ρ : List Int) (ν : List Nat) : Prop := ∀ i, i ∈ ν → ∃ z, ρ[i]? = some z ∧ ¬ Int32.ofInt z = 0
theorem sx_zz_ok {tg : Nat → Nat} {ρ : List Int} {c : ClassFile.Cond} {x y : sx_V} {a b : Int32} {ν : List Nat} (hν : sx_nz ρ ν) (ex : sx_ev tg ρ x = some (.int a)) (ey : sx_ev tg ρ y = some (.int b)) (h : sx_ci c a.toInt b.toInt = true) : sx_nz ρ (sx_zz c y x ν) := by
  unfold sx_zz
  split
  · split
    · rename_i v
      split
      · rename_i i
        cases d : decide (v.toInt = 0) with
        | false => exact hν
        | true =>
          have d1 := of_decide_eq_true d
          intro j hj
          rcases List.mem_cons.mp hj with rfl | hj
          · obtain ⟨z, g1, g2⟩ := sx_evi ex
            have g3 := sx_evl ey
            cases g3
            cases g2
            simp only [sx_ci, decide_eq_true_iff] at h
            refine ⟨z, g1, fun q => ?_⟩
            apply h
            rw [d1]
            have : z + Int.ofNat 0 = z := Int.add_zero z
            rw [this, q]
            rfl
          · exact hν j hj
      · exact hν
    · exact hν
  · exact hν
theorem sx_nz_mono {ρ : List Int} {ν : List Nat} (h : sx_nz ρ ν) (e : List Int) : sx_nz (ρ ++ e) ν := by
  intro i hi
  obtain ⟨z, h1, h2⟩ := h i hi
  exact ⟨z, sx_gm h1 e, h2⟩
/-- bounds, variables that are not 0, where, stack -/
abbrev sx_Q : Type := sx_S × List Nat × Nat × List sx_V
def sx_one (σ : sx_S) (ν : List Nat) (x y : sx_V) (ab : (Int × Int) × (Int × Int)) (c : ClassFile.Cond) (pc : Nat) (r : List sx_V) : List sx_Q := bif decide (ab.1.1 ≤ ab.1.2) && decide (ab.2.1 ≤ ab.2.2) then [(sx_pu (sx_pu σ x ab.1) y ab.2, sx_zz c y x ν, pc, r)] else []
/-- x compared with y: both ways, where they can be -/
def sx_cp (σ : sx_S) (ν : List Nat) (x y : sx_V) (c : ClassFile.Cond) (t nx : Nat) (r : List sx_V) : Option (List sx_Q) := bif sx_eqv x y then some [(σ, ν, bif sx_ci c 0 0 then t else nx, r)] else match sx_vi σ x with
  | some a => match sx_vi σ y with
    | some b => some (sx_one σ ν x y (sx_nt c a b) c t r ++ sx_one σ ν x y (sx_nt (sx_ng c) a b) (sx_ng c) nx r)
    | none => none
  | none => none
section XB
variable {tg : Nat → Nat} {ρ : List Int} {σ : sx_S} {ν : List Nat}
theorem sx_one_ok (hρ : sx_in ρ σ) (hν : sx_nz ρ ν) {x y : sx_V} {ab : (Int × Int) × (Int × Int)} {a b : Int32} {c : ClassFile.Cond} (ex : sx_ev tg ρ x = some (.int a)) (ey : sx_ev tg ρ y = some (.int b)) (hc : sx_ci c a.toInt b.toInt = true)
    (h1 : ab.1.1 ≤ a.toInt ∧ a.toInt ≤ ab.1.2) (h2 : ab.2.1 ≤ b.toInt ∧ b.toInt ≤ ab.2.2) (pc : Nat) (r : List sx_V) : ∃ q ∈ sx_one σ ν x y ab c pc r, sx_in ρ q.1 ∧ sx_nz ρ q.2.1 ∧ q.2.2.1 = pc ∧ q.2.2.2 = r := by
  unfold sx_one
  rw [decide_eq_true (show ab.1.1 ≤ ab.1.2 by omega), decide_eq_true (show ab.2.1 ≤ ab.2.2 by omega)]
  exact ⟨_, List.mem_singleton.mpr rfl, sx_pu_ok' (sx_pu_ok' hρ ex h1.1 h1.2) ey h2.1 h2.2, sx_zz_ok hν ex ey hc, rfl, rfl⟩
theorem sx_ci_refl (c : ClassFile.Cond) (x : Int) : sx_ci c x x = sx_ci c 0 0 := by
  cases c <;> simp [sx_ci]
theorem sx_cp_ok (hρ : sx_in ρ σ) (hν : sx_nz ρ ν) {x y : sx_V} {c : ClassFile.Cond} {t nx : Nat} {r : List sx_V} {l : List sx_Q} (h : sx_cp σ ν x y c t nx r = some l) {wx wy : Value} (ex : sx_ev tg ρ x = some wx) (ey : sx_ev tg ρ y = some wy) :
    ∃ a b, wx = .int a ∧ wy = .int b ∧ ∃ q ∈ l, sx_in ρ q.1 ∧ sx_nz ρ q.2.1 ∧ q.2.2.1 = (if pm_cmp c a b = true then t else nx) ∧ q.2.2.2 = r := by
  unfold sx_cp at h
  cases eq : sx_eqv x y with
  | true =>
    rw [eq] at h
    cases h
    have hxy := sx_eqv_ok eq
    unfold sx_eqv at eq
    split at eq
    · rename_i i d
      obtain ⟨z, _, rfl⟩ := sx_evi ex
      rw [← hxy] at ey
      rw [ex] at ey
      cases ey
      refine ⟨_, _, rfl, rfl, _, List.mem_singleton.mpr rfl, hρ, hν, ?_, rfl⟩
      rw [sx_ci_ok, sx_ci_refl c (Int32.ofInt (z + d)).toInt]
      cases sx_ci c 0 0 <;> rfl
    · cases eq
  | false =>
    rw [eq] at h
    simp only [cond_false] at h
    split at h
    · rename_i a ha
      split at h
      · rename_i b hb
        cases h
        obtain ⟨p, rfl, g1⟩ := sx_vi_ok hρ ha ex
        obtain ⟨q, rfl, g3⟩ := sx_vi_ok hρ hb ey
        refine ⟨p, q, rfl, rfl, ?_⟩
        rw [sx_ci_ok]
        cases e : sx_ci c p.toInt q.toInt with
        | true =>
          obtain ⟨k1, k2⟩ := sx_nt_ok c g1.1 g1.2 g3.1 g3.2 e
          obtain ⟨z, m1, m2, m3, m4, m5⟩ := sx_one_ok hρ hν ex ey e k1 k2 t r
          exact ⟨z, List.mem_append_left _ m1, m2, m3, by rw [m4]; rfl, m5⟩
        | false =>
          obtain ⟨k1, k2⟩ := sx_nt_ok (sx_ng c) g1.1 g1.2 g3.1 g3.2 (sx_ng_ok e)
          obtain ⟨z, m1, m2, m3, m4, m5⟩ := sx_one_ok hρ hν ex ey (sx_ng_ok e) k1 k2 nx r
          exact ⟨z, List.mem_append_right _ m1, m2, m3, by rw [m4]; rfl, m5⟩
      · cases h
    · cases h
end XB
/-! longs -/
def sx_li (σ : sx_S) (q : Int ⊕ Nat) : Option (Int × Int) := match q with
  | .inl z => bif sx_w (z, z) sx_ln sx_lx then some (z, z) else none
  | .inr j => match sx_b σ j with
    | some b => bif sx_w b sx_ln sx_lx then some b else none
    | none => none
def sx_lp (σ : sx_S) (q : Int ⊕ Nat) (b : Int × Int) : sx_S := match q with
  | .inl _ => σ
  | .inr j => (j, b) :: σ
def sx_on1 (σ : sx_S) (ν : List Nat) (x y : Int ⊕ Nat) (ab : (Int × Int) × (Int × Int)) (pc : Nat) (r : List sx_V) : List sx_Q := bif decide (ab.1.1 ≤ ab.1.2) && decide (ab.2.1 ≤ ab.2.2) then [(sx_lp (sx_lp σ x ab.1) y ab.2, ν, pc, r)] else []
def sx_cl (σ : sx_S) (ν : List Nat) (x y : Int ⊕ Nat) (c : ClassFile.Cond) (t nx : Nat) (r : List sx_V) : Option (List sx_Q) := match sx_li σ x with
  | some a => match sx_li σ y with
    | some b => some (sx_on1 σ ν x y (sx_nt c a b) t r ++ sx_on1 σ ν x y (sx_nt (sx_ng c) a b) nx r)
    | none => none
  | none => none
section XJ
variable {ρ : List Int} {σ : sx_S} {ν : List Nat}
theorem sx_li_ok (hρ : sx_in ρ σ) {q : Int ⊕ Nat} {b : Int × Int} (h : sx_li σ q = some b) {z : Int} (e : sx_lo ρ q = some z) : (b.1 ≤ z ∧ z ≤ b.2) ∧ (Int64.ofInt z).toInt = z := by
  unfold sx_li at h
  split at h
  · rename_i y
    obtain ⟨h1, h2⟩ := sx_bif h
    cases h2
    cases e
    have h3 := sx_w_ok h1
    exact ⟨⟨Int.le_refl _, Int.le_refl _⟩, sx_ofIntL h3.1 h3.2⟩
  · split at h
    · rename_i b' hb
      obtain ⟨h1, h2⟩ := sx_bif h
      subst h2
      have h3 := sx_w_ok h1
      have h4 := hρ _ _ hb z e
      exact ⟨h4, sx_ofIntL (by omega) (by omega)⟩
    · cases h
theorem sx_lp_ok (hρ : sx_in ρ σ) {q : Int ⊕ Nat} {b : Int × Int} {z : Int} (e : sx_lo ρ q = some z) (h1 : b.1 ≤ z) (h2 : z ≤ b.2) : sx_in ρ (sx_lp σ q b) := by
  cases q with
  | inl c => exact hρ
  | inr j =>
    refine sx_in_cons (lo := b.1) (hi := b.2) hρ (fun y hy => ?_)
    rw [show ρ[j]? = some z from e] at hy
    cases hy
    exact ⟨h1, h2⟩
theorem sx_on1_ok (hρ : sx_in ρ σ) (hν : sx_nz ρ ν) {x y : Int ⊕ Nat} {ab : (Int × Int) × (Int × Int)} {a b : Int} (ex : sx_lo ρ x = some a) (ey : sx_lo ρ y = some b)
    (h1 : ab.1.1 ≤ a ∧ a ≤ ab.1.2) (h2 : ab.2.1 ≤ b ∧ b ≤ ab.2.2) (pc : Nat) (r : List sx_V) : ∃ q ∈ sx_on1 σ ν x y ab pc r, sx_in ρ q.1 ∧ sx_nz ρ q.2.1 ∧ q.2.2.1 = pc ∧ q.2.2.2 = r := by
  unfold sx_on1
  rw [decide_eq_true (show ab.1.1 ≤ ab.1.2 by omega), decide_eq_true (show ab.2.1 ≤ ab.2.2 by omega)]
  exact ⟨_, List.mem_singleton.mpr rfl, sx_lp_ok (sx_lp_ok hρ ex h1.1 h1.2) ey h2.1 h2.2, hν, rfl, rfl⟩
theorem sx_cl_ok (hρ : sx_in ρ σ) (hν : sx_nz ρ ν) {x y : Int ⊕ Nat} {c : ClassFile.Cond} {t nx : Nat} {r : List sx_V} {l : List sx_Q} (h : sx_cl σ ν x y c t nx r = some l) {a b : Int} (ex : sx_lo ρ x = some a) (ey : sx_lo ρ y = some b) :
    ∃ q ∈ l, sx_in ρ q.1 ∧ sx_nz ρ q.2.1 ∧ q.2.2.1 = (if pm_cmp c (lg_cmp (Int64.ofInt a) (Int64.ofInt b)) 0 = true then t else nx) ∧ q.2.2.2 = r := by
  unfold sx_cl at h
  split at h
  · rename_i a' ha
    split at h
    · rename_i b' hb
      cases h
      obtain ⟨g1, g2⟩ := sx_li_ok hρ ha ex
      obtain ⟨g3, g4⟩ := sx_li_ok hρ hb ey
      rw [sx_lg_ok, g2, g4]
      cases e : sx_ci c a b with
      | true =>
        obtain ⟨k1, k2⟩ := sx_nt_ok c g1.1 g1.2 g3.1 g3.2 e
        obtain ⟨z, m1, m2, m3, m4, m5⟩ := sx_on1_ok hρ hν ex ey k1 k2 t r
        exact ⟨z, List.mem_append_left _ m1, m2, m3, by rw [m4]; rfl, m5⟩
      | false =>
        obtain ⟨k1, k2⟩ := sx_nt_ok (sx_ng c) g1.1 g1.2 g3.1 g3.2 (sx_ng_ok e)
        obtain ⟨z, m1, m2, m3, m4, m5⟩ := sx_on1_ok hρ hν ex ey k1 k2 nx r
        exact ⟨z, List.mem_append_right _ m1, m2, m3, by rw [m4]; rfl, m5⟩
    · cases h
  · cases h
end XJ
