/-! A RUN OVER AN UNKNOWN HEAP, thirteenth: measures, the run -/
abbrev sx_M : Type := Int × List (Int × (Nat ⊕ (Nat × Nat)))
def sx_sc (lv : List Value) (h : pm_H) (s : Nat ⊕ (Nat × Nat)) : Int := match s with
  | .inl j => match lv[j]? with
    | some (.int x) => x.toInt
    | _ => 0
  | .inr (j, k) => match lv[j]? with
    | some (.ref a) => (h.1 a k).toInt
    | _ => 0
def sx_mc (lv : List Value) (h : pm_H) : List (Int × (Nat ⊕ (Nat × Nat))) → Int
  | [] => 0
  | q :: r => q.1 * sx_sc lv h q.2 + sx_mc lv h r
/-- sums of variables -/
def sx_fm (ρ : List Int) : List (Int × Nat) → Int → Prop
  | [], z => z = 0
  | q :: r, z => ∃ y s, ρ[q.2]? = some y ∧ sx_fm ρ r s ∧ z = q.1 * y + s
theorem sx_fm_mono {ρ : List Int} (e : List Int) : ∀ {l : List (Int × Nat)} {z : Int}, sx_fm ρ l z → sx_fm (ρ ++ e) l z
  | [], _, h => h
  | _ :: _, _, ⟨y, s, h1, h2, h3⟩ => ⟨y, s, sx_gm h1 e, sx_fm_mono e h2, h3⟩
def sx_add (c : Int) (i : Nat) : List (Int × Nat) → List (Int × Nat)
  | [] => [(c, i)]
  | q :: r => bif Nat.beq q.2 i then (q.1 + c, i) :: r else q :: sx_add c i r
theorem sx_add_ok {ρ : List Int} {c : Int} {i : Nat} {y : Int} (hy : ρ[i]? = some y) : ∀ {l : List (Int × Nat)} {z : Int}, sx_fm ρ l z → sx_fm ρ (sx_add c i l) (c * y + z)
  | [], z, h => ⟨y, 0, hy, rfl, by have : z = 0 := h; show c * y + z = c * y + 0; omega⟩
  | q :: r, z, ⟨y', s, h1, h2, h3⟩ => by
    rw [sx_add]
    cases e : Nat.beq q.2 i with
    | true =>
      have e1 := Nat.eq_of_beq_eq_true e
      rw [e1, hy] at h1
      cases h1
      refine ⟨y, s, hy, h2, ?_⟩
      show c * y + z = (q.1 + c) * y + s
      rw [h3, Int.add_mul]
      omega
    | false => exact ⟨y', c * y + s, h1, sx_add_ok hy h2, by omega⟩
def sx_sub : List (Int × Nat) → List (Int × Nat) → List (Int × Nat)
  | [], l => l
  | q :: r, l => sx_add (-q.1) q.2 (sx_sub r l)
theorem sx_sub_ok {ρ : List Int} : ∀ {l m : List (Int × Nat)} {y z : Int}, sx_fm ρ l y → sx_fm ρ m z → sx_fm ρ (sx_sub l m) (z - y)
  | [], m, y, z, h1, h2 => by
    have : y = 0 := h1
    rw [this, Int.sub_zero]
    exact h2
  | q :: r, m, y, z, ⟨a, s, g1, g2, g3⟩, h2 => by
    have := sx_add_ok (c := -q.1) g1 (sx_sub_ok g2 h2)
    rw [sx_sub]
    have e : z - y = -q.1 * a + (z - s) := by rw [g3, Int.neg_mul]; omega
    rw [e]
    exact this
def sx_ub (σ : sx_S) : List (Int × Nat) → Option Int
  | [] => some 0
  | q :: r => match sx_b σ q.2 with
    | some b => match sx_ub σ r with
      | some u => some ((bif decide (0 ≤ q.1) then q.1 * b.2 else q.1 * b.1) + u)
      | none => none
    | none => none
theorem sx_ub_ok {ρ : List Int} {σ : sx_S} (hρ : sx_in ρ σ) : ∀ {l : List (Int × Nat)} {z u : Int}, sx_fm ρ l z → sx_ub σ l = some u → z ≤ u
  | [], z, u, h, e => by
    have : z = 0 := h
    cases e
    omega
  | q :: r, z, u, ⟨y, s, g1, g2, g3⟩, e => by
    rw [sx_ub] at e
    split at e
    · rename_i b hb
      split at e
      · rename_i v hv
        cases e
        have k := sx_ub_ok hρ g2 hv
        have k2 := hρ q.2 b hb y g1
        cases d : decide (0 ≤ q.1) with
        | true =>
          have d1 := of_decide_eq_true d
          have := Int.mul_le_mul_of_nonneg_left k2.2 d1
          simp only [cond_true]
          omega
        | false =>
          have d1 := of_decide_eq_false d
          have := Int.mul_le_mul_of_nonpos_left (a := q.1) (by omega) k2.1
          simp only [cond_false]
          omega
      · cases e
    · cases e
/-- an int as a sum -/
def sx_lin (σ : sx_S) (v : sx_V) : Option (Int × List (Int × Nat)) := match v with
  | .inl (.int x) => some (x.toInt, [])
  | .inr (.inl (i, c)) => match sx_b σ i with
    | some (lo, hi) => bif sx_w (lo + c, hi + c) sx_mn sx_mx then some (c, [(1, i)]) else none
    | none => none
  | _ => none
theorem sx_lin_ok {tg : Nat → Nat} {ρ : List Int} {σ : sx_S} (hρ : sx_in ρ σ) {v : sx_V} {q : Int × List (Int × Nat)} (e : sx_lin σ v = some q) {w : Value} (ev : sx_ev tg ρ v = some w) : ∃ x : Int32, w = .int x ∧ sx_fm ρ q.2 (x.toInt - q.1) := by
  unfold sx_lin at e
  split at e
  · rename_i x
    cases e
    exact ⟨x, (sx_evl ev).symm, Int.sub_self _⟩
  · rename_i i c
    split at e
    · rename_i lo hi hb
      obtain ⟨h1, h2⟩ := sx_bif e
      subst h2
      obtain ⟨z, g1, rfl⟩ := sx_evi ev
      have h3 := sx_w_ok h1
      have h6 : sx_mn ≤ lo + c := h3.1
      have h7 : hi + c ≤ sx_mx := h3.2
      have h4 := hρ i _ hb z g1
      have h8 : lo ≤ z := h4.1
      have h9 : z ≤ hi := h4.2
      refine ⟨_, rfl, z, 0, g1, rfl, ?_⟩
      rw [sx_ofInt (by omega) (by omega)]
      show z + c - c = 1 * z + 0
      omega
    · cases e
  · cases e
def sx_sa (T : sx_T) (E : sx_E) (lv : List sx_V) (s : Nat ⊕ (Nat × Nat)) : Option (Int × List (Int × Nat)) := match s with
  | .inl j => match lv[j]? with
    | some v => sx_lin E.1 v
    | none => none
  | .inr (j, k) => match lv[j]? with
    | some (.inr (.inr (.inr (.inr (i, t))))) => match sx_fdI T i t k E.2.2.2.2.1 with
      | some v => sx_lin E.1 v
      | none => none
    | _ => none
def sx_ma (T : sx_T) (E : sx_E) (lv : List sx_V) : List (Int × (Nat ⊕ (Nat × Nat))) → Option (Int × List (Int × Nat))
  | [] => some (0, [])
  | q :: r => match sx_sa T E lv q.2 with
    | some p => match sx_ma T E lv r with
      | some s => some (q.1 * p.1 + s.1, (match p.2 with
        | [] => s.2
        | (c, i) :: _ => sx_add (q.1 * c) i s.2))
      | none => none
    | none => none
section XO
variable {P : pm_P} {T : sx_T} {tg : Nat → Nat} {PH : pm_H → Prop} {VP : pm_H → Nat → Int → Prop} {ρ : List Int} {h : pm_H} {E : sx_E}
theorem sx_lin1 {σ : sx_S} {v : sx_V} {q : Int × List (Int × Nat)} (e : sx_lin σ v = some q) : q.2 = [] ∨ ∃ i, q.2 = [(1, i)] := by
  unfold sx_lin at e
  split at e
  · cases e; exact Or.inl rfl
  · split at e
    · obtain ⟨_, h2⟩ := sx_bif e
      subst h2
      exact Or.inr ⟨_, rfl⟩
    · cases e
  · cases e
theorem sx_sa_ok (hC : sx_C P T tg PH VP) (ok : sx_ok tg VP ρ h E) {lv : List sx_V} {lc : List Value} (r : sx_RL tg ρ lv lc) {s : Nat ⊕ (Nat × Nat)} {q : Int × List (Int × Nat)} (e : sx_sa T E lv s = some q) : sx_fm ρ q.2 (sx_sc lc h s - q.1) ∧ (q.2 = [] ∨ ∃ i, q.2 = [(1, i)]) := by
  unfold sx_sa at e
  split at e
  · split at e
    · rename_i j v hv
      obtain ⟨w, g1, g2⟩ := sx_RL_get r hv
      have g2 := g2.resolve_left (fun k => by subst k; cases e)
      obtain ⟨x, rfl, g3⟩ := sx_lin_ok ok.2.1 e g2
      simp only [sx_sc, g1]
      exact ⟨g3, sx_lin1 e⟩
    · cases e
  · split at e
    · rename_i j k i t hv
      split at e
      · rename_i v hf
        obtain ⟨w, g1, g2⟩ := sx_RL_get r hv
        have g2 := g2.resolve_left (fun k => by cases k)
        obtain ⟨a, g3, g4, rfl⟩ := sx_evr g2
        have k1 := sx_fdI_ok hC ok.2.2.2.2.1 hf g3 g4
        obtain ⟨x, k2, k3⟩ := sx_lin_ok ok.2.1 e k1
        cases k2
        simp only [sx_sc, g1]
        exact ⟨k3, sx_lin1 e⟩
      · cases e
    · cases e
theorem sx_ma_ok (hC : sx_C P T tg PH VP) (ok : sx_ok tg VP ρ h E) {lv : List sx_V} {lc : List Value} (r : sx_RL tg ρ lv lc) : ∀ {l : List (Int × (Nat ⊕ (Nat × Nat)))} {q : Int × List (Int × Nat)}, sx_ma T E lv l = some q → sx_fm ρ q.2 (sx_mc lc h l - q.1)
  | [], q, e => by
    cases e
    rfl
  | p :: l, q, e => by
    rw [sx_ma] at e
    split at e
    · rename_i a ha
      split at e
      · rename_i b hb
        cases e
        have ih := sx_ma_ok hC ok r hb
        obtain ⟨k1, k2⟩ := sx_sa_ok hC ok r ha
        rw [sx_mc]
        rcases k2 with k2 | ⟨i, k2⟩
        · rw [k2] at k1 ⊢
          have k3 : sx_sc lc h p.2 - a.1 = 0 := k1
          have k4 : sx_sc lc h p.2 = a.1 := by omega
          rw [k4]
          show sx_fm ρ b.2 _
          have e1 : p.1 * a.1 + sx_mc lc h l - (p.1 * a.1 + b.1) = sx_mc lc h l - b.1 := by omega
          rw [e1]
          exact ih
        · rw [k2] at k1 ⊢
          obtain ⟨y, s, g1, g2, g3⟩ := k1
          have g4 : s = 0 := g2
          have g5 : sx_sc lc h p.2 = a.1 + y := by
            have : (1 : Int) * y = y := Int.one_mul y
            have g3' : sx_sc lc h p.2 - a.1 = 1 * y + s := g3
            omega
          have := sx_add_ok (c := p.1 * 1) g1 ih
          show sx_fm ρ (sx_add (p.1 * 1) i b.2) _
          have e1 : p.1 * sx_sc lc h p.2 + sx_mc lc h l - (p.1 * a.1 + b.1) = p.1 * 1 * y + (sx_mc lc h l - b.1) := by
            rw [g5, Int.mul_add, Int.mul_one]
            omega
          rw [e1]
          exact this
      · cases e
    · cases e
end XO
/-- the same value -/
def sx_eqs (v w : sx_V) : Bool := match v with
  | .inl x => match w with
    | .inl y => sx_eqw x y
    | _ => false
  | .inr (.inl (i, c)) => match w with
    | .inr (.inl (j, d)) => Nat.beq i j && decide (c = d)
    | _ => false
  | .inr (.inr (.inr (.inr (i, t)))) => match w with
    | .inr (.inr (.inr (.inr (j, u)))) => Nat.beq i j && Nat.beq t u
    | _ => false
  | _ => false
theorem sx_eqs_ok {v w : sx_V} (h : sx_eqs v w = true) : v = w ∧ ¬ v = .inl (.retAddr 1) := by
  unfold sx_eqs at h
  split at h
  · split at h
    · have := sx_eqw_ok h
      subst this
      refine ⟨rfl, fun q => ?_⟩
      cases q
      exact absurd h (by unfold sx_eqw; simp)
    · cases h
  · split at h
    · rw [Bool.and_eq_true, decide_eq_true_iff] at h
      rw [Nat.eq_of_beq_eq_true h.1, h.2]
      exact ⟨rfl, fun q => by cases q⟩
    · cases h
  · split at h
    · rw [Bool.and_eq_true] at h
      rw [Nat.eq_of_beq_eq_true h.1, Nat.eq_of_beq_eq_true h.2]
      exact ⟨rfl, fun q => by cases q⟩
    · cases h
  · cases h
abbrev sx_U : Type := List sx_A × List sx_F × sx_M
def sx_hd (v w : Option sx_V) : Bool := match v with
  | some x => match w with
    | some y => sx_eqs x y
    | none => false
  | none => false
/-- a loop's head is come to: all that it wants is there, and its measure is smaller -/
def sx_arr (T : sx_T) (lv0 : List sx_V) (old : Option (Int × List (Int × Nat))) (E : sx_E) (lv st : List sx_V) (q : sx_U) : Bool := match st with
  | [] => sx_fts E q.1 lv && sx_ffs T E lv q.2.1 && sx_hd lv[0]? lv0[0]? && (match sx_ma T E lv q.2.2.2 with
    | some p => (match sx_ub E.1 (sx_sub p.2 []) with
      | some u => decide (0 ≤ q.2.2.1 + p.1 - u)
      | none => false) && (match old with
      | some o => (match sx_ub E.1 (sx_sub o.2 p.2) with
        | some u => decide (q.2.2.1 + p.1 - o.1 + u ≤ -1)
        | none => false)
      | none => true)
    | none => false)
  | _ => false
/-- who waits -/
abbrev sx_Fr : Type := Nat × Nat × List sx_V × List sx_V
def sx_run (P : pm_P) (T : sx_T) (tb : Nat → List sx_K) (W : sx_W) (D : Bool × Bool) (cut : Nat → Nat → Option sx_U) (arr : sx_E → List sx_V → List sx_V → sx_U → Bool) (fin : sx_E → List sx_V → Bool) : Nat → Bool → sx_E → Nat → Nat → List sx_V → List sx_V → List sx_Fr → Bool
  | 0, _, _, _, _, _, _, _ => false
  | f + 1, go, E, m, pc, lv, st, fs => match (match fs with
      | [] => bif go then none else cut m pc
      | _ :: _ => none) with
    | some q => arr E lv st q
    | none => match pm_cod P m pc with
      | none => false
      | some (.inl v, nx) => sx_run P T tb W D cut arr fin f false E m nx lv (.inl v :: st) fs
      | some (.inr i, nx) => match sx_re E.1 (pm_ret P m) i st with
        | some v => match fs with
          | [] => fin E v
          | (m', nx', lv', r) :: fs' => sx_run P T tb W D cut arr fin f false E m' nx' lv' (v ++ r) fs'
        | none => match sx_ca P T i st with
          | some (k, as, r) => bif Nat.beq (pm_mc P k) 0 && Nat.beq (pm_ms P k) 0 then (match tb k with
            | [] => sx_run P T tb W D cut arr fin f false E k 0 (sx_en as (pm_mxl P k)) [] ((m, nx, lv, r) :: fs)
            | ks => match sx_pick T E as ks with
              | some c => Nat.beq c.1 k && sx_may W D c && c.2.2.2.2.2.all fun o => sx_isAs o.1 && (match sx_out T E as c.2.2.2.1 c.2.2.2.2.1 o with
                | (v, E') => sx_run P T tb W D cut arr fin f false E' m nx lv (v ++ r) fs)
              | none => false) else false
          | none => match sx_lc E.1 i lv st with
            | some (lv', st') => sx_run P T tb W D cut arr fin f false E m nx lv' st' fs
            | none => match sx_ar E.1 E.2.1 E.2.2.2.1 i st with
              | some (st', σ', n') => sx_run P T tb W D cut arr fin f false (σ', n', E.2.2) m nx lv st' fs
              | none => match sx_br E.1 E.2.2.2.1 i nx st with
                | some [(σ', ν', pc', st')] => sx_run P T tb W D cut arr fin f false (σ', E.2.1, E.2.2.1, ν', E.2.2.2.2) m pc' lv st' fs
                | some l => l.all fun q => sx_run P T tb W D cut arr fin f false (q.1, E.2.1, E.2.2.1, q.2.1, E.2.2.2.2) m q.2.2.1 lv q.2.2.2 fs
                | none => match sx_sp T E.1 i st with
                  | some (σ1, σ2, x, r) => sx_run P T tb W D cut arr fin f false (σ1, E.2) m pc lv st fs && sx_run P T tb W D cut arr fin f false (σ2, E.2) m nx lv (.inl (.int (Int32.ofInt x)) :: r) fs
                  | none => match sx_he P T W i st E with
                    | some (st', E') => sx_run P T tb W D cut arr fin f false E' m nx lv st' fs
                    | none => match sx_rw P T D i st E with
                      | some (st', E') => sx_run P T tb W D cut arr fin f false E' m nx lv st' fs
                      | none => false
/-- who waits, as it is -/
def pm_K (P : pm_P) (Q : List Value → pm_H → Prop) : List (Nat × Nat × List Value × List Value) → List Value → pm_H → Prop
  | [], v, h => Q v h
  | (m, nx, lv, r) :: fs, v, h => pm_W P m nx lv (v ++ r) h (0, 0) (pm_K P Q fs)
def sx_RF (tg : Nat → Nat) (ρ : List Int) : List sx_Fr → List (Nat × Nat × List Value × List Value) → Prop
  | [], [] => True
  | (m, nx, lv, r) :: fs, (m', nx', lc, rc) :: gs => m = m' ∧ nx = nx' ∧ sx_RL tg ρ lv lc ∧ sx_R tg ρ r rc ∧ sx_RF tg ρ fs gs
  | _, _ => False
theorem sx_RF_mono {tg : Nat → Nat} {ρ : List Int} (e : List Int) : ∀ {fs : List sx_Fr} {gs : List (Nat × Nat × List Value × List Value)}, sx_RF tg ρ fs gs → sx_RF tg (ρ ++ e) fs gs
  | [], [], _ => trivial
  | (_, _, _, _) :: _, (_, _, _, _) :: _, h => ⟨h.1, h.2.1, sx_RL_mono e h.2.2.1, sx_R_mono e h.2.2.2.1, sx_RF_mono e h.2.2.2.2⟩
  | [], _ :: _, h => h.elim
  | _ :: _, [], h => h.elim
