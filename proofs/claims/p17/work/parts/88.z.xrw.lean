/-! A RUN OVER AN UNKNOWN HEAP, tenth and a half: references are written; the last place of a row is told apart -/
def sx_kr (t k : Nat) : List ((Nat × Nat × Nat) × (Nat × Nat)) → List ((Nat × Nat × Nat) × (Nat × Nat))
  | [] => []
  | q :: r => bif Nat.beq q.1.2.1 t && Nat.beq q.1.2.2 k then sx_kr t k r else q :: sx_kr t k r
theorem sx_kr_mem {t k : Nat} {q : (Nat × Nat × Nat) × (Nat × Nat)} : ∀ {K : List ((Nat × Nat × Nat) × (Nat × Nat))}, q ∈ sx_kr t k K → q ∈ K ∧ ¬ (q.1.2.1 = t ∧ q.1.2.2 = k)
  | [], h => by cases h
  | p :: r, h => by
    rw [sx_kr] at h
    cases e : Nat.beq p.1.2.1 t && Nat.beq p.1.2.2 k with
    | true =>
      rw [e] at h
      have := sx_kr_mem h
      exact ⟨List.mem_cons_of_mem _ this.1, this.2⟩
    | false =>
      rw [e] at h
      rcases List.mem_cons.mp h with g | g
      · subst g
        refine ⟨List.mem_cons_self, fun w => ?_⟩
        rw [w.1, w.2, Nat.beq_refl, Nat.beq_refl] at e
        cases e
      · have := sx_kr_mem g
        exact ⟨List.mem_cons_of_mem _ this.1, this.2⟩
def sx_rw (P : pm_P) (T : sx_T) (D : Bool × Bool) (i : Instr) (st : List sx_V) (E : sx_E) : Option (List sx_V × sx_E) := match i with
  | .putfield n => match st with
    | .inr (.inr (.inr (.inr (jv, u)))) :: .inr (.inr (.inr (.inr (j, t)))) :: r =>
      bif D.2 && sx_isO (sx_sh T t) (n / 64) && Nat.beq (pm_fty P (n / 64) (n % 64)) 2 && sx_pr T t (-1 - ((n % 64 : Nat) : Int)) (-1 - ((n % 64 : Nat) : Int)) && (match sx_gr T t (n % 64) with
        | some v => Nat.beq v u
        | none => false) && (match sx_b E.1 jv with
        | some b => decide (b.2 ≤ 1000000)
        | none => false) then some (r, (E.1, E.2.1, E.2.2.1, E.2.2.2.1, E.2.2.2.2.1, ((j, t, n % 64), (jv, u)) :: sx_kr t (n % 64) E.2.2.2.2.2)) else none
    | _ => none
  | _ => none
section XW
variable {P : pm_P} {T : sx_T} {tg : Nat → Nat} {PH : pm_H → Prop} {VP : pm_H → Nat → Int → Prop} {ρ : List Int} {h : pm_H} {E E' : sx_E}
theorem sx_rw_ok (hC : sx_C P T tg PH VP) {W : sx_W} {D : Bool × Bool} {i : Instr} {st st' : List sx_V} (e : sx_rw P T D i st E = some (st', E')) (ok : sx_ok tg VP ρ h E) (iv : sx_IV T tg PH h) {sc : List Value} (hs : sx_R tg ρ st sc) (lv : List Value) (nx rt : Nat) :
    ∃ sc' h', sx_ok tg VP ρ h' E' ∧ sx_IV T tg PH h' ∧ pm_he P i sc h = some (sc', h') ∧ sx_R tg ρ st' sc' ∧ sx_fr tg VP W D h h' ∧ pm_lo i lv sc = none ∧ pm_ar i sc = none ∧ pm_br i nx sc = none ∧ pm_re rt i sc = none ∧ pm_ca P i sc h = none := by
  unfold sx_rw at e
  split at e
  · rename_i n
    split at e
    · rename_i jv u j t r
      obtain ⟨wv, sc1, rfl, g1, g2⟩ := sx_R_cons hs
      obtain ⟨w, sc2, rfl, g5, g6⟩ := sx_R_cons g2
      obtain ⟨a, g3, g4, rfl⟩ := sx_evr g5
      obtain ⟨b, b3, b4, rfl⟩ := sx_evr g1
      obtain ⟨hb, he⟩ := sx_bif e
      rw [Bool.and_eq_true, Bool.and_eq_true, Bool.and_eq_true, Bool.and_eq_true, Bool.and_eq_true] at hb
      obtain ⟨⟨⟨⟨⟨d1, d2⟩, d3⟩, d4⟩, d5⟩, d6⟩ := hb
      cases he
      have sa := hC.1 h a _ iv.2.2.2 (by rw [g4]; exact sx_isO_ok d2)
      have ft := Nat.eq_of_beq_eq_true d3
      have gr : sx_gr T t (n % 64) = some u := by
        cases q : sx_gr T t (n % 64) with
        | none => rw [q] at d5; cases d5
        | some v => rw [q] at d5; rw [Nat.eq_of_beq_eq_true d5]
      have lb : b ≤ 1000000 := by
        cases q : sx_b E.1 jv with
        | none => rw [q] at d6; cases d6
        | some bb =>
          rw [q] at d6
          have := of_decide_eq_true d6
          have := ok.2.1 jv bb q _ b3
          omega
      have key := hC.2.2.2.2.2 h a (n % 64) b iv.2.2.2 (by rw [g4]; exact d4) (by rw [g4, b4]; exact gr) lb
      refine ⟨sc2, pm_sR h a (n % 64) (some b), ⟨ok.1, ok.2.1, ?_, ok.2.2.2.1, ok.2.2.2.2.1, ?_⟩, ⟨iv.1, iv.2.1, ?_, key.1⟩, by simp only [pm_he, sa, if_true, ft, pm_p, Option.map_some], g6, ⟨fun _ _ _ => rfl, fun _ => key.2, fun q => ?_⟩, rfl, rfl, rfl, rfl, rfl⟩
      · intro q hq
        obtain ⟨z, z1, z2⟩ := ok.2.2.1 q hq
        exact ⟨z, z1, key.2 _ _ z2⟩
      · intro q hq
        rcases List.mem_cons.mp hq with g | g
        · subst g
          refine ⟨a, b, g3, g4, b3, b4, ?_⟩
          show pm_u h.2.2.1 a (n % 64) (some b) a (n % 64) = some b
          simp only [pm_u, if_true]
        · obtain ⟨m1, m2⟩ := sx_kr_mem g
          obtain ⟨a', b', x1, x2, x3, x4, x5⟩ := ok.2.2.2.2.2 q m1
          refine ⟨a', b', x1, x2, x3, x4, ?_⟩
          show pm_u h.2.2.1 a (n % 64) (some b) a' q.1.2.2 = some b'
          have : ¬ (a' = a ∧ q.1.2.2 = n % 64) := fun w => m2 ⟨by rw [← x2, w.1, g4], w.2⟩
          unfold pm_u
          split
          · split
            · rename_i y1 y2
              exact absurd ⟨y1, y2⟩ this
            · exact x5
          · exact x5
      · intro a' k' t' ht
        show ∃ b', pm_u h.2.2.1 a (n % 64) (some b) a' k' = some b' ∧ tg b' = t' ∧ b' ≤ 1000000
        unfold pm_u
        split
        · split
          · rename_i y1 y2
            refine ⟨b, rfl, ?_, lb⟩
            rw [y1, y2, g4, gr] at ht
            cases ht
            exact b4
          · exact iv.2.2.1 a' k' t' ht
        · exact iv.2.2.1 a' k' t' ht
      · rw [d1] at q
        cases q
    · cases e
  · cases e
end XW
/-- a read of a row whose last place is known: that place, or before it -/
def sx_sp (T : sx_T) (σ : sx_S) (i : Instr) (st : List sx_V) : Option (sx_S × sx_S × Int × List sx_V) := match i with
  | .iaload => match st with
    | v :: .inr (.inr (.inr (.inr (_, t)))) :: r => match sx_len (sx_sh T t) 0 with
      | some n => match sx_ix σ v n with
        | some b => match sx_sb T t with
          | q :: _ => bif decide (q.1 = q.2.1) && decide (q.2.2.1 = q.2.2.2) && decide (b.2 = q.1) && decide (b.1 < q.1) then some (sx_pu σ v (b.1, q.1 - 1), sx_pu σ v (q.1, q.1), q.2.2.1, r) else none
          | [] => none
        | none => none
      | none => none
    | _ => none
  | _ => none
theorem sx_pin_int {x : Int32} {n : Nat} (h : pm_in x n = true) : x.toInt = (x.toNatClampNeg : Int) := by
  have hn : ¬ x < 0 := fun q => by
    unfold pm_in at h
    rw [decide_eq_true q] at h
    cases h
  have h2 : ¬ x.toInt < (0 : Int32).toInt := fun q => hn (Int32.lt_iff_toInt_lt.mpr q)
  have z : (0 : Int32).toInt = 0 := rfl
  show x.toInt = ((x.toInt.toNat : Nat) : Int)
  omega
section XP
variable {P : pm_P} {T : sx_T} {tg : Nat → Nat} {PH : pm_H → Prop} {VP : pm_H → Nat → Int → Prop} {ρ : List Int} {h : pm_H} {σ σ1 σ2 : sx_S}
theorem sx_sp_ok (hC : sx_C P T tg PH VP) {i : Instr} {st r : List sx_V} {x : Int} (e : sx_sp T σ i st = some (σ1, σ2, x, r)) (hρ : sx_in ρ σ) (iv : sx_IV T tg PH h) {sc : List Value} (hs : sx_R tg ρ st sc) (lv : List Value) (nx rt : Nat) :
    sx_in ρ σ1 ∨ (sx_in ρ σ2 ∧ ∃ sc', pm_he P i sc h = some (.int (Int32.ofInt x) :: sc', h) ∧ sx_R tg ρ r sc' ∧ pm_lo i lv sc = none ∧ pm_ar i sc = none ∧ pm_br i nx sc = none ∧ pm_re rt i sc = none ∧ pm_ca P i sc h = none) := by
  unfold sx_sp at e
  split at e
  · split at e
    · rename_i v j t r'
      split at e
      · rename_i n hn
        split at e
        · rename_i b hb
          split at e
          · rename_i q qs hq
            obtain ⟨h1, h2⟩ := sx_bif e
            cases h2
            rw [Bool.and_eq_true, Bool.and_eq_true, Bool.and_eq_true, decide_eq_true_iff, decide_eq_true_iff, decide_eq_true_iff, decide_eq_true_iff] at h1
            obtain ⟨⟨⟨d1, d2⟩, d3⟩, d4⟩ := h1
            obtain ⟨wv, sc1, rfl, g1, g2⟩ := sx_R_cons hs
            obtain ⟨w, sc2, rfl, g5, g6⟩ := sx_R_cons g2
            obtain ⟨a, g3, g4, rfl⟩ := sx_evr g5
            obtain ⟨y, rfl, y1, y2, y3, y4⟩ := sx_ix_ok hρ hb g1
            have y0 : y.toInt = (y.toNatClampNeg : Int) := sx_pin_int y1
            by_cases hk : (y.toNatClampNeg : Int) = q.1
            · right
              have ib := iv.1 a y.toNatClampNeg q (by rw [g4, hq]; exact List.mem_cons_self) (by omega) (by omega)
              have ev : h.1 a y.toNatClampNeg = Int32.ofInt q.2.2.1 := by
                have : (h.1 a y.toNatClampNeg).toInt = q.2.2.1 := by omega
                rw [← this, Int32.ofInt_toInt]
              have sa := hC.1 h a _ iv.2.2.2 (by rw [g4]; exact sx_len_ok hn)
              refine ⟨sx_pu_ok' hρ g1 (by show q.1 ≤ y.toInt; omega) (by show y.toInt ≤ q.1; omega), sc2, ?_, g6, rfl, rfl, rfl, rfl, rfl⟩
              simp only [pm_he, sa, y1, if_true, ev]
            · left
              exact sx_pu_ok' hρ g1 (by show b.1 ≤ y.toInt; omega) (by show y.toInt ≤ q.1 - 1; omega)
          · cases e
        · cases e
      · cases e
    · cases e
  · cases e
end XP
