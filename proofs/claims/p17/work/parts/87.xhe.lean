/-! A RUN OVER AN UNKNOWN HEAP, eighth: instructions of the heap -/
def sx_isO (s : Option pm_S) (c : Nat) : Bool := match s with
  | some (.inl d) => Nat.beq d c
  | _ => false
theorem sx_isO_ok {s : Option pm_S} {c : Nat} (h : sx_isO s c = true) : s = some (.inl c) := by
  unfold sx_isO at h
  split at h
  · rw [Nat.eq_of_beq_eq_true h]
  · cases h
/-- the length of a row of a kind -/
def sx_len (s : Option pm_S) (kd : Nat) : Option Nat := match s with
  | some (.inr (t, n)) => bif Nat.beq t kd then some n else none
  | _ => none
theorem sx_len_ok {s : Option pm_S} {kd n : Nat} (h : sx_len s kd = some n) : s = some (.inr (kd, n)) := by
  unfold sx_len at h
  split at h
  · obtain ⟨h1, h2⟩ := sx_bif h
    rw [Nat.eq_of_beq_eq_true h1, h2]
  · cases h
/-- an index within a row: its bounds -/
def sx_ix (σ : sx_S) (v : sx_V) (n : Nat) : Option (Int × Int) := match sx_vi σ v with
  | some b => bif decide (0 ≤ b.1) && decide (b.2 < (n : Int)) then some b else none
  | none => none
theorem sx_ix_ok {tg : Nat → Nat} {ρ : List Int} {σ : sx_S} (hρ : sx_in ρ σ) {v : sx_V} {n : Nat} {b : Int × Int} (h : sx_ix σ v n = some b) {w : Value} (e : sx_ev tg ρ v = some w) : ∃ x : Int32, w = .int x ∧ pm_in x n = true ∧ b.1 ≤ (x.toNatClampNeg : Int) ∧ (x.toNatClampNeg : Int) ≤ b.2 ∧ x.toNatClampNeg < n := by
  unfold sx_ix at h
  split at h
  · rename_i b' hb
    obtain ⟨h1, h2⟩ := sx_bif h
    subst h2
    rw [Bool.and_eq_true, decide_eq_true_iff, decide_eq_true_iff] at h1
    obtain ⟨x, rfl, g1, g2⟩ := sx_vi_ok hρ hb e
    have hc : (x.toNatClampNeg : Int) = x.toInt := by
      show ((x.toInt.toNat : Nat) : Int) = x.toInt
      omega
    have hlt : x.toNatClampNeg < n := by omega
    have hnn : ¬ x < 0 := fun q => by
      have := Int32.lt_iff_toInt_lt.mp q
      have z : (0 : Int32).toInt = 0 := rfl
      omega
    refine ⟨x, rfl, ?_, by omega, by omega, hlt⟩
    unfold pm_in
    rw [decide_eq_false hnn, decide_eq_false (show ¬ n ≤ x.toNatClampNeg by omega)]
    rfl
  · cases h
/-- all references of a row lead to one region -/
def sx_ga (T : sx_T) (t u : Nat) : Nat → Bool
  | 0 => true
  | m + 1 => (match sx_gr T t m with
    | some v => Nat.beq v u
    | none => false) && sx_ga T t u m
theorem sx_ga_ok {T : sx_T} {t u : Nat} : ∀ {m k : Nat}, sx_ga T t u m = true → k < m → sx_gr T t k = some u
  | 0, _, _, h => absurd h (Nat.not_lt_zero _)
  | m + 1, k, e, h => by
    rw [sx_ga, Bool.and_eq_true] at e
    by_cases hk : k = m
    · subst hk
      have e1 := e.1
      split at e1
      · rename_i v hv
        rw [hv, Nat.eq_of_beq_eq_true e1]
      · cases e1
    · exact sx_ga_ok e.2 (by omega)
def sx_gf (P : pm_P) (T : sx_T) (E : sx_E) (i t k c : Nat) : Option (sx_V × sx_E) := match pm_fty P c k with
  | 1 => some (.inr (.inr (.inl E.2.1)), sx_nw E.1 E.2.1 (sx_gl T t), E.2.1 + 1, E.2.2)
  | 2 => match sx_fdR T i t k E.2.2.2.2.2 with
    | some q => some (.inr (.inr (.inr (.inr q))), E)
    | none => match sx_gr T t k with
      | some u => some (.inr (.inr (.inr (.inr (E.2.1, u)))), (E.2.1, 0, 1000000) :: E.1, E.2.1 + 1, E.2.2.1, E.2.2.2.1, E.2.2.2.2.1, ((i, t, k), (E.2.1, u)) :: E.2.2.2.2.2)
      | none => none
  | _ => some (sx_r1 T E i t k)
def sx_pf (P : pm_P) (T : sx_T) (W : sx_W) (E : sx_E) (i t k c : Nat) (v : sx_V) : Option sx_E := match pm_fty P c k with
  | 0 => match sx_vi E.1 v with
    | some b => bif sx_mw T W t k k b then some (sx_w2 E i t k k v) else none
    | none => none
  | 1 => match sx_lvi E.1 v with
    | some b => bif sx_wl T t b then some E else none
    | none => none
  | 3 => match sx_vi E.1 v with
    | some b => bif sx_mw T W t k k b && sx_w b 0 1 then some (sx_w2 E i t k k v) else none
    | none => none
  | _ => none
section XF
variable {P : pm_P} {T : sx_T} {tg : Nat → Nat} {PH : pm_H → Prop} {VP : pm_H → Nat → Int → Prop} {ρ : List Int} {h : pm_H} {E E' : sx_E}
theorem sx_gf_ok (hC : sx_C P T tg PH VP) (ok : sx_ok tg VP ρ h E) (iv : sx_IV T tg PH h) {i t k c a : Nat} (ha : ρ[i]? = some (a : Int)) (hat : tg a = t) {v : sx_V} (e : sx_gf P T E i t k c = some (v, E')) : ∃ e, sx_ok tg VP (ρ ++ e) h E' ∧ sx_ev tg (ρ ++ e) v = some (pm_g (pm_fty P c k) h a k) := by
  unfold sx_gf at e
  split at e
  · rename_i hf
    rw [hf]
    obtain ⟨σ, n, φ, ν, KI, KR⟩ := E
    rw [sx_nw_eq] at e
    cases e
    obtain ⟨k1, k2⟩ := sx_ok_newL ok (h.2.1 a k) (lo := (sx_gl T t).1) (hi := (sx_gl T t).2) (by rw [← hat]; exact iv.2.1 a k)
    exact ⟨[(h.2.1 a k).toInt], k1, k2⟩
  · rename_i hf
    rw [hf]
    split at e
    · rename_i q hq
      cases e
      obtain ⟨b, g1, g2, g3⟩ := sx_fdR_ok hC ok.2.2.2.2.2 hq ha hat
      refine ⟨[], ?_, ?_⟩
      · rw [List.append_nil]; exact ok
      · rw [List.append_nil]
        show _ = some (va_rf (h.2.2.1 a k))
        rw [g3]
        exact sx_evr' g1 g2
    · split at e
      · rename_i u hu
        obtain ⟨σ, n, φ, ν, KI, KR⟩ := E
        cases e
        obtain ⟨b, g1, g2, g3⟩ := iv.2.2.1 a k u (by rw [hat]; exact hu)
        obtain ⟨k1, k2, k3⟩ := sx_ok_newR ok b u g2 (by omega)
        refine ⟨[(b : Int)], ⟨k1.1, k1.2.1, k1.2.2.1, k1.2.2.2.1, k1.2.2.2.2.1, fun q hq => ?_⟩, ?_⟩
        · rcases List.mem_cons.mp hq with rfl | hq
          · exact ⟨a, b, sx_gm ha _, hat, k3, g2, g1⟩
          · exact k1.2.2.2.2.2 q hq
        · show _ = some (va_rf (h.2.2.1 a k))
          rw [g1]
          exact k2
      · cases e
  · rename_i h1 h2
    obtain ⟨rfl, rfl⟩ : (sx_r1 T E i t k).1 = v ∧ (sx_r1 T E i t k).2 = E' := by
      injection e with e
      exact ⟨congrArg Prod.fst e, congrArg Prod.snd e⟩
    have e2 : pm_g (pm_fty P c k) h a k = .int (h.1 a k) := by
      unfold pm_g
      split
      · rename_i q; exact absurd q h1
      · rename_i q; exact absurd q h2
      · rfl
    rw [e2]
    exact sx_r1_ok hC ok iv ha hat
theorem sx_pf_ok (hC : sx_C P T tg PH VP) (ok : sx_ok tg VP ρ h E) (iv : sx_IV T tg PH h) {W : sx_W} {D : Bool × Bool} {i t k c a : Nat} (ha : ρ[i]? = some (a : Int)) (hat : tg a = t) {v : sx_V} {w : Value} (hv : sx_ev tg ρ v = some w) (e : sx_pf P T W E i t k c v = some E') : ∃ h', pm_p (pm_fty P c k) h a k w = some h' ∧ sx_ok tg VP ρ h' E' ∧ sx_IV T tg PH h' ∧ sx_fr tg VP W D h h' := by
  unfold sx_pf at e
  split at e
  · rename_i hf
    rw [hf]
    split at e
    · rename_i b hb
      obtain ⟨h1, h2⟩ := sx_bif e
      subst h2
      obtain ⟨x, rfl, g1, g2⟩ := sx_vi_ok ok.2.1 hb hv
      exact ⟨_, rfl, sx_w2_ok hC ok iv h1 ha hat (Int.le_refl _) (Int.le_refl _) hv g1 g2⟩
    · cases e
  · rename_i hf
    rw [hf]
    split at e
    · rename_i b hb
      obtain ⟨h1, h2⟩ := sx_bif e
      subst h2
      obtain ⟨x, rfl, g1, g2⟩ := sx_lvi_ok ok.2.1 hb hv
      exact ⟨_, rfl, sx_wL_ok hC ok iv h1 hat g1 g2⟩
    · cases e
  · rename_i hf
    rw [hf]
    split at e
    · rename_i b hb
      obtain ⟨h1, h2⟩ := sx_bif e
      subst h2
      rw [Bool.and_eq_true] at h1
      obtain ⟨x, rfl, g1, g2⟩ := sx_vi_ok ok.2.1 hb hv
      have g3 := sx_w_ok h1.2
      have g4 : x = 0 ∨ x = 1 := by
        have : x.toInt = 0 ∨ x.toInt = 1 := by omega
        rcases this with q | q
        · exact Or.inl (Int32.toInt_inj.mp q)
        · exact Or.inr (Int32.toInt_inj.mp q)
      exact ⟨_, by simp only [pm_p, if_pos g4], sx_w2_ok hC ok iv h1.1 ha hat (Int.le_refl _) (Int.le_refl _) hv g1 g2⟩
    · cases e
  · cases e
end XF
/-- a row is copied into another -/
def sx_cpy (T : sx_T) (W : sx_W) (E : sx_E) (c dp : sx_V) (u : Nat) (sp : sx_V) (t : Nat) : Option sx_E := match sx_len (sx_sh T t) 0, sx_len (sx_sh T u) 0 with
  | some n0, some n1 => match sx_vi E.1 c, sx_vi E.1 dp, sx_vi E.1 sp with
    | some bc, some bd, some bs => bif decide (0 ≤ bc.1) && decide (0 ≤ bd.1) && decide (0 ≤ bs.1) && decide (bs.2 + bc.2 ≤ (n0 : Int)) && decide (bd.2 + bc.2 ≤ (n1 : Int)) && sx_mw T W u 0 ((n1 : Int) - 1) (sx_rd (sx_sb T t) 0 ((n0 : Int) - 1)) then some (sx_kw E u 0 ((n1 : Int) - 1)) else none
    | _, _, _ => none
  | _, _ => none
def sx_sum : List sx_V → Nat
  | [] => 0
  | v :: r => sx_cat v + sx_sum r
theorem sx_sum_ok {tg : Nat → Nat} {ρ : List Int} : ∀ {l : List sx_V} {c : List Value}, sx_R tg ρ l c → (c.map Value.category).sum = sx_sum l
  | [], [], _ => rfl
  | _ :: _, [], h => h.elim
  | [], _ :: _, h => h.elim
  | v :: l, w :: c, h => by
    rw [List.map_cons, List.sum_cons, sx_sum, sx_sum_ok h.2, sx_cat_ok h.1]
/-- instructions of the heap: stack, what is known -/
def sx_he (P : pm_P) (T : sx_T) (W : sx_W) (i : Instr) (st : List sx_V) (E : sx_E) : Option (List sx_V × sx_E) := match i with
  | .getfield n => match st with
    | .inr (.inr (.inr (.inr (j, t)))) :: r => bif sx_isO (sx_sh T t) (n / 64) then (match sx_gf P T E j t (n % 64) (n / 64) with
      | some (v, E') => some (v :: r, E')
      | none => none) else none
    | _ => none
  | .putfield n => match st with
    | v :: .inr (.inr (.inr (.inr (j, t)))) :: r => bif sx_isO (sx_sh T t) (n / 64) then (match sx_pf P T W E j t (n % 64) (n / 64) v with
      | some E' => some (r, E')
      | none => none) else none
    | _ => none
  | .arraylength => match st with
    | .inr (.inr (.inr (.inr (_, t)))) :: r => match sx_sh T t with
      | some (.inr (_, n)) => some (.inl (.int (Int32.ofNat n)) :: r, E)
      | _ => none
    | _ => none
  | .iaload => match st with
    | v :: .inr (.inr (.inr (.inr (j, t)))) :: r => match sx_len (sx_sh T t) 0 with
      | some n => match sx_ix E.1 v n with
        | some b => some ((sx_r2 T E j t b.1 b.2).1 :: r, (sx_r2 T E j t b.1 b.2).2)
        | none => none
      | none => none
    | _ => none
  | .baload => match st with
    | v :: .inr (.inr (.inr (.inr (j, t)))) :: r => match sx_sh T t with
      | some (.inr (kd, n)) => bif Nat.beq kd 2 || Nat.beq kd 3 then (match sx_ix E.1 v n with
        | some b => some ((sx_r2 T E j t b.1 b.2).1 :: r, (sx_r2 T E j t b.1 b.2).2)
        | none => none) else none
      | _ => none
    | _ => none
  | .laload => match st with
    | v :: .inr (.inr (.inr (.inr (_, t)))) :: r => match sx_len (sx_sh T t) 1 with
      | some n => match sx_ix E.1 v n with
        | some _ => some (.inr (.inr (.inl E.2.1)) :: r, sx_nw E.1 E.2.1 (sx_gl T t), E.2.1 + 1, E.2.2)
        | none => none
      | none => none
    | _ => none
  | .aaload => match st with
    | v :: .inr (.inr (.inr (.inr (_, t)))) :: r => match sx_sh T t with
      | some (.inr (_ + 4, n)) => match sx_ix E.1 v n with
        | some _ => match sx_gr T t 0 with
          | some u => bif sx_ga T t u n then some (.inr (.inr (.inr (.inr (E.2.1, u)))) :: r, (E.2.1, 0, 1000000) :: E.1, E.2.1 + 1, E.2.2) else none
          | none => none
        | none => none
      | _ => none
    | _ => none
  | .iastore => match st with
    | x :: v :: .inr (.inr (.inr (.inr (j, t)))) :: r => match sx_len (sx_sh T t) 0 with
      | some n => match sx_ix E.1 v n with
        | some b => match sx_vi E.1 x with
          | some c => bif sx_mw T W t b.1 b.2 c then some (r, sx_w2 E j t b.1 b.2 x) else none
          | none => none
        | none => none
      | none => none
    | _ => none
  | .bastore => match st with
    | x :: v :: .inr (.inr (.inr (.inr (_, t)))) :: r => match sx_sh T t with
      | some (.inr (kd, n)) => match sx_ix E.1 v n with
        | some b => match sx_vi E.1 x with
          | some _ => bif Nat.beq kd 2 && sx_mw T W t b.1 b.2 (-128, 127) then some (r, sx_kw E t b.1 b.2) else bif Nat.beq kd 3 && sx_mw T W t b.1 b.2 (0, 1) then some (r, sx_kw E t b.1 b.2) else none
          | none => none
        | none => none
      | _ => none
    | _ => none
  | .lastore => match st with
    | x :: v :: .inr (.inr (.inr (.inr (_, t)))) :: r => match sx_len (sx_sh T t) 1 with
      | some n => match sx_ix E.1 v n with
        | some _ => match sx_lvi E.1 x with
          | some c => bif sx_wl T t c then some (r, E) else none
          | none => none
        | none => none
      | none => none
    | _ => none
  | .invokestatic n => bif Nat.beq n 9000 then (match st with
    | c :: dp :: .inr (.inr (.inr (.inr (_, u)))) :: sp :: .inr (.inr (.inr (.inr (_, t)))) :: r => bif Nat.ble (sx_sum r) 8 then (match sx_cpy T W E c dp u sp t with
      | some E' => some (r, E')
      | none => none) else none
    | _ => none) else none
  | .invokevirtual n => bif Nat.beq n 9001 then (match st with
    | .inl (.ref a) :: r => bif Nat.ble (sx_sum r) 8 && Nat.ble 100000 a && Nat.blt 0 (pm_txt P (a - 100000)).length then some (.inl (.int (Int32.ofNat (pm_txt P (a - 100000)).length)) :: r, E) else none
    | _ => none) else bif Nat.beq n 9002 then (match st with
    | .inl (.int j) :: .inl (.ref a) :: r => bif Nat.ble (sx_sum r) 8 && Nat.ble 100000 a && pm_in j (pm_txt P (a - 100000)).length then some (.inl (.int ((pm_txt P (a - 100000)).getD j.toNatClampNeg 0)) :: r, E) else none
    | _ => none) else none
  | _ => none
