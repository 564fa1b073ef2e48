/-! A RUN OVER AN UNKNOWN HEAP, tenth: branches, switches, returns, calls -/
/-- a switch, number by number -/
def sx_tab (i : Instr) (nx : Nat) (σ : sx_S) (ν : List Nat) (x : sx_V) (r : List sx_V) : Nat → Int → Option (List sx_Q)
  | 0, _ => some []
  | n + 1, z => match pm_br i nx [.int (Int32.ofInt z)] with
    | some q => match sx_tab i nx σ ν x r n (z + 1) with
      | some l => some ((sx_pu σ x (z, z), ν, q.1, r) :: l)
      | none => none
    | none => none
def sx_isS (i : Instr) : Bool := match i with
  | .tableswitch _ _ _ _ => true
  | .lookupswitch _ _ => true
  | _ => false
theorem sx_isS_ok {i : Instr} (h : sx_isS i = true) {nx : Nat} {x : Int32} {q : Nat × List Value} (e : pm_br i nx [.int x] = some q) (r : List Value) : pm_br i nx (.int x :: r) = some (q.1, r) := by
  unfold sx_isS at h
  split at h
  · simp only [pm_br] at e ⊢
    split at e
    · rename_i h1
      cases e
      rw [if_pos h1]
    · rename_i h1
      rw [if_neg h1]
      split at e
      · cases e
        rfl
      · cases e
  · simp only [pm_br] at e ⊢
    cases e
    rfl
  · cases h
def sx_br (σ : sx_S) (ν : List Nat) (i : Instr) (nx : Nat) (st : List sx_V) : Option (List sx_Q) := match i with
  | .goto t => some [(σ, ν, t.toNat, st)]
  | .ifCond c t => match st with
    | .inr (.inr (.inr (.inl (p, q)))) :: r => sx_cl σ ν p q c t.toNat nx r
    | x :: r => sx_cp σ ν x (.inl (.int 0)) c t.toNat nx r
    | _ => none
  | .if_icmp c t => match st with
    | y :: x :: r => sx_cp σ ν x y c t.toNat nx r
    | _ => none
  | .ifnull t => match st with
    | .inl .null :: r => some [(σ, ν, t.toNat, r)]
    | .inl (.ref _) :: r => some [(σ, ν, nx, r)]
    | .inr (.inr (.inr (.inr _))) :: r => some [(σ, ν, nx, r)]
    | _ => none
  | .ifnonnull t => match st with
    | .inl .null :: r => some [(σ, ν, nx, r)]
    | .inl (.ref _) :: r => some [(σ, ν, t.toNat, r)]
    | .inr (.inr (.inr (.inr _))) :: r => some [(σ, ν, t.toNat, r)]
    | _ => none
  | i => bif sx_isS i then (match st with
    | x :: r => match sx_vi σ x with
      | some b => bif decide (b.2 - b.1 ≤ 130) then sx_tab i nx σ ν x r (b.2 - b.1 + 1).toNat b.1 else none
      | none => none
    | _ => none) else none
section XN
variable {tg : Nat → Nat} {ρ : List Int} {σ : sx_S} {ν : List Nat}
theorem sx_tab_ok (hρ : sx_in ρ σ) (hν : sx_nz ρ ν) {i : Instr} (hi : sx_isS i = true) {nx : Nat} {x : sx_V} {r : List sx_V} {a : Int32} (ex : sx_ev tg ρ x = some (.int a)) (rc : List Value) : ∀ (n : Nat) (z : Int) (l : List sx_Q), sx_tab i nx σ ν x r n z = some l → z ≤ a.toInt → a.toInt < z + n →
    ∃ q ∈ l, sx_in ρ q.1 ∧ sx_nz ρ q.2.1 ∧ q.2.2.2 = r ∧ pm_br i nx (.int a :: rc) = some (q.2.2.1, rc) := by
  intro n
  induction n with
  | zero => intro z l _ h1 h2; exact absurd h2 (by omega)
  | succ n ih =>
    intro z l h h1 h2
    rw [sx_tab] at h
    split at h
    · rename_i q hq
      split at h
      · rename_i l' hl
        cases h
        by_cases e : a.toInt = z
        · refine ⟨_, List.mem_cons_self, sx_pu_ok' hρ ex (by omega) (by omega), hν, rfl, ?_⟩
          rw [← e, Int32.ofInt_toInt] at hq
          exact sx_isS_ok hi hq rc
        · obtain ⟨q', g1, g2⟩ := ih (z + 1) l' hl (by omega) (by omega)
          exact ⟨q', List.mem_cons_of_mem _ g1, g2⟩
      · cases h
    · cases h
theorem sx_br_ok (hρ : sx_in ρ σ) (hν : sx_nz ρ ν) {i : Instr} {nx : Nat} {st : List sx_V} {l : List sx_Q} (h : sx_br σ ν i nx st = some l) {sc : List Value} (hs : sx_R tg ρ st sc) (lv : List Value) (rt : Nat) (P : pm_P) (hh : pm_H) :
    ∃ q ∈ l, ∃ sc', sx_in ρ q.1 ∧ sx_nz ρ q.2.1 ∧ pm_br i nx sc = some (q.2.2.1, sc') ∧ sx_R tg ρ q.2.2.2 sc' ∧ pm_lo i lv sc = none ∧ pm_ar i sc = none ∧ pm_re rt i sc = none ∧ pm_ca P i sc hh = none := by
  unfold sx_br at h
  split at h
  · cases h
    exact ⟨_, List.mem_singleton.mpr rfl, sc, hρ, hν, rfl, hs, rfl, rfl, rfl, rfl⟩
  · rename_i c t
    split at h
    · rename_i p q r
      obtain ⟨w, sc1, rfl, g1, g2⟩ := sx_R_cons hs
      obtain ⟨a, b, k1, k2, rfl⟩ := sx_evc g1
      obtain ⟨z, m1, m2, m3, m4, m5⟩ := sx_cl_ok hρ hν h k1 k2
      exact ⟨z, m1, sc1, m2, m3, by simp only [pm_br, m4], by rw [m5]; exact g2, rfl, rfl, rfl, rfl⟩
    · rename_i x r _
      obtain ⟨w, sc1, rfl, g1, g2⟩ := sx_R_cons hs
      obtain ⟨a, b, rfl, e2, z, m1, m2, m3, m4, m5⟩ := sx_cp_ok hρ hν h g1 (wy := .int 0) rfl
      cases e2
      exact ⟨z, m1, sc1, m2, m3, by simp only [pm_br, m4], by rw [m5]; exact g2, rfl, rfl, rfl, rfl⟩
    · cases h
  · rename_i c t
    split at h
    · rename_i y x r
      obtain ⟨wy, sc1, rfl, g1, g2⟩ := sx_R_cons hs
      obtain ⟨wx, sc2, rfl, g3, g4⟩ := sx_R_cons g2
      obtain ⟨a, b, rfl, rfl, z, m1, m2, m3, m4, m5⟩ := sx_cp_ok hρ hν h g3 g1
      exact ⟨z, m1, sc2, m2, m3, by simp only [pm_br, m4], by rw [m5]; exact g4, rfl, rfl, rfl, rfl⟩
    · cases h
  · split at h
    · cases h
      obtain ⟨w, sc1, rfl, g1, g2⟩ := sx_R_cons hs
      have g3 := sx_evl g1
      subst g3
      exact ⟨_, List.mem_singleton.mpr rfl, sc1, hρ, hν, rfl, g2, rfl, rfl, rfl, rfl⟩
    · cases h
      obtain ⟨w, sc1, rfl, g1, g2⟩ := sx_R_cons hs
      have g3 := sx_evl g1
      subst g3
      exact ⟨_, List.mem_singleton.mpr rfl, sc1, hρ, hν, rfl, g2, rfl, rfl, rfl, rfl⟩
    · rename_i q r
      cases h
      obtain ⟨w, sc1, rfl, g1, g2⟩ := sx_R_cons hs
      obtain ⟨a, _, _, rfl⟩ := sx_evr (i := q.1) (t := q.2) g1
      exact ⟨_, List.mem_singleton.mpr rfl, sc1, hρ, hν, rfl, g2, rfl, rfl, rfl, rfl⟩
    · cases h
  · split at h
    · cases h
      obtain ⟨w, sc1, rfl, g1, g2⟩ := sx_R_cons hs
      have g3 := sx_evl g1
      subst g3
      exact ⟨_, List.mem_singleton.mpr rfl, sc1, hρ, hν, rfl, g2, rfl, rfl, rfl, rfl⟩
    · cases h
      obtain ⟨w, sc1, rfl, g1, g2⟩ := sx_R_cons hs
      have g3 := sx_evl g1
      subst g3
      exact ⟨_, List.mem_singleton.mpr rfl, sc1, hρ, hν, rfl, g2, rfl, rfl, rfl, rfl⟩
    · rename_i q r
      cases h
      obtain ⟨w, sc1, rfl, g1, g2⟩ := sx_R_cons hs
      obtain ⟨a, _, _, rfl⟩ := sx_evr (i := q.1) (t := q.2) g1
      exact ⟨_, List.mem_singleton.mpr rfl, sc1, hρ, hν, rfl, g2, rfl, rfl, rfl, rfl⟩
    · cases h
  · cases hi : sx_isS i with
    | false => rw [hi] at h; cases h
    | true =>
      rw [hi] at h
      simp only [cond_true] at h
      have no : pm_lo i lv sc = none ∧ pm_ar i sc = none ∧ pm_re rt i sc = none ∧ pm_ca P i sc hh = none := by
        have hi' := hi
        unfold sx_isS at hi'
        split at hi'
        · exact ⟨rfl, rfl, rfl, rfl⟩
        · exact ⟨rfl, rfl, rfl, rfl⟩
        · cases hi'
      split at h
      · rename_i x r
        split at h
        · rename_i b hb
          cases d : decide (b.2 - b.1 ≤ 130) with
          | false => rw [d] at h; cases h
          | true =>
            rw [d] at h
            simp only [cond_true] at h
            obtain ⟨w, sc1, rfl, g1, g2⟩ := sx_R_cons hs
            obtain ⟨a, rfl, k1, k2⟩ := sx_vi_ok hρ hb g1
            obtain ⟨q, m1, m2, m3, m4, m5⟩ := sx_tab_ok hρ hν hi g1 sc1 _ _ l h k1 (by omega)
            exact ⟨q, m1, sc1, m2, m3, m5, by rw [m4]; exact g2, no⟩
        · cases h
      · cases h
end XN
/-! returns -/
def sx_re (σ : sx_S) (rt : Nat) (i : Instr) (st : List sx_V) : Option (List sx_V) := match i with
  | .return_ => match st with
    | [] => bif Nat.beq rt 0 then some [] else none
    | _ => none
  | .ireturn => match st with
    | [v] => match sx_vi σ v with
      | some b => bif Nat.beq rt 1 || (Nat.beq rt 4 && sx_w b 0 1) then some [v] else none
      | none => none
    | _ => none
  | .lreturn => match st with
    | [v] => bif sx_isL v && Nat.beq rt 2 then some [v] else none
    | _ => none
  | .areturn => match st with
    | [v] => bif sx_isR v && Nat.beq rt 3 then some [v] else none
    | _ => none
  | _ => none
theorem sx_re_ok {tg : Nat → Nat} {ρ : List Int} {σ : sx_S} (hρ : sx_in ρ σ) {rt : Nat} {i : Instr} {st v : List sx_V} (e : sx_re σ rt i st = some v) {sc : List Value} (hs : sx_R tg ρ st sc) : ∃ vc, pm_re rt i sc = some vc ∧ sx_R tg ρ v vc := by
  unfold sx_re at e
  split at e
  · split at e
    · obtain ⟨g1, g2⟩ := sx_bif e
      subst g2
      have h0 := sx_R_nil hs
      subst h0
      exact ⟨[], by simp only [pm_re, Nat.eq_of_beq_eq_true g1, if_true], trivial⟩
    · cases e
  · split at e
    · rename_i v'
      split at e
      · rename_i b hb
        obtain ⟨g1, g2⟩ := sx_bif e
        subst g2
        obtain ⟨w, sc1, rfl, k1, k2⟩ := sx_R_cons hs
        have h0 := sx_R_nil k2
        subst h0
        obtain ⟨x, rfl, m1, m2⟩ := sx_vi_ok hρ hb k1
        rw [Bool.or_eq_true, Bool.and_eq_true] at g1
        have g3 : rt = 1 ∨ (rt = 4 ∧ (x = 0 ∨ x = 1)) := by
          rcases g1 with g1 | ⟨g1, g4⟩
          · exact Or.inl (Nat.eq_of_beq_eq_true g1)
          · have g5 := sx_w_ok g4
            refine Or.inr ⟨Nat.eq_of_beq_eq_true g1, ?_⟩
            have : x.toInt = 0 ∨ x.toInt = 1 := by omega
            rcases this with q | q
            · exact Or.inl (Int32.toInt_inj.mp q)
            · exact Or.inr (Int32.toInt_inj.mp q)
        exact ⟨[.int x], by simp only [pm_re, if_pos g3], ⟨k1, trivial⟩⟩
      · cases e
    · cases e
  · split at e
    · rename_i v'
      obtain ⟨g1, g2⟩ := sx_bif e
      subst g2
      rw [Bool.and_eq_true] at g1
      obtain ⟨w, sc1, rfl, k1, k2⟩ := sx_R_cons hs
      have h0 := sx_R_nil k2
      subst h0
      obtain ⟨x, rfl⟩ := sx_isL_ev g1.1 k1
      exact ⟨[.long x], by simp only [pm_re, Nat.eq_of_beq_eq_true g1.2, if_true], ⟨k1, trivial⟩⟩
    · cases e
  · split at e
    · rename_i v'
      obtain ⟨g1, g2⟩ := sx_bif e
      subst g2
      rw [Bool.and_eq_true] at g1
      obtain ⟨w, sc1, rfl, k1, k2⟩ := sx_R_cons hs
      have h0 := sx_R_nil k2
      subst h0
      rcases sx_isR_ev g1.1 k1 with ⟨x, rfl⟩ | rfl
      · exact ⟨[.ref x], by simp only [pm_re, Nat.eq_of_beq_eq_true g1.2, if_true], ⟨k1, trivial⟩⟩
      · exact ⟨[.null], by simp only [pm_re, Nat.eq_of_beq_eq_true g1.2, if_true], ⟨k1, trivial⟩⟩
    · cases e
  · cases e
/-! calls -/
def sx_sl : List sx_V → List sx_V
  | [] => []
  | v :: r => bif Nat.beq (sx_cat v) 2 then v :: .inl (.retAddr 0) :: sx_sl r else v :: sx_sl r
theorem sx_sl_ok {tg : Nat → Nat} {ρ : List Int} : ∀ {l : List sx_V} {c : List Value}, sx_R tg ρ l c → sx_R tg ρ (sx_sl l) (pm_sl c)
  | [], [], _ => trivial
  | _ :: _, [], h => h.elim
  | [], _ :: _, h => h.elim
  | v :: l, w :: c, h => by
    have ih := sx_sl_ok h.2
    unfold pm_sl at ih ⊢
    rw [List.flatMap_cons, sx_cat_ok h.1, sx_sl]
    cases e : Nat.beq (sx_cat v) 2 with
    | true => rw [if_pos (Nat.eq_of_beq_eq_true e)]; exact ⟨h.1, rfl, ih⟩
    | false => rw [if_neg (fun q => by rw [q] at e; cases e)]; exact ⟨h.1, ih⟩
theorem sx_R_rep {tg : Nat → Nat} {ρ : List Int} (n : Nat) : sx_R tg ρ (List.replicate n (.inl (.retAddr 0))) (List.replicate n (.retAddr 0)) := by
  induction n with
  | zero => trivial
  | succ n ih => exact ⟨rfl, ih⟩
def sx_en (vs : List sx_V) (n : Nat) : List sx_V := sx_sl vs ++ List.replicate (n - (sx_sl vs).length) (.inl (.retAddr 0))
theorem sx_en_ok {tg : Nat → Nat} {ρ : List Int} {l : List sx_V} {c : List Value} (h : sx_R tg ρ l c) (n : Nat) : sx_R tg ρ (sx_en l n) (pm_en c n) := by
  unfold sx_en pm_en
  rw [sx_R_len (sx_sl_ok h)]
  exact sx_R_app (sx_sl_ok h) (sx_R_rep _)
def sx_ca (P : pm_P) (T : sx_T) (i : Instr) (st : List sx_V) : Option (Nat × List sx_V × List sx_V) := match i with
  | .invokestatic k => bif Nat.blt k 9000 && Nat.ble (pm_nar P k) st.length && Nat.ble (sx_sum (st.drop (pm_nar P k))) 8 && Nat.ble (sx_sl (st.take (pm_nar P k)).reverse).length (pm_mxl P k) then some (k, (st.take (pm_nar P k)).reverse, st.drop (pm_nar P k)) else none
  | .invokevirtual k => bif Nat.blt k 9000 && Nat.ble (sx_sum (st.drop (pm_nar P k))) 8 then match (st.take (pm_nar P k)).reverse with
      | .inr (.inr (.inr (.inr (a, t)))) :: as => bif Nat.beq (as.length + 1) (pm_nar P k) && sx_isO (sx_sh T t) (pm_rcv P k) && Nat.ble (sx_sl (.inr (.inr (.inr (.inr (a, t)))) :: as)).length (pm_mxl P k) then some (k, .inr (.inr (.inr (.inr (a, t)))) :: as, st.drop (pm_nar P k)) else none
      | _ => none
    else none
  | _ => none
theorem sx_ca_ok {P : pm_P} {T : sx_T} {tg : Nat → Nat} {PH : pm_H → Prop} {VP : pm_H → Nat → Int → Prop} {ρ : List Int} {h : pm_H} (hC : sx_C P T tg PH VP) (hp : PH h) {i : Instr} {st : List sx_V} {k : Nat} {as r : List sx_V} (e : sx_ca P T i st = some (k, as, r)) {sc : List Value} (hs : sx_R tg ρ st sc) (rt : Nat) :
    ∃ ac rc, pm_ca P i sc h = some (k, ac, rc) ∧ sx_R tg ρ as ac ∧ sx_R tg ρ r rc ∧ pm_re rt i sc = none := by
  unfold sx_ca at e
  split at e
  · rename_i k'
    obtain ⟨g1, g2⟩ := sx_bif e
    cases g2
    simp only [Bool.and_eq_true, Nat.ble_eq, Nat.blt_eq] at g1
    have r1 := sx_R_rev (sx_R_take (pm_nar P k) hs)
    have r2 := sx_R_drop (pm_nar P k) hs
    refine ⟨_, _, ?_, r1, r2, rfl⟩
    simp only [pm_ca]
    rw [if_pos ⟨g1.1.1.1, by rw [← sx_R_len hs]; exact g1.1.1.2, by rw [sx_sum_ok r2]; exact g1.1.2, by rw [← sx_R_len (sx_sl_ok r1)]; exact g1.2⟩]
  · rename_i k'
    cases g1 : Nat.blt k' 9000 && Nat.ble (sx_sum (st.drop (pm_nar P k'))) 8 with
    | false => rw [g1] at e; cases e
    | true =>
      rw [g1] at e
      simp only [Bool.and_eq_true, Nat.ble_eq, Nat.blt_eq] at g1
      simp only [cond_true] at e
      have r1 := sx_R_rev (sx_R_take (pm_nar P k') hs)
      have r2 := sx_R_drop (pm_nar P k') hs
      split at e
      · rename_i j t as' ea
        obtain ⟨g3, g2⟩ := sx_bif e
        cases g2
        simp only [Bool.and_eq_true, Nat.ble_eq] at g3
        rw [ea] at r1
        obtain ⟨w, ac, ec, q1, q2⟩ := sx_R_cons r1
        obtain ⟨a, q3, q4, rfl⟩ := sx_evr q1
        have sa := hC.1 h a _ hp (by rw [q4]; exact sx_isO_ok g3.1.2)
        refine ⟨.ref a :: ac, _, ?_, ⟨q1, q2⟩, r2, rfl⟩
        simp only [pm_ca]
        have rr : sx_R tg ρ (.inr (.inr (.inr (.inr (j, t)))) :: as') (.ref a :: ac) := ⟨q1, q2⟩
        rw [if_pos ⟨g1.1, by rw [sx_sum_ok r2]; exact g1.2⟩, ec]
        show (if _ then _ else _) = _
        rw [if_pos ⟨by rw [← sx_R_len q2]; exact Nat.eq_of_beq_eq_true g3.1.1, sa, by rw [← sx_R_len (sx_sl_ok rr)]; exact g3.2⟩]
      · cases e
  · cases e
