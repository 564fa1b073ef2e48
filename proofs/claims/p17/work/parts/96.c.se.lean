/-! A RUN OVER UNKNOWN INTS, third: the heap -/
def se_get {α : Type} (d : α) : List (Nat × Nat × α) → Nat → Nat → α
  | [], _, _ => d
  | q :: r, b, j => bif Nat.beq q.1 b && Nat.beq q.2.1 j then q.2.2 else se_get d r b j
theorem se_get_cons {α : Type} (d : α) (a k : Nat) (x : α) (r : List (Nat × Nat × α)) (b j : Nat) : se_get d ((a, k, x) :: r) b j = if b = a then (if j = k then x else se_get d r b j) else se_get d r b j := by
  rw [se_get]
  cases e : Nat.beq a b && Nat.beq k j with
  | true =>
    rw [Bool.and_eq_true] at e
    rw [if_pos (Nat.eq_of_beq_eq_true e.1).symm, if_pos (Nat.eq_of_beq_eq_true e.2).symm]
    rfl
  | false =>
    by_cases h1 : b = a
    · subst h1
      by_cases h2 : j = k
      · subst h2
        simp at e
      · rw [if_pos rfl, if_neg h2]; rfl
    · rw [if_neg h1]; rfl
def se_same (u v : se_V) : Bool := match u, v with
  | .inl (.int x), .inl (.int y) => decide (x = y)
  | _, _ => false
theorem se_same_ok {u v : se_V} (h : se_same u v = true) : u = v := by
  unfold se_same at h
  split at h
  · rw [of_decide_eq_true h]
  · cases h
abbrev se_z : se_V := .inl (.int 0)
def se_wI (H : se_H) (a k : Nat) (v : se_V) : se_H := bif se_same (se_get se_z H.1 a k) v then H else ((a, k, v) :: H.1, H.2)
def se_wL (H : se_H) (a k : Nat) (x : Int64) : se_H := bif decide (se_get 0 H.2.1 a k = x) then H else (H.1, (a, k, x) :: H.2.1, H.2.2)
def se_wR (H : se_H) (a k : Nat) (x : Option Nat) : se_H := (H.1, H.2.1, (a, k, x) :: H.2.2.1, H.2.2.2)
def se_hr (ρ : Nat → Int32) (H : se_H) (h : pm_H) : Prop := (∀ a k, se_ev ρ (se_get se_z H.1 a k) = .int (h.1 a k)) ∧ (∀ a k, h.2.1 a k = se_get 0 H.2.1 a k) ∧ (∀ a k, h.2.2.1 a k = se_get none H.2.2.1 a k) ∧ h.2.2.2 = H.2.2.2
theorem pm_u_sm {α : Type} {f : Nat → Nat → α} {a k : Nat} {x : α} (h : f a k = x) : pm_u f a k x = f := by
  funext b j
  unfold pm_u
  split
  · split
    · subst_vars; rfl
    · rfl
  · rfl
theorem se_wI_ok {ρ : Nat → Int32} {H : se_H} {h : pm_H} (hr : se_hr ρ H h) {a k : Nat} {v : se_V} {x : Int32} (hv : se_ev ρ v = .int x) : se_hr ρ (se_wI H a k v) (pm_sI h a k x) := by
  obtain ⟨h1, h2, h3, h4⟩ := hr
  unfold se_wI
  cases e : se_same (se_get se_z H.1 a k) v with
  | true =>
    have e1 := h1 a k
    rw [se_same_ok e, hv] at e1
    have e2 : h.1 a k = x := by injection e1.symm
    show se_hr ρ H (pm_u h.1 a k x, h.2)
    rw [pm_u_sm e2]
    exact ⟨h1, h2, h3, h4⟩
  | false =>
    refine ⟨fun b j => ?_, h2, h3, h4⟩
    show se_ev ρ (se_get se_z ((a, k, v) :: H.1) b j) = .int (pm_u h.1 a k x b j)
    rw [se_get_cons]
    unfold pm_u
    split
    · split
      · exact hv
      · exact h1 b j
    · exact h1 b j
theorem se_wL_ok {ρ : Nat → Int32} {H : se_H} {h : pm_H} (hr : se_hr ρ H h) (a k : Nat) (x : Int64) : se_hr ρ (se_wL H a k x) (pm_sL h a k x) := by
  obtain ⟨h1, h2, h3, h4⟩ := hr
  unfold se_wL
  cases e : decide (se_get 0 H.2.1 a k = x) with
  | true =>
    have e2 : h.2.1 a k = x := (h2 a k).trans (of_decide_eq_true e)
    show se_hr ρ H (h.1, pm_u h.2.1 a k x, h.2.2)
    rw [pm_u_sm e2]
    exact ⟨h1, h2, h3, h4⟩
  | false =>
    refine ⟨h1, fun b j => ?_, h3, h4⟩
    show pm_u h.2.1 a k x b j = se_get 0 ((a, k, x) :: H.2.1) b j
    rw [se_get_cons]
    unfold pm_u
    split
    · split
      · rfl
      · exact h2 b j
    · exact h2 b j
theorem se_wR_ok {ρ : Nat → Int32} {H : se_H} {h : pm_H} (hr : se_hr ρ H h) (a k : Nat) (x : Option Nat) : se_hr ρ (se_wR H a k x) (pm_sR h a k x) := by
  obtain ⟨h1, h2, h3, h4⟩ := hr
  refine ⟨h1, h2, fun b j => ?_, h4⟩
  show pm_u h.2.2.1 a k x b j = se_get none ((a, k, x) :: H.2.2.1) b j
  rw [se_get_cons]
  unfold pm_u
  split
  · split
    · rfl
    · exact h3 b j
  · exact h3 b j
def se_sh (P : pm_P) (n a : Nat) : Option pm_S := bif Nat.blt a n then pm_shp P a else none
theorem se_sh_ok (P : pm_P) (h : pm_H) (a : Nat) : pm_sh P h a = se_sh P h.2.2.2 a := by
  unfold pm_sh se_sh
  cases e : Nat.blt a h.2.2.2 with
  | true => rw [if_pos (Nat.blt_eq.mp e)]; rfl
  | false => rw [if_neg (fun q => by rw [Nat.blt_eq.mpr q] at e; cases e)]; rfl
def se_ob (P : pm_P) (n a c : Nat) : Bool := match se_sh P n a with
  | some (.inl d) => Nat.beq d c
  | _ => false
theorem se_ob_ok {P : pm_P} {n a c : Nat} (h : se_ob P n a c = true) : se_sh P n a = some (.inl c) := by
  unfold se_ob at h
  split at h
  · rename_i e
    rw [e, Nat.eq_of_beq_eq_true h]
  · cases h
/-- an array of a kind: how long -/
def se_ar (P : pm_P) (n a t : Nat) : Option Nat := match se_sh P n a with
  | some (.inr q) => bif Nat.beq q.1 t then some q.2 else none
  | _ => none
theorem se_ar_ok {P : pm_P} {n a t m : Nat} (h : se_ar P n a t = some m) : se_sh P n a = some (.inr (t, m)) := by
  unfold se_ar at h
  split at h
  · rename_i q e
    obtain ⟨h1, h2⟩ := se_bif h
    obtain ⟨q1, q2⟩ := q
    have h1 := Nat.eq_of_beq_eq_true h1
    subst h2
    subst h1
    exact e
  · cases h
/-- a write that is done at once -/
def se_oI (H : se_H) (a k : Nat) (v : se_V) : Option se_H := bif se_same (se_get se_z H.1 a k) v then some H else some ((a, k, v) :: H.1, H.2)
theorem se_oI_eq (H : se_H) (a k : Nat) (v : se_V) : se_oI H a k v = some (se_wI H a k v) := by
  unfold se_oI se_wI
  cases se_same (se_get se_z H.1 a k) v <;> rfl
def se_p (t : Nat) (H : se_H) (a k : Nat) (v : se_V) : Option se_H := match v with
  | .inl (.int x) => match t with
    | 0 => se_oI H a k v
    | 3 => bif decide (x = 0) || decide (x = 1) then se_oI H a k v else none
    | _ => none
  | .inl (.long x) => bif Nat.beq t 1 then some (se_wL H a k x) else none
  | .inl (.ref x) => bif Nat.beq t 2 then some (se_wR H a k (some x)) else none
  | .inl .null => bif Nat.beq t 2 then some (se_wR H a k none) else none
  | .inr (.inl e) => bif Nat.beq t 0 then se_oI H a k (.inr (.inl e)) else none
  | _ => none
theorem se_p_ok {ρ : Nat → Int32} {H H' : se_H} {h : pm_H} (hr : se_hr ρ H h) {t a k : Nat} {v : se_V} (e : se_p t H a k v = some H') : ∃ h', pm_p t h a k (se_ev ρ v) = some h' ∧ se_hr ρ H' h' := by
  unfold se_p at e
  simp only [se_oI_eq] at e
  split at e
  · rename_i x
    split at e
    · cases e
      exact ⟨_, rfl, se_wI_ok hr rfl⟩
    · obtain ⟨h1, h2⟩ := se_bif e
      subst h2
      rw [Bool.or_eq_true, decide_eq_true_iff, decide_eq_true_iff] at h1
      exact ⟨pm_sI h a k x, by simp only [se_ev, pm_p, if_pos h1], se_wI_ok hr rfl⟩
    · cases e
  · rename_i x
    obtain ⟨h1, h2⟩ := se_bif e
    subst h2
    exact ⟨pm_sL h a k x, by simp only [se_ev, pm_p, if_pos (Nat.eq_of_beq_eq_true h1)], se_wL_ok hr a k x⟩
  · rename_i x
    obtain ⟨h1, h2⟩ := se_bif e
    subst h2
    exact ⟨pm_sR h a k (some x), by simp only [se_ev, pm_p, if_pos (Nat.eq_of_beq_eq_true h1)], se_wR_ok hr a k (some x)⟩
  · obtain ⟨h1, h2⟩ := se_bif e
    subst h2
    exact ⟨pm_sR h a k none, by simp only [se_ev, pm_p, if_pos (Nat.eq_of_beq_eq_true h1)], se_wR_ok hr a k none⟩
  · rename_i q
    obtain ⟨h1, h2⟩ := se_bif e
    subst h2
    have h1 := Nat.eq_of_beq_eq_true h1
    subst h1
    exact ⟨pm_sI h a k (se_ex ρ q), rfl, se_wI_ok hr rfl⟩
  · cases e
def se_cat : se_V → Nat
  | .inl w => w.category
  | .inr (.inr (.inl _)) => 2
  | _ => 1
theorem se_cat_ok (ρ : Nat → Int32) (v : se_V) : (se_ev ρ v).category = se_cat v := by
  rcases v with w | q | i | q <;> rfl
def se_sum : List se_V → Nat
  | [] => 0
  | v :: r => se_cat v + se_sum r
theorem se_sum_ok (ρ : Nat → Int32) (r : List se_V) : ((r.map (se_ev ρ)).map Value.category).sum = se_sum r := by
  induction r with
  | nil => rfl
  | cons v r ih => simp only [List.map_cons, List.sum_cons, ih, se_cat_ok, se_sum]
def se_eqs (l1 l2 : List (Nat × Nat × se_V)) (a b sp dp : Nat) : Nat → Bool
  | 0 => true
  | n + 1 => se_same (se_get se_z l1 a (sp + n)) (se_get se_z l2 b (dp + n)) && se_eqs l1 l2 a b sp dp n
theorem se_eqs_ok {l1 l2 : List (Nat × Nat × se_V)} {a b sp dp : Nat} : ∀ {n j : Nat}, se_eqs l1 l2 a b sp dp n = true → j < n → se_get se_z l1 a (sp + j) = se_get se_z l2 b (dp + j) := by
  intro n
  induction n with
  | zero => intro j _ h; exact absurd h (Nat.not_lt_zero _)
  | succ n ih =>
    intro j h hj
    rw [se_eqs, Bool.and_eq_true] at h
    by_cases e : j = n
    · subst e
      exact se_same_ok h.1
    · exact ih h.2 (by omega)
def se_gv (t : Nat) (H : se_H) (a k : Nat) : se_V := match t with
  | 1 => .inl (.long (se_get 0 H.2.1 a k))
  | 2 => .inl (va_rf (se_get none H.2.2.1 a k))
  | _ => se_get se_z H.1 a k
theorem se_gv_ok {ρ : Nat → Int32} {H : se_H} {h : pm_H} (hr : se_hr ρ H h) (t a k : Nat) : pm_g t h a k = se_ev ρ (se_gv t H a k) := by
  obtain ⟨h1, h2, h3, h4⟩ := hr
  match t with
  | 0 => exact (h1 a k).symm
  | 1 => show Value.long _ = Value.long _; rw [h2]
  | 2 => show va_rf _ = va_rf _; rw [h3]
  | t + 3 => exact (h1 a k).symm
def se_he (P : pm_P) (L : Nat) (i : Instr) (st : List se_V) (H : se_H) : Option (List se_V × se_H) := match i with
  | .getfield n => match st with
    | .inl (.ref a) :: r => bif se_ob P H.2.2.2 a (n / 64) then some (se_gv (pm_fty P (n / 64) (n % 64)) H a (n % 64) :: r, H) else none
    | _ => none
  | .putfield n => match st with
    | v :: .inl (.ref a) :: r => bif se_ob P H.2.2.2 a (n / 64) then (se_p (pm_fty P (n / 64) (n % 64)) H a (n % 64) v).map (fun H' => (r, H')) else none
    | _ => none
  | .arraylength => match st with
    | .inl (.ref a) :: r => match se_sh P H.2.2.2 a with
      | some (.inr q) => some (.inl (.int (Int32.ofNat q.2)) :: r, H)
      | _ => none
    | _ => none
  | .iaload => match st with
    | .inl (.int j) :: .inl (.ref a) :: r => match se_ar P H.2.2.2 a 0 with
      | some n => bif pm_in j n then some (se_get se_z H.1 a j.toNatClampNeg :: r, H) else none
      | _ => none
    | _ => none
  | .baload => match st with
    | .inl (.int j) :: .inl (.ref a) :: r => match se_ar P H.2.2.2 a 2 with
      | some n => bif pm_in j n then some (se_get se_z H.1 a j.toNatClampNeg :: r, H) else none
      | _ => match se_ar P H.2.2.2 a 3 with
        | some n => bif pm_in j n then some (se_get se_z H.1 a j.toNatClampNeg :: r, H) else none
        | _ => none
    | _ => none
  | .laload => match st with
    | .inl (.int j) :: .inl (.ref a) :: r => match se_ar P H.2.2.2 a 1 with
      | some n => bif pm_in j n then some (.inl (.long (se_get 0 H.2.1 a j.toNatClampNeg)) :: r, H) else none
      | _ => none
    | _ => none
  | .aaload => match st with
    | .inl (.int j) :: .inl (.ref a) :: r => match se_sh P H.2.2.2 a with
      | some (.inr (_ + 4, n)) => bif pm_in j n then some (.inl (va_rf (se_get none H.2.2.1 a j.toNatClampNeg)) :: r, H) else none
      | _ => none
    | _ => none
  | .iastore => match st with
    | v :: .inl (.int j) :: .inl (.ref a) :: r => match se_ar P H.2.2.2 a 0 with
      | some n => bif se_isI v && pm_in j n then (se_oI H a j.toNatClampNeg v).map (fun H' => (r, H')) else none
      | _ => none
    | _ => none
  | .bastore => match st with
    | .inl (.int x) :: .inl (.int j) :: .inl (.ref a) :: r => match se_ar P H.2.2.2 a 2 with
      | some n => bif pm_in j n then (se_oI H a j.toNatClampNeg (.inl (.int (vp_nar .byte x)))).map (fun H' => (r, H')) else none
      | _ => match se_ar P H.2.2.2 a 3 with
        | some n => bif pm_in j n then (se_oI H a j.toNatClampNeg (.inl (.int (vp_nar .boolean x)))).map (fun H' => (r, H')) else none
        | _ => none
    | .inr (.inl e) :: .inl (.int j) :: .inl (.ref a) :: r => match se_ar P H.2.2.2 a 2 with
      | some n => bif pm_in j n then (se_oI H a j.toNatClampNeg (.inr (.inl (e.1, e.2 ++ [(.bastore, .inl 0)])))).map (fun H' => (r, H')) else none
      | _ => none
    | _ => none
  | .lastore => match st with
    | .inl (.long x) :: .inl (.int j) :: .inl (.ref a) :: r => match se_ar P H.2.2.2 a 1 with
      | some n => bif pm_in j n then some (r, se_wL H a j.toNatClampNeg x) else none
      | _ => none
    | _ => none
  | .aastore => match st with
    | .inl (.ref x) :: .inl (.int j) :: .inl (.ref a) :: r => match se_sh P H.2.2.2 a with
      | some (.inr (c + 4, n)) => bif pm_in j n && se_ob P H.2.2.2 x c then some (r, se_wR H a j.toNatClampNeg (some x)) else none
      | _ => none
    | _ => none
  | .invokestatic n => bif Nat.beq n 9000 then match st with
      | .inl (.int c) :: .inl (.int dp) :: .inl (.ref b) :: .inl (.int sp) :: .inl (.ref a) :: r => match se_ar P H.2.2.2 a 0 with
        | some n0 => match se_ar P H.2.2.2 b 0 with
          | some n1 => bif !decide (sp < 0) && !decide (dp < 0) && !decide (c < 0) && Nat.ble (sp.toNatClampNeg + c.toNatClampNeg) n0 && Nat.ble (dp.toNatClampNeg + c.toNatClampNeg) n1 && Nat.ble (se_sum r) 8 && se_eqs H.1 H.1 a b sp.toNatClampNeg dp.toNatClampNeg c.toNatClampNeg then some (r, H) else none
          | _ => none
        | _ => none
      | _ => none
    else none
  | .invokespecial n => bif Nat.beq n 9003 then match st with
      | .inl (.ref _) :: r => bif Nat.ble (se_sum r) 8 then some (r, H) else none
      | _ => none
    else none
  | .invokevirtual n => bif Nat.beq n 9001 then match st with
      | .inl (.ref a) :: r => bif Nat.ble (se_sum r) 8 && Nat.ble 100000 a && Nat.blt 0 (pm_txt P (a - 100000)).length then some (.inl (.int (Int32.ofNat (pm_txt P (a - 100000)).length)) :: r, H) else none
      | _ => none
    else bif Nat.beq n 9002 then match st with
      | .inl (.int j) :: .inl (.ref a) :: r => bif Nat.ble (se_sum r) 8 && Nat.ble 100000 a && pm_in j (pm_txt P (a - 100000)).length then some (.inl (.int ((pm_txt P (a - 100000)).getD j.toNatClampNeg 0)) :: r, H) else none
      | _ => none
    else none
  | .caload => match st with
    | .inl (.ref a) :: r => bif Nat.beq a 99999 then some (.inl (.int (Int32.ofNat L)) :: r, H) else none
    | _ => none
  | .saload => match st with
    | .inl (.int j) :: .inl (.ref a) :: r => bif Nat.beq a 99999 && pm_in j L then some (.inr (.inl (j.toNatClampNeg, [])) :: r, H) else none
    | _ => none
  | _ => none
theorem se_he_no {P : pm_P} {L : Nat} {i : Instr} {st : List se_V} {H : se_H} {q : List se_V × se_H} (h : se_he P L i st H = some q) (lv s : List Value) (nx rt : Nat) (hh : pm_H) : pm_lo i lv s = none ∧ pm_ar i s = none ∧ pm_br i nx s = none ∧ pm_re rt i s = none ∧ pm_ca P i s hh = none := by
  unfold se_he at h
  split at h
  all_goals first | exact ⟨rfl, rfl, rfl, rfl, rfl⟩ | (cases h; done) | skip
  · rename_i n
    cases e : Nat.beq n 9000 with
    | false => rw [e] at h; cases h
    | true =>
      have e := Nat.eq_of_beq_eq_true e
      subst e
      exact ⟨rfl, rfl, rfl, rfl, by simp [pm_ca]⟩
  · rename_i n
    cases e : Nat.beq n 9003 with
    | false => rw [e] at h; cases h
    | true =>
      have e := Nat.eq_of_beq_eq_true e
      subst e
      exact ⟨rfl, rfl, rfl, rfl, by simp [pm_ca]⟩
  · rename_i n
    cases e : Nat.beq n 9001 with
    | true =>
      have e := Nat.eq_of_beq_eq_true e
      subst e
      exact ⟨rfl, rfl, rfl, rfl, by simp [pm_ca]⟩
    | false =>
      rw [e] at h
      cases e2 : Nat.beq n 9002 with
      | false => rw [e2] at h; cases h
      | true =>
        have e2 := Nat.eq_of_beq_eq_true e2
        subst e2
        exact ⟨rfl, rfl, rfl, rfl, by simp [pm_ca]⟩
theorem se_evl (ρ : Nat → Int32) (w : Value) : se_ev ρ (.inl w) = w := rfl
theorem se_eve (ρ : Nat → Int32) (e : Nat × List (Instr × (Int32 ⊕ Nat))) : se_ev ρ (.inr (.inl e)) = .int (se_ex ρ e) := rfl
theorem se_he_ok {P : pm_P} {L : Nat} {ρ : Nat → Int32} (hL : (pm_scr P).length = L) (hS : ∀ j, (pm_scr P).getD j 0 = ρ j) {i : Instr} {st st' : List se_V} {H H' : se_H} {h : pm_H} (e : se_he P L i st H = some (st', H')) (hr : se_hr ρ H h) :
    ∃ h', pm_he P i (st.map (se_ev ρ)) h = some (st'.map (se_ev ρ), h') ∧ se_hr ρ H' h' := by
  obtain ⟨h1, h2, h3, h4⟩ := id hr
  unfold se_he at e
  simp only [se_oI_eq, Option.map_some] at e
  split at e
  · -- getfield
    split at e
    · rename_i n _ a r
      obtain ⟨g1, g2⟩ := se_bif e
      cases g2
      refine ⟨h, ?_, hr⟩
      have g := se_ob_ok g1
      rw [← h4, ← se_sh_ok] at g
      simp only [List.map_cons, se_evl, pm_he, g, if_true]
      rw [se_gv_ok hr]
    · cases e
  · split at e
    · rename_i n _ v a r
      cases g1 : se_ob P H.2.2.2 a (n / 64) with
      | false => rw [g1] at e; cases e
      | true =>
        rw [g1] at e
        obtain ⟨H1, g2, g3⟩ := Option.map_eq_some_iff.mp (show Option.map _ _ = _ from e)
        cases g3
        have g := se_ob_ok g1
        rw [← h4, ← se_sh_ok] at g
        obtain ⟨h', g4, g5⟩ := se_p_ok hr g2
        exact ⟨h', by simp only [List.map_cons, se_evl, se_eve, pm_he, g, if_true, g4, Option.map_some], g5⟩
    · cases e
  · split at e
    · rename_i a r
      split at e
      · rename_i q g
        cases e
        rw [← h4, ← se_sh_ok] at g
        exact ⟨h, by simp only [List.map_cons, se_evl, se_eve, pm_he, g], hr⟩
      · cases e
    · cases e
  · split at e
    · rename_i j a r
      split at e
      · rename_i n g
        obtain ⟨g1, g2⟩ := se_bif e
        cases g2
        have g := se_ar_ok g
        rw [← h4, ← se_sh_ok] at g
        exact ⟨h, by simp only [List.map_cons, se_evl, se_eve, pm_he, g, g1, if_true, h1], hr⟩
      · cases e
    · cases e
  · split at e
    · rename_i j a r
      split at e
      · rename_i n g
        obtain ⟨g1, g2⟩ := se_bif e
        cases g2
        have g := se_ar_ok g
        rw [← h4, ← se_sh_ok] at g
        exact ⟨h, by simp only [List.map_cons, se_evl, se_eve, pm_he, g, g1, if_true, h1], hr⟩
      · split at e
        · rename_i n g
          obtain ⟨g1, g2⟩ := se_bif e
          cases g2
          have g := se_ar_ok g
          rw [← h4, ← se_sh_ok] at g
          exact ⟨h, by simp only [List.map_cons, se_evl, se_eve, pm_he, g, g1, if_true, h1], hr⟩
        · cases e
    · cases e
  · split at e
    · rename_i j a r
      split at e
      · rename_i n g
        obtain ⟨g1, g2⟩ := se_bif e
        cases g2
        have g := se_ar_ok g
        rw [← h4, ← se_sh_ok] at g
        exact ⟨h, by simp only [List.map_cons, se_evl, se_eve, pm_he, g, g1, if_true, h2], hr⟩
      · cases e
    · cases e
  · split at e
    · rename_i j a r
      split at e
      · rename_i t n g
        obtain ⟨g1, g2⟩ := se_bif e
        cases g2
        rw [← h4, ← se_sh_ok] at g
        exact ⟨h, by simp only [List.map_cons, se_evl, se_eve, pm_he, g, g1, if_true, h3], hr⟩
      · cases e
    · cases e
  · split at e
    · rename_i v j a r
      split at e
      · rename_i n g
        obtain ⟨g1, g2⟩ := se_bif e
        cases g2
        rw [Bool.and_eq_true] at g1
        have g := se_ar_ok g
        rw [← h4, ← se_sh_ok] at g
        obtain ⟨x, hx⟩ := se_isI_ev (ρ := ρ) g1.1
        exact ⟨pm_sI h a j.toNatClampNeg x, by simp only [List.map_cons, hx, se_evl, se_eve, pm_he, g, g1.2, if_true], se_wI_ok hr hx⟩
      · cases e
    · cases e
  · split at e
    · rename_i x j a r
      split at e
      · rename_i n g
        obtain ⟨g1, g2⟩ := se_bif e
        cases g2
        have g := se_ar_ok g
        rw [← h4, ← se_sh_ok] at g
        exact ⟨pm_sI h a j.toNatClampNeg (vp_nar .byte x), by simp only [List.map_cons, se_evl, se_eve, pm_he, g, g1, if_true], se_wI_ok hr rfl⟩
      · split at e
        · rename_i n g
          obtain ⟨g1, g2⟩ := se_bif e
          cases g2
          have g := se_ar_ok g
          rw [← h4, ← se_sh_ok] at g
          exact ⟨pm_sI h a j.toNatClampNeg (vp_nar .boolean x), by simp only [List.map_cons, se_evl, se_eve, pm_he, g, g1, if_true], se_wI_ok hr rfl⟩
        · cases e
    · rename_i q j a r
      split at e
      · rename_i n g
        obtain ⟨g1, g2⟩ := se_bif e
        cases g2
        have g := se_ar_ok g
        rw [← h4, ← se_sh_ok] at g
        exact ⟨pm_sI h a j.toNatClampNeg (vp_nar .byte (se_ex ρ q)), by simp only [List.map_cons, se_evl, se_eve, pm_he, g, g1, if_true], se_wI_ok hr (by simp only [se_ev, se_ex, List.foldl_append, List.foldl_cons, List.foldl_nil, se_op])⟩
      · cases e
    · cases e
  · split at e
    · rename_i x j a r
      split at e
      · rename_i n g
        obtain ⟨g1, g2⟩ := se_bif e
        cases g2
        have g := se_ar_ok g
        rw [← h4, ← se_sh_ok] at g
        exact ⟨pm_sL h a j.toNatClampNeg x, by simp only [List.map_cons, se_evl, se_eve, pm_he, g, g1, if_true], se_wL_ok hr _ _ _⟩
      · cases e
    · cases e
  · split at e
    · rename_i x j a r
      split at e
      · rename_i c n g
        obtain ⟨g1, g2⟩ := se_bif e
        cases g2
        rw [Bool.and_eq_true] at g1
        have g3 := se_ob_ok g1.2
        rw [← h4, ← se_sh_ok] at g g3
        exact ⟨pm_sR h a j.toNatClampNeg (some x), by simp only [List.map_cons, se_evl, se_eve, pm_he, g, g3, g1.1, and_self, if_true], se_wR_ok hr _ _ _⟩
      · cases e
    · cases e
  · rename_i n
    cases en : Nat.beq n 9000 with
    | false => rw [en] at e; cases e
    | true =>
      rw [en] at e
      have en := Nat.eq_of_beq_eq_true en
      subst en
      simp only [cond_true] at e
      split at e
      · rename_i c dp b sp a r
        split at e
        · rename_i n0 g
          split at e
          · rename_i n1 g'
            obtain ⟨g1, g2⟩ := se_bif e
            cases g2
            simp only [Bool.and_eq_true, Bool.not_eq_true', decide_eq_false_iff_not, Nat.ble_eq] at g1
            obtain ⟨⟨⟨⟨⟨⟨c1, c2⟩, c3⟩, c4⟩, c5⟩, c6⟩, c7⟩ := g1
            have g := se_ar_ok g
            have g' := se_ar_ok g'
            rw [← h4, ← se_sh_ok] at g g'
            refine ⟨pm_sA h b (va_cpy (h.1 a) (h.1 b) sp.toNatClampNeg dp.toNatClampNeg c.toNatClampNeg), ?_, ?_, h2, h3, h4⟩
            · simp only [List.map_cons, se_evl, se_eve, pm_he, g, g', if_true]
              rw [if_pos ⟨c1, c2, c3, c4, c5, by rw [se_sum_ok]; exact c6⟩]
            · intro a' k
              rw [h1]
              show _ = Value.int (pm_r h.1 b _ a' k)
              unfold pm_r
              split
              · rename_i ea
                subst ea
                by_cases hk : dp.toNatClampNeg ≤ k ∧ k < dp.toNatClampNeg + c.toNatClampNeg
                · rw [pk_cpy_in hk.1 hk.2]
                  have q := se_eqs_ok c7 (j := k - dp.toNatClampNeg) (by omega)
                  have q1 := h1 a (sp.toNatClampNeg + (k - dp.toNatClampNeg))
                  rw [q, h1, show dp.toNatClampNeg + (k - dp.toNatClampNeg) = k by omega] at q1
                  exact q1
                · rw [pk_cpy_out (by omega)]
              · rfl
          · cases e
        · cases e
      · cases e
  · rename_i n
    cases en : Nat.beq n 9003 with
    | false => rw [en] at e; cases e
    | true =>
      rw [en] at e
      have en := Nat.eq_of_beq_eq_true en
      subst en
      simp only [cond_true] at e
      split at e
      · rename_i a r
        obtain ⟨g1, g2⟩ := se_bif e
        cases g2
        refine ⟨h, ?_, hr⟩
        simp only [List.map_cons, se_evl, se_eve, pm_he, if_true]
        rw [if_pos (by rw [se_sum_ok]; exact Nat.ble_eq.mp g1)]
      · cases e
  · rename_i n
    cases en : Nat.beq n 9001 with
    | true =>
      rw [en] at e
      have en := Nat.eq_of_beq_eq_true en
      subst en
      simp only [cond_true] at e
      split at e
      · rename_i a r
        obtain ⟨g1, g2⟩ := se_bif e
        cases g2
        simp only [Bool.and_eq_true, Nat.ble_eq, Nat.blt_eq] at g1
        refine ⟨h, ?_, hr⟩
        simp only [List.map_cons, se_evl, se_eve, pm_he, if_true]
        rw [if_pos ⟨by rw [se_sum_ok]; exact g1.1.1, g1.1.2, g1.2⟩]
      · cases e
    | false =>
      rw [en] at e
      simp only [cond_false] at e
      cases en2 : Nat.beq n 9002 with
      | false => rw [en2] at e; cases e
      | true =>
        rw [en2] at e
        have en2 := Nat.eq_of_beq_eq_true en2
        subst en2
        simp only [cond_true] at e
        split at e
        · rename_i j a r
          obtain ⟨g1, g2⟩ := se_bif e
          cases g2
          simp only [Bool.and_eq_true, Nat.ble_eq] at g1
          refine ⟨h, ?_, hr⟩
          simp only [List.map_cons, se_evl, se_eve, pm_he, if_true]
          rw [if_neg (by decide), if_pos ⟨by rw [se_sum_ok]; exact g1.1.1, g1.1.2, g1.2⟩]
        · cases e
  · split at e
    · rename_i a r
      obtain ⟨g1, g2⟩ := se_bif e
      cases g2
      exact ⟨h, by simp only [List.map_cons, se_evl, se_eve, pm_he, Nat.eq_of_beq_eq_true g1, if_true, hL], hr⟩
    · cases e
  · split at e
    · rename_i j a r
      obtain ⟨g1, g2⟩ := se_bif e
      cases g2
      rw [Bool.and_eq_true] at g1
      refine ⟨h, ?_, hr⟩
      simp only [List.map_cons, se_evl, se_eve, pm_he, Nat.eq_of_beq_eq_true g1.1, hL, g1.2, and_self, if_true, hS]
      rfl
    · cases e
  · cases e
