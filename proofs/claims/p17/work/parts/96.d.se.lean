/-! A RUN OVER UNKNOWN INTS, fourth: cells, calls, the run -/
def se_al (P : pm_P) (m : Nat) (i : Instr) (st : List se_V) (H : se_H) (cs : Nat × Nat) : Option (List se_V × se_H × Nat × Nat) :=
  match pm_al P m i (se_cn st).1 (fun _ _ => 0, fun _ _ => 0, fun _ _ => none, H.2.2.2) cs with
  | some q => some (q.1.map Sum.inl ++ (se_cn st).2, (H.1, H.2.1, H.2.2.1, q.2.1.2.2.2), q.2.2)
  | none => none
theorem pm_al_app {P : pm_P} {m n : Nat} {i : Instr} {s : List Value} {cs : Nat × Nat} {q : List Value × pm_H × Nat × Nat} (e : pm_al P m i s (fun _ _ => 0, fun _ _ => 0, fun _ _ => none, n) cs = some q) (r : List Value) (h : pm_H) (hn : h.2.2.2 = n) :
    pm_al P m i (s ++ r) h cs = some (q.1 ++ r, (h.1, h.2.1, h.2.2.1, q.2.1.2.2.2), q.2.2) := by
  subst hn
  unfold pm_al at e
  split at e
  · split at e
    · rename_i g
      cases e
      simp only [pm_al, if_pos g, List.cons_append]
    · cases e
  · split at e
    · split at e
      · rename_i g
        cases e
        simp only [pm_al, List.cons_append, if_pos g]
      · cases e
    · cases e
  · split at e
    · split at e
      · rename_i g
        cases e
        simp only [pm_al, List.cons_append, if_pos g]
      · cases e
    · cases e
  · cases e
theorem se_al_ok {P : pm_P} {m : Nat} {ρ : Nat → Int32} {i : Instr} {st : List se_V} {H : se_H} {cs : Nat × Nat} {q : List se_V × se_H × Nat × Nat} {h : pm_H} (e : se_al P m i st H cs = some q) (hr : se_hr ρ H h) (lv : List Value) (nx rt : Nat) :
    (∃ h', pm_al P m i (st.map (se_ev ρ)) h cs = some (q.1.map (se_ev ρ), h', q.2.2) ∧ se_hr ρ q.2.1 h') ∧ pm_lo i lv (st.map (se_ev ρ)) = none ∧ pm_ar i (st.map (se_ev ρ)) = none ∧ pm_br i nx (st.map (se_ev ρ)) = none ∧ pm_he P i (st.map (se_ev ρ)) h = none ∧ pm_re rt i (st.map (se_ev ρ)) = none ∧ pm_ca P i (st.map (se_ev ρ)) h = none := by
  unfold se_al at e
  split at e
  · rename_i p hp
    cases e
    refine ⟨⟨(h.1, h.2.1, h.2.2.1, p.2.1.2.2.2), ?_, hr.1, hr.2.1, hr.2.2.1, rfl⟩, ?_⟩
    · rw [se_cn_ev ρ st, se_inl_ev]
      exact pm_al_app hp _ h hr.2.2.2
    · unfold pm_al at hp
      split at hp
      all_goals first | exact ⟨rfl, rfl, rfl, rfl, rfl, rfl⟩ | cases hp
  · cases e
def se_sl : List se_V → List se_V
  | [] => []
  | v :: r => bif Nat.beq (se_cat v) 2 then v :: .inl (.retAddr 0) :: se_sl r else v :: se_sl r
theorem se_sl_ok (ρ : Nat → Int32) (l : List se_V) : (se_sl l).map (se_ev ρ) = pm_sl (l.map (se_ev ρ)) := by
  induction l with
  | nil => rfl
  | cons v r ih =>
    unfold pm_sl at ih ⊢
    rw [List.map_cons, List.flatMap_cons, ← ih, se_cat_ok, se_sl]
    cases e : Nat.beq (se_cat v) 2 with
    | true => rw [if_pos (Nat.eq_of_beq_eq_true e)]; rfl
    | false => rw [if_neg (fun q => by rw [q] at e; cases e)]; rfl
def se_en (vs : List se_V) (n : Nat) : List se_V := se_sl vs ++ List.replicate (n - (se_sl vs).length) (.inl (.retAddr 0))
theorem se_en_ok (ρ : Nat → Int32) (l : List se_V) (n : Nat) : (se_en l n).map (se_ev ρ) = pm_en (l.map (se_ev ρ)) n := by
  unfold se_en pm_en
  rw [List.map_append, se_sl_ok, List.map_replicate, ← se_sl_ok, List.length_map]
  rfl
def se_ca (P : pm_P) (i : Instr) (st : List se_V) (H : se_H) : Option (Nat × List se_V × List se_V) := match i with
  | .invokestatic k => bif Nat.blt k 9000 && Nat.ble (pm_nar P k) st.length && Nat.ble (se_sum (st.drop (pm_nar P k))) 8 && Nat.ble (se_sl (st.take (pm_nar P k)).reverse).length (pm_mxl P k) then some (k, (st.take (pm_nar P k)).reverse, st.drop (pm_nar P k)) else none
  | .invokespecial k => bif Nat.blt k 9000 && Nat.ble (se_sum (st.drop (pm_nar P k))) 8 then match (st.take (pm_nar P k)).reverse with
      | .inl (.ref a) :: as => bif Nat.beq (as.length + 1) (pm_nar P k) && Nat.ble (se_sl (.inl (.ref a) :: as)).length (pm_mxl P k) then some (k, .inl (.ref a) :: as, st.drop (pm_nar P k)) else none
      | _ => none
    else none
  | .invokevirtual k => bif Nat.blt k 9000 && Nat.ble (se_sum (st.drop (pm_nar P k))) 8 then match (st.take (pm_nar P k)).reverse with
      | .inl (.ref a) :: as => bif Nat.beq (as.length + 1) (pm_nar P k) && se_ob P H.2.2.2 a (pm_rcv P k) && Nat.ble (se_sl (.inl (.ref a) :: as)).length (pm_mxl P k) then some (k, .inl (.ref a) :: as, st.drop (pm_nar P k)) else none
      | _ => none
    else none
  | _ => none
theorem se_sl_len (ρ : Nat → Int32) (l : List se_V) : (pm_sl (l.map (se_ev ρ))).length = (se_sl l).length := by
  rw [← se_sl_ok, List.length_map]
theorem se_ca_ok {P : pm_P} {ρ : Nat → Int32} {i : Instr} {st : List se_V} {H : se_H} {k : Nat} {as r : List se_V} {h : pm_H} (e : se_ca P i st H = some (k, as, r)) (hr : se_hr ρ H h) (rt : Nat) :
    pm_ca P i (st.map (se_ev ρ)) h = some (k, as.map (se_ev ρ), r.map (se_ev ρ)) ∧ pm_re rt i (st.map (se_ev ρ)) = none := by
  obtain ⟨-, -, -, h4⟩ := hr
  unfold se_ca at e
  split at e
  · rename_i k'
    obtain ⟨g1, g2⟩ := se_bif e
    cases g2
    simp only [Bool.and_eq_true, Nat.ble_eq, Nat.blt_eq] at g1
    refine ⟨?_, rfl⟩
    simp only [pm_ca]
    rw [← List.map_take, ← List.map_drop, ← List.map_reverse, se_sl_len, se_sum_ok, List.length_map, if_pos ⟨g1.1.1.1, g1.1.1.2, g1.1.2, g1.2⟩]
  · rename_i k'
    cases g1 : Nat.blt k' 9000 && Nat.ble (se_sum (st.drop (pm_nar P k'))) 8 with
    | false => rw [g1] at e; cases e
    | true =>
      rw [g1] at e
      simp only [Bool.and_eq_true, Nat.ble_eq, Nat.blt_eq] at g1
      simp only [cond_true] at e
      split at e
      · rename_i a as' ea
        obtain ⟨g3, g2⟩ := se_bif e
        cases g2
        simp only [Bool.and_eq_true, Nat.ble_eq] at g3
        refine ⟨?_, rfl⟩
        simp only [pm_ca]
        rw [← List.map_take, ← List.map_drop, ← List.map_reverse, se_sum_ok, if_pos g1, ea]
        have gl : (pm_sl (Value.ref a :: as'.map (se_ev ρ))).length ≤ pm_mxl P k := Nat.le_trans (Nat.le_of_eq (se_sl_len ρ ((.inl (.ref a) : se_V) :: as'))) g3.2
        show (if _ then _ else _) = _
        rw [if_pos ⟨by rw [List.length_map]; exact Nat.eq_of_beq_eq_true g3.1, gl⟩]
        rfl
      · cases e
  · rename_i k'
    cases g1 : Nat.blt k' 9000 && Nat.ble (se_sum (st.drop (pm_nar P k'))) 8 with
    | false => rw [g1] at e; cases e
    | true =>
      rw [g1] at e
      simp only [Bool.and_eq_true, Nat.ble_eq, Nat.blt_eq] at g1
      simp only [cond_true] at e
      split at e
      · rename_i a as' ea
        obtain ⟨g3, g2⟩ := se_bif e
        cases g2
        simp only [Bool.and_eq_true, Nat.ble_eq] at g3
        have g4 := se_ob_ok g3.1.2
        rw [← h4, ← se_sh_ok] at g4
        refine ⟨?_, rfl⟩
        simp only [pm_ca]
        rw [← List.map_take, ← List.map_drop, ← List.map_reverse, se_sum_ok, if_pos g1, ea]
        have gl : (pm_sl (Value.ref a :: as'.map (se_ev ρ))).length ≤ pm_mxl P k := Nat.le_trans (Nat.le_of_eq (se_sl_len ρ ((.inl (.ref a) : se_V) :: as'))) g3.2
        show (if _ then _ else _) = _
        rw [if_pos ⟨by rw [List.length_map]; exact Nat.eq_of_beq_eq_true g3.1.1, g4, gl⟩]
        rfl
      · cases e
  · cases e
def se_re (rt : Nat) (i : Instr) (st : List se_V) : Option (List se_V) := match i with
  | .return_ => match st with
    | [] => bif Nat.beq rt 0 then some [] else none
    | _ => none
  | .ireturn => match st with
    | [.inl (.int x)] => bif Nat.beq rt 1 || (Nat.beq rt 4 && (decide (x = 0) || decide (x = 1))) then some [.inl (.int x)] else none
    | [.inr (.inl e)] => bif Nat.beq rt 1 then some [.inr (.inl e)] else none
    | _ => none
  | .lreturn => match st with
    | [.inl (.long x)] => bif Nat.beq rt 2 then some [.inl (.long x)] else none
    | _ => none
  | .areturn => match st with
    | [.inl (.ref x)] => bif Nat.beq rt 3 then some [.inl (.ref x)] else none
    | [.inl .null] => bif Nat.beq rt 3 then some [.inl .null] else none
    | _ => none
  | _ => none
theorem se_re_ok {ρ : Nat → Int32} {rt : Nat} {i : Instr} {st v : List se_V} (e : se_re rt i st = some v) : pm_re rt i (st.map (se_ev ρ)) = some (v.map (se_ev ρ)) := by
  unfold se_re at e
  split at e
  · split at e
    · obtain ⟨g1, g2⟩ := se_bif e
      subst g2
      simp only [List.map_nil, pm_re, Nat.eq_of_beq_eq_true g1, if_true]
    · cases e
  · split at e
    · rename_i x
      obtain ⟨g1, g2⟩ := se_bif e
      subst g2
      simp only [Bool.or_eq_true, Bool.and_eq_true, decide_eq_true_iff] at g1
      have g3 : rt = 1 ∨ (rt = 4 ∧ (x = 0 ∨ x = 1)) := g1.imp Nat.eq_of_beq_eq_true (fun q => ⟨Nat.eq_of_beq_eq_true q.1, q.2⟩)
      simp only [List.map_cons, List.map_nil, se_ev, pm_re, if_pos g3]
    · rename_i q
      obtain ⟨g1, g2⟩ := se_bif e
      subst g2
      simp only [List.map_cons, List.map_nil, se_ev, pm_re, if_pos (Or.inl (Nat.eq_of_beq_eq_true g1) : rt = 1 ∨ _)]
    · cases e
  · split at e
    · obtain ⟨g1, g2⟩ := se_bif e
      subst g2
      simp only [List.map_cons, List.map_nil, se_ev, pm_re, Nat.eq_of_beq_eq_true g1, if_true]
    · cases e
  · split at e
    · obtain ⟨g1, g2⟩ := se_bif e
      subst g2
      simp only [List.map_cons, List.map_nil, se_ev, pm_re, Nat.eq_of_beq_eq_true g1, if_true]
    · obtain ⟨g1, g2⟩ := se_bif e
      subst g2
      simp only [List.map_cons, List.map_nil, se_ev, pm_re, Nat.eq_of_beq_eq_true g1, if_true]
    · cases e
  · cases e
/-- a state behind a step: bounds, where, locals, stack, heap, cells made -/
abbrev se_T : Type := se_E × Nat × List se_V × List se_V × se_H × Nat × Nat
def se_s (P : pm_P) (L : Nat) (σ : se_E) (m : Nat) (i : Instr) (nx : Nat) (lv st : List se_V) (H : se_H) (cs : Nat × Nat) : Option (List se_T) :=
  match se_lo σ i lv st with
  | some (lv', st') => some [(σ, nx, lv', st', H, cs)]
  | none => match pm_ar i (se_cn st).1 with
    | some s => some [(σ, nx, lv, s.map Sum.inl ++ (se_cn st).2, H, cs)]
    | none => match pm_br i nx (se_cn st).1 with
      | some (pc', s) => some [(σ, pc', lv, s.map Sum.inl ++ (se_cn st).2, H, cs)]
      | none => match se_sy σ i nx st with
        | some l => some (l.map fun q => (q.1, q.2.1, lv, q.2.2, H, cs))
        | none => match se_he P L i st H with
          | some (st', H') => some [(σ, nx, lv, st', H', cs)]
          | none => match se_al P m i st H cs with
            | some (st', H', cs') => some [(σ, nx, lv, st', H', cs')]
            | none => none
theorem se_s_ok {P : pm_P} {L : Nat} {ρ : Nat → Int32} (hL : (pm_scr P).length = L) (hS : ∀ j, (pm_scr P).getD j 0 = ρ j) {σ : se_E} (hρ : se_in ρ σ) {m : Nat} {i : Instr} {nx : Nat} {lv st : List se_V} {H : se_H} {cs : Nat × Nat} {l : List se_T} {h : pm_H} (hr : se_hr ρ H h) (e : se_s P L σ m i nx lv st H cs = some l) (rt : Nat) :
    ∃ q ∈ l, se_in ρ q.1 ∧ ∃ h', pm_s P m i nx (lv.map (se_ev ρ)) (st.map (se_ev ρ)) h cs = some (q.2.1, q.2.2.1.map (se_ev ρ), q.2.2.2.1.map (se_ev ρ), h', q.2.2.2.2.2) ∧ se_hr ρ q.2.2.2.2.1 h' ∧ pm_re rt i (st.map (se_ev ρ)) = none ∧ pm_ca P i (st.map (se_ev ρ)) h = none := by
  unfold se_s at e
  split at e
  · rename_i lv' st' hq
    cases e
    obtain ⟨g1, g2, g3⟩ := se_lo_ok hρ hq rt P h
    exact ⟨_, List.mem_singleton.mpr rfl, hρ, h, by simp only [pm_s, g1], hr, g2, g3⟩
  · split at e
    · rename_i s hs
      cases e
      obtain ⟨g1, g2, g3⟩ := pm_ar_no hs (lv.map (se_ev ρ)) (st.map (se_ev ρ)) rt P h
      have g4 : pm_ar i (st.map (se_ev ρ)) = some ((s.map Sum.inl ++ (se_cn st).2).map (se_ev ρ)) := by
        rw [se_cn_ev ρ st, se_inl_ev]
        exact pm_ar_app hs _
      exact ⟨_, List.mem_singleton.mpr rfl, hρ, h, by simp only [pm_s, g1, g4], hr, g2, g3⟩
    · split at e
      · rename_i pc' s hq
        cases e
        obtain ⟨g1, g2, g3, g4⟩ := pm_br_no hq (lv.map (se_ev ρ)) (st.map (se_ev ρ)) rt P h
        have g5 : pm_br i nx (st.map (se_ev ρ)) = some (pc', (s.map Sum.inl ++ (se_cn st).2).map (se_ev ρ)) := by
          rw [se_cn_ev ρ st, se_inl_ev]
          exact pm_br_app hq _
        exact ⟨_, List.mem_singleton.mpr rfl, hρ, h, by simp only [pm_s, g1, g2, g5], hr, g3, g4⟩
      · split at e
        · rename_i l' hl
          cases e
          obtain ⟨q, g0, g1, g2, g3, g4, g5⟩ := se_sy_ok hρ hl (lv.map (se_ev ρ)) rt P h
          refine ⟨_, List.mem_map.mpr ⟨q, g0, rfl⟩, g1, h, ?_, hr, g3, g4⟩
          rcases g5 with ⟨g6, g7⟩ | ⟨g6, g7⟩
          · simp only [pm_s, g2, g7, g6]
          · simp only [pm_s, g2, g6, g7]
        · split at e
          · rename_i st' H' hq
            cases e
            obtain ⟨g1, g2, g3, g4, g5⟩ := se_he_no hq (lv.map (se_ev ρ)) (st.map (se_ev ρ)) nx rt h
            obtain ⟨h', g6, g7⟩ := se_he_ok hL hS hq hr
            exact ⟨_, List.mem_singleton.mpr rfl, hρ, h', by simp only [pm_s, g1, g2, g3, g6], g7, g4, g5⟩
          · split at e
            · rename_i st' H' cs' hq
              cases e
              obtain ⟨⟨h', g0, g00⟩, g1, g2, g3, g4, g5, g6⟩ := se_al_ok hq hr (lv.map (se_ev ρ)) nx rt
              exact ⟨_, List.mem_singleton.mpr rfl, hρ, h', by simp only [pm_s, g1, g2, g3, g4, g0], g00, g5, g6⟩
            · cases e
/-- who waits: method, where, locals, stack, cells, the method called, how many cells there were -/
abbrev se_F : Type := Nat × Nat × List se_V × List se_V × (Nat × Nat) × Nat × Nat
/-- every way comes to an end: where stp says so, fin is asked -/
def se_run (P : pm_P) (L : Nat) (stp : Nat → Nat → List se_V → Bool) (fin : se_E → Nat → Nat → List se_V → List se_V → se_H → Nat × Nat → List se_F → Bool) : Nat → se_E → Nat → Nat → List se_V → List se_V → se_H → Nat × Nat → List se_F → Bool
  | 0, _, _, _, _, _, _, _, _ => false
  | f + 1, σ, m, pc, lv, st, H, cs, fs => bif stp m pc lv then fin σ m pc lv st H cs fs else match pm_cod P m pc with
    | none => false
    | some (.inl v, nx) => se_run P L stp fin f σ m nx lv (.inl v :: st) H cs fs
    | some (.inr i, nx) => match se_re (pm_ret P m) i st with
      | some v => match fs with
        | [] => false
        | (m', nx', lv', r, cs', k, n0) :: fs' => bif Nat.beq (pm_mc P k) 0 || Nat.beq H.2.2.2 (n0 + pm_mc P k) then se_run P L stp fin f σ m' nx' lv' (v ++ r) H (cs'.1 + pm_mc P k, cs'.2 + pm_ms P k) fs' else false
      | none => match se_ca P i st H with
        | some (k, as, r) => bif Nat.ble (cs.1 + pm_mc P k) (pm_mc P m) && Nat.ble (cs.2 + pm_ms P k) (pm_ms P m) then se_run P L stp fin f σ k 0 (se_en as (pm_mxl P k)) [] H (0, 0) ((m, nx, lv, r, cs, k, H.2.2.2) :: fs) else false
        | none => match se_s P L σ m i nx lv st H cs with
          | some [(σ', pc', lv', st', H', cs')] => se_run P L stp fin f σ' m pc' lv' st' H' cs' fs
          | some l => l.all fun q => se_run P L stp fin f q.1 m q.2.1 q.2.2.1 q.2.2.2.1 q.2.2.2.2.1 q.2.2.2.2.2 fs
          | none => false
def se_K (P : pm_P) (ρ : Nat → Int32) (Q : List Value → pm_H → Prop) : List se_F → List Value → pm_H → Prop
  | [], v, h => Q v h
  | (m, nx, lv, r, cs, k, n0) :: fs, v, h => (pm_mc P k = 0 ∨ h.2.2.2 = n0 + pm_mc P k) ∧ pm_W P m nx (lv.map (se_ev ρ)) (v ++ r.map (se_ev ρ)) h (cs.1 + pm_mc P k, cs.2 + pm_ms P k) (se_K P ρ Q fs)
theorem se_run_ok {P : pm_P} {L : Nat} {ρ : Nat → Int32} (hL : (pm_scr P).length = L) (hS : ∀ j, (pm_scr P).getD j 0 = ρ j) {stp : Nat → Nat → List se_V → Bool} {fin : se_E → Nat → Nat → List se_V → List se_V → se_H → Nat × Nat → List se_F → Bool} {Q : List Value → pm_H → Prop}
    (hfin : ∀ σ m pc lv st H cs fs h, fin σ m pc lv st H cs fs = true → se_in ρ σ → se_hr ρ H h → pm_W P m pc (lv.map (se_ev ρ)) (st.map (se_ev ρ)) h cs (se_K P ρ Q fs)) :
    ∀ (f : Nat) (σ : se_E) (m pc : Nat) (lv st : List se_V) (H : se_H) (cs : Nat × Nat) (fs : List se_F) (h : pm_H), se_in ρ σ → se_hr ρ H h → se_run P L stp fin f σ m pc lv st H cs fs = true →
      pm_W P m pc (lv.map (se_ev ρ)) (st.map (se_ev ρ)) h cs (se_K P ρ Q fs) := by
  intro f
  induction f with
  | zero => intro σ m pc lv st H cs fs h _ _ e; cases e
  | succ f ih =>
    intro σ m pc lv st H cs fs h hρ hr e
    rw [se_run] at e
    cases es : stp m pc lv with
    | true =>
      rw [es] at e
      exact hfin σ m pc lv st H cs fs h e hρ hr
    | false =>
      rw [es] at e
      simp only [cond_false] at e
      split at e
      · cases e
      · rename_i v nx hc
        exact pw_c hc (ih σ m nx lv (.inl v :: st) H cs fs h hρ hr e)
      · rename_i i nx hc
        split at e
        · rename_i v hv
          split at e
          · cases e
          · rename_i m' nx' lv' r cs' k n0 fs'
            refine pw_r hc (se_re_ok hv) ?_
            cases eb : Nat.beq (pm_mc P k) 0 || Nat.beq H.2.2.2 (n0 + pm_mc P k) with
            | false => rw [eb] at e; cases e
            | true =>
              rw [eb] at e
              simp only [cond_true] at e
              rw [Bool.or_eq_true] at eb
              refine ⟨eb.imp Nat.eq_of_beq_eq_true (fun q => ?_), ?_⟩
              · rw [hr.2.2.2]; exact Nat.eq_of_beq_eq_true q
              · have g := ih σ m' nx' lv' (v ++ r) H (cs'.1 + pm_mc P k, cs'.2 + pm_ms P k) fs' h hρ hr e
                rw [List.map_append] at g
                exact g
        · split at e
          · rename_i k as r hk
            cases eb : Nat.ble (cs.1 + pm_mc P k) (pm_mc P m) && Nat.ble (cs.2 + pm_ms P k) (pm_ms P m) with
            | false => rw [eb] at e; cases e
            | true =>
              rw [eb] at e
              simp only [cond_true] at e
              rw [Bool.and_eq_true, Nat.ble_eq, Nat.ble_eq] at eb
              obtain ⟨g1, g2⟩ := se_ca_ok hk hr (pm_ret P m)
              refine pw_ka hc g2 g1 eb ?_
              have g := ih σ k 0 (se_en as (pm_mxl P k)) [] H (0, 0) ((m, nx, lv, r, cs, k, H.2.2.2) :: fs) h hρ hr e
              rw [se_en_ok] at g
              refine pw_imp (fun v h' q => ?_) g
              rw [hr.2.2.2]
              exact q
          · split at e
            · rename_i σ' pc' lv' st' H' cs' hl
              obtain ⟨q, g1, g2, h', g3, g4, g5, g6⟩ := se_s_ok hL hS hρ hr hl (pm_ret P m)
              have g7 := List.mem_singleton.mp g1
              subst g7
              exact pw_s hc g5 g6 g3 (ih σ' m pc' lv' st' H' cs' fs h' g2 g4 e)
            · rename_i l _ hl
              obtain ⟨q, g1, g2, h', g3, g4, g5, g6⟩ := se_s_ok hL hS hρ hr hl (pm_ret P m)
              exact pw_s hc g5 g6 g3 (ih q.1 m q.2.1 q.2.2.1 q.2.2.2.1 q.2.2.2.2.1 q.2.2.2.2.2 fs h' g2 g4 (List.all_eq_true.mp e q g1))
            · cases e
theorem se_run_0 (P : pm_P) (L : Nat) (stp : Nat → Nat → List se_V → Bool) (fin : se_E → Nat → Nat → List se_V → List se_V → se_H → Nat × Nat → List se_F → Bool) : ∀ (f : Nat) (σ : se_E) (m pc : Nat) (lv st : List se_V) (H : se_H) (cs : Nat × Nat) (fs : List se_F), se_run (pm_0 P) L stp fin f σ m pc lv st H cs fs = se_run P L stp fin f σ m pc lv st H cs fs := by
  intro f
  induction f with
  | zero => intros; rfl
  | succ f ih =>
    intro σ m pc lv st H cs fs
    simp only [se_run, ih]
    rfl
