/-! A RUN OVER AN UNKNOWN HEAP, fourteenth: the run is right -/
section XS
variable {P : pm_P} {T : sx_T} {tg : Nat → Nat} {PH : pm_H → Prop} {VP : pm_H → Nat → Int → Prop}
theorem sx_run_ok (hC : sx_C P T tg PH VP) {tb : Nat → List sx_K} (hT : ∀ k c, c ∈ tb k → sx_con P T tg PH VP c) {W : sx_W} {D : Bool × Bool} {cut : Nat → Nat → Option sx_U} {arr : sx_E → List sx_V → List sx_V → sx_U → Bool} {fin : sx_E → List sx_V → Bool} {Q : List Value → pm_H → Prop} {h0 : pm_H} {ρ0 : List Int}
    (hfin : ∀ e h E v vc, sx_ok tg VP (ρ0 ++ e) h E → sx_IV T tg PH h → sx_fr tg VP W D h0 h → sx_R tg (ρ0 ++ e) v vc → fin E v = true → Q vc h)
    (hcut : ∀ e h E m pc lv lc st sc q, cut m pc = some q → sx_ok tg VP (ρ0 ++ e) h E → sx_IV T tg PH h → sx_fr tg VP W D h0 h → sx_RL tg (ρ0 ++ e) lv lc → sx_R tg (ρ0 ++ e) st sc → arr E lv st q = true → pm_W P m pc lc sc h (0, 0) Q) :
    ∀ (f : Nat) (go : Bool) (E : sx_E) (m pc : Nat) (lv st : List sx_V) (fs : List sx_Fr) (e : List Int) (h : pm_H) (lc sc : List Value) (gs : List (Nat × Nat × List Value × List Value)), sx_ok tg VP (ρ0 ++ e) h E → sx_IV T tg PH h → sx_fr tg VP W D h0 h → sx_RL tg (ρ0 ++ e) lv lc → sx_R tg (ρ0 ++ e) st sc → sx_RF tg (ρ0 ++ e) fs gs → sx_run P T tb W D cut arr fin f go E m pc lv st fs = true → pm_W P m pc lc sc h (0, 0) (pm_K P Q gs) := by
  intro f
  induction f with
  | zero => intro go E m pc lv st fs e h lc sc gs _ _ _ _ _ _ k; cases k
  | succ f ih =>
    intro go E m pc lv st fs e h lc sc gs ok iv fr rl rs rf k
    rw [sx_run.eq_def] at k
    dsimp only at k
    split at k
    · rename_i q hq
      cases fs with
      | cons a b => cases hq
      | nil =>
        cases go with
        | true => cases hq
        | false =>
          cases gs with
          | cons a b => exact rf.elim
          | nil => exact hcut e h E m pc lv lc st sc q hq ok iv fr rl rs k
    · split at k
      · cases k
      · rename_i v nx hc
        exact pw_c hc (ih false E m nx lv (.inl v :: st) fs e h lc (v :: sc) gs ok iv fr rl ⟨rfl, rs⟩ rf k)
      · rename_i i nx hc
        split at k
        · rename_i v hv
          obtain ⟨vc, g1, g2⟩ := sx_re_ok ok.2.1 hv rs
          refine pw_r hc g1 ?_
          cases fs with
          | nil =>
            cases gs with
            | cons a b => exact rf.elim
            | nil => exact hfin e h E v vc ok iv fr g2 k
          | cons a0 fs' =>
            obtain ⟨m', nx', lv', r⟩ := a0
            cases gs with
            | nil => exact rf.elim
            | cons a b =>
              obtain ⟨am, anx, alv, ar⟩ := a
              obtain ⟨q1, q2, q3, q4, q5⟩ := rf
              have q6 := ih false E m' nx' lv' (v ++ r) fs' e h alv (vc ++ ar) b ok iv fr q3 (sx_R_app g2 q4) q5 k
              show pm_W P am anx alv (vc ++ ar) h (0, 0) (pm_K P Q b)
              rw [← q1, ← q2]
              exact q6
        · split at k
          · rename_i kk as r hk
            obtain ⟨ac, rc, g1, g2, g3, g4⟩ := sx_ca_ok hC iv.2.2.2 hk rs (pm_ret P m)
            cases eb : Nat.beq (pm_mc P kk) 0 && Nat.beq (pm_ms P kk) 0 with
            | false => rw [eb] at k; cases k
            | true =>
              rw [eb] at k
              simp only [cond_true] at k
              rw [Bool.and_eq_true] at eb
              have z1 := Nat.eq_of_beq_eq_true eb.1
              have z2 := Nat.eq_of_beq_eq_true eb.2
              have hz : P.2.2.1 kk = (0, 0) := Prod.ext z1 z2
              refine pw_k hc g4 g1 hz ⟨Nat.zero_le _, Nat.zero_le _⟩ ?_
              split at k
              · exact ih false E kk 0 (sx_en as (pm_mxl P kk)) [] ((m, nx, lv, r) :: fs) e h (pm_en ac (pm_mxl P kk)) [] ((m, nx, lc, rc) :: gs) ok iv fr (sx_RL_of (sx_en_ok g2 _)) trivial ⟨rfl, rfl, rl, g3, rf⟩ k
              · split at k
                · rename_i c hp
                  rw [Bool.and_eq_true, Bool.and_eq_true] at k
                  obtain ⟨⟨k1, k2⟩, k3⟩ := k
                  obtain ⟨p1, p2⟩ := sx_pick_ok hp
                  have hm := Nat.eq_of_beq_eq_true k1
                  unfold sx_fit at p2
                  rw [Bool.and_eq_true] at p2
                  unfold sx_may at k2
                  rw [Bool.and_eq_true, Bool.and_eq_true] at k2
                  have con := hT kk c p1
                  have rl2 := sx_RL_of g2
                  have := con h ac (fun v h' => pm_W P m nx lc (v ++ rc) h' (0, 0) (pm_K P Q gs)) iv (sx_fts_ok ok p2.1 rl2) (sx_ffs_ok hC ok iv rl2 p2.2) (fun v h' iv' fr' ⟨o, ho, po⟩ => by
                    have k4 := List.all_eq_true.mp k3 o ho
                    rw [Bool.and_eq_true] at k4
                    obtain ⟨e1, o1, o2⟩ := sx_out_ok hC ok iv rl2 fr' k4.1 po
                    rw [List.append_assoc] at o1 o2
                    exact ih false _ m nx lv _ fs (e ++ e1) h' lc (v ++ rc) gs o1 iv' (sx_fr_trans fr (sx_fr_sub fr' k2.1.1 k2.1.2 k2.2)) (by rw [← List.append_assoc]; exact sx_RL_mono e1 rl) (sx_R_app o2 (by rw [← List.append_assoc]; exact sx_R_mono e1 g3)) (by rw [← List.append_assoc]; exact sx_RF_mono e1 rf) k4.2)
                  rw [hm] at this
                  exact this
                · cases k
          · split at k
            · rename_i lv' st' hq
              obtain ⟨lc', sc', g1, g2, g3, g4, g5⟩ := sx_lc_ok ok.2.1 hq rl rs (pm_ret P m) P h
              exact pw_s hc g4 g5 (by simp only [pm_s, g1]) (ih false E m nx lv' st' fs e h lc' sc' gs ok iv fr g2 g3 rf k)
            · split at k
              · rename_i st' σ' n' hq
                obtain ⟨e1, sc', g1, g2, g3, g4, g5, g6, g7⟩ := sx_ar_ok ok.1 ok.2.1 ok.2.2.2.1 hq rs lc (pm_ret P m) P h
                obtain ⟨σ, n, φ, ν, KI, KR⟩ := E
                have ok' := sx_ok_ext ok g1 g2 (sx_nz_mono (show sx_nz (ρ0 ++ e) ν from ok.2.2.2.1) e1)
                rw [List.append_assoc] at ok' g4
                exact pw_s hc g6 g7 (by simp only [pm_s, g5, g3]) (ih false _ m nx lv st' fs (e ++ e1) h lc sc' gs ok' iv fr (by rw [← List.append_assoc]; exact sx_RL_mono e1 rl) g4 (by rw [← List.append_assoc]; exact sx_RF_mono e1 rf) k)
              · split at k
                · rename_i σ' ν' pc' st' hq
                  obtain ⟨q, q0, sc', q1, q2, q3, q4, q5, q6, q7, q8⟩ := sx_br_ok ok.2.1 ok.2.2.2.1 hq rs lc (pm_ret P m) P h
                  have q9 := List.mem_singleton.mp q0
                  subst q9
                  exact pw_s hc q7 q8 (by simp only [pm_s, q5, q6, q3]) (ih false (σ', E.2.1, E.2.2.1, ν', E.2.2.2.2) m pc' lv st' fs e h lc sc' gs ⟨ok.1, q1, ok.2.2.1, q2, ok.2.2.2.2⟩ iv fr rl q4 rf k)
                · rename_i l _ hq
                  obtain ⟨q, q0, sc', q1, q2, q3, q4, q5, q6, q7, q8⟩ := sx_br_ok ok.2.1 ok.2.2.2.1 hq rs lc (pm_ret P m) P h
                  exact pw_s hc q7 q8 (by simp only [pm_s, q5, q6, q3]) (ih false (q.1, E.2.1, E.2.2.1, q.2.1, E.2.2.2.2) m q.2.2.1 lv q.2.2.2 fs e h lc sc' gs ⟨ok.1, q1, ok.2.2.1, q2, ok.2.2.2.2⟩ iv fr rl q4 rf (List.all_eq_true.mp k q q0))
                · split at k
                  · rename_i σ1 σ2 x r hq
                    rw [Bool.and_eq_true] at k
                    rcases sx_sp_ok hC hq ok.2.1 iv rs lc nx (pm_ret P m) with q | ⟨q, sc', g1, g2, g3, g4, g5, g6, g7⟩
                    · exact ih false (σ1, E.2) m pc lv st fs e h lc sc gs ⟨ok.1, q, ok.2.2⟩ iv fr rl rs rf k.1
                    · exact pw_s hc g6 g7 (by simp only [pm_s, g3, g4, g5, g1]) (ih false (σ2, E.2) m nx lv (.inl (.int (Int32.ofInt x)) :: r) fs e h lc (.int (Int32.ofInt x) :: sc') gs ⟨ok.1, q, ok.2.2⟩ iv fr rl ⟨rfl, g2⟩ rf k.2)
                  · split at k
                    · rename_i st' E' hq
                      obtain ⟨e1, sc', h', g1, g2, g3, g4, g5, g6, g7, g8, g9, g10⟩ := sx_he_ok hC hq ok iv rs D lc nx (pm_ret P m)
                      rw [List.append_assoc] at g1 g4
                      exact pw_s hc g9 g10 (by simp only [pm_s, g6, g7, g8, g3]) (ih false E' m nx lv st' fs (e ++ e1) h' lc sc' gs g1 g2 (sx_fr_trans fr g5) (by rw [← List.append_assoc]; exact sx_RL_mono e1 rl) g4 (by rw [← List.append_assoc]; exact sx_RF_mono e1 rf) k)
                    · split at k
                      · rename_i st' E' hq
                        obtain ⟨sc', h', g1, g2, g3, g4, g5, g6, g7, g8, g9, g10⟩ := sx_rw_ok (W := W) hC hq ok iv rs lc nx (pm_ret P m)
                        exact pw_s hc g9 g10 (by simp only [pm_s, g6, g7, g8, g3]) (ih false E' m nx lv st' fs e h' lc sc' gs g1 g2 (sx_fr_trans fr g5) rl g4 rf k)
                      · cases k
end XS
