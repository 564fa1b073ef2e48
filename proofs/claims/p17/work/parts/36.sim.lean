section SMU
variable {P : pm_P} {tbl : List Jvm.Cond} {yN : Nat → MethodName} {byt : Nat → ByteArray} {rT : Nat → Option FieldType} {fr lo : Nat → Nat} {cl : List vw_C} {strs : List (String × Nat × Nat)} {nst : List Jvm.Cond} {ρ : Nat → Nat} {tA : Nat → ClassId} {base : Nat} {D : va_G} {tys : List (ClassId × FieldType)} {TT : State → Prop} {l : Launch}
theorem pm_goodIn (hgood : ∀ w ∈ tbl, (w.onTables && w.keeps) = true ∨ ∃ ty, w = .arrayClass ty) {ws : List Jvm.Cond} (h : ∀ w ∈ ws, w ∈ tbl) : GoodIn tbl ws := fun w hw => ⟨h w hw, hgood w (h w hw)⟩
theorem pm_blind {as : List Value} {h : pm_H} (hT2 : ∀ (U : State) (g : JFrame) (mk : MethodId) (a : Array Value), TT U → TT (U.calling g mk a)) : FrameBlind (pm_Pc P cl ρ tA base D tys TT as h) := by
  intro a U g mk q
  obtain ⟨q0, q1, q2, q3, q4⟩ := q
  exact ⟨q0, q1, q2, va_K.moved (u := U) (U := U.calling g mk a) (Vm.Alike.refl U.vm) q3, hT2 U g mk a q4⟩
theorem pm_pre {s : State} {H : Heap} {locs : List Loc} {as : List Value} {h : pm_H} (hT1 : ∀ s U : State, TT s → s.WarmedH U.vm → (∀ q : Nat, q < s.heap.size → ¬ base ≤ q → U.heap[q]? = s.heap[q]?) → TT U) (hK : va_K D cl tys s) (hTs : TT s) (hsz : H.size = base + h.2.2.2) (hrel : pm_Rel P tA ρ base D cl h H) (hS : va_S (fun q : Nat => base ≤ q) s.heap H locs) :
    ∀ U : State, U.heap = H → s.WarmedH U.vm → pm_Pc P cl ρ tA base D tys TT as h (as.map (pm_c ρ)).toArray U := by
  intro U hU hW
  exact ⟨rfl, by rw [hU]; exact hsz, by rw [hU]; exact hrel, va_K.moved hW.alike hK, hT1 s U hTs hW (fun q h1 h2 => by rw [hU]; exact hS.2.1 q h1 h2)⟩
set_option maxHeartbeats 8000000 in
theorem pm_sim (hAd : ∀ m pc x nx, pm_cod P m pc = some (x, nx) → pm_Ad P tbl yN byt rT fr lo cl strs nst m pc x nx) (hgood : ∀ w ∈ tbl, (w.onTables && w.keeps) = true ∨ ∃ ty, w = .arrayClass ty)
    (hty : ∀ (a t n : Nat), pm_shp P a = some (.inr (t, n)) → ∃ t0 : Nat, tys[t0]? = some (tA t, pm_ft cl t)) (hρ : ∀ a, a < 99999 → ρ a = base + a)
    (hT1 : ∀ s U : State, TT s → s.WarmedH U.vm → (∀ q : Nat, q < s.heap.size → ¬ base ≤ q → U.heap[q]? = s.heap[q]?) → TT U) (hT2 : ∀ (U : State) (g : JFrame) (mk : MethodId) (a : Array Value), TT U → TT (U.calling g mk a))
    (hT3 : ∀ U, TT U → ∀ q ∈ strs, ∃ tx, vk_R q.1 q.2.1 tx (ρ (100000 + q.2.2)) U) (hT4 : ∀ U A, TT U → ∀ w ∈ nst, w.before A U = true)
    (hT5 : ∀ (s : State) (H : Heap) (j : Nat), TT s → 0 < (pm_txt P j).length → (∀ q : Nat, q < s.heap.size → ¬ base ≤ q → H[q]? = s.heap[q]?) → ∃ cell : Cell, H[ρ (100000 + j)]? = some cell ∧ cell.vm.isStatics = false ∧ s.vm.findClass "java/lang/String" = some cell.cls)
    (hM0 : P.2.2.1 9001 = (0, 0) ∧ P.2.2.1 9002 = (0, 0))
    (hM1 : ∀ j, 0 < (pm_txt P j).length → Met l (yN 9001) (pm_ws P tbl yN byt rT 9001) (pm_rm P fr lo 9001) (va_Pc [.ref (ρ (100000 + j))] TT) (fun _ st o t => o = .returned (some (.int (Int32.ofNat (pm_txt P j).length))) ∧ t.heap = st.heap) 0 0 (fun q : Nat => base ≤ q))
    (hM2 : ∀ (j : Nat) (i : Int32), pm_in i (pm_txt P j).length = true → Met l (yN 9002) (pm_ws P tbl yN byt rT 9002) (pm_rm P fr lo 9002) (va_Pc [.ref (ρ (100000 + j)), .int i] TT) (fun _ st o t => o = .returned (some (.int ((pm_txt P j).getD i.toNatClampNeg 0))) ∧ t.heap = st.heap) 0 0 (fun q : Nat => base ≤ q)) :
    ∀ f, pm_At P tbl yN byt fr lo cl ρ tA base D tys TT l f := by
  intro f
  induction f with
  | zero =>
    intro m p e s mi args below meth c R Q n0 v h' hx hb hml hown hname hts hK hTs hR hn0 hX hend pc lv st h cs H locs ls hrun
    simp [pm_run] at hrun
  | succ f ih =>
    intro m p e s mi args below meth c R Q n0 v h' hx hb hml hown hname hts hK hTs hR hn0 hX hend pc lv st h cs H locs ls hrun hc1 hc2 hn hrel hS hL hlen
    have hnst : ∀ w ∈ nst, w.before args s = true := hT4 s args hTs
    have hstr := hT3 s hTs
    have hRf : R.frames = fr m ∧ R.locals = lo m := by rw [hR]; exact ⟨rfl, rfl⟩
    have hRc : R.cells = pm_mc P m ∧ R.slots = pm_ms P m := by rw [hR]; exact ⟨rfl, rfl⟩
    have hls : c.maxLocals = ls.size := by rw [hml, hL.1, hlen]
    have go : ∀ (pc : Nat) (lv st : List Value) (h : pm_H) (cs : Nat × Nat) (H : Heap) (locs : List Loc) (ls : Array Slot), pm_run P f m pc lv st h cs = some (v, h') → cs.1 ≤ pm_mc P m → cs.2 ≤ pm_ms P m → h.2.2.2 = n0 + cs.1 → pm_Rel P tA ρ base D cl h H → va_S (fun q : Nat => base ≤ q) s.heap H locs → pm_L ρ ls lv → lv.length = pm_mxl P m → W p l e R s mi args below meth c H locs cs.1 cs.2 Q (F0 mi pc ls (st.map (pm_c ρ))) :=
      ih m p e s mi args below meth c R Q n0 v h' hx hb hml hown hname hts hK hTs hR hn0 hX hend
    refine sm_sz fun hz1 hz2 => ?_
    have hsz : H.size = base + h.2.2.2 := by
      have := sm_low hρ hrel (by omega)
      omega
    rw [pm_run] at hrun
    split at hrun
    · cases hrun
    · rename_i v1 nx hcod
      exact sm_c hx hb hown hts hstr (hAd _ _ _ _ hcod) (go nx lv (v1 :: st) h cs H locs ls hrun hc1 hc2 hn hrel hS hL hlen)
    · rename_i i nx hcod
      have ad := hAd _ _ _ _ hcod
      split at hrun
      · rename_i v1 hre
        cases hrun
        have := pm_re_st hre
        subst this
        exact hend pc nx i cs.1 cs.2 H locs ls hcod hre hrel hS hc1 hc2
      · split at hrun
        · rename_i k as r hca
          split at hrun
          · rename_i hm
            split at hrun
            · rename_i v1 h1 hrun1
              split at hrun
              · rename_i hnk
                have hv1 := pm_run_v hrun1
                have hn1 : h1.2.2.2 = n0 + (cs.1 + pm_mc P k) := by
                  rcases hnk with q | q
                  · rw [pm_n0 q hrun1, q, hn]; omega
                  · rw [q, hn]; omega
                have kk : ∀ (H1 : Heap) (locs1 : List Loc), pm_Rel P tA ρ base D cl h1 H1 → va_S (fun q : Nat => base ≤ q) s.heap H1 locs1 → W p l e R s mi args below meth c H1 locs1 (cs.1 + pm_mc P k) (cs.2 + pm_ms P k) Q (F0 mi nx ls (v1.map (pm_c ρ) ++ r.map (pm_c ρ))) := by
                  intro H1 locs1 hr1 hS1
                  rw [← List.map_append]
                  exact go nx lv (v1 ++ r) h1 (cs.1 + pm_mc P k, cs.2 + pm_ms P k) H1 locs1 ls hrun hm.1 hm.2 hn1 hr1 hS1 hL hlen
                have hQa : ∀ (a : Array Value) (st₀ : State) (o : Outcome) (t : State), pm_Qc P cl ρ tA base D v1 h1 a st₀ o t → st₀.heap = H → o = .returned ((v1.map (pm_c ρ)).head?) ∧ pm_Rel P tA ρ base D cl h1 t.heap ∧ va_F (fun q : Nat => base ≤ q) st₀ t := fun a st₀ o t q _ => q
                unfold pm_ca at hca
                split at hca
                · -- static
                  split at hca
                  · rename_i hq
                    cases hca
                    obtain ⟨q1, q2, q3, q4⟩ := hq
                    obtain ⟨rfl, hor⟩ := ad
                    rcases hor with ⟨w0, -⟩ | ⟨-, j, hd, hl, ⟨w1, w2, w3, wk, w4, w5⟩, w6, w7⟩
                    · omega
                    · have hM := pm_met_of hAd ih wk w7 hrun1 q4
                      have hstack : st.map (pm_c ρ) = (((st.take (pm_nar P k)).reverse).map (pm_c ρ)).reverse ++ (st.drop (pm_nar P k)).map (pm_c ρ) := by
                        rw [List.map_reverse, List.reverse_reverse, ← List.map_append, List.take_append_drop]
                      have hlenA : (((st.take (pm_nar P k)).reverse).map (pm_c ρ)).length = pm_nar P k := by simp; omega
                      have hG : GoodIn tbl (pm_ws P tbl yN byt rT k) := pm_goodIn hgood (fun w hw => by rcases List.mem_cons.mp hw with rfl | hw; exact w2; exact hw)
                      have hRk : (pm_rm P fr lo k).frames + 1 ≤ R.frames ∧ 8 + (pm_mxl P k + 11) + (pm_rm P fr lo k).locals ≤ R.locals := by rw [hRf.1, hRf.2]; exact ⟨w4, w5⟩
                      rcases hl with hl | ⟨host, hl⟩
                      · refine sm_call (va_runS (nL := ls.size) (As := ((st.take (pm_nar P k)).reverse).map (pm_c ρ)) ⟨hx, hb, hls, hown, hts⟩ hM ⟨callB_of (pm_nar P k) hts hG rfl rfl rfl (hts _ w1) (hts _ hl) w3 hRk, hts _ w6⟩ ⟨pm_blind hT2, pm_pre hT1 hK hTs hsz hrel hS⟩ rfl hlenA rfl hstack (by rw [pm_c_sum]; show 2 * 0 + _ ≤ 8; omega) hd ⟨by rw [hRc.1]; exact hm.1, by rw [hRc.2]; exact hm.2⟩) (hQa _) hv1 hS kk
                      · refine sm_call (va_runSN (nL := ls.size) (As := ((st.take (pm_nar P k)).reverse).map (pm_c ρ)) ⟨hx, hb, hls, hown, hts⟩ hM ⟨va_cnB (pm_nar P k) hts hG rfl rfl rfl (va_Nw.of rfl (hnst _ hl)) (hts _ w1) w3 hRk, hts _ w6, trivial⟩ ⟨pm_blind hT2, pm_pre hT1 hK hTs hsz hrel hS⟩ rfl hlenA rfl hstack (by rw [pm_c_sum]; show 2 * 0 + _ ≤ 8; omega) hd ⟨by rw [hRc.1]; exact hm.1, by rw [hRc.2]; exact hm.2⟩) (hQa _) hv1 hS kk
                  · cases hca
                · -- special
                  split at hca
                  · rename_i hq
                    obtain ⟨q1, q3⟩ := hq
                    split at hca
                    · rename_i a as1 htk
                      split at hca
                      · rename_i hq2
                        cases hca
                        obtain ⟨q2, q4⟩ := hq2
                        obtain ⟨rfl, hor⟩ := ad
                        rcases hor with ⟨w0, -⟩ | ⟨-, j, hd, hl, ⟨w1, w2, w3, wk, w4, w5⟩, w6, w8, w9, w7⟩
                        · omega
                        · have hM := pm_met_of hAd ih wk w7 hrun1 q4
                          have htk2 : st.take (pm_nar P k) = as1.reverse ++ [.ref a] := by
                            have := congrArg List.reverse htk
                            simpa using this
                          have hstack : st.map (pm_c ρ) = (as1.map (pm_c ρ)).reverse ++ Value.ref (ρ a) :: (st.drop (pm_nar P k)).map (pm_c ρ) := by
                            conv => lhs; rw [← List.take_append_drop (pm_nar P k) st, htk2]
                            simp [pm_c]
                          have hlenA : (as1.map (pm_c ρ)).length = pm_nar P k - 1 := by simp; omega
                          have hG : GoodIn tbl (pm_ws P tbl yN byt rT k) := pm_goodIn hgood (fun w hw => by rcases List.mem_cons.mp hw with rfl | hw; exact w2; exact hw)
                          have hRk : (pm_rm P fr lo k).frames + 1 ≤ R.frames ∧ 8 + (pm_mxl P k + 11) + (pm_rm P fr lo k).locals ≤ R.locals := by rw [hRf.1, hRf.2]; exact ⟨w4, w5⟩
                          have hws : pm_ws P tbl yN byt rT k = .code (yN k) (byt k) (pm_mxl P k) none :: tbl := by rw [← w9]; rfl
                          rcases hl with hl | ⟨host, hl⟩
                          · refine sm_call (va_runI (nL := ls.size) (b := ρ a) (As := as1.map (pm_c ρ)) ⟨hx, hb, hls, hown, hts⟩ hM ⟨callB_of (pm_nar P k - 1) hts hG hws rfl rfl (hts _ w1) (hts _ hl) w3 hRk, w8, hts _ w6⟩ ⟨pm_blind hT2, pm_pre (as := .ref a :: as1) hT1 hK hTs hsz hrel hS⟩ rfl hlenA rfl hstack (by rw [pm_c_sum]; show 2 * 0 + _ ≤ 8; omega) hd ⟨by rw [hRc.1]; exact hm.1, by rw [hRc.2]; exact hm.2⟩) (hQa _) hv1 hS kk
                          · refine sm_call (va_runIN (nL := ls.size) (b := ρ a) (As := as1.map (pm_c ρ)) ⟨hx, hb, hls, hown, hts⟩ hM ⟨va_cnB (pm_nar P k - 1) hts hG hws rfl rfl (va_Nw.of rfl (hnst _ hl)) (hts _ w1) w3 hRk, w8, hts _ w6⟩ ⟨pm_blind hT2, pm_pre (as := .ref a :: as1) hT1 hK hTs hsz hrel hS⟩ rfl hlenA rfl hstack (by rw [pm_c_sum]; show 2 * 0 + _ ≤ 8; omega) hd ⟨by rw [hRc.1]; exact hm.1, by rw [hRc.2]; exact hm.2⟩) (hQa _) hv1 hS kk
                      · cases hca
                    · cases hca
                  · cases hca
                · -- virtual
                  split at hca
                  · rename_i hq
                    obtain ⟨q1, q3⟩ := hq
                    split at hca
                    · rename_i a as1 htk
                      split at hca
                      · rename_i hq2
                        cases hca
                        obtain ⟨q2, q5, q4⟩ := hq2
                        obtain ⟨rfl, hor⟩ := ad
                        rcases hor with ⟨w0, -⟩ | ⟨-, j, hd, hl, ⟨w1, w2, w3, wk, w4, w5⟩, w6, w8, ⟨T, N, w9⟩, w7⟩
                        · omega
                        · have hM := pm_met_of hAd ih wk w7 hrun1 q4
                          have htk2 : st.take (pm_nar P k) = as1.reverse ++ [.ref a] := by
                            have := congrArg List.reverse htk
                            simpa using this
                          have hstack : st.map (pm_c ρ) = (as1.map (pm_c ρ)).reverse ++ Value.ref (ρ a) :: (st.drop (pm_nar P k)).map (pm_c ρ) := by
                            conv => lhs; rw [← List.take_append_drop (pm_nar P k) st, htk2]
                            simp [pm_c]
                          have hlenA : (as1.map (pm_c ρ)).length = pm_nar P k - 1 := by simp; omega
                          have hG : GoodIn tbl (pm_ws P tbl yN byt rT k) := pm_goodIn hgood (fun w hw => by rcases List.mem_cons.mp hw with rfl | hw; exact w2; exact hw)
                          have hRk : (pm_rm P fr lo k).frames + 1 ≤ R.frames ∧ 8 + (pm_mxl P k + 11) + (pm_rm P fr lo k).locals ≤ R.locals := by rw [hRf.1, hRf.2]; exact ⟨w4, w5⟩
                          obtain ⟨ha, hs⟩ := pm_sh_spec q5
                          have hrecv : ∃ cell : Cell, H[ρ a]? = some cell ∧ cell.vm.isStatics = false ∧ s.vm.findClass (yN k).cls = some cell.cls := by
                            have he : (pm_w P tA ρ h)[a]? = some (ρ a, pm_E P tA ρ h a) := pm_w_get ha
                            simp only [pm_E, hs] at he
                            exact va_recv hK hrel.1 w9 he
                          rcases hl with hl | ⟨host, hl⟩
                          · refine sm_call (va_runV (nL := ls.size) (b := ρ a) (C := (yN k).cls) (As := as1.map (pm_c ρ)) ⟨hx, hb, hls, hown, hts⟩ hM ⟨callB_of (pm_nar P k - 1) hts hG rfl rfl rfl (hts _ w1) (hts _ hl) w3 hRk, hts _ w6, hts _ w8⟩ ⟨pm_blind hT2, hrecv, pm_pre (as := .ref a :: as1) hT1 hK hTs hsz hrel hS⟩ rfl hlenA rfl hstack (by rw [pm_c_sum]; show 2 * 0 + _ ≤ 8; omega) hd ⟨by rw [hRc.1]; exact hm.1, by rw [hRc.2]; exact hm.2⟩) (hQa _) hv1 hS kk
                          · refine sm_call (va_runVN (nL := ls.size) (b := ρ a) (C := (yN k).cls) (As := as1.map (pm_c ρ)) ⟨hx, hb, hls, hown, hts⟩ hM ⟨va_cnB (pm_nar P k - 1) hts hG rfl rfl rfl (va_Nw.of rfl (hnst _ hl)) (hts _ w1) w3 hRk, hts _ w6, hts _ w8⟩ ⟨pm_blind hT2, hrecv, pm_pre (as := .ref a :: as1) hT1 hK hTs hsz hrel hS⟩ rfl hlenA rfl hstack (by rw [pm_c_sum]; show 2 * 0 + _ ≤ 8; omega) hd ⟨by rw [hRc.1]; exact hm.1, by rw [hRc.2]; exact hm.2⟩) (hQa _) hv1 hS kk
                      · cases hca
                    · cases hca
                  · cases hca
                · cases hca
              · cases hrun
            · cases hrun
          · cases hrun
        · split at hrun
          · rename_i pc' lv' st' h1 cs' hstep
            unfold pm_s at hstep
            split at hstep
            · rename_i r1 h1e
              cases hstep
              obtain ⟨r11, r12⟩ := r1
              have hlen' : r11.length = pm_mxl P m := by
                rw [← hlen]
                unfold pm_lo at h1e
                repeat' split at h1e
                all_goals first | (cases h1e; first | rfl | exact pm_st1_len _ _ _ | exact pm_st2_len _ _ _) | (cases h1e; done)
              exact sm_lo hx hb ad hL h1e (fun ls' hL' => go nx r11 r12 h cs H locs ls' hrun hc1 hc2 hn hrel hS hL' hlen')
            · split at hstep
              · rename_i r1 h1e
                cases hstep
                exact sm_ar hx hb ad h1e (go nx lv _ h cs H locs ls hrun hc1 hc2 hn hrel hS hL hlen)
              · split at hstep
                · rename_i r1 h1e
                  obtain ⟨r11, r12⟩ := r1
                  cases hstep
                  exact sm_br hx hb ad h1e (go _ lv _ h cs H locs ls hrun hc1 hc2 hn hrel hS hL hlen)
                · split at hstep
                  · rename_i r1 h1e
                    cases hstep
                    obtain ⟨r11, r12⟩ := r1
                    have hn1 : r12.2.2.2 = n0 + cs.1 := by rw [pm_he_n h1e, hn]
                    by_cases ht : i ≠ .invokevirtual 9001 ∧ i ≠ .invokevirtual 9002
                    · exact sm_he hx hb hls hown hname hts hnst hK hty hρ hRf (fun q => hX (by rcases q with rfl | rfl; exact ad.1; exact ad.1)) ad hrel hS ht h1e (fun H' locs' hr' hS' => go nx lv r11 r12 cs H' locs' ls hrun hc1 hc2 hn1 hr' hS' hL hlen)
                    · have kk0 : ∀ (H1 : Heap) (locs1 : List Loc), pm_Rel P tA ρ base D cl r12 H1 → va_S (fun q : Nat => base ≤ q) s.heap H1 locs1 → W p l e R s mi args below meth c H1 locs1 (cs.1 + 0) (cs.2 + 0) Q (F0 mi nx ls (r11.map (pm_c ρ))) := fun H1 locs1 hr1 hS1 => go nx lv r11 r12 cs H1 locs1 ls hrun hc1 hc2 hn1 hr1 hS1 hL hlen
                      have hbl : ∀ as : List Value, FrameBlind (va_Pc as TT) := fun as a U g mk q => ⟨q.1, hT2 U g mk a q.2⟩
                      have hpr : ∀ as : List Value, ∀ U : State, U.heap = H → s.WarmedH U.vm → va_Pc as TT as.toArray U := fun as U hU hW => ⟨rfl, hT1 s U hTs hW (fun q h1 h2 => by rw [hU]; exact hS.2.1 q h1 h2)⟩
                      have hi : i = .invokevirtual 9001 ∨ i = .invokevirtual 9002 := by
                        by_cases q : i = .invokevirtual 9001
                        · exact Or.inl q
                        · exact Or.inr (Classical.byContradiction fun q2 => ht ⟨q, q2⟩)
                      rcases hi with rfl | rfl
                      · simp only [pm_he, if_true] at h1e
                        split at h1e
                        · rename_i a r
                          split at h1e
                          · rename_i hq
                            obtain ⟨q1, q2, q3⟩ := hq
                            cases h1e
                            obtain ⟨rfl, hor⟩ := ad
                            rcases hor with ⟨-, -, j, hd, hl, ⟨w1, w2, w3, wk, w4, w5⟩, w6, w8, w10⟩ | ⟨w0, -⟩
                            · obtain ⟨j0, rfl⟩ := Nat.exists_eq_add_of_le q2
                              rw [Nat.add_sub_cancel_left] at q3 kk0
                              have hG : GoodIn tbl (pm_ws P tbl yN byt rT 9001) := pm_goodIn hgood (fun w hw => by rcases List.mem_cons.mp hw with rfl | hw; exact w2; exact hw)
                              have hRk : (pm_rm P fr lo 9001).frames + 1 ≤ R.frames ∧ 8 + (pm_mxl P 9001 + 11) + (pm_rm P fr lo 9001).locals ≤ R.locals := by rw [hRf.1, hRf.2]; exact ⟨w4, w5⟩
                              have hrecv := hT5 s H j0 hTs q3 hS.2.1
                              rw [← w10] at hrecv
                              exact sm_call (v := [.int (Int32.ofNat (pm_txt P j0).length)]) (va_runV (nL := ls.size) (b := ρ (100000 + j0)) (C := (yN 9001).cls) (As := []) ⟨hx, hb, hls, hown, hts⟩ (hM1 j0 q3) ⟨callB_of 0 hts hG rfl (by simp [pm_rm, pm_mc, hM0.1]) (by simp [pm_rm, pm_ms, hM0.1]) (hts _ w1) (hts _ hl) w3 hRk, hts _ w6, hts _ w8⟩ ⟨hbl _, hrecv, hpr _⟩ rfl rfl rfl rfl (by rw [pm_c_sum]; show 2 * 0 + _ ≤ 8; omega) hd ⟨by rw [hRc.1]; exact hc1, by rw [hRc.2]; exact hc2⟩) (fun st₀ o t q h0 => ⟨q.1, by rw [q.2, h0]; exact hrel, ⟨by rw [q.2]; exact Nat.le_refl _, fun x _ _ => by rw [q.2]⟩⟩) (by simp) hS kk0
                            · omega
                          · cases h1e
                        · cases h1e
                      · simp only [pm_he] at h1e
                        rw [if_neg (by decide), if_pos trivial] at h1e
                        split at h1e
                        · rename_i ji a r
                          split at h1e
                          · rename_i hq
                            obtain ⟨q1, q2, q3⟩ := hq
                            cases h1e
                            obtain ⟨rfl, hor⟩ := ad
                            rcases hor with ⟨-, -, j, hd, hl, ⟨w1, w2, w3, wk, w4, w5⟩, w6, w8, w10⟩ | ⟨w0, -⟩
                            · obtain ⟨j0, rfl⟩ := Nat.exists_eq_add_of_le q2
                              rw [Nat.add_sub_cancel_left] at q3 kk0
                              have hG : GoodIn tbl (pm_ws P tbl yN byt rT 9002) := pm_goodIn hgood (fun w hw => by rcases List.mem_cons.mp hw with rfl | hw; exact w2; exact hw)
                              have hRk : (pm_rm P fr lo 9002).frames + 1 ≤ R.frames ∧ 8 + (pm_mxl P 9002 + 11) + (pm_rm P fr lo 9002).locals ≤ R.locals := by rw [hRf.1, hRf.2]; exact ⟨w4, w5⟩
                              have hrecv := hT5 s H j0 hTs (Nat.pos_of_ne_zero fun q0 => by rw [q0] at q3; exact pm_in_vp q3 (Or.inr (Nat.zero_le _))) hS.2.1
                              rw [← w10] at hrecv
                              exact sm_call (v := [.int ((pm_txt P j0).getD (Int32.toNatClampNeg _) 0)]) (va_runV (nL := ls.size) (b := ρ (100000 + j0)) (C := (yN 9002).cls) (As := [.int _]) ⟨hx, hb, hls, hown, hts⟩ (hM2 j0 _ q3) ⟨callB_of 1 hts hG rfl (by simp [pm_rm, pm_mc, hM0.2]) (by simp [pm_rm, pm_ms, hM0.2]) (hts _ w1) (hts _ hl) w3 hRk, hts _ w6, hts _ w8⟩ ⟨hbl _, hrecv, hpr _⟩ rfl rfl rfl rfl (by rw [pm_c_sum]; show 2 * 0 + _ ≤ 8; omega) hd ⟨by rw [hRc.1]; exact hc1, by rw [hRc.2]; exact hc2⟩) (fun st₀ o t q h0 => ⟨q.1, by rw [q.2, h0]; exact hrel, ⟨by rw [q.2]; exact Nat.le_refl _, fun x _ _ => by rw [q.2]⟩⟩) (by simp) hS kk0
                            · omega
                          · cases h1e
                        · cases h1e
                  · split at hstep
                    · rename_i r1 h1e
                      cases hstep
                      obtain ⟨r11, r12, r13⟩ := r1
                      have hal : r13.1 ≤ pm_mc P m ∧ r13.2 ≤ pm_ms P m ∧ r12.2.2.2 = n0 + r13.1 := by
                        unfold pm_al at h1e
                        repeat' split at h1e
                        all_goals first | (cases h1e; done) | (rename_i hq; cases h1e; refine ⟨?_, ?_, ?_⟩ <;> simp only [] <;> omega)
                      exact sm_al hx hb hown hts hnst hK hty hρ hRc ad hrel hS hsz h1e (fun H' hr' hS' => go nx lv r11 r12 r13 H' locs ls hrun hal.1 hal.2.1 hal.2.2 hr' hS' hL hlen)
                    · cases hstep
          · cases hrun
end SMU
