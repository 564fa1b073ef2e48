/-! ONE STEP OF THE REAL MACHINE FOR ONE OF THE PURE ONE: locals, stack, branches -/
section SMA
variable {P : pm_P} {tbl : List Jvm.Cond} {yN : Nat → MethodName} {byt : Nat → ByteArray} {rT : Nat → Option FieldType} {fr lo : Nat → Nat} {cl : List vw_C} {strs : List (String × Nat × Nat)} {nst : List Jvm.Cond} {ρ : Nat → Nat}
variable {p : Program} {l : Launch} {e : Env} {R : Room} {s : State} {mi : MethodId} {args : Array Value} {below : List Frame} {meth : Method} {c : Code} {H : Heap} {locs : List Loc} {cells slots : Nat} {Q : State → Prop}
variable {m pc nx : Nat} {i : Instr} {lv st : List Value} {ls : Array Slot}
set_option maxHeartbeats 4000000 in
theorem sm_lo {lv' st' : List Value} (hx : p.tables.exec = Jvm.exec) (hb : c.code = byt m) (ad : pm_Ad P tbl yN byt rT fr lo cl strs nst m pc (.inr i) nx) (hL : pm_L ρ ls lv) (h : pm_lo i lv st = some (lv', st'))
    (kk : ∀ ls' : Array Slot, pm_L ρ ls' lv' → W p l e R s mi args below meth c H locs cells slots Q (F0 mi nx ls' (st'.map (pm_c ρ)))) : W p l e R s mi args below meth c H locs cells slots Q (F0 mi pc ls (st.map (pm_c ρ))) := by
  unfold pm_lo at h
  split at h
  · rename_i k
    split at h
    · rename_i x hv
      cases h
      have hl := hL.2.2 k (.int x) hv (by simp)
      rcases ad with ⟨n, hd, hn, rfl⟩ | ⟨hd, rfl⟩
      · exact lv_iload_n hx hb hd hn hl (kk ls hL)
      · exact lv_iload hx hb hd hl (kk ls hL)
    · cases h
  · rename_i k
    split at h
    · rename_i x hv
      cases h
      have hl := hL.2.2 k (.long x) hv (by simp)
      rcases ad with ⟨n, hd, hn, rfl⟩ | ⟨hd, rfl⟩
      · exact lv_lload_n hx hb hd hn hl (kk ls hL)
      · exact lv_lload hx hb hd hl (kk ls hL)
    · cases h
  · rename_i k
    split at h
    · rename_i x hv
      cases h
      have hl := hL.2.2 k (.ref x) hv (by simp)
      rcases ad with ⟨n, hd, hn, rfl⟩ | ⟨hd, rfl⟩
      · exact lv_aload_n hx hb hd hn hl (kk ls hL)
      · exact lv_aload hx hb hd hl (kk ls hL)
    · rename_i hv
      cases h
      have hl := hL.2.2 k .null hv (by simp)
      rcases ad with ⟨n, hd, hn, rfl⟩ | ⟨hd, rfl⟩
      · exact lv_aload_nN hx hb hd hn hl (kk ls hL)
      · exact lv_aloadN hx hb hd hl (kk ls hL)
    · cases h
  · rename_i k
    split at h
    · rename_i x r
      split at h
      · rename_i hk
        cases h
        rcases ad with ⟨n, hd, hn, rfl⟩ | ⟨hd, rfl⟩
        · exact lv_istore_n hx hb hd hn (pm_L_has hL) hk rfl (fun ls' h' => kk ls' (pm_L_st1 (v := .int x) h'))
        · exact lv_istore hx hb hd (pm_L_has hL) hk rfl (fun ls' h' => kk ls' (pm_L_st1 (v := .int x) h'))
      · cases h
    · cases h
  · rename_i k
    split at h
    · rename_i x r
      split at h
      · rename_i hk
        cases h
        rcases ad with ⟨n, hd, hn, rfl⟩ | ⟨hd, rfl⟩
        · exact lv_lstore_n hx hb hd hn (pm_L_has hL) hk rfl (fun ls' h' => kk ls' (pm_L_st2 (v := .long x) h'))
        · exact lv_lstore hx hb hd (pm_L_has hL) hk rfl (fun ls' h' => kk ls' (pm_L_st2 (v := .long x) h'))
      · cases h
    · cases h
  · rename_i k
    split at h
    · rename_i x r
      split at h
      · rename_i hk
        cases h
        rcases ad with ⟨n, hd, hn, rfl⟩ | ⟨hd, rfl⟩
        · exact lv_astore_n hx hb hd hn (pm_L_has hL) hk rfl (fun ls' h' => kk ls' (pm_L_st1 (v := .ref x) h'))
        · exact lv_astore hx hb hd (pm_L_has hL) hk rfl (fun ls' h' => kk ls' (pm_L_st1 (v := .ref x) h'))
      · cases h
    · rename_i r
      split at h
      · rename_i hk
        cases h
        rcases ad with ⟨n, hd, hn, rfl⟩ | ⟨hd, rfl⟩
        · exact lv_astore_nN hx hb hd hn (pm_L_has hL) hk rfl (fun ls' h' => kk ls' (pm_L_st1 (v := .null) h'))
        · exact lv_astoreN hx hb hd (pm_L_has hL) hk rfl (fun ls' h' => kk ls' (pm_L_st1 (v := .null) h'))
      · cases h
    · cases h
  · rename_i k n
    split at h
    · rename_i x hv
      cases h
      obtain ⟨hd, rfl⟩ := ad
      have hm : (k, Value.int x) ∈ pm_ll ρ lv := pm_ll_mem.mpr ⟨.int x, hv, by simp, rfl⟩
      obtain ⟨q, hq⟩ := List.getElem?_of_mem hm
      exact lv_iinc hx hb hd (pm_L_has hL) hq rfl (List.getElem?_eq_some_iff.mp hv).1 rfl (fun ls' h' => kk ls' (pm_L_st1 (v := .int (x + Int32.ofInt n)) h'))
    · cases h
  · cases h
set_option maxHeartbeats 4000000 in
theorem sm_ar {st' : List Value} (hx : p.tables.exec = Jvm.exec) (hb : c.code = byt m) (ad : pm_Ad P tbl yN byt rT fr lo cl strs nst m pc (.inr i) nx) (h : pm_ar i st = some st')
    (kk : W p l e R s mi args below meth c H locs cells slots Q (F0 mi nx ls (st'.map (pm_c ρ)))) : W p l e R s mi args below meth c H locs cells slots Q (F0 mi pc ls (st.map (pm_c ρ))) := by
  unfold pm_ar at h
  split at h
  · split at h
    · cases h; obtain ⟨hd, rfl⟩ := ad; exact lv_iadd hx hb hd kk
    · cases h
  · split at h
    · cases h; obtain ⟨hd, rfl⟩ := ad; exact lv_isub hx hb hd kk
    · cases h
  · split at h
    · cases h; obtain ⟨hd, rfl⟩ := ad; exact lv_imul hx hb hd kk
    · cases h
  · split at h
    · cases h; obtain ⟨hd, rfl⟩ := ad; exact lv_iand hx hb hd kk
    · cases h
  · split at h
    · cases h; obtain ⟨hd, rfl⟩ := ad; exact lv_ixor hx hb hd kk
    · cases h
  · split at h
    · split at h
      · cases h
      · rename_i h0; cases h; obtain ⟨hd, rfl⟩ := ad; exact lv_idiv hx hb hd h0 kk
    · cases h
  · split at h
    · split at h
      · cases h
      · rename_i h0; cases h; obtain ⟨hd, rfl⟩ := ad; exact lv_irem hx hb hd h0 kk
    · cases h
  · split at h
    · cases h; obtain ⟨hd, rfl⟩ := ad; exact lv_ineg hx hb hd kk
    · cases h
  · split at h
    · cases h; obtain ⟨hd, rfl⟩ := ad; exact lv_ishr hx hb hd kk
    · cases h
  · split at h
    · cases h; obtain ⟨hd, rfl⟩ := ad; exact lv_ladd hx hb hd kk
    · cases h
  · split at h
    · cases h; obtain ⟨hd, rfl⟩ := ad; exact lv_lsub hx hb hd kk
    · cases h
  · split at h
    · cases h; obtain ⟨hd, rfl⟩ := ad; exact lv_lmul hx hb hd kk
    · cases h
  · split at h
    · cases h; obtain ⟨hd, rfl⟩ := ad; exact lv_land hx hb hd kk
    · cases h
  · split at h
    · split at h
      · cases h
      · rename_i h0; cases h; obtain ⟨hd, rfl⟩ := ad; exact lv_ldiv hx hb hd h0 kk
    · cases h
  · split at h
    · split at h
      · cases h
      · rename_i h0; cases h; obtain ⟨hd, rfl⟩ := ad; exact lv_lrem hx hb hd h0 kk
    · cases h
  · split at h
    · cases h; obtain ⟨hd, rfl⟩ := ad; exact lv_lshr hx hb hd rfl kk
    · cases h
  · split at h
    · cases h; obtain ⟨hd, rfl⟩ := ad; exact W.lcmp hx hb hd kk
    · cases h
  · split at h
    · cases h; obtain ⟨hd, rfl⟩ := ad; exact lv_i2l hx hb hd rfl kk
    · cases h
  · split at h
    · cases h; obtain ⟨hd, rfl⟩ := ad; exact lv_l2i hx hb hd rfl kk
    · cases h
  · split at h
    · cases h; obtain ⟨hd, rfl⟩ := ad; exact lv_i2b hx hb hd rfl kk
    · cases h
  · split at h
    · split at h
      · rename_i h0; cases h; obtain ⟨hd, rfl⟩ := ad; exact lv_dup hx hb hd (by rw [pm_c_cat]; exact h0) kk
      · cases h
    · cases h
  · split at h
    · split at h
      · rename_i h0; cases h; obtain ⟨hd, rfl⟩ := ad; exact lv_pop hx hb hd (by rw [pm_c_cat]; exact h0) kk
      · cases h
    · cases h
  · split at h
    · split at h
      · rename_i h0; cases h; obtain ⟨hd, rfl⟩ := ad; exact lv_pop2_2 hx hb hd (by rw [pm_c_cat]; exact h0) kk
      · cases h
    · cases h
  · split at h
    · rename_i v r
      split at h
      · rename_i h0; cases h; obtain ⟨hd, rfl⟩ := ad; exact lv_dup2_2 hx hb hd (by rw [pm_c_cat]; exact h0) kk
      · rename_i h0
        split at h
        · split at h
          · rename_i h1; cases h; obtain ⟨hd, rfl⟩ := ad
            exact lv_dup2_11 hx hb hd (by rw [pm_c_cat]; rcases lv_cat v with q | q; exact q; exact absurd q h0) (by rw [pm_c_cat]; exact h1) kk
          · cases h
        · cases h
    · cases h
  · cases h
theorem pm_lk_map {pc : Nat} {ps : List (Int × Int)} {d x : Int} : pm_lk (ps.map fun z => (z.1, (pc : Int) + z.2)) ((pc : Int) + d) x = (pc : Int) + Op.lookupswitch.offset ps d x := by
  induction ps with
  | nil => rfl
  | cons z r ih =>
    obtain ⟨k, o⟩ := z
    rw [List.map_cons, pm_lk, Op.lookupswitch.offset]
    by_cases h : x = k
    · subst h; simp
    · rw [if_neg h, ih]
      have h' : ¬ k = x := fun q => h q.symm
      simp [h, h']
theorem pm_lk_in {ps : List (Int × Int)} {d x : Int} : Op.lookupswitch.offset ps d x = d ∨ ∃ z ∈ ps, Op.lookupswitch.offset ps d x = z.2 := by
  induction ps with
  | nil => exact Or.inl rfl
  | cons z r ih =>
    obtain ⟨k, o⟩ := z
    rw [Op.lookupswitch.offset]
    by_cases h : x = k
    · subst h
      exact Or.inr ⟨(x, o), List.mem_cons_self, by simp⟩
    · have h' : ¬ k = x := fun q => h q.symm
      rcases ih with q | ⟨z, q1, q2⟩
      · exact Or.inl (by simpa [h, h'] using q)
      · exact Or.inr ⟨z, List.mem_cons_of_mem _ q1, by simpa [h, h'] using q2⟩
set_option maxHeartbeats 4000000 in
theorem sm_br {pc' : Nat} {st' : List Value} (hx : p.tables.exec = Jvm.exec) (hb : c.code = byt m) (ad : pm_Ad P tbl yN byt rT fr lo cl strs nst m pc (.inr i) nx) (h : pm_br i nx st = some (pc', st'))
    (kk : W p l e R s mi args below meth c H locs cells slots Q (F0 mi pc' ls (st'.map (pm_c ρ)))) : W p l e R s mi args below meth c H locs cells slots Q (F0 mi pc ls (st.map (pm_c ρ))) := by
  unfold pm_br at h
  split at h
  · cases h
    obtain ⟨o, u, hd, rfl, ht⟩ := ad
    exact lv_goto hx hb hd ht kk
  · rename_i cc t
    split at h
    · rename_i x r
      cases h
      obtain ⟨o, u, hd, rfl, ht, rfl⟩ := ad
      cases cc
      · exact lv_if_eq hx hb hd ht (fun q => by simpa [pm_cmp, q] using kk) (fun q => by simpa [pm_cmp, q] using kk)
      · exact lv_if_ne hx hb hd ht (fun q => by simpa [pm_cmp, q] using kk) (fun q => by simpa [pm_cmp, q] using kk)
      · exact lv_if_lt hx hb hd ht (fun q => by simpa [pm_cmp, q] using kk) (fun q => by simpa [pm_cmp, q] using kk)
      · exact lv_if_ge hx hb hd ht (fun q => by simpa [pm_cmp, q] using kk) (fun q => by simpa [pm_cmp, q] using kk)
      · exact lv_if_gt hx hb hd ht (fun q => by simpa [pm_cmp, q] using kk) (fun q => by simpa [pm_cmp, q] using kk)
      · exact lv_if_le hx hb hd ht (fun q => by simpa [pm_cmp, q] using kk) (fun q => by simpa [pm_cmp, q] using kk)
    · cases h
  · rename_i cc t
    split at h
    · rename_i y x r
      cases h
      obtain ⟨o, u, hd, rfl, ht, rfl⟩ := ad
      cases cc
      · exact lv_icmp_eq hx hb hd ht (fun q => by simpa [pm_cmp, q] using kk) (fun q => by simpa [pm_cmp, q] using kk)
      · exact lv_icmp_ne hx hb hd ht (fun q => by simpa [pm_cmp, q] using kk) (fun q => by simpa [pm_cmp, q] using kk)
      · exact lv_icmp_lt hx hb hd ht (fun q => by simpa [pm_cmp, q] using kk) (fun q => by simpa [pm_cmp, q] using kk)
      · exact lv_icmp_ge hx hb hd ht (fun q => by simpa [pm_cmp, q] using kk) (fun q => by simpa [pm_cmp, q] using kk)
      · exact lv_icmp_gt hx hb hd ht (fun q => by simpa [pm_cmp, q] using kk) (fun q => by simpa [pm_cmp, q] using kk)
      · exact lv_icmp_le hx hb hd ht (fun q => by simpa [pm_cmp, q] using kk) (fun q => by simpa [pm_cmp, q] using kk)
    · cases h
  · split at h
    · cases h
      obtain ⟨o, u, hd, rfl, ht, rfl⟩ := ad
      exact lv_ifnullN hx hb hd ht kk
    · cases h
      obtain ⟨o, u, hd, rfl, ht, rfl⟩ := ad
      exact lv_ifnull hx hb hd kk
    · cases h
  · split at h
    · cases h
      obtain ⟨o, u, hd, rfl, ht, rfl⟩ := ad
      exact lv_ifnonnullN hx hb hd kk
    · cases h
      obtain ⟨o, u, hd, rfl, ht, rfl⟩ := ad
      exact lv_ifnonnull hx hb hd ht kk
    · cases h
  · split at h
    · rename_i x r
      obtain ⟨o, u, len, os, hd, rfl, ht, rfl, hall⟩ := ad
      split at h
      · rename_i hq
        cases h
        exact lv_tableOut hx hb hd hq ht kk
      · rename_i hq
        split at h
        · rename_i t ho
          cases h
          rw [Array.getElem?_map] at ho
          obtain ⟨z, hz, rfl⟩ := Option.map_eq_some_iff.mp ho
          have h0 := hall z (Array.mem_of_getElem? hz)
          exact lv_tableIn hx hb hd (fun q => hq (Or.inl q)) (fun q => hq (Or.inr q)) hz (tgt := ((pc : Int) + z).toNat) (by omega) kk
        · cases h
    · cases h
  · split at h
    · rename_i x r
      obtain ⟨o, u, len, ps, hd, rfl, ht, rfl, hall, hp⟩ := ad
      cases h
      rw [Array.toList_map, ← ht, pm_lk_map] at kk
      have h0 : 0 ≤ (pc : Int) + Op.lookupswitch.offset ps.toList o x.toInt := by
        rcases pm_lk_in (ps := ps.toList) (d := o) (x := x.toInt) with q | ⟨z, q1, q2⟩
        · rw [q, ht]; exact Int.natCast_nonneg u
        · rw [q2]; exact hall z (Array.mem_toList_iff.mp q1)
      exact lv_lookup hx hb hd hp rfl (tgt := ((pc : Int) + Op.lookupswitch.offset ps.toList o x.toInt).toNat) (by omega) kk
    · cases h
  · cases h
end SMA
