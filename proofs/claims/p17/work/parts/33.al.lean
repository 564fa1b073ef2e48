/-! ONE STEP: cells are made; constants -/
theorem pm_w_push {P : pm_P} {tA : Nat → ClassId} {ρ : Nat → Nat} {h : pm_H} : pm_w P tA ρ (h.1, h.2.1, h.2.2.1, h.2.2.2 + 1) = pm_w P tA ρ h ++ [(ρ h.2.2.2, pm_E P tA ρ h h.2.2.2)] := by
  unfold pm_w
  simp only [List.range_succ, List.map_append, List.map_cons, List.map_nil]
  rfl
theorem pm_Z_push {h : pm_H} (hz : pm_Z h) : pm_Z (h.1, h.2.1, h.2.2.1, h.2.2.2 + 1) := fun a k ha => hz a k (Nat.le_of_succ_le ha)
section SML
variable {P : pm_P} {tbl : List Jvm.Cond} {yN : Nat → MethodName} {byt : Nat → ByteArray} {rT : Nat → Option FieldType} {fr lo : Nat → Nat} {cl : List vw_C} {strs : List (String × Nat × Nat)} {nst : List Jvm.Cond} {ρ : Nat → Nat} {tA : Nat → ClassId} {base : Nat} {D : va_G} {tys : List (ClassId × FieldType)}
variable {p : Program} {l : Launch} {e : Env} {R : Room} {s : State} {mi : MethodId} {args : Array Value} {below : List Frame} {meth : Method} {c : Code} {H : Heap} {locs : List Loc} {Q : State → Prop} {cs : Nat × Nat}
variable {m pc nx : Nat} {i : Instr} {lv st : List Value} {ls : Array Slot} {h : pm_H}
/-- a cell at the end -/
theorem sm_push {H1 : Heap} (hρ : ∀ a, a < 99999 → ρ a = base + a) (hrel : pm_Rel P tA ρ base D cl h H) (hS : va_S (fun q : Nat => base ≤ q) s.heap H locs) (hsz : H.size = base + h.2.2.2) (hn : h.2.2.2 < 99999)
    (o1 : ∀ q, q < H.size → H1[q]? = H[q]?) (z1 : H1.size = H.size + 1) (hat : va_at D cl (ρ h.2.2.2, pm_E P tA ρ h h.2.2.2) H1) : pm_Rel P tA ρ base D cl (h.1, h.2.1, h.2.2.1, h.2.2.2 + 1) H1 ∧ va_S (fun q : Nat => base ≤ q) s.heap H1 locs := by
  obtain ⟨hP, hn9, hZ⟩ := hrel
  refine ⟨⟨?_, by show h.2.2.2 + 1 ≤ _; omega, pm_Z_push hZ⟩, ⟨Nat.le_trans hS.1 (by omega), fun x h1 h2 => (o1 x (Nat.lt_of_lt_of_le h1 hS.1)).trans (hS.2.1 x h1 h2), hS.2.2⟩⟩
  rw [pm_w_push]
  have hk : ∀ (k : Nat) (x : Nat × va_E), (pm_w P tA ρ h)[k]? = some x → H1[x.1]? = H[x.1]? := fun k x hx => o1 x.1 ((hP k x hx).lt)
  refine (hP.kept hk).app (fun k x hx => ?_)
  have hz : k < 1 := (List.getElem?_eq_some_iff.mp hx).1
  rw [show k = 0 by omega] at hx
  cases hx
  exact hat
set_option maxHeartbeats 4000000 in
theorem sm_al {st' : List Value} {h' : pm_H} {cs' : Nat × Nat} (hx : p.tables.exec = Jvm.exec) (hb : c.code = byt m) (hown : s.vm.findClass (yN m).cls = some mi.cls) (hts : ∀ w ∈ tbl, w.before args s = true) (hnst : ∀ w ∈ nst, w.before args s = true) (hK : va_K D cl tys s)
    (hty : ∀ (a t n : Nat), pm_shp P a = some (.inr (t, n)) → ∃ t0 : Nat, tys[t0]? = some (tA t, pm_ft cl t)) (hρ : ∀ a, a < 99999 → ρ a = base + a) (hRc : R.cells = pm_mc P m ∧ R.slots = pm_ms P m)
    (ad : pm_Ad P tbl yN byt rT fr lo cl strs nst m pc (.inr i) nx) (hrel : pm_Rel P tA ρ base D cl h H) (hS : va_S (fun q : Nat => base ≤ q) s.heap H locs) (hsz : H.size = base + h.2.2.2) (hh : pm_al P m i st h cs = some (st', h', cs'))
    (kk : ∀ (H' : Heap), pm_Rel P tA ρ base D cl h' H' → va_S (fun q : Nat => base ≤ q) s.heap H' locs → W p l e R s mi args below meth c H' locs cs'.1 cs'.2 Q (F0 mi nx ls (st'.map (pm_c ρ)))) : W p l e R s mi args below meth c H locs cs.1 cs.2 Q (F0 mi pc ls (st.map (pm_c ρ))) := by
  obtain ⟨hP, hn9, hZ⟩ := id hrel
  have hz0 : h.1 h.2.2.2 = fun _ => 0 := funext fun k => (hZ h.2.2.2 k (Nat.le_refl _)).1
  have hz1 : h.2.1 h.2.2.2 = fun _ => 0 := funext fun k => (hZ h.2.2.2 k (Nat.le_refl _)).2.1
  have hz2 : h.2.2.1 h.2.2.2 = fun _ => none := funext fun k => (hZ h.2.2.2 k (Nat.le_refl _)).2.2
  unfold pm_al at hh
  split at hh
  · -- new
    rename_i cn
    split at hh
    · rename_i hq
      obtain ⟨hs, hc1, hc2, hn⟩ := hq
      cases hh
      obtain ⟨j, C, T, N, ty, hd, rfl, ⟨hc, hN, hin, hty0, hnm, hft⟩, w1, w2, w3⟩ := ad
      have hKn := hK.1 cn _ hc
      have hrn : ρ h.2.2.2 = H.size := by rw [hρ _ hn, hsz]
      refine W.newcK (g := F0 mi pc ls _) hx hb hown (hts _ w1) (hts _ w2) (hts _ w3) rfl hd (by rw [hRc.1]; exact hc1) (by rw [hRc.2, hN]; exact hc2) hKn.2.1 rfl fun H1 kC hkC e1 z1 o1 => ?_
      have hob := u_born ty hts hin hKn hkC e1 hty0
      obtain ⟨r1, r2⟩ := sm_push (H1 := H1) hρ hrel hS hsz hn o1 z1 (by
        simp only [pm_E, hs]
        refine ⟨_, hc, ?_⟩
        rw [hrn]
        refine hob.to (fun k hk => ?_)
        have hk' : k < pm_nf P cn := by rw [← hN]; exact hk
        simp only [vp_V, List.getD_eq_getElem?_getD, List.getElem?_map, List.getElem?_range hk', Option.map_some, Option.getD_some]
        obtain ⟨f1, f2⟩ := hft k hk
        rw [f1]
        revert f2
        cases ty k <;> intro f2 <;> first | (simp [pm_tk] at f2; done) | (simp [pm_tk, pm_g, hz0, hz1, hz2, defaultValue, pm_c, va_rf]; done))
      have := kk H1 r1 r2
      rw [List.map_cons, show pm_c ρ (.ref h.2.2.2) = Value.ref H.size from congrArg Value.ref hrn, ← hN] at this
      exact this
    · cases hh
  · -- newarray
    rename_i t
    split at hh
    · rename_i n r
      split at hh
      · rename_i hq
        obtain ⟨hs, ht4, hn0, hn6, hc1, hc2, hn⟩ := hq
        cases hh
        obtain ⟨hd, rfl, w1⟩ := ad
        have hrn : ρ h.2.2.2 = H.size := by rw [hρ _ hn, hsz]
        obtain ⟨t0, ht⟩ := hty _ _ _ hs
        refine va_newaK (g := F0 mi pc ls _) hx hb (hts _ w1) rfl hd rfl hn0 rfl ?_ (by rw [hRc.1]; exact hc1) (by rw [hRc.2]; exact hc2) rfl fun H1 cA e1 z1 o1 hAr hNm => ?_
        · cases t <;> simp only [newarray.typeOf, componentBytes] <;> omega
        · have hat : va_at D cl (ρ h.2.2.2, pm_E P tA ρ h h.2.2.2) H1 := by
            have hra := (hK.2 t0 _ ht).2
            cases t with
            | int =>
              simp only [pm_E, show pm_shp P h.2.2.2 = _ from hs, pm_at]
              show H1[ρ h.2.2.2]? = some (vp_cell (tA 0) (n.toNatClampNeg, Sum.inl (h.1 h.2.2.2)))
              have hA : tA 0 = cA := Option.some.inj ((show s.vm.findClass _ = some (tA 0) from hra).symm.trans hNm)
              rw [hrn, e1, hA, hz0]
              rfl
            | long =>
              simp only [pm_E, show pm_shp P h.2.2.2 = _ from hs, pm_at]
              show H1[ρ h.2.2.2]? = some (vp_cell (tA 1) (n.toNatClampNeg, Sum.inr (Sum.inl (h.2.1 h.2.2.2))))
              have hA : tA 1 = cA := Option.some.inj ((show s.vm.findClass _ = some (tA 1) from hra).symm.trans hNm)
              rw [hrn, e1, hA, hz1]
              rfl
            | byte =>
              simp only [pm_E, show pm_shp P h.2.2.2 = _ from hs, pm_at]
              show H1[ρ h.2.2.2]? = some (vp_cell (tA 2) (n.toNatClampNeg, Sum.inl (h.1 h.2.2.2)))
              have hA : tA 2 = cA := Option.some.inj ((show s.vm.findClass _ = some (tA 2) from hra).symm.trans hNm)
              rw [hrn, e1, hA, hz0]
              rfl
            | boolean =>
              simp only [pm_E, show pm_shp P h.2.2.2 = _ from hs, pm_at]
              show H1[ρ h.2.2.2]? = some (vp_cell (tA 3) (n.toNatClampNeg, Sum.inl (h.1 h.2.2.2)))
              have hA : tA 3 = cA := Option.some.inj ((show s.vm.findClass _ = some (tA 3) from hra).symm.trans hNm)
              rw [hrn, e1, hA, hz0]
              rfl
            | _ => exact absurd ht4 (by decide)
          obtain ⟨r1, r2⟩ := sm_push (H1 := H1) hρ hrel hS hsz hn o1 z1 hat
          have := kk H1 r1 r2
          rw [List.map_cons, show pm_c ρ (.ref h.2.2.2) = Value.ref H.size from congrArg Value.ref hrn] at this
          exact this
      · cases hh
    · cases hh
  · -- anewarray
    rename_i cn
    split at hh
    · rename_i n r
      split at hh
      · rename_i hq
        obtain ⟨hs, hn0, hn6, hc1, hc2, hn⟩ := hq
        cases hh
        obtain ⟨j, C, T, N, hd, rfl, hc, w1, w2⟩ := ad
        have hrn : ρ h.2.2.2 = H.size := by rw [hρ _ hn, hsz]
        obtain ⟨t0, ht⟩ := hty _ _ _ hs
        refine W.anew (g := F0 mi pc ls _) hx hb hown (hts _ w1) (hnst _ w2) rfl hd rfl hn0 (by omega) (by rw [hRc.1]; exact hc1) (by rw [hRc.2]; exact hc2) fun cA kA comp f1 f2 f3 f4 => ?_
        have hat : va_at D cl (ρ h.2.2.2, pm_E P tA ρ h h.2.2.2) (H.push { cls := cA, slots := Array.replicate n.toNatClampNeg .null, vm := .none }) := by
          have hra := (hK.2 t0 _ ht).2
          simp only [pm_ft, hc, Option.getD_some] at hra
          obtain ⟨kA', comp', g1, g2, g3, g4⟩ := hra
          have hA : tA (cn + 4) = cA := Option.some.inj (g4.symm.trans f1)
          simp only [pm_E, hs]
          show (H.push _)[ρ h.2.2.2]? = some (vp_cell (tA (cn + 4)) (n.toNatClampNeg, _))
          rw [hrn, hA, hz2]
          simp only [Array.getElem?_push_size, vp_cell, arrV]
          congr 2
          apply Array.ext
          · simp
          · intro q _ _
            simp [va_rf]
        obtain ⟨r1, r2⟩ := sm_push hρ hrel hS hsz hn (fun q hq => by simp [Array.getElem?_push, Nat.ne_of_lt hq]) (by simp) hat
        have := kk _ r1 r2
        rw [List.map_cons, show pm_c ρ (.ref h.2.2.2) = Value.ref H.size from congrArg Value.ref hrn] at this
        exact this
      · cases hh
    · cases hh
  · cases hh
/-- ldc_w of a text -/
theorem sm_ldcSw {cells slots : Nat} {rest : List Value} {cc : ByteArray} (hexec : p.tables.exec = Jvm.exec) (hb : c.code = cc) {own tx : String} {index q : Nat} (hown : s.vm.findClass own = some mi.cls) (hZ : vk_R own index tx q s) (hdg : decode cc pc = .ok (.ldc_w index, 3))
    (k : W p l e R s mi args below meth c H locs cells slots Q (F0 mi (pc + 3) ls (.ref q :: rest))) : W p l e R s mi args below meth c H locs cells slots Q (F0 mi pc ls rest) := by
  intro T hT X
  obtain ⟨t, a1, b1⟩ := k T hT X
  exact ⟨t, X.ldcStringW hexec hown (text := tx) (a := q) hZ.1 hZ.2 (g := F0 mi pc ls rest) rfl (by rw [hb]; exact hdg) t a1, b1⟩
theorem sm_c {v : Value} {cells slots : Nat} (hx : p.tables.exec = Jvm.exec) (hb : c.code = byt m) (hown : s.vm.findClass (yN m).cls = some mi.cls) (hts : ∀ w ∈ tbl, w.before args s = true) (hstr : ∀ q ∈ strs, ∃ tx, vk_R q.1 q.2.1 tx (ρ (100000 + q.2.2)) s)
    (ad : pm_Ad P tbl yN byt rT fr lo cl strs nst m pc (.inl v) nx) (kk : W p l e R s mi args below meth c H locs cells slots Q (F0 mi nx ls ((v :: st).map (pm_c ρ)))) : W p l e R s mi args below meth c H locs cells slots Q (F0 mi pc ls (st.map (pm_c ρ))) := by
  rcases ad with ⟨n, hd, rfl, rfl⟩ | ⟨n, hd, rfl, rfl⟩ | ⟨n, hd, rfl, rfl⟩ | ⟨n, hd, rfl, rfl⟩ | ⟨hd, rfl, rfl⟩ | ⟨i, z, hd, rfl, rfl, w⟩ | ⟨i, z, hd, rfl, rfl, w⟩ | ⟨i, z, hd, rfl, rfl, w⟩ | ⟨i, j, hd, rfl, rfl, w⟩ | ⟨i, j, hd, rfl, rfl, w⟩
  · exact lv_iconst hx hb hd rfl kk
  · exact lv_bipush hx hb hd rfl kk
  · exact lv_sipush hx hb hd rfl kk
  · exact lv_lconst hx hb hd rfl kk
  · exact lv_null hx hb hd kk
  · exact lv_ldc hx hb hown (hts _ w) hd kk
  · exact lv_ldcw hx hb hown (hts _ w) hd kk
  · exact lv_ldc2 hx hb hown (hts _ w) hd kk
  · obtain ⟨tx, hz⟩ := hstr _ w
    exact va_ldcS hx hb hown hz hd kk
  · obtain ⟨tx, hz⟩ := hstr _ w
    exact sm_ldcSw hx hb hown hz hd kk
end SML
