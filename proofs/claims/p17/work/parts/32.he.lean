/-! ONE STEP: the heap -/
def pm_ft (cl : List vw_C) : Nat → FieldType
  | 0 => .int
  | 1 => .long
  | 2 => .byte
  | 3 => .boolean
  | t + 4 => .object ((cl[t]?).getD ("", fun _ => ("", "", "", false), 0)).1
theorem pm_in_vp {i : Int32} {n : Nat} (h : pm_in i n = true) : vp_in i n := by
  unfold pm_in at h
  unfold vp_in
  intro q
  rcases q with q | q
  · simp [q] at h
  · simp [q] at h
theorem pm_E_congr {P : pm_P} {tA : Nat → ClassId} {ρ : Nat → Nat} {h h' : pm_H} {b : Nat} (h1 : h'.1 b = h.1 b) (h2 : h'.2.1 b = h.2.1 b) (h3 : h'.2.2.1 b = h.2.2.1 b) : pm_E P tA ρ h' b = pm_E P tA ρ h b := by
  unfold pm_E pm_g
  simp only [h1, h2, h3]
theorem pm_u_ne {α : Type} {f : Nat → Nat → α} {a k b : Nat} {x : α} (h : b ≠ a) : pm_u f a k x b = f b := by
  funext j
  simp [pm_u, h]
theorem pm_r_ne {α : Type} {f : Nat → Nat → α} {a b : Nat} {g : Nat → α} (h : b ≠ a) : pm_r f a g b = f b := by
  funext j
  simp [pm_r, h]
theorem pm_u_eq {α : Type} {f : Nat → Nat → α} {a k : Nat} {x : α} : pm_u f a k x a = fun j => if j = k then x else f a j := by
  funext j
  simp [pm_u]
theorem pm_r_eq {α : Type} {f : Nat → Nat → α} {a : Nat} {g : Nat → α} : pm_r f a g a = g := by
  funext j
  simp [pm_r]
/-- what a written place leaves as it was, and what it holds -/
theorem pm_p_spec {t : Nat} {h h' : pm_H} {a k : Nat} {v : Value} (e : pm_p t h a k v = some h') : h'.2.2.2 = h.2.2.2 ∧ pm_g t h' a k = v ∧ (∀ j, j ≠ k → ∀ t', pm_g t' h' a j = pm_g t' h a j) ∧ (∀ b, b ≠ a → h'.1 b = h.1 b ∧ h'.2.1 b = h.2.1 b ∧ h'.2.2.1 b = h.2.2.1 b) ∧ ∀ ty, pm_tk ty = t → ∀ ρ, narrow ty (pm_c ρ v) = pm_c ρ v ∧ fits ty (pm_c ρ v) = true := by
  unfold pm_p at e
  split at e
  · rename_i x
    split at e
    · cases e
      refine ⟨rfl, by simp [pm_g, pm_u_eq], fun j hj t' => ?_, fun b hb => ⟨pm_u_ne hb, rfl, rfl⟩, fun ty ht ρ => ?_⟩
      · unfold pm_g; split <;> simp [pm_u_eq, hj]
      · cases ty <;> simp [pm_tk] at ht
        exact ⟨rfl, rfl⟩
    · split at e
      · rename_i hx
        cases e
        refine ⟨rfl, by simp [pm_g, pm_u_eq], fun j hj t' => ?_, fun b hb => ⟨pm_u_ne hb, rfl, rfl⟩, fun ty ht ρ => ?_⟩
        · unfold pm_g; split <;> simp [pm_u_eq, hj]
        · cases ty <;> simp [pm_tk] at ht
          rcases hx with rfl | rfl <;> exact ⟨rfl, rfl⟩
      · cases e
    · cases e
  · split at e
    · rename_i ht0
      cases e
      subst ht0
      refine ⟨rfl, by simp [pm_g, pm_u_eq], fun j hj t' => ?_, fun b hb => ⟨rfl, pm_u_ne hb, rfl⟩, fun ty ht ρ => ?_⟩
      · unfold pm_g; split <;> simp [pm_u_eq, hj]
      · cases ty <;> simp [pm_tk] at ht
        exact ⟨rfl, rfl⟩
    · cases e
  · split at e
    · rename_i ht0
      cases e
      subst ht0
      refine ⟨rfl, by simp [pm_g, pm_u_eq, va_rf], fun j hj t' => ?_, fun b hb => ⟨rfl, rfl, pm_u_ne hb⟩, fun ty ht ρ => ?_⟩
      · unfold pm_g; split <;> simp [pm_u_eq, hj]
      · cases ty <;> simp [pm_tk] at ht <;> exact ⟨rfl, rfl⟩
    · cases e
  · split at e
    · rename_i ht0
      cases e
      subst ht0
      refine ⟨rfl, by simp [pm_g, pm_u_eq, va_rf], fun j hj t' => ?_, fun b hb => ⟨rfl, rfl, pm_u_ne hb⟩, fun ty ht ρ => ?_⟩
      · unfold pm_g; split <;> simp [pm_u_eq, hj]
      · cases ty <;> simp [pm_tk] at ht <;> exact ⟨rfl, rfl⟩
    · cases e
  · cases e
theorem pm_map_set {N k : Nat} {f g : Nat → Value} {v : Value} (hv : g k = v) (ho : ∀ j, j ≠ k → g j = f j) : ((List.range N).map f).set k v = (List.range N).map g := by
  apply List.ext_getElem?
  intro j
  rw [List.getElem?_set]
  by_cases e : k = j
  · subst e
    simp only [if_true, List.length_map, List.length_range, List.getElem?_map, List.getElem?_range]
    by_cases h : k < N
    · simp [h, hv]
    · simp [h]
  · rw [if_neg e]
    simp only [List.getElem?_map]
    by_cases h : j < N
    · simp [h, ho j (fun q => e q.symm)]
    · simp [h]
theorem pm_sh_spec {P : pm_P} {h : pm_H} {a : Nat} {x : pm_S} (e : pm_sh P h a = some x) : a < h.2.2.2 ∧ pm_shp P a = some x := by
  unfold pm_sh at e
  split at e
  · exact ⟨by assumption, e⟩
  · cases e
theorem pm_Z_of {h h' : pm_H} (hz : pm_Z h) {a : Nat} (ha : a < h.2.2.2) (hn : h'.2.2.2 = h.2.2.2) (ho : ∀ b, b ≠ a → h'.1 b = h.1 b ∧ h'.2.1 b = h.2.1 b ∧ h'.2.2.1 b = h.2.2.1 b) : pm_Z h' := by
  intro b k hb
  have hne : b ≠ a := by omega
  obtain ⟨h1, h2, h3⟩ := ho b hne
  rw [h1, h2, h3]
  exact hz b k (by omega)
section SMH
variable {P : pm_P} {tbl : List Jvm.Cond} {yN : Nat → MethodName} {byt : Nat → ByteArray} {rT : Nat → Option FieldType} {fr lo : Nat → Nat} {cl : List vw_C} {strs : List (String × Nat × Nat)} {nst : List Jvm.Cond} {ρ : Nat → Nat} {tA : Nat → ClassId} {base : Nat} {D : va_G} {tys : List (ClassId × FieldType)}
variable {p : Program} {l : Launch} {e : Env} {R : Room} {s : State} {mi : MethodId} {args : Array Value} {below : List Frame} {meth : Method} {c : Code} {H : Heap} {locs : List Loc} {cells slots : Nat} {Q : State → Prop}
variable {m pc nx : Nat} {i : Instr} {lv st : List Value} {ls : Array Slot} {h : pm_H}
set_option maxHeartbeats 4000000 in
theorem sm_he {st' : List Value} {h' : pm_H} (hx : p.tables.exec = Jvm.exec) (hb : c.code = byt m) (hml : c.maxLocals = ls.size) (hown : s.vm.findClass (yN m).cls = some mi.cls) (hname : meth.name = (yN m).name) (hts : ∀ w ∈ tbl, w.before args s = true) (hnst : ∀ w ∈ nst, w.before args s = true) (hK : va_K D cl tys s)
    (hty : ∀ (a t n : Nat), pm_shp P a = some (.inr (t, n)) → ∃ t0 : Nat, tys[t0]? = some (tA t, pm_ft cl t)) (hρ : ∀ a, a < 99999 → ρ a = base + a) (hR : R.frames = fr m ∧ R.locals = lo m)
    (hscr : i = .caload ∨ i = .saload → ∃ L xs, va_X (ρ 99999) L xs s s.heap ∧ ρ 99999 < base ∧ ρ 99999 < s.heap.size ∧ L = (pm_scr P).length ∧ ∀ j, j < L → xs j = (pm_scr P).getD j 0)
    (ad : pm_Ad P tbl yN byt rT fr lo cl strs nst m pc (.inr i) nx) (hrel : pm_Rel P tA ρ base D cl h H) (hS : va_S (fun q : Nat => base ≤ q) s.heap H locs) (hnt : i ≠ .invokevirtual 9001 ∧ i ≠ .invokevirtual 9002) (hh : pm_he P i st h = some (st', h'))
    (kk : ∀ (H' : Heap) (locs' : List Loc), pm_Rel P tA ρ base D cl h' H' → va_S (fun q : Nat => base ≤ q) s.heap H' locs' → W p l e R s mi args below meth c H' locs' cells slots Q (F0 mi nx ls (st'.map (pm_c ρ)))) : W p l e R s mi args below meth c H locs cells slots Q (F0 mi pc ls (st.map (pm_c ρ))) := by
  obtain ⟨hP, hn9, hZ⟩ := id hrel
  have hD := pm_D (P := P) (tA := tA) (h := h) hρ hn9
  unfold pm_he at hh
  split at hh
  · -- getfield
    rename_i n
    split at hh
    · rename_i a r
      split at hh
      · rename_i hsh
        cases hh
        obtain ⟨ha, hs⟩ := pm_sh_spec hsh
        obtain ⟨j, hd, rfl, C, T, N, ty, ⟨hc, hN, hin, hty0, hnm, hft⟩, hk, -, hl⟩ := ad
        have he : (pm_w P tA ρ h)[a]? = some (ρ a, .inr (n / 64, (List.range (pm_nf P (n / 64))).map fun k => pm_c ρ (pm_g (pm_fty P (n / 64) k) h a k))) := by
          rw [pm_w_get ha]; simp only [pm_E, hs]
        have hv : ((List.range (pm_nf P (n / 64))).map fun k => pm_c ρ (pm_g (pm_fty P (n / 64) k) h a k))[n % 64]? = some (pm_c ρ (pm_g (pm_fty P (n / 64) (n % 64)) h a (n % 64))) := by
          rw [← hN]; simp [hk]
        rcases hl with hl | ⟨host, hl⟩
        · exact va_get hx hb hts hin hown hK hP a he hc (n % 64) hk (hts _ hl) (fun _ q => q) hv hd (kk H locs hrel hS)
        · exact va_getN hx hb hts hin hown hK hP a he hc (n % 64) hk (hnst _ hl) (fun _ q => q) hv hd (kk H locs hrel hS)
      · cases hh
    · cases hh
  · -- putfield
    rename_i n
    split at hh
    · rename_i v a r
      split at hh
      · rename_i hsh
        obtain ⟨h1, hp1, hp2⟩ := Option.map_eq_some_iff.mp hh
        cases hp2
        obtain ⟨ha, hs⟩ := pm_sh_spec hsh
        obtain ⟨j, hd, rfl, C, T, N, ty, ⟨hc, hN, hin, hty0, hnm, hft⟩, hk, -, hl⟩ := ad
        obtain ⟨q1, q2, q3, q4, q5⟩ := pm_p_spec hp1
        obtain ⟨q6, q7⟩ := q5 (ty (n % 64)) (hft _ hk).1.symm ρ
        have he : (pm_w P tA ρ h)[a]? = some (ρ a, .inr (n / 64, (List.range (pm_nf P (n / 64))).map fun k => pm_c ρ (pm_g (pm_fty P (n / 64) k) h a k))) := by
          rw [pm_w_get ha]; simp only [pm_E, hs]
        have hset : (pm_w P tA ρ h).set a (ρ a, .inr (n / 64, ((List.range (pm_nf P (n / 64))).map fun k => pm_c ρ (pm_g (pm_fty P (n / 64) k) h a k)).set (n % 64) (pm_c ρ v))) = pm_w P tA ρ h' := by
          refine pm_w_set q1 ?_ (fun b hb9 => pm_E_congr (q4 b hb9).1 (q4 b hb9).2.1 (q4 b hb9).2.2)
          simp only [pm_E, hs]
          rw [pm_map_set (f := fun k => pm_c ρ (pm_g (pm_fty P (n / 64) k) h a k)) (g := fun k => pm_c ρ (pm_g (pm_fty P (n / 64) k) h' a k)) (by show pm_c ρ _ = _; rw [q2]) (fun j9 hj9 => by show pm_c ρ _ = pm_c ρ _; rw [q3 j9 hj9])]
        have fin : ∀ (H1 : Heap) (locs1 : List Loc), va_P D cl ((pm_w P tA ρ h).set a (ρ a, .inr (n / 64, ((List.range (pm_nf P (n / 64))).map fun k => pm_c ρ (pm_g (pm_fty P (n / 64) k) h a k)).set (n % 64) (pm_c ρ v)))) H1 → va_S (fun q : Nat => base ≤ q) s.heap H1 locs1 → W p l e R s mi args below meth c H1 locs1 cells slots Q (F0 mi (pc + 3) ls (st'.map (pm_c ρ))) := by
          intro H1 locs1 hP1 hS1
          rw [hset] at hP1
          exact kk H1 locs1 ⟨hP1, by rw [q1]; exact hn9, pm_Z_of hZ ha q1 q4⟩ hS1
        have hlen : n % 64 < ((List.range (pm_nf P (n / 64))).map fun k => pm_c ρ (pm_g (pm_fty P (n / 64) k) h a k)).length := by rw [← hN]; simp [hk]
        rcases hl with ⟨hf, hl⟩ | ⟨hf, hi0, hdc, hl⟩
        · rcases hl with hl | ⟨host, hl⟩
          · exact va_put hx hb hts hin ty hty0 hnm hown hK hP hD hS a he hc (n % 64) hk (hts _ hl) (fun _ q => q) hf (hty0 _ hk) q6 q7 hlen hd (fun H1 locs1 hP1 hD1 hS1 => fin H1 locs1 hP1 hS1)
          · exact va_putN hx hb hts hin ty hty0 hnm hown hK hP hD hS a he hc (n % 64) hk (hnst _ hl) (fun _ q => q) hf (hty0 _ hk) q6 q7 hlen hd (fun H1 locs1 hP1 hD1 hS1 => fin H1 locs1 hP1 hS1)
        · exact va_putF hx hb hts hin ty hty0 hnm hown hK hP hD hS a he hc (n % 64) hk (hts _ hl) (fun _ q => q) hf (hname.trans hi0) hdc (hty0 _ hk) q6 q7 hlen hd (fun H1 locs1 hP1 hD1 hS1 => fin H1 locs1 hP1 hS1)
      · cases hh
    · cases hh
  · -- arraylength
    split at hh
    · rename_i a r
      split at hh
      · rename_i t n hsh
        cases hh
        obtain ⟨ha, hs⟩ := pm_sh_spec hsh
        obtain ⟨hd, rfl⟩ := ad
        obtain ⟨t0, ht⟩ := hty a t n hs
        have he : ∃ x : vp_A, (pm_w P tA ρ h)[a]? = some (ρ a, .inl (tA t, x)) ∧ x.1 = n := by
          rw [pm_w_get ha]
          match t, hs with
          | 0, hs => exact ⟨(n, _), by simp only [pm_E, hs]; rfl, rfl⟩
          | 1, hs => exact ⟨(n, _), by simp only [pm_E, hs]; rfl, rfl⟩
          | 2, hs => exact ⟨(n, _), by simp only [pm_E, hs]; rfl, rfl⟩
          | 3, hs => exact ⟨(n, _), by simp only [pm_E, hs]; rfl, rfl⟩
          | t + 4, hs => exact ⟨(n, _), by simp only [pm_E, hs]; rfl, rfl⟩
        obtain ⟨x, he, hxn⟩ := he
        exact va_alen hx hb hK hP a t0 he ht (by rw [hxn]) hd (kk H locs hrel hS)
      · cases hh
    · cases hh
  · -- iaload
    split at hh
    · rename_i j a r
      split at hh
      · rename_i n hsh
        split at hh
        · rename_i hj
          cases hh
          obtain ⟨ha, hs⟩ := pm_sh_spec hsh
          obtain ⟨hd, rfl⟩ := ad
          obtain ⟨t0, ht⟩ := hty a 0 n hs
          have he : (pm_w P tA ρ h)[a]? = some (ρ a, .inl (tA 0, n, .inl (h.1 a))) := by rw [pm_w_get ha]; simp only [pm_E, hs]
          exact va_iald hx hb hK hP a t0 he ht (pm_in_vp hj) hd (kk H locs hrel hS)
        · cases hh
      · cases hh
    · cases hh
  · -- baload
    split at hh
    · rename_i j a r
      split at hh
      · rename_i n hsh
        split at hh
        · rename_i hj
          cases hh
          obtain ⟨ha, hs⟩ := pm_sh_spec hsh
          obtain ⟨hd, rfl⟩ := ad
          obtain ⟨t0, ht⟩ := hty a 2 n hs
          have he : (pm_w P tA ρ h)[a]? = some (ρ a, .inl (tA 2, n, .inl (h.1 a))) := by rw [pm_w_get ha]; simp only [pm_E, hs]
          exact va_bald hx hb hK hP a t0 he ht (pm_in_vp hj) hd (kk H locs hrel hS)
        · cases hh
      · rename_i n hsh
        split at hh
        · rename_i hj
          cases hh
          obtain ⟨ha, hs⟩ := pm_sh_spec hsh
          obtain ⟨hd, rfl⟩ := ad
          obtain ⟨t0, ht⟩ := hty a 3 n hs
          have he : (pm_w P tA ρ h)[a]? = some (ρ a, .inl (tA 3, n, .inl (h.1 a))) := by rw [pm_w_get ha]; simp only [pm_E, hs]
          exact va_zald hx hb hK hP a t0 he ht (pm_in_vp hj) hd (kk H locs hrel hS)
        · cases hh
      · cases hh
    · cases hh
  · -- laload
    split at hh
    · rename_i j a r
      split at hh
      · rename_i n hsh
        split at hh
        · rename_i hj
          cases hh
          obtain ⟨ha, hs⟩ := pm_sh_spec hsh
          obtain ⟨hd, rfl⟩ := ad
          obtain ⟨t0, ht⟩ := hty a 1 n hs
          have he : (pm_w P tA ρ h)[a]? = some (ρ a, .inl (tA 1, n, .inr (.inl (h.2.1 a)))) := by rw [pm_w_get ha]; simp only [pm_E, hs]
          exact va_lald hx hb hK hP a t0 he ht (pm_in_vp hj) hd (kk H locs hrel hS)
        · cases hh
      · cases hh
    · cases hh
  · -- aaload
    split at hh
    · rename_i j a r
      split at hh
      · rename_i t n hsh
        split at hh
        · rename_i hj
          cases hh
          obtain ⟨ha, hs⟩ := pm_sh_spec hsh
          obtain ⟨hd, rfl⟩ := ad
          obtain ⟨t0, ht⟩ := hty a (t + 4) n hs
          have he : (pm_w P tA ρ h)[a]? = some (ρ a, .inl (tA (t + 4), n, .inr (.inr (.inr (.inr fun i => (h.2.2.1 a i).map ρ))))) := by rw [pm_w_get ha]; simp only [pm_E, hs]
          have kk1 := kk H locs hrel hS
          rw [List.map_cons, pm_c_rf] at kk1
          exact va_aldq hx hb hK hP a t0 he ht (pm_in_vp hj) hd kk1
        · cases hh
      · cases hh
    · cases hh
  · -- iastore
    split at hh
    · rename_i x j a r
      split at hh
      · rename_i n hsh
        split at hh
        · rename_i hj
          cases hh
          obtain ⟨ha, hs⟩ := pm_sh_spec hsh
          obtain ⟨hd, rfl⟩ := ad
          obtain ⟨t0, ht⟩ := hty a 0 n hs
          have he : (pm_w P tA ρ h)[a]? = some (ρ a, .inl (tA 0, n, .inl (h.1 a))) := by rw [pm_w_get ha]; simp only [pm_E, hs]
          refine va_iast hx hb hK hP hD hS a t0 he ht (pm_in_vp hj) hd (fun H1 locs1 hP1 hD1 hS1 => ?_)
          have hset : (pm_w P tA ρ h).set a (ρ a, .inl (tA 0, n, .inl (upd (h.1 a) j.toNatClampNeg x))) = pm_w P tA ρ (pm_sI h a j.toNatClampNeg x) := by
            refine pm_w_set rfl ?_ (fun b hb9 => pm_E_congr (pm_u_ne hb9) rfl rfl)
            simp only [pm_E, hs, pm_u_eq]
            rfl
          rw [hset] at hP1
          exact kk H1 locs1 ⟨hP1, hn9, pm_Z_of hZ ha rfl (fun b hb9 => ⟨pm_u_ne hb9, rfl, rfl⟩)⟩ hS1
        · cases hh
      · cases hh
    · cases hh
  · -- bastore
    split at hh
    · rename_i x j a r
      split at hh
      · rename_i n hsh
        split at hh
        · rename_i hj
          cases hh
          obtain ⟨ha, hs⟩ := pm_sh_spec hsh
          obtain ⟨hd, rfl⟩ := ad
          obtain ⟨t0, ht⟩ := hty a 2 n hs
          have he : (pm_w P tA ρ h)[a]? = some (ρ a, .inl (tA 2, n, .inl (h.1 a))) := by rw [pm_w_get ha]; simp only [pm_E, hs]
          refine va_bast hx hb hK hP hD hS a t0 he ht (pm_in_vp hj) hd (fun H1 locs1 hP1 hD1 hS1 => ?_)
          have hset : (pm_w P tA ρ h).set a (ρ a, .inl (tA 2, n, .inl (upd (h.1 a) j.toNatClampNeg (vp_nar .byte x)))) = pm_w P tA ρ (pm_sI h a j.toNatClampNeg (vp_nar .byte x)) := by
            refine pm_w_set rfl ?_ (fun b hb9 => pm_E_congr (pm_u_ne hb9) rfl rfl)
            simp only [pm_E, hs, pm_u_eq]
            rfl
          rw [hset] at hP1
          exact kk H1 locs1 ⟨hP1, hn9, pm_Z_of hZ ha rfl (fun b hb9 => ⟨pm_u_ne hb9, rfl, rfl⟩)⟩ hS1
        · cases hh
      · rename_i n hsh
        split at hh
        · rename_i hj
          cases hh
          obtain ⟨ha, hs⟩ := pm_sh_spec hsh
          obtain ⟨hd, rfl⟩ := ad
          obtain ⟨t0, ht⟩ := hty a 3 n hs
          have he : (pm_w P tA ρ h)[a]? = some (ρ a, .inl (tA 3, n, .inl (h.1 a))) := by rw [pm_w_get ha]; simp only [pm_E, hs]
          refine va_zast hx hb hK hP hD hS a t0 he ht (pm_in_vp hj) hd (fun H1 locs1 hP1 hD1 hS1 => ?_)
          have hset : (pm_w P tA ρ h).set a (ρ a, .inl (tA 3, n, .inl (upd (h.1 a) j.toNatClampNeg (vp_nar .boolean x)))) = pm_w P tA ρ (pm_sI h a j.toNatClampNeg (vp_nar .boolean x)) := by
            refine pm_w_set rfl ?_ (fun b hb9 => pm_E_congr (pm_u_ne hb9) rfl rfl)
            simp only [pm_E, hs, pm_u_eq]
            rfl
          rw [hset] at hP1
          exact kk H1 locs1 ⟨hP1, hn9, pm_Z_of hZ ha rfl (fun b hb9 => ⟨pm_u_ne hb9, rfl, rfl⟩)⟩ hS1
        · cases hh
      · cases hh
    · cases hh
  · -- lastore
    split at hh
    · rename_i x j a r
      split at hh
      · rename_i n hsh
        split at hh
        · rename_i hj
          cases hh
          obtain ⟨ha, hs⟩ := pm_sh_spec hsh
          obtain ⟨hd, rfl⟩ := ad
          obtain ⟨t0, ht⟩ := hty a 1 n hs
          have he : (pm_w P tA ρ h)[a]? = some (ρ a, .inl (tA 1, n, .inr (.inl (h.2.1 a)))) := by rw [pm_w_get ha]; simp only [pm_E, hs]
          refine va_last hx hb hK hP hD hS a t0 he ht (pm_in_vp hj) hd (fun H1 locs1 hP1 hD1 hS1 => ?_)
          have hset : (pm_w P tA ρ h).set a (ρ a, .inl (tA 1, n, .inr (.inl (vp_updL (h.2.1 a) j.toNatClampNeg x)))) = pm_w P tA ρ (pm_sL h a j.toNatClampNeg x) := by
            refine pm_w_set rfl ?_ (fun b hb9 => pm_E_congr rfl (pm_u_ne hb9) rfl)
            simp only [pm_E, hs, pm_u_eq]
            rfl
          rw [hset] at hP1
          exact kk H1 locs1 ⟨hP1, hn9, pm_Z_of hZ ha rfl (fun b hb9 => ⟨rfl, pm_u_ne hb9, rfl⟩)⟩ hS1
        · cases hh
      · cases hh
    · cases hh
  · -- aastore
    split at hh
    · rename_i x j a r
      split at hh
      · rename_i t n hsh
        split at hh
        · rename_i hj
          cases hh
          obtain ⟨ha, hs⟩ := pm_sh_spec hsh
          obtain ⟨hj, hshx⟩ := hj
          obtain ⟨hxa, hsx⟩ := pm_sh_spec hshx
          obtain ⟨hd, rfl⟩ := ad
          obtain ⟨t0, ht⟩ := hty a (t + 4) n hs
          have he : (pm_w P tA ρ h)[a]? = some (ρ a, .inl (tA (t + 4), n, .inr (.inr (.inr (.inr fun i => (h.2.2.1 a i).map ρ))))) := by rw [pm_w_get ha]; simp only [pm_E, hs]
          have hex : ∃ vs, (pm_w P tA ρ h)[x]? = some (ρ x, .inr (t, vs)) := ⟨_, by rw [pm_w_get hxa]; simp only [pm_E, hsx]; rfl⟩
          obtain ⟨vs, hex⟩ := hex
          obtain ⟨r0, hr0, -⟩ := hP x _ hex
          have ht' : tys[t0]? = some (tA (t + 4), .object r0.1) := by rw [ht]; simp only [pm_ft]; rw [show cl[t]? = some r0 from hr0]; rfl
          refine va_astq hx hb hK hP hD hS a t0 x t he ht' hex hr0 (pm_in_vp hj) hd (fun H1 locs1 hP1 hD1 hS1 => ?_)
          have hset : (pm_w P tA ρ h).set a (ρ a, .inl (tA (t + 4), n, .inr (.inr (.inr (.inr (va_up (fun i => (h.2.2.1 a i).map ρ) j.toNatClampNeg (some (ρ x)))))))) = pm_w P tA ρ (pm_sR h a j.toNatClampNeg (some x)) := by
            refine pm_w_set rfl ?_ (fun b hb9 => pm_E_congr rfl rfl (pm_u_ne hb9))
            simp only [pm_E, hs, pm_u_eq]
            congr 7
            funext q
            by_cases hq : q = j.toNatClampNeg <;> simp [va_up, hq]
          rw [hset] at hP1
          exact kk H1 locs1 ⟨hP1, hn9, pm_Z_of hZ ha rfl (fun b hb9 => ⟨rfl, rfl, pm_u_ne hb9⟩)⟩ hS1
        · cases hh
      · cases hh
    · cases hh
  · -- arraycopy
    rename_i n
    split at hh
    · rename_i hn
      subst hn
      split at hh
      · rename_i cn dp b sp a r
        split at hh
        · rename_i n0 n1 hsa hsb
          split at hh
          · rename_i hq
            cases hh
            obtain ⟨g1, g2, g3, g4, g5, g6⟩ := hq
            obtain ⟨ha, hs⟩ := pm_sh_spec hsa
            obtain ⟨hb1, hs1⟩ := pm_sh_spec hsb
            obtain ⟨rfl, hor⟩ := ad
            rcases hor with ⟨-, j, hd, w1, w2, w3, w4, w5, w6⟩ | ⟨h0, -⟩
            · obtain ⟨t0, ht⟩ := hty a 0 n0 hs
              obtain ⟨t1, ht1⟩ := hty b 0 n1 hs1
              have he : (pm_w P tA ρ h)[a]? = some (ρ a, .inl (tA 0, n0, .inl (h.1 a))) := by rw [pm_w_get ha]; simp only [pm_E, hs]
              have he1 : (pm_w P tA ρ h)[b]? = some (ρ b, .inl (tA 0, n1, .inl (h.1 b))) := by rw [pm_w_get hb1]; simp only [pm_E, hs1]
              refine va_copyi hx hb hml hown (hts _ w1) (hts _ w2) (hts _ w3) (hts _ w4) hK hP hD hS a b t0 t1 he he1 ht ht1 rfl g1 g2 g3 g4 g5 (fun _ _ => rfl) (by rw [hR.1]; exact w5) (by rw [hR.2, pm_c_sum]; omega) hd (fun H1 locs1 hP1 hD1 hS1 => ?_)
              have hset : (pm_w P tA ρ h).set b (ρ b, .inl (tA 0, n1, .inl (va_cpy (h.1 a) (h.1 b) sp.toNatClampNeg dp.toNatClampNeg cn.toNatClampNeg))) = pm_w P tA ρ (pm_sA h b (va_cpy (h.1 a) (h.1 b) sp.toNatClampNeg dp.toNatClampNeg cn.toNatClampNeg)) := by
                refine pm_w_set rfl ?_ (fun b hb9 => pm_E_congr (pm_r_ne hb9) rfl rfl)
                simp only [pm_E, hs1, pm_r_eq]
              rw [hset] at hP1
              exact kk H1 locs1 ⟨hP1, hn9, pm_Z_of hZ hb1 rfl (fun b hb9 => ⟨pm_r_ne hb9, rfl, rfl⟩)⟩ hS1
            · omega
          · cases hh
        · cases hh
      · cases hh
    · cases hh
  · -- Object.<init>
    rename_i n
    split at hh
    · rename_i hn
      subst hn
      split at hh
      · rename_i a r
        split at hh
        · rename_i hq
          cases hh
          obtain ⟨rfl, hor⟩ := ad
          rcases hor with ⟨-, j, hd, w1, w2, w3, w4, w5⟩ | ⟨h0, -⟩
          · exact W.objInit (g := F0 mi pc ls _) hx hb hown (hts _ w1) (hts _ w2) (hts _ w3) rfl hml.symm rfl hd (by rw [hR.1]; exact w4) (by rw [hR.2, pm_c_sum]; show 2 * 0 + _ + 12 ≤ _; omega) (kk H locs hrel hS)
          · omega
        · cases hh
      · cases hh
    · cases hh
  · -- texts
    split at hh
    · rename_i hn
      subst hn
      exact absurd rfl hnt.1
    · split at hh
      · rename_i hn
        subst hn
        exact absurd rfl hnt.2
      · cases hh
  · -- the script's length
    split at hh
    · rename_i a r
      split at hh
      · rename_i hn
        subst hn
        cases hh
        obtain ⟨-, hd, rfl⟩ := ad
        obtain ⟨L, xs, hX, hlb, hbl, hL, hxs⟩ := hscr (Or.inl rfl)
        have kk1 := kk H locs hrel hS
        rw [List.map_cons] at kk1 ⊢
        rw [show (pm_c ρ (.int (Int32.ofNat (pm_scr P).length))) = Value.int (Int32.ofNat L) by rw [hL]; rfl] at kk1
        exact va_slen hx hb hX hbl (by omega) hS hd kk1
      · cases hh
    · cases hh
  · -- an int of the script
    split at hh
    · rename_i j a r
      split at hh
      · rename_i hn
        obtain ⟨hn, hj⟩ := hn
        subst hn
        cases hh
        obtain ⟨-, hd, rfl⟩ := ad
        obtain ⟨L, xs, hX, hlb, hbl, hL, hxs⟩ := hscr (Or.inr rfl)
        have hin := pm_in_vp hj
        have kk1 := kk H locs hrel hS
        rw [List.map_cons] at kk1
        rw [show (pm_c ρ (.int ((pm_scr P).getD j.toNatClampNeg 0))) = Value.int (xs j.toNatClampNeg) by
          rw [hxs _ (by rw [hL]; exact Nat.not_le.mp fun q => hin (Or.inr q))]; rfl] at kk1
        exact va_sld hx hb hX hbl (by omega) hS (by rw [hL]; exact hin) hd kk1
      · cases hh
    · cases hh
  · cases hh
end SMH
