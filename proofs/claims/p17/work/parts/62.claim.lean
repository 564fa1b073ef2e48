/-! THE CLAIM OUT OF ONE WALK OF THE LAW'S BODY. Your part is whole_start (and what it stands on); all else here is the same for every law, but numbers. -/
def R_law : String := "MaskBenchLaw"
def lw_P (b : Addr) (xs : List Int32) (args : Array Value) (s : State) : Prop := args = #[.ref b] ∧ s.IntsAt b xs ∧ xs.length ≤ 3072 ∧ (Jvm.Cond.and given_1 narrow_1).before args s = true
def lw_Q (_ : Array Value) (s : State) (o : Outcome) (t : State) : Prop := o = .returned (some (.int 1)) ∧ Framed s o t [] 600000 7302250
def lw_Z (below : List Frame) (a : Array Value) (s : State) : State → Prop := fun t => ∃ o, t.status = .running ∧ Ended t below o ∧ lw_Q a s o t
/-- the law's own end, with 1 on the stack, nothing written that was there before, its room as the claim has it -/
theorem lw_ret {p : Program} {l : Launch} {e : Env} {s : State} {m : MethodId} {below : List Frame} {meth : Method} {c : Code} {b : Nat} (hx : p.tables.exec = Jvm.exec) (hb : c.code = code) (hr : meth.sig.returnType = ret) (hlocks : meth.locks = false) {pc : Nat} {H : Heap} {ls : Array Slot} (hdg : decode code pc = .ok (.ireturn, 1)) : W p l e room_1 s m #[Value.ref b] below meth c H [] 600000 7302250 (lw_Z below #[Value.ref b] s) (F0 m pc ls [.int 1]) := by
  intro T hT X
  obtain ⟨fs, hret, hrun, hended, hW, hframe⟩ := X.leave (v := some (.int 1)) (hlocks := hlocks) (fun h => by rw [hr] at h; cases h)
  have hmeth' : T.vm.method? m = some meth := X.method'
  refine ⟨T.setFrames fs, ?_, .returned (some (.int 1)), hrun, hended, rfl, ⟨_, rfl⟩, hW, hframe⟩
  jvm_step X.here [X.here.top, hx, hb, hdg, hmeth', hr, ret, narrow_b1]
  (try refine ⟨rfl, ?_⟩); (try refine ⟨rfl, ?_⟩)
  first | (intro acts; rw [hret _ acts rfl rfl rfl]) | rw [hret _ _ rfl rfl rfl]
  exact Steps.refl _
/-- what holds at the law's entry: the machine, the code, the tables' words (any of lw_tbl by 'hts w (by decide +kernel)'), the script of L ints xs at the cell b, what the Statement gives of the start (any of its parts by flat_of_before) -/
def lw_At (p : Program) (s : State) (m : MethodId) (meth : Method) (c : Code) (b L : Nat) (xs : Nat → Int32) : Prop :=
  p.tables.exec = Jvm.exec ∧ c.code = code ∧ meth.sig.returnType = ret ∧ c.maxLocals = 4 ∧ s.vm.findClass R_law = some m.cls ∧ (∀ w ∈ lw_tbl, w.before #[Value.ref b] s = true) ∧ va_X b L xs s s.heap ∧ b < s.heap.size ∧ meth.locks = false ∧ (Jvm.Cond.and given_1 narrow_1).before #[Value.ref b] s = true
/-- the pure heap at the start -/
def g_h0 : pm_H := (fun _ _ => 0, fun _ _ => 0, fun _ _ => none, 0)
/-- THE LAW, from its entry, out of its pure run -/
theorem whole_start0 (hpure : ∀ ys : List Int32, ys.length ≤ 3072 → ∃ (f : Nat) (h' : pm_H), pm_run (g_P ys) f 0 0 [.ref 99999, .retAddr 0, .retAddr 0, .retAddr 0] [] g_h0 (0, 0) = some ([.int 1], h'))
    {p : Program} {e : Env} {s : State} {m : MethodId} {below : List Frame} {meth : Method} {c : Code} (l : Launch) {b L : Nat} {xs : Nat → Int32} (hL : L ≤ 3072) (hnm : meth.name = "law") (C0 : lw_At p s m meth c b L xs) : W p l e room_1 s m #[Value.ref b] below meth c s.heap [] 0 0 (lw_Z below #[Value.ref b] s) (entryFrame m ([Value.ref b] : List Value).toArray 4) := by
  obtain ⟨hx, hb, hr, hml, hown, hts0, hX, hbl, hlocks, hgv⟩ := id C0
  have hts : ∀ w ∈ gTbl, w.before #[Value.ref b] s = true := fun w hw => hts0 w (gTbl_in w hw)
  obtain ⟨adK, adV, hTT⟩ := tx_TT0 hts0 hgv
  have hnst := tx_T4 s #[Value.ref b] hTT
  obtain ⟨D, hD⟩ := tx_D hts
  obtain ⟨tA, tys, hA1, hA2⟩ := tx_A hts hnst
  have hK : va_K D gCl tys s := ⟨hD, hA1⟩
  obtain ⟨f, h', hrun⟩ := hpure ((List.range L).map xs) (by simpa using hL)
  let ρ : Nat → Nat := fun a => if a < 99999 then s.heap.size + a else if a = 99999 then b else adK (a - 100000)
  have hρ1 : ∀ a, a < 99999 → ρ a = s.heap.size + a := fun a h => if_pos h
  have hρ2 : ρ 99999 = b := by simp [ρ]
  have hρ3 : ∀ j, ρ (100000 + j) = adK j := fun j => by
    show (if 100000 + j < 99999 then _ else if 100000 + j = 99999 then _ else _) = _
    rw [if_neg (by omega), if_neg (by omega), Nat.add_sub_cancel_left]
  have sim := pm_sim (P := g_P ((List.range L).map xs)) (tbl := gTbl) (yN := g_y) (byt := g_b) (rT := g_r) (fr := g_fr) (lo := g_lo) (cl := gCl) (strs := gStrs) (nst := gNst) (ρ := ρ) (tA := tA) (base := s.heap.size) (D := D) (tys := tys) (TT := tx_TT s.heap.size adK adV) (l := l) (adA _) gTbl_good hA2 hρ1 tx_T1 tx_T2
    (fun U hU q hq => by
      obtain ⟨q', hq', rfl⟩ := List.mem_map.mp hq
      exact ⟨_, by rw [hρ3]; exact hU.2.1 q' hq'⟩)
    tx_T4
    (fun U H j hU hj hk => by
      rw [hρ3]
      obtain ⟨cell, g1, g2, g3, -⟩ := ((hU.1.1 j (tx_len_nz hj)).1).kept hk
      exact ⟨cell, g1, g2, g3⟩)
    ⟨rfl, rfl⟩ (tx_length l _ ρ hρ3) (tx_charAt l _ ρ hρ3) f
  have hen : entryFrame m ([Value.ref b] : List Value).toArray 4 = F0 m 0 ((lg_sl ([.ref 99999].map (pm_c ρ)) ++ List.replicate (4 - (lg_sl ([.ref 99999].map (pm_c ρ))).length) Slot.unset).toArray) [] := by
    rw [← lg_entry_eq]
    simp only [List.map_cons, List.map_nil, pm_c, hρ2]
  rw [hen]
  refine sim 0 p e s m #[Value.ref b] below meth c room_1 _ 0 [.int 1] h' hx hb hml hown hnm hts hK hTT rfl rfl (fun _ => ⟨L, xs, by rw [hρ2]; exact hX, by rw [hρ2]; exact hbl, by rw [hρ2]; exact hbl, by show L = ((List.range L).map xs).length; simp, fun j hj => by show xs j = ((List.range L).map xs).getD j 0; simp [hj]⟩) ?_ 0 (pm_en [.ref 99999] 4) [] g_h0 (0, 0) s.heap [] _ hrun (Nat.zero_le _) (Nat.zero_le _) rfl ⟨fun k q h => by simp [pm_w, g_h0] at h, Nat.zero_le _, fun a k _ => ⟨rfl, rfl, rfl⟩⟩ va_S.rf (pm_L_entry (by decide)) rfl
  intro pc nx i cells slots H locs ls hcod hre hrel hS hcl hsl
  have ad := adA ((List.range L).map xs) 0 pc _ nx hcod
  have hi : i = .ireturn := by
    revert hre
    cases i <;> simp [pm_re]
  subst hi
  refine va_forget (fun q hq => hS.2.2 q hq) ?_
  refine W.widen hcl hsl ?_
  exact lw_ret hx hb hr hlocks ad.1
