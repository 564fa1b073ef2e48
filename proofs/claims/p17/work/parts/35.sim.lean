section SMT
variable (P : pm_P) (tbl : List Jvm.Cond) (yN : Nat → MethodName) (byt : Nat → ByteArray) (rT : Nat → Option FieldType) (fr lo : Nat → Nat) (cl : List vw_C) (strs : List (String × Nat × Nat)) (nst : List Jvm.Cond) (ρ : Nat → Nat) (tA : Nat → ClassId) (base : Nat) (D : va_G) (tys : List (ClassId × FieldType)) (TT : State → Prop) (l : Launch)
def pm_Pc (as : List Value) (h : pm_H) : Array Value → State → Prop := va_Pc (as.map (pm_c ρ)) (fun U => U.heap.size = base + h.2.2.2 ∧ pm_Rel P tA ρ base D cl h U.heap ∧ va_K D cl tys U ∧ TT U)
def pm_Qc (v : List Value) (h' : pm_H) : Array Value → State → Outcome → State → Prop := fun _ st o t => o = .returned ((v.map (pm_c ρ)).head?) ∧ pm_Rel P tA ρ base D cl h' t.heap ∧ va_F (fun q : Nat => base ≤ q) st t
/-- what stands of the script at a method's start -/
def pm_X (s : State) : Prop := ∃ (L : Nat) (xs : Nat → Int32), va_X (ρ 99999) L xs s s.heap ∧ ρ 99999 < base ∧ ρ 99999 < s.heap.size ∧ L = (pm_scr P).length ∧ ∀ j, j < L → xs j = (pm_scr P).getD j 0
def pm_At (f : Nat) : Prop := ∀ (m : Nat) (p : Program) (e : Env) (s : State) (mi : MethodId) (args : Array Value) (below : List Frame) (meth : Method) (c : Code) (R : Room) (Q : State → Prop) (n0 : Nat) (v : List Value) (h' : pm_H),
  p.tables.exec = Jvm.exec → c.code = byt m → c.maxLocals = pm_mxl P m → s.vm.findClass (yN m).cls = some mi.cls → meth.name = (yN m).name → (∀ w ∈ tbl, w.before args s = true) → va_K D cl tys s → TT s → R = pm_rm P fr lo m → s.heap.size = base + n0 → (m = 0 → pm_X P ρ base s) →
  (∀ (pc nx : Nat) (i : Instr) (cells slots : Nat) (H : Heap) (locs : List Loc) (ls : Array Slot), pm_cod P m pc = some (.inr i, nx) → pm_re (pm_ret P m) i v = some v → pm_Rel P tA ρ base D cl h' H → va_S (fun q : Nat => base ≤ q) s.heap H locs → cells ≤ pm_mc P m → slots ≤ pm_ms P m → W p l e R s mi args below meth c H locs cells slots Q (F0 mi pc ls (v.map (pm_c ρ)))) →
  ∀ (pc : Nat) (lv st : List Value) (h : pm_H) (cs : Nat × Nat) (H : Heap) (locs : List Loc) (ls : Array Slot), pm_run P f m pc lv st h cs = some (v, h') → cs.1 ≤ pm_mc P m → cs.2 ≤ pm_ms P m → h.2.2.2 = n0 + cs.1 → pm_Rel P tA ρ base D cl h H → va_S (fun q : Nat => base ≤ q) s.heap H locs → pm_L ρ ls lv → lv.length = pm_mxl P m →
    W p l e R s mi args below meth c H locs cs.1 cs.2 Q (F0 mi pc ls (st.map (pm_c ρ)))
variable {P tbl yN byt rT fr lo cl strs nst ρ tA base D tys TT l}
set_option maxHeartbeats 4000000 in
theorem pm_met_of {f : Nat} (hAd : ∀ m pc x nx, pm_cod P m pc = some (x, nx) → pm_Ad P tbl yN byt rT fr lo cl strs nst m pc x nx) (hA : pm_At P tbl yN byt fr lo cl ρ tA base D tys TT l f) {m : Nat} {as v : List Value} {h h' : pm_H} (hm0 : 0 < m) (hme : pm_me P yN rT m)
    (hrun : pm_run P f m 0 (pm_en as (pm_mxl P m)) [] h (0, 0) = some (v, h')) (hlen : (pm_sl as).length ≤ pm_mxl P m) :
    Met l (yN m) (pm_ws P tbl yN byt rT m) (pm_rm P fr lo m) (pm_Pc P cl ρ tA base D tys TT as h) (pm_Qc P cl ρ tA base D v h') (pm_mc P m) (pm_ms P m) (fun q : Nat => base ≤ q) := by
  refine pm_ofW (cc := byt m) (maxL := pm_mxl P m) (ret := rT m) hme.1 rfl ?_
  intro p e s mi args below meth c s₁ B hml hv
  obtain ⟨rfl, hsz, hrel, hK, hT⟩ := hv
  have hx := B.exec
  have hb := B.bytes
  have hr := B.returns
  have hts := atoms_spec (ws := pm_ws P tbl yN byt rT m) B.pre
  have hown : s.vm.findClass (yN m).cls = some mi.cls := findClass_of_methodNamed B.named
  have hname : meth.name = (yN m).name := (name_of_methodNamed B.named B.method).1
  have hlocks := B.notSynchronized
  rw [lg_entry_eq]
  refine hA m p e s mi _ below meth c _ _ h.2.2.2 v h' hx hb hml hown hname (fun w hw => hts w (List.mem_cons_of_mem _ hw)) hK hT rfl hsz (fun q => by omega) ?_ 0 _ [] h (0, 0) s.heap [] _ hrun (Nat.zero_le _) (Nat.zero_le _) rfl hrel va_S.rf (pm_L_entry hlen) (pm_en_len hlen)
  intro pc nx i cells slots H locs ls hc hre hrel' hS hcl hsl
  refine W.widen hcl hsl ?_
  have ad := hAd _ _ _ _ hc
  have hq : ∀ t : State, t.heap = H → s.WarmedH t.vm → pm_Qc P cl ρ tA base D v h' (as.map (pm_c ρ)).toArray s (.returned ((v.map (pm_c ρ)).head?)) t := fun t ht hW => ⟨rfl, by rw [ht]; exact hrel', hS.F ht⟩
  have hrk := hme.2
  unfold pm_re at hre
  split at hre
  · split at hre
    · split at hre
      · rename_i h0
        obtain ⟨hd, -⟩ := ad
        have hr0 : rT m = none := by
          rw [h0] at hrk
          revert hrk
          cases hrt : rT m with
          | none => intro _; rfl
          | some t => cases t <;> simp [pm_rk]
        exact W.vret hx hb (by rw [hr, hr0]) hq hS.2.2 hd
      · cases hre
    · cases hre
  · split at hre
    · rename_i x
      split at hre
      · rename_i h0
        obtain ⟨hd, -⟩ := ad
        rcases h0 with h0 | ⟨h0, hx01⟩
        · have hr0 : rT m = some .int := by
            rw [h0] at hrk
            revert hrk
            cases hrt : rT m with
            | none => simp [pm_rk]
            | some t => cases t <;> simp [pm_rk]
          exact W.iret hx hb (by rw [hr, hr0]) hq hS.2.2 hd
        · have hr0 : rT m = some .boolean := by
            rw [h0] at hrk
            revert hrk
            cases hrt : rT m with
            | none => simp [pm_rk]
            | some t => cases t <;> simp [pm_rk]
          exact W.zret hx hb (by rw [hr, hr0]) (by rcases hx01 with rfl | rfl <;> rfl) hq hS.2.2 hd
      · cases hre
    · cases hre
  · split at hre
    · rename_i x
      split at hre
      · rename_i h0
        obtain ⟨hd, -⟩ := ad
        have hr0 : rT m = some .long := by
          rw [h0] at hrk
          revert hrk
          cases hrt : rT m with
          | none => simp [pm_rk]
          | some t => cases t <;> simp [pm_rk]
        exact W.lret hx hb (by rw [hr, hr0]) hq hS.2.2 hd
      · cases hre
    · cases hre
  · have key : pm_ret P m = 3 → ∃ rt, rT m = some rt ∧ ((∃ n, rt = .object n) ∨ ∃ t, rt = .array t) := by
      intro h0
      rw [h0] at hrk
      revert hrk
      cases hrt : rT m with
      | none => simp [pm_rk]
      | some t => cases t <;> simp [pm_rk]
    split at hre
    · rename_i x
      split at hre
      · rename_i h0
        obtain ⟨hd, -⟩ := ad
        obtain ⟨rt, hr0, hr1⟩ := key h0
        exact W.aret hx hb (by rw [hr, hr0]) hr1 (Or.inr ⟨_, rfl⟩) hq hS.2.2 hd
      · cases hre
    · split at hre
      · rename_i h0
        obtain ⟨hd, -⟩ := ad
        obtain ⟨rt, hr0, hr1⟩ := key h0
        exact W.aret hx hb (by rw [hr, hr0]) hr1 (Or.inl rfl) hq hS.2.2 hd
      · cases hre
    · cases hre
  · cases hre
end SMT
