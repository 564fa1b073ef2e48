/-! PRINTED by wip/gen4.py: texts -/
def tx_y_coder : MethodName := ⟨"java/lang/String", "coder", "()B"⟩
def tx_y_isLatin1 : MethodName := ⟨"java/lang/String", "isLatin1", "()Z"⟩
def tx_y_length : MethodName := ⟨"java/lang/String", "length", "()I"⟩
def tx_y_charAt : MethodName := ⟨"java/lang/String", "charAt", "(I)C"⟩
def tx_y_l1 : MethodName := ⟨"java/lang/StringLatin1", "charAt", "([BI)C"⟩
def tx_y_ck : MethodName := ⟨"java/lang/String", "checkIndex", "(II)V"⟩
def tx_y_pck : MethodName := ⟨"jdk/internal/util/Preconditions", "checkIndex", "(IILjava/util/function/BiFunction;)I"⟩
theorem tx_d_coder_0 : decode prog_15_method_152_code 0 = .ok (.getstatic 38, 3) := by decide +kernel
theorem tx_d_coder_3 : decode prog_15_method_152_code 3 = .ok (.ifCond .eq 10, 3) := by decide +kernel
theorem tx_d_coder_6 : decode prog_15_method_152_code 6 = .ok (.aload_n 0, 1) := by decide +kernel
theorem tx_d_coder_7 : decode prog_15_method_152_code 7 = .ok (.getfield 15, 3) := by decide +kernel
theorem tx_d_coder_10 : decode prog_15_method_152_code 10 = .ok (.goto 4, 3) := by decide +kernel
theorem tx_d_coder_14 : decode prog_15_method_152_code 14 = .ok (.ireturn, 1) := by decide +kernel
theorem tx_d_isLatin1_0 : decode prog_15_method_154_code 0 = .ok (.getstatic 38, 3) := by decide +kernel
theorem tx_d_isLatin1_3 : decode prog_15_method_154_code 3 = .ok (.ifCond .eq 14, 3) := by decide +kernel
theorem tx_d_isLatin1_6 : decode prog_15_method_154_code 6 = .ok (.aload_n 0, 1) := by decide +kernel
theorem tx_d_isLatin1_7 : decode prog_15_method_154_code 7 = .ok (.getfield 15, 3) := by decide +kernel
theorem tx_d_isLatin1_10 : decode prog_15_method_154_code 10 = .ok (.ifCond .ne 7, 3) := by decide +kernel
theorem tx_d_isLatin1_13 : decode prog_15_method_154_code 13 = .ok (.iconst 1, 1) := by decide +kernel
theorem tx_d_isLatin1_14 : decode prog_15_method_154_code 14 = .ok (.goto 4, 3) := by decide +kernel
theorem tx_d_isLatin1_18 : decode prog_15_method_154_code 18 = .ok (.ireturn, 1) := by decide +kernel
theorem tx_d_length_0 : decode prog_15_method_54_code 0 = .ok (.aload_n 0, 1) := by decide +kernel
theorem tx_d_length_1 : decode prog_15_method_54_code 1 = .ok (.getfield 9, 3) := by decide +kernel
theorem tx_d_length_4 : decode prog_15_method_54_code 4 = .ok (.arraylength, 1) := by decide +kernel
theorem tx_d_length_5 : decode prog_15_method_54_code 5 = .ok (.aload_n 0, 1) := by decide +kernel
theorem tx_d_length_6 : decode prog_15_method_54_code 6 = .ok (.invokevirtual 335, 3) := by decide +kernel
theorem tx_d_length_9 : decode prog_15_method_54_code 9 = .ok (.ishr, 1) := by decide +kernel
theorem tx_d_length_10 : decode prog_15_method_54_code 10 = .ok (.ireturn, 1) := by decide +kernel
theorem tx_d_charAt_0 : decode prog_15_method_56_code 0 = .ok (.aload_n 0, 1) := by decide +kernel
theorem tx_d_charAt_1 : decode prog_15_method_56_code 1 = .ok (.invokevirtual 492, 3) := by decide +kernel
theorem tx_d_charAt_4 : decode prog_15_method_56_code 4 = .ok (.ifCond .eq 12, 3) := by decide +kernel
theorem tx_d_charAt_7 : decode prog_15_method_56_code 7 = .ok (.aload_n 0, 1) := by decide +kernel
theorem tx_d_charAt_8 : decode prog_15_method_56_code 8 = .ok (.getfield 9, 3) := by decide +kernel
theorem tx_d_charAt_11 : decode prog_15_method_56_code 11 = .ok (.iload_n 1, 1) := by decide +kernel
theorem tx_d_charAt_12 : decode prog_15_method_56_code 12 = .ok (.invokestatic 495, 3) := by decide +kernel
theorem tx_d_charAt_15 : decode prog_15_method_56_code 15 = .ok (.ireturn, 1) := by decide +kernel
theorem tx_d_l1_0 : decode prog_16_method_2_code 0 = .ok (.iload_n 1, 1) := by decide +kernel
theorem tx_d_l1_1 : decode prog_16_method_2_code 1 = .ok (.aload_n 0, 1) := by decide +kernel
theorem tx_d_l1_2 : decode prog_16_method_2_code 2 = .ok (.arraylength, 1) := by decide +kernel
theorem tx_d_l1_3 : decode prog_16_method_2_code 3 = .ok (.invokestatic 9, 3) := by decide +kernel
theorem tx_d_l1_6 : decode prog_16_method_2_code 6 = .ok (.aload_n 0, 1) := by decide +kernel
theorem tx_d_l1_7 : decode prog_16_method_2_code 7 = .ok (.iload_n 1, 1) := by decide +kernel
theorem tx_d_l1_8 : decode prog_16_method_2_code 8 = .ok (.baload, 1) := by decide +kernel
theorem tx_d_l1_9 : decode prog_16_method_2_code 9 = .ok (.sipush 255, 3) := by decide +kernel
theorem tx_d_l1_12 : decode prog_16_method_2_code 12 = .ok (.iand, 1) := by decide +kernel
theorem tx_d_l1_13 : decode prog_16_method_2_code 13 = .ok (.i2c, 1) := by decide +kernel
theorem tx_d_l1_14 : decode prog_16_method_2_code 14 = .ok (.ireturn, 1) := by decide +kernel
theorem tx_d_ck_0 : decode prog_15_method_155_code 0 = .ok (.iload_n 0, 1) := by decide +kernel
theorem tx_d_ck_1 : decode prog_15_method_155_code 1 = .ok (.iload_n 1, 1) := by decide +kernel
theorem tx_d_ck_2 : decode prog_15_method_155_code 2 = .ok (.getstatic 1053, 3) := by decide +kernel
theorem tx_d_ck_5 : decode prog_15_method_155_code 5 = .ok (.invokestatic 1059, 3) := by decide +kernel
theorem tx_d_ck_8 : decode prog_15_method_155_code 8 = .ok (.pop, 1) := by decide +kernel
theorem tx_d_ck_9 : decode prog_15_method_155_code 9 = .ok (.return_, 1) := by decide +kernel
theorem tx_d_pck_0 : decode prog_20_method_11_code 0 = .ok (.iload_n 0, 1) := by decide +kernel
theorem tx_d_pck_1 : decode prog_20_method_11_code 1 = .ok (.ifCond .lt 8, 3) := by decide +kernel
theorem tx_d_pck_4 : decode prog_20_method_11_code 4 = .ok (.iload_n 0, 1) := by decide +kernel
theorem tx_d_pck_5 : decode prog_20_method_11_code 5 = .ok (.iload_n 1, 1) := by decide +kernel
theorem tx_d_pck_6 : decode prog_20_method_11_code 6 = .ok (.if_icmp .lt 10, 3) := by decide +kernel
theorem tx_d_pck_16 : decode prog_20_method_11_code 16 = .ok (.iload_n 0, 1) := by decide +kernel
theorem tx_d_pck_17 : decode prog_20_method_11_code 17 = .ok (.ireturn, 1) := by decide +kernel
def tx_len : List Nat := gT.map List.length
theorem tx_nk_all : gNst.all tx_nk = true := List.all_eq_true.mpr (fun w h => (List.mem_filter.mp h).2)
/-- what stands of texts, of statics of the JDK, of the nest's words -/
def tx_TT (base : Nat) (adK adV : Nat → Nat) (U : State) : Prop :=
  vk_S 16 tx_len gT adK adV (fun q : Nat => base ≤ q) U U.heap ∧ (∀ q ∈ gStr, vk_R q.1 q.2.1 q.2.2.1 (adK q.2.2.2) U) ∧ va_Z "java/lang/String" "COMPACT_STRINGS" "Z" (.int 1) (fun q : Nat => base ≤ q) U U.heap ∧
  va_Zq "jdk/internal/util/Preconditions" "SIOOBE_FORMATTER" "Ljava/util/function/BiFunction;" (fun q : Nat => base ≤ q) U U.heap ∧ ∀ w ∈ gNst, w.before #[] U = true
theorem tx_warm {w : Jvm.Cond} (hk : tx_nk w = true) {s U : State} (hW : s.WarmedH U.vm) (h : w.before #[] s = true) : w.before #[] U = true := by
  cases w with
  | fieldLinkNest a i b n d h0 => exact va_Nw.warmF hW h
  | methodLinkNest a i x h0 => exact va_Nw.warmM hW h
  | arrayOver t =>
    cases t with
    | object C => exact va_AO.moved (C := C) hW.alike h
    | _ => cases hk
  | _ => cases hk
theorem tx_any {w : Jvm.Cond} (hk : tx_nk w = true) {A A' : Array Value} {U : State} (h : w.before A U = true) : w.before A' U = true := by
  cases w with
  | fieldLinkNest a i b n d h0 => exact va_tabs rfl rfl h
  | methodLinkNest a i x h0 => exact va_tabs rfl rfl h
  | arrayOver t =>
    cases t with
    | object C => exact h
    | _ => cases hk
  | _ => cases hk
theorem tx_cg {w : Jvm.Cond} (hk : tx_nk w = true) {U : State} {g : JFrame} {mk : MethodId} {a : Array Value} (h : w.before #[] U = true) : w.before #[] (U.calling g mk a) = true := by
  cases w with
  | fieldLinkNest a0 i b n d h0 => exact va_tabs (A := #[]) (A' := #[]) (u := U) (U := U.calling g mk a) rfl rfl h
  | methodLinkNest a0 i x h0 => exact va_tabs (A := #[]) (A' := #[]) (u := U) (U := U.calling g mk a) rfl rfl h
  | arrayOver t =>
    cases t with
    | object C => exact va_AO.moved (C := C) (u := U) (U := U.calling g mk a) (Vm.Alike.refl U.vm) h
    | _ => cases hk
  | _ => cases hk
theorem tx_T1 {base : Nat} {adK adV : Nat → Nat} : ∀ s U : State, tx_TT base adK adV s → s.WarmedH U.vm → (∀ q : Nat, q < s.heap.size → ¬ base ≤ q → U.heap[q]? = s.heap[q]?) → tx_TT base adK adV U := by
  intro s U h hW hq
  obtain ⟨h1, h2, h3, h4, h5⟩ := h
  exact ⟨(h1.kept hq).moved hW.alike, fun q hq' => vk_R.warm hW (h2 q hq'), (h3.kept hq).moved hW.alike, (h4.kept hq).moved hW.alike, fun w hw => tx_warm (List.all_eq_true.mp tx_nk_all w hw) hW (h5 w hw)⟩
theorem tx_T2 {base : Nat} {adK adV : Nat → Nat} : ∀ (U : State) (g : JFrame) (mk : MethodId) (a : Array Value), tx_TT base adK adV U → tx_TT base adK adV (U.calling g mk a) := by
  intro U g mk a h
  obtain ⟨h1, h2, h3, h4, h5⟩ := h
  exact ⟨vk_S.moved (u := U) (U := U.calling g mk a) (Vm.Alike.refl U.vm) h1, fun q hq => vk_R.same (u := U) (U := U.calling g mk a) rfl (h2 q hq), va_Z.moved (u := U) (U := U.calling g mk a) (Vm.Alike.refl U.vm) h3, va_Zq.moved (u := U) (U := U.calling g mk a) (Vm.Alike.refl U.vm) h4, fun w hw => tx_cg (List.all_eq_true.mp tx_nk_all w hw) (h5 w hw)⟩
theorem tx_T4 {base : Nat} {adK adV : Nat → Nat} : ∀ (U : State) (A : Array Value), tx_TT base adK adV U → ∀ w ∈ gNst, w.before A U = true := fun U A h w hw => tx_any (List.all_eq_true.mp tx_nk_all w hw) (h.2.2.2.2 w hw)
theorem tx_pre {base : Nat} {adK adV : Nat → Nat} {s : State} {H : Heap} {locs : List Loc} (hT : tx_TT base adK adV s) (hS : va_S (fun q : Nat => base ≤ q) s.heap H locs) (as : List Value) : ∀ U : State, U.heap = H → s.WarmedH U.vm → va_Pc as (tx_TT base adK adV) as.toArray U := fun U hU hW => ⟨rfl, tx_T1 s U hT hW (fun q h1 h2 => by rw [hU]; exact hS.2.1 q h1 h2)⟩
theorem tx_blind {base : Nat} {adK adV : Nat → Nat} (as : List Value) : FrameBlind (va_Pc as (tx_TT base adK adV)) := fun a U g mk q => ⟨q.1, tx_T2 U g mk a q.2⟩
theorem tx_good {y : MethodName} {b : ByteArray} {n : Nat} {r : Option FieldType} (h : Jvm.Cond.code y b n r ∈ gTbl) : GoodIn gTbl (.code y b n r :: gTbl) := pm_goodIn gTbl_good (fun w hw => by rcases List.mem_cons.mp hw with rfl | hw; exact h; exact hw)
/-- the plain answer of a call that writes nothing -/
theorem tx_call {p : Program} {l : Launch} {e : Env} {R : Room} {s : State} {mi : MethodId} {args : Array Value} {below : List Frame} {meth : Method} {c : Code} {H : Heap} {locs : List Loc} {cells slots : Nat} {Q : State → Prop} {base : Nat} {pc : Nat} {ls : Array Slot} {rest st0 : List Value} {v : Option Value} (hr : va_Run p l e R s mi args below meth c H locs cells slots 0 0 (F0 mi pc ls st0) rest (fun st o t => o = .returned v ∧ t.heap = st.heap) (fun q : Nat => base ≤ q))
    (hS : va_S (fun q : Nat => base ≤ q) s.heap H locs) (kk : ∀ locs1, va_S (fun q : Nat => base ≤ q) s.heap H locs1 → W p l e R s mi args below meth c H locs1 cells slots Q (F0 mi (pc + 3) ls (v.toList ++ rest))) : W p l e R s mi args below meth c H locs cells slots Q (F0 mi pc ls st0) := by
  intro T hT X
  obtain ⟨v', st₀, t, T', L, h0, X', hL, e1, e2, ⟨q1, q2⟩, st⟩ := hr T hT X
  cases q1
  obtain ⟨t2, a1, b1⟩ := kk (locs ++ L) ⟨hS.1, hS.2.1, fun q hq => by
    rcases List.mem_append.mp hq with h | h
    · exact hS.2.2 q h
    · exact hL q h⟩ T' (by rw [e1, q2, h0]) X'
  exact ⟨t2, st t2 a1, b1⟩
section TXC
variable (l : Launch) {base : Nat} {adK adV : Nat → Nat}
set_option maxHeartbeats 4000000 in
theorem tx_coder (j : Nat) (hj : j < 16) : Met l tx_y_coder (.code tx_y_coder prog_15_method_152_code 1 (some .byte) :: gTbl) { frames := 0, cells := 0, slots := 0, locals := 0 } (va_Pc [.ref (adK j)] (tx_TT base adK adV)) (fun _ st o t => o = .returned (some (.int 0)) ∧ t.heap = st.heap) 0 0 (fun q : Nat => base ≤ q) := by
  refine Met.ofW (cc := prog_15_method_152_code) (maxL := 1) (ret := some .byte) (by decide) rfl ?_
  intro p e s m args below meth c s₁ B hml hv
  obtain ⟨rfl, hT⟩ := hv
  have hx := B.exec
  have hb := B.bytes
  have hr := B.returns
  have hts := atoms_spec (ws := .code tx_y_coder prog_15_method_152_code 1 (some .byte) :: gTbl) B.pre
  have hown : s.vm.findClass "java/lang/String" = some m.cls := findClass_of_methodNamed B.named
  have hlocks := B.notSynchronized
  have hS : va_S (fun q : Nat => base ≤ q) s.heap s.heap [] := va_S.rf
  have hl := lv_entry ([.ref (adK j)]) (n := 1) (Nat.le_of_ble_eq_true rfl)
  rw [lg_entry_eq]
  generalize (lg_sl ([.ref (adK j)]) ++ List.replicate (1 - (lg_sl ([.ref (adK j)])).length) Slot.unset).toArray = ls at hl ⊢
  have hl : lv_has ls 1 [(0, .ref (adK j))] := hl
  refine va_gets hx hb hT.2.2.1 hS hown (hts _ (List.mem_cons_of_mem _ (tb3 43 rfl rfl))) (fun _ h => h) tx_d_coder_0 ?_
  refine lv_if_eq (tgt := 13) hx hb tx_d_coder_3 (by decide) (fun c => absurd c (by decide)) (fun c => ?_)
  refine lv_aload_n hx hb tx_d_coder_6 rfl (lv_at hl 0 rfl) ?_
  refine vk_getf hx hb (hT.1.1 j hj).2.1 hS hown (hts _ (List.mem_cons_of_mem _ (tb9 19 rfl rfl))) (fun _ h => h) tx_d_coder_7 ?_
  refine lv_goto (tgt := 14) hx hb tx_d_coder_10 (by decide) ?_
  exact W.zret hx hb hr rfl (fun t ht hW => ⟨rfl, ht⟩) (fun q hq => by cases hq) tx_d_coder_14
set_option maxHeartbeats 4000000 in
theorem tx_isLatin1 (j : Nat) (hj : j < 16) : Met l tx_y_isLatin1 (.code tx_y_isLatin1 prog_15_method_154_code 1 (some .boolean) :: gTbl) { frames := 0, cells := 0, slots := 0, locals := 0 } (va_Pc [.ref (adK j)] (tx_TT base adK adV)) (fun _ st o t => o = .returned (some (.int 1)) ∧ t.heap = st.heap) 0 0 (fun q : Nat => base ≤ q) := by
  refine Met.ofW (cc := prog_15_method_154_code) (maxL := 1) (ret := some .boolean) (by decide) rfl ?_
  intro p e s m args below meth c s₁ B hml hv
  obtain ⟨rfl, hT⟩ := hv
  have hx := B.exec
  have hb := B.bytes
  have hr := B.returns
  have hts := atoms_spec (ws := .code tx_y_isLatin1 prog_15_method_154_code 1 (some .boolean) :: gTbl) B.pre
  have hown : s.vm.findClass "java/lang/String" = some m.cls := findClass_of_methodNamed B.named
  have hlocks := B.notSynchronized
  have hS : va_S (fun q : Nat => base ≤ q) s.heap s.heap [] := va_S.rf
  have hl := lv_entry ([.ref (adK j)]) (n := 1) (Nat.le_of_ble_eq_true rfl)
  rw [lg_entry_eq]
  generalize (lg_sl ([.ref (adK j)]) ++ List.replicate (1 - (lg_sl ([.ref (adK j)])).length) Slot.unset).toArray = ls at hl ⊢
  have hl : lv_has ls 1 [(0, .ref (adK j))] := hl
  refine va_gets hx hb hT.2.2.1 hS hown (hts _ (List.mem_cons_of_mem _ (tb3 43 rfl rfl))) (fun _ h => h) tx_d_isLatin1_0 ?_
  refine lv_if_eq (tgt := 17) hx hb tx_d_isLatin1_3 (by decide) (fun c => absurd c (by decide)) (fun c => ?_)
  refine lv_aload_n hx hb tx_d_isLatin1_6 rfl (lv_at hl 0 rfl) ?_
  refine vk_getf hx hb (hT.1.1 j hj).2.1 hS hown (hts _ (List.mem_cons_of_mem _ (tb9 19 rfl rfl))) (fun _ h => h) tx_d_isLatin1_7 ?_
  refine lv_if_ne (tgt := 17) hx hb tx_d_isLatin1_10 (by decide) (fun c => absurd rfl c) (fun c => ?_)
  refine lv_iconst (v := 1) hx hb tx_d_isLatin1_13 (by decide) ?_
  refine lv_goto (tgt := 18) hx hb tx_d_isLatin1_14 (by decide) ?_
  exact W.zret hx hb hr rfl (fun t ht hW => ⟨rfl, ht⟩) (fun q hq => by cases hq) tx_d_isLatin1_18
set_option maxHeartbeats 4000000 in
theorem tx_pck (i n : Int32) (f : Value) (hf : f = .null ∨ ∃ a, f = .ref a) (h0 : ¬ i < 0) (h1 : i < n) : Met l tx_y_pck (.code tx_y_pck prog_20_method_11_code 3 (some .int) :: gTbl) { frames := 0, cells := 0, slots := 0, locals := 0 } (va_Pc [.int i, .int n, f] (tx_TT base adK adV)) (fun _ st o t => o = .returned (some (.int i)) ∧ t.heap = st.heap) 0 0 (fun q : Nat => base ≤ q) := by
  have hcat : f.category = 1 := by rcases hf with rfl | ⟨a, rfl⟩ <;> rfl
  refine Met.ofW (cc := prog_20_method_11_code) (maxL := 3) (ret := some .int) (by decide) rfl ?_
  intro p e s m args below meth c s₁ B hml hv
  obtain ⟨rfl, hT⟩ := hv
  have hx := B.exec
  have hb := B.bytes
  have hr := B.returns
  have hlocks := B.notSynchronized
  have hsl : lg_sl [.int i, .int n, f] = [.val (.int i), .val (.int n), .val f] := by rcases hf with rfl | ⟨a, rfl⟩ <;> rfl
  have hl := lv_entry ([.int i, .int n, f]) (n := 3) (by rw [hsl]; exact Nat.le_of_ble_eq_true rfl)
  rw [lg_entry_eq]
  generalize (lg_sl ([.int i, .int n, f]) ++ List.replicate (3 - (lg_sl ([.int i, .int n, f])).length) Slot.unset).toArray = ls at hl ⊢
  have hl : lv_has ls 3 [(0, .int i), (1, .int n), (2, f)] := hl
  refine lv_iload_n hx hb tx_d_pck_0 rfl (lv_at hl 0 rfl) ?_
  refine lv_if_lt (tgt := 9) hx hb tx_d_pck_1 (by decide) (fun c => absurd c h0) (fun c => ?_)
  refine lv_iload_n hx hb tx_d_pck_4 rfl (lv_at hl 0 rfl) ?_
  refine lv_iload_n hx hb tx_d_pck_5 rfl (lv_at hl 1 rfl) ?_
  refine lv_icmp_lt (tgt := 16) hx hb tx_d_pck_6 (by decide) (fun c => ?_) (fun c => absurd h1 c)
  refine lv_iload_n hx hb tx_d_pck_16 rfl (lv_at hl 0 rfl) ?_
  exact W.iret hx hb hr (fun t ht hW => ⟨rfl, ht⟩) (fun q hq => by cases hq) tx_d_pck_17
set_option maxHeartbeats 4000000 in
theorem tx_ck (i n : Int32) (h0 : ¬ i < 0) (h1 : i < n) : Met l tx_y_ck (.code tx_y_ck prog_15_method_155_code 2 none :: gTbl) { frames := 1, cells := 0, slots := 0, locals := 22 } (va_Pc [.int i, .int n] (tx_TT base adK adV)) (fun _ st o t => o = .returned none ∧ t.heap = st.heap) 0 0 (fun q : Nat => base ≤ q) := by
  refine Met.ofW (cc := prog_15_method_155_code) (maxL := 2) (ret := none) (by decide) rfl ?_
  intro p e s m args below meth c s₁ B hml hv
  obtain ⟨rfl, hT⟩ := hv
  have hx := B.exec
  have hb := B.bytes
  have hr := B.returns
  have hts0 := atoms_spec (ws := .code tx_y_ck prog_15_method_155_code 2 none :: gTbl) B.pre
  have hts : ∀ w ∈ gTbl, w.before _ s = true := fun w hw => hts0 w (List.mem_cons_of_mem _ hw)
  have hown : s.vm.findClass "java/lang/String" = some m.cls := findClass_of_methodNamed B.named
  have hlocks := B.notSynchronized
  have hS : va_S (fun q : Nat => base ≤ q) s.heap s.heap [] := va_S.rf
  have hl := lv_entry ([.int i, .int n]) (n := 2) (Nat.le_of_ble_eq_true rfl)
  rw [lg_entry_eq]
  generalize (lg_sl ([.int i, .int n]) ++ List.replicate (2 - (lg_sl ([.int i, .int n])).length) Slot.unset).toArray = ls at hl ⊢
  have hl : lv_has ls 2 [(0, .int i), (1, .int n)] := hl
  refine lv_iload_n hx hb tx_d_ck_0 rfl (lv_at hl 0 rfl) ?_
  refine lv_iload_n hx hb tx_d_ck_1 rfl (lv_at hl 1 rfl) ?_
  have hz : ∃ f : Value, (f = .null ∨ ∃ a, f = .ref a) ∧ va_Z "jdk/internal/util/Preconditions" "SIOOBE_FORMATTER" "Ljava/util/function/BiFunction;" f (fun q : Nat => base ≤ q) s s.heap := by
    rcases hT.2.2.2.1 with h | ⟨t, h⟩
    · exact ⟨_, Or.inl rfl, h⟩
    · exact ⟨_, Or.inr ⟨t, rfl⟩, h⟩
  obtain ⟨f, hf, hz⟩ := hz
  refine va_gets hx hb hz hS hown (hts _ (tb3 59 rfl rfl)) (fun _ h => h) tx_d_ck_2 ?_
  refine tx_call (base := base) (v := some (.int i)) (va_runS (As := [.int i, .int n, f]) (rest := []) ⟨hx, hb, hml, hown, hts⟩ (tx_pck l i n f hf h0 h1) ⟨callB_of 3 hts (tx_good (tb3 63 rfl rfl)) rfl rfl rfl (hts _ (tb1 16 rfl rfl)) (hts _ (tb3 61 rfl rfl)) (by decide +kernel) ⟨Nat.le_of_ble_eq_true rfl, Nat.le_of_ble_eq_true rfl⟩, hts _ (tb3 62 rfl rfl)⟩ ⟨tx_blind _, tx_pre hT hS _⟩ rfl rfl hl.1 rfl (lv_room (Nat.le_of_ble_eq_true rfl)) tx_d_ck_5 ⟨Nat.zero_le _, Nat.zero_le _⟩) hS (fun locs1 hS1 => ?_)
  refine lv_pop hx hb tx_d_ck_8 rfl ?_
  exact W.vret hx hb hr (fun t ht hW => ⟨rfl, ht⟩) hS1.2.2 tx_d_ck_9
set_option maxHeartbeats 4000000 in
theorem tx_l1 (j : Nat) (hj : j < 16) (i : Int32) (h0 : ¬ i < 0) (h1 : i < Int32.ofNat (tx_len.getD j 0)) (hin : vp_in i (tx_len.getD j 0)) (v : Int32) (hv0 : ((((gT.getD j []).getD i.toNatClampNeg 0) &&& 255).toUInt32 % 65536).toInt32 = v) (hnc : narrow .char (.int v) = .int v) : Met l tx_y_l1 (.code tx_y_l1 prog_16_method_2_code 2 (some .char) :: gTbl) { frames := 2, cells := 0, slots := 0, locals := 43 } (va_Pc [.ref (adV j), .int i] (tx_TT base adK adV)) (fun _ st o t => o = .returned (some (.int v)) ∧ t.heap = st.heap) 0 0 (fun q : Nat => base ≤ q) := by
  refine Met.ofW (cc := prog_16_method_2_code) (maxL := 2) (ret := some .char) (by decide) rfl ?_
  intro p e s m args below meth c s₁ B hml hv
  obtain ⟨rfl, hT⟩ := hv
  have hx := B.exec
  have hb := B.bytes
  have hr := B.returns
  have hts0 := atoms_spec (ws := .code tx_y_l1 prog_16_method_2_code 2 (some .char) :: gTbl) B.pre
  have hts : ∀ w ∈ gTbl, w.before _ s = true := fun w hw => hts0 w (List.mem_cons_of_mem _ hw)
  have hown : s.vm.findClass "java/lang/StringLatin1" = some m.cls := findClass_of_methodNamed B.named
  have hlocks := B.notSynchronized
  have hS : va_S (fun q : Nat => base ≤ q) s.heap s.heap [] := va_S.rf
  have hl := lv_entry ([.ref (adV j), .int i]) (n := 2) (Nat.le_of_ble_eq_true rfl)
  rw [lg_entry_eq]
  generalize (lg_sl ([.ref (adV j), .int i]) ++ List.replicate (2 - (lg_sl ([.ref (adV j), .int i])).length) Slot.unset).toArray = ls at hl ⊢
  have hl : lv_has ls 2 [(0, .ref (adV j)), (1, .int i)] := hl
  refine lv_iload_n hx hb tx_d_l1_0 rfl (lv_at hl 1 rfl) ?_
  refine lv_aload_n hx hb tx_d_l1_1 rfl (lv_at hl 0 rfl) ?_
  refine va_tlen hx hb (hT.1.1 j hj).2.2.2 hS rfl tx_d_l1_2 ?_
  refine tx_call (base := base) (v := none) (va_runS (As := [.int i, .int (Int32.ofNat (tx_len.getD j 0))]) (rest := []) ⟨hx, hb, hml, hown, hts⟩ (tx_ck l i (Int32.ofNat (tx_len.getD j 0)) h0 h1) ⟨callB_of 2 hts (tx_good (tb3 58 rfl rfl)) rfl rfl rfl (hts _ (tb1 14 rfl rfl)) (hts _ (tb3 56 rfl rfl)) (by decide +kernel) ⟨Nat.le_of_ble_eq_true rfl, Nat.le_of_ble_eq_true rfl⟩, hts _ (tb3 57 rfl rfl)⟩ ⟨tx_blind _, tx_pre hT hS _⟩ rfl rfl hl.1 rfl (lv_room (Nat.le_of_ble_eq_true rfl)) tx_d_l1_3 ⟨Nat.zero_le _, Nat.zero_le _⟩) hS (fun locs1 hS1 => ?_)
  refine lv_aload_n hx hb tx_d_l1_6 rfl (lv_at hl 0 rfl) ?_
  refine lv_iload_n hx hb tx_d_l1_7 rfl (lv_at hl 1 rfl) ?_
  refine va_tb hx hb (hT.1.1 j hj).2.2.2 hS1 hin rfl tx_d_l1_8 ?_
  refine lv_sipush (v := 255) hx hb tx_d_l1_9 (by decide) ?_
  refine lv_iand hx hb tx_d_l1_12 ?_
  refine lv_i2c hx hb tx_d_l1_13 hv0 ?_
  exact W.zret hx hb hr hnc (fun t ht hW => ⟨rfl, ht⟩) hS1.2.2 tx_d_l1_14
theorem tx_len_nz {j : Nat} (h : 0 < (gT.getD j []).length) : j < 16 := by
  by_cases hj : j < 16
  · exact hj
  · rw [List.getD_eq_getElem?_getD, List.getElem?_eq_none_iff.mpr (by have : gT.length = 16 := rfl
                                                                      omega)] at h
    simp at h
theorem tx_len_eq {j : Nat} (hj : j < 16) : tx_len.getD j 0 = (gT.getD j []).length := by
  unfold tx_len
  simp only [List.getD_eq_getElem?_getD, List.getElem?_map]
  cases gT[j]? <;> rfl
theorem tx_bytes : ∀ j, j < 16 → ((gT.getD j []).length < 1000 ∧ ∀ b ∈ gT.getD j [], ((b &&& 255).toUInt32 % 65536).toInt32 = b ∧ narrow .char (.int b) = .int b) := by decide +kernel
set_option maxHeartbeats 4000000 in
/-- String.length of a constant -/
theorem tx_length (xs : List Int32) (ρ : Nat → Nat) (hρ : ∀ j, ρ (100000 + j) = adK j) : ∀ j, 0 < (pm_txt (g_P xs) j).length → Met l (g_y 9001) (pm_ws (g_P xs) gTbl g_y g_b g_r 9001) (pm_rm (g_P xs) g_fr g_lo 9001) (va_Pc [.ref (ρ (100000 + j))] (tx_TT base adK adV)) (fun _ st o t => o = .returned (some (.int (Int32.ofNat (pm_txt (g_P xs) j).length))) ∧ t.heap = st.heap) 0 0 (fun q : Nat => base ≤ q) := by
  intro j hlen
  have hj : j < 16 := tx_len_nz hlen
  rw [hρ]
  refine Met.ofW (cc := prog_15_method_54_code) (maxL := 1) (ret := some .int) (by decide +kernel) rfl ?_
  intro p e s m args below meth c s₁ B hml hv
  obtain ⟨rfl, hT⟩ := hv
  have hx := B.exec
  have hb := B.bytes
  have hr := B.returns
  have hts0 := atoms_spec (ws := pm_ws (g_P xs) gTbl g_y g_b g_r 9001) B.pre
  have hts : ∀ w ∈ gTbl, w.before _ s = true := fun w hw => hts0 w (List.mem_cons_of_mem _ hw)
  have hown : s.vm.findClass "java/lang/String" = some m.cls := findClass_of_methodNamed B.named
  have hlocks := B.notSynchronized
  have hS : va_S (fun q : Nat => base ≤ q) s.heap s.heap [] := va_S.rf
  have hl := lv_entry ([.ref (adK j)]) (n := 1) (Nat.le_of_ble_eq_true rfl)
  rw [lg_entry_eq]
  generalize (lg_sl ([.ref (adK j)]) ++ List.replicate (1 - (lg_sl ([.ref (adK j)])).length) Slot.unset).toArray = ls at hl ⊢
  have hl : lv_has ls 1 [(0, .ref (adK j))] := hl
  refine lv_aload_n hx hb tx_d_length_0 rfl (lv_at hl 0 rfl) ?_
  refine vk_getf hx hb (hT.1.1 j hj).2.2.1 hS hown (hts _ (tb9 18 rfl rfl)) (fun _ h => h) tx_d_length_1 ?_
  refine va_tlen hx hb (hT.1.1 j hj).2.2.2 hS rfl tx_d_length_4 ?_
  refine lv_aload_n hx hb tx_d_length_5 rfl (lv_at hl 0 rfl) ?_
  refine tx_call (base := base) (v := some (.int 0)) (va_runV (C := "java/lang/String") (As := []) (rest := [.int (Int32.ofNat (tx_len.getD j 0))]) ⟨hx, hb, hml, hown, hts⟩ (tx_coder l j hj) ⟨callB_of 0 hts (tx_good (tb3 42 rfl rfl)) rfl rfl rfl (hts _ (tb1 14 rfl rfl)) (hts _ (tb3 39 rfl rfl)) (by decide +kernel) ⟨Nat.le_of_ble_eq_true rfl, Nat.le_of_ble_eq_true rfl⟩, hts _ (tb3 40 rfl rfl), hts _ (tb3 41 rfl rfl)⟩ ⟨tx_blind _, vk_recv hT.1 hj hS, tx_pre hT hS _⟩ rfl rfl hl.1 rfl (lv_room (Nat.le_of_ble_eq_true rfl)) tx_d_length_6 ⟨Nat.zero_le _, Nat.zero_le _⟩) hS (fun locs1 hS1 => ?_)
  refine lv_ishr hx hb tx_d_length_9 ?_
  have e : Int32.ofNat (tx_len.getD j 0) >>> ((0 : Int32) &&& 31) = Int32.ofNat (pm_txt (g_P xs) j).length := by
    rw [tx_len_eq hj]
    have := (tx_bytes j hj).1
    show nI _ >>> _ = nI _
    rw [pk_shrN (n := (gT.getD j []).length) (by omega) ((0 : Int32) &&& 31) 0 (by decide)]
    show nI ((gT.getD j []).length / 2 ^ 0) = nI (gT.getD j []).length
    rw [Nat.pow_zero, Nat.div_one]
  rw [e]
  exact W.iret hx hb hr (fun t ht hW => ⟨rfl, ht⟩) hS1.2.2 tx_d_length_10
set_option maxHeartbeats 4000000 in
/-- String.charAt of a constant -/
theorem tx_charAt (xs : List Int32) (ρ : Nat → Nat) (hρ : ∀ j, ρ (100000 + j) = adK j) : ∀ (j : Nat) (i : Int32), pm_in i (pm_txt (g_P xs) j).length = true → Met l (g_y 9002) (pm_ws (g_P xs) gTbl g_y g_b g_r 9002) (pm_rm (g_P xs) g_fr g_lo 9002) (va_Pc [.ref (ρ (100000 + j)), .int i] (tx_TT base adK adV)) (fun _ st o t => o = .returned (some (.int ((pm_txt (g_P xs) j).getD i.toNatClampNeg 0))) ∧ t.heap = st.heap) 0 0 (fun q : Nat => base ≤ q) := by
  intro j i hin
  have hvp : vp_in i (gT.getD j []).length := pm_in_vp hin
  have hj : j < 16 := tx_len_nz (Nat.pos_of_ne_zero fun q => by rw [show (gT.getD j []).length = 0 from q] at hvp; exact hvp (Or.inr (Nat.zero_le _)))
  obtain ⟨hb1, hb2⟩ := tx_bytes j hj
  have h0 : ¬ i < 0 := fun q => hvp (Or.inl q)
  obtain ⟨k, hk, rfl⟩ := vp_in_of hvp (by show (gT.getD j []).length < _; omega)
  have hk' : k < (gT.getD j []).length := hk
  have hmem : (gT.getD j []).getD k 0 ∈ gT.getD j [] := by
    have e : (gT.getD j []).getD k 0 = (gT.getD j [])[k] := by
      rw [List.getD_eq_getElem?_getD (l := gT.getD j []), List.getElem?_eq_getElem hk', Option.getD_some]
    rw [e]
    exact List.getElem_mem hk'
  obtain ⟨hc1, hc2⟩ := hb2 _ hmem
  have hkc : (nI k).toNatClampNeg = k := nI_clamp (by omega)
  rw [hρ]
  refine Met.ofW (cc := prog_15_method_56_code) (maxL := 2) (ret := some .char) (by decide +kernel) rfl ?_
  intro p e s m args below meth c s₁ B hml hv
  obtain ⟨rfl, hT⟩ := hv
  have hx := B.exec
  have hb := B.bytes
  have hr := B.returns
  have hts0 := atoms_spec (ws := pm_ws (g_P xs) gTbl g_y g_b g_r 9002) B.pre
  have hts : ∀ w ∈ gTbl, w.before _ s = true := fun w hw => hts0 w (List.mem_cons_of_mem _ hw)
  have hown : s.vm.findClass "java/lang/String" = some m.cls := findClass_of_methodNamed B.named
  have hlocks := B.notSynchronized
  have hS : va_S (fun q : Nat => base ≤ q) s.heap s.heap [] := va_S.rf
  have hl := lv_entry ([.ref (adK j), .int (nI k)]) (n := 2) (Nat.le_of_ble_eq_true rfl)
  rw [lg_entry_eq]
  generalize (lg_sl ([.ref (adK j), .int (nI k)]) ++ List.replicate (2 - (lg_sl ([.ref (adK j), .int (nI k)])).length) Slot.unset).toArray = ls at hl ⊢
  have hl : lv_has ls 2 [(0, .ref (adK j)), (1, .int (nI k))] := hl
  refine lv_aload_n hx hb tx_d_charAt_0 rfl (lv_at hl 0 rfl) ?_
  refine tx_call (base := base) (v := some (.int 1)) (va_runV (C := "java/lang/String") (As := []) (rest := []) ⟨hx, hb, hml, hown, hts⟩ (tx_isLatin1 l j hj) ⟨callB_of 0 hts (tx_good (tb3 52 rfl rfl)) rfl rfl rfl (hts _ (tb1 14 rfl rfl)) (hts _ (tb3 49 rfl rfl)) (by decide +kernel) ⟨Nat.le_of_ble_eq_true rfl, Nat.le_of_ble_eq_true rfl⟩, hts _ (tb3 50 rfl rfl), hts _ (tb3 51 rfl rfl)⟩ ⟨tx_blind _, vk_recv hT.1 hj hS, tx_pre hT hS _⟩ rfl rfl hl.1 rfl (lv_room (Nat.le_of_ble_eq_true rfl)) tx_d_charAt_1 ⟨Nat.zero_le _, Nat.zero_le _⟩) hS (fun locs1 hS1 => ?_)
  refine lv_if_eq (tgt := 16) hx hb tx_d_charAt_4 (by decide) (fun c => absurd c (by decide)) (fun c => ?_)
  refine lv_aload_n hx hb tx_d_charAt_7 rfl (lv_at hl 0 rfl) ?_
  refine vk_getf hx hb (hT.1.1 j hj).2.2.1 hS1 hown (hts _ (tb9 18 rfl rfl)) (fun _ h => h) tx_d_charAt_8 ?_
  refine lv_iload_n hx hb tx_d_charAt_11 rfl (lv_at hl 1 rfl) ?_
  refine tx_call (base := base) (v := some (.int ((gT.getD j []).getD k 0))) (va_runS (As := [.ref (adV j), .int (nI k)]) (rest := []) ⟨hx, hb, hml, hown, hts⟩ (tx_l1 l j hj (nI k) h0 (by rw [tx_len_eq hj]; exact nI_lt hk' (by omega)) (by rw [tx_len_eq hj]; exact hvp) ((gT.getD j []).getD k 0) (by rw [hkc]; exact hc1) hc2) ⟨callB_of 2 hts (tx_good (tb3 55 rfl rfl)) rfl rfl rfl (hts _ (tb1 15 rfl rfl)) (hts _ (tb3 53 rfl rfl)) (by decide +kernel) ⟨Nat.le_of_ble_eq_true rfl, Nat.le_of_ble_eq_true rfl⟩, hts _ (tb3 54 rfl rfl)⟩ ⟨tx_blind _, tx_pre hT hS1 _⟩ rfl rfl hl.1 rfl (lv_room (Nat.le_of_ble_eq_true rfl)) tx_d_charAt_12 ⟨Nat.zero_le _, Nat.zero_le _⟩) hS1 (fun locs2 hS2 => ?_)
  exact W.zret hx hb hr hc2 (fun t ht hW => ⟨by rw [hkc]; rfl, ht⟩) hS2.2.2 tx_d_charAt_15
end TXC
