/-! THE REAL MACHINE DOES WHAT THE PURE ONE DOES -/
theorem pm_run_v {P : pm_P} : ∀ {f m pc : Nat} {lv st : List Value} {h : pm_H} {cs : Nat × Nat} {v : List Value} {h' : pm_H}, pm_run P f m pc lv st h cs = some (v, h') → v.length ≤ 1 := by
  intro f
  induction f with
  | zero => intro m pc lv st h cs v h' e; simp [pm_run] at e
  | succ f ih =>
    intro m pc lv st h cs v h' e
    rw [pm_run] at e
    split at e
    · exact absurd e (by simp)
    · exact ih e
    · split at e
      · rename_i e1
        cases e
        unfold pm_re at e1
        repeat' split at e1
        all_goals first | (cases e1; simp; done) | (cases e1; done)
      · split at e
        · split at e
          · split at e
            · split at e
              · exact ih e
              · exact absurd e (by simp)
            · exact absurd e (by simp)
          · exact absurd e (by simp)
        · split at e
          · exact ih e
          · exact absurd e (by simp)
theorem pm_re_st {rt : Nat} {i : Instr} {st v : List Value} (e : pm_re rt i st = some v) : st = v := by
  unfold pm_re at e
  repeat' split at e
  all_goals first | (cases e; rfl; done) | (cases e; done)
def pm_rm (P : pm_P) (fr lo : Nat → Nat) (m : Nat) : Room := { frames := fr m, cells := pm_mc P m, slots := pm_ms P m, locals := lo m }
def pm_ws (P : pm_P) (tbl : List Jvm.Cond) (yN : Nat → MethodName) (byt : Nat → ByteArray) (rT : Nat → Option FieldType) (m : Nat) : List Jvm.Cond := .code (yN m) (byt m) (pm_mxl P m) (rT m) :: tbl
section SMS
variable {P : pm_P} {tbl : List Jvm.Cond} {yN : Nat → MethodName} {byt : Nat → ByteArray} {rT : Nat → Option FieldType} {fr lo : Nat → Nat} {cl : List vw_C} {strs : List (String × Nat × Nat)} {nst : List Jvm.Cond} {ρ : Nat → Nat} {tA : Nat → ClassId} {base : Nat} {D : va_G} {tys : List (ClassId × FieldType)}
variable {p : Program} {l : Launch} {e : Env} {R : Room} {s : State} {mi : MethodId} {args : Array Value} {below : List Frame} {meth : Method} {c : Code} {H : Heap} {locs : List Loc} {Q : State → Prop}
/-- how large the heap is at most -/
theorem sm_sz {cells slots : Nat} {g : JFrame} (k : s.heap.size ≤ H.size → H.size ≤ s.heap.size + cells → W p l e R s mi args below meth c H locs cells slots Q g) : W p l e R s mi args below meth c H locs cells slots Q g := by
  intro T hT X
  have h1 : s.heap.size ≤ T.heap.size := X.same.2.1
  have h2 : T.heap.size ≤ s.heap.size + cells := X.same.2.2.1
  rw [hT] at h1 h2
  exact k h1 h2 T hT X
theorem sm_low {h : pm_H} (hρ : ∀ a, a < 99999 → ρ a = base + a) (hrel : pm_Rel P tA ρ base D cl h H) (hb0 : base ≤ H.size) : base + h.2.2.2 ≤ H.size := by
  obtain ⟨hP, hn9, hZ⟩ := hrel
  by_cases hn : h.2.2.2 = 0
  · omega
  · have hlt := (hP (h.2.2.2 - 1) _ (pm_w_get (by omega))).lt
    have hr := hρ (h.2.2.2 - 1) (by omega)
    simp only [hr] at hlt
    omega
/-- behind a call -/
theorem sm_call {cells slots mc ms : Nat} {Qa : State → Outcome → State → Prop} {v rest st0 : List Value} {h' : pm_H} {pc : Nat} {ls : Array Slot} (hr : va_Run p l e R s mi args below meth c H locs cells slots mc ms (F0 mi pc ls st0) rest Qa (fun q : Nat => base ≤ q))
    (hQ : ∀ st₀ o t, Qa st₀ o t → st₀.heap = H → o = .returned ((v.map (pm_c ρ)).head?) ∧ pm_Rel P tA ρ base D cl h' t.heap ∧ va_F (fun q : Nat => base ≤ q) st₀ t) (hv : v.length ≤ 1) (hS : va_S (fun q : Nat => base ≤ q) s.heap H locs)
    (kk : ∀ (H1 : Heap) (locs1 : List Loc), pm_Rel P tA ρ base D cl h' H1 → va_S (fun q : Nat => base ≤ q) s.heap H1 locs1 → W p l e R s mi args below meth c H1 locs1 (cells + mc) (slots + ms) Q (F0 mi (pc + 3) ls (v.map (pm_c ρ) ++ rest))) : W p l e R s mi args below meth c H locs cells slots Q (F0 mi pc ls st0) := by
  intro T hT X
  obtain ⟨v', st₀, t, T', L, h0, X', hL, e1, e2, q, st⟩ := hr T hT X
  obtain ⟨hv', hrel, hz, hk⟩ := hQ _ _ _ q h0
  cases hv'
  rw [h0] at hz hk
  have hvl : ((v.map (pm_c ρ)).head?).toList = v.map (pm_c ρ) := by
    match v, hv with
    | [], _ => rfl
    | [x], _ => rfl
  obtain ⟨t2, a1, b1⟩ := kk T'.heap (locs ++ L) (by rw [e1]; exact hrel)
    ⟨Nat.le_trans hS.1 (by rw [e1]; exact hz), fun q h1 h2 => by rw [e1, hk q (Nat.lt_of_lt_of_le h1 hS.1) h2]; exact hS.2.1 q h1 h2, fun q hq => by
      rcases List.mem_append.mp hq with h | h
      · exact hS.2.2 q h
      · exact hL q h⟩ T' rfl X'
  rw [← hvl] at a1
  exact ⟨t2, st t2 a1, b1⟩
end SMS
/-- a contract out of a walk, of a method of any class for which the tables have no row of their own -/
theorem pm_ofW {l : Launch} {y : MethodName} {ws ws' : List Jvm.Cond} {rm : Room} {Pc : Array Value → State → Prop} {Qc : Array Value → State → Outcome → State → Prop} {mc ms : Nat} {free : Addr → Prop} {cc : ByteArray} {maxL : Nat} {ret : Option FieldType}
    (hy : plainFor y = true) (hw : ws = Jvm.Cond.code y cc maxL ret :: ws')
    (body : ∀ p e s m args below meth c s₁, BodyLoose p l y (headSpec ws rm) cc maxL ret e s m args below meth c s₁ → c.maxLocals = maxL → Pc args s →
      W p l e (headSpec ws rm).room s m args below meth c s.heap [] 0 0 (MQ below Qc args s mc ms free) (entryFrame m args maxL)) : Met l y ws rm Pc Qc mc ms free := by
  refine MetFree.of_bodySF (code := cc) (maxLocals := maxL) (ret := ret) hy ?_ ?_
  · intro args s m h hn
    obtain ⟨meth, c, h1, h2, h3, h4, h5, h6, -, -⟩ := Cond.code_spec hn (atoms_spec (ws := ws) h _ (by rw [hw]; exact List.mem_cons_self))
    exact ⟨meth, c, h1, h2, h3, h4, h5, h6⟩
  · intro p e s m args below meth c s₁ B hml hP _
    have hh0 : s₁.heap = s.heap := by rw [B.state]; rfl
    obtain ⟨t, a1, o, b1, b2, b3⟩ := body p e s m args below meth c s₁ B hml hP s₁ hh0 (Stand.of_body B)
    exact ⟨t, o, a1, b1, b2, ⟨b3.1, b3.2⟩⟩
