/-! A RUN OVER AN UNKNOWN HEAP, eleventh: contracts. A value's kind: (0, lo, hi, l) an int with a flag l, (1, lo, hi, _) a long, (2, _, _, t) a reference into region t, (3, ..) anything; or a known one. A fact (j, k, lo, hi, l): the int at place k of the object that is value j. A contract: method, what it takes, facts ahead, where it writes, what it may lose, how it may end: answer, facts, what is known of its ints, by how much places grow -/
abbrev sx_A : Type := (Nat × Int × Int × Nat) ⊕ Value
abbrev sx_F : Type := Nat × Nat × Int × Int × Nat
abbrev sx_O : Type := List sx_A × List sx_F × List (Nat × Int × Int × Nat) × List (Nat × Nat × Int × Int)
abbrev sx_K : Type := Nat × List sx_A × List sx_F × sx_W × (Bool × Bool) × List sx_O
def sx_va (tg : Nat → Nat) (VP : pm_H → Nat → Int → Prop) (h : pm_H) (s : sx_A) (w : Value) : Prop := match s with
  | .inl (0, lo, hi, l) => ∃ x : Int32, w = .int x ∧ lo ≤ x.toInt ∧ x.toInt ≤ hi ∧ (l = 0 ∨ VP h l x.toInt)
  | .inl (1, lo, hi, _) => ∃ x : Int64, w = .long x ∧ lo ≤ x.toInt ∧ x.toInt ≤ hi
  | .inl (2, _, _, t) => ∃ a : Nat, w = .ref a ∧ tg a = t ∧ a ≤ 1000000
  | .inl _ => True
  | .inr v => w = v
def sx_vas (tg : Nat → Nat) (VP : pm_H → Nat → Int → Prop) (h : pm_H) : List sx_A → List Value → Prop
  | [], [] => True
  | s :: l, w :: c => sx_va tg VP h s w ∧ sx_vas tg VP h l c
  | _, _ => False
def sx_fa (VP : pm_H → Nat → Int → Prop) (h : pm_H) (vs : List Value) (f : sx_F) : Prop := ∃ a : Nat, vs[f.1]? = some (.ref a) ∧ f.2.2.1 ≤ (h.1 a f.2.1).toInt ∧ (h.1 a f.2.1).toInt ≤ f.2.2.2.1 ∧ (f.2.2.2.2 = 0 ∨ VP h f.2.2.2.2 (h.1 a f.2.1).toInt)
def sx_fas (VP : pm_H → Nat → Int → Prop) (h : pm_H) (vs : List Value) (fs : List sx_F) : Prop := ∀ f, f ∈ fs → sx_fa VP h vs f
def sx_ga1 (VP : pm_H → Nat → Int → Prop) (h : pm_H) (vs : List Value) (q : Nat × Int × Int × Nat) : Prop := ∃ x : Int32, vs[q.1]? = some (.int x) ∧ q.2.1 ≤ x.toInt ∧ x.toInt ≤ q.2.2.1 ∧ (q.2.2.2 = 0 ∨ VP h q.2.2.2 x.toInt)
def sx_da1 (h h' : pm_H) (vs : List Value) (d : Nat × Nat × Int × Int) : Prop := ∃ a : Nat, vs[d.1]? = some (.ref a) ∧ d.2.2.1 ≤ (h'.1 a d.2.1).toInt - (h.1 a d.2.1).toInt ∧ (h'.1 a d.2.1).toInt - (h.1 a d.2.1).toInt ≤ d.2.2.2
def sx_po (tg : Nat → Nat) (VP : pm_H → Nat → Int → Prop) (h h' : pm_H) (vs v : List Value) (o : sx_O) : Prop := sx_vas tg VP h' o.1 v ∧ sx_fas VP h' vs o.2.1 ∧ (∀ q, q ∈ o.2.2.1 → sx_ga1 VP h' vs q) ∧ (∀ d, d ∈ o.2.2.2 → sx_da1 h h' vs d)
def sx_con (P : pm_P) (T : sx_T) (tg : Nat → Nat) (PH : pm_H → Prop) (VP : pm_H → Nat → Int → Prop) (c : sx_K) : Prop := ∀ (h : pm_H) (vs : List Value) (Q : List Value → pm_H → Prop), sx_IV T tg PH h → sx_vas tg VP h c.2.1 vs → sx_fas VP h vs c.2.2.1 → (∀ v h', sx_IV T tg PH h' → sx_fr tg VP c.2.2.2.1 c.2.2.2.2.1 h h' → (∃ o, o ∈ c.2.2.2.2.2 ∧ sx_po tg VP h h' vs v o) → Q v h') → pm_W P c.1 0 (pm_en vs (pm_mxl P c.1)) [] h (0, 0) Q
/-! what is known is enough -/
def sx_hf (σ : sx_S) (φ : List (Nat × Nat)) (v : sx_V) (l : Nat) : Bool := match v with
  | .inr (.inl (i, .ofNat 0)) => (φ.any fun q => Nat.beq q.1 i && Nat.beq q.2 l) && (match sx_b σ i with
    | some b => sx_w b sx_mn sx_mx
    | none => false)
  | _ => false
def sx_eqw (v w : Value) : Bool := match v with
  | .null => match w with
    | .null => true
    | _ => false
  | .ref a => match w with
    | .ref b => Nat.beq a b
    | _ => false
  | .int x => match w with
    | .int y => decide (x.toInt = y.toInt)
    | _ => false
  | .retAddr 0 => match w with
    | .retAddr 0 => true
    | _ => false
  | _ => false
theorem sx_eqw_ok {v w : Value} (h : sx_eqw v w = true) : v = w := by
  unfold sx_eqw at h
  split at h
  · split at h
    · rfl
    · cases h
  · split at h
    · rw [Nat.eq_of_beq_eq_true h]
    · cases h
  · split at h
    · rw [Int32.toInt_inj.mp (of_decide_eq_true h)]
    · cases h
  · split at h
    · rfl
    · cases h
  · cases h
def sx_ft (E : sx_E) (s : sx_A) (v : sx_V) : Bool := match s with
  | .inl (0, lo, hi, l) => match sx_vi E.1 v with
    | some b => sx_w b lo hi && (Nat.beq l 0 || sx_hf E.1 E.2.2.1 v l)
    | none => false
  | .inl (1, lo, hi, _) => match sx_lvi E.1 v with
    | some b => sx_w b lo hi
    | none => false
  | .inl (2, _, _, t) => match v with
    | .inr (.inr (.inr (.inr (i, u)))) => Nat.beq u t && (match sx_b E.1 i with
      | some b => decide (b.2 ≤ 1000000)
      | none => false)
    | _ => false
  | .inl _ => true
  | .inr w => match v with
    | .inl x => sx_eqw x w
    | _ => false
section XC
variable {P : pm_P} {T : sx_T} {tg : Nat → Nat} {PH : pm_H → Prop} {VP : pm_H → Nat → Int → Prop} {ρ : List Int} {h : pm_H} {E : sx_E}
theorem sx_hf_ok {φ : List (Nat × Nat)} (hφ : sx_oF VP ρ h φ) {σ : sx_S} (hρ : sx_in ρ σ) {v : sx_V} {l : Nat} (e : sx_hf σ φ v l = true) {x : Int32} (ev : sx_ev tg ρ v = some (.int x)) : VP h l x.toInt := by
  unfold sx_hf at e
  split at e
  · rename_i i
    rw [Bool.and_eq_true] at e
    obtain ⟨q, h1, h2⟩ := List.any_eq_true.mp e.1
    rw [Bool.and_eq_true] at h2
    obtain ⟨z, g1, g2⟩ := hφ q h1
    rw [Nat.eq_of_beq_eq_true h2.1] at g1
    rw [Nat.eq_of_beq_eq_true h2.2] at g2
    obtain ⟨z', k1, k2⟩ := sx_evi ev
    rw [g1] at k1
    cases k1
    cases k2
    have e2 := e.2
    split at e2
    · rename_i b hb
      have hr := sx_w_ok e2
      have hq := hρ i _ hb z g1
      rw [show z + Int.ofNat 0 = z from Int.add_zero z, sx_ofInt (by omega) (by omega)]
      exact g2
    · cases e2
  · cases e
theorem sx_ft_ok (ok : sx_ok tg VP ρ h E) {s : sx_A} {v : sx_V} (e : sx_ft E s v = true) {w : Value} (ev : v = .inl (.retAddr 1) ∨ sx_ev tg ρ v = some w) : sx_va tg VP h s w := by
  rcases s with ⟨kd, lo, hi, l⟩ | w'
  · rcases kd with _ | _ | _ | kd
    · simp only [sx_ft] at e
      split at e
      · rename_i b hb
        have ev := ev.resolve_left (fun q => by subst q; cases hb)
        obtain ⟨x, rfl, g1, g2⟩ := sx_vi_ok ok.2.1 hb ev
        rw [Bool.and_eq_true, Bool.or_eq_true] at e
        have g3 := sx_w_ok e.1
        refine ⟨x, rfl, by omega, by omega, ?_⟩
        rcases e.2 with q | q
        · exact Or.inl (Nat.eq_of_beq_eq_true q)
        · exact Or.inr (sx_hf_ok ok.2.2.1 ok.2.1 q ev)
      · cases e
    · simp only [sx_ft] at e
      split at e
      · rename_i b hb
        have ev := ev.resolve_left (fun q => by subst q; cases hb)
        obtain ⟨x, rfl, g1, g2⟩ := sx_lvi_ok ok.2.1 hb ev
        have g3 := sx_w_ok e
        exact ⟨x, rfl, by omega, by omega⟩
      · cases e
    · simp only [sx_ft] at e
      split at e
      · rename_i i u
        have ev := ev.resolve_left (fun q => by cases q)
        obtain ⟨a, g1, g2, rfl⟩ := sx_evr ev
        rw [Bool.and_eq_true] at e
        refine ⟨a, rfl, g2.trans (Nat.eq_of_beq_eq_true e.1), ?_⟩
        have e2 := e.2
        split at e2
        · rename_i b hb
          have q := ok.2.1 i _ hb _ g1
          have e3 := of_decide_eq_true e2
          omega
        · cases e2
      · cases e
    · trivial
  · simp only [sx_ft] at e
    split at e
    · rename_i x
      rcases ev with ev | ev
      · cases ev
        exact absurd e (by unfold sx_eqw; simp)
      · have g := sx_evl ev
        show w = w'
        rw [← g]
        exact sx_eqw_ok e
    · cases e
/-- all that a method takes -/
def sx_fts (E : sx_E) : List sx_A → List sx_V → Bool
  | [], [] => true
  | s :: l, v :: c => sx_ft E s v && sx_fts E l c
  | _, _ => false
theorem sx_fts_ok (ok : sx_ok tg VP ρ h E) : ∀ {l : List sx_A} {c : List sx_V} {w : List Value}, sx_fts E l c = true → sx_RL tg ρ c w → sx_vas tg VP h l w
  | [], [], [], _, _ => trivial
  | [], [], _ :: _, _, r => r.elim
  | s :: l, v :: c, [], _, r => r.elim
  | s :: l, v :: c, x :: w, e, r => by
    rw [sx_fts, Bool.and_eq_true] at e
    exact ⟨sx_ft_ok ok e.1 r.1, sx_fts_ok ok e.2 r.2⟩
  | [], _ :: _, _, e, _ => by cases e
  | _ :: _, [], _, e, _ => by cases e
/-- a fact -/
def sx_ff (T : sx_T) (E : sx_E) (vs : List sx_V) (f : sx_F) : Bool := match vs[f.1]? with
  | some (.inr (.inr (.inr (.inr (i, t))))) => match sx_fdI T i t f.2.1 E.2.2.2.2.1 with
    | some v => (match sx_vi E.1 v with
      | some b => sx_w b f.2.2.1 f.2.2.2.1
      | none => false) && (Nat.beq f.2.2.2.2 0 || sx_hf E.1 E.2.2.1 v f.2.2.2.2)
    | none => Nat.beq f.2.2.2.2 0 && sx_w (sx_rd (sx_sb T t) f.2.1 f.2.1) f.2.2.1 f.2.2.2.1
  | _ => false
theorem sx_ff_ok (hC : sx_C P T tg PH VP) (ok : sx_ok tg VP ρ h E) (iv : sx_IV T tg PH h) {vs : List sx_V} {ws : List Value} (r : sx_RL tg ρ vs ws) {f : sx_F} (e : sx_ff T E vs f = true) : sx_fa VP h ws f := by
  unfold sx_ff at e
  split at e
  · rename_i i t ei
    obtain ⟨w, g1, g2⟩ := sx_RL_get r ei
    have g2 := g2.resolve_left (fun q => by cases q)
    obtain ⟨a, g3, g4, rfl⟩ := sx_evr g2
    refine ⟨a, g1, ?_⟩
    split at e
    · rename_i v hv
      have k1 := sx_fdI_ok hC ok.2.2.2.2.1 hv g3 g4
      rw [Bool.and_eq_true, Bool.or_eq_true] at e
      have e1 := e.1
      split at e1
      · rename_i b hb
        obtain ⟨x, k2, k3, k4⟩ := sx_vi_ok ok.2.1 hb k1
        cases k2
        have k5 := sx_w_ok e1
        refine ⟨by omega, by omega, ?_⟩
        rcases e.2 with q | q
        · exact Or.inl (Nat.eq_of_beq_eq_true q)
        · exact Or.inr (sx_hf_ok ok.2.2.1 ok.2.1 q k1)
      · cases e1
    · rw [Bool.and_eq_true] at e
      have k5 := sx_w_ok e.2
      have hb := sx_rd_ok (g := sx_sb T t) (lo := f.2.1) (hi := f.2.1) (x := h.1 a f.2.1) (k := f.2.1) (fun q hq h1 h2 => iv.1 a f.2.1 q (by rw [g4]; exact hq) h1 h2) (Int.le_refl _) (Int.le_refl _)
      exact ⟨by omega, by omega, Or.inl (Nat.eq_of_beq_eq_true e.1)⟩
  · cases e
def sx_ffs (T : sx_T) (E : sx_E) (vs : List sx_V) : List sx_F → Bool
  | [] => true
  | f :: l => sx_ff T E vs f && sx_ffs T E vs l
theorem sx_ffs_ok (hC : sx_C P T tg PH VP) (ok : sx_ok tg VP ρ h E) (iv : sx_IV T tg PH h) {vs : List sx_V} {ws : List Value} (r : sx_RL tg ρ vs ws) {fs : List sx_F} (e : sx_ffs T E vs fs = true) : sx_fas VP h ws fs := by
  induction fs with
  | nil => intro f hf; cases hf
  | cons g l ih =>
    rw [sx_ffs, Bool.and_eq_true] at e
    intro f hf
    rcases List.mem_cons.mp hf with hf | hf
    · rw [hf]; exact sx_ff_ok hC ok iv r e.1
    · exact ih e.2 f hf
end XC
/-! values, facts that come in -/
def sx_in1 (E : sx_E) (s : sx_A) : sx_V × sx_E := match s with
  | .inl (0, lo, hi, l) => bif decide (lo = hi) && Nat.beq l 0 then (.inl (.int (Int32.ofInt lo)), E) else (.inr (.inl (E.2.1, 0)), (E.2.1, lo, hi) :: E.1, E.2.1 + 1, (bif Nat.beq l 0 then E.2.2.1 else (E.2.1, l) :: E.2.2.1), E.2.2.2)
  | .inl (1, lo, hi, _) => (.inr (.inr (.inl E.2.1)), (E.2.1, lo, hi) :: E.1, E.2.1 + 1, E.2.2)
  | .inl (2, _, _, t) => (.inr (.inr (.inr (.inr (E.2.1, t)))), (E.2.1, 0, 1000000) :: E.1, E.2.1 + 1, E.2.2)
  | .inl _ => (.inl (.retAddr 1), E)
  | .inr w => (.inl w, E)
section XD
variable {P : pm_P} {T : sx_T} {tg : Nat → Nat} {PH : pm_H → Prop} {VP : pm_H → Nat → Int → Prop} {ρ : List Int} {h : pm_H} {E : sx_E}
theorem sx_oF_cons {φ : List (Nat × Nat)} (k : sx_oF VP ρ h φ) {i l : Nat} {z : Int} (h1 : ρ[i]? = some z) (h2 : VP h l z) : sx_oF VP ρ h ((i, l) :: φ) := by
  intro q hq
  rcases List.mem_cons.mp hq with rfl | hq
  · exact ⟨z, h1, h2⟩
  · exact k q hq
theorem sx_in1_ok (ok : sx_ok tg VP ρ h E) {s : sx_A} {w : Value} (k : sx_va tg VP h s w) : ∃ e, sx_ok tg VP (ρ ++ e) h (sx_in1 E s).2 ∧ ((sx_in1 E s).1 = .inl (.retAddr 1) ∨ sx_ev tg (ρ ++ e) (sx_in1 E s).1 = some w) := by
  obtain ⟨σ, n, φ, ν, KI, KR⟩ := E
  rcases s with ⟨kd, lo, hi, l⟩ | w'
  · rcases kd with _ | _ | _ | kd
    · obtain ⟨x, rfl, h1, h2, h3⟩ := k
      simp only [sx_in1]
      cases d : decide (lo = hi) && Nat.beq l 0 with
      | true =>
        rw [Bool.and_eq_true, decide_eq_true_iff] at d
        refine ⟨[], by rw [List.append_nil]; exact ok, Or.inr ?_⟩
        have : lo = x.toInt := by omega
        show some (Value.int (Int32.ofInt lo)) = _
        rw [this, Int32.ofInt_toInt]
      | false =>
        obtain ⟨k1, k2⟩ := sx_ok_new ok x ⟨h1, h2⟩
        refine ⟨[x.toInt], ?_, Or.inr k2⟩
        simp only [cond_false]
        cases dl : Nat.beq l 0 with
        | true => exact k1
        | false =>
          refine ⟨k1.1, k1.2.1, ?_, k1.2.2.2⟩
          have hn := sx_get_new ρ x.toInt
          rw [show ρ.length = n from ok.1] at hn
          exact sx_oF_cons k1.2.2.1 hn (h3.resolve_left (fun q => by rw [q] at dl; cases dl))
    · obtain ⟨x, rfl, h1, h2⟩ := k
      obtain ⟨k1, k2⟩ := sx_ok_newL ok x ⟨h1, h2⟩
      exact ⟨[x.toInt], k1, Or.inr k2⟩
    · obtain ⟨a, rfl, h1, h2⟩ := k
      obtain ⟨k1, k2, _⟩ := sx_ok_newR ok a l h1 (by omega)
      exact ⟨[(a : Int)], k1, Or.inr k2⟩
    · exact ⟨[], by rw [List.append_nil]; exact ok, Or.inl rfl⟩
  · have k' : w = w' := k
    subst k'
    exact ⟨[], by rw [List.append_nil]; exact ok, Or.inr rfl⟩
def sx_ins (E : sx_E) : List sx_A → List sx_V × sx_E
  | [] => ([], E)
  | s :: l => match sx_in1 E s with
    | (v, E1) => match sx_ins E1 l with
      | (vs, E2) => (v :: vs, E2)
theorem sx_ins_ok : ∀ {l : List sx_A} {ws : List Value} {ρ : List Int} {E : sx_E}, sx_ok tg VP ρ h E → sx_vas tg VP h l ws → ∃ e, sx_ok tg VP (ρ ++ e) h (sx_ins E l).2 ∧ sx_RL tg (ρ ++ e) (sx_ins E l).1 ws
  | [], [], ρ, E, ok, _ => ⟨[], by rw [List.append_nil]; exact ok, trivial⟩
  | [], _ :: _, _, _, _, k => k.elim
  | _ :: _, [], _, _, _, k => k.elim
  | s :: l, w :: ws, ρ, E, ok, k => by
    obtain ⟨e1, o1, r1⟩ := sx_in1_ok ok k.1
    obtain ⟨e2, o2, r2⟩ := sx_ins_ok o1 k.2
    refine ⟨e1 ++ e2, ?_, ?_⟩
    · rw [← List.append_assoc]; exact o2
    · rw [← List.append_assoc]
      exact ⟨r1.imp id (fun q => sx_em q e2), r2⟩
/-- a fact comes in -/
def sx_f1 (E : sx_E) (vs : List sx_V) (f : sx_F) : sx_E := match vs[f.1]? with
  | some (.inr (.inr (.inr (.inr (i, t))))) => ((E.2.1, f.2.2.1, f.2.2.2.1) :: E.1, E.2.1 + 1, (bif Nat.beq f.2.2.2.2 0 then E.2.2.1 else (E.2.1, f.2.2.2.2) :: E.2.2.1), E.2.2.2.1, ((i, t, f.2.1), .inr (.inl (E.2.1, 0))) :: E.2.2.2.2.1, E.2.2.2.2.2)
  | _ => E
theorem sx_f1_ok (ok : sx_ok tg VP ρ h E) {vs : List sx_V} {ws : List Value} (r : sx_RL tg ρ vs ws) {f : sx_F} (k : sx_fa VP h ws f) : ∃ e, sx_ok tg VP (ρ ++ e) h (sx_f1 E vs f) := by
  obtain ⟨σ, n, φ, ν, KI, KR⟩ := E
  unfold sx_f1
  split
  · rename_i i t ei
    obtain ⟨w, g1, g2⟩ := sx_RL_get r ei
    have g2 := g2.resolve_left (fun q => by cases q)
    obtain ⟨a, g3, g4, rfl⟩ := sx_evr g2
    obtain ⟨a', q1, q2, q3, q4⟩ := k
    rw [g1] at q1
    cases q1
    obtain ⟨k1, k2⟩ := sx_ok_new ok (h.1 a f.2.1) ⟨q2, q3⟩
    refine ⟨[(h.1 a f.2.1).toInt], k1.1, k1.2.1, ?_, k1.2.2.2.1, ?_, k1.2.2.2.2.2⟩
    · show sx_oF VP _ h (bif Nat.beq f.2.2.2.2 0 then φ else (n, f.2.2.2.2) :: φ)
      cases dl : Nat.beq f.2.2.2.2 0 with
      | true => exact k1.2.2.1
      | false =>
        have hn := sx_get_new ρ (h.1 a f.2.1).toInt
        rw [show ρ.length = n from ok.1] at hn
        exact sx_oF_cons k1.2.2.1 hn (q4.resolve_left (fun q => by rw [q] at dl; cases dl))
    · intro q hq
      rcases List.mem_cons.mp hq with rfl | hq
      · exact ⟨a, sx_gm g3 _, g4, k2⟩
      · exact k1.2.2.2.2.1 q hq
  · exact ⟨[], by rw [List.append_nil]; exact ok⟩
def sx_fs (E : sx_E) (vs : List sx_V) : List sx_F → sx_E
  | [] => E
  | f :: l => sx_fs (sx_f1 E vs f) vs l
theorem sx_fs_ok {vs : List sx_V} {ws : List Value} : ∀ {l : List sx_F} {ρ : List Int} {E : sx_E}, sx_ok tg VP ρ h E → sx_RL tg ρ vs ws → sx_fas VP h ws l → ∃ e, sx_ok tg VP (ρ ++ e) h (sx_fs E vs l)
  | [], ρ, E, ok, _, _ => ⟨[], by rw [List.append_nil]; exact ok⟩
  | f :: l, ρ, E, ok, r, k => by
    obtain ⟨e1, o1⟩ := sx_f1_ok ok r (k f List.mem_cons_self)
    obtain ⟨e2, o2⟩ := sx_fs_ok o1 (sx_RL_mono e1 r) (fun g hg => k g (List.mem_cons_of_mem _ hg))
    exact ⟨e1 ++ e2, by rw [← List.append_assoc]; exact o2⟩
/-- what is known of an int that was handed over -/
def sx_g1 (E : sx_E) (vs : List sx_V) (q : Nat × Int × Int × Nat) : sx_E := match vs[q.1]? with
  | some (.inr (.inl (i, c))) => (sx_pu E.1 (.inr (.inl (i, c))) (q.2.1, q.2.2.1), E.2.1, (bif Nat.beq q.2.2.2 0 then E.2.2.1 else (match c with
    | .ofNat 0 => (match sx_b E.1 i with
      | some b => (bif sx_w b sx_mn sx_mx then (i, q.2.2.2) :: E.2.2.1 else E.2.2.1)
      | none => E.2.2.1)
    | _ => E.2.2.1)), E.2.2.2)
  | _ => E
theorem sx_g1_ok (ok : sx_ok tg VP ρ h E) {vs : List sx_V} {ws : List Value} (r : sx_RL tg ρ vs ws) {q : Nat × Int × Int × Nat} (k : sx_ga1 VP h ws q) : sx_ok tg VP ρ h (sx_g1 E vs q) := by
  unfold sx_g1
  split
  · rename_i i c ei
    obtain ⟨w, g1, g2⟩ := sx_RL_get r ei
    have g2 := g2.resolve_left (fun q => by cases q)
    obtain ⟨x, q1, q2, q3, q4⟩ := k
    rw [g1] at q1
    cases q1
    refine ⟨ok.1, sx_pu_ok' ok.2.1 g2 q2 q3, ?_, ok.2.2.2⟩
    show sx_oF VP ρ h (bif Nat.beq q.2.2.2 0 then E.2.2.1 else _)
    cases dl : Nat.beq q.2.2.2 0 with
    | true => exact ok.2.2.1
    | false =>
      simp only [cond_false]
      split
      · split
        · rename_i b hb
          cases dw : sx_w b sx_mn sx_mx with
          | false => exact ok.2.2.1
          | true =>
            obtain ⟨z, g3, g4⟩ := sx_evi g2
            have hr := sx_w_ok dw
            have hq := ok.2.1 i _ hb z g3
            have g5 := q4.resolve_left (fun q => by rw [q] at dl; cases dl)
            cases g4
            rw [show z + Int.ofNat 0 = z from Int.add_zero z, sx_ofInt (by omega) (by omega)] at g5
            exact sx_oF_cons ok.2.2.1 g3 g5
        · exact ok.2.2.1
      · exact ok.2.2.1
  · exact ok
def sx_gs (E : sx_E) (vs : List sx_V) : List (Nat × Int × Int × Nat) → sx_E
  | [] => E
  | q :: l => sx_gs (sx_g1 E vs q) vs l
theorem sx_gs_ok {vs : List sx_V} {ws : List Value} (r : sx_RL tg ρ vs ws) : ∀ {l : List (Nat × Int × Int × Nat)} {E : sx_E}, sx_ok tg VP ρ h E → (∀ q, q ∈ l → sx_ga1 VP h ws q) → sx_ok tg VP ρ h (sx_gs E vs l)
  | [], _, ok, _ => ok
  | q :: l, E, ok, k => by
    have o1 := sx_g1_ok ok r (k q List.mem_cons_self)
    exact sx_gs_ok (E := sx_g1 E vs q) (l := l) r o1 (fun g hg => k g (List.mem_cons_of_mem _ hg))
end XD
