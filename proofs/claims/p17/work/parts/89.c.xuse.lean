/-! A RUN OVER AN UNKNOWN HEAP, twelfth: a contract is used -/
def sx_kls (W : sx_W) (K : List ((Nat × Nat × Nat) × sx_V)) : List ((Nat × Nat × Nat) × sx_V) := match W with
  | [] => K
  | q :: r => sx_kls r (sx_kl q.1 q.2.1 q.2.2 K)
theorem sx_kls_mem {q : (Nat × Nat × Nat) × sx_V} : ∀ {W : sx_W} {K : List ((Nat × Nat × Nat) × sx_V)}, q ∈ sx_kls W K → q ∈ K ∧ ¬ sx_WP W q.1.2.1 q.1.2.2
  | [], K, h => ⟨h, fun ⟨p, hp, _⟩ => by cases hp⟩
  | p :: r, K, h => by
    obtain ⟨h1, h2⟩ := sx_kls_mem (W := r) h
    obtain ⟨h3, h4⟩ := sx_kl_mem h1
    refine ⟨h3, fun ⟨s, hs, g1, g2, g3⟩ => ?_⟩
    rcases List.mem_cons.mp hs with hs | hs
    · rw [hs] at g1 g2 g3
      exact h4 ⟨g1.symm, g2, g3⟩
    · exact h2 ⟨s, hs, g1, g2, g3⟩
def sx_kill (W : sx_W) (D : Bool × Bool) (E : sx_E) : sx_E := (E.1, E.2.1, (bif D.1 then [] else E.2.2.1), E.2.2.2.1, sx_kls W E.2.2.2.2.1, (bif D.2 then [] else E.2.2.2.2.2))
def sx_wks (W : sx_W) : sx_W → Bool
  | [] => true
  | q :: r => sx_wk W q.1 q.2.1 q.2.2 && sx_wks W r
theorem sx_wks_ok {W : sx_W} : ∀ {V : sx_W}, sx_wks W V = true → ∀ {t : Nat} {k : Int}, sx_WP V t k → sx_WP W t k
  | [], _, _, _, ⟨p, hp, _⟩ => by cases hp
  | q :: r, e, t, k, ⟨p, hp, g1, g2, g3⟩ => by
    rw [sx_wks, Bool.and_eq_true] at e
    rcases List.mem_cons.mp hp with hp | hp
    · rw [hp] at g1 g2 g3
      rw [← g1]
      exact sx_wk_ok e.1 g2 g3
    · exact sx_wks_ok e.2 ⟨p, hp, g1, g2, g3⟩
section XU
variable {P : pm_P} {T : sx_T} {tg : Nat → Nat} {PH : pm_H → Prop} {VP : pm_H → Nat → Int → Prop} {ρ : List Int} {h h' : pm_H} {E : sx_E}
theorem sx_kill_ok (ok : sx_ok tg VP ρ h E) {W : sx_W} {D : Bool × Bool} (fr : sx_fr tg VP W D h h') : sx_ok tg VP ρ h' (sx_kill W D E) := by
  refine ⟨ok.1, ok.2.1, ?_, ok.2.2.2.1, fun q hq => ?_, ?_⟩
  · show sx_oF VP ρ h' (bif D.1 then [] else E.2.2.1)
    cases d : D.1 with
    | true => intro q hq; cases hq
    | false =>
      intro q hq
      obtain ⟨z, g1, g2⟩ := ok.2.2.1 q hq
      exact ⟨z, g1, fr.2.1 d _ _ g2⟩
  · obtain ⟨h1, h2⟩ := sx_kls_mem hq
    obtain ⟨a, g1, g2, g3⟩ := ok.2.2.2.2.1 q h1
    refine ⟨a, g1, g2, ?_⟩
    rw [fr.1 a q.1.2.2 (by rw [g2]; exact h2)]
    exact g3
  · show sx_oR tg ρ h'.2.2.1 (bif D.2 then [] else E.2.2.2.2.2)
    cases d : D.2 with
    | true => intro q hq; cases hq
    | false => rw [fr.2.2 d]; exact ok.2.2.2.2.2
theorem sx_fr_sub {W V : sx_W} {C D : Bool × Bool} (fr : sx_fr tg VP V C h h') (hw : sx_wks W V = true) (h1 : (!C.1 || D.1) = true) (h2 : (!C.2 || D.2) = true) : sx_fr tg VP W D h h' := by
  refine ⟨fun a k hn => fr.1 a k (fun q => hn (sx_wks_ok hw q)), fun d => ?_, fun d => ?_⟩
  · rw [d, Bool.or_false, Bool.not_eq_true'] at h1
    exact fr.2.1 h1
  · rw [d, Bool.or_false, Bool.not_eq_true'] at h2
    exact fr.2.2 h2
/-- a place grew (E0: what was known ahead) -/
def sx_dv (T : sx_T) (E0 : sx_E) (i t k : Nat) : Int × Int := match sx_fdI T i t k E0.2.2.2.2.1 with
  | some v => (match sx_vi E0.1 v with
    | some b => b
    | none => (sx_mn, sx_mx))
  | none => sx_rd (sx_sb T t) k k
def sx_d1 (T : sx_T) (E0 E : sx_E) (vs : List sx_V) (d : Nat × Nat × Int × Int) : sx_E := match vs[d.1]? with
  | some (.inr (.inr (.inr (.inr (i, t))))) => (sx_nw E.1 E.2.1 ((sx_dv T E0 i t d.2.1).1 + d.2.2.1, (sx_dv T E0 i t d.2.1).2 + d.2.2.2), E.2.1 + 1, E.2.2.1, E.2.2.2.1, ((i, t, d.2.1), .inr (.inl (E.2.1, 0))) :: E.2.2.2.2.1, E.2.2.2.2.2)
  | _ => E
theorem sx_dv_ok (hC : sx_C P T tg PH VP) {E0 : sx_E} (ok : sx_ok tg VP ρ h E0) (iv : sx_IV T tg PH h) {i t k a : Nat} (ha : ρ[i]? = some (a : Int)) (hat : tg a = t) : (sx_dv T E0 i t k).1 ≤ (h.1 a k).toInt ∧ (h.1 a k).toInt ≤ (sx_dv T E0 i t k).2 := by
  unfold sx_dv
  split
  · rename_i v hv
    have k1 := sx_fdI_ok hC ok.2.2.2.2.1 hv ha hat
    split
    · rename_i b hb
      obtain ⟨x, k2, k3⟩ := sx_vi_ok ok.2.1 hb k1
      cases k2
      exact k3
    · exact sx_rng _
  · exact sx_rd_ok (g := sx_sb T t) (lo := k) (hi := k) (x := h.1 a k) (k := k) (fun q hq h1 h2 => iv.1 a k q (by rw [hat]; exact hq) h1 h2) (Int.le_refl _) (Int.le_refl _)
theorem sx_d1_ok (hC : sx_C P T tg PH VP) {E0 : sx_E} {ρ0 : List Int} (ok0 : sx_ok tg VP ρ0 h E0) (iv : sx_IV T tg PH h) {e0 : List Int} (he : ρ = ρ0 ++ e0) (ok : sx_ok tg VP ρ h' E) {vs : List sx_V} {ws : List Value} (r : sx_RL tg ρ0 vs ws) {d : Nat × Nat × Int × Int} (k : sx_da1 h h' ws d) : ∃ e, sx_ok tg VP (ρ ++ e) h' (sx_d1 T E0 E vs d) := by
  obtain ⟨σ, n, φ, ν, KI, KR⟩ := E
  unfold sx_d1
  split
  · rename_i i t ei
    obtain ⟨w, g1, g2⟩ := sx_RL_get r ei
    have g2 := g2.resolve_left (fun q => by cases q)
    obtain ⟨a, g3, g4, rfl⟩ := sx_evr g2
    obtain ⟨a', q1, q2, q3⟩ := k
    rw [g1] at q1
    cases q1
    have b1 := sx_dv_ok (k := d.2.1) hC ok0 iv g3 g4
    obtain ⟨k1, k2⟩ := sx_ok_new ok (h'.1 a d.2.1) (lo := (sx_dv T E0 i t d.2.1).1 + d.2.2.1) (hi := (sx_dv T E0 i t d.2.1).2 + d.2.2.2) ⟨by omega, by omega⟩
    refine ⟨[(h'.1 a d.2.1).toInt], ?_⟩
    rw [sx_nw_eq]
    refine ⟨k1.1, k1.2.1, k1.2.2.1, k1.2.2.2.1, ?_, k1.2.2.2.2.2⟩
    intro q hq
    rcases List.mem_cons.mp hq with rfl | hq
    · refine ⟨a, ?_, g4, k2⟩
      show (ρ ++ _)[i]? = _
      rw [he]
      exact sx_gm (sx_gm g3 e0) _
    · exact k1.2.2.2.2.1 q hq
  · exact ⟨[], by rw [List.append_nil]; exact ok⟩
def sx_ds (T : sx_T) (E0 : sx_E) (vs : List sx_V) : List (Nat × Nat × Int × Int) → sx_E → sx_E
  | [], E => E
  | d :: l, E => sx_ds T E0 vs l (sx_d1 T E0 E vs d)
theorem sx_ds_ok (hC : sx_C P T tg PH VP) {E0 : sx_E} {ρ0 : List Int} (ok0 : sx_ok tg VP ρ0 h E0) (iv : sx_IV T tg PH h) {vs : List sx_V} {ws : List Value} (r : sx_RL tg ρ0 vs ws) : ∀ {l : List (Nat × Nat × Int × Int)} {E : sx_E} {e0 : List Int}, sx_ok tg VP (ρ0 ++ e0) h' E → (∀ d, d ∈ l → sx_da1 h h' ws d) → ∃ e, sx_ok tg VP (ρ0 ++ e) h' (sx_ds T E0 vs l E)
  | [], E, e0, ok, _ => ⟨e0, ok⟩
  | d :: l, E, e0, ok, k => by
    obtain ⟨e1, o1⟩ := sx_d1_ok hC ok0 iv (ρ := ρ0 ++ e0) rfl ok r (k d List.mem_cons_self)
    rw [List.append_assoc] at o1
    exact sx_ds_ok hC ok0 iv r (l := l) o1 (fun g hg => k g (List.mem_cons_of_mem _ hg))
/-- one end of a contract: the answer, what is known -/
def sx_out (T : sx_T) (E0 : sx_E) (vs : List sx_V) (W : sx_W) (D : Bool × Bool) (o : sx_O) : List sx_V × sx_E := sx_ins (sx_gs (sx_fs (sx_ds T E0 vs o.2.2.2 (sx_kill W D E0)) vs o.2.1) vs o.2.2.1) o.1
def sx_isA (s : sx_A) : Bool := match s with
  | .inl (kd, _) => Nat.blt kd 3
  | .inr (.retAddr _) => false
  | .inr _ => true
theorem sx_in1_s (E : sx_E) {s : sx_A} (h : sx_isA s = true) : ¬ (sx_in1 E s).1 = .inl (.retAddr 1) := by
  rcases s with ⟨kd, lo, hi, l⟩ | w
  · rcases kd with _ | _ | _ | kd
    · simp only [sx_in1]
      cases decide (lo = hi) && Nat.beq l 0 with
      | true => intro q; cases q
      | false => intro q; cases q
    · intro q; cases q
    · intro q; cases q
    · exact absurd (Nat.blt_eq.mp h) (by omega)
  · cases w <;> first | (intro q; cases q; done) | cases h
def sx_isAs : List sx_A → Bool
  | [] => true
  | s :: l => sx_isA s && sx_isAs l
theorem sx_RL_R : ∀ {l : List sx_A} {E : sx_E} {ρ : List Int} {ws : List Value}, sx_isAs l = true → sx_RL tg ρ (sx_ins E l).1 ws → sx_R tg ρ (sx_ins E l).1 ws
  | [], _, _, [], _, _ => trivial
  | [], _, _, _ :: _, _, r => r.elim
  | _ :: _, _, _, [], _, r => r.elim
  | s :: l, E, ρ, w :: ws, e, r => by
    rw [sx_isAs, Bool.and_eq_true] at e
    exact ⟨r.1.resolve_left (sx_in1_s E e.1), sx_RL_R (E := (sx_in1 E s).2) e.2 r.2⟩
theorem sx_out_ok (hC : sx_C P T tg PH VP) (ok : sx_ok tg VP ρ h E) (iv : sx_IV T tg PH h) {vs : List sx_V} {ws : List Value} (r : sx_RL tg ρ vs ws) {W : sx_W} {D : Bool × Bool} (fr : sx_fr tg VP W D h h') {o : sx_O} (ho : sx_isAs o.1 = true) {v : List Value} (po : sx_po tg VP h h' ws v o) : ∃ e, sx_ok tg VP (ρ ++ e) h' (sx_out T E vs W D o).2 ∧ sx_R tg (ρ ++ e) (sx_out T E vs W D o).1 v := by
  have k0 : sx_ok tg VP (ρ ++ []) h' (sx_kill W D E) := by rw [List.append_nil]; exact sx_kill_ok ok fr
  obtain ⟨e1, k1⟩ := sx_ds_ok hC ok iv r k0 po.2.2.2
  obtain ⟨e2, k2⟩ := sx_fs_ok k1 (sx_RL_mono e1 r) po.2.1
  rw [List.append_assoc] at k2
  have k3 := sx_gs_ok (sx_RL_mono (e1 ++ e2) r) k2 po.2.2.1
  obtain ⟨e4, k4, k5⟩ := sx_ins_ok k3 po.1
  rw [List.append_assoc] at k4 k5
  exact ⟨(e1 ++ e2) ++ e4, k4, sx_RL_R ho k5⟩
/-- does the contract fit here -/
def sx_fit (T : sx_T) (E : sx_E) (vs : List sx_V) (c : sx_K) : Bool := sx_fts E c.2.1 vs && sx_ffs T E vs c.2.2.1
/-- the first that fits -/
def sx_pick (T : sx_T) (E : sx_E) (vs : List sx_V) : List sx_K → Option sx_K
  | [] => none
  | c :: l => bif sx_fit T E vs c then some c else sx_pick T E vs l
theorem sx_pick_ok {vs : List sx_V} : ∀ {l : List sx_K} {c : sx_K}, sx_pick T E vs l = some c → c ∈ l ∧ sx_fit T E vs c = true
  | [], _, e => by cases e
  | d :: l, c, e => by
    rw [sx_pick] at e
    cases q : sx_fit T E vs d with
    | true => rw [q] at e; cases e; exact ⟨List.mem_cons_self, q⟩
    | false =>
      rw [q] at e
      obtain ⟨h1, h2⟩ := sx_pick_ok (l := l) e
      exact ⟨List.mem_cons_of_mem _ h1, h2⟩
def sx_may (W : sx_W) (D : Bool × Bool) (c : sx_K) : Bool := sx_wks W c.2.2.2.1 && (!c.2.2.2.2.1.1 || D.1) && (!c.2.2.2.2.1.2 || D.2)
end XU
