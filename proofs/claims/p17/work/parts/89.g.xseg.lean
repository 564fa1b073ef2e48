/-! A RUN OVER AN UNKNOWN HEAP, sixteenth: pieces of a method. From a place on, with locals, stack and others that are known (A, S, G: all of them are numbered on, one list); to an end, or to places where it stops. A value there: of a kind, or just one that stood at the start, with a number added -/
abbrev sx_X : Type := sx_A ⊕ (Nat × Int)
abbrev sx_XO : Type := List sx_X × List sx_F × List (Nat × Int × Int × Nat)
abbrev sx_XS : Type := Nat × List sx_X × List sx_X × List sx_F × List (Nat × Int × Int × Nat)
def sx_xv (E : sx_E) (vs : List sx_V) (s : sx_X) (v : sx_V) : Bool := match s with
  | .inl a => sx_ft E a v
  | .inr (j, c) => match vs[j]? with
    | some w => bif decide (c = 0) then sx_eqs v w else (match v with
      | .inr (.inl (i, d)) => (match w with
        | .inr (.inl (k, b)) => Nat.beq i k && decide (d = b + c)
        | _ => false)
      | _ => false)
    | none => false
def sx_xs (E : sx_E) (vs : List sx_V) : List sx_X → List sx_V → Bool
  | [], [] => true
  | s :: l, v :: c => sx_xv E vs s v && sx_xs E vs l c
  | _, _ => false
def sx_mxv (tg : Nat → Nat) (VP : pm_H → Nat → Int → Prop) (h : pm_H) (ws : List Value) (s : sx_X) (w : Value) : Prop := match s with
  | .inl a => sx_va tg VP h a w
  | .inr (j, c) => (c = 0 ∧ ws[j]? = some w) ∨ (¬ c = 0 ∧ ∃ x : Int32, ws[j]? = some (.int x) ∧ w = .int (x + Int32.ofInt c))
def sx_mxs (tg : Nat → Nat) (VP : pm_H → Nat → Int → Prop) (h : pm_H) (ws : List Value) : List sx_X → List Value → Prop
  | [], [] => True
  | s :: l, w :: c => sx_mxv tg VP h ws s w ∧ sx_mxs tg VP h ws l c
  | _, _ => False
def sx_xa (E : sx_E) (vs : List sx_V) (q : Nat × Int × Int × Nat) : Bool := match vs[q.1]? with
  | some v => sx_ft E (.inl (0, q.2.1, q.2.2.1, q.2.2.2)) v
  | none => false
def sx_pox (tg : Nat → Nat) (VP : pm_H → Nat → Int → Prop) (h : pm_H) (ws v : List Value) (o : sx_XO) : Prop := sx_mxs tg VP h ws o.1 v ∧ sx_fas VP h ws o.2.1 ∧ ∀ q, q ∈ o.2.2 → sx_ga1 VP h ws q
def sx_psx (tg : Nat → Nat) (VP : pm_H → Nat → Int → Prop) (h : pm_H) (ws lc sc : List Value) (s : sx_XS) : Prop := sx_mxs tg VP h ws s.2.1 lc ∧ sx_mxs tg VP h ws s.2.2.1 sc ∧ sx_fas VP h (lc ++ ws) s.2.2.2.1 ∧ ∀ q, q ∈ s.2.2.2.2 → sx_ga1 VP h ws q
def sx_fnx (T : sx_T) (vs : List sx_V) (os : List sx_XO) (E : sx_E) (v : List sx_V) : Bool := os.any fun o => sx_xs E vs o.1 v && sx_ffs T E vs o.2.1 && o.2.2.all (sx_xa E vs)
def sx_stx (T : sx_T) (E : sx_E) (vs lv st : List sx_V) (s : sx_XS) : Bool := sx_xs E vs s.2.1 lv && sx_xs E vs s.2.2.1 st && sx_ffs T E (lv ++ vs) s.2.2.2.1 && s.2.2.2.2.all (sx_xa E vs)
def sx_ls : List sx_XS → Nat → Option sx_XS
  | [], _ => none
  | s :: l, pc => bif Nat.beq s.1 pc then some s else sx_ls l pc
theorem sx_ls_mem : ∀ {l : List sx_XS} {pc : Nat} {s : sx_XS}, sx_ls l pc = some s → s ∈ l ∧ s.1 = pc
  | [], _, _, e => by cases e
  | p :: l, pc, s, e => by
    rw [sx_ls] at e
    cases d : Nat.beq p.1 pc with
    | true =>
      rw [d] at e
      cases e
      exact ⟨List.mem_cons_self, Nat.eq_of_beq_eq_true d⟩
    | false =>
      rw [d] at e
      have g := sx_ls_mem e
      exact ⟨List.mem_cons_of_mem _ g.1, g.2⟩
def sx_mk (pc : Nat) : sx_U := ([], [], ((pc : Int), [(0, .inr (77, 77))]))
def sx_isM (q : sx_U) : Bool := match q.2.2.2 with
  | [(_, .inr (a, b))] => Nat.beq a 77 && Nat.beq b 77
  | _ => false
def sx_cg (m0 : Nat) (cuts : List (Nat × sx_U)) (stops : List sx_XS) (m pc : Nat) : Option sx_U := bif Nat.beq m m0 then (match sx_lk cuts pc with
  | some q => bif sx_isM q then none else some q
  | none => match sx_ls stops pc with
    | some _ => some (sx_mk pc)
    | none => none) else none
def sx_ag (T : sx_T) (stops : List sx_XS) (vs lv0 : List sx_V) (old : Option (Int × List (Int × Nat))) (E : sx_E) (lv st : List sx_V) (q : sx_U) : Bool := bif sx_isM q then (stops.any fun s => Nat.beq s.1 q.2.2.1.toNat && sx_stx T E vs lv st s) else sx_arr T lv0 old E lv st q
def sx_nr1 (v : sx_V) : Bool := match v with
  | .inl (.retAddr _) => false
  | _ => true
def sx_nr : List sx_V → Bool
  | [] => true
  | v :: l => sx_nr1 v && sx_nr l
def sx_sg1 (P : pm_P) (T : sx_T) (tb : Nat → List sx_K) (m pc : Nat) (A S G : List sx_A) (F : List sx_F) (W : sx_W) (D : Bool × Bool) (cuts : List (Nat × sx_U)) (os : List sx_XO) (stops : List sx_XS) (fuel : Nat) : Bool := match sx_ins sx_E0 (A ++ (S ++ G)) with
  | (vs, E1) => match sx_fs E1 vs F with
    | E2 => match vs.take A.length with
      | lv => match (vs.drop A.length).take S.length with
        | st => sx_nr st && sx_run P T tb W D (sx_cg m cuts stops) (sx_ag T stops vs lv none) (sx_fnx T vs os) fuel true E2 m pc lv st []
def sx_sg2 (P : pm_P) (T : sx_T) (tb : Nat → List sx_K) (m : Nat) (W : sx_W) (D : Bool × Bool) (cuts : List (Nat × sx_U)) (os : List sx_XO) (stops : List sx_XS) (fuel : Nat) (q : Nat × sx_U) : Bool := match sx_ins sx_E0 q.2.1 with
  | (lv, E1) => match sx_fs E1 lv q.2.2.1 with
    | E2 => match sx_ma T E2 lv q.2.2.2.2 with
      | some p => sx_run P T tb W D (sx_cg m cuts stops) (sx_ag T stops [] lv (some (q.2.2.2.1 + p.1, p.2))) (sx_fnx T [] os) fuel true E2 m q.1 lv [] []
      | none => false
def sx_sgc (P : pm_P) (T : sx_T) (tb : Nat → List sx_K) (m pc : Nat) (A S G : List sx_A) (F : List sx_F) (W : sx_W) (D : Bool × Bool) (cuts : List (Nat × sx_U)) (os : List sx_XO) (stops : List sx_XS) (fuel : Nat) : Bool := sx_sg1 P T tb m pc A S G F W D cuts os stops fuel && cuts.all (sx_sg2 P T tb m W D cuts os stops fuel)
section XG
variable {P : pm_P} {T : sx_T} {tg : Nat → Nat} {PH : pm_H → Prop} {VP : pm_H → Nat → Int → Prop} {ρ : List Int} {h : pm_H} {E : sx_E}
theorem sx_RL_take : ∀ {l : List sx_V} {c : List Value} (k : Nat), sx_RL tg ρ l c → sx_RL tg ρ (l.take k) (c.take k)
  | [], [], 0, h => h
  | [], [], _ + 1, h => h
  | _ :: _, [], _, h => h.elim
  | [], _ :: _, _, h => h.elim
  | _ :: _, _ :: _, 0, _ => trivial
  | _ :: _, _ :: _, k + 1, h => ⟨h.1, sx_RL_take k h.2⟩
theorem sx_RL_drop : ∀ {l : List sx_V} {c : List Value} (k : Nat), sx_RL tg ρ l c → sx_RL tg ρ (l.drop k) (c.drop k)
  | [], [], 0, h => h
  | [], [], _ + 1, h => h
  | _ :: _, [], _, h => h.elim
  | [], _ :: _, _, h => h.elim
  | _ :: _, _ :: _, 0, h => h
  | _ :: _, _ :: _, k + 1, h => sx_RL_drop k h.2
theorem sx_RL_app : ∀ {l : List sx_V} {c : List Value} {l' : List sx_V} {c' : List Value}, sx_RL tg ρ l c → sx_RL tg ρ l' c' → sx_RL tg ρ (l ++ l') (c ++ c')
  | [], [], _, _, _, h' => h'
  | _ :: _, [], _, _, h, _ => h.elim
  | [], _ :: _, _, _, h, _ => h.elim
  | _ :: _, _ :: _, _, _, h, h' => ⟨h.1, sx_RL_app h.2 h'⟩
theorem sx_nr_ok : ∀ {l : List sx_V} {c : List Value}, sx_nr l = true → sx_RL tg ρ l c → sx_R tg ρ l c
  | [], [], _, _ => trivial
  | [], _ :: _, _, r => r.elim
  | _ :: _, [], _, r => r.elim
  | v :: l, w :: c, e, r => by
    rw [sx_nr, Bool.and_eq_true] at e
    refine ⟨r.1.resolve_left (fun q => ?_), sx_nr_ok e.2 r.2⟩
    have e1 := e.1
    rw [q] at e1
    cases e1
theorem sx_vas_app : ∀ {l l' : List sx_A} {c c' : List Value}, sx_vas tg VP h l c → sx_vas tg VP h l' c' → sx_vas tg VP h (l ++ l') (c ++ c')
  | [], _, [], _, _, k => k
  | [], _, _ :: _, _, k, _ => k.elim
  | _ :: _, _, [], _, k, _ => k.elim
  | _ :: _, _, _ :: _, _, k, k' => ⟨k.1, sx_vas_app k.2 k'⟩
theorem sx_vas_len : ∀ {l : List sx_A} {c : List Value}, sx_vas tg VP h l c → l.length = c.length
  | [], [], _ => rfl
  | [], _ :: _, k => k.elim
  | _ :: _, [], k => k.elim
  | _ :: _, _ :: _, k => by rw [List.length_cons, List.length_cons, sx_vas_len k.2]
theorem sx_xv_ok (ok : sx_ok tg VP ρ h E) {vs : List sx_V} {ws : List Value} (r : sx_RL tg ρ vs ws) {s : sx_X} {v : sx_V} {w : Value} (e : sx_xv E vs s v = true) (ev : v = .inl (.retAddr 1) ∨ sx_ev tg ρ v = some w) : sx_mxv tg VP h ws s w := by
  rcases s with a | ⟨j, c⟩
  · exact sx_ft_ok ok e ev
  · simp only [sx_xv] at e
    split at e
    · rename_i u hu
      obtain ⟨w', g1, g2⟩ := sx_RL_get r hu
      cases d : decide (c = 0) with
      | true =>
        rw [d] at e
        obtain ⟨e1, e2⟩ := sx_eqs_ok e
        have ev := ev.resolve_left e2
        rw [e1] at ev e2
        have g2 := g2.resolve_left e2
        rw [ev] at g2
        cases g2
        exact Or.inl ⟨of_decide_eq_true d, g1⟩
      | false =>
        rw [d] at e
        simp only [cond_false] at e
        split at e
        · rename_i i b
          split at e
          · rename_i k b'
            rw [Bool.and_eq_true] at e
            have e1 := Nat.eq_of_beq_eq_true e.1
            have e2 := of_decide_eq_true e.2
            subst e1
            have ev := ev.resolve_left (fun q => by cases q)
            have g2 := g2.resolve_left (fun q => by cases q)
            obtain ⟨z, z1, z2⟩ := sx_evi ev
            obtain ⟨y, y1, y2⟩ := sx_evi g2
            rw [z1] at y1
            cases y1
            refine Or.inr ⟨of_decide_eq_false d, Int32.ofInt (z + b'), by rw [g1, y2], ?_⟩
            rw [z2, e2, ← Int32.ofInt_add, Int.add_assoc]
          · cases e
        · cases e
    · cases e
theorem sx_xs_ok (ok : sx_ok tg VP ρ h E) {vs : List sx_V} {ws : List Value} (r : sx_RL tg ρ vs ws) : ∀ {l : List sx_X} {lv : List sx_V} {lc : List Value}, sx_xs E vs l lv = true → sx_RL tg ρ lv lc → sx_mxs tg VP h ws l lc
  | [], [], [], _, _ => trivial
  | [], [], _ :: _, _, k => k.elim
  | _ :: _, _ :: _, [], _, k => k.elim
  | s :: l, v :: lv, w :: lc, e, k => by
    rw [sx_xs, Bool.and_eq_true] at e
    exact ⟨sx_xv_ok ok r e.1 k.1, sx_xs_ok ok r e.2 k.2⟩
  | [], _ :: _, _, e, _ => by cases e
  | _ :: _, [], _, e, _ => by cases e
theorem sx_xa_ok (ok : sx_ok tg VP ρ h E) {vs : List sx_V} {ws : List Value} (r : sx_RL tg ρ vs ws) {q : Nat × Int × Int × Nat} (e : sx_xa E vs q = true) : sx_ga1 VP h ws q := by
  unfold sx_xa at e
  split at e
  · rename_i v hv
    obtain ⟨w, g1, g2⟩ := sx_RL_get r hv
    obtain ⟨x, k1, k2, k3, k4⟩ := sx_ft_ok ok e g2
    exact ⟨x, by rw [g1, k1], k2, k3, k4⟩
  · cases e
theorem sx_fnx_ok (hC : sx_C P T tg PH VP) (ok : sx_ok tg VP ρ h E) (iv : sx_IV T tg PH h) {vs : List sx_V} {ws : List Value} (r : sx_RL tg ρ vs ws) {os : List sx_XO} {v : List sx_V} {vc : List Value} (rv : sx_R tg ρ v vc) (e : sx_fnx T vs os E v = true) : ∃ o, o ∈ os ∧ sx_pox tg VP h ws vc o := by
  obtain ⟨o, h1, h2⟩ := List.any_eq_true.mp e
  simp only [Bool.and_eq_true] at h2
  exact ⟨o, h1, sx_xs_ok ok r h2.1.1 (sx_RL_of rv), sx_ffs_ok hC ok iv r h2.1.2, fun q hq => sx_xa_ok ok r (List.all_eq_true.mp h2.2 q hq)⟩
theorem sx_stx_ok (hC : sx_C P T tg PH VP) (ok : sx_ok tg VP ρ h E) (iv : sx_IV T tg PH h) {vs : List sx_V} {ws : List Value} (r : sx_RL tg ρ vs ws) {s : sx_XS} {lv st : List sx_V} {lc sc : List Value} (rl : sx_RL tg ρ lv lc) (rs : sx_R tg ρ st sc) (e : sx_stx T E vs lv st s = true) : sx_psx tg VP h ws lc sc s := by
  unfold sx_stx at e
  simp only [Bool.and_eq_true] at e
  exact ⟨sx_xs_ok ok r e.1.1.1 rl, sx_xs_ok ok r e.1.1.2 (sx_RL_of rs), sx_ffs_ok hC ok iv (sx_RL_app rl r) e.1.2, fun q hq => sx_xa_ok ok r (List.all_eq_true.mp e.2 q hq)⟩
/-! a run from a head on knows nothing of the start -/
theorem sx_mxs_0 {ws : List Value} : ∀ {l : List sx_X} {c : List Value}, sx_mxs tg VP h [] l c → sx_mxs tg VP h ws l c
  | [], [], _ => trivial
  | [], _ :: _, k => k.elim
  | _ :: _, [], k => k.elim
  | s :: l, w :: c, k => by
    refine ⟨?_, sx_mxs_0 k.2⟩
    have k1 := k.1
    rcases s with a | ⟨j, d⟩
    · exact k1
    · rcases k1 with ⟨_, g⟩ | ⟨_, x, g, _⟩ <;> simp at g
theorem sx_fas_0 {lc ws : List Value} {l : List sx_F} (k : sx_fas VP h (lc ++ []) l) : sx_fas VP h (lc ++ ws) l := by
  intro f hf
  obtain ⟨a, g1, g2⟩ := k f hf
  rw [List.append_nil] at g1
  refine ⟨a, ?_, g2⟩
  have : f.1 < lc.length := (List.getElem?_eq_some_iff.mp g1).1
  rw [List.getElem?_append_left this]
  exact g1
theorem sx_ga_0 {ws : List Value} {l : List (Nat × Int × Int × Nat)} (k : ∀ q, q ∈ l → sx_ga1 VP h [] q) : ∀ q, q ∈ l → sx_ga1 VP h ws q := by
  intro q hq
  obtain ⟨x, g, _⟩ := k q hq
  simp at g
theorem sx_pox_0 {ws v : List Value} {o : sx_XO} (k : sx_pox tg VP h [] v o) : sx_pox tg VP h ws v o := ⟨sx_mxs_0 k.1, by simpa using sx_fas_0 (lc := []) (ws := ws) (by simpa using k.2.1), sx_ga_0 k.2.2⟩
theorem sx_psx_0 {ws lc sc : List Value} {s : sx_XS} (k : sx_psx tg VP h [] lc sc s) : sx_psx tg VP h ws lc sc s := ⟨sx_mxs_0 k.1, sx_mxs_0 k.2.1, sx_fas_0 k.2.2.1, sx_ga_0 k.2.2.2⟩
theorem sx_sg_ok (hC : sx_C P T tg PH VP) {tb : Nat → List sx_K} (hT : ∀ k c, c ∈ tb k → sx_con P T tg PH VP c) {m pc : Nat} {A S G : List sx_A} {F : List sx_F} {W : sx_W} {D : Bool × Bool} {cuts : List (Nat × sx_U)} {os : List sx_XO} {stops : List sx_XS} {fuel : Nat} (k : sx_sgc P T tb m pc A S G F W D cuts os stops fuel = true) {lc sc gc : List Value} {Q : List Value → pm_H → Prop} (iv : sx_IV T tg PH h) (va : sx_vas tg VP h A lc) (vs : sx_vas tg VP h S sc) (vg : sx_vas tg VP h G gc) (fa : sx_fas VP h (lc ++ (sc ++ gc)) F)
    (kf : ∀ v h', sx_IV T tg PH h' → sx_fr tg VP W D h h' → (∃ o, o ∈ os ∧ sx_pox tg VP h' (lc ++ (sc ++ gc)) v o) → Q v h')
    (ks : ∀ s, s ∈ stops → ∀ lc' sc' h', sx_IV T tg PH h' → sx_fr tg VP W D h h' → sx_psx tg VP h' (lc ++ (sc ++ gc)) lc' sc' s → pm_W P m s.1 lc' sc' h' (0, 0) Q) : pm_W P m pc lc sc h (0, 0) Q := by
  unfold sx_sgc at k
  rw [Bool.and_eq_true] at k
  obtain ⟨kA, kB⟩ := k
  have split1 : ∀ {m' pc' : Nat} {q : sx_U}, sx_cg m cuts stops m' pc' = some q → m' = m ∧ ((sx_lk cuts pc' = some q ∧ sx_isM q = false) ∨ ∃ s, sx_ls stops pc' = some s ∧ q = sx_mk pc') := by
    intro m' pc' q hq
    unfold sx_cg at hq
    cases hb : Nat.beq m' m with
    | false => rw [hb] at hq; cases hq
    | true =>
      rw [hb] at hq
      simp only [cond_true] at hq
      refine ⟨Nat.eq_of_beq_eq_true hb, ?_⟩
      split at hq
      · rename_i u hu
        cases hm : sx_isM u with
        | true => rw [hm] at hq; cases hq
        | false =>
          rw [hm] at hq
          cases hq
          exact Or.inl ⟨hu, hm⟩
      · split at hq
        · rename_i s hs
          cases hq
          exact Or.inr ⟨s, hs, rfl⟩
        · cases hq
  have cutOK : ∀ (N pc : Nat) (q : sx_U), sx_lk cuts pc = some q → ∀ (h' : pm_H) (lc' : List Value), sx_IV T tg PH h' → sx_fr tg VP W D h h' → sx_vas tg VP h' q.1 lc' → sx_fas VP h' lc' q.2.1 → 0 ≤ q.2.2.1 + sx_mc lc' h' q.2.2.2 → (q.2.2.1 + sx_mc lc' h' q.2.2.2).toNat = N → pm_W P m pc lc' [] h' (0, 0) Q := by
    intro N
    induction N using Nat.strongRecOn with
    | ind N ih =>
      intro pc q hq h' lc' iv' fr' va' fa' hm hN
      have k2 := List.all_eq_true.mp kB _ (sx_lk_mem hq)
      unfold sx_sg2 at k2
      obtain ⟨e1, o1, r1⟩ := sx_ins_ok (sx_E0_ok h') va'
      rw [List.nil_append] at o1 r1
      obtain ⟨e2, o2⟩ := sx_fs_ok o1 r1 fa'
      have r2 := sx_RL_mono e2 r1
      split at k2
      rename_i lv E1 hE
      rw [hE] at o1 r1 o2 r2
      dsimp only at k2 o2 r2
      split at k2
      · rename_i p hp
        have m1 := sx_ma_ok hC o2 r2 hp
        have key := sx_run_ok (P := P) (T := T) (tg := tg) (PH := PH) (VP := VP) hC hT (W := W) (D := D) (cut := sx_cg m cuts stops) (Q := Q) (h0 := h) (ρ0 := e1 ++ e2)
          (fin := sx_fnx T [] os) (arr := sx_ag T stops [] lv (some (q.2.2.1 + p.1, p.2)))
          (fun e h'' E v vc ok'' iv'' fr'' rv kf' => by
            obtain ⟨o, g1, g2⟩ := sx_fnx_ok hC ok'' iv'' (vs := []) (ws := []) trivial rv kf'
            exact kf vc h'' iv'' fr'' ⟨o, g1, sx_pox_0 g2⟩)
          (fun e h'' E m' pc' lv' lc'' st' sc' q' hcf ok'' iv'' fr'' rl'' rs'' ka => by
            obtain ⟨em, hc2⟩ := split1 hcf
            subst em
            unfold sx_ag at ka
            rcases hc2 with ⟨hcf, hM⟩ | ⟨s, hs, hmk⟩
            · rw [hM] at ka
              simp only [cond_false] at ka
              obtain ⟨a1, a2, a3, a4, a5, a6⟩ := sx_arr_ok hC ok'' iv'' (sx_RL_mono e r2) rl'' rs'' ka
              subst a1
              have a7 := a6 _ rfl (q.2.2.1 + sx_mc lc' h' q.2.2.2) (by
                have := sx_fm_mono e m1
                have e3 : q.2.2.1 + sx_mc lc' h' q.2.2.2 - (q.2.2.1 + p.1) = sx_mc lc' h' q.2.2.2 - p.1 := by omega
                show sx_fm _ p.2 (q.2.2.1 + sx_mc lc' h' q.2.2.2 - (q.2.2.1 + p.1))
                rw [e3]
                exact this)
              exact ih _ (by omega) pc' q' hcf h'' lc'' iv'' fr'' a2 a3 a5 rfl
            · subst hmk
              simp only [show sx_isM (sx_mk pc') = true from rfl, cond_true, show (sx_mk pc').2.2.1.toNat = pc' from Int.toNat_natCast pc'] at ka
              obtain ⟨s2, g1, g2⟩ := List.any_eq_true.mp ka
              rw [Bool.and_eq_true] at g2
              have g3 := ks s2 g1 lc'' sc' h'' iv'' fr'' (sx_psx_0 (sx_stx_ok hC ok'' iv'' (vs := []) (ws := []) trivial rl'' rs'' g2.2))
              rw [Nat.eq_of_beq_eq_true g2.1] at g3
              exact g3)
        exact key fuel true _ m pc lv [] [] [] h' lc' [] [] (by rw [List.append_nil]; exact o2) iv' fr' (by rw [List.append_nil]; exact r2) trivial trivial k2
      · cases k2
  unfold sx_sg1 at kA
  obtain ⟨e1, o1, r1⟩ := sx_ins_ok (sx_E0_ok h) (sx_vas_app va (sx_vas_app vs vg))
  rw [List.nil_append] at o1 r1
  obtain ⟨e2, o2⟩ := sx_fs_ok o1 r1 fa
  have r2 := sx_RL_mono e2 r1
  split at kA
  rename_i us E1 hE
  rw [hE] at o2 r2
  dsimp only at kA o2 r2
  rw [Bool.and_eq_true] at kA
  obtain ⟨kn, kA⟩ := kA
  have rl : sx_RL tg (e1 ++ e2) (us.take A.length) lc := by
    have := sx_RL_take A.length r2
    rw [sx_vas_len va, List.take_left' rfl] at this
    rw [sx_vas_len va]
    exact this
  have rs : sx_R tg (e1 ++ e2) ((us.drop A.length).take S.length) sc := by
    refine sx_nr_ok kn ?_
    have := sx_RL_take S.length (sx_RL_drop A.length r2)
    rw [sx_vas_len va, List.drop_left' rfl, sx_vas_len vs, List.take_left' rfl] at this
    rw [sx_vas_len va, sx_vas_len vs]
    exact this
  have key := sx_run_ok (P := P) (T := T) (tg := tg) (PH := PH) (VP := VP) hC hT (W := W) (D := D) (cut := sx_cg m cuts stops) (Q := Q) (h0 := h) (ρ0 := e1 ++ e2)
    (fin := sx_fnx T us os) (arr := sx_ag T stops us (us.take A.length) none)
    (fun e h'' E v vc ok'' iv'' fr'' rv kf' => kf vc h'' iv'' fr'' (sx_fnx_ok hC ok'' iv'' (sx_RL_mono e r2) rv kf'))
    (fun e h'' E m' pc' lv' lc'' st' sc' q' hcf ok'' iv'' fr'' rl'' rs'' ka => by
      obtain ⟨em, hc2⟩ := split1 hcf
      subst em
      unfold sx_ag at ka
      rcases hc2 with ⟨hcf, hM⟩ | ⟨s, hs, hmk⟩
      · rw [hM] at ka
        simp only [cond_false] at ka
        obtain ⟨a1, a2, a3, a4, a5, a6⟩ := sx_arr_ok hC ok'' iv'' (sx_RL_mono e rl) rl'' rs'' ka
        subst a1
        exact cutOK _ pc' q' hcf h'' lc'' iv'' fr'' a2 a3 a5 rfl
      · subst hmk
        simp only [show sx_isM (sx_mk pc') = true from rfl, cond_true, show (sx_mk pc').2.2.1.toNat = pc' from Int.toNat_natCast pc'] at ka
        obtain ⟨s2, g1, g2⟩ := List.any_eq_true.mp ka
        rw [Bool.and_eq_true] at g2
        have g3 := ks s2 g1 lc'' sc' h'' iv'' fr'' (sx_stx_ok hC ok'' iv'' (sx_RL_mono e r2) rl'' rs'' g2.2)
        rw [Nat.eq_of_beq_eq_true g2.1] at g3
        exact g3)
  exact key fuel true _ m pc _ _ [] [] h lc sc [] (by rw [List.append_nil]; exact o2) iv (sx_fr_refl _ _ _ _ _) (by rw [List.append_nil]; exact rl) (by rw [List.append_nil]; exact rs) trivial kA
end XG
