/-! BY HAND: the tape's length on both sides -/
section KE
variable {ys : List Int32} {I : Nat → Nat → Int32} {L : Nat → Nat → Int64} {s : Nat → Option Nat} {Q : List Value → pm_H → Prop} {h h' : pm_H}
/-- as many bytes on both tapes -/
def Rl (h : pm_H) : Prop := h.1 1 1 = h.1 275 43
def relW (W : sx_W) : Bool := W.all fun q => (!Nat.beq q.1 2 || (decide (1 < q.2.1) || decide (q.2.2 < 1))) && (!Nat.beq q.1 50 || (decide (43 < q.2.1) || decide (q.2.2 < 43)))
theorem rel_t {W : sx_W} {D : Bool × Bool} (hW : relW W = true) (fr : sx_fr xtg xVP W D h h') : h'.1 1 1 = h.1 1 1 ∧ h'.1 275 43 = h.1 275 43 := by
  refine ⟨fr.1 1 1 (fun q => ?_), fr.1 275 43 (fun q => ?_)⟩
  · obtain ⟨q, m, e, l1, l2⟩ := q
    have z := List.all_eq_true.mp hW q m
    have e : q.1 = 2 := e
    rw [Bool.and_eq_true] at z
    have z := z.1
    rw [e, Nat.beq_refl, decide_eq_false (by omega), decide_eq_false (by omega)] at z
    cases z
  · obtain ⟨q, m, e, l1, l2⟩ := q
    have z := List.all_eq_true.mp hW q m
    have e : q.1 = 50 := e
    rw [Bool.and_eq_true] at z
    have z := z.2
    rw [e, Nat.beq_refl, decide_eq_false (by omega), decide_eq_false (by omega)] at z
    cases z
theorem Rl_fr {W : sx_W} {D : Bool × Bool} (hW : relW W = true) (fr : sx_fr xtg xVP W D h h') (r : Rl h) : Rl h' := by
  obtain ⟨e1, e2⟩ := rel_t hW fr
  unfold Rl at r ⊢
  rw [e1, e2]
  exact r
/-- behind the class's load: what the model's tape tells -/
def Rx (x : Int32) (h h1 : pm_H) : Prop := h1.1 275 43 = h.1 275 43 ∧ ((0 ≤ x.toInt ∧ x.toInt ≤ (h.1 275 43).toInt ∧ h1.1 1 1 = 0) ∨ (¬ (0 ≤ x.toInt ∧ x.toInt ≤ (h.1 275 43).toInt) ∧ h1.1 1 1 = h.1 275 43))
theorem B_loadT (iv : sx_IV xT xtg xPH h) (re : Rl h) (x : Int32) (kk : ∀ r h1, sx_IV xT xtg xPH h1 → Rx x h h1 → Q [.int r] h1) : pm_W (g_P ys) 17 0 [.ref 0, .int x, .retAddr 0, .retAddr 0] [] h (0, 0) Q := by
  obtain ⟨I, L, s, rfl⟩ := x_form iv
  obtain ⟨t, ht, hl⟩ := g_bd iv (a := 1) (k := 1) (b := 800) (q := (.ofNat 1, .ofNat 1, .ofNat 0, .ofNat 800)) (by decide) (by decide) (by decide) rfl rfl
  have hl : I 1 1 = nI t := hl
  have hm : I 275 43 = nI t := by rw [← hl]; exact re.symm
  have tt := nI_toInt (n := t) (by omega)
  have ev : ((0 ≤ x.toInt ∧ x.toInt ≤ (I 275 43).toInt)) ↔ (0 ≤ x.toInt ∧ x.toInt ≤ (t : Int)) := by rw [hm, tt]
  have no : ¬ (0 ≤ x.toInt ∧ x.toInt ≤ (t : Int)) → pm_W (g_P ys) 17 15 [.ref 0, .int x, .retAddr 0, .retAddr 0] [] (I, L, g_R s, 306) (0, 0) Q := by
    intro hv
    refine sg_by (sg_bln_t ys) sg_bln_b iv (lc := [.ref 0, .int x, .retAddr 0, .retAddr 0]) (sc := []) (gc := []) ⟨va_r rfl (by omega), va_f, trivial, trivial, trivial⟩ trivial trivial fas_n (fun v h9 iv9 fr9 q => ?_) (fun st hst => by cases hst)
    obtain ⟨o, ho, po⟩ := q
    rcases List.mem_cons.mp ho with rfl | ho
    · obtain ⟨w0, l1, rfl, ⟨y, rfl, _⟩, ps1⟩ := mxs_c po.1
      cases mxs_n ps1
      obtain ⟨e1, e2⟩ := rel_t (by decide) fr9
      exact kk _ _ iv9 ⟨e2, Or.inr ⟨fun q => hv (ev.mp q), e1.trans (hl.trans hm.symm)⟩⟩
    · cases ho
  refine ps_iload rfl rfl ?_
  refine ps_if rfl (fun h1 => ?_) (fun h1 => ?_)
  · have h1 := (i_lt _ _).mp (show x < 0 from of_decide_eq_true h1)
    have e0 : (0 : Int32).toInt = 0 := rfl
    exact no (fun q => by omega)
  · have h1 : ¬ x.toInt < (0 : Int32).toInt := fun q => (show ¬ x < 0 from of_decide_eq_false h1) ((i_lt _ _).mpr q)
    have e0 : (0 : Int32).toInt = 0 := rfl
    refine ps_iload rfl rfl ?_
    refine ps_aload rfl rfl ?_
    refine ps_gfr 0 0 rfl rfl rfl rfl rfl (rfl) ?_
    refine ps_gfi 1 1 rfl rfl rfl rfl rfl ?_
    rw [show ((I, L, g_R s, 306) : pm_H).1 1 1 = nI t from hl]
    refine ps_icmp rfl (fun h2 => ?_) (fun h2 => ?_)
    · have h2 := (i_le _ _).mp (show x ≤ nI t from of_decide_eq_true h2)
      rw [tt] at h2
      refine sg_by (sg_bl_t ys k_split (k_readLine k_takeBits)) sg_bl_b iv (lc := [.ref 0, .int x, .retAddr 0, .retAddr 0]) (sc := []) (gc := [.ref 1]) ⟨va_r rfl (by omega), va_i (by show (0 : Int) ≤ _; omega) (by show _ ≤ (800 : Int); omega), trivial, trivial, trivial⟩ trivial ⟨va_r rfl (by omega), trivial⟩ fas_n (fun v h9 iv9 fr9 q => ?_) (fun st hst => by cases hst)
      obtain ⟨o, ho, po⟩ := q
      rcases List.mem_cons.mp ho with rfl | ho
      · obtain ⟨w0, l1, rfl, ⟨y, rfl, _⟩, ps1⟩ := mxs_c po.1
        cases mxs_n ps1
        obtain ⟨a, ea, q1, q2, _⟩ := po.2.1 _ List.mem_cons_self
        cases ea
        have z : h9.1 1 1 = 0 := (i_eq _ _).mpr (Int.le_antisymm q2 q1)
        have e2 : h9.1 275 43 = I 275 43 := fr9.1 275 43 (by unfold sx_WP; decide)
        have hv := ev.mpr ⟨by omega, h2⟩
        exact kk _ _ iv9 ⟨e2, Or.inl ⟨hv.1, hv.2, z⟩⟩
      · cases ho
    · have h2 : ¬ x.toInt ≤ (t : Int) := fun q => (show ¬ x ≤ nI t from of_decide_eq_false h2) ((i_le _ _).mpr (by rw [tt]; exact q))
      exact no (fun q => h2 q.2)
theorem M_loadT {h1 : pm_H} (iv : sx_IV xT xtg xPH h1) {x : Int32} (re : Rx x h h1) (kk : ∀ r h2, sx_IV xT xtg xPH h2 → Rl h2 → Q [.int r] h2) : pm_W (g_P ys) 278 0 [.ref 275, .int x, .retAddr 0] [] h1 (0, 0) Q := by
  obtain ⟨I, L, s, rfl⟩ := x_form iv
  obtain ⟨e1, e2⟩ := re
  have e1 : I 275 43 = h.1 275 43 := e1
  rcases e2 with ⟨v1, v2, z⟩ | ⟨nv, z⟩
  · refine M_loadG iv x ⟨v1, by rw [e1]; exact v2⟩ (fun r h2 iv2 fr2 t0 => kk _ _ iv2 ?_)
    have z : I 1 1 = 0 := z
    have e : h2.1 1 1 = I 1 1 := fr2.1 1 1 (by unfold sx_WP; decide)
    unfold Rl
    rw [e, z]
    exact ((i_eq _ _).mpr t0).symm
  · obtain ⟨g1, g2⟩ := is_iv (a := 1) iv (by decide) (by decide)
    have z : I 1 1 = h.1 275 43 := z
    refine M_loadN (by rw [e1]; exact nv) (kk _ _ g1 (Rl_fr (by decide) g2 ?_))
    show I 1 1 = I 275 43
    rw [z, e1]
/-- what is fed comes to the same -/
theorem B_feedT (iv : sx_IV xT xtg xPH h) (re : Rl h) (a b c d e : Int32) (kk : ∀ r h1 t, t ≤ 800 → h1.1 275 43 = nI t → r = (if 780 < t then -1 else nI (t + 20)) → h1.1 1 1 = (if 780 < t then nI t else nI (t + 20)) → sx_IV xT xtg xPH h1 → Q [.int r] h1) : pm_W (g_P ys) 14 0 [.ref 0, .int a, .int b, .int c, .int d, .int e] [] h (0, 0) Q := by
  obtain ⟨I, L, s, rfl⟩ := x_form iv
  obtain ⟨t, ht, hl⟩ := g_bd iv (a := 1) (k := 1) (b := 800) (q := (.ofNat 1, .ofNat 1, .ofNat 0, .ofNat 800)) (by decide) (by decide) (by decide) rfl rfl
  have hl : I 1 1 = nI t := hl
  have hm : I 275 43 = nI t := by rw [← hl]; exact re.symm
  refine B_feedX hl ht a b c d e (fun q => ?_) (fun q => ?_)
  · exact kk _ _ t ht hm (by rw [if_pos q]) (by rw [if_pos q]; exact hl) iv
  · obtain ⟨g1, g2⟩ := cT_iv (t := t) (l := c4 a ++ (c4 b ++ (c4 c ++ (c4 d ++ c4 e)))) iv (fun x hx => c4_bd hx) (by show t + 20 ≤ 800; omega)
    exact kk _ _ t ht ((g2.1 275 43 (by unfold sx_WP; decide)).trans hm) (by rw [if_neg (by omega)]) (by rw [if_neg (by omega)]; exact ptL_len hl) g1
theorem M_feedT {h1 : pm_H} (iv : sx_IV xT xtg xPH h1) {t : Nat} (ht : t ≤ 800) (hm : h1.1 275 43 = nI t) (hb : h1.1 1 1 = (if 780 < t then nI t else nI (t + 20))) (a b c d e : Int32) (kk : ∀ h2, sx_IV xT xtg xPH h2 → Rl h2 → Q [.int (if 780 < t then -1 else nI (t + 20))] h2) : pm_W (g_P ys) 276 0 [.ref 275, .int a, .int b, .int c, .int d, .int e] [] h1 (0, 0) Q := by
  obtain ⟨I, L, s, rfl⟩ := x_form iv
  have hm : I 275 43 = nI t := hm
  have hb : I 1 1 = (if 780 < t then nI t else nI (t + 20)) := hb
  have g := sx_mw_ok (xC []) iv (W := [(50, .ofNat 1, .ofNat 1)]) (D := (false, false)) (a := 275) (t := 50) (k := 1) (lo := 1) (hi := 1) (b := (0, 0)) (by decide) (by decide) (by decide) (by decide) (x := 0) (by decide) (by decide)
  have m0 : pm_u I 275 1 0 275 43 = nI t := by rw [pu_n (by decide)]; exact hm
  have b0 : pm_u I 275 1 0 1 1 = I 1 1 := pu_o (by decide)
  refine M_feedX hm ht a b c d e (fun q => ?_) (fun q => ?_)
  · rw [if_pos q] at kk hb
    refine kk _ g.1 ?_
    show pm_u I 275 1 0 1 1 = pm_u I 275 1 0 275 43
    rw [m0, b0, hb]
  · rw [if_neg (by omega)] at kk hb
    obtain ⟨g1, g2⟩ := mT_iv (L := L) (s := s) (t := t) (l := m4 a ++ (m4 b ++ (m4 c ++ (m4 d ++ m4 e)))) (I := pm_u I 275 1 0) g.1 (fun x hx => m4_bd hx) (by show t + 20 ≤ 800; omega)
    refine kk _ g1 ?_
    have e1 : mT (pm_u I 275 1 0) t (m4 a ++ (m4 b ++ (m4 c ++ (m4 d ++ m4 e)))) 1 1 = pm_u I 275 1 0 1 1 := g2.1 1 1 (by unfold sx_WP; decide)
    have e2 : mT (pm_u I 275 1 0) t (m4 a ++ (m4 b ++ (m4 c ++ (m4 d ++ m4 e)))) 275 43 = nI (t + 20) := ptL_len m0
    show mT (pm_u I 275 1 0) t (m4 a ++ (m4 b ++ (m4 c ++ (m4 d ++ m4 e)))) 1 1 = mT (pm_u I 275 1 0) t (m4 a ++ (m4 b ++ (m4 c ++ (m4 d ++ m4 e)))) 275 43
    rw [e1, e2, b0, hb]
end KE
