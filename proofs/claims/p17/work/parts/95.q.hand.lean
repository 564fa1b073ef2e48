/-! BY HAND: the class's load, its contract -/
section JL
variable {ys : List Int32} {h : pm_H}
theorem rf_iv (iv : sx_IV xT xtg xPH h) {k j b : Nat} (hk : (k = 6 ∧ j = 0) ∨ (k = 7 ∧ j = 1)) (hb : xtg b = 25) (hb2 : b ≤ 1000000) : sx_IV xT xtg xPH (pm_sR h 0 k (some b)) := by
  obtain ⟨I, L, s, rfl⟩ := x_form iv
  have e : pm_u (g_R s) 0 k (some b) = g_R (fun i => bif Nat.beq i j then some b else s i) := by
    refine xgR s b 0 k j ?_
    rcases hk with ⟨rfl, rfl⟩ | ⟨rfl, rfl⟩ <;> simp
  refine ⟨iv.1, iv.2.1, fun a i t ht => ?_, iv.2.2.2.1, ⟨_, e⟩, iv.2.2.2.2.2⟩
  show ∃ c, pm_u (g_R s) 0 k (some b) a i = some c ∧ _
  unfold pm_u
  split
  · rename_i e0
    subst e0
    split
    · rename_i e1
      subst e1
      have ht : xgr (xtg 0) i = some t := ht
      have t25 : t = 25 := by
        rcases hk with ⟨rfl, _⟩ | ⟨rfl, _⟩
        · have q : some 25 = some t := ht
          cases q
          rfl
        · have q : some 25 = some t := ht
          cases q
          rfl
      exact ⟨b, rfl, by rw [hb, t25], hb2⟩
    · exact iv.2.2.1 _ _ _ ht
  · exact iv.2.2.1 _ _ _ ht
theorem fr_11 {W : sx_W} {D : Bool × Bool} {h h' : pm_H} (k : sx_fr xtg xVP W D h h') : sx_fr xtg xVP W (true, true) h h' := ⟨k.1, fun q => (by cases q), fun q => (by cases q)⟩
theorem k_cLoad : xk ys kh_17_0 := by
  intro h vs Q iv va fa kk
  obtain ⟨I, L, s, rfl⟩ := x_form iv
  obtain ⟨_, c1, rfl, ⟨a, rfl, ha, _⟩, va1⟩ := vas_c va
  obtain ⟨_, c2, rfl, ⟨x, rfl, _⟩, va2⟩ := vas_c va1
  cases vas_n va2
  cases tag_B ha
  have fin : ∀ (r : Int32) h', sx_IV xT xtg xPH h' → sx_fr xtg xVP (kh_17_0).2.2.2.1 (true, true) (I, L, g_R s, 306) h' → Q [.int r] h' := fun r h' iv' fr' => kk _ _ iv' fr' ⟨_, List.mem_cons_self, po_f⟩
  obtain ⟨t, ht, hl⟩ := g_bd iv (a := 1) (k := 1) (b := 800) (q := (.ofNat 1, .ofNat 1, .ofNat 0, .ofNat 800)) (by decide) (by decide) (by decide) rfl rfl
  have hl : I 1 1 = nI t := hl
  have tt := nI_toInt (n := t) (by omega)
  have no : pm_W (g_P ys) 17 15 [.ref 0, .int x, .retAddr 0, .retAddr 0] [] (I, L, g_R s, 306) (0, 0) Q := by
    refine sg_by (sg_bln_t ys) sg_bln_b iv (lc := [.ref 0, .int x, .retAddr 0, .retAddr 0]) (sc := []) (gc := []) ⟨va_r rfl (by omega), va_f, trivial, trivial, trivial⟩ trivial trivial fas_n (fun v h9 iv9 fr9 q => ?_) (fun st hst => by cases hst)
    obtain ⟨o, ho, po⟩ := q
    rcases List.mem_cons.mp ho with rfl | ho
    · obtain ⟨w0, l1, rfl, ⟨y, rfl, _⟩, ps1⟩ := mxs_c po.1
      cases mxs_n ps1
      exact fin _ _ iv9 (fr_11 (fr_wp (by decide) fr9))
    · cases ho
  refine ps_iload rfl rfl ?_
  refine ps_if rfl (fun h1 => ?_) (fun h1 => ?_)
  · exact no
  · have h1 : ¬ x.toInt < (0 : Int32).toInt := fun q => (show ¬ x < 0 from of_decide_eq_false h1) ((i_lt _ _).mpr q)
    have e0 : (0 : Int32).toInt = 0 := rfl
    refine ps_iload rfl rfl ?_
    refine ps_aload rfl rfl ?_
    refine ps_gfr 0 0 rfl rfl rfl rfl rfl (rfl) ?_
    refine ps_gfi 1 1 rfl rfl rfl rfl rfl ?_
    rw [show ((I, L, g_R s, 306) : pm_H).1 1 1 = nI t from hl]
    refine ps_icmp rfl (fun h2 => ?_) (fun h2 => ?_)
    · have h2 := (i_le _ _).mp (show x ≤ nI t from of_decide_eq_true h2)
      rw [tt] at h2
      refine sg_by (sg_bl_t ys k_split (k_readLine k_takeBits)) sg_bl_b iv (lc := [.ref 0, .int x, .retAddr 0, .retAddr 0]) (sc := []) (gc := [.ref 1]) ⟨va_r rfl (by omega), ⟨x, rfl, by show (0 : Int) ≤ _; omega, by show _ ≤ (800 : Int); omega, Or.inl rfl⟩, trivial, trivial, trivial⟩ trivial ⟨va_r rfl (by omega), trivial⟩ fas_n (fun v h9 iv9 fr9 q => ?_) (fun st hst lc' sc' h9 iv9 fr9 ps => ?_)
      · obtain ⟨o, ho, po⟩ := q
        rcases List.mem_cons.mp ho with rfl | ho
        · obtain ⟨w0, l1, rfl, ⟨y, rfl, _⟩, ps1⟩ := mxs_c po.1
          cases mxs_n ps1
          exact fin _ _ iv9 (fr_11 (fr_wp (by decide) fr9))
        · cases ho
      · rcases List.mem_cons.mp hst with rfl | hst
        · obtain ⟨p1, p2, p3, _⟩ := ps
          obtain ⟨w0, l1, rfl, m0, p1a⟩ := mxs_c p1
          obtain ⟨w1, l2, rfl, m1, p1b⟩ := mxs_c p1a
          obtain ⟨w2, l3, rfl, ⟨y2, rfl, _⟩, p1c⟩ := mxs_c p1b
          obtain ⟨w3, l4, rfl, _, p1d⟩ := mxs_c p1c
          cases mxs_n p1d
          cases mxs_n p2
          cases mx_0 m0
          cases mx_0 m1
          have f9 := fr_wp (W2 := (kh_17_0).2.2.2.1) (by decide) fr9
          obtain ⟨I1, L1, s1, rfl⟩ := x_form iv9
          obtain ⟨b, hb, hbt, hb2⟩ := iv9.2.2.1 0 6 25 rfl
          obtain ⟨sp, hsp, hst, hs2⟩ := iv9.2.2.1 0 7 25 rfl
          have g1 := rf_iv iv9 (Or.inl ⟨rfl, rfl⟩) hst hs2
          have g2 := rf_iv g1 (Or.inr ⟨rfl, rfl⟩) hbt hb2
          refine ps_aload rfl rfl ?_
          refine ps_gfr 0 6 rfl rfl rfl rfl rfl ( hb) ?_
          refine ps_astore rfl rfl ?_
          refine ps_aload rfl rfl ?_
          refine ps_aload rfl rfl ?_
          refine ps_gfr 0 7 rfl rfl rfl rfl rfl ( hsp) ?_
          refine ps_pfr 0 6 rfl rfl rfl rfl rfl ?_
          refine ps_aload rfl rfl ?_
          refine ps_aload rfl rfl ?_
          refine ps_pfr 0 7 rfl rfl rfl rfl rfl ?_
          refine sg_by (sg_blm_t ys) sg_blm_b g2 (lc := [.ref 0, .int x, .int y2, .ref b]) (sc := []) (gc := []) ⟨va_r rfl (by omega), va_f, trivial, trivial, trivial⟩ trivial trivial fas_n (fun v h9 iv9 fr9 q => ?_) (fun st hst => by cases hst)
          obtain ⟨o, ho, po⟩ := q
          rcases List.mem_cons.mp ho with rfl | ho
          · obtain ⟨w0, l1, rfl, ⟨y, rfl, _⟩, ps1⟩ := mxs_c po.1
            cases mxs_n ps1
            have f2 := fr_wp (W2 := (kh_17_0).2.2.2.1) (by decide) fr9
            exact fin _ _ iv9 ⟨fun c j hn => (f2.1 c j hn).trans (f9.1 c j hn), fun q => (by cases q), fun q => (by cases q)⟩
          · cases ho
        · cases hst
    · exact no
end JL
