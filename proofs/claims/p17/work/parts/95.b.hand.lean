/-! BY HAND: how a text is read, seventh: readsForm, readsPlate -/
section IL
variable {ys : List Int32} {h h' : pm_H} {Q : List Value → pm_H → Prop}
theorem g3f {W : sx_W} {D : Bool × Bool} (kk : ∀ v h', sx_IV xT xtg xPH h' → sx_fr xtg xVP W D h h' → (∃ o, o ∈ [(([], [(0, 46, .ofNat 1, .ofNat 6, 0)], [], []) : sx_O), ([], [(0, 15, .ofNat 0, .ofNat 5, 5), (0, 46, .ofNat 0, .ofNat 0, 0), (0, 50, .ofNat 0, .ofNat 0, 0), (0, 49, .ofNat 0, .ofNat 801, 0)], [], []), ([], [(0, 15, .ofNat 0, .ofNat 5, 5), (0, 46, .ofNat 0, .ofNat 0, 0), (0, 50, .ofNat 1, .ofNat 5, 0), (0, 49, .ofNat 0, .ofNat 800, 0)], [], [])] ∧ sx_po xtg xVP h h' [.ref 275] v o) → Q v h') (iv : sx_IV xT xtg xPH h') (fr : sx_fr xtg xVP W D h h') (gs : gSt h') (h5 : (h'.1 275 46).toInt = 0 → (h'.1 275 15).toInt ≤ 5 ∧ xVP h' 5 (h'.1 275 15).toInt) : Q [] h' := by
  have w6 := wr6 iv
  have s5 := so5 iv
  have t8 := th8 iv
  have n0 := iv.1 275 15 (.ofNat 15, .ofNat 15, .ofNat 0, .ofNat 6) (by decide) (by decide) (by decide)
  have f5 : (h'.1 275 46).toInt = 0 → ∀ {fs}, sx_fas xVP h' (.ref 275 :: []) fs → sx_fas xVP h' (.ref 275 :: []) ((0, 15, .ofNat 0, .ofNat 5, 5) :: fs) := by
    intro q fs k f hf
    rcases List.mem_cons.mp hf with rfl | hf
    · exact ⟨275, rfl, n0.1, (h5 q).1, Or.inr (h5 q).2⟩
    · exact k f hf
  rcases gs with b | ⟨b0, s0⟩ | ⟨b0, s1, t800⟩
  · exact kk _ _ iv fr ⟨_, List.mem_cons_self, trivial, fas_c b w6.2 fas_n, fun _ q => (by cases q), fun _ q => (by cases q)⟩
  · exact kk _ _ iv fr ⟨_, List.Mem.tail _ (List.Mem.head _), trivial, f5 b0 (fas_c (by rw [b0]; exact Int.le_refl _) (by rw [b0]; exact Int.le_refl _) (fas_c (by rw [s0]; exact Int.le_refl _) (by rw [s0]; exact Int.le_refl _) (fas_c t8.1 t8.2 fas_n))), fun _ q => (by cases q), fun _ q => (by cases q)⟩
  · exact kk _ _ iv fr ⟨_, List.Mem.tail _ (List.Mem.tail _ (List.Mem.head _)), trivial, f5 b0 (fas_c (by rw [b0]; exact Int.le_refl _) (by rw [b0]; exact Int.le_refl _) (fas_c s1 s5.2 (fas_c t8.1 t800 fas_n))), fun _ q => (by cases q), fun _ q => (by cases q)⟩
theorem g3n {W : sx_W} {D : Bool × Bool} (kk : ∀ v h', sx_IV xT xtg xPH h' → sx_fr xtg xVP W D h h' → (∃ o, o ∈ [(([], [(0, 46, .ofNat 1, .ofNat 6, 0)], [], []) : sx_O), ([], [(0, 46, .ofNat 0, .ofNat 0, 0), (0, 50, .ofNat 0, .ofNat 0, 0), (0, 49, .ofNat 0, .ofNat 801, 0)], [], []), ([], [(0, 46, .ofNat 0, .ofNat 0, 0), (0, 50, .ofNat 1, .ofNat 5, 0), (0, 49, .ofNat 0, .ofNat 800, 0)], [], [])] ∧ sx_po xtg xVP h h' [.ref 275] v o) → Q v h') (iv : sx_IV xT xtg xPH h') (fr : sx_fr xtg xVP W D h h') (gs : gSt h') : Q [] h' := by
  have w6 := wr6 iv
  have s5 := so5 iv
  have t8 := th8 iv
  rcases gs with b | ⟨b0, s0⟩ | ⟨b0, s1, t800⟩
  · exact kk _ _ iv fr ⟨_, List.mem_cons_self, trivial, fas_c b w6.2 fas_n, fun _ q => (by cases q), fun _ q => (by cases q)⟩
  · exact kk _ _ iv fr ⟨_, List.Mem.tail _ (List.Mem.head _), trivial, fas_c (by rw [b0]; exact Int.le_refl _) (by rw [b0]; exact Int.le_refl _) (fas_c (by rw [s0]; exact Int.le_refl _) (by rw [s0]; exact Int.le_refl _) (fas_c t8.1 t8.2 fas_n)), fun _ q => (by cases q), fun _ q => (by cases q)⟩
  · exact kk _ _ iv fr ⟨_, List.Mem.tail _ (List.Mem.tail _ (List.Mem.head _)), trivial, fas_c (by rw [b0]; exact Int.le_refl _) (by rw [b0]; exact Int.le_refl _) (fas_c s1 s5.2 (fas_c t8.1 t800 fas_n)), fun _ q => (by cases q), fun _ q => (by cases q)⟩
theorem kt0 : xk ys kh_293_0 := k_tells (f := 0) (a0 := 0) (a1 := 289) (b0 := 0) (b1 := 0) (by omega) (by omega) (by omega) (fun a b _ _ _ _ => ⟨by omega, fun q => by omega, fun q => by omega, fun q => by omega, fun q => by omega⟩)
theorem kt1 : xk ys kh_293_1 := k_tells (f := 1) (a0 := 1) (a1 := 40) (b0 := 0) (b1 := 0) (by omega) (by omega) (by omega) (fun a b _ _ _ _ => ⟨by omega, fun q => by omega, fun q => by omega, fun q => by omega, fun q => by omega⟩)
theorem kt5 : xk ys kh_293_5 := k_tells (f := 5) (a0 := 0) (a1 := 289) (b0 := 0) (b1 := 0) (by omega) (by omega) (by omega) (fun a b _ _ _ _ => ⟨by omega, fun q => by omega, fun q => by omega, fun q => by omega, fun q => by omega⟩)
theorem kt6 : xk ys kh_293_6 := k_tells (f := 6) (a0 := 0) (a1 := 289) (b0 := 0) (b1 := 0) (by omega) (by omega) (by omega) (fun a b _ _ _ _ => ⟨by omega, fun q => by omega, fun q => by omega, fun q => by omega, fun q => by omega⟩)
theorem kz0 : xk ys kh_294_0 := k_sizes (w1 := 289) (v1 := 1) (fun w v h1 h2 => by have := Nat.mul_le_mul h1 h2; omega)
theorem kz1 : xk ys kh_294_1 := k_sizes (w1 := 17) (v1 := 17) (fun w v h1 h2 => by have := Nat.mul_le_mul h1 h2; omega)
theorem k_readsForm : xk ys (290, [.inl (2, .ofNat 0, .ofNat 0, 50)], [(0, 15, .ofNat 0, .ofNat 5, 0), (0, 46, .ofNat 0, .ofNat 0, 0), (0, 49, .ofNat 0, .ofNat 800, 0), (0, 50, .ofNat 1, .ofNat 5, 0)], nwW ++ rdW ++ muW, (false, false), [([], [(0, 46, .ofNat 1, .ofNat 6, 0)], [], []), ([], [(0, 15, .ofNat 0, .ofNat 5, 5), (0, 46, .ofNat 0, .ofNat 0, 0), (0, 50, .ofNat 0, .ofNat 0, 0), (0, 49, .ofNat 0, .ofNat 801, 0)], [], []), ([], [(0, 15, .ofNat 0, .ofNat 5, 5), (0, 46, .ofNat 0, .ofNat 0, 0), (0, 50, .ofNat 1, .ofNat 5, 0), (0, 49, .ofNat 0, .ofNat 800, 0)], [], [])]) := by
  intro h vs Q iv va fa kk
  obtain ⟨_, c1, rfl, ⟨a, rfl, ha, _⟩, va1⟩ := vas_c va
  cases vas_n va1
  cases ref_M ha
  have kk2 := fun {h'} => g3f (h' := h') kk
  have np := f275 fa (f := (0, 15, .ofNat 0, .ofNat 5, 0)) (by simp) rfl
  obtain ⟨n, hn5, hn⟩ := nat_bd (b := 5) np.1 np.2.1
  have tn : (h.1 275 15).toInt = (n : Int) := by rw [hn, nI_toInt (by omega)]
  have nW : ∀ {h' : pm_H} {W : sx_W}, sx_fr xtg xVP W (false, false) h h' → W.all (fun q => !(Nat.beq q.1 (xtg 275) && decide (q.2.1 ≤ ((15 : Nat) : Int)) && decide (((15 : Nat) : Int) ≤ q.2.2))) = true → h'.1 275 15 = nI n := fun fr hw => (fr_p fr hw).trans hn
  have bad : ∀ h', sx_IV xT xtg xPH h' → sx_fr xtg xVP (nwW ++ rdW ++ muW) (false, false) h h' → 1 ≤ (h'.1 275 46).toInt → Q [] h' := fun h' iv' fr' b => kk2 iv' fr' (Or.inl b) (fun q => by omega)
  -- both
  have both : ∀ h2, sx_IV xT xtg xPH h2 → sx_fr xtg xVP (nwW ++ rdW ++ muW) (false, false) h h2 → gSt h2 → ∀ u1 u2 u3, pm_W (g_P ys) 290 248 [.ref 275, u1, u2, u3] [.int 1, .int 1, .ref 275] h2 (0, 0) Q := by
    intro h2 iv2 fr2 gs2 u1 u2 u3
    obtain ⟨I2, L2, s2, rfl⟩ := x_form iv2
    refine pw_k rfl rfl rfl rfl ⟨Nat.zero_le _, Nat.zero_le _⟩ ?_
    refine M_tpBoth iv2 gs2 (wd := 1) (by omega) (Or.inr (by omega)) ?_
    intro r h3 iv3 fr3 post
    have fr3' := sx_fr_trans fr2 (fr_wk (W2 := nwW ++ rdW ++ muW) (by decide) fr3)
    obtain ⟨I3, L3, s3, rfl⟩ := x_form iv3
    have fin : ∀ u1 u2 u3 h', sx_IV xT xtg xPH h' → sx_fr xtg xVP (nwW ++ rdW ++ muW) (false, false) h h' → 1 ≤ (h'.1 275 46).toInt → pm_W (g_P ys) 290 269 [.ref 275, u1, u2, u3] [] h' (0, 0) Q := by
      intro u1 u2 u3 h' iv' fr' b
      obtain ⟨I', L', s', rfl⟩ := x_form iv'
      have b : 1 ≤ (I' 275 46).toInt := b
      have bn : ¬ I' 275 46 = 0 := fun q => by rw [q] at b; exact absurd b (by decide)
      refine ps_aload rfl rfl ?_
      refine pw_k rfl rfl rfl rfl ⟨Nat.zero_le _, Nat.zero_le _⟩ ?_
      refine M_good ?_
      rw [decide_eq_false bn]
      refine ps_ift rfl (by decide) ?_
      refine ps_vret rfl rfl ?_
      exact bad _ iv' fr' b
    rcases post with ⟨b3, rfl⟩ | ⟨_, w3, gs3, k, w, v, rfl, klt, kp, _⟩
    · obtain ⟨wd, hwd9, hwd⟩ := g_bd iv3 (a := 279) (k := 0) (b := 289) (q := (.ofNat 0, .ofNat 41, .ofNat 0, .ofNat 289)) (by decide) (by decide) (by decide) rfl rfl
      refine ps_istore rfl rfl ?_
      refine ps_aload rfl rfl ?_
      refine pw_c rfl ?_
      refine ps_aload rfl rfl ?_
      refine ps_gfr 11 5 rfl rfl rfl rfl rfl (rfl) ?_
      refine pw_c rfl ?_
      refine ps_iload rfl rfl ?_
      refine ps_ar rfl rfl rfl rfl rfl ?_
      refine pw_c rfl ?_
      refine ps_ar rfl rfl rfl rfl rfl ?_
      refine ps_iald (0) rfl rfl rfl (by decide) (by omega) ?_
      rw [show ((I3, L3, g_R s3, 306) : pm_H).1 279 0 = nI wd from hwd]
      refine pw_k rfl rfl rfl rfl ⟨Nat.zero_le _, Nat.zero_le _⟩ ?_
      refine M_tpBoth iv3 (Or.inl b3) (wd := wd) hwd9 (Or.inl b3) ?_
      intro r4 h4 iv4 fr4 post4
      refine ps_istore rfl rfl ?_
      rcases post4 with ⟨b4, _⟩ | ⟨q, _⟩
      · exact fin _ _ _ _ iv4 (sx_fr_trans fr3' (fr_wk (by decide) fr4)) b4
      · omega
    · have kp : nPl I3 k w v := kp
      have hk6 := kp.1
      have hb := nPl_b kp
      refine ps_istore rfl rfl ?_
      refine ps_aload rfl rfl ?_
      refine pw_c rfl ?_
      refine ps_aload rfl rfl ?_
      refine ps_gfr 11 5 rfl rfl rfl rfl rfl (rfl) ?_
      refine pw_c rfl ?_
      refine ps_iload rfl rfl ?_
      refine ps_ar rfl rfl rfl rfl rfl ?_
      refine pw_c rfl ?_
      refine ps_ar rfl rfl rfl rfl rfl ?_
      refine ps_iald (7 * k) rfl rfl rfl (by simp only [ni_lit, ni_l0, pk_mul, nI_add, Nat.add_zero]) (by omega) ?_
      rw [show ((I3, L3, g_R s3, 306) : pm_H).1 279 (7 * k) = nI w from kp.2.1]
      refine pw_k rfl rfl rfl rfl ⟨Nat.zero_le _, Nat.zero_le _⟩ ?_
      refine M_tpBoth iv3 gs3 (wd := w) hb.1 (Or.inr kp.2.2.2.1) ?_
      intro r4 h4 iv4 fr4 post4
      have fr4' := sx_fr_trans fr3' (fr_wk (W2 := nwW ++ rdW ++ muW) (by decide) fr4)
      refine ps_istore rfl rfl ?_
      rcases post4 with ⟨b4, _⟩ | ⟨_, w4, gs4, k2, w2, v2, rfl, k2lt, k2p, hww⟩
      · exact fin _ _ _ _ iv4 fr4' b4
      · obtain ⟨I4, L4, s4, rfl⟩ := x_form iv4
        have w4 : (I4 275 46).toInt = 0 := w4
        have bn : I4 275 46 = 0 := (i_eq _ _).mpr w4
        have n3 : I3 275 15 = nI n := nW fr3' (by decide)
        have n4 : I4 275 15 = nI n := nW fr4' (by decide)
        have klt : (k : Int) < (I3 275 15).toInt := klt
        have k2lt : (k2 : Int) < (I4 275 15).toInt := k2lt
        rw [n3, nI_toInt (by omega)] at klt
        rw [n4, nI_toInt (by omega)] at k2lt
        have kp4 : nPl I4 k w v := by
          have e1 : I4 279 (7 * k) = I3 279 (7 * k) := fr_t fr4 (by decide) _
          have e2 : I4 279 (7 * k + 1) = I3 279 (7 * k + 1) := fr_t fr4 (by decide) _
          unfold nPl at kp ⊢
          rw [e1, e2]
          exact kp
        have k2p : nPl I4 k2 w2 v2 := k2p
        refine ps_aload rfl rfl ?_
        refine pw_k rfl rfl rfl rfl ⟨Nat.zero_le _, Nat.zero_le _⟩ ?_
        refine M_good ?_
        rw [decide_eq_true bn]
        refine ps_iff rfl (by decide) ?_
        refine ps_aload rfl rfl ?_
        refine ps_iload rfl rfl ?_
        refine ps_iload rfl rfl ?_
        refine pw_k rfl rfl rfl rfl ⟨Nat.zero_le _, Nat.zero_le _⟩ ?_
        refine M_bothIV iv4 n4 (by omega) (by omega) (by omega) kp4 k2p (by rw [Nat.mul_comm]; exact hww) ?_
        intro h5 iv5 fr5 k5
        refine ps_vret rfl rfl ?_
        have o : ∀ j, h5.1 275 j = I4 275 j := fun j => fr_t fr5 (by decide) j
        refine kk2 iv5 (sx_fr_trans fr4' (fr_wk (by decide) fr5)) ?_ (fun _ => ?_)
        · unfold gSt
          rw [o, o, o]
          exact gs4
        · rw [o, n4, nI_toInt (by omega)]
          exact ⟨by omega, k5⟩
  have ve : sx_vas xtg xVP h [.inl (2, .ofNat 0, .ofNat 0, 50), .inl (3, .ofNat 0, .ofNat 0, 0), .inl (3, .ofNat 0, .ofNat 0, 0), .inl (3, .ofNat 0, .ofNat 0, 0)] [.ref 275, .retAddr 0, .retAddr 0, .retAddr 0] := ⟨⟨275, rfl, rfl, by omega⟩, trivial, trivial, trivial, trivial⟩
  have fm : ∀ f, f ∈ [((0, 15, .ofNat 0, .ofNat 5, 0) : sx_F), (0, 46, .ofNat 0, .ofNat 0, 0), (0, 49, .ofNat 0, .ofNat 800, 0), (0, 50, .ofNat 1, .ofNat 5, 0)] → f.1 = 0 := by
    intro f hf
    simp only [List.mem_cons, List.not_mem_nil, or_false] at hf
    rcases hf with rfl | rfl | rfl | rfl <;> rfl
  have fx : ∀ {h' : pm_H} {ws ws' : List Value} {fs : List sx_F}, (∀ f, f ∈ fs → f.1 = 0) → sx_fas xVP h' (.ref 275 :: ws) fs → sx_fas xVP h' (.ref 275 :: ws') fs := by
    intro h' ws ws' fs h0 k f hf
    obtain ⟨a, e, q⟩ := k f hf
    refine ⟨a, ?_, q⟩
    rw [h0 f hf] at e ⊢
    exact e
  refine sg_by (sg_form_t ys k_isPrime k_must1 k_must0 k_reads k_plateNamed kt0 kt1 kt5 kt6 kz0 kz1 k_makesSet k_makesTurn k_makesNegative) sg_form_b iv (sc := []) (gc := []) ve trivial trivial (fx fm fa) (fun v h' iv' fr' q => ?_) (fun st hst lc' sc' h' iv' fr' ps => ?_)
  · obtain ⟨o, ho, po⟩ := q
    have f5 : ∀ {fs}, sx_fas xVP h' (.ref 275 :: ([.retAddr 0, .retAddr 0, .retAddr 0] ++ ([] ++ []))) fs → (0, 15, .ofNat 0, .ofNat 5, 5) ∈ fs → (h'.1 275 15).toInt ≤ 5 ∧ xVP h' 5 (h'.1 275 15).toInt := fun k hm => ⟨(f275 k hm rfl).2.1, (f275 k hm rfl).2.2.resolve_left (by decide)⟩
    rcases List.mem_cons.mp ho with rfl | ho
    · cases mxs_n po.1
      exact bad _ iv' fr' (gb po.2.1 (by simp))
    rcases List.mem_cons.mp ho with rfl | ho
    · cases mxs_n po.1
      exact kk2 iv' fr' (gs0 po.2.1 (by simp) (by simp)) (fun _ => f5 po.2.1 (by simp))
    rcases List.mem_cons.mp ho with rfl | ho
    · cases mxs_n po.1
      exact kk2 iv' fr' (gs1 po.2.1 (by simp) (b := 1) (hi := .ofNat 5) (by simp) (by omega) (lo := 0) (by simp)) (fun _ => f5 po.2.1 (by simp))
    · cases ho
  · rcases List.mem_cons.mp hst with rfl | hst
    · obtain ⟨w0, l1, rfl, m0, ps1⟩ := mxs_c ps.1
      obtain ⟨w1, l2, rfl, _, ps2⟩ := mxs_c ps1
      obtain ⟨w2, l3, rfl, _, ps3⟩ := mxs_c ps2
      obtain ⟨w3, l4, rfl, _, ps4⟩ := mxs_c ps3
      cases mxs_n ps4
      cases mxs_n ps.2.1
      cases mx_0 m0
      show pm_W (g_P ys) 290 231 _ _ _ _ _
      refine sg_by (sg_bth0_t ys k_must1 k_must0 k_reads) sg_bth0_b iv' (sc := []) (gc := []) ⟨⟨275, rfl, rfl, by omega⟩, trivial, trivial, trivial, trivial⟩ trivial trivial (fx fm ps.2.2.1) (fun v h'' _ _ q => ?_) (fun st2 hst2 lc2 sc2 h2 iv2 fr2 ps2 => ?_)
      · obtain ⟨o, ho, _⟩ := q
        cases ho
      · have go : ∀ sX : sx_XS, sX.2.1 = [.inr (0, .ofNat 0), .inl (.inl (3, .ofNat 0, .ofNat 0, 0)), .inl (.inl (3, .ofNat 0, .ofNat 0, 0)), .inl (.inl (3, .ofNat 0, .ofNat 0, 0))] → sX.2.2.1 = [.inl (.inl (0, .ofNat 1, .ofNat 1, 0)), .inl (.inl (0, .ofNat 1, .ofNat 1, 0)), .inr (0, .ofNat 0)] → sx_psx xtg xVP h2 ([.ref 275, w1, w2, w3] ++ ([] ++ [])) lc2 sc2 sX → (∀ ws, sx_fas xVP h2 (.ref 275 :: ws) sX.2.2.2.1 → gSt h2) → pm_W (g_P ys) 290 248 lc2 sc2 h2 (0, 0) Q := by
          intro sX e1 e2 ps2 hg
          obtain ⟨p1, p2, p3, _⟩ := ps2
          rw [e1] at p1
          rw [e2] at p2
          obtain ⟨w0, l1, rfl, m0, ps1⟩ := mxs_c p1
          obtain ⟨w1, l2, rfl, _, ps2⟩ := mxs_c ps1
          obtain ⟨w2, l3, rfl, _, ps3⟩ := mxs_c ps2
          obtain ⟨w3, l4, rfl, _, ps4⟩ := mxs_c ps3
          cases mxs_n ps4
          obtain ⟨w5, l5, rfl, m5, ps5⟩ := mxs_c p2
          obtain ⟨w6, l6, rfl, m6, ps6⟩ := mxs_c ps5
          obtain ⟨w7, l7, rfl, m7, ps7⟩ := mxs_c ps6
          cases mxs_n ps7
          cases mx_0 m0
          cases mx_0 m7
          obtain ⟨x5, rfl, x51, x52, _⟩ := m5
          obtain ⟨x6, rfl, x61, x62, _⟩ := m6
          have e5 : x5 = 1 := (i_eq _ _).mpr (Int.le_antisymm x52 x51)
          have e6 : x6 = 1 := (i_eq _ _).mpr (Int.le_antisymm x62 x61)
          rw [e5, e6]
          exact both h2 iv2 (sx_fr_trans fr' fr2) (hg _ p3) _ _ _
        rcases List.mem_cons.mp hst2 with rfl | hst2
        · exact go _ rfl rfl ps2 (fun ws k => Or.inl (gb k (by simp)))
        rcases List.mem_cons.mp hst2 with rfl | hst2
        · exact go _ rfl rfl ps2 (fun ws k => gs0 k (by simp) (by simp))
        rcases List.mem_cons.mp hst2 with rfl | hst2
        · exact go _ rfl rfl ps2 (fun ws k => gs1 k (by simp) (b := 1) (hi := .ofNat 5) (by simp) (by omega) (lo := 1) (by simp))
        · cases hst2
    · cases hst
end IL
