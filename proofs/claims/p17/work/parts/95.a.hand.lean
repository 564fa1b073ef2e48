/-! BY HAND: how a text is read, sixth: forms, plates -/
section IK
variable {ys : List Int32} {h h' : pm_H} {ws : List Value} {fs : List sx_F} {Q : List Value → pm_H → Prop}
theorem f275 (k : sx_fas xVP h (.ref 275 :: ws) fs) {f : sx_F} (hf : f ∈ fs) (h0 : f.1 = 0) : f.2.2.1 ≤ (h.1 275 f.2.1).toInt ∧ (h.1 275 f.2.1).toInt ≤ f.2.2.2.1 ∧ (f.2.2.2.2 = 0 ∨ xVP h f.2.2.2.2 (h.1 275 f.2.1).toInt) := by
  obtain ⟨a, e, q⟩ := k f hf
  rw [h0] at e
  cases e
  exact q
theorem fas_n : sx_fas xVP h ws [] := fun _ q => by cases q
theorem fas_c {j : Nat} {lo hi : Int} (h1 : lo ≤ (h.1 275 j).toInt) (h2 : (h.1 275 j).toInt ≤ hi) (k : sx_fas xVP h (.ref 275 :: ws) fs) : sx_fas xVP h (.ref 275 :: ws) ((0, j, lo, hi, 0) :: fs) := by
  intro f hf
  rcases List.mem_cons.mp hf with rfl | hf
  · exact ⟨275, rfl, h1, h2, Or.inl rfl⟩
  · exact k f hf
/-- how reading stands -/
def gSt (h : pm_H) : Prop := 1 ≤ (h.1 275 46).toInt ∨ ((h.1 275 46).toInt = 0 ∧ (h.1 275 50).toInt = 0) ∨ ((h.1 275 46).toInt = 0 ∧ 1 ≤ (h.1 275 50).toInt ∧ (h.1 275 49).toInt ≤ 800)
theorem gb (k : sx_fas xVP h (.ref 275 :: ws) fs) (h1 : (0, 46, .ofNat 1, .ofNat 6, 0) ∈ fs) : 1 ≤ (h.1 275 46).toInt := (f275 k h1 rfl).1
theorem g0 (k : sx_fas xVP h (.ref 275 :: ws) fs) (h1 : (0, 46, .ofNat 0, .ofNat 0, 0) ∈ fs) : (h.1 275 46).toInt = 0 := Int.le_antisymm (f275 k h1 rfl).2.1 (f275 k h1 rfl).1
theorem gs0 (k : sx_fas xVP h (.ref 275 :: ws) fs) (h1 : (0, 46, .ofNat 0, .ofNat 0, 0) ∈ fs) (h2 : (0, 50, .ofNat 0, .ofNat 0, 0) ∈ fs) : gSt h := Or.inr (Or.inl ⟨g0 k h1, Int.le_antisymm (f275 k h2 rfl).2.1 (f275 k h2 rfl).1⟩)
theorem gs1 {b lo : Nat} {hi : Int} (k : sx_fas xVP h (.ref 275 :: ws) fs) (h1 : (0, 46, .ofNat 0, .ofNat 0, 0) ∈ fs) (h2 : (0, 50, .ofNat b, hi, 0) ∈ fs) (hb : 1 ≤ b) (h3 : (0, 49, .ofNat lo, .ofNat 800, 0) ∈ fs) : gSt h := Or.inr (Or.inr ⟨g0 k h1, by have q : (b : Int) ≤ (h.1 275 50).toInt := (f275 k h2 rfl).1; omega, (f275 k h3 rfl).2.1⟩)
theorem wr6 (iv : sx_IV xT xtg xPH h) : 0 ≤ (h.1 275 46).toInt ∧ (h.1 275 46).toInt ≤ 6 := iv.1 275 46 (.ofNat 46, .ofNat 46, .ofNat 0, .ofNat 6) (by decide) (by decide) (by decide)
theorem th8 (iv : sx_IV xT xtg xPH h) : 0 ≤ (h.1 275 49).toInt ∧ (h.1 275 49).toInt ≤ 801 := iv.1 275 49 (.ofNat 49, .ofNat 49, .ofNat 0, .ofNat 801) (by decide) (by decide) (by decide)
theorem so5 (iv : sx_IV xT xtg xPH h) : 0 ≤ (h.1 275 50).toInt ∧ (h.1 275 50).toInt ≤ 5 := iv.1 275 50 (.ofNat 50, .ofNat 50, .ofNat 0, .ofNat 5) (by decide) (by decide) (by decide)
abbrev muW : sx_W := [(50, .ofNat 46, .ofNat 47)]
theorem z0 {x : Int32} (h1 : (.ofNat 0 : Int) ≤ x.toInt) (h2 : x.toInt ≤ (.ofNat 0 : Int)) : x = 0 := (i_eq _ _).mpr (Int.le_antisymm h2 h1)
/-- a plate that both names -/
theorem M_tpBoth (iv : sx_IV xT xtg xPH h) (gs : gSt h) {wd : Nat} (hwd : wd ≤ 289) (hw1 : 1 ≤ (h.1 275 46).toInt ∨ 1 ≤ wd) (kk : ∀ r h', sx_IV xT xtg xPH h' → sx_fr xtg xVP (rdW ++ muW) (false, false) h h' → ((1 ≤ (h'.1 275 46).toInt ∧ r = 0) ∨ ((h.1 275 46).toInt = 0 ∧ (h'.1 275 46).toInt = 0 ∧ gSt h' ∧ ∃ k w v : Nat, r = nI k ∧ (k : Int) < (h'.1 275 15).toInt ∧ nPl h'.1 k w v ∧ w * wd ≤ 289)) → Q [.int r] h') : pm_W (g_P ys) 301 0 [.ref 275, .int 1, .int (nI wd), .retAddr 0] [] h (0, 0) Q := by
  have twd := nI_toInt (n := wd) (by omega)
  have w6 := wr6 iv
  have s5 := so5 iv
  have t8 := th8 iv
  have v1 : sx_va xtg xVP h (.inl (0, .ofNat 1, .ofNat 1, 0)) (.int 1) := ⟨1, rfl, Int.le_refl _, Int.le_refl _, Or.inl rfl⟩
  have vM : sx_va xtg xVP h (.inl (2, .ofNat 0, .ofNat 0, 50)) (.ref 275) := ⟨275, rfl, rfl, by omega⟩
  rcases gs with b | ⟨b0, s0⟩ | ⟨b0, s1, t800⟩
  · refine sg_by (sg_tpb_t ys k_must1 k_must0) sg_tpb_b iv (lc := [.ref 275, .int 1, .int (nI wd), .retAddr 0]) (sc := []) (gc := []) ⟨vM, v1, ⟨_, rfl, by rw [twd]; show (0 : Int) ≤ _; omega, by rw [twd]; show _ ≤ (289 : Int); omega, Or.inl rfl⟩, trivial, trivial⟩ trivial trivial (fas_c b w6.2 fas_n) (fun v h' iv' fr' q => ?_) (fun st hst => by cases hst)
    obtain ⟨o, ho, po⟩ := q
    rcases List.mem_cons.mp ho with rfl | ho
    · obtain ⟨w0, l1, rfl, m0, ps1⟩ := mxs_c po.1
      cases mxs_n ps1
      obtain ⟨x, rfl, x1, x2, _⟩ := m0
      exact kk _ _ iv' fr' (Or.inl ⟨gb po.2.1 (by simp), z0 x1 x2⟩)
    · cases ho
  · have hw1 : 1 ≤ wd := hw1.resolve_left (by omega)
    refine sg_by (sg_tpz_t ys k_must1 k_must0) sg_tpz_b iv (lc := [.ref 275, .int 1, .int (nI wd), .retAddr 0]) (sc := []) (gc := []) ⟨vM, v1, ⟨_, rfl, by rw [twd]; show (1 : Int) ≤ _; omega, by rw [twd]; show _ ≤ (289 : Int); omega, Or.inl rfl⟩, trivial, trivial⟩ trivial trivial (fas_c (by rw [b0]; exact Int.le_refl _) (by rw [b0]; exact Int.le_refl _) (fas_c (by rw [s0]; exact Int.le_refl _) (by rw [s0]; exact Int.le_refl _) fas_n)) (fun v h' iv' fr' q => ?_) (fun st hst => by cases hst)
    obtain ⟨o, ho, po⟩ := q
    rcases List.mem_cons.mp ho with rfl | ho
    · obtain ⟨w0, l1, rfl, m0, ps1⟩ := mxs_c po.1
      cases mxs_n ps1
      obtain ⟨x, rfl, x1, x2, _⟩ := m0
      exact kk _ _ iv' fr' (Or.inl ⟨gb po.2.1 (by simp), z0 x1 x2⟩)
    · cases ho
  · have hw1 : 1 ≤ wd := hw1.resolve_left (by omega)
    refine sg_by (sg_tpg_t ys k_must1 k_must0 k_plateNamed) sg_tpg_b iv (lc := [.ref 275, .int 1, .int (nI wd), .retAddr 0]) (sc := []) (gc := []) ⟨vM, v1, ⟨_, rfl, by rw [twd]; show (1 : Int) ≤ _; omega, by rw [twd]; show _ ≤ (289 : Int); omega, Or.inl rfl⟩, trivial, trivial⟩ trivial trivial (fas_c (by rw [b0]; exact Int.le_refl _) (by rw [b0]; exact Int.le_refl _) (fas_c t8.1 t800 (fas_c s1 s5.2 fas_n))) (fun v h' iv' fr' q => ?_) (fun st hst lc' sc' h1 iv1 fr1 ps => ?_)
    · obtain ⟨o, ho, po⟩ := q
      rcases List.mem_cons.mp ho with rfl | ho
      · obtain ⟨w0, l1, rfl, m0, ps1⟩ := mxs_c po.1
        cases mxs_n ps1
        obtain ⟨x, rfl, x1, x2, _⟩ := m0
        exact kk _ _ iv' fr' (Or.inl ⟨gb po.2.1 (by simp), z0 x1 x2⟩)
      · cases ho
    · rcases List.mem_cons.mp hst with rfl | hst
      · obtain ⟨w0, l1, rfl, m0, ps1⟩ := mxs_c ps.1
        obtain ⟨w1, l2, rfl, m1, ps2⟩ := mxs_c ps1
        obtain ⟨w2, l3, rfl, m2, ps3⟩ := mxs_c ps2
        obtain ⟨w3, l4, rfl, m3, ps4⟩ := mxs_c ps3
        cases mxs_n ps4
        obtain ⟨w4, l5, rfl, m4, ps5⟩ := mxs_c ps.2.1
        cases mxs_n ps5
        cases mx_0 m0
        cases mx_0 m1
        cases mx_0 m2
        cases mx_0 m4
        obtain ⟨x, rfl, x1, x2, x4⟩ := m3
        have y4 : xVP h1 4 x.toInt := x4.resolve_left (by decide)
        obtain ⟨m, hz⟩ : ∃ m : Nat, x.toInt = (m : Int) := by
          obtain ⟨m, _, _, e, _⟩ := y4
          exact ⟨m, e⟩
        rw [hz] at y4
        cases i_nat hz
        have w01 := g0 ps.2.2.1 (by simp)
        have t81 := (f275 ps.2.2.1 (f := (0, 49, .ofNat 0, .ofNat 800, 0)) (by simp) rfl)
        have s11 := (f275 ps.2.2.1 (f := (0, 50, .ofNat 1, .ofNat 1, 0)) (by simp) rfl)
        obtain ⟨I1, L1, s1', rfl⟩ := x_form iv1
        obtain ⟨w, v, hlt, hp⟩ := v4_get y4
        have hp : nPl I1 m w v := hp
        obtain ⟨hm6, hw, hv, hw0, hv0, hwv⟩ := id hp
        have hb := nPl_b hp
        have fact : sx_fas xVP (I1, L1, g_R s1', 306) (.ref 275 :: [.int 1, .int (nI wd), .int (nI m)] ++ ([.int 1, .ref 275] ++ [])) [(0, 46, .ofNat 0, .ofNat 0, 0), (0, 49, .ofNat 0, .ofNat 800, 0), (0, 50, .ofNat 1, .ofNat 1, 0)] := fas_c (by rw [w01]; exact Int.le_refl _) (by rw [w01]; exact Int.le_refl _) (fas_c t81.1 t81.2.1 (fas_c s11.1 s11.2.1 fas_n))
        have fact0 : sx_fas xVP (I1, L1, g_R s1', 306) (.ref 275 :: [.int 1, .int (nI wd), .int (nI m)] ++ ([.int 0, .ref 275] ++ [])) [(0, 46, .ofNat 0, .ofNat 0, 0), (0, 49, .ofNat 0, .ofNat 800, 0), (0, 50, .ofNat 1, .ofNat 1, 0)] := fas_c (by rw [w01]; exact Int.le_refl _) (by rw [w01]; exact Int.le_refl _) (fas_c t81.1 t81.2.1 (fas_c s11.1 s11.2.1 fas_n))
        have va4 : sx_vas xtg xVP (I1, L1, g_R s1', 306) [.inl (2, .ofNat 0, .ofNat 0, 50), .inl (0, .ofNat 1, .ofNat 1, 0), .inl (0, .ofNat 1, .ofNat 289, 0), .inl (0, .ofNat 0, .ofNat 5, 4)] [.ref 275, .int 1, .int (nI wd), .int (nI m)] := ⟨⟨275, rfl, rfl, by omega⟩, ⟨1, rfl, Int.le_refl _, Int.le_refl _, Or.inl rfl⟩, ⟨_, rfl, by rw [twd]; show (1 : Int) ≤ _; omega, by rw [twd]; show _ ≤ (289 : Int); omega, Or.inl rfl⟩, ⟨_, rfl, x1, x2, x4⟩, trivial⟩
        have no : pm_W (g_P ys) 301 89 [.ref 275, .int 1, .int (nI wd), .int (nI m)] [.ref 275] (I1, L1, g_R s1', 306) (0, 0) Q := by
          refine pw_c rfl ?_
          refine sg_by (sg_tp0_t ys k_must0) sg_tp0_b iv1 (gc := []) va4 ⟨⟨0, rfl, Int.le_refl _, Int.le_refl _, Or.inl rfl⟩, ⟨275, rfl, rfl, by omega⟩, trivial⟩ trivial fact0 (fun v h2 iv2 fr2 q => ?_) (fun st hst => by cases hst)
          obtain ⟨o, ho, po⟩ := q
          rcases List.mem_cons.mp ho with rfl | ho
          · obtain ⟨w0, l1, rfl, m0, ps1⟩ := mxs_c po.1
            cases mxs_n ps1
            cases mx_0 m0
            exact kk _ _ iv2 (sx_fr_trans fr1 fr2) (Or.inl ⟨gb po.2.1 (by simp), rfl⟩)
          · cases ho
        refine ps_aload rfl rfl ?_
        refine ps_gfr 11 5 rfl rfl rfl rfl rfl (rfl) ?_
        refine pw_c rfl ?_
        refine ps_iload rfl rfl ?_
        refine ps_ar rfl rfl rfl rfl rfl ?_
        refine pw_c rfl ?_
        refine ps_ar rfl rfl rfl rfl rfl ?_
        refine ps_iald (7 * m + 1) rfl rfl rfl (by simp only [ni_lit, ni_l0, pk_mul, nI_add, Nat.add_zero]) (by omega) ?_
        rw [show ((I1, L1, g_R s1', 306) : pm_H).1 279 (7 * m + 1) = nI v from hv]
        refine pw_c rfl ?_
        refine ps_icmp rfl (fun hc => ?_) (fun hc => ?_)
        · exact no
        · refine ps_aload rfl rfl ?_
          refine ps_gfr 11 5 rfl rfl rfl rfl rfl (rfl) ?_
          refine pw_c rfl ?_
          refine ps_iload rfl rfl ?_
          refine ps_ar rfl rfl rfl rfl rfl ?_
          refine pw_c rfl ?_
          refine ps_ar rfl rfl rfl rfl rfl ?_
          refine ps_iald (7 * m) rfl rfl rfl (by simp only [ni_lit, ni_l0, pk_mul, nI_add, Nat.add_zero]) (by omega) ?_
          rw [show ((I1, L1, g_R s1', 306) : pm_H).1 279 (7 * m) = nI w from hw]
          refine ps_iload rfl rfl ?_
          refine ps_ar rfl rfl rfl rfl rfl ?_
          rw [show nI w * nI wd = nI (w * wd) from pk_mul w wd]
          have hww : w * wd ≤ 289 * 289 := Nat.mul_le_mul hb.1 hwd
          refine pw_c rfl ?_
          refine ps_icmp rfl (fun hd => ?_) (fun hd => ?_)
          · exact no
          · have hle : w * wd ≤ 289 := by
              have g : ¬ (289 : Int32) < nI (w * wd) := by simpa [pm_cmp] using hd
              rw [i_lt, nI_toInt (by omega)] at g
              have e : (289 : Int32).toInt = 289 := rfl
              omega
            refine pw_c rfl ?_
            refine ps_goto rfl ?_
            refine sg_by (sg_tp1_t ys k_must1 k_reads) sg_tp1_b iv1 (gc := []) va4 ⟨⟨1, rfl, Int.le_refl _, Int.le_refl _, Or.inl rfl⟩, ⟨275, rfl, rfl, by omega⟩, trivial⟩ trivial fact (fun vr h2 iv2 fr2 q => ?_) (fun st hst => by cases hst)
            have n2 : h2.1 275 15 = I1 275 15 := fr_p fr2 (by decide)
            have p2 : nPl h2.1 m w v := by
              unfold nPl at hp ⊢
              rw [fr_t fr2 (by decide), fr_t fr2 (by decide)]
              exact hp
            obtain ⟨o, ho, po⟩ := q
            have fin : ∀ u : List Value, sx_mxs xtg xVP h2 ([.ref 275, .int 1, .int (nI wd), .int (nI m)] ++ ([.int 1, .ref 275] ++ [])) [.inr (3, .ofNat 0)] u → (h2.1 275 46).toInt = 0 → gSt h2 → Q u h2 := by
              intro u hu q0 qs
              obtain ⟨w0, l1, rfl, m0, ps1⟩ := mxs_c hu
              cases mxs_n ps1
              cases mx_0 m0
              exact kk _ _ iv2 (sx_fr_trans fr1 fr2) (Or.inr ⟨b0, q0, qs, m, w, v, rfl, by rw [n2]; exact hlt, p2, hle⟩)
            rcases List.mem_cons.mp ho with rfl | ho
            · exact fin _ po.1 (g0 po.2.1 (by simp)) (gs0 po.2.1 (by simp) (by simp))
            rcases List.mem_cons.mp ho with rfl | ho
            · exact fin _ po.1 (g0 po.2.1 (by simp)) (gs1 po.2.1 (by simp) (b := 1) (hi := .ofNat 5) (by simp) (by omega) (lo := 1) (by simp))
            · cases ho
      · cases hst
end IK
