/-! BY HAND: how a text is read, eleventh: load -/
section IQ
variable {ys : List Int32} {I I' : Nat → Nat → Int32} {L : Nat → Nat → Int64} {s : Nat → Option Nat} {Q : List Value → pm_H → Prop}
/-- load's beginning: how far newNow is cleared -/
def ldP (I I' : Nat → Nat → Int32) (n c : Nat) : Prop :=
  (∀ a j, ¬ a = 275 → ¬ a = 289 → I' a j = I a j) ∧
  (∀ j, ¬ j = 52 → ¬ j = 49 → ¬ j = 46 → ¬ j = 15 → I' 275 j = I 275 j) ∧
  I' 275 52 = nI n ∧ I' 275 49 = 0 ∧ I' 275 46 = 0 ∧ I' 275 15 = 0 ∧
  (∀ j, I' 289 j = if j < c then 0 else I 289 j)
theorem ldP_s {n c : Nat} (h : ldP I I' n c) : ldP I (pm_u I' 289 c 0) n (c + 1) := by
  obtain ⟨h1, h2, h3, h4, h5, h6, h7⟩ := h
  refine ⟨fun a j q0 q1 => ?_, fun j q0 q1 q2 q3 => ?_, ?_, ?_, ?_, ?_, fun j => row_s (G := fun _ => 0) h7 rfl j⟩
  · rw [pu_o q1]; exact h1 a j q0 q1
  · rw [pu_o (by decide)]; exact h2 j q0 q1 q2 q3
  · rw [pu_o (by decide)]; exact h3
  · rw [pu_o (by decide)]; exact h4
  · rw [pu_o (by decide)]; exact h5
  · rw [pu_o (by decide)]; exact h6
theorem ldP_iv (iv : sx_IV xT xtg xPH (I, L, g_R s, 306)) {n : Nat} (hn : n ≤ 800) (k : ldP I I' n 89) : sx_IV xT xtg xPH (I', L, g_R s, 306) ∧ sx_fr xtg xVP ldW (true, false) (I, L, g_R s, 306) (I', L, g_R s, 306) := by
  obtain ⟨h1, h2, h3, h4, h5, h6, h7⟩ := k
  have tn := nI_toInt (n := n) (by omega)
  have base : sx_IB xT xtg I' := by
    intro c j q hq k1 k2
    by_cases c1 : c = 275
    · subst c1
      by_cases e : j = 52
      · subst e
        exact sx_wr_ok (g := sx_sb xT (xtg 275)) (lo := 52) (hi := 52) (b := (0, 800)) (by decide) (Int.le_refl _) (Int.le_refl _) (by rw [h3, tn]; omega) (by rw [h3, tn]; omega) q hq k1 k2
      by_cases e2 : j = 49
      · subst e2
        exact sx_wr_ok (g := sx_sb xT (xtg 275)) (lo := 49) (hi := 49) (b := (0, 801)) (by decide) (Int.le_refl _) (Int.le_refl _) (by rw [h4]; decide) (by rw [h4]; decide) q hq k1 k2
      by_cases e3 : j = 46
      · subst e3
        exact sx_wr_ok (g := sx_sb xT (xtg 275)) (lo := 46) (hi := 46) (b := (0, 6)) (by decide) (Int.le_refl _) (Int.le_refl _) (by rw [h5]; decide) (by rw [h5]; decide) q hq k1 k2
      by_cases e4 : j = 15
      · subst e4
        exact sx_wr_ok (g := sx_sb xT (xtg 275)) (lo := 15) (hi := 15) (b := (0, 6)) (by decide) (Int.le_refl _) (Int.le_refl _) (by rw [h6]; decide) (by rw [h6]; decide) q hq k1 k2
      rw [h2 j e e2 e3 e4]
      exact iv.1 275 j q hq k1 k2
    by_cases c2 : c = 289
    · subst c2
      rw [h7 j]
      split
      · have g : ∀ q, q ∈ sx_sb xT (xtg 289) → q.2.2.1 ≤ (0 : Int) ∧ (0 : Int) ≤ q.2.2.2 := by decide
        exact g q hq
      · exact iv.1 _ j q hq k1 k2
    rw [h1 c j c1 c2]
    exact iv.1 c j q hq k1 k2
  have n4 : I' 289 4 = 0 := by rw [h7 4, if_pos (by omega)]
  obtain ⟨k1, k2, k3, k4, k5⟩ := iv.2.2.2.2.2
  refine ⟨iv_new iv base ⟨fun a ha => ?_, fun j hj hk => ?_, fun m hm => ?_, fun hm => ?_, fun hw2 => ⟨fun m hm => ?_, Or.inl (by rw [n4]; rfl)⟩⟩, fun c j hn => ?_, fun q => (by cases q), fun _ => rfl⟩
  · have nt : ∀ b, ¬ xtg b = 36 → ¬ a = b := fun b hb e => hb (by rw [← e]; exact ha)
    rw [h1 a _ (nt _ (by decide)) (nt _ (by decide)), h1 a _ (nt _ (by decide)) (nt _ (by decide)), h1 a _ (nt _ (by decide)) (nt _ (by decide))]
    exact k1 a ha
  · rw [h1 7 _ (by decide) (by decide)] at hk
    rw [h1 8 _ (by decide) (by decide), h1 10 _ (by decide) (by decide)]
    exact k2 j hj hk
  · rw [h2 _ (by decide) (by decide) (by decide) (by decide)] at hm
    obtain ⟨⟨w, v, q⟩, q2⟩ := k3 m hm
    refine ⟨⟨w, v, ?_⟩, ?_⟩
    · unfold mPl
      rw [h1 278 _ (by decide) (by decide), h1 278 _ (by decide) (by decide)]
      exact q
    · unfold mFm
      rw [h1 278 _ (by decide) (by decide), h1 278 _ (by decide) (by decide), h1 278 _ (by decide) (by decide)]
      exact q2
  · rw [h2 _ (by decide) (by decide) (by decide) (by decide)] at hm
    obtain ⟨q1, q2⟩ := k4 hm
    rw [h2 14 (by decide) (by decide) (by decide) (by decide), h1 288 _ (by decide) (by decide), h2 19 (by decide) (by decide) (by decide) (by decide)]
    refine ⟨q1, fun j hj hj2 => ?_⟩
    rw [h1 290 _ (by decide) (by decide)]
    exact q2 j hj hj2
  · rw [h6] at hm
    have e0 : (0 : Int32).toInt = 0 := rfl
    omega
  · show I' c j = I c j
    have nW : ∀ {t lo hi : Nat}, (t, .ofNat lo, .ofNat hi) ∈ ldW → xtg c = t → lo ≤ j → j ≤ hi → False := fun hm e q1 q2 => hn ⟨_, hm, e.symm, by show ((_ : Nat) : Int) ≤ _; omega, by show _ ≤ ((_ : Nat) : Int); omega⟩
    by_cases c1 : c = 275
    · subst c1
      by_cases e : j = 52
      · exact (nW (t := 50) (lo := 52) (hi := 52) (by simp [ldW]) rfl (by omega) (by omega)).elim
      by_cases e2 : j = 49
      · exact (nW (t := 50) (lo := 49) (hi := 49) (by simp [ldW, rdW]) rfl (by omega) (by omega)).elim
      by_cases e3 : j = 46
      · exact (nW (t := 50) (lo := 46) (hi := 47) (by simp [ldW, muW]) rfl (by omega) (by omega)).elim
      by_cases e4 : j = 15
      · exact (nW (t := 50) (lo := 15) (hi := 15) (by simp [ldW]) rfl (by omega) (by omega)).elim
      exact h2 j e e2 e3 e4
    by_cases c2 : c = 289
    · subst c2
      by_cases e : j < 89
      · exact (nW (t := 64) (lo := 0) (hi := 88) (by simp [ldW]) rfl (by omega) (by omega)).elim
      · rw [h7 j, if_neg e]
    exact h1 c j c1 c2
theorem M_loadG (iv : sx_IV xT xtg xPH (I, L, g_R s, 306)) (x : Int32) (hv : 0 ≤ x.toInt ∧ x.toInt ≤ (I 275 43).toInt) (fin : ∀ (r : Int32) h', sx_IV xT xtg xPH h' → sx_fr xtg xVP ldW (true, false) (I, L, g_R s, 306) h' → (h'.1 275 43).toInt = 0 → Q [.int r] h') : pm_W (g_P ys) 278 0 [.ref 275, .int x, .retAddr 0] [] (I, L, g_R s, 306) (0, 0) Q := by
  -- its end
  have ex : ∀ h1, sx_IV xT xtg xPH h1 → sx_fr xtg xVP ldW (true, false) (I, L, g_R s, 306) h1 → ∀ u, pm_W (g_P ys) 278 94 [.ref 275, .int x, u] [] h1 (0, 0) Q := by
    intro h1 iv1 fr1 u
    refine sg_by (sg_load1_t ys) sg_load1_b iv1 (lc := [.ref 275, .int x, u]) (sc := []) (gc := []) ⟨⟨275, rfl, rfl, by omega⟩, ⟨x, rfl, Int32.le_toInt x, Int.le_of_lt_add_one (Int32.toInt_lt x), Or.inl rfl⟩, trivial, trivial⟩ trivial trivial fas_n (fun v h' iv' fr' q => ?_) (fun st hst lc' sc' h' iv' fr' ps => ?_)
    · obtain ⟨o, ho, po⟩ := q
      rcases List.mem_cons.mp ho with rfl | ho
      · obtain ⟨w, l1, rfl, ⟨r, rfl, _⟩, ps1⟩ := mxs_c po.1
        cases mxs_n ps1
        obtain ⟨t1, t2, _⟩ := f275 po.2.1 (f := (0, 43, .ofNat 0, .ofNat 0, 0)) (by simp) rfl
        exact fin _ _ iv' (sx_fr_trans fr1 (fr_D fr')) (Int.le_antisymm t2 t1)
      · cases ho
    · rcases List.mem_cons.mp hst with rfl | hst
      · obtain ⟨p1, p2, p3, _⟩ := ps
        obtain ⟨w0, l1, rfl, m0, ps1⟩ := mxs_c p1
        obtain ⟨w1, l2, rfl, m1, ps2⟩ := mxs_c ps1
        obtain ⟨w2, l3, rfl, m2, ps3⟩ := mxs_c ps2
        cases mxs_n ps3
        cases mxs_n p2
        cases mx_0 m0
        cases mx_0 m1
        obtain ⟨J, L', s', rfl⟩ := x_form iv'
        have w0 := g0 p3 (by simp)
        refine M_lays (fun I2 L2 k r => ?_) x w2
        obtain ⟨g1, g2⟩ := lays_iv (L' := L2) iv' w0 k
        obtain ⟨t1, t2, _⟩ := f275 p3 (f := (0, 43, .ofNat 0, .ofNat 0, 0)) (by simp) rfl
        have t0 : (J 275 43).toInt = 0 := Int.le_antisymm t2 t1
        refine fin _ _ g1 (sx_fr_trans fr1 (sx_fr_trans (fr_D fr') g2)) ?_
        show (pm_u (pm_u I2 275 19 0) 275 41 0 275 43).toInt = 0
        rw [pu_n (by decide), pu_n (by decide), k.2.1 _ (by decide)]
        exact t0
      · cases hst
  have bad : ∀ h1, sx_IV xT xtg xPH h1 → sx_fr xtg xVP ldW (true, false) (I, L, g_R s, 306) h1 → 1 ≤ (h1.1 275 46).toInt → ∀ u, pm_W (g_P ys) 278 73 [.ref 275, .int x, u] [] h1 (0, 0) Q := by
    intro h1 iv1 fr1 b u
    obtain ⟨I1, L1, s1, rfl⟩ := x_form iv1
    have b : 1 ≤ (I1 275 46).toInt := b
    have bn : ¬ I1 275 46 = 0 := fun q => by rw [q] at b; exact absurd b (by decide)
    refine ps_aload rfl rfl ?_
    refine pw_k rfl rfl rfl rfl ⟨Nat.zero_le _, Nat.zero_le _⟩ ?_
    refine M_good ?_
    rw [decide_eq_false bn]
    refine ps_ift rfl (by decide) ?_
    exact ex _ iv1 fr1 u
  have loop : ∀ (d : Nat) h1, sx_IV xT xtg xPH h1 → sx_fr xtg xVP ldW (true, false) (I, L, g_R s, 306) h1 → gSt h1 → 801 - (h1.1 275 49).toInt ≤ (d : Int) → ∀ u, pm_W (g_P ys) 278 73 [.ref 275, .int x, u] [] h1 (0, 0) Q := by
    intro d
    induction d with
    | zero =>
      intro h1 iv1 fr1 gs hd u
      rcases gs with b | ⟨w0, s0⟩ | ⟨w0, s1, t8⟩
      · exact bad h1 iv1 fr1 b u
      · obtain ⟨I1, L1, s1, rfl⟩ := x_form iv1
        have w0 : (I1 275 46).toInt = 0 := w0
        have s0 : (I1 275 50).toInt = 0 := s0
        have bn : I1 275 46 = 0 := (i_eq _ _).mpr w0
        have sn : I1 275 50 = 0 := (i_eq _ _).mpr s0
        refine ps_aload rfl rfl ?_
        refine pw_k rfl rfl rfl rfl ⟨Nat.zero_le _, Nat.zero_le _⟩ ?_
        refine M_good ?_
        rw [decide_eq_true bn]
        refine ps_iff rfl (by decide) ?_
        refine ps_aload rfl rfl ?_
        refine ps_gfi 11 50 rfl rfl rfl rfl rfl ?_
        rw [show ((I1, L1, g_R s1, 306) : pm_H).1 275 50 = 0 from sn]
        refine ps_ift rfl (by decide) ?_
        exact ex _ iv1 fr1 u
      · omega
    | succ d ih =>
      intro h1 iv1 fr1 gs hd u
      rcases gs with b | ⟨w0, s0⟩ | ⟨w0, s1, t8⟩
      · exact bad h1 iv1 fr1 b u
      · obtain ⟨I1, L1, s1, rfl⟩ := x_form iv1
        have w0 : (I1 275 46).toInt = 0 := w0
        have s0 : (I1 275 50).toInt = 0 := s0
        have bn : I1 275 46 = 0 := (i_eq _ _).mpr w0
        have sn : I1 275 50 = 0 := (i_eq _ _).mpr s0
        refine ps_aload rfl rfl ?_
        refine pw_k rfl rfl rfl rfl ⟨Nat.zero_le _, Nat.zero_le _⟩ ?_
        refine M_good ?_
        rw [decide_eq_true bn]
        refine ps_iff rfl (by decide) ?_
        refine ps_aload rfl rfl ?_
        refine ps_gfi 11 50 rfl rfl rfl rfl rfl ?_
        rw [show ((I1, L1, g_R s1, 306) : pm_H).1 275 50 = 0 from sn]
        refine ps_ift rfl (by decide) ?_
        exact ex _ iv1 fr1 u
      · have hd1 := hd
        obtain ⟨I1, L1, s1', rfl⟩ := x_form iv1
        have w0 : (I1 275 46).toInt = 0 := w0
        have s1 : 1 ≤ (I1 275 50).toInt := s1
        have t8 : (I1 275 49).toInt ≤ 800 := t8
        have hd2 : 801 - (I1 275 49).toInt ≤ ((d + 1 : Nat) : Int) := hd1
        have bn : I1 275 46 = 0 := (i_eq _ _).mpr w0
        have sn : ¬ I1 275 50 = 0 := fun q => by rw [q] at s1; exact absurd s1 (by decide)
        refine ps_aload rfl rfl ?_
        refine pw_k rfl rfl rfl rfl ⟨Nat.zero_le _, Nat.zero_le _⟩ ?_
        refine M_good ?_
        rw [decide_eq_true bn]
        refine ps_iff rfl (by decide) ?_
        refine ps_aload rfl rfl ?_
        refine ps_gfi 11 50 rfl rfl rfl rfl rfl ?_
        refine ps_iff rfl (decide_eq_false sn) ?_
        refine ps_aload rfl rfl ?_
        refine pw_k rfl rfl rfl rfl ⟨Nat.zero_le _, Nat.zero_le _⟩ ?_
        refine M_line iv1 w0 s1 t8 ?_
        intro h2 iv2 fr2 gs2 gr
        have fr3 := sx_fr_trans fr1 (fr_D (fr_wk (W2 := ldW) (by decide) fr2))
        by_cases w2 : (h2.1 275 46).toInt = 0
        · have gr2 : (I1 275 49).toInt < (h2.1 275 49).toInt := gr w2
          obtain ⟨I2, L2, s2, rfl⟩ := x_form iv2
          refine ps_goto rfl ?_
          exact ih _ iv2 fr3 gs2 (by have gr2 : (I1 275 49).toInt < (I2 275 49).toInt := gr2; show 801 - (I2 275 49).toInt ≤ _; omega) u
        · have b2 : 1 ≤ (h2.1 275 46).toInt := by
            have := (wr6 iv2).1
            omega
          obtain ⟨I2, L2, s2, rfl⟩ := x_form iv2
          refine ps_goto rfl ?_
          exact bad _ iv2 fr3 b2 u
  obtain ⟨tp, ht8, ht⟩ := g_bd iv (a := 275) (k := 43) (b := 800) (q := (.ofNat 43, .ofNat 43, .ofNat 0, .ofNat 800)) (by decide) (by decide) (by decide) rfl rfl
  have ht : I 275 43 = nI tp := ht
  refine ps_aload rfl rfl ?_
  refine ps_iload rfl rfl ?_
  refine ps_ar rfl rfl rfl rfl rfl ?_
  refine pw_c rfl ?_
  refine ps_aload rfl rfl ?_
  refine ps_gfi 11 43 rfl rfl rfl rfl rfl ?_
  refine ps_ar rfl rfl rfl rfl rfl ?_
  refine pw_k rfl rfl rfl rfl ⟨Nat.zero_le _, Nat.zero_le _⟩ ?_
  refine M_isIn ?_
  rw [show ((I, L, g_R s, 306) : pm_H).1 275 43 = nI tp from ht]
  cases d : (decide ((0 : Int64) ≤ x.toInt64) && decide (x.toInt64 ≤ (nI tp).toInt64)) with
  | false =>
    have d2 : (decide ((0 : Int64) ≤ x.toInt64) && decide (x.toInt64 ≤ (nI tp).toInt64)) = true := by
      rw [Bool.and_eq_true, decide_eq_true_iff, decide_eq_true_iff]
      rw [ht] at hv
      exact ⟨Int64.le_iff_toInt_le.mpr (by rw [Int32.toInt_toInt64]; exact hv.1), Int64.le_iff_toInt_le.mpr (by rw [Int32.toInt_toInt64, Int32.toInt_toInt64]; exact hv.2)⟩
    rw [d] at d2
    cases d2
  | true =>
    rw [Bool.and_eq_true, decide_eq_true_iff, decide_eq_true_iff] at d
    have d1 := Int64.le_iff_toInt_le.mp d.1
    have d2 := Int64.le_iff_toInt_le.mp d.2
    rw [Int32.toInt_toInt64, Int32.toInt_toInt64, nI_toInt (by omega)] at d2
    rw [Int32.toInt_toInt64] at d1
    have d1' : (0 : Int) ≤ x.toInt := d1
    obtain ⟨n, hn⟩ : ∃ n : Nat, x.toInt = (n : Int) := ⟨x.toInt.toNat, by omega⟩
    cases i_nat hn
    have hn8 : n ≤ 800 := by omega
    obtain ⟨g1, g2⟩ := is_iv (a := 0) iv (by decide) (by decide)
    have cl : ∀ d i, i + d = 89 → ∀ I', ldP (isI I 0) I' n i → pm_W (g_P ys) 278 50 [.ref 275, .int (nI n), .int (nI i)] [] (I', L, g_R s, 306) (0, 0) Q := by
      intro d
      induction d with
      | zero =>
        intro i hi I' k
        have hi : i = 89 := by omega
        subst hi
        obtain ⟨iv1, fr1⟩ := ldP_iv g1 hn8 k
        obtain ⟨_, _, k3, k4, k5, _, _⟩ := k
        have nb := iv1.1 275 51 (.ofNat 51, .ofNat 51, .ofNat 0, .ofNat 9999) (by decide) (by decide) (by decide)
        have bb := iv1.1 275 53 (.ofNat 53, .ofNat 53, .ofNat 0, .ofNat 800) (by decide) (by decide) (by decide)
        have k40 : I' 275 49 = nI 0 := k4
        refine ps_iload rfl rfl ?_
        refine pw_c rfl ?_
        refine ps_icmpt rfl (by decide) ?_
        refine ps_aload rfl rfl ?_
        refine pw_k rfl rfl rfl rfl ⟨Nat.zero_le _, Nat.zero_le _⟩ ?_
        refine M_reads k40 (by omega) k3 hn8 nb bb ?_
        intro I5 L5 dE5 lq5 _
        obtain ⟨g5, f5⟩ := dE_iv (L' := L5) iv1 k40 (by omega) dE5 lq5
        obtain ⟨p5, i5, ⟨ag5, hp5, hi5, _⟩, hp8, hti, hso⟩ := dE5
        have w5 : (I5 275 46).toInt = 0 := by rw [ag5 _ _ (by decide), k5]; rfl
        have i8 : i5 ≤ 801 := by rcases hso with ⟨_, q⟩ | ⟨_, _, _, _, q, _⟩ <;> omega
        have ti : (I5 275 49).toInt = (i5 : Int) := by rw [hi5, nI_toInt (by omega)]
        refine loop 801 _ g5 (sx_fr_trans (fr_D (fr_wk (by decide) g2)) (sx_fr_trans fr1 (fr_D (fr_wk (by decide) f5)))) ?_ (by show 801 - (I5 275 49).toInt ≤ _; omega) _
        rcases hso with ⟨q, _⟩ | ⟨so, z1, z2, q, q2, _⟩
        · exact Or.inr (Or.inl ⟨w5, by show (I5 275 50).toInt = 0; rw [q]; rfl⟩)
        · exact Or.inr (Or.inr ⟨w5, by show 1 ≤ (I5 275 50).toInt; rw [q, nI_toInt (by omega)]; omega, by show (I5 275 49).toInt ≤ 800; omega⟩)
      | succ d ih =>
        intro i hi I' k
        refine ps_iload rfl rfl ?_
        refine pw_c rfl ?_
        refine ps_icmpf rfl (decide_eq_false (nI_ge (b := 89) (by omega) (by omega))) ?_
        refine ps_aload rfl rfl ?_
        refine ps_gfr 11 17 rfl rfl rfl rfl rfl (rfl) ?_
        refine ps_iload rfl rfl ?_
        refine pw_c rfl ?_
        refine ps_iast (i) rfl rfl rfl (rfl) (by omega) ?_
        refine ps_iinc rfl rfl ?_
        refine ps_goto rfl ?_
        rw [show nI i + Int32.ofInt 1 = nI (i + 1) from nI_1 i]
        exact ih (i + 1) (by omega) _ (ldP_s k)
    refine ps_iff rfl (by decide) ?_
    refine pw_c rfl ?_
    refine ps_goto rfl ?_
    refine pw_k rfl rfl rfl rfl ⟨Nat.zero_le _, Nat.zero_le _⟩ ?_
    refine M_is ?_
    refine ps_ift rfl (by decide) ?_
    refine ps_aload rfl rfl ?_
    refine ps_iload rfl rfl ?_
    refine ps_pfi 11 52 rfl rfl rfl rfl rfl ?_
    refine ps_aload rfl rfl ?_
    refine pw_c rfl ?_
    refine ps_pfi 11 49 rfl rfl rfl rfl rfl ?_
    refine ps_aload rfl rfl ?_
    refine pw_c rfl ?_
    refine ps_pfi 11 46 rfl rfl rfl rfl rfl ?_
    refine ps_aload rfl rfl ?_
    refine pw_c rfl ?_
    refine ps_pfi 11 15 rfl rfl rfl rfl rfl ?_
    refine pw_c rfl ?_
    refine ps_istore rfl rfl ?_
    show pm_W (g_P ys) 278 50 [.ref 275, .int (nI n), .int (nI 0)] [] (pm_u (pm_u (pm_u (pm_u (isI I 0) 275 52 (nI n)) 275 49 0) 275 46 0) 275 15 0, L, g_R s, 306) (0, 0) Q
    refine cl 89 0 (by omega) _ ⟨fun a j q0 q1 => ?_, fun j q0 q1 q2 q3 => ?_, ?_, ?_, ?_, ?_, fun j => ?_⟩
    · rw [pu_o q0, pu_o q0, pu_o q0, pu_o q0]
    · rw [pu_n q3, pu_n q2, pu_n q1, pu_n q0]
    · rw [pu_n (by decide), pu_n (by decide), pu_n (by decide), pu_s]
    · rw [pu_n (by decide), pu_n (by decide), pu_s]
    · rw [pu_n (by decide), pu_s]
    · rw [pu_s]
    · rw [if_neg (by omega), pu_o (by decide), pu_o (by decide), pu_o (by decide), pu_o (by decide)]
theorem M_loadN {x : Int32} (hv : ¬ (0 ≤ x.toInt ∧ x.toInt ≤ (I 275 43).toInt)) (kk : Q [.int (-1)] (isI I 1, L, g_R s, 306)) : pm_W (g_P ys) 278 0 [.ref 275, .int x, .retAddr 0] [] (I, L, g_R s, 306) (0, 0) Q := by
  refine ps_aload rfl rfl ?_
  refine ps_iload rfl rfl ?_
  refine ps_ar rfl rfl rfl rfl rfl ?_
  refine pw_c rfl ?_
  refine ps_aload rfl rfl ?_
  refine ps_gfi 11 43 rfl rfl rfl rfl rfl ?_
  refine ps_ar rfl rfl rfl rfl rfl ?_
  refine pw_k rfl rfl rfl rfl ⟨Nat.zero_le _, Nat.zero_le _⟩ ?_
  refine M_isIn ?_
  have d : (decide ((0 : Int64) ≤ x.toInt64) && decide (x.toInt64 ≤ (I 275 43).toInt64)) = false := by
    cases d : (decide ((0 : Int64) ≤ x.toInt64) && decide (x.toInt64 ≤ (I 275 43).toInt64)) with
    | false => rfl
    | true =>
      rw [Bool.and_eq_true, decide_eq_true_iff, decide_eq_true_iff] at d
      have d1 := Int64.le_iff_toInt_le.mp d.1
      have d2 := Int64.le_iff_toInt_le.mp d.2
      rw [Int32.toInt_toInt64, Int32.toInt_toInt64] at d2
      rw [Int32.toInt_toInt64] at d1
      exact absurd ⟨d1, d2⟩ hv
  rw [show ((I, L, g_R s, 306) : pm_H).1 275 43 = I 275 43 from rfl, d]
  refine ps_ift rfl (by decide) ?_
  refine pw_c rfl ?_
  refine pw_k rfl rfl rfl rfl ⟨Nat.zero_le _, Nat.zero_le _⟩ ?_
  refine M_is ?_
  refine ps_iff rfl (by decide) ?_
  refine pw_c rfl ?_
  refine ps_iret rfl rfl ?_
  exact kk
theorem k_load : xk ys kh_278_0 := by
  intro h vs Q iv va fa kk
  obtain ⟨I, L, s, rfl⟩ := x_form iv
  obtain ⟨_, c1, rfl, ⟨a, rfl, ha, _⟩, va1⟩ := vas_c va
  obtain ⟨_, c2, rfl, ⟨x, rfl, _⟩, va2⟩ := vas_c va1
  cases vas_n va2
  cases ref_M ha
  have fin : ∀ (r : Int32) h', sx_IV xT xtg xPH h' → sx_fr xtg xVP ldW (true, false) (I, L, g_R s, 306) h' → Q [.int r] h' := fun r h' iv' fr' => kk _ _ iv' fr' ⟨_, List.mem_cons_self, po_f⟩
  by_cases hv : 0 ≤ x.toInt ∧ x.toInt ≤ (I 275 43).toInt
  · exact M_loadG iv x hv (fun r h' iv' fr' _ => fin r h' iv' fr')
  · obtain ⟨g1, g2⟩ := is_iv (a := 1) iv (by decide) (by decide)
    exact M_loadN hv (fin _ _ g1 (fr_D (fr_wk (by decide) g2)))
end IQ
