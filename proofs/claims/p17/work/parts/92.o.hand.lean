/-! BY HAND: print, undo, use -/
section ID
variable {ys : List Int32} {I : Nat → Nat → Int32} {L : Nat → Nat → Int64} {s : Nat → Option Nat} {Q : List Value → pm_H → Prop}
/-- the two words of every call -/
abbrev isI (I : Nat → Nat → Int32) (a : Int32) : Nat → Nat → Int32 := pm_u (pm_u I 275 1 0) 275 0 a
theorem is_iv (iv : sx_IV xT xtg xPH (I, L, g_R s, 306)) {a : Int32} (h1 : 0 ≤ a.toInt) (h2 : a.toInt ≤ 9) : sx_IV xT xtg xPH (isI I a, L, g_R s, 306) ∧ sx_fr xtg xVP [(50, .ofNat 0, .ofNat 1)] (false, false) (I, L, g_R s, 306) (isI I a, L, g_R s, 306) := by
  have g := sx_mw_ok (xC []) iv (W := [(50, .ofNat 0, .ofNat 1)]) (D := (false, false)) (a := 275) (t := 50) (k := 1) (lo := 1) (hi := 1) (b := (0, 0)) (by decide) (by decide) (by decide) (by decide) (x := 0) (by decide) (by decide)
  have g2 := sx_mw_ok (xC []) g.1 (W := [(50, .ofNat 0, .ofNat 1)]) (D := (false, false)) (a := 275) (t := 50) (k := 0) (lo := 0) (hi := 0) (b := (0, 9)) (by decide) (by decide) (by decide) (by decide) (x := a) h1 h2
  exact ⟨g2.1, sx_fr_trans g.2.1 g2.2.1⟩
theorem nat_bd {x : Int32} {b : Nat} (h1 : 0 ≤ x.toInt) (h2 : x.toInt ≤ b) : ∃ n : Nat, n ≤ b ∧ x = nI n := ⟨x.toInt.toNat, by omega, i_nat (by omega)⟩
theorem g_bd {h : pm_H} (iv : sx_IV xT xtg xPH h) {a k b : Nat} {q : Int × Int × Int × Int} (hq : q ∈ xsb (xtg a)) (h1 : q.1 ≤ (k : Int)) (h2 : (k : Int) ≤ q.2.1) (h3 : q.2.2.1 = 0) (h4 : q.2.2.2 = (b : Int)) : ∃ n : Nat, n ≤ b ∧ h.1 a k = nI n := by
  have := iv.1 a k q hq h1 h2
  exact nat_bd (by omega) (by omega)
theorem k_print : xk ys (307, [.inl (2, .ofNat 0, .ofNat 0, 50)], [], [(50, .ofNat 0, .ofNat 1), (50, .ofNat 57, .ofNat 57), (80, .ofNat 0, .ofNat 1999)], (false, false), [([.inl (0, .negSucc 2147483647, .ofNat 2147483647, 0)], [], [], [])]) := by
  intro h vs Q iv va fa kk
  obtain ⟨I, L, s, rfl⟩ := x_form iv
  obtain ⟨_, c1, rfl, ⟨a, rfl, ha, _⟩, va1⟩ := vas_c va
  cases vas_n va1
  cases ref_M ha
  obtain ⟨g1, g2⟩ := is_iv iv (a := 0) (by decide) (by decide)
  have g3 := sx_mw_ok (xC []) g1 (W := [(50, .ofNat 57, .ofNat 57)]) (D := (false, false)) (a := 275) (t := 50) (k := 57) (lo := 57) (hi := 57) (b := (0, 2000)) (by decide) (by decide) (by decide) (by decide) (x := 0) (by decide) (by decide)
  have e0 : pm_sI (isI I 0, L, g_R s, 306) 275 57 0 = (pm_u (isI I 0) 275 57 0, L, g_R s, 306) := rfl
  rw [e0] at g3
  have k0 : oS (pm_u (isI I 0) 275 57 0, L, g_R s, 306) (pm_u (isI I 0) 275 57 0, L, g_R s, 306) 0 := ⟨g3.1, sx_fr_refl _ _ _ _ _, 0, Nat.le_refl _, by show pm_u (isI I 0) 275 57 0 275 57 = _; rw [pu_s]; rfl⟩
  have fin : ∀ h c, oS (pm_u (isI I 0) 275 57 0, L, g_R s, 306) h c → ∀ r, Q [.int r] h := fun h c k r => kk _ _ k.1 (sx_fr_trans (fr_wk (by decide) g2) (sx_fr_trans (fr_wk (by decide) g3.2.1) (fr_wk (by decide) k.2.1))) ⟨_, List.mem_cons_self, po_f⟩
  have hI2 : pm_u (isI I 0) 275 57 0 = pm_u (isI I 0) 275 57 0 := rfl
  generalize hgen : pm_u (isI I 0) 275 57 0 = I2 at k0 fin g3 hI2
  have iv2 := g3.1
  have rd : ∀ {h c a j}, oS (I2, L, g_R s, 306) h c → ¬ xtg a = 80 → ¬ (xtg a = 50 ∧ j = 57) → h.1 a j = I2 a j := fun k h1 h2 => oS_o k h1 h2
  obtain ⟨P, hP6, hP⟩ := g_bd iv2 (a := 275) (k := 14) (b := 6) (q := (.ofNat 14, .ofNat 14, .ofNat 0, .ofNat 6)) (by decide) (by decide) (by decide) rfl rfl
  have hP : I2 275 14 = nI P := hP
  have pb : ∀ j, j < 42 → ∃ n : Nat, n ≤ 289 ∧ I2 278 j = nI n := fun j hj => g_bd iv2 (a := 278) (k := j) (b := 289) (q := (.ofNat 0, .ofNat 41, .ofNat 0, .ofNat 289)) (by decide) (by show (0 : Int) ≤ _; omega) (by show _ ≤ (41 : Int); omega) rfl rfl
  have plb : ∀ j, j < 282 → ∃ n : Nat, n ≤ 46 ∧ I2 276 j = nI n := fun j hj => g_bd iv2 (a := 276) (k := j) (b := 46) (q := (.ofNat 0, .ofNat 281, .ofNat 0, .ofNat 46)) (by decide) (by show (0 : Int) ≤ _; omega) (by show _ ≤ (281 : Int); omega) rfl rfl
  have nb : ∀ j, j < 89 → ∃ n : Nat, n ≤ 999 ∧ I2 288 j = nI n := fun j hj => g_bd iv2 (a := 288) (k := j) (b := 999) (q := (.ofNat 0, .ofNat 88, .ofNat 0, .ofNat 999)) (by decide) (by show (0 : Int) ≤ _; omega) (by show _ ≤ (88 : Int); omega) rfl rfl
  obtain ⟨q0, hq08, hq0⟩ := g_bd iv2 (a := 288) (k := 0) (b := 8) (q := (.ofNat 0, .ofNat 0, .ofNat 0, .ofNat 8)) (by decide) (by decide) (by decide) rfl rfl
  obtain ⟨q1, hq18, hq1⟩ := g_bd iv2 (a := 288) (k := 1) (b := 12) (q := (.ofNat 1, .ofNat 1, .ofNat 0, .ofNat 12)) (by decide) (by decide) (by decide) rfl rfl
  obtain ⟨q2, hq28, hq2⟩ := g_bd iv2 (a := 288) (k := 2) (b := 8) (q := (.ofNat 2, .ofNat 2, .ofNat 0, .ofNat 8)) (by decide) (by decide) (by decide) rfl rfl
  obtain ⟨q3, hq38, hq3⟩ := g_bd iv2 (a := 288) (k := 3) (b := 99) (q := (.ofNat 3, .ofNat 3, .ofNat 0, .ofNat 99)) (by decide) (by decide) (by decide) rfl rfl
  obtain ⟨q4, hq48, hq4⟩ := g_bd iv2 (a := 288) (k := 4) (b := 5) (q := (.ofNat 4, .ofNat 4, .ofNat 0, .ofNat 5)) (by decide) (by decide) (by decide) rfl rfl
  have st6 : ∀ h c, oS (I2, L, g_R s, 306) h c → pm_W (g_P ys) 307 123 [.ref 275, .int 3] [] h (0, 0) Q := by
    intro h c k
    obtain ⟨I', L', s', rfl⟩ := x_form k.1
    refine ps_aload rfl rfl ?_
    refine ps_gfi 11 57 rfl rfl rfl rfl rfl ?_
    refine ps_iret rfl rfl ?_
    exact fin _ _ k _
  have st5 : ∀ h, oS (I2, L, g_R s, 306) h 1882 → pm_W (g_P ys) 307 54 [.ref 275, .int 3] [] h (0, 0) Q := by
    intro h k
    obtain ⟨I', L', s', rfl⟩ := x_form k.1
    refine ps_aload rfl rfl ?_
    refine ps_aload rfl rfl ?_
    refine ps_gfr 11 55 rfl rfl rfl rfl rfl (rfl) ?_
    refine pw_c rfl ?_
    refine ps_lald (10) rfl rfl rfl (rfl) (by omega) ?_
    refine pw_c rfl ?_
    refine pw_k rfl rfl rfl rfl ⟨Nat.zero_le _, Nat.zero_le _⟩ ?_
    refine M_saysWord k (by omega) _ _ ?_
    intro h1 k1
    obtain ⟨I1, L1, s1, rfl⟩ := x_form k1.1
    refine ps_aload rfl rfl ?_
    refine ps_aload rfl rfl ?_
    refine ps_gfr 11 16 rfl rfl rfl rfl rfl (rfl) ?_
    refine pw_c rfl ?_
    refine ps_iald (3) rfl rfl rfl (rfl) (by omega) ?_
    rw [show ((I1, L1, g_R s1, 306) : pm_H).1 288 3 = nI q3 from (rd k1 (by decide) (by decide)).trans hq3]
    refine pw_k rfl rfl rfl rfl ⟨Nat.zero_le _, Nat.zero_le _⟩ ?_
    refine M_saysNumber k1 (d := 2) (by omega) (by omega) (by omega) (by omega) ?_
    intro h2 k2
    obtain ⟨I3, L3, s3, rfl⟩ := x_form k2.1
    refine ps_aload rfl rfl ?_
    refine pw_c rfl ?_
    refine pw_k rfl rfl rfl rfl ⟨Nat.zero_le _, Nat.zero_le _⟩ ?_
    refine M_says k2 (by omega) _ ?_
    intro h3 k3
    obtain ⟨I4, L4, s4, rfl⟩ := x_form k3.1
    refine ps_aload rfl rfl ?_
    refine ps_gfi 11 14 rfl rfl rfl rfl rfl ?_
    refine ps_if rfl (fun hc => ?_) (fun hc => ?_)
    · exact st6 _ _ k3
    · refine ps_aload rfl rfl ?_
      refine ps_aload rfl rfl ?_
      refine ps_gfr 11 55 rfl rfl rfl rfl rfl (rfl) ?_
      refine pw_c rfl ?_
      refine ps_lald (11) rfl rfl rfl (rfl) (by omega) ?_
      refine pw_c rfl ?_
      refine pw_k rfl rfl rfl rfl ⟨Nat.zero_le _, Nat.zero_le _⟩ ?_
      refine M_saysWord k3 (by omega) _ _ ?_
      intro h4 k4
      obtain ⟨I5, L5, s5, rfl⟩ := x_form k4.1
      refine ps_aload rfl rfl ?_
      refine ps_aload rfl rfl ?_
      refine ps_gfr 11 12 rfl rfl rfl rfl rfl (rfl) ?_
      refine ps_aload rfl rfl ?_
      refine ps_gfr 11 16 rfl rfl rfl rfl rfl (rfl) ?_
      refine pw_c rfl ?_
      refine ps_iald (4) rfl rfl rfl (rfl) (by omega) ?_
      rw [show ((I5, L5, g_R s5, 306) : pm_H).1 288 4 = nI q4 from (rd k4 (by decide) (by decide)).trans hq4]
      refine ps_lald (q4) rfl rfl rfl (rfl) (by omega) ?_
      refine pw_c rfl ?_
      refine pw_k rfl rfl rfl rfl ⟨Nat.zero_le _, Nat.zero_le _⟩ ?_
      refine M_saysWord k4 (by omega) _ _ ?_
      intro h5 k5
      obtain ⟨I6, L6, s6, rfl⟩ := x_form k5.1
      refine ps_aload rfl rfl ?_
      refine pw_c rfl ?_
      refine pw_k rfl rfl rfl rfl ⟨Nat.zero_le _, Nat.zero_le _⟩ ?_
      refine M_says k5 (by omega) _ ?_
      intro h6 k6
      exact st6 _ _ k6
  have st4 : ∀ h, oS (I2, L, g_R s, 306) h 1146 → pm_W (g_P ys) 307 36 [.ref 275, .int (nI P)] [] h (0, 0) Q := by
    intro h k
    obtain ⟨I', L', s', rfl⟩ := x_form k.1
    refine pw_c rfl ?_
    refine ps_istore rfl rfl ?_
    refine ps_iload rfl rfl ?_
    refine pw_c rfl ?_
    refine ps_icmpf rfl (by decide) ?_
    refine ps_aload rfl rfl ?_
    refine ps_iload rfl rfl ?_
    refine pw_k rfl rfl rfl rfl ⟨Nat.zero_le _, Nat.zero_le _⟩ ?_
    refine M_saysThings0 k hq0 hq08 nb (by omega) ?_
    intro h1 k1
    obtain ⟨I1, L1, s1, rfl⟩ := x_form k1.1
    refine ps_iinc rfl rfl ?_
    refine ps_goto rfl ?_
    rw [show (0 : Int32) + Int32.ofInt 1 = 1 from rfl]
    refine ps_iload rfl rfl ?_
    refine pw_c rfl ?_
    refine ps_icmpf rfl (by decide) ?_
    refine ps_aload rfl rfl ?_
    refine ps_iload rfl rfl ?_
    refine pw_k rfl rfl rfl rfl ⟨Nat.zero_le _, Nat.zero_le _⟩ ?_
    refine M_saysThings1 k1 hq1 hq18 nb (by omega) ?_
    intro h2 k2
    obtain ⟨I3, L3, s3, rfl⟩ := x_form k2.1
    refine ps_iinc rfl rfl ?_
    refine ps_goto rfl ?_
    rw [show (1 : Int32) + Int32.ofInt 1 = 2 from rfl]
    refine ps_iload rfl rfl ?_
    refine pw_c rfl ?_
    refine ps_icmpf rfl (by decide) ?_
    refine ps_aload rfl rfl ?_
    refine ps_iload rfl rfl ?_
    refine pw_k rfl rfl rfl rfl ⟨Nat.zero_le _, Nat.zero_le _⟩ ?_
    refine M_saysThings2 k2 hq2 hq28 nb (by omega) ?_
    intro h3 k3
    obtain ⟨I4, L4, s4, rfl⟩ := x_form k3.1
    refine ps_iinc rfl rfl ?_
    refine ps_goto rfl ?_
    rw [show (2 : Int32) + Int32.ofInt 1 = 3 from rfl]
    refine ps_iload rfl rfl ?_
    refine pw_c rfl ?_
    refine ps_icmpt rfl (by decide) ?_
    exact st5 _ (oS_le k3 (by omega))
  have loop : ∀ d i, i + d = P → ∀ (c : Nat) (h : pm_H), c + 191 * d ≤ 1146 → oS (I2, L, g_R s, 306) h c → pm_W (g_P ys) 307 17 [.ref 275, .int (nI i)] [] h (0, 0) Q := by
    intro d
    induction d with
    | zero =>
      intro i hi c h hc k
      obtain ⟨I', L', s', rfl⟩ := x_form k.1
      refine ps_iload rfl rfl ?_
      refine ps_aload rfl rfl ?_
      refine ps_gfi 11 14 rfl rfl rfl rfl rfl ?_
      rw [show ((I', L', g_R s', 306) : pm_H).1 275 14 = nI P from (rd k (by decide) (by decide)).trans hP]
      refine ps_icmpt rfl (decide_eq_true (nI_le (by omega) (by omega))) ?_
      rw [show i = P by omega]
      exact st4 _ (oS_le k (by omega))
    | succ d ih =>
      intro i hi c h hc k
      obtain ⟨I', L', s', rfl⟩ := x_form k.1
      have hpi : (i : Int) < (I2 275 14).toInt := by rw [hP, nI_toInt (by omega)]; omega
      obtain ⟨_, hfm⟩ := iv2.2.2.2.2.2.2.2.1 i hpi
      obtain ⟨f, _, hf⟩ := pb (7 * i + 2) (by omega)
      obtain ⟨a, ha9, ha⟩ := pb (7 * i + 3) (by omega)
      obtain ⟨b, hb9, hb⟩ := pb (7 * i + 4) (by omega)
      obtain ⟨c3, hc9, hc3⟩ := pb (7 * i + 5) (by omega)
      have hfm : fOK (I2 278 (7 * i + 2)).toInt (I2 278 (7 * i + 3)).toInt (I2 278 (7 * i + 4)).toInt := hfm
      rw [hf, ha, hb, nI_toInt (by omega), nI_toInt (by omega), nI_toInt (by omega)] at hfm
      obtain ⟨m1, m2, m3, m4, m5⟩ := hfm
      refine ps_iload rfl rfl ?_
      refine ps_aload rfl rfl ?_
      refine ps_gfi 11 14 rfl rfl rfl rfl rfl ?_
      rw [show ((I', L', g_R s', 306) : pm_H).1 275 14 = nI P from (rd k (by decide) (by decide)).trans hP]
      refine ps_icmpf rfl (decide_eq_false (nI_ge (by omega) (by omega))) ?_
      refine ps_aload rfl rfl ?_
      refine ps_iload rfl rfl ?_
      refine pw_k rfl rfl rfl rfl ⟨Nat.zero_le _, Nat.zero_le _⟩ ?_
      refine M_saysPlate k (by omega) hf ha hb hc3 ha9 hb9 hc9 (by omega) (fun q => by have := m2 (by omega); omega) (fun q => by have := m3 (by omega); omega) (fun q => by have := m4 (by omega); omega) (fun q => by have := m5 (by omega); omega) (fun j hj => plb _ (by omega)) (by omega) ?_
      intro h' k'
      refine ps_iinc rfl rfl ?_
      refine ps_goto rfl ?_
      rw [show nI i + Int32.ofInt 1 = nI (i + 1) from nI_1 i]
      exact ih (i + 1) (by omega) _ _ (by omega) k'
  refine ps_aload rfl rfl ?_
  refine pw_c rfl ?_
  refine pw_k rfl rfl rfl rfl ⟨Nat.zero_le _, Nat.zero_le _⟩ ?_
  refine M_is ?_
  refine ps_ift rfl (by decide) ?_
  refine ps_aload rfl rfl ?_
  refine pw_c rfl ?_
  refine ps_pfi 11 57 rfl rfl rfl rfl rfl ?_
  refine pw_c rfl ?_
  refine ps_istore rfl rfl ?_
  show pm_W (g_P ys) 307 17 [.ref 275, .int (nI 0)] [] (pm_u (isI I 0) 275 57 0, L, g_R s, 306) (0, 0) Q
  rw [hgen]
  exact loop P 0 (by omega) 0 _ (by omega) k0
end ID
section IE
variable {ys : List Int32}
theorem k_undo : xk ys (232, [.inl (2, .ofNat 0, .ofNat 0, 50)], [], [(50, .ofNat 0, .ofNat 1), (65, .ofNat 0, .ofNat 1067), (50, .ofNat 19, .ofNat 19), (63, .ofNat 0, .ofNat 88)], (false, false), [([.inl (0, .negSucc 2147483647, .ofNat 2147483647, 0)], [], [], [])]) := by
  intro h vs Q iv va fa kk
  obtain ⟨I, L, s, rfl⟩ := x_form iv
  obtain ⟨_, c1, rfl, ⟨a, rfl, ha, _⟩, va1⟩ := vas_c va
  cases vas_n va1
  cases ref_M ha
  obtain ⟨m, hm, hm12⟩ := past_n iv
  refine ps_aload rfl rfl ?_
  refine ps_aload rfl rfl ?_
  refine ps_gfi 11 19 rfl rfl rfl rfl rfl ?_
  refine ps_if rfl (fun hc => ?_) (fun hc => ?_)
  · have hne : ¬ m = 0 := fun q => by
      rw [show ((I, L, g_R s, 306) : pm_H).1 275 19 = nI m from hm, q] at hc
      exact absurd hc (by decide)
    obtain ⟨g1, g2⟩ := is_iv iv (a := 0) (by decide) (by decide)
    -- what is behind
    have done : ∀ I', (∀ a j : Nat, ¬ (a = 288 ∧ j < 89) → ¬ (a = 275 ∧ (j = 0 ∨ j = 1 ∨ j = 19)) → I' a j = I a j) → (∀ j, j < 89 → I' 288 j = I 290 (89 * (m - 1) + j)) → I' 275 0 = 0 → I' 275 1 = 0 → I' 275 19 = nI (m - 1) → ∀ r, Q [.int r] (I', L, g_R s, 306) := by
      intro I' ag hn e0 e1 e19 r
      have ro : ∀ a, ¬ a = 288 → ¬ a = 275 → ∀ j, I' a j = I a j := fun a h1 h2 j => ag a j (fun q => h1 q.1) (fun q => h2 q.1)
      have bn : ∀ j, j < 89 → (pB j).1 ≤ (I' 288 j).toInt ∧ (I' 288 j).toInt ≤ (pB j).2 := by
        intro j hj
        rw [hn j hj, ← pB_m (m := m - 1) (k := j) (by omega) hj]
        exact pB_past iv
      refine kk _ _ (iv_new iv (fun c j q hq k1 k2 => ?_) (xK_ag2 (fun a ha j => ?_) (ro _ (by decide) (by decide)) (ro _ (by decide) (by decide)) (ro _ (by decide) (by decide)) (ag _ _ (by decide) (by decide)) (ag _ _ (by decide) (by decide)) (ag _ _ (by decide) (by decide)) (ro _ (by decide) (by decide)) (ro _ (by decide) (by decide)) (ro _ (by decide) (by decide) _) (fun h0 => ?_) iv.2.2.2.2.2)) ⟨fun c j hnW => ?_, fun _ l z k => xV_ag2 (ag _ _ (by decide) (by decide)) (ag _ _ (by decide) (by decide)) (ro _ (by decide) (by decide)) (ro _ (by decide) (by decide)) (ro _ (by decide) (by decide)) (ro _ (by decide) (by decide)) (ro _ (by decide) (by decide)) (ro _ (by decide) (by decide)) k, fun _ => rfl⟩ ⟨_, List.mem_cons_self, po_f⟩
      · by_cases e : c = 288 ∧ j < 89
        · obtain ⟨rfl, hj⟩ := e
          exact sx_wr_ok (now_wr hj) (Int.le_refl _) (Int.le_refl _) (bn j hj).1 (bn j hj).2 q hq k1 k2
        · by_cases e2 : c = 275 ∧ (j = 0 ∨ j = 1 ∨ j = 19)
          · obtain ⟨rfl, rfl | rfl | rfl⟩ := e2
            · exact sx_wr_ok (g := sx_sb xT (xtg 275)) (lo := 0) (hi := 0) (b := (0, 9)) (by decide) (Int.le_refl _) (Int.le_refl _) (by rw [e0]; decide) (by rw [e0]; decide) q hq k1 k2
            · exact sx_wr_ok (g := sx_sb xT (xtg 275)) (lo := 1) (hi := 1) (b := (0, 0)) (by decide) (Int.le_refl _) (Int.le_refl _) (by rw [e1]; decide) (by rw [e1]; decide) q hq k1 k2
            · exact sx_wr_ok (g := sx_sb xT (xtg 275)) (lo := 19) (hi := 19) (b := (0, 12)) (by decide) (Int.le_refl _) (Int.le_refl _) (by rw [e19, nI_toInt (by omega)]; omega) (by rw [e19, nI_toInt (by omega)]; omega) q hq k1 k2
          · rw [ag c j e e2]
            exact iv.1 c j q hq k1 k2
      · refine ro a (fun q => ?_) (fun q => ?_) j
        · rw [q] at ha; exact absurd ha (by decide)
        · rw [q] at ha; exact absurd ha (by decide)
      · rw [ag _ _ (by decide) (by decide)] at h0
        obtain ⟨q1, q2⟩ := iv.2.2.2.2.2.2.2.2.1 h0
        have q2 : ∀ j : Nat, j < 12 → (j : Int) < (I 275 19).toInt → (I 290 (89 * j + 4)).toInt < (I 275 14).toInt := q2
        rw [hn 4 (by omega), ag 275 14 (by decide) (by decide)]
        refine ⟨q2 (m - 1) (by omega) (by rw [hm, nI_toInt (by omega)]; omega), fun r hr hrm => ?_⟩
        rw [e19, nI_toInt (by omega)] at hrm
        rw [ro _ (by decide) (by decide)]
        exact q2 r hr (by rw [hm, nI_toInt (by omega)]; omega)
      · by_cases e : c = 288 ∧ j < 89
        · obtain ⟨rfl, hj⟩ := e
          exact absurd (sx_wk_ok (lo := 0) (hi := 88) (by decide) (by omega) (by omega)) hnW
        · by_cases e2 : c = 275 ∧ (j = 0 ∨ j = 1 ∨ j = 19)
          · obtain ⟨rfl, rfl | rfl | rfl⟩ := e2
            · exact absurd (sx_wk_ok (lo := 0) (hi := 0) (by decide) (by omega) (by omega)) hnW
            · exact absurd (sx_wk_ok (lo := 1) (hi := 1) (by decide) (by omega) (by omega)) hnW
            · exact absurd (sx_wk_ok (lo := 19) (hi := 19) (by decide) (by omega) (by omega)) hnW
          · exact ag c j e e2
    have loop : ∀ d i, i + d = 89 → ∀ I', (∀ a j : Nat, ¬ (a = 288 ∧ j < i) → ¬ (a = 275 ∧ (j = 0 ∨ j = 1 ∨ j = 19)) → I' a j = I a j) → (∀ j, j < i → I' 288 j = I 290 (89 * (m - 1) + j)) → I' 275 0 = 0 → I' 275 1 = 0 → I' 275 19 = nI (m - 1) → pm_W (g_P ys) 232 33 [.ref 275, .int (nI i)] [] (I', L, g_R s, 306) (0, 0) Q := by
      intro d
      induction d with
      | zero =>
        intro i hi I' ag hn e0 e1 e19
        have hi : i = 89 := by omega
        subst hi
        refine ps_iload rfl rfl ?_
        refine pw_c rfl ?_
        refine ps_icmpt rfl (by decide) ?_
        refine ps_aload rfl rfl ?_
        refine ps_gfi 11 19 rfl rfl rfl rfl rfl ?_
        refine ps_iret rfl rfl ?_
        exact done I' ag hn e0 e1 e19 _
      | succ d ih =>
        intro i hi I' ag hn e0 e1 e19
        refine ps_iload rfl rfl ?_
        refine pw_c rfl ?_
        refine ps_icmpf rfl (decide_eq_false (nI_ge (b := 89) (by omega) (by omega))) ?_
        refine ps_aload rfl rfl ?_
        refine ps_gfr 11 16 rfl rfl rfl rfl rfl (rfl) ?_
        refine ps_iload rfl rfl ?_
        refine ps_aload rfl rfl ?_
        refine ps_gfr 11 18 rfl rfl rfl rfl rfl (rfl) ?_
        refine pw_c rfl ?_
        refine ps_aload rfl rfl ?_
        refine ps_gfi 11 19 rfl rfl rfl rfl rfl ?_
        rw [show ((I', L, g_R s, 306) : pm_H).1 275 19 = nI (m - 1) from e19]
        refine ps_ar rfl rfl rfl rfl rfl ?_
        refine ps_iload rfl rfl ?_
        refine ps_ar rfl rfl rfl rfl rfl ?_
        refine ps_iald (89 * (m - 1) + i) rfl rfl rfl (by simp only [ni_lit, ni_l0, pk_mul, nI_add, Nat.add_zero]) (by omega) ?_
        refine ps_iast (i) rfl rfl rfl (rfl) (by omega) ?_
        refine ps_iinc rfl rfl ?_
        refine ps_goto rfl ?_
        rw [show nI i + Int32.ofInt 1 = nI (i + 1) from nI_1 i]
        refine ih (i + 1) (by omega) _ (fun a j h1 h2 => ?_) (fun j hj => ?_) ?_ ?_ ?_
        · show pm_u I' 288 i _ a j = I a j
          unfold pm_u
          split
          · rename_i e
            subst e
            rw [if_neg (fun q => h1 ⟨rfl, by omega⟩)]
            exact ag _ _ (fun q => h1 ⟨rfl, by omega⟩) h2
          · rename_i e
            exact ag _ _ (fun q => e q.1) h2
        · show pm_u I' 288 i (I' 290 (89 * (m - 1) + i)) 288 j = _
          by_cases e : j = i
          · subst e
            rw [pu_s, ag _ _ (fun q => absurd q.1 (by decide)) (fun q => absurd q.1 (by decide))]
          · rw [pu_n e]
            exact hn j (by omega)
        · exact (pu_o (by decide)).trans e0
        · exact (pu_o (by decide)).trans e1
        · exact (pu_o (by decide)).trans e19
    refine pw_c rfl ?_
    refine pw_k rfl rfl rfl rfl ⟨Nat.zero_le _, Nat.zero_le _⟩ ?_
    refine M_is ?_
    refine ps_ift rfl (by decide) ?_
    refine ps_aload rfl rfl ?_
    refine ps_ar rfl rfl rfl rfl rfl ?_
    refine ps_gfi 11 19 rfl rfl rfl rfl rfl ?_
    refine pw_c rfl ?_
    refine ps_ar rfl rfl rfl rfl rfl ?_
    refine ps_pfi 11 19 rfl rfl rfl rfl rfl ?_
    refine pw_c rfl ?_
    refine ps_istore rfl rfl ?_
    refine loop 89 0 (by omega) _ (fun a j h1 h2 => ?_) (fun j hj => by omega) rfl rfl ?_
    · show pm_u (isI I 0) 275 19 _ a j = I a j
      unfold isI pm_u
      by_cases e : a = 275
      · subst e
        have n1 : ¬ j = 19 := fun q => h2 ⟨rfl, Or.inr (Or.inr q)⟩
        have n2 : ¬ j = 0 := fun q => h2 ⟨rfl, Or.inl q⟩
        have n3 : ¬ j = 1 := fun q => h2 ⟨rfl, Or.inr (Or.inl q)⟩
        simp only [if_true, if_neg n1, if_neg n2, if_neg n3]
      · simp only [if_neg e]
    · show pm_u (isI I 0) 275 19 (I 275 19 - 1) 275 19 = _
      rw [pu_s, hm, ← iI_nat m, ← iI_nat (m - 1), show (1 : Int32) = iI 1 from rfl, iI_sub]
      congr 1
      omega
  · refine pw_c rfl ?_
    refine ps_goto rfl ?_
    refine pw_k rfl rfl rfl rfl ⟨Nat.zero_le _, Nat.zero_le _⟩ ?_
    refine M_is ?_
    obtain ⟨g1, g2⟩ := is_iv iv (a := 5) (by decide) (by decide)
    refine ps_iff rfl (by decide) ?_
    refine pw_c rfl ?_
    refine ps_iret rfl rfl ?_
    exact kk _ _ g1 (fr_wk (by decide) g2) ⟨_, List.mem_cons_self, po_f⟩
end IE
