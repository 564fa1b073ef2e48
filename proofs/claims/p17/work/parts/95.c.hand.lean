/-! BY HAND: how a text is read, eighth: readsPlate, line -/
section IM
variable {ys : List Int32} {I : Nat → Nat → Int32} {L : Nat → Nat → Int64} {s : Nat → Option Nat} {Q : List Value → pm_H → Prop}
theorem np_iv (iv : sx_IV xT xtg xPH (I, L, g_R s, 306)) {n : Nat} (hn : I 275 15 = nI n) (hn5 : n ≤ 5) (hg : 1 ≤ (I 275 46).toInt ∨ xVP (I, L, g_R s, 306) 5 (n : Int)) : sx_IV xT xtg xPH (pm_u I 275 15 (nI (n + 1)), L, g_R s, 306) ∧ sx_fr xtg xVP [(50, .ofNat 15, .ofNat 15)] (false, false) (I, L, g_R s, 306) (pm_u I 275 15 (nI (n + 1)), L, g_R s, 306) := by
  have tn : (I 275 15).toInt = (n : Int) := by rw [hn, nI_toInt (by omega)]
  have t1 := nI_toInt (n := n + 1) (by omega)
  obtain ⟨k1, k2, k3, k4, k5⟩ := iv.2.2.2.2.2
  have e15 : (pm_u I 275 15 (nI (n + 1))) 275 15 = nI (n + 1) := pu_s
  refine ⟨iv_new iv (ib_u (lo := 0) (hi := 6) iv.1 (by decide) (by omega) (by omega)) ⟨xCp_u k1 (by decide), k2, k3, k4, fun hw => ?_⟩, fr_u (fun _ _ _ => rfl) (by decide), fun _ l z kv => ?_, fun _ => rfl⟩
  · have hw : (I 275 46).toInt = 0 := hw
    obtain ⟨q1, q2⟩ := k5 hw
    refine ⟨fun m hm => ?_, ?_⟩
    · rw [e15, t1] at hm
      by_cases e : m = n
      · subst e
        obtain ⟨m', w, v, e1, _, hp, hf⟩ := hg.resolve_left (by omega)
        have : m' = m := by omega
        subst this
        exact ⟨⟨w, v, hp⟩, hf⟩
      · exact q1 m (by show (m : Int) < (I 275 15).toInt; omega)
    · rw [e15, t1]
      have q2 : (I 289 4).toInt = 0 ∨ (I 289 4).toInt < (I 275 15).toInt := q2
      rcases q2 with q | q
      · exact Or.inl q
      · exact Or.inr (by show (I 289 4).toInt < _; omega)
  · unfold xVP at kv ⊢
    split at kv
    · exact kv
    · exact kv
    · exact kv
    · obtain ⟨m, w, v, g1, g2, g3⟩ := kv
      have g2 : z < (I 275 15).toInt := g2
      exact ⟨m, w, v, g1, by show z < (pm_u I 275 15 (nI (n + 1)) 275 15).toInt; rw [e15, t1]; omega, g3⟩
    · obtain ⟨m, w, v, g1, g2, g3, g4⟩ := kv
      have g2 : z ≤ (I 275 15).toInt := g2
      exact ⟨m, w, v, g1, by show z ≤ (pm_u I 275 15 (nI (n + 1)) 275 15).toInt; rw [e15, t1]; omega, g3, g4⟩
    · obtain ⟨m, g1, g2, g3, g4⟩ := kv
      have g2 : z ≤ (I 275 15).toInt := g2
      exact ⟨m, g1, by show z ≤ (pm_u I 275 15 (nI (n + 1)) 275 15).toInt; rw [e15, t1]; omega, g3, g4⟩
    · exact kv
    · exact kv
    · exact kv
    · exact kv
    · exact kv
theorem nn4_iv (iv : sx_IV xT xtg xPH (I, L, g_R s, 306)) {x : Int32} (h0 : 0 ≤ x.toInt) (h5 : x.toInt ≤ 5) (hx : x.toInt = 0 ∨ x.toInt < (I 275 15).toInt) : sx_IV xT xtg xPH (pm_u I 289 4 x, L, g_R s, 306) ∧ sx_fr xtg xVP [(64, .ofNat 0, .ofNat 88)] (false, false) (I, L, g_R s, 306) (pm_u I 289 4 x, L, g_R s, 306) := by
  obtain ⟨k1, k2, k3, k4, k5⟩ := iv.2.2.2.2.2
  refine ⟨iv_new iv (ib_u (lo := 0) (hi := 5) iv.1 (by decide) h0 h5) ⟨xCp_u k1 (by decide), k2, k3, k4, fun hw => ?_⟩, fr_u (fun _ _ _ => rfl) (by decide), fun _ l z kv => ?_, fun _ => rfl⟩
  · have hw : (I 275 46).toInt = 0 := hw
    obtain ⟨q1, _⟩ := k5 hw
    refine ⟨q1, ?_⟩
    rw [pu_s]
    exact hx
  · unfold xVP at kv ⊢
    split at kv
    · exact kv
    · exact kv
    · exact kv
    · exact kv
    · exact kv
    · exact kv
    · exact kv
    · exact kv
    · exact kv
    · exact kv
    · exact kv
abbrev rpW : sx_W := nwW ++ rdW ++ muW ++ [(50, .ofNat 15, .ofNat 15)]
abbrev lnW : sx_W := rpW ++ [(64, .ofNat 0, .ofNat 88)]
theorem k_readsPlate : xk ys (284, [.inl (2, .ofNat 0, .ofNat 0, 50)], [(0, 46, .ofNat 0, .ofNat 0, 0), (0, 49, .ofNat 0, .ofNat 800, 0), (0, 50, .ofNat 1, .ofNat 5, 0)], rpW, (false, false), [([], [(0, 46, .ofNat 1, .ofNat 6, 0)], [], []), ([], [(0, 46, .ofNat 0, .ofNat 0, 0), (0, 50, .ofNat 0, .ofNat 0, 0), (0, 49, .ofNat 0, .ofNat 801, 0)], [], []), ([], [(0, 46, .ofNat 0, .ofNat 0, 0), (0, 50, .ofNat 1, .ofNat 5, 0), (0, 49, .ofNat 0, .ofNat 800, 0)], [], [])]) := by
  intro h vs Q iv va fa kk
  obtain ⟨_, c1, rfl, ⟨a, rfl, ha, _⟩, va1⟩ := vas_c va
  cases vas_n va1
  cases ref_M ha
  have kk2 := fun {h'} => g3n (h' := h') kk
  have more : ∀ h1, sx_IV xT xtg xPH h1 → sx_fr xtg xVP rpW (false, false) h h1 → gSt h1 → 0 ≤ (h1.1 275 15).toInt → (h1.1 275 15).toInt ≤ 5 → (1 ≤ (h1.1 275 46).toInt ∨ xVP h1 5 (h1.1 275 15).toInt) → pm_W (g_P ys) 284 82 [.ref 275] [] h1 (0, 0) Q := by
    intro h1 iv1 fr1 gs n0 n5 hg
    obtain ⟨I1, L1, s1, rfl⟩ := x_form iv1
    obtain ⟨n, hn5, hn⟩ := nat_bd (b := 5) n0 n5
    have hn : I1 275 15 = nI n := hn
    have tn : (I1 275 15).toInt = (n : Int) := by rw [hn, nI_toInt (by omega)]
    have hg : 1 ≤ (I1 275 46).toInt ∨ xVP (I1, L1, g_R s1, 306) 5 (I1 275 15).toInt := hg
    rw [tn] at hg
    obtain ⟨g1, g2⟩ := np_iv iv1 hn hn5 hg
    refine ps_aload rfl rfl ?_
    refine ps_ar rfl rfl rfl rfl rfl ?_
    refine ps_gfi 11 15 rfl rfl rfl rfl rfl ?_
    refine pw_c rfl ?_
    rw [show ((I1, L1, g_R s1, 306) : pm_H).1 275 15 = nI n from hn]
    refine ps_ar rfl rfl rfl rfl rfl ?_
    rw [show nI n + 1 = nI (n + 1) from nI_1 n]
    refine ps_pfi 11 15 rfl rfl rfl rfl rfl ?_
    refine ps_vret rfl rfl ?_
    exact kk2 g1 (sx_fr_trans fr1 (fr_wk (by decide) g2)) gs
  refine sg_by (sg_plate_t ys k_must1 k_must0 k_reads k_plateNamed k_readsForm) sg_plate_b iv (lc := [.ref 275]) (sc := []) (gc := []) ⟨⟨275, rfl, rfl, by omega⟩, trivial⟩ trivial trivial fa (fun v h' iv' fr' q => ?_) (fun st hst lc' sc' h' iv' fr' ps => ?_)
  · obtain ⟨o, ho, po⟩ := q
    rcases List.mem_cons.mp ho with rfl | ho
    · cases mxs_n po.1
      exact kk2 iv' fr' (Or.inl (gb po.2.1 (by simp)))
    · cases ho
  · have go : ∀ sX : sx_XS, sX.2.1 = [.inr (0, .ofNat 0)] → sX.2.2.1 = [] → sx_psx xtg xVP h' ([.ref 275] ++ ([] ++ [])) lc' sc' sX → (∀ ws, sx_fas xVP h' (.ref 275 :: ws) sX.2.2.2.1 → gSt h' ∧ (0 ≤ (h'.1 275 15).toInt ∧ (h'.1 275 15).toInt ≤ 5) ∧ (1 ≤ (h'.1 275 46).toInt ∨ xVP h' 5 (h'.1 275 15).toInt)) → pm_W (g_P ys) 284 82 lc' sc' h' (0, 0) Q := by
      intro sX e1 e2 ps hg
      obtain ⟨p1, p2, p3, _⟩ := ps
      rw [e1] at p1
      rw [e2] at p2
      obtain ⟨w0, l1, rfl, m0, ps1⟩ := mxs_c p1
      cases mxs_n ps1
      cases mxs_n p2
      cases mx_0 m0
      obtain ⟨q1, q2, q3⟩ := hg _ p3
      exact more h' iv' fr' q1 q2.1 q2.2 q3
    rcases List.mem_cons.mp hst with rfl | hst
    · refine go _ rfl rfl ps (fun ws k => ?_)
      have b := gb k (by simp)
      have n := f275 k (f := (0, 15, .ofNat 0, .ofNat 5, 0)) (by simp) rfl
      exact ⟨Or.inl b, ⟨n.1, n.2.1⟩, Or.inl b⟩
    rcases List.mem_cons.mp hst with rfl | hst
    · refine go _ rfl rfl ps (fun ws k => ?_)
      have n := f275 k (f := (0, 15, .ofNat 0, .ofNat 5, 5)) (by simp) rfl
      exact ⟨gs0 k (by simp) (by simp), ⟨n.1, n.2.1⟩, Or.inr (n.2.2.resolve_left (by decide))⟩
    rcases List.mem_cons.mp hst with rfl | hst
    · refine go _ rfl rfl ps (fun ws k => ?_)
      have n := f275 k (f := (0, 15, .ofNat 0, .ofNat 5, 5)) (by simp) rfl
      exact ⟨gs1 k (by simp) (b := 1) (hi := .ofNat 5) (by simp) (by omega) (lo := 0) (by simp), ⟨n.1, n.2.1⟩, Or.inr (n.2.2.resolve_left (by decide))⟩
    · cases hst
/-- a line -/
theorem M_line {h : pm_H} (iv : sx_IV xT xtg xPH h) (b0 : (h.1 275 46).toInt = 0) (s1 : 1 ≤ (h.1 275 50).toInt) (t800 : (h.1 275 49).toInt ≤ 800) (kk : ∀ h', sx_IV xT xtg xPH h' → sx_fr xtg xVP lnW (false, false) h h' → gSt h' → ((h'.1 275 46).toInt = 0 → (h.1 275 49).toInt < (h'.1 275 49).toInt) → Q [] h') : pm_W (g_P ys) 282 0 [.ref 275] [] h (0, 0) Q := by
  have s5 := so5 iv
  have t8 := th8 iv
  -- its end
  have last : ∀ h1, sx_IV xT xtg xPH h1 → sx_fr xtg xVP lnW (false, false) h h1 → (1 ≤ (h1.1 275 46).toInt ∨ ((h1.1 275 46).toInt = 0 ∧ (h1.1 275 49).toInt ≤ 800)) → pm_W (g_P ys) 282 146 [.ref 275] [] h1 (0, 0) Q := by
    intro h1 iv1 fr1 st
    obtain ⟨I1, L1, s1', rfl⟩ := x_form iv1
    have mono : (h.1 275 49).toInt ≤ (I1 275 49).toInt := fr1.2.1 rfl 9 _ (Int.le_refl _)
    refine ps_aload rfl rfl ?_
    refine pw_k rfl rfl rfl rfl ⟨Nat.zero_le _, Nat.zero_le _⟩ ?_
    rcases st with b | ⟨w0, t1⟩
    · have b : 1 ≤ (I1 275 46).toInt := b
      have bn : ¬ I1 275 46 = 0 := fun q => by rw [q] at b; exact absurd b (by decide)
      refine ps_aload rfl rfl ?_
      refine pw_k rfl rfl rfl rfl ⟨Nat.zero_le _, Nat.zero_le _⟩ ?_
      refine M_good ?_
      rw [decide_eq_false bn]
      refine ps_ift rfl (by decide) ?_
      refine ps_vret rfl rfl ?_
      refine ps_vret rfl rfl ?_
      exact kk _ iv1 fr1 (Or.inl b) (fun q => by have q : (I1 275 46).toInt = 0 := q; omega)
    · have w0 : (I1 275 46).toInt = 0 := w0
      have bn : I1 275 46 = 0 := (i_eq _ _).mpr w0
      have t1 : (I1 275 49).toInt ≤ 800 := t1
      obtain ⟨t, ht8, ht⟩ := nat_bd (b := 800) (th8 iv1).1 t1
      have ht : I1 275 49 = nI t := ht
      obtain ⟨e, he8, he⟩ := g_bd iv1 (a := 275) (k := 52) (b := 800) (q := (.ofNat 52, .ofNat 52, .ofNat 0, .ofNat 800)) (by decide) (by decide) (by decide) rfl rfl
      have nb := iv1.1 275 51 (.ofNat 51, .ofNat 51, .ofNat 0, .ofNat 9999) (by decide) (by decide) (by decide)
      have bb := iv1.1 275 53 (.ofNat 53, .ofNat 53, .ofNat 0, .ofNat 800) (by decide) (by decide) (by decide)
      refine ps_aload rfl rfl ?_
      refine pw_k rfl rfl rfl rfl ⟨Nat.zero_le _, Nat.zero_le _⟩ ?_
      refine M_good ?_
      rw [decide_eq_true bn]
      refine ps_iff rfl (by decide) ?_
      refine ps_aload rfl rfl ?_
      refine pw_k rfl rfl rfl rfl ⟨Nat.zero_le _, Nat.zero_le _⟩ ?_
      refine M_reads ht ht8 he he8 nb bb ?_
      intro I5 L5 dE5 lq5 _
      obtain ⟨g5, f5⟩ := dE_iv (L' := L5) iv1 ht ht8 dE5 lq5
      obtain ⟨p5, i5, ⟨ag5, hp5, hi5, _⟩, hp8, hti, hso⟩ := dE5
      refine ps_vret rfl rfl ?_
      refine ps_vret rfl rfl ?_
      have i8 : i5 ≤ 801 := by rcases hso with ⟨_, q⟩ | ⟨_, _, _, _, q, _⟩ <;> omega
      have w5 : (I5 275 46).toInt = 0 := by rw [ag5 _ _ (by decide)]; exact w0
      have ti : (I5 275 49).toInt = (i5 : Int) := by rw [hi5, nI_toInt (by omega)]
      have tt : (I1 275 49).toInt = (t : Int) := by rw [ht, nI_toInt (by omega)]
      refine kk _ g5 (sx_fr_trans fr1 (fr_wk (by decide) f5)) ?_ (fun _ => by show _ < (I5 275 49).toInt; omega)
      rcases hso with ⟨q, _⟩ | ⟨so, z1, z2, q, q2, _⟩
      · exact Or.inr (Or.inl ⟨w5, by show (I5 275 50).toInt = 0; rw [q]; rfl⟩)
      · exact Or.inr (Or.inr ⟨w5, by show 1 ≤ (I5 275 50).toInt; rw [q, nI_toInt (by omega)]; omega, by show (I5 275 49).toInt ≤ 800; omega⟩)
  have s146 : ∀ (sX : sx_XS) (lc' sc' ws : List Value) (h1 : pm_H), sX.2.1 = [.inr (0, .ofNat 0)] → sX.2.2.1 = [] → sx_psx xtg xVP h1 (.ref 275 :: ws) lc' sc' sX → sx_IV xT xtg xPH h1 → sx_fr xtg xVP lnW (false, false) h h1 → (∀ ws, sx_fas xVP h1 (.ref 275 :: ws) sX.2.2.2.1 → (1 ≤ (h1.1 275 46).toInt ∨ ((h1.1 275 46).toInt = 0 ∧ (h1.1 275 49).toInt ≤ 800))) → pm_W (g_P ys) 282 146 lc' sc' h1 (0, 0) Q := by
    intro sX lc' sc' ws h1 e1 e2 ps iv1 fr1 hg
    obtain ⟨p1, p2, p3, _⟩ := ps
    rw [e1] at p1
    rw [e2] at p2
    obtain ⟨w0, l1, rfl, m0, ps1⟩ := mxs_c p1
    cases mxs_n ps1
    cases mxs_n p2
    cases mx_0 m0
    exact last h1 iv1 fr1 (hg _ p3)
  have good8 : ∀ {h1 : pm_H} {ws : List Value} {fs : List sx_F}, sx_fas xVP h1 (.ref 275 :: ws) fs → (0, 46, .ofNat 0, .ofNat 0, 0) ∈ fs → (0, 49, .ofNat 0, .ofNat 800, 0) ∈ fs → (1 ≤ (h1.1 275 46).toInt ∨ ((h1.1 275 46).toInt = 0 ∧ (h1.1 275 49).toInt ≤ 800)) := fun k h1 h2 => Or.inr ⟨g0 k h1, (f275 k h2 rfl).2.1⟩
  -- behind use's word
  have p128 : ∀ h1, sx_IV xT xtg xPH h1 → sx_fr xtg xVP lnW (false, false) h h1 → gSt h1 → pm_W (g_P ys) 282 128 [.ref 275] [] h1 (0, 0) Q := by
    intro h1 iv1 fr1 gs
    have w6 := wr6 iv1
    have s5 := so5 iv1
    have t8 := th8 iv1
    rcases gs with b | ⟨b0, s0⟩ | ⟨b0, s1, t800⟩
    · refine sg_by (sg_lin1_t ys k_must1 k_must0) sg_lin1_b iv1 (lc := [.ref 275]) (sc := []) (gc := []) ⟨⟨275, rfl, rfl, by omega⟩, trivial⟩ trivial trivial (fas_c b w6.2 fas_n) (fun v h'' _ _ q => ?_) (fun st hst lc' sc' h2 iv2 fr2 ps => ?_)
      · obtain ⟨o, ho, _⟩ := q
        cases ho
      · rcases List.mem_cons.mp hst with rfl | hst
        · exact s146 _ _ _ _ _ rfl rfl ps iv2 (sx_fr_trans fr1 fr2) (fun ws k => Or.inl (gb k (by simp)))
        · cases hst
    · refine sg_by (sg_lin2_t ys k_must0) sg_lin2_b iv1 (lc := [.ref 275]) (sc := []) (gc := []) ⟨⟨275, rfl, rfl, by omega⟩, trivial⟩ trivial trivial (fas_c (by rw [b0]; exact Int.le_refl _) (by rw [b0]; exact Int.le_refl _) (fas_c (by rw [s0]; exact Int.le_refl _) (by rw [s0]; exact Int.le_refl _) fas_n)) (fun v h'' _ _ q => ?_) (fun st hst lc' sc' h2 iv2 fr2 ps => ?_)
      · obtain ⟨o, ho, _⟩ := q
        cases ho
      · rcases List.mem_cons.mp hst with rfl | hst
        · exact s146 _ _ _ _ _ rfl rfl ps iv2 (sx_fr_trans fr1 fr2) (fun ws k => Or.inl (gb k (by simp)))
        · cases hst
    · refine sg_by (sg_lin3_t ys k_must1 k_must0) sg_lin3_b iv1 (lc := [.ref 275]) (sc := []) (gc := []) ⟨⟨275, rfl, rfl, by omega⟩, trivial⟩ trivial trivial (fas_c (by rw [b0]; exact Int.le_refl _) (by rw [b0]; exact Int.le_refl _) (fas_c s1 s5.2 (fas_c t8.1 t800 fas_n))) (fun v h'' _ _ q => ?_) (fun st hst lc' sc' h2 iv2 fr2 ps => ?_)
      · obtain ⟨o, ho, _⟩ := q
        cases ho
      · rcases List.mem_cons.mp hst with rfl | hst
        · exact s146 _ _ _ _ _ rfl rfl ps iv2 (sx_fr_trans fr1 fr2) (fun ws k => Or.inl (gb k (by simp)))
        rcases List.mem_cons.mp hst with rfl | hst
        · exact s146 _ _ _ _ _ rfl rfl ps iv2 (sx_fr_trans fr1 fr2) (fun ws k => good8 k (by simp) (by simp))
        · cases hst
  have s127 : ∀ (l : Nat) (hi : Int) (sX : sx_XS) (lc' sc' ws : List Value) (h1 : pm_H), sX.2.1 = [.inr (0, .ofNat 0)] → sX.2.2.1 = [.inl (.inl (0, .ofNat 0, hi, l)), .inl (.inl (0, .ofNat 4, .ofNat 4, 0)), .inl (.inl (2, .ofNat 0, .ofNat 0, 64))] → (l = 0 ∧ hi = 0 ∨ l = 4 ∧ hi = 5) → sx_psx xtg xVP h1 (.ref 275 :: ws) lc' sc' sX → sx_IV xT xtg xPH h1 → sx_fr xtg xVP lnW (false, false) h h1 → (∀ ws, sx_fas xVP h1 (.ref 275 :: ws) sX.2.2.2.1 → gSt h1) → pm_W (g_P ys) 282 127 lc' sc' h1 (0, 0) Q := by
    intro l hi sX lc' sc' ws h1 e1 e2 hl ps iv1 fr1 hg
    obtain ⟨p1, p2, p3, _⟩ := ps
    rw [e1] at p1
    rw [e2] at p2
    obtain ⟨w0, l1, rfl, m0, ps1⟩ := mxs_c p1
    cases mxs_n ps1
    cases mx_0 m0
    obtain ⟨w5, l5, rfl, m5, ps5⟩ := mxs_c p2
    obtain ⟨w6, l6, rfl, m6, ps6⟩ := mxs_c ps5
    obtain ⟨w7, l7, rfl, m7, ps7⟩ := mxs_c ps6
    cases mxs_n ps7
    obtain ⟨x, rfl, x1, x2, x3⟩ := m5
    obtain ⟨y, rfl, y1, y2, _⟩ := m6
    obtain ⟨a, rfl, ha, _⟩ := m7
    have ey : y = 4 := (i_eq _ _).mpr (Int.le_antisymm y2 y1)
    subst ey
    have ea : a = 289 := tag_one (t := 64) rfl (by decide) ha
    subst ea
    have gs := hg _ p3
    obtain ⟨I1, L1, s1', rfl⟩ := x_form iv1
    have x1 : (0 : Int) ≤ x.toInt := x1
    have hx : x.toInt ≤ 5 ∧ (x.toInt = 0 ∨ x.toInt < (I1 275 15).toInt) := by
      rcases hl with ⟨e, rfl⟩ | ⟨e, rfl⟩
      · exact ⟨by omega, Or.inl (by omega)⟩
      · subst e
        obtain ⟨m, _, _, e, q, _⟩ := x3.resolve_left (by decide)
        exact ⟨x2, Or.inr q⟩
    obtain ⟨g1, g2⟩ := nn4_iv iv1 x1 hx.1 hx.2
    refine ps_iast (4) rfl rfl rfl (rfl) (by omega) ?_
    exact p128 _ g1 (sx_fr_trans fr1 (fr_wk (by decide) g2)) gs
  refine sg_by (sg_line_t ys k_must1 k_must0 k_reads k_plateNamed k_readsPlate) sg_line_b iv (lc := [.ref 275]) (sc := []) (gc := []) ⟨⟨275, rfl, rfl, by omega⟩, trivial⟩ trivial trivial (fas_c (by rw [b0]; exact Int.le_refl _) (by rw [b0]; exact Int.le_refl _) (fas_c t8.1 t800 (fas_c s1 s5.2 fas_n))) (fun v h'' _ _ q => ?_) (fun st hst lc' sc' h1 iv1 fr1 ps => ?_)
  · obtain ⟨o, ho, _⟩ := q
    cases ho
  · rcases List.mem_cons.mp hst with rfl | hst
    · exact s127 0 0 _ _ _ _ _ rfl rfl (Or.inl ⟨rfl, rfl⟩) ps iv1 fr1 (fun ws k => Or.inl (gb k (by simp)))
    rcases List.mem_cons.mp hst with rfl | hst
    · exact s127 4 5 _ _ _ _ _ rfl rfl (Or.inr ⟨rfl, rfl⟩) ps iv1 fr1 (fun ws k => gs0 k (by simp) (by simp))
    rcases List.mem_cons.mp hst with rfl | hst
    · exact s127 4 5 _ _ _ _ _ rfl rfl (Or.inr ⟨rfl, rfl⟩) ps iv1 fr1 (fun ws k => gs1 k (by simp) (b := 1) (hi := .ofNat 5) (by simp) (by omega) (lo := 1) (by simp))
    rcases List.mem_cons.mp hst with rfl | hst
    · exact s146 _ _ _ _ _ rfl rfl ps iv1 fr1 (fun ws k => Or.inl (gb k (by simp)))
    rcases List.mem_cons.mp hst with rfl | hst
    · exact s146 _ _ _ _ _ rfl rfl ps iv1 fr1 (fun ws k => good8 k (by simp) (by simp))
    · cases hst
end IM
