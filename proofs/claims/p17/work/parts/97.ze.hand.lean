/-! BY HAND: how the class reads a text, exactly, eighth: a scene's LINES (printed by gen97zd.py) -/
section LE
variable {I I' I2 J : Nat → Nat → Int32} {L : Nat → Nat → Int64} {s : Nat → Option Nat} {Q : List Value → pm_H → Prop} {ys : List Int32} {B B' : sB} {b n c t p g u : Nat} {T : Nat → Int32} {v3 : Value}
theorem rl_S {K : Int32} {w5 w6 : Value} (hb : isB b) (p6 : B.ps ≤ 6) (hK : 8 ≤ K.toInt) (hc : cC b J I2 u) (hB : cBp b B I2) (hT : cBt b I2) (hBB : ∀ I, cBp b B I → cBp b B' I) (hf : ∀ Q' : List Value → pm_H → Prop, (∀ I', cS b I2 I' → cBs b B' I' → Q' [] (I', L, g_R s, 306)) → pm_W (g_P ys) 75 0 [.ref 5, .int K, .ref (b + 2)] [] (I2, L, g_R s, 306) (0, 0) Q') (kk : ∀ I', cC b J I' u → cBp b B' I' → cBs b B' I' → cBt b I' → Q [.int 1] (I', L, g_R s, 306)) : pm_W (g_P ys) 31 119 [.ref 5, .ref 1, .ref b, v3, .int K, w5, w6] [] (I2, L, g_R s, 306) (0, 0) Q := by
  obtain ⟨hS0, hS1, hS2, hS3, hS4, hR0, hR1, hR2, hR3, hR4, hR5, hR6, hR7⟩ := bn_F (ys := ys) (s := s) hb
  have bb := isB_b hb
  have e7 : (7 : Int32).toInt = 7 := rfl
  refine ps_iload rfl rfl ?_
  refine pw_c rfl ?_
  refine ps_icmpt rfl (decide_eq_true ((i_lt _ _).mpr (by omega))) ?_
  refine ps_aload rfl rfl ?_
  refine ps_iload rfl rfl ?_
  refine ps_aload rfl rfl ?_
  refine ps_gfr 8 1 rfl rfl rfl (by first | exact hS0 _ _ | exact hS1 _ _ | exact hS2 _ _ | exact hS3 _ _ | exact hS4 _ _ | exact hS5 _ _ | exact hS6 _ _ | exact hS7 _ _ | exact hS8 _ _ | exact hS9 _ _ | exact hS10 _ _ | exact hS11 _ _ | exact hS12 _ _ | exact hS13 _ _ | assumption | rfl) rfl (by first | assumption | rfl) ?_
  refine pw_k rfl rfl rfl rfl ⟨Nat.zero_le _, Nat.zero_le _⟩ ?_
  refine hf _ (fun I3 f3 b3 => ?_)
  refine pw_c rfl ?_
  refine ps_zret rfl rfl (Or.inr rfl) ?_
  exact kk I3 ⟨cL_t hc.1 (fun a j h1 h2 h3 => f3 a j (by omega)), (f3 _ _ (by omega)).trans hc.2.1, (f3 _ _ (by omega)).trans hc.2.2.1, (f3 _ _ (by omega)).trans hc.2.2.2⟩ (hBB _ (cBp_6 hB (fun a j h => f3 a j (by omega)) p6)) b3 (cBt_o hT (fun j => f3 _ _ (by omega)))
theorem giv_B {v : Int32} (hb : isB b) (h : cBp b B I) (p6 : B.ps ≤ 6) : cBp b B (givI I g t v) := by
  have bb := isB_b hb
  exact cBp_6 h (fun a j h => giv_o (by omega) (by omega)) p6
theorem giv_S {v : Int32} (hb : isB b) (h : cBs b B I) : cBs b B (givI I g t v) := by
  have bb := isB_b hb
  exact cBs_o hb h (fun a j h1 h2 => giv_o (by omega) (by omega))
theorem nxt_B (hb : isB b) (h : cBp b B I) (p6 : B.ps ≤ 6) : cBp b B (nxtI I t) := by
  have bb := isB_b hb
  exact cBp_6 h (fun a j h => nxt_o (by omega)) p6
theorem nxt_S (hb : isB b) (h : cBs b B I) : cBs b B (nxtI I t) := by
  have bb := isB_b hb
  exact cBs_o hb h (fun a j h1 h2 => nxt_o (by omega))
theorem giv_T {v : Int32} (hb : isB b) (h : cBt b I) : cBt b (givI I g t v) := by
  have bb := isB_b hb
  exact cBt_o h (fun j => giv_o (by omega) (by omega))
theorem nxt_T (hb : isB b) (h : cBt b I) : cBt b (nxtI I t) := by
  have bb := isB_b hb
  exact cBt_o h (fun j => nxt_o (by omega))
theorem rl_source (lt : B.n 0 < mst 0) (hb : isB b) (S : stX (fun j => J 2 j) T J n c) (ok : B.ok) (hc : cC b J I (t + 1)) (ht : t < c) (hB : cBp b B I) (hS : cBs b B I) (hT : cBt b I) (hg : I 5 2 = nI 0) (h2 : J 7 t = 2) (hk : kwF (J 10 t) = 8) (kB : ∀ k u, xLn1 (fun j => J 2 j) J c B t = .error (k, u) → ∀ I', cL b J I' → I' 5 4 = k → I' 5 5 = J 8 u → Q [.int 0] (I', L, g_R s, 306)) (kS : ∀ u B', xLn1 (fun j => J 2 j) J c B t = .ok (u, B') → ¬ J 7 u = 5 → ∀ I', cL b J I' → I' 5 4 = eK J u → I' 5 5 = J 8 u → Q [.int 0] (I', L, g_R s, 306)) (kO : ∀ u B', xLn1 (fun j => J 2 j) J c B t = .ok (u, B') → J 7 u = 5 → ∀ I', cC b J I' (u + 1) → cBp b B' I' → cBs b B' I' → cBt b I' → Q [.int 1] (I', L, g_R s, 306)) : pm_W (g_P ys) 31 75 [.ref 5, .ref 1, .ref b, v3, .int 8, .retAddr 0, .retAddr 0] [] (I, L, g_R s, 306) (0, 0) Q := by
  have p6 := ok.1
  have xf : xLn1 (fun j => J 2 j) J c B t = xThr J B 0 t := by
    unfold xLn1
    rw [if_pos h2, if_neg (by rw [hk]; decide), if_pos hk]
  have bb := isB_b hb
  have hn8 := S.2.2
  have cn : c ≤ n := S.1.2.1
  refine ps_iload rfl rfl ?_
  refine pw_k rfl rfl rfl rfl ⟨Nat.zero_le _, Nat.zero_le _⟩ ?_
  refine ps_iload rfl rfl ?_
  refine ps_brr rfl rfl rfl rfl rfl rfl ?_
  refine pw_c rfl ?_
  refine ps_aret rfl rfl ?_
  refine ps_astore rfl rfl ?_
  refine pw_c rfl ?_
  refine ps_istore rfl rfl ?_
  have xr : xThr J B 0 t = xThg J B 0 (t + 1) := by
    unfold xThr
    rw [if_pos lt]
  rw [xr] at xf
  unfold xThg at xf
  refine slot_step (i := 0) (len := 3) rfl rfl (by omega) rfl (by omega) ?_
  refine S_x hb hc (by omega) hg (by omega) (fun k u ex I' c1 c2 c3 => Or.inl ⟨rfl, ?_⟩) (fun x ex => Or.inr ⟨rfl, ?_⟩)
  · exact kB k u (by rw [xf, ex]) I' c1 c2 c3
  have t1 := tk_lt S (t := t + 1) (by omega) (xNum_k ex)
  have hc1 := giv_C (v := x) (g := 0) hc
  rw [ex] at xf
  refine slot_step (i := 1) (len := 3) rfl rfl (by omega) rfl (by omega) ?_
  refine S_x hb hc1 (by omega) giv_g.1 (by omega) (fun k u ey I' c1 c2 c3 => Or.inl ⟨rfl, ?_⟩) (fun y ey => Or.inr ⟨rfl, ?_⟩)
  · exact kB k u (by rw [xf]; show (match xNum J 0 99 (t + 1 + 1) with | .error e => _ | .ok y => _) = _; rw [ey]) I' c1 c2 c3
  have t2 := tk_lt S (t := t + 1 + 1) (by omega) (xNum_k ey)
  have hc2 := giv_C (v := y) (g := 1) hc1
  have xf : xLn1 (fun j => J 2 j) J c B t = match xNum J 1 999 (t + 1 + 2) with | .error e => .error e | .ok z => .ok (t + 1 + 3, B.adT 0 x y z) := by
    rw [xf]
    show (match xNum J 0 99 (t + 1 + 1) with | .error e => _ | .ok y => _) = _
    rw [ey]
    exact if_neg (by decide)
  refine slot_step (i := 2) (len := 3) rfl rfl (by omega) rfl (by omega) ?_
  refine S_c hb hc2 (by omega) giv_g.1 (by omega) (fun k u ez I' c1 c2 c3 => Or.inl ⟨rfl, ?_⟩) (fun z ez => Or.inr ⟨rfl, ?_⟩)
  · exact kB k u (by rw [xf]; rw [show xNum J 1 999 (t + 1 + 2) = _ from ez]) I' c1 c2 c3
  have t3 := tk_lt S (t := t + 1 + 2) (by omega) (xNum_k ez)
  have hc3 := giv_C (v := z) (g := 2) hc2
  rw [show xNum J 1 999 (t + 1 + 2) = _ from ez] at xf
  have xf : xLn1 (fun j => J 2 j) J c B t = .ok (t + 1 + 3, B.adT 0 x y z) := xf
  refine slot_step (i := 3) (len := 3) rfl rfl (by omega) rfl (by omega) ?_
  refine S_sig hb hc3 (by omega) (fun e5 I' c1 c2 c3 => Or.inl ⟨rfl, kS _ _ xf e5 I' c1 c2 c3⟩) (fun e5 => Or.inr ⟨rfl, ?_⟩)
  refine slot_end (len := 3) rfl rfl (by omega) ?_
  refine rl_S (B' := B.adT 0 x y z) (u := t + 1 + 3 + 1) hb p6 (by decide) (nxt_C hc3) (nxt_B hb (giv_B hb (giv_B hb (giv_B hb hB p6) p6) p6) p6) (nxt_T hb (giv_T hb (giv_T hb (giv_T hb hT)))) (fun _ h => h) (fun Q' k' => ?_) (fun I' d1 d2 d3 d4 => kO _ _ xf e5 I' d1 d2 d3 d4)
  exact B_finThingX (q := 0) (Or.inl ⟨rfl, rfl⟩) hb (nxt_S hb (giv_S hb (giv_S hb (giv_S hb hS)))) ok lt ((nxt_o (by omega)).trans ((giv_g.2.2 0 (by omega)).trans ((giv_g.2.2 0 (by omega)).trans giv_g.2.1))) ((nxt_o (by omega)).trans ((giv_g.2.2 1 (by omega)).trans giv_g.2.1)) (fun _ => (nxt_o (by omega)).trans giv_g.2.1) k'
theorem rl_lost (lt : B.n 1 < mst 1) (hb : isB b) (S : stX (fun j => J 2 j) T J n c) (ok : B.ok) (hc : cC b J I (t + 1)) (ht : t < c) (hB : cBp b B I) (hS : cBs b B I) (hT : cBt b I) (hg : I 5 2 = nI 0) (h2 : J 7 t = 2) (hk : kwF (J 10 t) = 9) (kB : ∀ k u, xLn1 (fun j => J 2 j) J c B t = .error (k, u) → ∀ I', cL b J I' → I' 5 4 = k → I' 5 5 = J 8 u → Q [.int 0] (I', L, g_R s, 306)) (kS : ∀ u B', xLn1 (fun j => J 2 j) J c B t = .ok (u, B') → ¬ J 7 u = 5 → ∀ I', cL b J I' → I' 5 4 = eK J u → I' 5 5 = J 8 u → Q [.int 0] (I', L, g_R s, 306)) (kO : ∀ u B', xLn1 (fun j => J 2 j) J c B t = .ok (u, B') → J 7 u = 5 → ∀ I', cC b J I' (u + 1) → cBp b B' I' → cBs b B' I' → cBt b I' → Q [.int 1] (I', L, g_R s, 306)) : pm_W (g_P ys) 31 75 [.ref 5, .ref 1, .ref b, v3, .int 9, .retAddr 0, .retAddr 0] [] (I, L, g_R s, 306) (0, 0) Q := by
  have p6 := ok.1
  have xf : xLn1 (fun j => J 2 j) J c B t = xThr J B 1 t := by
    unfold xLn1
    rw [if_pos h2, if_neg (by rw [hk]; decide), if_neg (by rw [hk]; decide), if_pos hk]
  have bb := isB_b hb
  have hn8 := S.2.2
  have cn : c ≤ n := S.1.2.1
  refine ps_iload rfl rfl ?_
  refine pw_k rfl rfl rfl rfl ⟨Nat.zero_le _, Nat.zero_le _⟩ ?_
  refine ps_iload rfl rfl ?_
  refine ps_brr rfl rfl rfl rfl rfl rfl ?_
  refine pw_c rfl ?_
  refine ps_aret rfl rfl ?_
  refine ps_astore rfl rfl ?_
  refine pw_c rfl ?_
  refine ps_istore rfl rfl ?_
  have xr : xThr J B 1 t = xThg J B 1 (t + 1) := by
    unfold xThr
    rw [if_pos lt]
  rw [xr] at xf
  unfold xThg at xf
  refine slot_step (i := 0) (len := 2) rfl rfl (by omega) rfl (by omega) ?_
  refine S_x hb hc (by omega) hg (by omega) (fun k u ex I' c1 c2 c3 => Or.inl ⟨rfl, ?_⟩) (fun x ex => Or.inr ⟨rfl, ?_⟩)
  · exact kB k u (by rw [xf, ex]) I' c1 c2 c3
  have t1 := tk_lt S (t := t + 1) (by omega) (xNum_k ex)
  have hc1 := giv_C (v := x) (g := 0) hc
  rw [ex] at xf
  refine slot_step (i := 1) (len := 2) rfl rfl (by omega) rfl (by omega) ?_
  refine S_x hb hc1 (by omega) giv_g.1 (by omega) (fun k u ey I' c1 c2 c3 => Or.inl ⟨rfl, ?_⟩) (fun y ey => Or.inr ⟨rfl, ?_⟩)
  · exact kB k u (by rw [xf]; show (match xNum J 0 99 (t + 1 + 1) with | .error e => _ | .ok y => _) = _; rw [ey]) I' c1 c2 c3
  have t2 := tk_lt S (t := t + 1 + 1) (by omega) (xNum_k ey)
  have hc2 := giv_C (v := y) (g := 1) hc1
  have xf : xLn1 (fun j => J 2 j) J c B t = .ok (t + 1 + 2, B.adT 1 x y 0) := by
    rw [xf]
    show (match xNum J 0 99 (t + 1 + 1) with | .error e => _ | .ok y => _) = _
    rw [ey]
    exact if_pos rfl
  refine slot_step (i := 2) (len := 2) rfl rfl (by omega) rfl (by omega) ?_
  refine S_sig hb hc2 (by omega) (fun e5 I' c1 c2 c3 => Or.inl ⟨rfl, kS _ _ xf e5 I' c1 c2 c3⟩) (fun e5 => Or.inr ⟨rfl, ?_⟩)
  refine slot_end (len := 2) rfl rfl (by omega) ?_
  refine rl_S (B' := B.adT 1 x y 0) (u := t + 1 + 2 + 1) hb p6 (by decide) (nxt_C hc2) (nxt_B hb (giv_B hb (giv_B hb hB p6) p6) p6) (nxt_T hb (giv_T hb (giv_T hb hT))) (fun _ h => h) (fun Q' k' => ?_) (fun I' d1 d2 d3 d4 => kO _ _ xf e5 I' d1 d2 d3 d4)
  exact B_finThingX (q := 1) (Or.inr (Or.inl ⟨rfl, rfl, rfl⟩)) hb (nxt_S hb (giv_S hb (giv_S hb hS))) ok lt ((nxt_o (by omega)).trans ((giv_g.2.2 0 (by omega)).trans giv_g.2.1)) ((nxt_o (by omega)).trans giv_g.2.1) (fun z => absurd rfl z) k'
theorem rl_stray (lt : B.n 2 < mst 2) (hb : isB b) (S : stX (fun j => J 2 j) T J n c) (ok : B.ok) (hc : cC b J I (t + 1)) (ht : t < c) (hB : cBp b B I) (hS : cBs b B I) (hT : cBt b I) (hg : I 5 2 = nI 0) (h2 : J 7 t = 2) (hk : kwF (J 10 t) = 10) (kB : ∀ k u, xLn1 (fun j => J 2 j) J c B t = .error (k, u) → ∀ I', cL b J I' → I' 5 4 = k → I' 5 5 = J 8 u → Q [.int 0] (I', L, g_R s, 306)) (kS : ∀ u B', xLn1 (fun j => J 2 j) J c B t = .ok (u, B') → ¬ J 7 u = 5 → ∀ I', cL b J I' → I' 5 4 = eK J u → I' 5 5 = J 8 u → Q [.int 0] (I', L, g_R s, 306)) (kO : ∀ u B', xLn1 (fun j => J 2 j) J c B t = .ok (u, B') → J 7 u = 5 → ∀ I', cC b J I' (u + 1) → cBp b B' I' → cBs b B' I' → cBt b I' → Q [.int 1] (I', L, g_R s, 306)) : pm_W (g_P ys) 31 75 [.ref 5, .ref 1, .ref b, v3, .int 10, .retAddr 0, .retAddr 0] [] (I, L, g_R s, 306) (0, 0) Q := by
  have p6 := ok.1
  have xf : xLn1 (fun j => J 2 j) J c B t = xThr J B 2 t := by
    unfold xLn1
    rw [if_pos h2, if_neg (by rw [hk]; decide), if_neg (by rw [hk]; decide), if_neg (by rw [hk]; decide), if_pos hk]
  have bb := isB_b hb
  have hn8 := S.2.2
  have cn : c ≤ n := S.1.2.1
  refine ps_iload rfl rfl ?_
  refine pw_k rfl rfl rfl rfl ⟨Nat.zero_le _, Nat.zero_le _⟩ ?_
  refine ps_iload rfl rfl ?_
  refine ps_brr rfl rfl rfl rfl rfl rfl ?_
  refine pw_c rfl ?_
  refine ps_aret rfl rfl ?_
  refine ps_astore rfl rfl ?_
  refine pw_c rfl ?_
  refine ps_istore rfl rfl ?_
  have xr : xThr J B 2 t = xThg J B 2 (t + 1) := by
    unfold xThr
    rw [if_pos lt]
  rw [xr] at xf
  unfold xThg at xf
  refine slot_step (i := 0) (len := 3) rfl rfl (by omega) rfl (by omega) ?_
  refine S_x hb hc (by omega) hg (by omega) (fun k u ex I' c1 c2 c3 => Or.inl ⟨rfl, ?_⟩) (fun x ex => Or.inr ⟨rfl, ?_⟩)
  · exact kB k u (by rw [xf, ex]) I' c1 c2 c3
  have t1 := tk_lt S (t := t + 1) (by omega) (xNum_k ex)
  have hc1 := giv_C (v := x) (g := 0) hc
  rw [ex] at xf
  refine slot_step (i := 1) (len := 3) rfl rfl (by omega) rfl (by omega) ?_
  refine S_x hb hc1 (by omega) giv_g.1 (by omega) (fun k u ey I' c1 c2 c3 => Or.inl ⟨rfl, ?_⟩) (fun y ey => Or.inr ⟨rfl, ?_⟩)
  · exact kB k u (by rw [xf]; show (match xNum J 0 99 (t + 1 + 1) with | .error e => _ | .ok y => _) = _; rw [ey]) I' c1 c2 c3
  have t2 := tk_lt S (t := t + 1 + 1) (by omega) (xNum_k ey)
  have hc2 := giv_C (v := y) (g := 1) hc1
  have xf : xLn1 (fun j => J 2 j) J c B t = match xNum J 1 999 (t + 1 + 2) with | .error e => .error e | .ok z => .ok (t + 1 + 3, B.adT 2 x y z) := by
    rw [xf]
    show (match xNum J 0 99 (t + 1 + 1) with | .error e => _ | .ok y => _) = _
    rw [ey]
    exact if_neg (by decide)
  refine slot_step (i := 2) (len := 3) rfl rfl (by omega) rfl (by omega) ?_
  refine S_c hb hc2 (by omega) giv_g.1 (by omega) (fun k u ez I' c1 c2 c3 => Or.inl ⟨rfl, ?_⟩) (fun z ez => Or.inr ⟨rfl, ?_⟩)
  · exact kB k u (by rw [xf]; rw [show xNum J 1 999 (t + 1 + 2) = _ from ez]) I' c1 c2 c3
  have t3 := tk_lt S (t := t + 1 + 2) (by omega) (xNum_k ez)
  have hc3 := giv_C (v := z) (g := 2) hc2
  rw [show xNum J 1 999 (t + 1 + 2) = _ from ez] at xf
  have xf : xLn1 (fun j => J 2 j) J c B t = .ok (t + 1 + 3, B.adT 2 x y z) := xf
  refine slot_step (i := 3) (len := 3) rfl rfl (by omega) rfl (by omega) ?_
  refine S_sig hb hc3 (by omega) (fun e5 I' c1 c2 c3 => Or.inl ⟨rfl, kS _ _ xf e5 I' c1 c2 c3⟩) (fun e5 => Or.inr ⟨rfl, ?_⟩)
  refine slot_end (len := 3) rfl rfl (by omega) ?_
  refine rl_S (B' := B.adT 2 x y z) (u := t + 1 + 3 + 1) hb p6 (by decide) (nxt_C hc3) (nxt_B hb (giv_B hb (giv_B hb (giv_B hb hB p6) p6) p6) p6) (nxt_T hb (giv_T hb (giv_T hb (giv_T hb hT)))) (fun _ h => h) (fun Q' k' => ?_) (fun I' d1 d2 d3 d4 => kO _ _ xf e5 I' d1 d2 d3 d4)
  exact B_finThingX (q := 2) (Or.inr (Or.inr ⟨rfl, rfl⟩)) hb (nxt_S hb (giv_S hb (giv_S hb (giv_S hb hS)))) ok lt ((nxt_o (by omega)).trans ((giv_g.2.2 0 (by omega)).trans ((giv_g.2.2 0 (by omega)).trans giv_g.2.1))) ((nxt_o (by omega)).trans ((giv_g.2.2 1 (by omega)).trans giv_g.2.1)) (fun _ => (nxt_o (by omega)).trans giv_g.2.1) k'
theorem rl_back (hb : isB b) (S : stX (fun j => J 2 j) T J n c) (ok : B.ok) (hc : cC b J I (t + 1)) (ht : t < c) (hB : cBp b B I) (hS : cBs b B I) (hT : cBt b I) (hg : I 5 2 = nI 0) (h2 : J 7 t = 2) (hk : kwF (J 10 t) = 11) (kB : ∀ k u, xLn1 (fun j => J 2 j) J c B t = .error (k, u) → ∀ I', cL b J I' → I' 5 4 = k → I' 5 5 = J 8 u → Q [.int 0] (I', L, g_R s, 306)) (kS : ∀ u B', xLn1 (fun j => J 2 j) J c B t = .ok (u, B') → ¬ J 7 u = 5 → ∀ I', cL b J I' → I' 5 4 = eK J u → I' 5 5 = J 8 u → Q [.int 0] (I', L, g_R s, 306)) (kO : ∀ u B', xLn1 (fun j => J 2 j) J c B t = .ok (u, B') → J 7 u = 5 → ∀ I', cC b J I' (u + 1) → cBp b B' I' → cBs b B' I' → cBt b I' → Q [.int 1] (I', L, g_R s, 306)) : pm_W (g_P ys) 31 75 [.ref 5, .ref 1, .ref b, v3, .int 11, .retAddr 0, .retAddr 0] [] (I, L, g_R s, 306) (0, 0) Q := by
  have p6 := ok.1
  have xf : xLn1 (fun j => J 2 j) J c B t = (xNum J 0 99 (t + 1)).bind fun x => .ok (t + 2, (B.ps, B.pl, B.n, B.sc, x, B.us)) := by
    unfold xLn1
    rw [if_pos h2, if_neg (by rw [hk]; decide), if_neg (by rw [hk]; decide), if_neg (by rw [hk]; decide), if_neg (by rw [hk]; decide), if_pos hk]
  have bb := isB_b hb
  have hn8 := S.2.2
  have cn : c ≤ n := S.1.2.1
  refine ps_iload rfl rfl ?_
  refine pw_k rfl rfl rfl rfl ⟨Nat.zero_le _, Nat.zero_le _⟩ ?_
  refine ps_iload rfl rfl ?_
  refine ps_brr rfl rfl rfl rfl rfl rfl ?_
  refine pw_c rfl ?_
  refine ps_aret rfl rfl ?_
  refine ps_astore rfl rfl ?_
  refine pw_c rfl ?_
  refine ps_istore rfl rfl ?_
  refine slot_step (i := 0) (len := 1) rfl rfl (by omega) rfl (by omega) ?_
  refine S_x hb hc (by omega) hg (by omega) (fun k u ex I' c1 c2 c3 => Or.inl ⟨rfl, ?_⟩) (fun x ex => Or.inr ⟨rfl, ?_⟩)
  · exact kB k u (by rw [xf, ex]; rfl) I' c1 c2 c3
  have t1 := tk_lt S (t := t + 1) (by omega) (xNum_k ex)
  have hc1 := giv_C (v := x) (g := 0) hc
  rw [ex] at xf
  have xf : xLn1 (fun j => J 2 j) J c B t = .ok (t + 2, (B.ps, B.pl, B.n, B.sc, x, B.us)) := xf
  refine slot_step (i := 1) (len := 1) rfl rfl (by omega) rfl (by omega) ?_
  refine S_sig hb hc1 (by omega) (fun e5 I' c1 c2 c3 => Or.inl ⟨rfl, kS _ _ xf e5 I' c1 c2 c3⟩) (fun e5 => Or.inr ⟨rfl, ?_⟩)
  refine slot_end (len := 1) rfl rfl (by omega) ?_
  refine rl_S (B' := (B.ps, B.pl, B.n, B.sc, x, B.us)) (u := t + 2 + 1) hb p6 (by decide) (nxt_C hc1) (nxt_B hb (giv_B hb hB p6) p6) (nxt_T hb (giv_T hb hT)) (fun _ h => h) (fun Q' k' => ?_) (fun I' d1 d2 d3 d4 => kO _ _ xf e5 I' d1 d2 d3 d4)
  exact B_finBackX (x := x) hb (nxt_S hb (giv_S hb hS)) ((nxt_o (by omega)).trans giv_g.2.1) k'
theorem rl_use (hb : isB b) (S : stX (fun j => J 2 j) T J n c) (ok : B.ok) (hc : cC b J I (t + 1)) (ht : t < c) (hB : cBp b B I) (hS : cBs b B I) (hT : cBt b I) (hg : I 5 2 = nI 0) (h2 : J 7 t = 2) (hk : kwF (J 10 t) = 12) (kB : ∀ k u, xLn1 (fun j => J 2 j) J c B t = .error (k, u) → ∀ I', cL b J I' → I' 5 4 = k → I' 5 5 = J 8 u → Q [.int 0] (I', L, g_R s, 306)) (kS : ∀ u B', xLn1 (fun j => J 2 j) J c B t = .ok (u, B') → ¬ J 7 u = 5 → ∀ I', cL b J I' → I' 5 4 = eK J u → I' 5 5 = J 8 u → Q [.int 0] (I', L, g_R s, 306)) (kO : ∀ u B', xLn1 (fun j => J 2 j) J c B t = .ok (u, B') → J 7 u = 5 → ∀ I', cC b J I' (u + 1) → cBp b B' I' → cBs b B' I' → cBt b I' → Q [.int 1] (I', L, g_R s, 306)) : pm_W (g_P ys) 31 75 [.ref 5, .ref 1, .ref b, v3, .int 12, .retAddr 0, .retAddr 0] [] (I, L, g_R s, 306) (0, 0) Q := by
  have p6 := ok.1
  have xf : xLn1 (fun j => J 2 j) J c B t = (xNam J B (t + 1)).bind fun k => .ok (t + 2, (B.ps, B.pl, B.n, B.sc, B.bk, nI k)) := by
    unfold xLn1
    rw [if_pos h2, if_neg (by rw [hk]; decide), if_neg (by rw [hk]; decide), if_neg (by rw [hk]; decide), if_neg (by rw [hk]; decide), if_neg (by rw [hk]; decide), if_pos hk]
  have bb := isB_b hb
  have hn8 := S.2.2
  have cn : c ≤ n := S.1.2.1
  refine ps_iload rfl rfl ?_
  refine pw_k rfl rfl rfl rfl ⟨Nat.zero_le _, Nat.zero_le _⟩ ?_
  refine ps_iload rfl rfl ?_
  refine ps_brr rfl rfl rfl rfl rfl rfl ?_
  refine pw_c rfl ?_
  refine ps_aret rfl rfl ?_
  refine ps_astore rfl rfl ?_
  refine pw_c rfl ?_
  refine ps_istore rfl rfl ?_
  refine slot_step (i := 0) (len := 1) rfl rfl (by omega) rfl (by omega) ?_
  refine S_n hb hc (by omega) hB ok hg (by omega) (fun k u ex I' c1 c2 c3 => Or.inl ⟨rfl, ?_⟩) (fun x ex => Or.inr ⟨rfl, ?_⟩)
  · exact kB k u (by rw [xf, ex]; rfl) I' c1 c2 c3
  have t1 := tk_lt S (t := t + 1) (by omega) (xNam_k ex)
  have hc1 := giv_C (v := nI x) (g := 0) hc
  rw [ex] at xf
  have xf : xLn1 (fun j => J 2 j) J c B t = .ok (t + 2, (B.ps, B.pl, B.n, B.sc, B.bk, nI x)) := xf
  refine slot_step (i := 1) (len := 1) rfl rfl (by omega) rfl (by omega) ?_
  refine S_sig hb hc1 (by omega) (fun e5 I' c1 c2 c3 => Or.inl ⟨rfl, kS _ _ xf e5 I' c1 c2 c3⟩) (fun e5 => Or.inr ⟨rfl, ?_⟩)
  refine slot_end (len := 1) rfl rfl (by omega) ?_
  refine rl_S (B' := (B.ps, B.pl, B.n, B.sc, B.bk, nI x)) (u := t + 2 + 1) hb p6 (by decide) (nxt_C hc1) (nxt_B hb (giv_B hb hB p6) p6) (nxt_T hb (giv_T hb hT)) (fun _ h => h) (fun Q' k' => ?_) (fun I' d1 d2 d3 d4 => kO _ _ xf e5 I' d1 d2 d3 d4)
  exact B_finUseX (x := nI x) hb (nxt_S hb (giv_S hb hS)) ((nxt_o (by omega)).trans giv_g.2.1) k'
end LE
