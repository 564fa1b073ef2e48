/-! BY HAND: how the class reads a text, exactly, seventh: a PLATE's LINE, form by form (printed by gen97zd.py) -/
section LD
variable {I I' I2 J : Nat → Nat → Int32} {L : Nat → Nat → Int64} {s : Nat → Option Nat} {Q : List Value → pm_H → Prop} {ys : List Int32} {B : sB} {b n c t t0 p g u : Nat} {T : Nat → Int32} {nm : Int32}
theorem giv_M {v : Int32} : cM p I (givI I g t v) := fun a j h1 h2 _ => giv_o h1 h2
theorem nxt_M : cM p I (nxtI I t) := fun a j h1 _ _ => nxt_o h1
theorem cBp_6 (h : cBp b B I) (f : ∀ a j, (a = b ∨ (b + 17 ≤ a ∧ a ≤ b + 40)) → I' a j = I a j) (p6 : B.ps ≤ 6) : cBp b B I' := by
  obtain ⟨h1, h2⟩ := h
  refine ⟨(f _ _ (by omega)).trans h1, fun k hk => ?_⟩
  obtain ⟨⟨c1, c2, c3⟩, d1, d2, d3⟩ := h2 k hk
  have o : ∀ i, i ≤ 3 → ∀ j, I' (b + 17 + 4 * k + i) j = I (b + 17 + 4 * k + i) j := fun i hi j => f _ _ (by omega)
  exact ⟨⟨cP_o c1 (o 0 (by omega)), (o 0 (by omega) _).trans c2, fun i hi => ⟨(o 1 (by omega) _).trans (c3 i hi).1, (o 2 (by omega) _).trans (c3 i hi).2⟩⟩, (o 0 (by omega) _).trans d1, (o 0 (by omega) _).trans d2, (o 0 (by omega) _).trans d3⟩
theorem cBt_o (h : cBt b I) (f : ∀ j, I' (b + 15) j = I (b + 15) j) : cBt b I' := by
  obtain ⟨l, h1, h2⟩ := h
  exact ⟨l, h1, (f _).trans h2⟩
theorem rl_P {K : Int32} {P : sPl} {w5 w6 : Value} (hb : isB b) (S : stX (fun j => J 2 j) T J n c) (p6 : B.ps < 6) (hp : p = b + 17 + 4 * B.ps) (uc : u < c) (t0u : t0 ≤ u) (hK : K.toInt ≤ 7) (hc : cC b J I2 (u + 1)) (hS : cBs b B I2) (hT : cBt b I2) (hf : ∀ Q' : List Value → pm_H → Prop, (∀ I', fpF b p I2 I' → cBp b (B.adP P) I' → Q' [] (I', L, g_R s, 306)) → pm_W (g_P ys) 59 0 [.ref 5, .int K, .ref b, .retAddr 0] [] (I2, L, g_R s, 306) (0, 0) Q') (kk : ∀ I', cC b J I' (u + 1) → cBp b (B.adP P) I' → cBs b B I' → cBt b I' → Q [.int 1] (I', L, g_R s, 306)) : pm_W (g_P ys) 31 119 [.ref 5, .ref 1, .ref b, .int (nI t0), .int K, w5, w6] [] (I2, L, g_R s, 306) (0, 0) Q := by
  obtain ⟨hS0, hS1, hS2, hS3, hS4, hR0, hR1, hR2, hR3, hR4, hR5, hR6, hR7⟩ := bn_F (ys := ys) (s := s) hb
  have bb := isB_b hb
  have e7 : (7 : Int32).toInt = 7 := rfl
  refine ps_iload rfl rfl ?_
  refine pw_c rfl ?_
  refine ps_icmpf rfl (decide_eq_false (fun z => by have := (i_lt _ _).mp z; omega)) ?_
  refine ps_aload rfl rfl ?_
  refine ps_iload rfl rfl ?_
  refine ps_aload rfl rfl ?_
  refine pw_k rfl rfl rfl rfl ⟨Nat.zero_le _, Nat.zero_le _⟩ ?_
  refine hf _ (fun I3 f3 b3 => ?_)
  have c3 : cL b J I3 := cL_t hc.1 (fun a j h1 h2 h3 => f3 a j (by omega) (by omega))
  have h3 : I3 5 3 = nI (u + 1) := (f3 _ _ (by omega) (by omega)).trans hc.2.1
  refine ps_aload rfl rfl ?_
  refine ps_iload rfl rfl ?_
  refine ps_aload rfl rfl ?_
  refine ps_aload rfl rfl ?_
  refine ps_gfr 8 2 rfl rfl rfl (by first | exact hS0 _ _ | exact hS1 _ _ | exact hS2 _ _ | exact hS3 _ _ | exact hS4 _ _ | exact hS5 _ _ | exact hS6 _ _ | exact hS7 _ _ | exact hS8 _ _ | exact hS9 _ _ | exact hS10 _ _ | exact hS11 _ _ | exact hS12 _ _ | exact hS13 _ _ | assumption | rfl) rfl (by first | assumption | rfl) ?_
  refine pw_k rfl rfl rfl rfl ⟨Nat.zero_le _, Nat.zero_le _⟩ ?_
  refine B_tellLineX hb c3 h3 S (by omega) (by omega) (cBt_o hT (fun j => f3 _ _ (by omega) (by omega))) (fun I4 f4 l4 => ?_)
  refine ps_goto rfl ?_
  refine pw_c rfl ?_
  refine ps_zret rfl rfl (Or.inr rfl) ?_
  exact kk I4 ⟨cL_t c3 (fun a j h1 h2 h3 => f4 a j (by omega) (by omega)), (f4 _ _ (by omega) (by omega)).trans h3, (f4 _ _ (by omega) (by omega)).trans ((f3 _ _ (by omega) (by omega)).trans hc.2.2.1), (f4 _ _ (by omega) (by omega)).trans ((f3 _ _ (by omega) (by omega)).trans hc.2.2.2)⟩ (cBp_6 b3 (fun a j h => f4 a j (by omega) (by omega)) (show B.ps + 1 ≤ 6 by omega)) (cBs_o hb hS (fun a j h1 h2 => (f4 a j (by omega) (by omega)).trans (f3 a j (by omega) (by omega)))) l4
theorem rl_row (hb : isB b) (S : stX (fun j => J 2 j) T J n c) (hJ : J 6 4 = nI (c + 1)) (ok : B.ok) (p6 : B.ps < 6) (hp : p = b + 17 + 4 * B.ps) (hc : cC b J I (t + 1)) (ht : t < c) (t0u : t0 ≤ t) (hB : cBp b B I) (hS : cBs b B I) (hT : cBt b I) (hN : I p 3 = nm) (hg : I 5 2 = nI 0) (h2 : J 7 t = 2) (hk : kwF (J 10 t) = 1) (kB : ∀ k u, xFrm (fun j => J 2 j) J c B nm t = .error (k, u) → ∀ I', cL b J I' → I' 5 4 = k → I' 5 5 = J 8 u → Q [.int 0] (I', L, g_R s, 306)) (kS : ∀ u P, xFrm (fun j => J 2 j) J c B nm t = .ok (u, P) → ¬ J 7 u = 5 → ∀ I', cL b J I' → I' 5 4 = eK J u → I' 5 5 = J 8 u → Q [.int 0] (I', L, g_R s, 306)) (kO : ∀ u P, xFrm (fun j => J 2 j) J c B nm t = .ok (u, P) → J 7 u = 5 → ∀ I', cC b J I' (u + 1) → cBp b (B.adP P) I' → cBs b B I' → cBt b I' → Q [.int 1] (I', L, g_R s, 306)) : pm_W (g_P ys) 31 75 [.ref 5, .ref 1, .ref b, .int (nI t0), .int 1, .retAddr 0, .retAddr 0] [] (I, L, g_R s, 306) (0, 0) Q := by
  have bb := isB_b hb
  have hn8 := S.2.2
  have cn : c ≤ n := S.1.2.1
  have xf : xFrm (fun j => J 2 j) J c B nm t = (xPri J 47 (t + 1)).bind fun p => .ok (t + 2, pRow nm p.toInt.toNat) := by
    unfold xFrm
    rw [if_pos h2, if_pos hk]
  refine ps_iload rfl rfl ?_
  refine pw_k rfl rfl rfl rfl ⟨Nat.zero_le _, Nat.zero_le _⟩ ?_
  refine ps_iload rfl rfl ?_
  refine ps_brr rfl rfl rfl rfl rfl rfl ?_
  refine pw_c rfl ?_
  refine ps_aret rfl rfl ?_
  refine ps_astore rfl rfl ?_
  refine pw_c rfl ?_
  refine ps_istore rfl rfl ?_
  refine slot_step (i := 0) (len := 1) rfl rfl (by omega) rfl (by omega) ?_
  refine S_r hb hc (by omega) hg (by omega) (fun k u ex I' c1 c2 c3 => Or.inl ⟨rfl, ?_⟩) (fun v ex => Or.inr ⟨rfl, ?_⟩)
  · exact kB k u (by rw [xf, ex]; rfl) I' c1 c2 c3
  · obtain ⟨_, a3, a47, a17⟩ := xPri_ok ex
    have a17 : v.toInt ≤ (47 : Int) := a17
    obtain ⟨q, hq⟩ : ∃ q, q = v.toInt.toNat := ⟨_, rfl⟩
    have ev := nI_oz hq (by omega)
    have t1 := tk_lt S (t := t + 1) (by omega) (xPri_k ex)
    rw [ex] at xf
    have xf : xFrm (fun j => J 2 j) J c B nm t = .ok (t + 2, pRow nm q) := by rw [hq]; exact xf
    refine slot_step (i := 1) (len := 1) rfl rfl (by omega) rfl (by omega) ?_
    refine S_sig hb (giv_C hc) (by omega) (fun e5 I' c1 c2 c3 => Or.inl ⟨rfl, kS _ _ xf e5 I' c1 c2 c3⟩) (fun e5 => Or.inr ⟨rfl, ?_⟩)
    have fM : cM p I (nxtI (givI I 0 (t + 1) v) (t + 2)) := cM_t giv_M nxt_M
    have uc : t + 2 < c := tk_lt S (by omega) (by rw [e5]; decide)
    refine slot_end (len := 1) rfl rfl (by omega) ?_
    refine rl_P (u := t + 2) hb S p6 hp uc (by omega) (by decide) (nxt_C (giv_C hc)) (cBs_o hb hS (fun a j h1 h2 => fM a j (by omega) (by omega) (by omega))) (cBt_o hT (fun j => fM _ _ (by omega) (by omega) (by omega))) (fun Q' k' => ?_) (fun I' d1 d2 d3 d4 => kO _ _ xf e5 I' d1 d2 d3 d4)
    exact B_finRowX (nm := nm) hb p6 hp (cBp_M hb hp hB fM) ((nxt_o (by omega)).trans ((giv_o (by omega) (by omega)).trans hN)) ((nxt_o (by omega)).trans (giv_g.2.1.trans ev)) (by omega) (by omega) k'
theorem rl_sq (hb : isB b) (S : stX (fun j => J 2 j) T J n c) (hJ : J 6 4 = nI (c + 1)) (ok : B.ok) (p6 : B.ps < 6) (hp : p = b + 17 + 4 * B.ps) (hc : cC b J I (t + 1)) (ht : t < c) (t0u : t0 ≤ t) (hB : cBp b B I) (hS : cBs b B I) (hT : cBt b I) (hN : I p 3 = nm) (hg : I 5 2 = nI 0) (h2 : J 7 t = 2) (hk : kwF (J 10 t) = 7) (kB : ∀ k u, xFrm (fun j => J 2 j) J c B nm t = .error (k, u) → ∀ I', cL b J I' → I' 5 4 = k → I' 5 5 = J 8 u → Q [.int 0] (I', L, g_R s, 306)) (kS : ∀ u P, xFrm (fun j => J 2 j) J c B nm t = .ok (u, P) → ¬ J 7 u = 5 → ∀ I', cL b J I' → I' 5 4 = eK J u → I' 5 5 = J 8 u → Q [.int 0] (I', L, g_R s, 306)) (kO : ∀ u P, xFrm (fun j => J 2 j) J c B nm t = .ok (u, P) → J 7 u = 5 → ∀ I', cC b J I' (u + 1) → cBp b (B.adP P) I' → cBs b B I' → cBt b I' → Q [.int 1] (I', L, g_R s, 306)) : pm_W (g_P ys) 31 75 [.ref 5, .ref 1, .ref b, .int (nI t0), .int 7, .retAddr 0, .retAddr 0] [] (I, L, g_R s, 306) (0, 0) Q := by
  have bb := isB_b hb
  have hn8 := S.2.2
  have cn : c ≤ n := S.1.2.1
  have xf : xFrm (fun j => J 2 j) J c B nm t = (xPri J 17 (t + 1)).bind fun p => .ok (t + 2, pSq nm p.toInt.toNat) := by
    unfold xFrm
    rw [if_pos h2, if_neg (by rw [hk]; decide), if_pos hk]
  refine ps_iload rfl rfl ?_
  refine pw_k rfl rfl rfl rfl ⟨Nat.zero_le _, Nat.zero_le _⟩ ?_
  refine ps_iload rfl rfl ?_
  refine ps_brr rfl rfl rfl rfl rfl rfl ?_
  refine pw_c rfl ?_
  refine ps_aret rfl rfl ?_
  refine ps_astore rfl rfl ?_
  refine pw_c rfl ?_
  refine ps_istore rfl rfl ?_
  refine slot_step (i := 0) (len := 1) rfl rfl (by omega) rfl (by omega) ?_
  refine S_q hb hc (by omega) hg (by omega) (fun k u ex I' c1 c2 c3 => Or.inl ⟨rfl, ?_⟩) (fun v ex => Or.inr ⟨rfl, ?_⟩)
  · exact kB k u (by rw [xf, ex]; rfl) I' c1 c2 c3
  · obtain ⟨_, a3, a47, a17⟩ := xPri_ok ex
    have a17 : v.toInt ≤ (17 : Int) := a17
    obtain ⟨q, hq⟩ : ∃ q, q = v.toInt.toNat := ⟨_, rfl⟩
    have ev := nI_oz hq (by omega)
    have t1 := tk_lt S (t := t + 1) (by omega) (xPri_k ex)
    rw [ex] at xf
    have xf : xFrm (fun j => J 2 j) J c B nm t = .ok (t + 2, pSq nm q) := by rw [hq]; exact xf
    refine slot_step (i := 1) (len := 1) rfl rfl (by omega) rfl (by omega) ?_
    refine S_sig hb (giv_C hc) (by omega) (fun e5 I' c1 c2 c3 => Or.inl ⟨rfl, kS _ _ xf e5 I' c1 c2 c3⟩) (fun e5 => Or.inr ⟨rfl, ?_⟩)
    have fM : cM p I (nxtI (givI I 0 (t + 1) v) (t + 2)) := cM_t giv_M nxt_M
    have uc : t + 2 < c := tk_lt S (by omega) (by rw [e5]; decide)
    refine slot_end (len := 1) rfl rfl (by omega) ?_
    refine rl_P (u := t + 2) hb S p6 hp uc (by omega) (by decide) (nxt_C (giv_C hc)) (cBs_o hb hS (fun a j h1 h2 => fM a j (by omega) (by omega) (by omega))) (cBt_o hT (fun j => fM _ _ (by omega) (by omega) (by omega))) (fun Q' k' => ?_) (fun I' d1 d2 d3 d4 => kO _ _ xf e5 I' d1 d2 d3 d4)
    exact B_finSqX (nm := nm) hb p6 hp (cBp_M hb hp hB fM) ((nxt_o (by omega)).trans ((giv_o (by omega) (by omega)).trans hN)) ((nxt_o (by omega)).trans (giv_g.2.1.trans ev)) (by omega) (by omega) k'
theorem rl_bit (hb : isB b) (S : stX (fun j => J 2 j) T J n c) (hJ : J 6 4 = nI (c + 1)) (ok : B.ok) (p6 : B.ps < 6) (hp : p = b + 17 + 4 * B.ps) (hc : cC b J I (t + 1)) (ht : t < c) (t0u : t0 ≤ t) (hB : cBp b B I) (hS : cBs b B I) (hT : cBt b I) (hN : I p 3 = nm) (hg : I 5 2 = nI 0) (h2 : J 7 t = 2) (hk : kwF (J 10 t) = 2) (kB : ∀ k u, xFrm (fun j => J 2 j) J c B nm t = .error (k, u) → ∀ I', cL b J I' → I' 5 4 = k → I' 5 5 = J 8 u → Q [.int 0] (I', L, g_R s, 306)) (kS : ∀ u P, xFrm (fun j => J 2 j) J c B nm t = .ok (u, P) → ¬ J 7 u = 5 → ∀ I', cL b J I' → I' 5 4 = eK J u → I' 5 5 = J 8 u → Q [.int 0] (I', L, g_R s, 306)) (kO : ∀ u P, xFrm (fun j => J 2 j) J c B nm t = .ok (u, P) → J 7 u = 5 → ∀ I', cC b J I' (u + 1) → cBp b (B.adP P) I' → cBs b B I' → cBt b I' → Q [.int 1] (I', L, g_R s, 306)) : pm_W (g_P ys) 31 75 [.ref 5, .ref 1, .ref b, .int (nI t0), .int 2, .retAddr 0, .retAddr 0] [] (I, L, g_R s, 306) (0, 0) Q := by
  have bb := isB_b hb
  have hn8 := S.2.2
  have cn : c ≤ n := S.1.2.1
  have xf : xFrm (fun j => J 2 j) J c B nm t = (if J 7 (t + 1) = 4 then .ok (t + 2, pBit nm (J 10 (t + 1)).toInt.toNat (btF (fun j => J 2 j) J (t + 1))) else .error (eK J (t + 1), t + 1)) := by
    unfold xFrm
    rw [if_pos h2, if_neg (by rw [hk]; decide), if_neg (by rw [hk]; decide), if_pos hk]
  refine ps_iload rfl rfl ?_
  refine pw_k rfl rfl rfl rfl ⟨Nat.zero_le _, Nat.zero_le _⟩ ?_
  refine ps_iload rfl rfl ?_
  refine ps_brr rfl rfl rfl rfl rfl rfl ?_
  refine pw_c rfl ?_
  refine ps_aret rfl rfl ?_
  refine ps_astore rfl rfl ?_
  refine pw_c rfl ?_
  refine ps_istore rfl rfl ?_
  refine slot_step (i := 0) (len := 1) rfl rfl (by omega) rfl (by omega) ?_
  refine S_bits hb hc (by omega) p6 hp hB.1 S (by omega) (fun e I' c1 c2 c3 => Or.inl ⟨rfl, ?_⟩) (fun e k I1 ek k1 k40 f1 g1 n1 h1 x1 x2 cP1 s1 z1 => Or.inr ⟨rfl, ?_⟩)
  · exact kB _ _ (by rw [xf, if_neg e]) I' c1 c2 c3
  · have t1 := tk_lt S (t := t + 1) (by omega) (by rw [e]; decide)
    rw [if_pos e, ← ek] at xf
    have hc1 : cC b J I1 (t + 2) := ⟨cL_M (by omega) hc.1 f1, h1, x1.trans hc.2.2.1, x2.trans hc.2.2.2⟩
    refine slot_step (i := 1) (len := 1) rfl rfl (by omega) rfl (by omega) ?_
    refine S_sig hb hc1 (by omega) (fun e5 I' c1 c2 c3 => Or.inl ⟨rfl, kS _ _ xf e5 I' c1 c2 c3⟩) (fun e5 => Or.inr ⟨rfl, ?_⟩)
    have fM : cM p I (nxtI I1 (t + 2)) := cM_t f1 nxt_M
    have uc : t + 2 < c := tk_lt S (by omega) (by rw [e5]; decide)
    refine slot_end (len := 1) rfl rfl (by omega) ?_
    refine rl_P (u := t + 2) hb S p6 hp uc (by omega) (by decide) (nxt_C hc1) (cBs_o hb hS (fun a j h1 h2 => fM a j (by omega) (by omega) (by omega))) (cBt_o hT (fun j => fM _ _ (by omega) (by omega) (by omega))) (fun Q' k' => ?_) (fun I' d1 d2 d3 d4 => kO _ _ xf e5 I' d1 d2 d3 d4)
    exact B_finHoX (P := pBit nm k (btF (fun j => J 2 j) J (t + 1))) (Or.inl rfl) hb p6 hp (cBp_M hb hp hB fM) ((nxt_o (by omega)).trans (n1.trans hN)) (cP_o cP1 (fun j => nxt_o (by omega))) ((nxt_o (by omega)).trans s1) (fun i hi => (nxt_o (by omega)).trans (z1 i (by have hi : i < k * 1 := hi; omega))) (fun i hi => by
      show (if btF (fun j => J 2 j) J (t + 1) i = true then (1 : Int32) else -1) = if (if btF (fun j => J 2 j) J (t + 1) i = true then (1 : Int32) else 0) = 1 then (1 : Int32) else -1
      by_cases z : btF (fun j => J 2 j) J (t + 1) i = true
      · rw [if_pos z, if_pos z, if_pos rfl]
      · rw [if_neg z, if_neg z, if_neg (by decide)]) k'
theorem rl_set (hb : isB b) (S : stX (fun j => J 2 j) T J n c) (hJ : J 6 4 = nI (c + 1)) (ok : B.ok) (p6 : B.ps < 6) (hp : p = b + 17 + 4 * B.ps) (hc : cC b J I (t + 1)) (ht : t < c) (t0u : t0 ≤ t) (hB : cBp b B I) (hS : cBs b B I) (hT : cBt b I) (hN : I p 3 = nm) (hg : I 5 2 = nI 0) (h2 : J 7 t = 2) (hk : kwF (J 10 t) = 3) (kB : ∀ k u, xFrm (fun j => J 2 j) J c B nm t = .error (k, u) → ∀ I', cL b J I' → I' 5 4 = k → I' 5 5 = J 8 u → Q [.int 0] (I', L, g_R s, 306)) (kS : ∀ u P, xFrm (fun j => J 2 j) J c B nm t = .ok (u, P) → ¬ J 7 u = 5 → ∀ I', cL b J I' → I' 5 4 = eK J u → I' 5 5 = J 8 u → Q [.int 0] (I', L, g_R s, 306)) (kO : ∀ u P, xFrm (fun j => J 2 j) J c B nm t = .ok (u, P) → J 7 u = 5 → ∀ I', cC b J I' (u + 1) → cBp b (B.adP P) I' → cBs b B I' → cBt b I' → Q [.int 1] (I', L, g_R s, 306)) : pm_W (g_P ys) 31 75 [.ref 5, .ref 1, .ref b, .int (nI t0), .int 3, .retAddr 0, .retAddr 0] [] (I, L, g_R s, 306) (0, 0) Q := by
  have bb := isB_b hb
  have hn8 := S.2.2
  have cn : c ≤ n := S.1.2.1
  have xf : xFrm (fun j => J 2 j) J c B nm t = (xSet J c (t + 1)).bind fun p => .ok (p.1, pSet nm p.2.1 p.2.2) := by
    unfold xFrm
    rw [if_pos h2, if_neg (by rw [hk]; decide), if_neg (by rw [hk]; decide), if_neg (by rw [hk]; decide), if_pos hk]
  refine ps_iload rfl rfl ?_
  refine pw_k rfl rfl rfl rfl ⟨Nat.zero_le _, Nat.zero_le _⟩ ?_
  refine ps_iload rfl rfl ?_
  refine ps_brr rfl rfl rfl rfl rfl rfl ?_
  refine pw_c rfl ?_
  refine ps_aret rfl rfl ?_
  refine ps_astore rfl rfl ?_
  refine pw_c rfl ?_
  refine ps_istore rfl rfl ?_
  refine slot_step (i := 0) (len := 2) rfl rfl (by omega) rfl (by omega) ?_
  refine S_w hb hc (by omega) hg (by omega) (fun k u ex I' c1 c2 c3 => Or.inl ⟨rfl, ?_⟩) (fun v ex => Or.inr ⟨rfl, ?_⟩)
  · exact kB k u (by rw [xf]; unfold xSet; rw [ex]; rfl) I' c1 c2 c3
  · obtain ⟨_, w1, w2⟩ := xNum_ok ex
    obtain ⟨w, hw⟩ : ∃ q, q = v.toInt.toNat := ⟨_, rfl⟩
    have ev := nI_oz hw (by omega)
    have t1 := tk_lt S (t := t + 1) (by omega) (xNum_k ex)
    have xs : ∀ R, xPlc J w (c - (t + 2)) (t + 2) (fun _ => 0) = R → xSet J c (t + 1) = match R with | .error e => .error e | .ok (u, h) => .ok (u, w, h) := by
      intro R hR
      unfold xSet
      rw [ex, hw, ← hR, hw]
      rfl
    have hc1 := giv_C (v := v) (g := 0) hc
    have f1 : cM p I (givI I 0 (t + 1) v) := giv_M
    refine slot_step (i := 1) (len := 2) rfl rfl (by omega) rfl (by omega) ?_
    refine S_plc (w := w) hb hc1 p6 hp ((giv_o (by omega) (by omega)).trans hB.1) S (by omega) hJ (giv_g.2.1.trans ev) (by omega) (by omega) (fun k u e I' c1 c2 c3 => Or.inl ⟨rfl, ?_⟩) (fun u h e I1 f2 g1 n1 h1 x1 x2 cP1 s1 z1 => Or.inr ⟨rfl, ?_⟩)
    · exact kB k u (by rw [xf, xs _ e]; rfl) I' c1 c2 c3
    · rw [xs _ e] at xf
      have xf : xFrm (fun j => J 2 j) J c B nm t = .ok (u, pSet nm w h) := xf
      have pu := xPlc_ok S (by omega) (fun _ => Or.inl rfl) e
      have hc2 : cC b J I1 u := ⟨cL_M (by omega) hc1.1 f2, h1, x1.trans hc1.2.2.1, x2.trans hc1.2.2.2⟩
      refine slot_step (i := 2) (len := 2) rfl rfl (by omega) rfl (by omega) ?_
      refine S_sig hb hc2 (by omega) (fun e5 I' c1 c2 c3 => Or.inl ⟨rfl, kS _ _ xf e5 I' c1 c2 c3⟩) (fun e5 => Or.inr ⟨rfl, ?_⟩)
      have fM : cM p I (nxtI I1 u) := cM_t (cM_t f1 f2) nxt_M
      have uc : u < c := tk_lt S (by omega) (by rw [e5]; decide)
      refine slot_end (len := 2) rfl rfl (by omega) ?_
      refine rl_P (u := u) hb S p6 hp uc (by omega) (by decide) (nxt_C hc2) (cBs_o hb hS (fun a j h1 h2 => fM a j (by omega) (by omega) (by omega))) (cBt_o hT (fun j => fM _ _ (by omega) (by omega) (by omega))) (fun Q' k' => ?_) (fun I' d1 d2 d3 d4 => kO _ _ xf e5 I' d1 d2 d3 d4)
      exact B_finHoX (P := pSet nm w h) (Or.inr rfl) hb p6 hp (cBp_M hb hp hB fM) ((nxt_o (by omega)).trans (n1.trans ((giv_o (by omega) (by omega)).trans hN))) (cP_o cP1 (fun j => nxt_o (by omega))) ((nxt_o (by omega)).trans s1) (fun i hi => (nxt_o (by omega)).trans (z1 i (by have hi : i < w * 1 := hi; omega))) (fun i hi => rfl) k'
theorem rl_turn (hb : isB b) (S : stX (fun j => J 2 j) T J n c) (hJ : J 6 4 = nI (c + 1)) (ok : B.ok) (p6 : B.ps < 6) (hp : p = b + 17 + 4 * B.ps) (hc : cC b J I (t + 1)) (ht : t < c) (t0u : t0 ≤ t) (hB : cBp b B I) (hS : cBs b B I) (hT : cBt b I) (hN : I p 3 = nm) (hg : I 5 2 = nI 0) (h2 : J 7 t = 2) (hk : kwF (J 10 t) = 4) (kB : ∀ k u, xFrm (fun j => J 2 j) J c B nm t = .error (k, u) → ∀ I', cL b J I' → I' 5 4 = k → I' 5 5 = J 8 u → Q [.int 0] (I', L, g_R s, 306)) (kS : ∀ u P, xFrm (fun j => J 2 j) J c B nm t = .ok (u, P) → ¬ J 7 u = 5 → ∀ I', cL b J I' → I' 5 4 = eK J u → I' 5 5 = J 8 u → Q [.int 0] (I', L, g_R s, 306)) (kO : ∀ u P, xFrm (fun j => J 2 j) J c B nm t = .ok (u, P) → J 7 u = 5 → ∀ I', cC b J I' (u + 1) → cBp b (B.adP P) I' → cBs b B I' → cBt b I' → Q [.int 1] (I', L, g_R s, 306)) : pm_W (g_P ys) 31 75 [.ref 5, .ref 1, .ref b, .int (nI t0), .int 4, .retAddr 0, .retAddr 0] [] (I, L, g_R s, 306) (0, 0) Q := by
  have bb := isB_b hb
  have hn8 := S.2.2
  have cn : c ≤ n := S.1.2.1
  have xf : xFrm (fun j => J 2 j) J c B nm t = (xNam J B (t + 1)).bind fun k => (xNum J 0 99 (t + 2)).bind fun a => (xNum J 0 99 (t + 3)).bind fun b => .ok (t + 4, pTurn nm (B.pl k) a.toInt.toNat b.toInt.toNat) := by
    unfold xFrm
    rw [if_pos h2, if_neg (by rw [hk]; decide), if_neg (by rw [hk]; decide), if_neg (by rw [hk]; decide), if_neg (by rw [hk]; decide), if_pos hk]
  refine ps_iload rfl rfl ?_
  refine pw_k rfl rfl rfl rfl ⟨Nat.zero_le _, Nat.zero_le _⟩ ?_
  refine ps_iload rfl rfl ?_
  refine ps_brr rfl rfl rfl rfl rfl rfl ?_
  refine pw_c rfl ?_
  refine ps_aret rfl rfl ?_
  refine ps_astore rfl rfl ?_
  refine pw_c rfl ?_
  refine ps_istore rfl rfl ?_
  refine slot_step (i := 0) (len := 3) rfl rfl (by omega) rfl (by omega) ?_
  refine S_n hb hc (by omega) hB ok hg (by omega) (fun k u ex I' c1 c2 c3 => Or.inl ⟨rfl, ?_⟩) (fun k ex => Or.inr ⟨rfl, ?_⟩)
  · exact kB k u (by rw [xf, ex]; rfl) I' c1 c2 c3
  · have hk2 := xNam_lt ex
    have t1 := tk_lt S (t := t + 1) (by omega) (xNam_k ex)
    have hc1 := giv_C (v := nI k) (g := 0) hc
    rw [ex] at xf
    have xf : xFrm (fun j => J 2 j) J c B nm t = (xNum J 0 99 (t + 2)).bind fun a => (xNum J 0 99 (t + 3)).bind fun b => .ok (t + 4, pTurn nm (B.pl k) a.toInt.toNat b.toInt.toNat) := xf
    refine slot_step (i := 1) (len := 3) rfl rfl (by omega) rfl (by omega) ?_
    refine S_x hb hc1 (by omega) giv_g.1 (by omega) (fun k u ex I' c1 c2 c3 => Or.inl ⟨rfl, ?_⟩) (fun x ea => Or.inr ⟨rfl, ?_⟩)
    · exact kB k u (by rw [xf, ex]; rfl) I' c1 c2 c3
    · obtain ⟨_, x0, x9⟩ := xNum_ok ea
      have t2 := tk_lt S (t := t + 2) (by omega) (xNum_k ea)
      have hc2 := giv_C (v := x) (g := 1) hc1
      rw [ea] at xf
      have xf : xFrm (fun j => J 2 j) J c B nm t = (xNum J 0 99 (t + 3)).bind fun b => .ok (t + 4, pTurn nm (B.pl k) x.toInt.toNat b.toInt.toNat) := xf
      refine slot_step (i := 2) (len := 3) rfl rfl (by omega) rfl (by omega) ?_
      refine S_x hb hc2 (by omega) giv_g.1 (by omega) (fun k u ex I' c1 c2 c3 => Or.inl ⟨rfl, ?_⟩) (fun y eb => Or.inr ⟨rfl, ?_⟩)
      · exact kB k u (by rw [xf, ex]; rfl) I' c1 c2 c3
      · obtain ⟨_, y0, y9⟩ := xNum_ok eb
        have t3 := tk_lt S (t := t + 3) (by omega) (xNum_k eb)
        have hc3 := giv_C (v := y) (g := 2) hc2
        rw [eb] at xf
        obtain ⟨x', hx'⟩ : ∃ q, q = x.toInt.toNat := ⟨_, rfl⟩
        obtain ⟨y', hy'⟩ : ∃ q, q = y.toInt.toNat := ⟨_, rfl⟩
        have ex' := nI_oz hx' x0
        have ey' := nI_oz hy' y0
        have xf : xFrm (fun j => J 2 j) J c B nm t = .ok (t + 4, pTurn nm (B.pl k) x' y') := by rw [hx', hy']; exact xf
        refine slot_step (i := 3) (len := 3) rfl rfl (by omega) rfl (by omega) ?_
        refine S_sig hb hc3 (by omega) (fun e5 I' c1 c2 c3 => Or.inl ⟨rfl, kS _ _ xf e5 I' c1 c2 c3⟩) (fun e5 => Or.inr ⟨rfl, ?_⟩)
        have fM : cM p I (nxtI (givI (givI (givI I 0 (t + 1) (nI k)) 1 (t + 2) x) 2 (t + 3) y) (t + 4)) := cM_t giv_M (cM_t giv_M (cM_t giv_M nxt_M))
        have uc : t + 4 < c := tk_lt S (by omega) (by rw [e5]; decide)
        refine slot_end (len := 3) rfl rfl (by omega) ?_
        refine rl_P (u := t + 4) hb S p6 hp uc (by omega) (by decide) (nxt_C hc3) (cBs_o hb hS (fun a j h1 h2 => fM a j (by omega) (by omega) (by omega))) (cBt_o hT (fun j => fM _ _ (by omega) (by omega) (by omega))) (fun Q' k' => ?_) (fun I' d1 d2 d3 d4 => kO _ _ xf e5 I' d1 d2 d3 d4)
        exact B_finTurnX (nm := nm) hb p6 hp (cBp_M hb hp hB fM) ((nxt_o (by omega)).trans ((giv_o (by omega) (by omega)).trans ((giv_o (by omega) (by omega)).trans ((giv_o (by omega) (by omega)).trans hN)))) hk2 ((nxt_o (by omega)).trans ((giv_g.2.2 0 (by omega)).trans ((giv_g.2.2 0 (by omega)).trans giv_g.2.1))) ((nxt_o (by omega)).trans ((giv_g.2.2 1 (by omega)).trans (giv_g.2.1.trans ex'))) ((nxt_o (by omega)).trans (giv_g.2.1.trans ey')) (by have x9 : x.toInt ≤ (99 : Int) := x9; omega) (by have y9 : y.toInt ≤ (99 : Int) := y9; omega) k'
theorem rl_neg (hb : isB b) (S : stX (fun j => J 2 j) T J n c) (hJ : J 6 4 = nI (c + 1)) (ok : B.ok) (p6 : B.ps < 6) (hp : p = b + 17 + 4 * B.ps) (hc : cC b J I (t + 1)) (ht : t < c) (t0u : t0 ≤ t) (hB : cBp b B I) (hS : cBs b B I) (hT : cBt b I) (hN : I p 3 = nm) (hg : I 5 2 = nI 0) (h2 : J 7 t = 2) (hk : kwF (J 10 t) = 5) (kB : ∀ k u, xFrm (fun j => J 2 j) J c B nm t = .error (k, u) → ∀ I', cL b J I' → I' 5 4 = k → I' 5 5 = J 8 u → Q [.int 0] (I', L, g_R s, 306)) (kS : ∀ u P, xFrm (fun j => J 2 j) J c B nm t = .ok (u, P) → ¬ J 7 u = 5 → ∀ I', cL b J I' → I' 5 4 = eK J u → I' 5 5 = J 8 u → Q [.int 0] (I', L, g_R s, 306)) (kO : ∀ u P, xFrm (fun j => J 2 j) J c B nm t = .ok (u, P) → J 7 u = 5 → ∀ I', cC b J I' (u + 1) → cBp b (B.adP P) I' → cBs b B I' → cBt b I' → Q [.int 1] (I', L, g_R s, 306)) : pm_W (g_P ys) 31 75 [.ref 5, .ref 1, .ref b, .int (nI t0), .int 5, .retAddr 0, .retAddr 0] [] (I, L, g_R s, 306) (0, 0) Q := by
  have bb := isB_b hb
  have hn8 := S.2.2
  have cn : c ≤ n := S.1.2.1
  have xf : xFrm (fun j => J 2 j) J c B nm t = (xNam J B (t + 1)).bind fun k => .ok (t + 2, pNeg nm (B.pl k)) := by
    unfold xFrm
    rw [if_pos h2, if_neg (by rw [hk]; decide), if_neg (by rw [hk]; decide), if_neg (by rw [hk]; decide), if_neg (by rw [hk]; decide), if_neg (by rw [hk]; decide), if_pos hk]
  refine ps_iload rfl rfl ?_
  refine pw_k rfl rfl rfl rfl ⟨Nat.zero_le _, Nat.zero_le _⟩ ?_
  refine ps_iload rfl rfl ?_
  refine ps_brr rfl rfl rfl rfl rfl rfl ?_
  refine pw_c rfl ?_
  refine ps_aret rfl rfl ?_
  refine ps_astore rfl rfl ?_
  refine pw_c rfl ?_
  refine ps_istore rfl rfl ?_
  refine slot_step (i := 0) (len := 1) rfl rfl (by omega) rfl (by omega) ?_
  refine S_n hb hc (by omega) hB ok hg (by omega) (fun k u ex I' c1 c2 c3 => Or.inl ⟨rfl, ?_⟩) (fun k ex => Or.inr ⟨rfl, ?_⟩)
  · exact kB k u (by rw [xf, ex]; rfl) I' c1 c2 c3
  · have hk2 := xNam_lt ex
    have t1 := tk_lt S (t := t + 1) (by omega) (xNam_k ex)
    rw [ex] at xf
    have xf : xFrm (fun j => J 2 j) J c B nm t = .ok (t + 2, pNeg nm (B.pl k)) := xf
    refine slot_step (i := 1) (len := 1) rfl rfl (by omega) rfl (by omega) ?_
    refine S_sig hb (giv_C hc) (by omega) (fun e5 I' c1 c2 c3 => Or.inl ⟨rfl, kS _ _ xf e5 I' c1 c2 c3⟩) (fun e5 => Or.inr ⟨rfl, ?_⟩)
    have fM : cM p I (nxtI (givI I 0 (t + 1) (nI k)) (t + 2)) := cM_t giv_M nxt_M
    have uc : t + 2 < c := tk_lt S (by omega) (by rw [e5]; decide)
    refine slot_end (len := 1) rfl rfl (by omega) ?_
    refine rl_P (u := t + 2) hb S p6 hp uc (by omega) (by decide) (nxt_C (giv_C hc)) (cBs_o hb hS (fun a j h1 h2 => fM a j (by omega) (by omega) (by omega))) (cBt_o hT (fun j => fM _ _ (by omega) (by omega) (by omega))) (fun Q' k' => ?_) (fun I' d1 d2 d3 d4 => kO _ _ xf e5 I' d1 d2 d3 d4)
    exact B_finNegX (nm := nm) hb p6 hp (cBp_M hb hp hB fM) ok ((nxt_o (by omega)).trans ((giv_o (by omega) (by omega)).trans hN)) hk2 ((nxt_o (by omega)).trans giv_g.2.1) k'
theorem rl_both (hb : isB b) (S : stX (fun j => J 2 j) T J n c) (hJ : J 6 4 = nI (c + 1)) (ok : B.ok) (p6 : B.ps < 6) (hp : p = b + 17 + 4 * B.ps) (hc : cC b J I (t + 1)) (ht : t < c) (t0u : t0 ≤ t) (hB : cBp b B I) (hS : cBs b B I) (hT : cBt b I) (hN : I p 3 = nm) (hg : I 5 2 = nI 0) (h2 : J 7 t = 2) (hk : kwF (J 10 t) = 6) (kB : ∀ k u, xFrm (fun j => J 2 j) J c B nm t = .error (k, u) → ∀ I', cL b J I' → I' 5 4 = k → I' 5 5 = J 8 u → Q [.int 0] (I', L, g_R s, 306)) (kS : ∀ u P, xFrm (fun j => J 2 j) J c B nm t = .ok (u, P) → ¬ J 7 u = 5 → ∀ I', cL b J I' → I' 5 4 = eK J u → I' 5 5 = J 8 u → Q [.int 0] (I', L, g_R s, 306)) (kO : ∀ u P, xFrm (fun j => J 2 j) J c B nm t = .ok (u, P) → J 7 u = 5 → ∀ I', cC b J I' (u + 1) → cBp b (B.adP P) I' → cBs b B I' → cBt b I' → Q [.int 1] (I', L, g_R s, 306)) : pm_W (g_P ys) 31 75 [.ref 5, .ref 1, .ref b, .int (nI t0), .int 6, .retAddr 0, .retAddr 0] [] (I, L, g_R s, 306) (0, 0) Q := by
  have bb := isB_b hb
  have hn8 := S.2.2
  have cn : c ≤ n := S.1.2.1
  have xf : xFrm (fun j => J 2 j) J c B nm t = (xNaB J B 1 (t + 1)).bind fun a => (xNaB J B (B.pl a).w (t + 2)).bind fun b => .ok (t + 3, pBoth nm (B.pl a) (B.pl b)) := by
    unfold xFrm
    rw [if_pos h2, if_neg (by rw [hk]; decide), if_neg (by rw [hk]; decide), if_neg (by rw [hk]; decide), if_neg (by rw [hk]; decide), if_neg (by rw [hk]; decide), if_neg (by rw [hk]; decide), if_pos hk]
  refine ps_iload rfl rfl ?_
  refine pw_k rfl rfl rfl rfl ⟨Nat.zero_le _, Nat.zero_le _⟩ ?_
  refine ps_iload rfl rfl ?_
  refine ps_brr rfl rfl rfl rfl rfl rfl ?_
  refine pw_c rfl ?_
  refine ps_aret rfl rfl ?_
  refine ps_astore rfl rfl ?_
  refine pw_c rfl ?_
  refine ps_istore rfl rfl ?_
  refine slot_step (i := 0) (len := 2) rfl rfl (by omega) rfl (by omega) ?_
  refine S_a hb hc (by omega) hB ok hg (by omega) (fun k u ex I' c1 c2 c3 => Or.inl ⟨rfl, ?_⟩) (fun k ex => Or.inr ⟨rfl, ?_⟩)
  · exact kB k u (by rw [xf, ex]; rfl) I' c1 c2 c3
  · obtain ⟨hk2, kv, kw⟩ := xNaB_ok ex
    have t1 := tk_lt S (t := t + 1) (by omega) (xNaB_k ex)
    have hc1 := giv_C (v := nI k) (g := 0) hc
    rw [ex] at xf
    have xf : xFrm (fun j => J 2 j) J c B nm t = (xNaB J B (B.pl k).w (t + 2)).bind fun b => .ok (t + 3, pBoth nm (B.pl k) (B.pl b)) := xf
    refine slot_step (i := 1) (len := 2) rfl rfl (by omega) rfl (by omega) ?_
    refine S_b (l := k) hb hc1 (by omega) (cBp_M hb hp hB giv_M) ok giv_g.1 (by omega) hk2 giv_g.2.1 (fun k u ex I' c1 c2 c3 => Or.inl ⟨rfl, ?_⟩) (fun l el => Or.inr ⟨rfl, ?_⟩)
    · exact kB k u (by rw [xf, ex]; rfl) I' c1 c2 c3
    · obtain ⟨hl2, lv, lw⟩ := xNaB_ok el
      have t2 := tk_lt S (t := t + 2) (by omega) (xNaB_k el)
      have hc2 := giv_C (v := nI l) (g := 1) hc1
      rw [el] at xf
      have xf : xFrm (fun j => J 2 j) J c B nm t = .ok (t + 3, pBoth nm (B.pl k) (B.pl l)) := xf
      refine slot_step (i := 2) (len := 2) rfl rfl (by omega) rfl (by omega) ?_
      refine S_sig hb hc2 (by omega) (fun e5 I' c1 c2 c3 => Or.inl ⟨rfl, kS _ _ xf e5 I' c1 c2 c3⟩) (fun e5 => Or.inr ⟨rfl, ?_⟩)
      have fM : cM p I (nxtI (givI (givI I 0 (t + 1) (nI k)) 1 (t + 2) (nI l)) (t + 3)) := cM_t giv_M (cM_t giv_M nxt_M)
      have uc : t + 3 < c := tk_lt S (by omega) (by rw [e5]; decide)
      refine slot_end (len := 2) rfl rfl (by omega) ?_
      refine rl_P (u := t + 3) hb S p6 hp uc (by omega) (by decide) (nxt_C hc2) (cBs_o hb hS (fun a j h1 h2 => fM a j (by omega) (by omega) (by omega))) (cBt_o hT (fun j => fM _ _ (by omega) (by omega) (by omega))) (fun Q' k' => ?_) (fun I' d1 d2 d3 d4 => kO _ _ xf e5 I' d1 d2 d3 d4)
      exact B_finBothX (nm := nm) hb p6 hp (cBp_M hb hp hB fM) ((nxt_o (by omega)).trans ((giv_o (by omega) (by omega)).trans ((giv_o (by omega) (by omega)).trans hN))) hk2 hl2 ((nxt_o (by omega)).trans ((giv_g.2.2 0 (by omega)).trans giv_g.2.1)) ((nxt_o (by omega)).trans giv_g.2.1) kv lv (by rw [Nat.mul_comm]; exact lw) k'
end LD
