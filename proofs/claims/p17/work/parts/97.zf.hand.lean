/-! BY HAND: how the class reads a text, exactly, ninth: a LINE, a text -/
section LF
variable {I I' I2 J : Nat → Nat → Int32} {L : Nat → Nat → Int64} {s : Nat → Option Nat} {Q : List Value → pm_H → Prop} {ys : List Int32} {B B' : sB} {b n c t p g u : Nat} {T f : Nat → Int32}
theorem xLn1_no (h : ¬ (J 7 t = 2 ∧ (kwF (J 10 t) = 0 ∨ 8 ≤ (kwF (J 10 t)).toInt))) : xLn1 f J c B t = .error (eK J t, t) := by
  unfold xLn1
  by_cases h2 : J 7 t = 2
  · have e8 : (8 : Int32).toInt = 8 := rfl
    have e9 : (9 : Int32).toInt = 9 := rfl
    have ea : (10 : Int32).toInt = 10 := rfl
    have eb : (11 : Int32).toInt = 11 := rfl
    have ec : (12 : Int32).toInt = 12 := rfl
    rw [if_pos h2, if_neg (fun z => h ⟨h2, Or.inl z⟩), if_neg (fun z => h ⟨h2, Or.inr (by rw [z]; omega)⟩), if_neg (fun z => h ⟨h2, Or.inr (by rw [z]; omega)⟩), if_neg (fun z => h ⟨h2, Or.inr (by rw [z]; omega)⟩), if_neg (fun z => h ⟨h2, Or.inr (by rw [z]; omega)⟩), if_neg (fun z => h ⟨h2, Or.inr (by rw [z]; omega)⟩), eK_w h2]
  · rw [if_neg h2]
theorem xLn1_full (h2 : J 7 t = 2) (h : flB B (kwF (J 10 t))) : xLn1 f J c B t = .error (6, t) := by
  unfold xLn1
  rw [if_pos h2]
  rcases h with ⟨k, h⟩ | ⟨k, h⟩ | ⟨k, h⟩ | ⟨k, h⟩
  · rw [if_pos k]
    unfold xPlt
    rw [if_neg h]
  · rw [if_neg (by rw [k]; decide), if_pos k]
    unfold xThr
    exact if_neg h
  · rw [if_neg (by rw [k]; decide), if_neg (by rw [k]; decide), if_pos k]
    unfold xThr
    exact if_neg h
  · rw [if_neg (by rw [k]; decide), if_neg (by rw [k]; decide), if_neg (by rw [k]; decide), if_pos k]
    unfold xThr
    exact if_neg h
theorem xPlt_e {e : Int32 × Nat} (lt : B.ps < 6) (h : xNew J B (t + 1) = .error e) : xPlt f J c B t = .error e := by
  unfold xPlt
  unfold xNew at h
  rw [if_pos lt]
  split at h
  · rename_i z
    rw [if_pos z]
    split at h
    · rename_i z2
      cases h
      rw [z2]
    · cases h
  · rename_i z
    cases h
    rw [if_neg z]
theorem xPlt_o {nm : Int32} (lt : B.ps < 6) (h : xNew J B (t + 1) = .ok nm) : xPlt f J c B t = (xFrm f J c B nm (t + 2)).bind fun p => .ok (p.1, B.adP p.2) := by
  unfold xPlt
  unfold xNew at h
  rw [if_pos lt]
  split at h
  · rename_i z
    rw [if_pos z]
    split at h
    · cases h
    · rename_i z2
      cases h
      rw [z2]
  · cases h
theorem xFrm_no {nm : Int32} (h : ¬ (J 7 t = 2 ∧ 1 ≤ (kwF (J 10 t)).toInt ∧ (kwF (J 10 t)).toInt ≤ 7)) : xFrm f J c B nm t = .error (eK J t, t) := by
  unfold xFrm
  by_cases h2 : J 7 t = 2
  · have no : ∀ k : Int32, 1 ≤ k.toInt → k.toInt ≤ 7 → ¬ kwF (J 10 t) = k := fun k k1 k7 z => h ⟨h2, by rw [z]; exact ⟨k1, k7⟩⟩
    rw [if_pos h2, if_neg (no 1 (by decide) (by decide)), if_neg (no 7 (by decide) (by decide)), if_neg (no 2 (by decide) (by decide)), if_neg (no 3 (by decide) (by decide)), if_neg (no 4 (by decide) (by decide)), if_neg (no 5 (by decide) (by decide)), if_neg (no 6 (by decide) (by decide)), eK_w h2]
  · rw [if_neg h2]
theorem xLin_e {e : Int32 × Nat} (h : xLn1 f J c B t = .error e) : xLin f J c B t = .error e := by
  unfold xLin
  rw [h]
  rfl
theorem xLin_s (h : xLn1 f J c B t = .ok (u, B')) (h5 : ¬ J 7 u = 5) : xLin f J c B t = .error (eK J u, u) := by
  unfold xLin
  rw [h]
  exact if_neg h5
theorem xLin_o (h : xLn1 f J c B t = .ok (u, B')) (h5 : J 7 u = 5) : xLin f J c B t = .ok (u + 1, B') := by
  unfold xLin
  rw [h]
  exact if_pos h5
theorem k7 {x : Int32} (h1 : 1 ≤ x.toInt) (h7 : x.toInt ≤ 7) : x = 1 ∨ x = 2 ∨ x = 3 ∨ x = 4 ∨ x = 5 ∨ x = 6 ∨ x = 7 := by
  have e : ∀ y : Int32, x.toInt = y.toInt → x = y := fun y q => (i_eq _ _).mpr q
  rcases (show x.toInt = 1 ∨ x.toInt = 2 ∨ x.toInt = 3 ∨ x.toInt = 4 ∨ x.toInt = 5 ∨ x.toInt = 6 ∨ x.toInt = 7 by omega) with q | q | q | q | q | q | q
  · exact Or.inl (e 1 q)
  · exact Or.inr (Or.inl (e 2 q))
  · exact Or.inr (Or.inr (Or.inl (e 3 q)))
  · exact Or.inr (Or.inr (Or.inr (Or.inl (e 4 q))))
  · exact Or.inr (Or.inr (Or.inr (Or.inr (Or.inl (e 5 q)))))
  · exact Or.inr (Or.inr (Or.inr (Or.inr (Or.inr (Or.inl (e 6 q))))))
  · exact Or.inr (Or.inr (Or.inr (Or.inr (Or.inr (Or.inr (e 7 q))))))
theorem B_readLineX (hb : isB b) (S : stX (fun j => J 2 j) T J n c) (hJ : J 6 4 = nI (c + 1)) (ok : B.ok) (hc : cC b J I t) (ht : t < c) (hB : cBp b B I) (hS : cBs b B I) (hT : cBt b I) (kB : ∀ k u, xLin (fun j => J 2 j) J c B t = .error (k, u) → ∀ I', cL b J I' → I' 5 4 = k → I' 5 5 = J 8 u → Q [.int 0] (I', L, g_R s, 306)) (kO : ∀ u B', xLin (fun j => J 2 j) J c B t = .ok (u, B') → ∀ I', cC b J I' u → cBp b B' I' → cBs b B' I' → cBt b I' → Q [.int 1] (I', L, g_R s, 306)) : pm_W (g_P ys) 31 0 [.ref 5, .ref 1, .ref b, .retAddr 0, .retAddr 0, .retAddr 0, .retAddr 0] [] (I, L, g_R s, 306) (0, 0) Q := by
  have bb := isB_b hb
  have hn8 := S.2.2
  have cn : c ≤ n := S.1.2.1
  have p6 := ok.1
  obtain ⟨I1, hI1⟩ : ∃ I1, I1 = pm_u I 5 2 (nI 0) := ⟨_, rfl⟩
  have o1 : ∀ a j, ¬ (a = 5 ∧ j = 2) → I1 a j = I a j := fun a j h => by rw [hI1]; exact pu_x h
  have hc1 : cC b J I1 t := ⟨fun a j h1 h2 h3 => (o1 a j (by omega)).trans (hc.1 a j h1 h2 h3), (o1 _ _ (by omega)).trans hc.2.1, (o1 _ _ (by omega)).trans hc.2.2.1, (o1 _ _ (by omega)).trans hc.2.2.2⟩
  have hg1 : I1 5 2 = nI 0 := by rw [hI1, pu_s]
  have hB1 : cBp b B I1 := cBp_6 hB (fun a j h => o1 a j (by omega)) p6
  have hS1 : cBs b B I1 := cBs_o hb hS (fun a j h1 h2 => o1 a j (by omega))
  have hT1 : cBt b I1 := cBt_o hT (fun j => o1 _ _ (by omega))
  refine ps_aload rfl rfl ?_
  refine ps_gfi 2 3 rfl rfl rfl rfl rfl ?_
  rw [show ((I, L, g_R s, 306) : pm_H).1 5 3 = nI t from hc.2.1]
  refine ps_istore rfl rfl ?_
  refine ps_aload rfl rfl ?_
  refine pw_c rfl ?_
  refine ps_pfi 2 2 rfl rfl rfl rfl rfl ?_
  show pm_W _ _ _ _ _ (pm_u I 5 2 (nI 0), L, g_R s, 306) _ _
  rw [← hI1]
  refine ps_aload rfl rfl ?_
  refine ps_aload rfl rfl ?_
  refine pw_k rfl rfl rfl rfl ⟨Nat.zero_le _, Nat.zero_le _⟩ ?_
  refine B_lineWordX hb hc1 (by omega) hB1.1 hS1.1 ok (fun z I' c1 c2 c3 => ?_) (fun h2 z I' c1 c2 c3 => ?_) (fun h2 hw nf => ?_)
  · refine ps_iff rfl (rfl) ?_
    refine pw_c rfl ?_
    refine ps_zret rfl rfl (Or.inl rfl) ?_
    exact kB _ _ (xLin_e (xLn1_no z)) I' c1 c2 c3
  · refine ps_iff rfl (rfl) ?_
    refine pw_c rfl ?_
    refine ps_zret rfl rfl (Or.inl rfl) ?_
    exact kB _ _ (xLin_e (xLn1_full h2 z)) I' c1 c2 c3
  have hc2 := nxt_C hc1
  obtain ⟨I2, hI2⟩ : ∃ I2, I2 = nxtI I1 t := ⟨_, rfl⟩
  have hB2 : cBp b B I2 := by rw [hI2]; exact nxt_B hb hB1 p6
  have hS2 : cBs b B I2 := by rw [hI2]; exact nxt_S hb hS1
  have hT2 : cBt b I2 := by rw [hI2]; exact nxt_T hb hT1
  have hg2 : I2 5 2 = nI 0 := by rw [hI2]; exact (pu_n (by decide)).trans hg1
  rw [← hI2] at hc2 ⊢
  have e10 : I2 10 t = J 10 t := cL_r hb hc2.1 (by omega) (by omega) _
  refine ps_ift rfl (rfl) ?_
  refine ps_aload rfl rfl ?_
  refine ps_gfr 2 0 rfl rfl rfl rfl rfl (rfl) ?_
  refine ps_gfr 3 3 rfl rfl rfl rfl rfl (rfl) ?_
  refine ps_iload rfl rfl ?_
  refine ps_iald (t) rfl rfl rfl (rfl) (by omega) ?_
  rw [show ((I2, L, g_R s, 306) : pm_H).1 10 t = J 10 t from e10]
  refine pw_k rfl rfl rfl rfl ⟨Nat.zero_le _, Nat.zero_le _⟩ ?_
  refine B_kwX (J 10 t) ?_
  have tl : ∀ u B', xLn1 (fun j => J 2 j) J c B t = .ok (u, B') → ¬ J 7 u = 5 → ∀ I', cL b J I' → I' 5 4 = eK J u → I' 5 5 = J 8 u → Q [.int 0] (I', L, g_R s, 306) := fun u B' e h5 I' c1 c2 c3 => kB _ _ (xLin_s e h5) I' c1 c2 c3
  have to : ∀ u B', xLn1 (fun j => J 2 j) J c B t = .ok (u, B') → J 7 u = 5 → ∀ I', cC b J I' (u + 1) → cBp b B' I' → cBs b B' I' → cBt b I' → Q [.int 1] (I', L, g_R s, 306) := fun u B' e h5 I' d1 d2 d3 d4 => kO _ _ (xLin_o e h5) I' d1 d2 d3 d4
  have te : ∀ k u, xLn1 (fun j => J 2 j) J c B t = .error (k, u) → ∀ I', cL b J I' → I' 5 4 = k → I' 5 5 = J 8 u → Q [.int 0] (I', L, g_R s, 306) := fun k u e I' c1 c2 c3 => kB _ _ (xLin_e e) I' c1 c2 c3
  rcases hw with hw | hw | hw | hw | hw | hw
  · have lt : B.ps < 6 := Decidable.byContradiction (fun z => nf (by rw [hw]; exact Or.inl ⟨rfl, z⟩))
    have x0 : xLn1 (fun j => J 2 j) J c B t = xPlt (fun j => J 2 j) J c B t := by
      unfold xLn1
      rw [if_pos h2, if_pos hw]
    obtain ⟨p, hp⟩ : ∃ p, p = b + 17 + 4 * B.ps := ⟨_, rfl⟩
    rw [hw]
    refine ps_istore rfl rfl ?_
    refine ps_iload rfl rfl ?_
    refine ps_iff rfl (rfl) ?_
    refine ps_aload rfl rfl ?_
    refine ps_aload rfl rfl ?_
    refine pw_k rfl rfl rfl rfl ⟨Nat.zero_le _, Nat.zero_le _⟩ ?_
    refine B_newNameX hb hc2 (by omega) hB2 lt (fun k u e I' c1 c2 c3 => ?_) (fun nm e => ?_)
    · refine ps_ift rfl (rfl) ?_
      refine pw_c rfl ?_
      refine ps_zret rfl rfl (Or.inl rfl) ?_
      exact te _ _ (x0.trans (xPlt_e lt e)) I' c1 c2 c3
    rw [← hp]
    have x1 : xLn1 (fun j => J 2 j) J c B t = (xFrm (fun j => J 2 j) J c B nm (t + 2)).bind fun p => .ok (p.1, B.adP p.2) := x0.trans (xPlt_o lt e)
    have t1 : t + 1 < c := by
      refine tk_lt S (by omega) ?_
      unfold xNew at e
      split at e
      · rename_i z
        rw [z.1]
        decide
      · cases e
    obtain ⟨I3, hI3⟩ : ∃ I3, I3 = nxtI (pm_u I2 p 3 nm) (t + 1) := ⟨_, rfl⟩
    have f3 : cM p I2 I3 := by rw [hI3]; exact cM_t (cM_u cM_0 (by omega)) nxt_M
    have hc3 : cC b J I3 (t + 2) := by
      rw [hI3]
      refine nxt_C (t := t + 1) ⟨cL_u hc2.1 (by omega), (pu_o (by omega)).trans hc2.2.1, (pu_o (by omega)).trans hc2.2.2.1, (pu_o (by omega)).trans hc2.2.2.2⟩
    have hg3 : I3 5 2 = nI 0 := by rw [hI3]; exact (pu_n (by decide)).trans ((pu_o (by omega)).trans hg2)
    have hN3 : I3 p 3 = nm := by rw [hI3]; exact (pu_o (by omega)).trans pu_s
    rw [← hI3]
    refine ps_iff rfl (rfl) ?_
    refine ps_aload rfl rfl ?_
    refine pw_k rfl rfl rfl rfl ⟨Nat.zero_le _, Nat.zero_le _⟩ ?_
    refine B_formWordX hb hc3 (by omega) (fun z I' c1 c2 c3 => ?_) (fun h2' k1 k7' => ?_)
    · refine ps_iff rfl (rfl) ?_
      refine pw_c rfl ?_
      refine ps_zret rfl rfl (Or.inl rfl) ?_
      exact te _ _ (by rw [x1, xFrm_no z]; rfl) I' c1 c2 c3
    have t2 := tk_lt S (t := t + 2) (by omega) (by rw [h2']; decide)
    obtain ⟨I4, hI4⟩ : ∃ I4, I4 = nxtI I3 (t + 2) := ⟨_, rfl⟩
    have hc4 : cC b J I4 (t + 2 + 1) := by rw [hI4]; exact nxt_C hc3
    have f4 : cM p I2 I4 := by rw [hI4]; exact cM_t f3 nxt_M
    have hg4 : I4 5 2 = nI 0 := by rw [hI4]; exact (pu_n (by decide)).trans hg3
    have hN4 : I4 p 3 = nm := by rw [hI4]; exact (nxt_o (by omega)).trans hN3
    have hB4 : cBp b B I4 := cBp_M hb hp hB2 f4
    have hS4 : cBs b B I4 := cBs_o hb hS2 (fun a j h1 h2 => f4 a j (by omega) (by omega) (by omega))
    have hT4 : cBt b I4 := cBt_o hT2 (fun j => f4 _ _ (by omega) (by omega) (by omega))
    have e104 : I4 10 (t + 2) = J 10 (t + 2) := cL_r hb hc4.1 (by omega) (by omega) _
    rw [← hI4]
    refine ps_ift rfl (rfl) ?_
    refine ps_aload rfl rfl ?_
    refine ps_gfr 2 0 rfl rfl rfl rfl rfl (rfl) ?_
    refine ps_gfr 3 3 rfl rfl rfl rfl rfl (rfl) ?_
    refine ps_aload rfl rfl ?_
    refine ps_gfi 2 3 rfl rfl rfl rfl rfl ?_
    rw [show ((I4, L, g_R s, 306) : pm_H).1 5 3 = nI (t + 2 + 1) from hc4.2.1]
    refine pw_c rfl ?_
    refine ps_ar rfl rfl rfl rfl rfl ?_
    rw [show nI (t + 2 + 1) - (1 : Int32) = nI (t + 2) from nI_sub (b := 1) (by omega)]
    refine ps_iald (t + 2) rfl rfl rfl (rfl) (by omega) ?_
    rw [show ((I4, L, g_R s, 306) : pm_H).1 10 (t + 2) = J 10 (t + 2) from e104]
    refine pw_k rfl rfl rfl rfl ⟨Nat.zero_le _, Nat.zero_le _⟩ ?_
    refine B_kwX (J 10 (t + 2)) ?_
    have fe : ∀ k u, xFrm (fun j => J 2 j) J c B nm (t + 2) = .error (k, u) → ∀ I', cL b J I' → I' 5 4 = k → I' 5 5 = J 8 u → Q [.int 0] (I', L, g_R s, 306) := fun k u e I' c1 c2 c3 => te _ _ (by rw [x1, e]; rfl) I' c1 c2 c3
    have fs : ∀ u P, xFrm (fun j => J 2 j) J c B nm (t + 2) = .ok (u, P) → ¬ J 7 u = 5 → ∀ I', cL b J I' → I' 5 4 = eK J u → I' 5 5 = J 8 u → Q [.int 0] (I', L, g_R s, 306) := fun u P e h5 I' c1 c2 c3 => tl u (B.adP P) (by rw [x1, e]; rfl) h5 I' c1 c2 c3
    have fo : ∀ u P, xFrm (fun j => J 2 j) J c B nm (t + 2) = .ok (u, P) → J 7 u = 5 → ∀ I', cC b J I' (u + 1) → cBp b (B.adP P) I' → cBs b B I' → cBt b I' → Q [.int 1] (I', L, g_R s, 306) := fun u P e h5 I' d1 d2 d3 d4 => to u (B.adP P) (by rw [x1, e]; rfl) h5 I' d1 d2 d3 d4
    rcases k7 k1 k7' with q | q | q | q | q | q | q
    all_goals rw [q]
    all_goals
      refine ps_istore rfl rfl ?_
    · exact rl_row hb S hJ ok lt hp hc4 t2 (by omega) hB4 hS4 hT4 hN4 hg4 h2' q fe fs fo
    · exact rl_bit hb S hJ ok lt hp hc4 t2 (by omega) hB4 hS4 hT4 hN4 hg4 h2' q fe fs fo
    · exact rl_set hb S hJ ok lt hp hc4 t2 (by omega) hB4 hS4 hT4 hN4 hg4 h2' q fe fs fo
    · exact rl_turn hb S hJ ok lt hp hc4 t2 (by omega) hB4 hS4 hT4 hN4 hg4 h2' q fe fs fo
    · exact rl_neg hb S hJ ok lt hp hc4 t2 (by omega) hB4 hS4 hT4 hN4 hg4 h2' q fe fs fo
    · exact rl_both hb S hJ ok lt hp hc4 t2 (by omega) hB4 hS4 hT4 hN4 hg4 h2' q fe fs fo
    · exact rl_sq hb S hJ ok lt hp hc4 t2 (by omega) hB4 hS4 hT4 hN4 hg4 h2' q fe fs fo
  · have lt : B.n 0 < mst 0 := Decidable.byContradiction (fun z => nf (by rw [hw]; exact Or.inr (Or.inl ⟨rfl, z⟩)))
    rw [hw]
    refine ps_istore rfl rfl ?_
    refine ps_iload rfl rfl ?_
    refine ps_ift rfl (rfl) ?_
    exact rl_source lt hb S ok hc2 ht hB2 hS2 hT2 hg2 h2 hw te tl to
  · have lt : B.n 1 < mst 1 := Decidable.byContradiction (fun z => nf (by rw [hw]; exact Or.inr (Or.inr (Or.inl ⟨rfl, z⟩))))
    rw [hw]
    refine ps_istore rfl rfl ?_
    refine ps_iload rfl rfl ?_
    refine ps_ift rfl (rfl) ?_
    exact rl_lost lt hb S ok hc2 ht hB2 hS2 hT2 hg2 h2 hw te tl to
  · have lt : B.n 2 < mst 2 := Decidable.byContradiction (fun z => nf (by rw [hw]; exact Or.inr (Or.inr (Or.inr ⟨rfl, z⟩))))
    rw [hw]
    refine ps_istore rfl rfl ?_
    refine ps_iload rfl rfl ?_
    refine ps_ift rfl (rfl) ?_
    exact rl_stray lt hb S ok hc2 ht hB2 hS2 hT2 hg2 h2 hw te tl to
  · rw [hw]
    refine ps_istore rfl rfl ?_
    refine ps_iload rfl rfl ?_
    refine ps_ift rfl (rfl) ?_
    exact rl_back hb S ok hc2 ht hB2 hS2 hT2 hg2 h2 hw te tl to
  · rw [hw]
    refine ps_istore rfl rfl ?_
    refine ps_iload rfl rfl ?_
    refine ps_ift rfl (rfl) ?_
    exact rl_use hb S ok hc2 ht hB2 hS2 hT2 hg2 h2 hw te tl to
end LF
