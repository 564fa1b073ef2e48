/-! BY HAND: how the class reads a text, exactly, tenth: a text, load -/
section LG
variable {I I' I2 J : Nat → Nat → Int32} {L : Nat → Nat → Int64} {s : Nat → Option Nat} {Q : List Value → pm_H → Prop} {ys : List Int32} {B B' : sB} {b n c t p g u : Nat} {T : Nat → Int32}
theorem B_clearX (hb : isB b) (kk : ∀ I', (∀ a j, ¬ (b ≤ a ∧ a ≤ b + 15) → I' a j = I a j) → cBp b B0 I' → cBs b B0 I' → cBt b I' → Q [] (I', L, g_R s, 306)) : pm_W (g_P ys) 20 0 [.ref b] [] (I, L, g_R s, 306) (0, 0) Q := by
  obtain ⟨hS0, hS1, hS2, hS3, hS4, hR0, hR1, hR2, hR3, hR4, hR5, hR6, hR7⟩ := bn_F (ys := ys) (s := s) hb
  have hS5 : ∀ I L, pm_sh (g_P ys) (I, L, g_R s, 306) (b + 3) = some (.inl 6) := (mk_F (ys := ys) (s := s) hb (q := 0) (by omega)).1
  have hS6 : ∀ I L, pm_sh (g_P ys) (I, L, g_R s, 306) (b + 7) = some (.inl 6) := (mk_F (ys := ys) (s := s) hb (q := 1) (by omega)).1
  have hS7 : ∀ I L, pm_sh (g_P ys) (I, L, g_R s, 306) (b + 11) = some (.inl 6) := (mk_F (ys := ys) (s := s) hb (q := 2) (by omega)).1
  refine ps_aload rfl rfl ?_
  refine ps_gfr 8 1 rfl rfl rfl (by first | exact hS0 _ _ | exact hS1 _ _ | exact hS2 _ _ | exact hS3 _ _ | exact hS4 _ _ | exact hS5 _ _ | exact hS6 _ _ | exact hS7 _ _ | exact hS8 _ _ | exact hS9 _ _ | exact hS10 _ _ | exact hS11 _ _ | exact hS12 _ _ | exact hS13 _ _ | assumption | rfl) rfl (by first | assumption | rfl) ?_
  refine pv_k rfl rfl rfl rfl rfl (hS2 _ _) rfl ⟨Nat.zero_le _, Nat.zero_le _⟩ ?_
  refine ps_aload rfl rfl ?_
  refine ps_gfr 5 0 rfl rfl rfl (by first | exact hS0 _ _ | exact hS1 _ _ | exact hS2 _ _ | exact hS3 _ _ | exact hS4 _ _ | exact hS5 _ _ | exact hS6 _ _ | exact hS7 _ _ | exact hS8 _ _ | exact hS9 _ _ | exact hS10 _ _ | exact hS11 _ _ | exact hS12 _ _ | exact hS13 _ _ | assumption | rfl) rfl (by first | assumption | rfl) ?_
  refine pw_c rfl ?_
  refine ps_pfi 6 3 rfl rfl rfl (by first | exact hS0 _ _ | exact hS1 _ _ | exact hS2 _ _ | exact hS3 _ _ | exact hS4 _ _ | exact hS5 _ _ | exact hS6 _ _ | exact hS7 _ _ | exact hS8 _ _ | exact hS9 _ _ | exact hS10 _ _ | exact hS11 _ _ | exact hS12 _ _ | exact hS13 _ _ | assumption | rfl) rfl ?_
  refine ps_aload rfl rfl ?_
  refine ps_gfr 5 1 rfl rfl rfl (by first | exact hS0 _ _ | exact hS1 _ _ | exact hS2 _ _ | exact hS3 _ _ | exact hS4 _ _ | exact hS5 _ _ | exact hS6 _ _ | exact hS7 _ _ | exact hS8 _ _ | exact hS9 _ _ | exact hS10 _ _ | exact hS11 _ _ | exact hS12 _ _ | exact hS13 _ _ | assumption | rfl) rfl (by first | assumption | rfl) ?_
  refine pw_c rfl ?_
  refine ps_pfi 6 3 rfl rfl rfl (by first | exact hS0 _ _ | exact hS1 _ _ | exact hS2 _ _ | exact hS3 _ _ | exact hS4 _ _ | exact hS5 _ _ | exact hS6 _ _ | exact hS7 _ _ | exact hS8 _ _ | exact hS9 _ _ | exact hS10 _ _ | exact hS11 _ _ | exact hS12 _ _ | exact hS13 _ _ | assumption | rfl) rfl ?_
  refine ps_aload rfl rfl ?_
  refine ps_gfr 5 2 rfl rfl rfl (by first | exact hS0 _ _ | exact hS1 _ _ | exact hS2 _ _ | exact hS3 _ _ | exact hS4 _ _ | exact hS5 _ _ | exact hS6 _ _ | exact hS7 _ _ | exact hS8 _ _ | exact hS9 _ _ | exact hS10 _ _ | exact hS11 _ _ | exact hS12 _ _ | exact hS13 _ _ | assumption | rfl) rfl (by first | assumption | rfl) ?_
  refine pw_c rfl ?_
  refine ps_pfi 6 3 rfl rfl rfl (by first | exact hS0 _ _ | exact hS1 _ _ | exact hS2 _ _ | exact hS3 _ _ | exact hS4 _ _ | exact hS5 _ _ | exact hS6 _ _ | exact hS7 _ _ | exact hS8 _ _ | exact hS9 _ _ | exact hS10 _ _ | exact hS11 _ _ | exact hS12 _ _ | exact hS13 _ _ | assumption | rfl) rfl ?_
  refine ps_aload rfl rfl ?_
  refine pw_c rfl ?_
  refine ps_pfi 5 3 rfl rfl rfl (by first | exact hS0 _ _ | exact hS1 _ _ | exact hS2 _ _ | exact hS3 _ _ | exact hS4 _ _ | exact hS5 _ _ | exact hS6 _ _ | exact hS7 _ _ | exact hS8 _ _ | exact hS9 _ _ | exact hS10 _ _ | exact hS11 _ _ | exact hS12 _ _ | exact hS13 _ _ | assumption | rfl) rfl ?_
  refine ps_aload rfl rfl ?_
  refine pw_c rfl ?_
  refine ps_pfi 5 4 rfl rfl rfl (by first | exact hS0 _ _ | exact hS1 _ _ | exact hS2 _ _ | exact hS3 _ _ | exact hS4 _ _ | exact hS5 _ _ | exact hS6 _ _ | exact hS7 _ _ | exact hS8 _ _ | exact hS9 _ _ | exact hS10 _ _ | exact hS11 _ _ | exact hS12 _ _ | exact hS13 _ _ | assumption | rfl) rfl ?_
  refine ps_vret rfl rfl ?_
  refine ps_aload rfl rfl ?_
  refine ps_gfr 8 2 rfl rfl rfl (by first | exact hS0 _ _ | exact hS1 _ _ | exact hS2 _ _ | exact hS3 _ _ | exact hS4 _ _ | exact hS5 _ _ | exact hS6 _ _ | exact hS7 _ _ | exact hS8 _ _ | exact hS9 _ _ | exact hS10 _ _ | exact hS11 _ _ | exact hS12 _ _ | exact hS13 _ _ | assumption | rfl) rfl (by first | assumption | rfl) ?_
  refine pv_k rfl rfl rfl rfl rfl (hS3 _ _) rfl ⟨Nat.zero_le _, Nat.zero_le _⟩ ?_
  refine ps_aload rfl rfl ?_
  refine pw_c rfl ?_
  refine ps_pfi 1 1 rfl rfl rfl (by first | exact hS0 _ _ | exact hS1 _ _ | exact hS2 _ _ | exact hS3 _ _ | exact hS4 _ _ | exact hS5 _ _ | exact hS6 _ _ | exact hS7 _ _ | exact hS8 _ _ | exact hS9 _ _ | exact hS10 _ _ | exact hS11 _ _ | exact hS12 _ _ | exact hS13 _ _ | assumption | rfl) rfl ?_
  refine ps_vret rfl rfl ?_
  refine ps_aload rfl rfl ?_
  refine pw_c rfl ?_
  refine ps_pfi 8 3 rfl rfl rfl (by first | exact hS0 _ _ | exact hS1 _ _ | exact hS2 _ _ | exact hS3 _ _ | exact hS4 _ _ | exact hS5 _ _ | exact hS6 _ _ | exact hS7 _ _ | exact hS8 _ _ | exact hS9 _ _ | exact hS10 _ _ | exact hS11 _ _ | exact hS12 _ _ | exact hS13 _ _ | assumption | rfl) rfl ?_
  refine ps_vret rfl rfl ?_
  refine kk (pm_u (pm_u (pm_u (pm_u (pm_u (pm_u (pm_u I (b + 3) 3 0) (b + 7) 3 0) (b + 11) 3 0) (b + 2) 3 0) (b + 2) 4 0) (b + 15) 1 0) b 3 0) (fun a j h => ?_) ⟨pu_s, fun k hk => absurd hk (by show ¬ k < 0; omega)⟩ ⟨fun q hq => ?_, ?_, ?_, fun q hq k hk => absurd hk (by show ¬ k < 0; omega)⟩ ⟨0, by omega, ?_⟩
  · rw [pu_o (by omega), pu_o (by omega), pu_o (by omega), pu_o (by omega), pu_o (by omega), pu_o (by omega), pu_o (by omega)]
  · rcases q3 hq with rfl | rfl | rfl
    · show pm_u _ b _ _ (b + 3) _ = 0
      rw [pu_o (by omega), pu_o (by omega), pu_o (by omega), pu_o (by omega), pu_o (by omega), pu_o (by omega), pu_s]
    · show pm_u _ b _ _ (b + 7) _ = 0
      rw [pu_o (by omega), pu_o (by omega), pu_o (by omega), pu_o (by omega), pu_o (by omega), pu_s]
    · show pm_u _ b _ _ (b + 11) _ = 0
      rw [pu_o (by omega), pu_o (by omega), pu_o (by omega), pu_o (by omega), pu_s]
  · show _ = 0
    rw [pu_o (by omega), pu_o (by omega), pu_n (by decide), pu_s]
  · show _ = 0
    rw [pu_o (by omega), pu_o (by omega), pu_s]
  · rw [pu_o (by omega), pu_s]
    rfl
theorem B_readX {tp : Nat} (hb : isB b) (hl : I 1 1 = nI tp) (h8 : tp ≤ 800) (hn : n ≤ tp) (hE : tpE (fun j => I 2 j) T n)
    (kB : ∀ c J, stX (fun j => J 2 j) T J n c → (∀ a j, ¬ (b ≤ a ∧ a ≤ b + 40) → ¬ (5 ≤ a ∧ a ≤ 11) → J a j = I a j) → ∀ k u, xTxt (fun j => J 2 j) J c c B0 0 = .error (k, u) → ∀ I', cL b J I' → I' 5 4 = k → I' 5 5 = J 8 u → Q [.int 0] (I', L, g_R s, 306))
    (kO : ∀ c J, stX (fun j => J 2 j) T J n c → (∀ a j, ¬ (b ≤ a ∧ a ≤ b + 40) → ¬ (5 ≤ a ∧ a ≤ 11) → J a j = I a j) → ∀ B', xTxt (fun j => J 2 j) J c c B0 0 = .ok B' → B'.ok → ∀ I', cL b J I' → I' 5 4 = 0 → I' 5 5 = -1 → cBp b B' I' → cBs b B' I' → Q [.int 1] (I', L, g_R s, 306)) : pm_W (g_P ys) 19 0 [.ref 5, .ref 1, .int (nI n), .ref b, .retAddr 0] [] (I, L, g_R s, 306) (0, 0) Q := by
  obtain ⟨hS0, hS1, hS2, hS3, hS4, hR0, hR1, hR2, hR3, hR4, hR5, hR6, hR7⟩ := bn_F (ys := ys) (s := s) hb
  have bb := isB_b hb
  refine ps_aload rfl rfl ?_
  refine pv_k rfl rfl rfl rfl rfl (hS0 _ _) rfl ⟨Nat.zero_le _, Nat.zero_le _⟩ ?_
  refine B_clearX hb (fun I1 f1 p1 s1 t1 => ?_)
  refine ps_aload rfl rfl ?_
  refine ps_gfr 2 0 rfl rfl rfl rfl rfl (rfl) ?_
  refine ps_aload rfl rfl ?_
  refine ps_iload rfl rfl ?_
  refine pw_k rfl rfl rfl rfl ⟨Nat.zero_le _, Nat.zero_le _⟩ ?_
  refine B_split (x := n) (ln := tp) (by omega) ((f1 _ _ (by omega)).trans hl) h8 (fun c J tk => ?_)
  rw [show min n tp = n by omega] at tk
  obtain ⟨k1, k2, k3, k4, k5, k6, k7, k8, k9, k10⟩ := tk
  have e2 : (fun j => I1 2 j) = (fun j => J 2 j) := by
    funext j
    exact (k1 _ _ (by omega) (by omega)).symm
  have e2' : (fun j => I 2 j) = (fun j => J 2 j) := by
    rw [← e2]
    funext j
    exact (f1 _ _ (by omega)).symm
  rw [e2] at k3
  rw [e2'] at hE
  have S : stX (fun j => J 2 j) T J n c := ⟨⟨k3, k4, k5, fun j h1 h2 => by
    have z := k6 j h1 h2
    rw [show I1 2 j = J 2 j from congrFun e2 j] at z
    exact z, k7, k8, k9, k10⟩, hE, by omega⟩
  have fJ : ∀ a j, ¬ (b ≤ a ∧ a ≤ b + 40) → ¬ (5 ≤ a ∧ a ≤ 11) → J a j = I a j := fun a j h1 h2 => (k1 a j (by omega) (by omega)).trans (f1 a j (by omega))
  have p1' : cBp b B0 J := cBp_6 p1 (fun a j h => k1 a j (by omega) (by omega)) B0_ok.1
  have s1' : cBs b B0 J := cBs_o hb s1 (fun a j h1 h2 => k1 a j (by omega) (by omega))
  have t1' : cBt b J := cBt_o t1 (fun j => k1 _ _ (by omega) (by omega))
  refine ps_aload rfl rfl ?_
  refine pw_c rfl ?_
  refine ps_pfi 2 3 rfl rfl rfl rfl rfl ?_
  refine ps_aload rfl rfl ?_
  refine pw_c rfl ?_
  refine ps_pfi 2 4 rfl rfl rfl rfl rfl ?_
  refine ps_aload rfl rfl ?_
  refine pw_c rfl ?_
  refine ps_pfi 2 5 rfl rfl rfl rfl rfl ?_
  refine pw_c rfl ?_
  refine ps_istore rfl rfl ?_
  show pm_W _ _ _ [.ref 5, .ref 1, .int (nI n), .ref b, .int (nI 0)] _ (pm_u (pm_u (pm_u J 5 3 0) 5 4 0) 5 5 (-1), L, g_R s, 306) _ _
  have go : ∀ d t i B I', c - t ≤ d → t ≤ c → i ≤ t → cC b J I' t → B.ok → cBp b B I' → cBs b B I' → cBt b I' → xTxt (fun j => J 2 j) J c c B0 0 = xTxt (fun j => J 2 j) J c d B t → pm_W (g_P ys) 19 31 [.ref 5, .ref 1, .int (nI n), .ref b, .int (nI i)] [] (I', L, g_R s, 306) (0, 0) Q := by
    intro d
    induction d with
    | zero =>
      intro t i B I' hd htc hi hc ok hp hs ht e
      have e64 : I' 6 4 = nI (c + 1) := (cL_r hb hc.1 (by omega) (by omega) _).trans k2
      have e7 : I' 7 t = 0 := (cL_r hb hc.1 (by omega) (by omega) _).trans (by rw [show t = c by omega]; exact k7)
      refine ps_iload rfl rfl ?_
      refine ps_aload rfl rfl ?_
      refine ps_gfr 2 0 rfl rfl rfl rfl rfl (rfl) ?_
      refine ps_gfi 3 4 rfl rfl rfl rfl rfl ?_
      rw [show ((I', L, g_R s, 306) : pm_H).1 6 4 = nI (c + 1) from e64]
      refine ps_icmpf rfl (decide_eq_false (nI_ge (by omega) (by omega))) ?_
      refine ps_aload rfl rfl ?_
      refine ps_gfr 2 0 rfl rfl rfl rfl rfl (rfl) ?_
      refine ps_gfr 3 0 rfl rfl rfl rfl rfl (rfl) ?_
      refine ps_aload rfl rfl ?_
      refine ps_gfi 2 3 rfl rfl rfl rfl rfl ?_
      refine ps_iald (t) rfl rfl rfl (hc.2.1) (by omega) ?_
      rw [show ((I', L, g_R s, 306) : pm_H).1 7 t = 0 from e7]
      refine ps_ift rfl (rfl) ?_
      refine pw_c rfl ?_
      refine ps_zret rfl rfl (Or.inr rfl) ?_
      exact kO c J S fJ B e ok I' hc.1 hc.2.2.1 hc.2.2.2 hp hs
    | succ d ih =>
      intro t i B I' hd htc hi hc ok hp hs ht e
      have e64 : I' 6 4 = nI (c + 1) := (cL_r hb hc.1 (by omega) (by omega) _).trans k2
      have e7 : I' 7 t = J 7 t := cL_r hb hc.1 (by omega) (by omega) _
      rw [xTxt] at e
      refine ps_iload rfl rfl ?_
      refine ps_aload rfl rfl ?_
      refine ps_gfr 2 0 rfl rfl rfl rfl rfl (rfl) ?_
      refine ps_gfi 3 4 rfl rfl rfl rfl rfl ?_
      rw [show ((I', L, g_R s, 306) : pm_H).1 6 4 = nI (c + 1) from e64]
      refine ps_icmpf rfl (decide_eq_false (nI_ge (by omega) (by omega))) ?_
      refine ps_aload rfl rfl ?_
      refine ps_gfr 2 0 rfl rfl rfl rfl rfl (rfl) ?_
      refine ps_gfr 3 0 rfl rfl rfl rfl rfl (rfl) ?_
      refine ps_aload rfl rfl ?_
      refine ps_gfi 2 3 rfl rfl rfl rfl rfl ?_
      refine ps_iald (t) rfl rfl rfl (hc.2.1) (by omega) ?_
      rw [show ((I', L, g_R s, 306) : pm_H).1 7 t = J 7 t from e7]
      by_cases j0 : J 7 t = 0
      · rw [if_pos j0] at e
        refine ps_ift rfl (decide_eq_true j0) ?_
        refine pw_c rfl ?_
        refine ps_zret rfl rfl (Or.inr rfl) ?_
        exact kO c J S fJ B e ok I' hc.1 hc.2.2.1 hc.2.2.2 hp hs
      · rw [if_neg j0] at e
        have tl := tk_lt S htc j0
        refine ps_iff rfl (decide_eq_false j0) ?_
        refine ps_aload rfl rfl ?_
        refine ps_aload rfl rfl ?_
        refine ps_aload rfl rfl ?_
        refine pw_k rfl rfl rfl rfl ⟨Nat.zero_le _, Nat.zero_le _⟩ ?_
        refine B_readLineX hb S k2 ok hc tl hp hs ht (fun k u ex I2 c1 c2 c3 => ?_) (fun u B' ex I2 d1 d2 d3 d4 => ?_)
        · rw [ex] at e
          refine ps_iff rfl (rfl) ?_
          refine pw_c rfl ?_
          refine ps_zret rfl rfl (Or.inl rfl) ?_
          exact kB c J S fJ k u e I2 c1 c2 c3
        · rw [ex] at e
          obtain ⟨z1, z2, z3⟩ := xLin_ok S tl ok ex
          have e : xTxt (fun j => J 2 j) J c c B0 0 = xTxt (fun j => J 2 j) J c d B' u := e
          refine ps_ift rfl (rfl) ?_
          refine ps_iinc rfl rfl ?_
          refine ps_goto rfl ?_
          rw [show nI i + Int32.ofInt 1 = nI (i + 1) from nI_1 i]
          exact ih u (i + 1) B' I2 (by omega) z2 (by omega) d1 z3 d2 d3 d4 e
  refine go c 0 0 B0 _ (by omega) (by omega) (by omega) ⟨cL_u (cL_u (cL_u cL_0 (by omega)) (by omega)) (by omega), ?_, ?_, pu_s⟩ B0_ok (cBp_6 p1' (fun a j h => ?_) B0_ok.1) (cBs_o hb s1' (fun a j h1 h2 => ?_)) (cBt_o t1' (fun j => ?_)) rfl
  · rw [pu_n (by decide), pu_n (by decide), pu_s]
    rfl
  · rw [pu_n (by decide), pu_s]
  · rw [pu_o (by omega), pu_o (by omega), pu_o (by omega)]
  · rw [pu_o (by omega), pu_o (by omega), pu_o (by omega)]
  · rw [pu_o (by omega), pu_o (by omega), pu_o (by omega)]
/-- where load writes, the bench that is spare being b -/
def clF (b : Nat) (I I' : Nat → Nat → Int32) : Prop := ∀ a j, ¬ (b ≤ a ∧ a ≤ b + 40) → ¬ (5 ≤ a ∧ a ≤ 11) → ¬ (a = 0 ∧ 10 ≤ j) → ¬ (a = 1 ∧ j = 1) → ¬ (a = 12 ∧ j = 2) → ¬ (a = 170 ∧ (j = 1 ∨ j = 2)) → ¬ (a = 255 ∧ j = 15) → I' a j = I a j
theorem B_loadX {tp b0 : Nat} (hb : isB b) (h0 : s 0 = some b0) (h1 : s 1 = some b) (hl : I 1 1 = nI tp) (h8 : tp ≤ 800) (hn : n ≤ tp) (hE : tpE (fun j => I 2 j) T n)
    (kB : ∀ c J, stX (fun j => I 2 j) T J n c → ∀ k u, xTxt (fun j => I 2 j) J c c B0 0 = .error (k, u) → ∀ I', (∀ a j, ¬ (b ≤ a ∧ a ≤ b + 40) → ¬ (5 ≤ a ∧ a ≤ 11) → ¬ (a = 0 ∧ 10 ≤ j) → ¬ (a = 1 ∧ j = 1) → I' a j = I a j) → I' 1 1 = 0 → I' 0 11 = k → I' 0 12 = J 8 u → Q [.int (-1)] (I', L, g_R s, 306))
    (kO : ∀ c J, stX (fun j => I 2 j) T J n c → ∀ B', xTxt (fun j => I 2 j) J c c B0 0 = .ok B' → B'.ok → ∀ I', clF b I I' → I' 1 1 = 0 → I' 0 11 = 0 → I' 0 12 = -1 → I' 12 2 = 0 → I' 170 1 = 0 → I' 170 2 = 0 → I' 255 15 = 0 → cBp b B' I' → cBs b B' I' → Q [.int (nI B'.ps)] (I', L, g_R (fun i => bif Nat.beq i 1 then some b0 else bif Nat.beq i 0 then some b else s i), 306)) : pm_W (g_P ys) 17 0 [.ref 0, .int (nI n), .retAddr 0, .retAddr 0] [] (I, L, g_R s, 306) (0, 0) Q := by
  have bb := isB_b hb
  refine ps_iload rfl rfl ?_
  refine ps_iff rfl (decide_eq_false (fun z => by have z := (i_lt _ _).mp z; rw [nI_toInt (by omega)] at z; have : (0 : Int32).toInt = 0 := rfl; omega)) ?_
  refine ps_iload rfl rfl ?_
  refine ps_aload rfl rfl ?_
  refine ps_gfr 0 0 rfl rfl rfl rfl rfl (rfl) ?_
  refine ps_gfi 1 1 rfl rfl rfl rfl rfl ?_
  rw [show ((I, L, g_R s, 306) : pm_H).1 1 1 = nI tp from hl]
  refine ps_icmpt rfl (decide_eq_true (nI_le (by omega) (by omega))) ?_
  refine ps_aload rfl rfl ?_
  refine ps_gfr 0 2 rfl rfl rfl rfl rfl ( rfl) ?_
  refine ps_aload rfl rfl ?_
  refine ps_gfr 0 0 rfl rfl rfl rfl rfl ( rfl) ?_
  refine ps_iload rfl rfl ?_
  refine ps_aload rfl rfl ?_
  refine ps_gfr 0 7 rfl rfl rfl rfl rfl ( h1) ?_
  refine pw_k rfl rfl rfl rfl ⟨Nat.zero_le _, Nat.zero_le _⟩ ?_
  refine B_readX hb hl h8 hn hE (fun c J S fJ k u e I1 c1 c2 c3 => ?_) (fun c J S fJ B' e ok I1 c1 c2 c3 p1 s1 => ?_)
  · have ef : (fun j => J 2 j) = (fun j => I 2 j) := funext fun j => fJ 2 j (by omega) (by omega)
    rw [ef] at S e
    have o1 : ∀ a j, ¬ (b ≤ a ∧ a ≤ b + 40) → ¬ (5 ≤ a ∧ a ≤ 11) → I1 a j = I a j := fun a j h1 h2 => (c1 a j h1 (by omega) (by omega)).trans (fJ a j h1 h2)
    refine ps_istore rfl rfl ?_
    refine ps_aload rfl rfl ?_
    refine ps_gfr 0 0 rfl rfl rfl rfl rfl (rfl) ?_
    refine pw_k rfl rfl rfl rfl ⟨Nat.zero_le _, Nat.zero_le _⟩ ?_
    refine ps_aload rfl rfl ?_
    refine pw_c rfl ?_
    refine ps_pfi 1 1 rfl rfl rfl rfl rfl ?_
    refine ps_vret rfl rfl ?_
    refine ps_aload rfl rfl ?_
    refine ps_aload rfl rfl ?_
    refine ps_gfr 0 2 rfl rfl rfl rfl rfl (rfl) ?_
    refine ps_gfi 2 4 rfl rfl rfl rfl rfl ?_
    show pm_W _ _ _ _ [.int (pm_u I1 1 1 0 5 4), .ref 0] (pm_u I1 1 1 0, L, g_R s, 306) _ _
    rw [pu_o (by decide), c2]
    refine ps_pfi 0 11 rfl rfl rfl rfl rfl ?_
    refine ps_aload rfl rfl ?_
    refine ps_aload rfl rfl ?_
    refine ps_gfr 0 2 rfl rfl rfl rfl rfl (rfl) ?_
    refine ps_gfi 2 5 rfl rfl rfl rfl rfl ?_
    show pm_W _ _ _ _ [.int (pm_u (pm_u I1 1 1 0) 0 11 k 5 5), .ref 0] (pm_u (pm_u I1 1 1 0) 0 11 k, L, g_R s, 306) _ _
    rw [pu_o (by decide), pu_o (by decide), c3]
    refine ps_pfi 0 12 rfl rfl rfl rfl rfl ?_
    refine ps_iload rfl rfl ?_
    refine ps_iff rfl (rfl) ?_
    refine ps_aload rfl rfl ?_
    refine pw_c rfl ?_
    refine pw_k rfl rfl rfl rfl ⟨Nat.zero_le _, Nat.zero_le _⟩ ?_
    refine B_refuse ?_
    refine ps_iret rfl rfl ?_
    refine kB c J S k u e _ (fun a j q1 q2 q3 q4 => ?_) ?_ ?_ ?_
    · show pm_u (pm_u (pm_u (pm_u I1 1 1 0) 0 11 k) 0 12 (J 8 u)) 0 10 9 a j = _
      rw [pu_x (fun z => q3 (by omega)), pu_x (fun z => q3 (by omega)), pu_x (fun z => q3 (by omega)), pu_x (fun z => q4 (by omega))]
      exact o1 a j q1 q2
    · show pm_u (pm_u (pm_u (pm_u I1 1 1 0) 0 11 k) 0 12 (J 8 u)) 0 10 9 1 1 = _
      rw [pu_o (by decide), pu_o (by decide), pu_o (by decide), pu_s]
    · show pm_u (pm_u (pm_u (pm_u I1 1 1 0) 0 11 k) 0 12 (J 8 u)) 0 10 9 0 _ = _
      rw [pu_n (by decide), pu_n (by decide), pu_s]
    · show pm_u (pm_u (pm_u (pm_u I1 1 1 0) 0 11 k) 0 12 (J 8 u)) 0 10 9 0 _ = _
      rw [pu_n (by decide), pu_s]
  · have ef : (fun j => J 2 j) = (fun j => I 2 j) := funext fun j => fJ 2 j (by omega) (by omega)
    rw [ef] at S e
    have o1 : ∀ a j, ¬ (b ≤ a ∧ a ≤ b + 40) → ¬ (5 ≤ a ∧ a ≤ 11) → I1 a j = I a j := fun a j h1 h2 => (c1 a j h1 (by omega) (by omega)).trans (fJ a j h1 h2)
    refine ps_istore rfl rfl ?_
    refine ps_aload rfl rfl ?_
    refine ps_gfr 0 0 rfl rfl rfl rfl rfl (rfl) ?_
    refine pw_k rfl rfl rfl rfl ⟨Nat.zero_le _, Nat.zero_le _⟩ ?_
    refine ps_aload rfl rfl ?_
    refine pw_c rfl ?_
    refine ps_pfi 1 1 rfl rfl rfl rfl rfl ?_
    refine ps_vret rfl rfl ?_
    refine ps_aload rfl rfl ?_
    refine ps_aload rfl rfl ?_
    refine ps_gfr 0 2 rfl rfl rfl rfl rfl (rfl) ?_
    refine ps_gfi 2 4 rfl rfl rfl rfl rfl ?_
    show pm_W _ _ _ _ [.int (pm_u I1 1 1 0 5 4), .ref 0] (pm_u I1 1 1 0, L, g_R s, 306) _ _
    rw [pu_o (by decide), c2]
    refine ps_pfi 0 11 rfl rfl rfl rfl rfl ?_
    refine ps_aload rfl rfl ?_
    refine ps_aload rfl rfl ?_
    refine ps_gfr 0 2 rfl rfl rfl rfl rfl (rfl) ?_
    refine ps_gfi 2 5 rfl rfl rfl rfl rfl ?_
    show pm_W _ _ _ _ [.int (pm_u (pm_u I1 1 1 0) 0 11 0 5 5), .ref 0] (pm_u (pm_u I1 1 1 0) 0 11 0, L, g_R s, 306) _ _
    rw [pu_o (by decide), pu_o (by decide), c3]
    refine ps_pfi 0 12 rfl rfl rfl rfl rfl ?_
    refine ps_iload rfl rfl ?_
    refine ps_ift rfl (rfl) ?_
    refine ps_aload rfl rfl ?_
    refine ps_gfr 0 6 rfl rfl rfl rfl rfl ( h0) ?_
    refine ps_astore rfl rfl ?_
    refine ps_aload rfl rfl ?_
    refine ps_aload rfl rfl ?_
    refine ps_gfr 0 7 rfl rfl rfl rfl rfl ( h1) ?_
    refine ps_pfr 0 6 rfl rfl rfl rfl rfl ?_
    refine ps_aload rfl rfl ?_
    refine ps_aload rfl rfl ?_
    refine ps_pfr 0 7 rfl rfl rfl rfl rfl ?_
    obtain ⟨I2, hI2⟩ : ∃ I2, I2 = pm_u (pm_u (pm_u I1 1 1 0) 0 11 0) 0 12 (-1) := ⟨_, rfl⟩
    show pm_W _ _ _ _ _ (pm_u (pm_u (pm_u I1 1 1 0) 0 11 0) 0 12 (-1), L, pm_u (pm_u (g_R s) 0 6 (some b)) 0 7 (some b0), 306) _ _
    rw [← hI2, xgR s b 0 6 0 (by simp), xgR _ b0 0 7 1 (by simp)]
    obtain ⟨s', hs'⟩ : ∃ s' : Nat → Option Nat, s' = (fun i => bif Nat.beq i 1 then some b0 else bif Nat.beq i 0 then some b else s i) := ⟨_, rfl⟩
    rw [← hs'] at kO ⊢
    have s0 : s' 0 = some b := by rw [hs']; rfl
    obtain ⟨hS0, hS1, hS2, hS3, hS4, hR0, hR1, hR2, hR3, hR4, hR5, hR6, hR7⟩ := bn_F (ys := ys) (s := s') hb
    refine ps_aload rfl rfl ?_
    refine ps_gfr 0 3 rfl rfl rfl rfl rfl (rfl) ?_
    refine pw_k rfl rfl rfl rfl ⟨Nat.zero_le _, Nat.zero_le _⟩ ?_
    refine ps_aload rfl rfl ?_
    refine pw_c rfl ?_
    refine ps_pfi 4 2 rfl rfl rfl rfl rfl ?_
    refine ps_vret rfl rfl ?_
    refine ps_aload rfl rfl ?_
    refine ps_gfr 0 4 rfl rfl rfl rfl rfl (rfl) ?_
    refine pw_k rfl rfl rfl rfl ⟨Nat.zero_le _, Nat.zero_le _⟩ ?_
    refine ps_aload rfl rfl ?_
    refine pw_c rfl ?_
    refine ps_pfi 7 1 rfl rfl rfl rfl rfl ?_
    refine ps_aload rfl rfl ?_
    refine pw_c rfl ?_
    refine ps_pfi 7 2 rfl rfl rfl rfl rfl ?_
    refine ps_vret rfl rfl ?_
    refine ps_aload rfl rfl ?_
    refine ps_gfr 0 8 rfl rfl rfl rfl rfl (rfl) ?_
    refine pw_k rfl rfl rfl rfl ⟨Nat.zero_le _, Nat.zero_le _⟩ ?_
    refine ps_aload rfl rfl ?_
    refine pw_c rfl ?_
    refine ps_pfz 10 15 rfl rfl rfl rfl rfl (Or.inl rfl) ?_
    refine ps_vret rfl rfl ?_
    refine ps_aload rfl rfl ?_
    refine ps_aload rfl rfl ?_
    refine ps_gfr 0 6 rfl rfl rfl (by first | exact hS0 _ _ | exact hS1 _ _ | exact hS2 _ _ | exact hS3 _ _ | exact hS4 _ _ | exact hS5 _ _ | exact hS6 _ _ | exact hS7 _ _ | exact hS8 _ _ | exact hS9 _ _ | exact hS10 _ _ | exact hS11 _ _ | exact hS12 _ _ | exact hS13 _ _ | assumption | rfl) rfl ( s0) ?_
    refine ps_gfi 8 3 rfl rfl rfl (by first | exact hS0 _ _ | exact hS1 _ _ | exact hS2 _ _ | exact hS3 _ _ | exact hS4 _ _ | exact hS5 _ _ | exact hS6 _ _ | exact hS7 _ _ | exact hS8 _ _ | exact hS9 _ _ | exact hS10 _ _ | exact hS11 _ _ | exact hS12 _ _ | exact hS13 _ _ | assumption | rfl) rfl ?_
    obtain ⟨I3, hI3⟩ : ∃ I3, I3 = pm_u (pm_u (pm_u (pm_u I2 12 2 0) 170 1 0) 170 2 0) 255 15 0 := ⟨_, rfl⟩
    show pm_W _ _ _ _ [.int (pm_u (pm_u (pm_u (pm_u I2 12 2 0) 170 1 0) 170 2 0) 255 15 0 b 3), .ref 0] (pm_u (pm_u (pm_u (pm_u I2 12 2 0) 170 1 0) 170 2 0) 255 15 0, L, g_R s', 306) _ _
    rw [← hI3]
    have o3 : ∀ a j, ¬ (a = 12 ∧ j = 2) → ¬ (a = 170 ∧ (j = 1 ∨ j = 2)) → ¬ (a = 255 ∧ j = 15) → I3 a j = I2 a j := fun a j q1 q2 q3 => by
      rw [hI3, pu_x (fun z => q3 (by omega)), pu_x (fun z => q2 (by omega)), pu_x (fun z => q2 (by omega)), pu_x (fun z => q1 (by omega))]
    have o2 : ∀ a j, ¬ (a = 1 ∧ j = 1) → ¬ (a = 0 ∧ (j = 11 ∨ j = 12)) → I2 a j = I1 a j := fun a j q1 q2 => by
      rw [hI2, pu_x (fun z => q2 (by omega)), pu_x (fun z => q2 (by omega)), pu_x (fun z => q1 (by omega))]
    have ob : ∀ a j, b ≤ a → a ≤ b + 40 → I3 a j = I1 a j := fun a j q1 q2 => (o3 a j (by omega) (by omega) (by omega)).trans (o2 a j (by omega) (by omega))
    rw [(ob b 3 (by omega) (by omega)).trans p1.1]
    refine pw_k rfl rfl rfl rfl ⟨Nat.zero_le _, Nat.zero_le _⟩ ?_
    refine B_answer ?_
    refine ps_iret rfl rfl ?_
    have os : ∀ a j, ¬ (a = 0 ∧ j = 10) → pm_u I3 0 10 0 a j = I3 a j := fun a j q => pu_x q
    refine kO c J S B' e ok _ (fun a j q1 q2 q3 q4 q5 q6 q7 => ?_) ?_ ?_ ?_ ?_ ?_ ?_ ?_ (cBp_6 p1 (fun a j h => (os _ _ (by omega)).trans (ob a j (by omega) (by omega))) ok.1) (cBs_o hb s1 (fun a j h1 h2 => (os _ _ (by omega)).trans (ob a j (by omega) (by omega))))
    · rw [os a j (by omega), o3 a j q5 q6 q7, o2 a j q4 (by omega)]
      exact o1 a j q1 q2
    · rw [os _ _ (by omega), o3 _ _ (by omega) (by omega) (by omega), hI2, pu_o (by decide), pu_o (by decide), pu_s]
    · rw [os _ _ (by omega), o3 _ _ (by omega) (by omega) (by omega), hI2, pu_n (by decide), pu_s]
    · rw [os _ _ (by omega), o3 _ _ (by omega) (by omega) (by omega), hI2, pu_s]
    · rw [os _ _ (by omega), hI3, pu_o (by decide), pu_o (by decide), pu_o (by decide), pu_s]
    · rw [os _ _ (by omega), hI3, pu_o (by decide), pu_n (by decide), pu_s]
    · rw [os _ _ (by omega), hI3, pu_o (by decide), pu_s]
    · rw [os _ _ (by omega), hI3, pu_s]
end LG
