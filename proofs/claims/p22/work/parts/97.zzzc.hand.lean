/-! BY HAND: the model's calls about shadows, fourth: match, best, worst, PLATES (printed by wip/src/gen97zzzc.py) -/
section UE
variable {I I' I1 I2 J : Nat → Nat → Int32} {L : Nat → Nat → Int64} {s : Nat → Option Nat} {Q : List Value → pm_H → Prop} {ys : List Int32} {k sh u : Nat} {ng : Bool} {P : sPl} {S : sS} {B : sB} {pc : sPc} {f g : Nat → Int32} {h : pm_H} {o : Nat}
theorem M_matchAtX {a b : Nat} {row : Nat → Int32} (hV : mV k P S 0 false I) (shd : ∀ i, i < P.w * P.v → I 297 i = shadF P S i) (pr : ∀ i, i < P.w * P.v → I 302 i = row i) (ha : a < 1000) (hb : b < 1000) (kk : Q [.long (suL (mtG P S row a b) (P.w * P.v))] (I, L, g_R s, 306)) : pm_W (g_P ys) 270 0 [.ref 275, .int (nI a), .int (nI b), .retAddr 0, .retAddr 0, .retAddr 0, .retAddr 0] [] (I, L, g_R s, 306) (0, 0) Q := by
  obtain ⟨wb, vb, w0, v0, n9⟩ := mV_b hV
  have outer : ∀ d y, y + d = P.v → ∀ u6 : Value, pm_W (g_P ys) 270 5 [.ref 275, .int (nI a), .int (nI b), .long (suL (mtG P S row a b) (P.w * y)), .retAddr 0, .int (nI y), u6] [] (I, L, g_R s, 306) (0, 0) Q := by
    intro d
    induction d with
    | zero =>
      intro y hy u6
      have ey : y = P.v := by omega
      subst ey
      refine ps_iload rfl rfl ?_
      refine ps_aload rfl rfl ?_
      refine pw_k rfl rfl rfl rfl ⟨Nat.zero_le _, Nat.zero_le _⟩ ?_
      refine M_highX hV ?_
      refine ps_icmpt rfl (decide_eq_true (nI_le (by omega) (by omega))) ?_
      refine ps_lload rfl rfl ?_
      refine ps_lret rfl rfl ?_
      exact kk
    | succ d ih =>
      intro y hy u6
      have inner : ∀ e x, x + e = P.w → pm_W (g_P ys) 270 17 [.ref 275, .int (nI a), .int (nI b), .long (suL (mtG P S row a b) (P.w * y + x)), .retAddr 0, .int (nI y), .int (nI x)] [] (I, L, g_R s, 306) (0, 0) Q := by
        intro e
        induction e with
        | zero =>
          intro x hx
          have ex : x = P.w := by omega
          subst ex
          refine ps_iload rfl rfl ?_
          refine ps_aload rfl rfl ?_
          refine pw_k rfl rfl rfl rfl ⟨Nat.zero_le _, Nat.zero_le _⟩ ?_
          refine M_wideX hV ?_
          refine ps_icmpt rfl (decide_eq_true (nI_le (by omega) (by omega))) ?_
          refine ps_iinc rfl rfl ?_
          refine ps_goto rfl ?_
          rw [show nI y + Int32.ofInt 1 = nI (y + 1) from nI_1 y]
          exact ih (y + 1) (by omega) _
        | succ e ihe =>
          intro x hx
          have b1 := (row_in (w := P.w) (v := P.v) (y := y) (x := x) (by omega) (by omega)).1
          have cl := cxy_lt (w := P.w) (v := P.v) w0 v0 ((x + a : Nat) : Int) ((y + b : Nat) : Int)
          obtain ⟨e1, e2⟩ := sq_ix (p := P.w) (x := x) (y := y) (by omega)
          have gl : mtG P S row a b (P.w * y + x) = (row (P.w * y + x)).toInt64 * (shadF P S (cxy P.w P.v ((x + a : Nat) : Int) ((y + b : Nat) : Int))).toInt64 := by
            unfold mtG
            rw [e1, e2]
          have z := ihe (x + 1) (by omega)
          rw [show P.w * y + (x + 1) = P.w * y + x + 1 from rfl, suL_s, gl] at z
          refine ps_iload rfl rfl ?_
          refine ps_aload rfl rfl ?_
          refine pw_k rfl rfl rfl rfl ⟨Nat.zero_le _, Nat.zero_le _⟩ ?_
          refine M_wideX hV ?_
          refine ps_icmpf rfl (decide_eq_false (nI_ge (by omega) (by omega))) ?_
          refine ps_lload rfl rfl ?_
          refine ps_aload rfl rfl ?_
          refine ps_gfr 11 38 rfl rfl rfl rfl rfl (rfl) ?_
          refine ps_aload rfl rfl ?_
          refine ps_iload rfl rfl ?_
          refine ps_iload rfl rfl ?_
          refine pw_k rfl rfl rfl rfl ⟨Nat.zero_le _, Nat.zero_le _⟩ ?_
          refine M_cellAtN hV (by omega) (by omega) ?_
          rw [cxy_inn (by omega) (by omega)]
          refine ps_iald (P.w * y + x) rfl rfl rfl (rfl) (by omega) ?_
          rw [show ((I, L, g_R s, 306) : pm_H).1 302 (P.w * y + x) = row (P.w * y + x) from pr _ b1]
          refine ps_ar rfl rfl rfl rfl rfl ?_
          refine ps_aload rfl rfl ?_
          refine ps_gfr 11 29 rfl rfl rfl rfl rfl (rfl) ?_
          refine ps_aload rfl rfl ?_
          refine ps_iload rfl rfl ?_
          refine ps_iload rfl rfl ?_
          refine ps_ar rfl rfl rfl rfl rfl ?_
          rw [nI_add]
          refine ps_iload rfl rfl ?_
          refine ps_iload rfl rfl ?_
          refine ps_ar rfl rfl rfl rfl rfl ?_
          rw [nI_add]
          refine pw_k rfl rfl rfl rfl ⟨Nat.zero_le _, Nat.zero_le _⟩ ?_
          refine M_cellAtN hV (by omega) (by omega) ?_
          refine ps_iald (cxy P.w P.v ((x + a : Nat) : Int) ((y + b : Nat) : Int)) rfl rfl rfl (rfl) (by omega) ?_
          rw [show ((I, L, g_R s, 306) : pm_H).1 297 (cxy P.w P.v ((x + a : Nat) : Int) ((y + b : Nat) : Int)) = shadF P S (cxy P.w P.v ((x + a : Nat) : Int) ((y + b : Nat) : Int)) from shd _ cl]
          refine ps_ar rfl rfl rfl rfl rfl ?_
          refine ps_ar rfl rfl rfl rfl rfl ?_
          refine ps_ar rfl rfl rfl rfl rfl ?_
          refine ps_lstore rfl rfl ?_
          refine ps_iinc rfl rfl ?_
          refine ps_goto rfl ?_
          rw [show nI x + Int32.ofInt 1 = nI (x + 1) from nI_1 x]
          exact z
      refine ps_iload rfl rfl ?_
      refine ps_aload rfl rfl ?_
      refine pw_k rfl rfl rfl rfl ⟨Nat.zero_le _, Nat.zero_le _⟩ ?_
      refine M_highX hV ?_
      refine ps_icmpf rfl (decide_eq_false (nI_ge (by omega) (by omega))) ?_
      refine pw_c rfl ?_
      refine ps_istore rfl rfl ?_
      exact inner P.w 0 (by omega)
  refine pw_c rfl ?_
  refine ps_lstore rfl rfl ?_
  refine pw_c rfl ?_
  refine ps_istore rfl rfl ?_
  exact outer P.v 0 (by omega) _
theorem M_match9 (hm : mFF B I) (hc : mPc pc I) (p9 : sPc.ok pc) (ok : B.ok) (ku : okU B.S B.ps) (w : Int32) (kk : ∀ r I', r = exl (qMatch B pc w) → mQg I I' → mFF B I' → Q [.long r] (I', L, g_R s, 306)) : pm_W (g_P ys) 268 0 [.ref 275, .int w, .retAddr 0, .retAddr 0, .retAddr 0, .retAddr 0, .retAddr 0, .retAddr 0, .retAddr 0, .retAddr 0] [] (I, L, g_R s, 306) (0, 0) Q := by
  have e0 : (0 : Int32).toInt = 0 := rfl
  have p6 := ok.1
  have fin : ∀ e, ¬ e = 0 → qMatch B pc w = .error e → pm_W (g_P ys) 268 40 [.ref 275, .int w, .retAddr 0, .retAddr 0, .retAddr 0, .retAddr 0, .retAddr 0, .retAddr 0, .retAddr 0, .retAddr 0] [.int e, .ref 275] (I, L, g_R s, 306) (0, 0) Q := by
    intro e he ea
    refine pw_k rfl rfl rfl rfl ⟨Nat.zero_le _, Nat.zero_le _⟩ ?_
    refine M_is ?_
    rw [decide_eq_false he]
    refine ps_iff rfl (by decide) ?_
    refine pw_c rfl ?_
    refine ps_lret rfl rfl ?_
    exact kk _ _ (by rw [ea]; rfl) mQg_s (mFF_st hm ok)
  refine ps_aload rfl rfl ?_
  refine ps_iload rfl rfl ?_
  refine ps_ar rfl rfl rfl rfl rfl ?_
  refine pw_c rfl ?_
  refine pw_c rfl ?_
  refine pw_k rfl rfl rfl rfl ⟨Nat.zero_le _, Nat.zero_le _⟩ ?_
  refine M_isIn ?_
  rw [isIn_k w 0 2 0 2 rfl rfl]
  by_cases hw : 0 ≤ w.toInt ∧ w.toInt ≤ 2
  · rw [decide_eq_true hw]
    refine ps_ift rfl (by decide) ?_
    refine ps_aload rfl rfl ?_
    refine ps_gfi 11 14 rfl rfl rfl rfl rfl ?_
    rw [show ((I, L, g_R s, 306) : pm_H).1 275 14 = nI B.ps from hm.1.1]
    by_cases hp : B.ps = 0
    · rw [hp]
      refine ps_iff rfl (by decide) ?_
      refine pw_c rfl ?_
      refine ps_goto rfl ?_
      exact fin 2 (by decide) (by unfold qMatch; rw [if_neg (fun z => z hw), plU_n hp])
    · obtain ⟨u, hu, eu⟩ := ps_u ku hp
      have ea : qMatch B pc w = if ¬ ftP (B.pl u) pc then .error 5 else .ok (if w = 2 then mtV (B.pl u) B.S pc.2.2 (pgL (mtV (B.pl u) B.S pc.2.2) ((B.pl u).w * (B.pl u).v)) else (xyF (B.pl u) (pgL (mtV (B.pl u) B.S pc.2.2) ((B.pl u).w * (B.pl u).v)) w).toInt64) := by
        unfold qMatch
        rw [if_neg (fun z => z hw), plU_s hu eu p6]
      refine ps_ift rfl (decide_eq_true (nI_nz (by omega) (by omega))) ?_
      refine ps_aload rfl rfl ?_
      refine pw_k rfl rfl rfl rfl ⟨Nat.zero_le _, Nat.zero_le _⟩ ?_
      refine M_fitsX hm hc p9 ok hu eu ?_
      by_cases ft : ftP (B.pl u) pc
      · rw [if_neg (fun z => z ft)] at ea
        rw [decide_eq_true ft]
        refine ps_iff rfl (by decide) ?_
        refine pw_c rfl ?_
        refine ps_goto rfl ?_
        clear fin
        have hm := mFF_st (e := 0) hm ok
        have q3 : mQg I (stI I 0) := mQg_s
        have hc := mPc_q hc q3
        refine pw_k rfl rfl rfl rfl ⟨Nat.zero_le _, Nat.zero_le _⟩ ?_
        refine M_is ?_
        refine ps_ift rfl (by decide) ?_
        show pm_W _ _ _ _ _ (stI I 0, L, g_R s, 306) _ _
        generalize stI I 0 = J at hm q3 hc ⊢
        refine ps_aload rfl rfl ?_
        refine ps_aload rfl rfl ?_
        refine ps_gfr 11 16 rfl rfl rfl rfl rfl (rfl) ?_
        refine pw_c rfl ?_
        refine ps_iald (4) rfl rfl rfl (rfl) (by omega) ?_
        rw [show ((J, L, g_R s, 306) : pm_H).1 288 4 = nI u from mFF_u hm eu]
        refine pw_k rfl rfl rfl rfl ⟨Nat.zero_le _, Nat.zero_le _⟩ ?_
        refine M_usesX ?_
        show pm_W _ _ _ _ _ (usI u J, L, g_R s, 306) _ _
        refine ps_aload rfl rfl ?_
        refine pw_k rfl rfl rfl rfl ⟨Nat.zero_le _, Nat.zero_le _⟩ ?_
        refine M_laysShadowsX (M_begU hm ok hu) (fun I2 c2 L2 => ?_)
        have G := mBg_mk hm ok hu c2 L2
        obtain ⟨V, Ld, lo, wh, shd, q4, m4, s4⟩ := G
        obtain ⟨wb, vb, w0, v0, n9⟩ := mV_b V
        have n0 : 0 < (B.pl u).w * (B.pl u).v := Nat.mul_pos w0 v0
        have pr : ∀ i, i < (B.pl u).w * (B.pl u).v → I2 302 i = pc.2.2 i := by
          rcases mPc_q hc q4 with ⟨z0, _⟩ | ⟨_, _, _, _, z4⟩
          · have := ft.1
            omega
          · intro i hi
            exact z4 i (by rw [← ft.1, ← ft.2]; exact hi)
        obtain ⟨F, hF⟩ : ∃ F, F = mtV (B.pl u) B.S pc.2.2 := ⟨_, rfl⟩
        rw [← hF] at ea
        have pL0 : pgL F 0 = 0 := rfl
        have pL1 : pgL F 1 = 0 := rfl
        have plt : ∀ i, i ≤ (B.pl u).w * (B.pl u).v → pgL F i < (B.pl u).w * (B.pl u).v := fun i hi => by
          by_cases z : i = 0
          · rw [z, pL0]
            exact n0
          · have := pgL_lt (f := F) (n := i) (by omega)
            omega
        have st : ∀ i, i < (B.pl u).w * (B.pl u).v → pgL F (i + 1) = if F (pgL F i) < F i then i else pgL F i := fun i hi => by
          by_cases z : i = 0
          · rw [z, pL0, pL1, if_neg Int64.lt_irrefl]
          · exact pgL_s (by omega)
        have main : ∀ d t, t + d = (B.pl u).v → ∀ u7 u8 : Value, pm_W (g_P ys) 268 79 [.ref 275, .int w, .int (nI (pgL F ((B.pl u).w * t) % (B.pl u).w)), .int (nI (pgL F ((B.pl u).w * t) / (B.pl u).w)), .long (F (pgL F ((B.pl u).w * t))), .retAddr 0, .int (nI t), u7, u8, .retAddr 0] [] (I2, L, g_R s, 306) (0, 0) Q := by
          intro d
          induction d with
          | zero =>
            intro t ht u7 u8
            have et : t = (B.pl u).v := by omega
            subst et
            refine ps_iload rfl rfl ?_
            refine ps_aload rfl rfl ?_
            refine pw_k rfl rfl rfl rfl ⟨Nat.zero_le _, Nat.zero_le _⟩ ?_
            refine M_highX V ?_
            refine ps_icmpt rfl (decide_eq_true (nI_le (by omega) (by omega))) ?_
            have ew : ∀ y : Int32, w.toInt = y.toInt → w = y := fun y q => (i_eq _ _).mpr q
            rcases (show w.toInt = 0 ∨ w.toInt = 1 ∨ w.toInt = 2 by omega) with q | q | q
            · have q := ew 0 q
              subst q
              refine ps_iload rfl rfl ?_
              refine ps_iff rfl (by decide) ?_
              refine ps_iload rfl rfl ?_
              refine ps_ar rfl rfl rfl rfl rfl ?_
              refine ps_goto rfl ?_
              refine ps_lret rfl rfl ?_
              exact kk _ _ (by rw [ea]; rfl) (mQg_t q3 q4) m4
            · have q := ew 1 q
              subst q
              refine ps_iload rfl rfl ?_
              refine ps_ift rfl (by decide) ?_
              refine ps_iload rfl rfl ?_
              refine pw_c rfl ?_
              refine ps_icmpf rfl (by decide) ?_
              refine ps_iload rfl rfl ?_
              refine ps_ar rfl rfl rfl rfl rfl ?_
              refine ps_goto rfl ?_
              refine ps_lret rfl rfl ?_
              exact kk _ _ (by rw [ea]; rfl) (mQg_t q3 q4) m4
            · have q := ew 2 q
              subst q
              refine ps_iload rfl rfl ?_
              refine ps_ift rfl (by decide) ?_
              refine ps_iload rfl rfl ?_
              refine pw_c rfl ?_
              refine ps_icmpt rfl (by decide) ?_
              refine ps_lload rfl rfl ?_
              refine ps_lret rfl rfl ?_
              exact kk _ _ (by rw [ea]; rfl) (mQg_t q3 q4) m4
          | succ d ih =>
            intro t ht u7 u8
            have inner : ∀ e x, x + e = (B.pl u).w → ∀ u8 : Value, pm_W (g_P ys) 268 91 [.ref 275, .int w, .int (nI (pgL F ((B.pl u).w * t + x) % (B.pl u).w)), .int (nI (pgL F ((B.pl u).w * t + x) / (B.pl u).w)), .long (F (pgL F ((B.pl u).w * t + x))), .retAddr 0, .int (nI t), .int (nI x), u8, .retAddr 0] [] (I2, L, g_R s, 306) (0, 0) Q := by
              intro e
              induction e with
              | zero =>
                intro x hx u8
                have ex : x = (B.pl u).w := by omega
                subst ex
                refine ps_iload rfl rfl ?_
                refine ps_aload rfl rfl ?_
                refine pw_k rfl rfl rfl rfl ⟨Nat.zero_le _, Nat.zero_le _⟩ ?_
                refine M_wideX V ?_
                refine ps_icmpt rfl (decide_eq_true (nI_le (by omega) (by omega))) ?_
                refine ps_iinc rfl rfl ?_
                refine ps_goto rfl ?_
                rw [show nI t + Int32.ofInt 1 = nI (t + 1) from nI_1 t]
                exact ih (t + 1) (by omega) _ _
              | succ e ihe =>
                intro x hx u8
                have b1 := (row_in (w := (B.pl u).w) (v := (B.pl u).v) (y := t) (x := x) (by omega) (by omega)).1
                obtain ⟨e1, e2⟩ := sq_ix (p := (B.pl u).w) (x := x) (y := t) (by omega)
                have fv : suL (mtG (B.pl u) B.S pc.2.2 x t) ((B.pl u).w * (B.pl u).v) = F ((B.pl u).w * t + x) := by
                  rw [hF]
                  unfold mtV
                  rw [e1, e2]
                have z := ihe (x + 1) (by omega)
                rw [show (B.pl u).w * t + (x + 1) = (B.pl u).w * t + x + 1 from rfl, st _ b1] at z
                refine ps_iload rfl rfl ?_
                refine ps_aload rfl rfl ?_
                refine pw_k rfl rfl rfl rfl ⟨Nat.zero_le _, Nat.zero_le _⟩ ?_
                refine M_wideX V ?_
                refine ps_icmpf rfl (decide_eq_false (nI_ge (by omega) (by omega))) ?_
                refine ps_aload rfl rfl ?_
                refine ps_iload rfl rfl ?_
                refine ps_iload rfl rfl ?_
                refine pw_k rfl rfl rfl rfl ⟨Nat.zero_le _, Nat.zero_le _⟩ ?_
                refine M_matchAtX V shd pr (by omega) (by omega) ?_
                rw [fv]
                by_cases c : F (pgL F ((B.pl u).w * t + x)) < F ((B.pl u).w * t + x)
                · rw [if_pos c, e1, e2] at z
                  refine ps_lstore rfl rfl ?_
                  refine ps_lload rfl rfl ?_
                  refine ps_lload rfl rfl ?_
                  refine ps_ar rfl rfl rfl rfl rfl ?_
                  refine ps_ift rfl ((lc_gt _ _).trans (decide_eq_true c)) ?_
                  refine ps_lload rfl rfl ?_
                  refine ps_lstore rfl rfl ?_
                  refine ps_iload rfl rfl ?_
                  refine ps_istore rfl rfl ?_
                  refine ps_iload rfl rfl ?_
                  refine ps_istore rfl rfl ?_
                  refine ps_iinc rfl rfl ?_
                  refine ps_goto rfl ?_
                  rw [show nI x + Int32.ofInt 1 = nI (x + 1) from nI_1 x]
                  exact z _
                · rw [if_neg c] at z
                  refine ps_lstore rfl rfl ?_
                  refine ps_lload rfl rfl ?_
                  refine ps_lload rfl rfl ?_
                  refine ps_ar rfl rfl rfl rfl rfl ?_
                  refine ps_iff rfl ((lc_gt _ _).trans (decide_eq_false c)) ?_
                  refine ps_goto rfl ?_
                  refine ps_iinc rfl rfl ?_
                  refine ps_goto rfl ?_
                  rw [show nI x + Int32.ofInt 1 = nI (x + 1) from nI_1 x]
                  exact z _
            refine ps_iload rfl rfl ?_
            refine ps_aload rfl rfl ?_
            refine pw_k rfl rfl rfl rfl ⟨Nat.zero_le _, Nat.zero_le _⟩ ?_
            refine M_highX V ?_
            refine ps_icmpf rfl (decide_eq_false (nI_ge (by omega) (by omega))) ?_
            refine pw_c rfl ?_
            refine ps_istore rfl rfl ?_
            exact inner (B.pl u).w 0 (by omega) _
        refine pw_c rfl ?_
        refine ps_istore rfl rfl ?_
        refine pw_c rfl ?_
        refine ps_istore rfl rfl ?_
        refine ps_aload rfl rfl ?_
        refine pw_c rfl ?_
        refine pw_c rfl ?_
        refine pw_k rfl rfl rfl rfl ⟨Nat.zero_le _, Nat.zero_le _⟩ ?_
        refine M_matchAtX (a := 0) (b := 0) V shd pr (by omega) (by omega) ?_
        rw [show suL (mtG (B.pl u) B.S pc.2.2 0 0) ((B.pl u).w * (B.pl u).v) = F 0 from by
          rw [hF]
          unfold mtV
          rw [Nat.zero_mod, Nat.zero_div]]
        refine ps_lstore rfl rfl ?_
        refine pw_c rfl ?_
        refine ps_istore rfl rfl ?_
        have z := main (B.pl u).v 0 (by omega)
        rw [Nat.mul_zero, pL0, Nat.zero_mod, Nat.zero_div] at z
        exact z _ _
      · rw [if_pos ft] at ea
        rw [decide_eq_false ft]
        refine ps_ift rfl (by decide) ?_
        refine pw_c rfl ?_
        exact fin 5 (by decide) ea
  · rw [decide_eq_false hw]
    refine ps_iff rfl (by decide) ?_
    refine pw_c rfl ?_
    refine ps_goto rfl ?_
    exact fin 1 (by decide) (by unfold qMatch; rw [if_pos hw])
theorem nI_neg1 {i : Nat} (h : i < 1000) : ¬ nI i = -1 ∧ ¬ (nI i).toInt < (0 : Int32).toInt := by
  have e := nI_toInt (show i < 2147483648 by omega)
  have e0 : (0 : Int32).toInt = 0 := rfl
  refine ⟨fun z => ?_, by omega⟩
  rw [z] at e
  have : (-1 : Int32).toInt = -1 := by decide
  omega
theorem bs_pl (B : sB) : ∀ k, (bsS B k).1 = -1 ∨ ∃ i, i < k ∧ (bsS B k).1 = nI i
  | 0 => Or.inl rfl
  | k + 1 => by
    rw [bsS]
    have ih := bs_pl B k
    split
    · split
      · exact Or.inr ⟨k, by omega, rfl⟩
      · exact ih.imp id (fun ⟨i, h, e⟩ => ⟨i, by omega, e⟩)
    · exact ih.imp id (fun ⟨i, h, e⟩ => ⟨i, by omega, e⟩)
theorem M_best9 (hm : mFF B I) (ok : B.ok) (w : Int32) (kk : ∀ r I', r = exv (qBest B w) → mQg I I' → mFF B I' → Q [.int r] (I', L, g_R s, 306)) : pm_W (g_P ys) 274 0 [.ref 275, .int w, .retAddr 0, .retAddr 0, .retAddr 0, .retAddr 0] [] (I, L, g_R s, 306) (0, 0) Q := by
  have e0 : (0 : Int32).toInt = 0 := rfl
  have em1 : (-1 : Int32).toInt = -1 := by decide
  have p6 := ok.1
  refine ps_aload rfl rfl ?_
  refine ps_iload rfl rfl ?_
  refine ps_ar rfl rfl rfl rfl rfl ?_
  refine pw_c rfl ?_
  refine pw_c rfl ?_
  refine pw_k rfl rfl rfl rfl ⟨Nat.zero_le _, Nat.zero_le _⟩ ?_
  refine M_isIn ?_
  rw [isIn_k w 0 1 0 1 rfl rfl]
  by_cases hw : 0 ≤ w.toInt ∧ w.toInt ≤ 1
  · rw [decide_eq_true hw]
    have ea : qBest B w = if (bsS B B.ps).1 = -1 then .error 5 else .ok (if w = 0 then (bsS B B.ps).1 else (bsS B B.ps).2) := by
      unfold qBest
      rw [if_neg (fun z => z hw)]
    have m0 := mFF_st (e := 0) hm ok
    have q3 : mQg I (stI I 0) := mQg_s
    refine ps_iff rfl (by decide) ?_
    refine pw_c rfl ?_
    refine ps_goto rfl ?_
    refine pw_k rfl rfl rfl rfl ⟨Nat.zero_le _, Nat.zero_le _⟩ ?_
    refine M_is ?_
    refine ps_ift rfl (by decide) ?_
    show pm_W _ _ _ _ _ (stI I 0, L, g_R s, 306) _ _
    generalize stI I 0 = J at m0 q3 ⊢
    have main : ∀ d k, k + d = B.ps → ∀ I' (u5 : Value), mQg I I' → mFF B I' → pm_W (g_P ys) 274 31 [.ref 275, .int w, .int (bsS B k).1, .int (bsS B k).2, .int (nI k), u5] [] (I', L, g_R s, 306) (0, 0) Q := by
      intro d
      induction d with
      | zero =>
        intro k hk I' u5 q1 m1
        have ek : k = B.ps := by omega
        subst ek
        refine ps_iload rfl rfl ?_
        refine ps_aload rfl rfl ?_
        refine ps_gfi 11 14 rfl rfl rfl rfl rfl ?_
        rw [show ((I', L, g_R s, 306) : pm_H).1 275 14 = nI B.ps from m1.1.1]
        refine ps_icmpt rfl (decide_eq_true (nI_le (by omega) (by omega))) ?_
        refine ps_iload rfl rfl ?_
        rcases bs_pl B B.ps with b | ⟨i, hi, b⟩
        · rw [if_pos b] at ea
          rw [b]
          refine ps_iff rfl (by decide) ?_
          refine ps_aload rfl rfl ?_
          refine pw_c rfl ?_
          refine pw_k rfl rfl rfl rfl ⟨Nat.zero_le _, Nat.zero_le _⟩ ?_
          refine M_refuseX 5 ?_
          refine ps_goto rfl ?_
          refine ps_iret rfl rfl ?_
          exact kk _ _ (by rw [ea]; rfl) (mQg_t q1 mQg_u) (mFF_su m1 ok)
        · obtain ⟨n1, n2⟩ := nI_neg1 (show i < 1000 by omega)
          rw [if_neg (fun z => n1 (b.symm.trans z))] at ea
          refine ps_ift rfl (decide_eq_true ((i_le _ _).mpr (by rw [b]; omega))) ?_
          refine ps_iload rfl rfl ?_
          have ew : ∀ y : Int32, w.toInt = y.toInt → w = y := fun y q => (i_eq _ _).mpr q
          rcases (show w.toInt = 0 ∨ w.toInt = 1 by omega) with q | q
          · have q := ew 0 q
            subst q
            refine ps_iff rfl (by decide) ?_
            refine ps_iload rfl rfl ?_
            refine ps_goto rfl ?_
            refine ps_iret rfl rfl ?_
            exact kk _ _ (by rw [ea]; rfl) q1 m1
          · have q := ew 1 q
            subst q
            refine ps_ift rfl (by decide) ?_
            refine ps_iload rfl rfl ?_
            refine ps_iret rfl rfl ?_
            exact kk _ _ (by rw [ea]; rfl) q1 m1
      | succ d ih =>
        intro k hk I' u5 q1 m1
        have kl : k < B.ps := by omega
        refine ps_iload rfl rfl ?_
        refine ps_aload rfl rfl ?_
        refine ps_gfi 11 14 rfl rfl rfl rfl rfl ?_
        rw [show ((I', L, g_R s, 306) : pm_H).1 275 14 = nI B.ps from m1.1.1]
        refine ps_icmpf rfl (decide_eq_false (nI_ge (by omega) (by omega))) ?_
        refine ps_aload rfl rfl ?_
        refine ps_iload rfl rfl ?_
        refine pw_k rfl rfl rfl rfl ⟨Nat.zero_le _, Nat.zero_le _⟩ ?_
        refine M_canRestoreX (mFF_P1 m1 ok kl) (m1.2.2.1 k kl) (fun I1 g1 s1 k1 => ?_)
        have m2 := mFF_sg m1 ok kl g1 s1
        have q2 : mQg I I1 := mQg_t q1 (mQg_sg g1)
        have z := ih (k + 1) (by omega)
        rw [bsS] at z
        by_cases cr : crP (B.pl k)
        · rw [if_pos cr] at z
          rw [decide_eq_true cr]
          refine ps_ift rfl (by decide) ?_
          refine ps_aload rfl rfl ?_
          refine ps_iload rfl rfl ?_
          refine pw_k rfl rfl rfl rfl ⟨Nat.zero_le _, Nat.zero_le _⟩ ?_
          refine M_usesX ?_
          show pm_W _ _ _ _ _ (usI k I1, L, g_R s, 306) _ _
          refine ps_aload rfl rfl ?_
          refine pw_k rfl rfl rfl rfl ⟨Nat.zero_le _, Nat.zero_le _⟩ ?_
          refine M_laysShadowsX (M_begU m2 ok kl) (fun I2 c2 L2 => ?_)
          obtain ⟨V, Ld, lo, wh, shd, q4, m4, s4⟩ := mBg_mk m2 ok kl c2 L2
          have k2 : mSk I2 k (B.pl k) := mSk_o (k1 cr) s4
          refine ps_aload rfl rfl ?_
          refine pw_k rfl rfl rfl rfl ⟨Nat.zero_le _, Nat.zero_le _⟩ ?_
          refine M_errorNowX V cr k2 shd lo lost_01 (fun I3 c5 => ?_)
          have q5 : mQg I I3 := mQg_t q2 (mQg_t q4 (fun a j z1 _ => c5 a j (by omega)))
          have m5 : mFF B I3 := mFF_o m4 ok (fun a j z => c5 a j (by omega))
          show pm_W _ _ _ _ [.int (erN (B.pl k) B.S)] _ _ _
          have set : (bsS B k).1 = -1 ∨ erN (B.pl k) B.S < (bsS B k).2 → pm_W (g_P ys) 274 81 [.ref 275, .int w, .int (bsS B k).1, .int (bsS B k).2, .int (nI k), .int (erN (B.pl k) B.S)] [] (I3, L, g_R s, 306) (0, 0) Q := by
            intro c
            rw [if_pos c] at z
            refine ps_iload rfl rfl ?_
            refine ps_istore rfl rfl ?_
            refine ps_iload rfl rfl ?_
            refine ps_istore rfl rfl ?_
            refine ps_iinc rfl rfl ?_
            refine ps_goto rfl ?_
            rw [show nI k + Int32.ofInt 1 = nI (k + 1) from nI_1 k]
            exact z I3 _ q5 m5
          rcases bs_pl B k with b | ⟨i, hi, b⟩
          · refine ps_istore rfl rfl ?_
            refine ps_iload rfl rfl ?_
            refine ps_ift rfl (decide_eq_true ((i_lt _ _).mpr (by rw [b]; omega))) ?_
            exact set (Or.inl b)
          · obtain ⟨n1, n2⟩ := nI_neg1 (show i < 1000 by omega)
            by_cases c : erN (B.pl k) B.S < (bsS B k).2
            · refine ps_istore rfl rfl ?_
              refine ps_iload rfl rfl ?_
              refine ps_iff rfl (decide_eq_false (fun y => n2 (by have y := (i_lt _ _).mp y; rw [b] at y; exact y))) ?_
              refine ps_iload rfl rfl ?_
              refine ps_iload rfl rfl ?_
              refine ps_icmpt rfl (decide_eq_true c) ?_
              exact set (Or.inr c)
            · rw [if_neg (fun y => y.elim (fun y => n1 (b.symm.trans y)) c)] at z
              refine ps_istore rfl rfl ?_
              refine ps_iload rfl rfl ?_
              refine ps_iff rfl (decide_eq_false (fun y => n2 (by have y := (i_lt _ _).mp y; rw [b] at y; exact y))) ?_
              refine ps_iload rfl rfl ?_
              refine ps_iload rfl rfl ?_
              refine ps_icmpf rfl (decide_eq_false c) ?_
              refine ps_goto rfl ?_
              refine ps_iinc rfl rfl ?_
              refine ps_goto rfl ?_
              rw [show nI k + Int32.ofInt 1 = nI (k + 1) from nI_1 k]
              exact z I3 _ q5 m5
        · rw [if_neg cr] at z
          rw [decide_eq_false cr]
          refine ps_iff rfl (by decide) ?_
          refine ps_goto rfl ?_
          refine ps_iinc rfl rfl ?_
          refine ps_goto rfl ?_
          rw [show nI k + Int32.ofInt 1 = nI (k + 1) from nI_1 k]
          exact z I1 _ q2 m2
    refine pw_c rfl ?_
    refine ps_istore rfl rfl ?_
    refine pw_c rfl ?_
    refine ps_istore rfl rfl ?_
    refine pw_c rfl ?_
    refine ps_istore rfl rfl ?_
    exact main B.ps 0 (by omega) J _ q3 m0
  · rw [decide_eq_false hw]
    refine ps_ift rfl (by decide) ?_
    refine pw_c rfl ?_
    refine pw_k rfl rfl rfl rfl ⟨Nat.zero_le _, Nat.zero_le _⟩ ?_
    refine M_is ?_
    refine ps_iff rfl (by decide) ?_
    refine pw_c rfl ?_
    refine ps_iret rfl rfl ?_
    exact kk _ (stI I 1) (by unfold qBest; rw [if_pos hw]; rfl) mQg_s (mFF_st hm ok)
theorem M_plate9 (hm : mFF B I) (ok : B.ok) (k w : Int32) (kk : ∀ r I', r = exv (qPlate B k w) → mQg I I' → mFF B I' → Q [.int r] (I', L, g_R s, 306)) : pm_W (g_P ys) 193 0 [.ref 275, .int k, .int w] [] (I, L, g_R s, 306) (0, 0) Q := by
  have e5 : (5 : Int32).toInt = 5 := rfl
  have p6 := ok.1
  have fin : ∀ e, ¬ e = 0 → qPlate B k w = .error e → pm_W (g_P ys) 193 48 [.ref 275, .int k, .int w] [.int e, .ref 275] (I, L, g_R s, 306) (0, 0) Q := by
    intro e he ea
    refine pw_k rfl rfl rfl rfl ⟨Nat.zero_le _, Nat.zero_le _⟩ ?_
    refine M_is ?_
    rw [decide_eq_false he]
    refine ps_iff rfl (by decide) ?_
    refine pw_c rfl ?_
    refine ps_iret rfl rfl ?_
    exact kk _ _ (by rw [ea]; rfl) mQg_s (mFF_st hm ok)
  refine ps_aload rfl rfl ?_
  refine ps_iload rfl rfl ?_
  refine ps_ar rfl rfl rfl rfl rfl ?_
  refine pw_c rfl ?_
  refine pw_c rfl ?_
  refine pw_k rfl rfl rfl rfl ⟨Nat.zero_le _, Nat.zero_le _⟩ ?_
  refine M_isIn ?_
  rw [isIn_k w 0 7 0 7 rfl rfl]
  by_cases hw : 0 ≤ w.toInt ∧ w.toInt ≤ 7
  · rw [decide_eq_true hw]
    refine ps_ift rfl (by decide) ?_
    refine ps_aload rfl rfl ?_
    refine ps_iload rfl rfl ?_
    refine pw_k rfl rfl rfl rfl ⟨Nat.zero_le _, Nat.zero_le _⟩ ?_
    refine M_isPlate ?_
    rw [hm.1.1, isPl_k ok.1]
    by_cases hk : 0 ≤ k.toInt ∧ k.toInt < B.ps
    · obtain ⟨i, hi⟩ : ∃ i, i = k.toInt.toNat := ⟨_, rfl⟩
      have ek := nI_oz hi hk.1
      have il : i < B.ps := by omega
      have ea : qPlate B k w = if 6 ≤ w.toInt ∧ (B.pl i).w * (B.pl i).v = 1 then .error 5 else .ok (fgP (B.pl i) w) := by
        unfold qPlate
        rw [if_neg (fun z => z hw), plN_y il ok.1 ek]
      rw [decide_eq_true hk]
      clear hi hk
      subst ek
      have P1 := mFF_P1 hm ok il
      obtain ⟨wb, vb⟩ := P1.1.b
      have n9 := P1.1.2.2.2.2.2
      have n0 : 0 < (B.pl i).w * (B.pl i).v := Nat.mul_pos P1.1.2.2.2.1 P1.1.2.2.2.2.1
      have go : ¬ (6 ≤ w.toInt ∧ (B.pl i).w * (B.pl i).v = 1) → pm_W (g_P ys) 193 47 [.ref 275, .int (nI i), .int w] [.ref 275] (I, L, g_R s, 306) (0, 0) Q := by
        intro c
        rw [if_neg c] at ea
        have hm := mFF_st (e := 0) hm ok
        have q3 : mQg I (stI I 0) := mQg_s
        refine pw_c rfl ?_
        refine pw_k rfl rfl rfl rfl ⟨Nat.zero_le _, Nat.zero_le _⟩ ?_
        refine M_is ?_
        refine ps_ift rfl (by decide) ?_
        show pm_W _ _ _ _ _ (stI I 0, L, g_R s, 306) _ _
        generalize stI I 0 = J at hm q3 ⊢
        refine ps_aload rfl rfl ?_
        refine ps_iload rfl rfl ?_
        refine pw_k rfl rfl rfl rfl ⟨Nat.zero_le _, Nat.zero_le _⟩ ?_
        refine M_laysSidesX (mFF_P1 hm ok il) (hm.2.2.1 i il) (fun I1 g1 s1 => ?_)
        have m1 := mFF_sg hm ok il g1 (Or.inr s1)
        have qq : mQg I I1 := mQg_t q3 (mQg_sg g1)
        have P1 := mFF_P1 m1 ok il
        have ew : ∀ y : Int32, w.toInt = y.toInt → w = y := fun y q => (i_eq _ _).mpr q
        rcases (show w.toInt = 0 ∨ w.toInt = 1 ∨ w.toInt = 2 ∨ w.toInt = 3 ∨ w.toInt = 4 ∨ w.toInt = 5 ∨ w.toInt = 6 ∨ w.toInt = 7 by omega) with q | q | q | q | q | q | q | q
        · have q := ew 0 q
          subst q
          refine ps_iload rfl rfl ?_
          refine ps_brr rfl rfl rfl rfl rfl rfl ?_
          refine ps_aload rfl rfl ?_
          refine ps_iload rfl rfl ?_
          refine pw_k rfl rfl rfl rfl ⟨Nat.zero_le _, Nat.zero_le _⟩ ?_
          refine M_wideOf P1.1.1 ?_
          rw [P1.1.2.1]
          refine ps_iret rfl rfl ?_
          exact kk _ _ (by rw [ea]; rfl) qq m1
        · have q := ew 1 q
          subst q
          refine ps_iload rfl rfl ?_
          refine ps_brr rfl rfl rfl rfl rfl rfl ?_
          refine ps_aload rfl rfl ?_
          refine ps_iload rfl rfl ?_
          refine pw_k rfl rfl rfl rfl ⟨Nat.zero_le _, Nat.zero_le _⟩ ?_
          refine M_highOf P1.1.1 ?_
          rw [P1.1.2.2.1]
          refine ps_iret rfl rfl ?_
          exact kk _ _ (by rw [ea]; rfl) qq m1
        · have q := ew 2 q
          subst q
          have hh : suI (fun c => I1 280 (289 * i + c)) ((B.pl i).w * (B.pl i).v) = hoP (B.pl i) := suI_congr (fun c hc => (P1.2 c hc).1)
          refine ps_iload rfl rfl ?_
          refine ps_brr rfl rfl rfl rfl rfl rfl ?_
          refine ps_aload rfl rfl ?_
          refine ps_iload rfl rfl ?_
          refine pw_k rfl rfl rfl rfl ⟨Nat.zero_le _, Nat.zero_le _⟩ ?_
          refine M_holesOf P1.1.1 P1.1.2.1 P1.1.2.2.1 n9 ?_
          rw [hh]
          refine ps_iret rfl rfl ?_
          exact kk _ _ (by rw [ea]; rfl) qq m1
        · have q := ew 3 q
          subst q
          have hh : suI (fun c => I1 282 (289 * i + c)) ((B.pl i).w * (B.pl i).v) = weP (B.pl i) := suI_congr (fun c hc => (P1.2 c hc).2)
          refine ps_iload rfl rfl ?_
          refine ps_brr rfl rfl rfl rfl rfl rfl ?_
          refine ps_aload rfl rfl ?_
          refine ps_iload rfl rfl ?_
          refine pw_k rfl rfl rfl rfl ⟨Nat.zero_le _, Nat.zero_le _⟩ ?_
          refine M_weightsOf P1.1.1 P1.1.2.1 P1.1.2.2.1 n9 ?_
          rw [hh]
          refine ps_iret rfl rfl ?_
          exact kk _ _ (by rw [ea]; rfl) qq m1
        · have q := ew 4 q
          subst q
          refine ps_iload rfl rfl ?_
          refine ps_brr rfl rfl rfl rfl rfl rfl ?_
          refine ps_aload rfl rfl ?_
          refine ps_gfr 11 22 rfl rfl rfl rfl rfl (rfl) ?_
          refine ps_iload rfl rfl ?_
          refine ps_iald (i) rfl rfl rfl (rfl) (by omega) ?_
          rw [show ((I1, L, g_R s, 306) : pm_H).1 293 i = sdF (B.pl i) 0 from s1.2.1]
          refine ps_iret rfl rfl ?_
          exact kk _ _ (by rw [ea]; rfl) qq m1
        · have q := ew 5 q
          subst q
          have fl : decide ((B.pl i).w * (B.pl i).v = 1 ∨ lsS (B.pl i) = gsS (B.pl i)) = decide (lsS (B.pl i) = gsS (B.pl i)) := by
            by_cases c1 : (B.pl i).w * (B.pl i).v = 1
            · have e1 : lsS (B.pl i) = gsS (B.pl i) := by
                unfold lsS gsS
                rw [c1]
                rfl
              rw [decide_eq_true (Or.inr e1), decide_eq_true e1]
            · by_cases c2 : lsS (B.pl i) = gsS (B.pl i)
              · rw [decide_eq_true (Or.inr c2), decide_eq_true c2]
              · rw [decide_eq_false (fun z => z.elim c1 c2), decide_eq_false c2]
          refine ps_iload rfl rfl ?_
          refine ps_brr rfl rfl rfl rfl rfl rfl ?_
          refine ps_aload rfl rfl ?_
          refine ps_iload rfl rfl ?_
          refine pw_k rfl rfl rfl rfl ⟨Nat.zero_le _, Nat.zero_le _⟩ ?_
          refine M_isFlatX P1 (Or.inr s1) (fun I3 g3 s3 => ?_)
          rw [fl]
          have m3 := mFF_sg m1 ok il g3 (Or.inr s3)
          have q5 : mQg I I3 := mQg_t qq (mQg_sg g3)
          have ea : qPlate B (nI i) 5 = .ok (bI (decide (lsS (B.pl i) = gsS (B.pl i)))) := ea
          by_cases c2 : lsS (B.pl i) = gsS (B.pl i)
          · rw [decide_eq_true c2] at ea ⊢
            refine ps_iff rfl (by decide) ?_
            refine pw_c rfl ?_
            refine ps_goto rfl ?_
            refine ps_iret rfl rfl ?_
            exact kk _ _ (by rw [ea]; rfl) q5 m3
          · rw [decide_eq_false c2] at ea ⊢
            refine ps_ift rfl (by decide) ?_
            refine pw_c rfl ?_
            refine ps_iret rfl rfl ?_
            exact kk _ _ (by rw [ea]; rfl) q5 m3
        · have q := ew 6 q
          subst q
          have n2 : 2 ≤ (B.pl i).w * (B.pl i).v := by
            have : ¬ (B.pl i).w * (B.pl i).v = 1 := fun z => c ⟨by decide, z⟩
            omega
          refine ps_iload rfl rfl ?_
          refine ps_brr rfl rfl rfl rfl rfl rfl ?_
          refine ps_aload rfl rfl ?_
          refine ps_gfr 11 20 rfl rfl rfl rfl rfl (rfl) ?_
          refine ps_iload rfl rfl ?_
          refine ps_iald (i) rfl rfl rfl (rfl) (by omega) ?_
          rw [show ((I1, L, g_R s, 306) : pm_H).1 291 i = lsS (B.pl i) from (s1.2.2 n2).1]
          refine ps_iret rfl rfl ?_
          exact kk _ _ (by rw [ea]; rfl) qq m1
        · have q := ew 7 q
          subst q
          have n2 : 2 ≤ (B.pl i).w * (B.pl i).v := by
            have : ¬ (B.pl i).w * (B.pl i).v = 1 := fun z => c ⟨by decide, z⟩
            omega
          refine ps_iload rfl rfl ?_
          refine ps_brr rfl rfl rfl rfl rfl rfl ?_
          refine ps_aload rfl rfl ?_
          refine ps_gfr 11 21 rfl rfl rfl rfl rfl (rfl) ?_
          refine ps_iload rfl rfl ?_
          refine ps_iald (i) rfl rfl rfl (rfl) (by omega) ?_
          rw [show ((I1, L, g_R s, 306) : pm_H).1 292 i = gsS (B.pl i) from (s1.2.2 n2).2]
          refine ps_iret rfl rfl ?_
          exact kk _ _ (by rw [ea]; rfl) qq m1
      by_cases w5 : w.toInt ≤ 5
      · refine ps_ift rfl (by decide) ?_
        refine ps_iload rfl rfl ?_
        refine pw_c rfl ?_
        refine ps_icmpt rfl (decide_eq_true ((i_le _ _).mpr (by omega))) ?_
        exact go (fun z => by omega)
      · refine ps_ift rfl (by decide) ?_
        refine ps_iload rfl rfl ?_
        refine pw_c rfl ?_
        refine ps_icmpf rfl (decide_eq_false (fun z => by have z := (i_le _ _).mp z; omega)) ?_
        refine ps_aload rfl rfl ?_
        refine ps_iload rfl rfl ?_
        refine pw_k rfl rfl rfl rfl ⟨Nat.zero_le _, Nat.zero_le _⟩ ?_
        refine M_cellsOf P1.1.1 ?_
        rw [P1.1.2.1, P1.1.2.2.1, pk_mul]
        by_cases c1 : (B.pl i).w * (B.pl i).v = 1
        · rw [c1]
          refine pw_c rfl ?_
          refine ps_icmpf rfl (by decide) ?_
          refine pw_c rfl ?_
          refine ps_goto rfl ?_
          exact fin 5 (by decide) (by rw [ea, if_pos ⟨by omega, c1⟩])
        · refine pw_c rfl ?_
          refine ps_icmpt rfl (decide_eq_true (fun z => c1 (nI_eqv (b := 1) (by omega) (by omega) z))) ?_
          exact go (fun z => c1 z.2)
    · rw [decide_eq_false hk]
      refine ps_iff rfl (by decide) ?_
      refine pw_c rfl ?_
      refine ps_goto rfl ?_
      exact fin 2 (by decide) (by unfold qPlate; rw [if_neg (fun z => z hw), plN_n hk])
  · rw [decide_eq_false hw]
    refine ps_iff rfl (by decide) ?_
    refine pw_c rfl ?_
    refine ps_goto rfl ?_
    exact fin 1 (by decide) (by unfold qPlate; rw [if_pos hw])
theorem M_cell9 (hm : mFF B I) (ok : B.ok) (k x y w : Int32) (kk : ∀ r I', r = exv (qCell B k x y w) → mQg I I' → mFF B I' → Q [.int r] (I', L, g_R s, 306)) : pm_W (g_P ys) 207 0 [.ref 275, .int k, .int x, .int y, .int w] [] (I, L, g_R s, 306) (0, 0) Q := by
  have p6 := ok.1
  have fin : ∀ e, ¬ e = 0 → qCell B k x y w = .error e → pm_W (g_P ys) 207 41 [.ref 275, .int k, .int x, .int y, .int w] [.int e, .ref 275] (I, L, g_R s, 306) (0, 0) Q := by
    intro e he ea
    refine pw_k rfl rfl rfl rfl ⟨Nat.zero_le _, Nat.zero_le _⟩ ?_
    refine M_is ?_
    rw [decide_eq_false he]
    refine ps_iff rfl (by decide) ?_
    refine pw_c rfl ?_
    refine ps_iret rfl rfl ?_
    exact kk _ _ (by rw [ea]; rfl) mQg_s (mFF_st hm ok)
  refine ps_aload rfl rfl ?_
  refine ps_iload rfl rfl ?_
  refine ps_ar rfl rfl rfl rfl rfl ?_
  refine pw_c rfl ?_
  refine pw_c rfl ?_
  refine pw_k rfl rfl rfl rfl ⟨Nat.zero_le _, Nat.zero_le _⟩ ?_
  refine M_isIn ?_
  rw [isIn_k w 0 2 0 2 rfl rfl]
  by_cases hw : 0 ≤ w.toInt ∧ w.toInt ≤ 2
  · rw [decide_eq_true hw]
    refine ps_ift rfl (by decide) ?_
    refine ps_aload rfl rfl ?_
    refine ps_iload rfl rfl ?_
    refine pw_k rfl rfl rfl rfl ⟨Nat.zero_le _, Nat.zero_le _⟩ ?_
    refine M_isPlate ?_
    rw [hm.1.1, isPl_k ok.1]
    by_cases hk : 0 ≤ k.toInt ∧ k.toInt < B.ps
    · obtain ⟨i, hi⟩ : ∃ i, i = k.toInt.toNat := ⟨_, rfl⟩
      have ek := nI_oz hi hk.1
      have il : i < B.ps := by omega
      have ea : qCell B k x y w = if ¬ onQ (B.pl i) x y then .error 2 else .ok (if w = 0 then (B.pl i).ho (y.toInt.toNat * (B.pl i).w + x.toInt.toNat) else if w = 1 then (B.pl i).we (y.toInt.toNat * (B.pl i).w + x.toInt.toNat) else sdF (B.pl i) (y.toInt.toNat * (B.pl i).w + x.toInt.toNat)) := by
        unfold qCell
        rw [if_neg (fun z => z hw), plN_y il ok.1 ek]
      rw [decide_eq_true hk]
      clear hi hk
      subst ek
      have P1 := mFF_P1 hm ok il
      have hP := P1.1
      obtain ⟨wb, vb⟩ := hP.b
      have n9 := hP.2.2.2.2.2
      refine ps_iff rfl (by decide) ?_
      refine ps_aload rfl rfl ?_
      refine ps_iload rfl rfl ?_
      refine ps_iload rfl rfl ?_
      refine ps_iload rfl rfl ?_
      refine pw_k rfl rfl rfl rfl ⟨Nat.zero_le _, Nat.zero_le _⟩ ?_
      refine M_isOn hP.1 (A := decide (0 ≤ x.toInt ∧ x.toInt < (B.pl i).w)) (B := decide (0 ≤ y.toInt ∧ y.toInt < (B.pl i).v)) (by rw [hP.2.1]; exact isOn_k (by omega) x) (by rw [hP.2.2.1]; exact isOn_k (by omega) y) ?_
      rw [← Bool.decide_and]
      by_cases on : onQ (B.pl i) x y
      · rw [if_neg (fun z => z on)] at ea
        rw [decide_eq_true on]
        obtain ⟨x0, hx0⟩ : ∃ z, z = x.toInt.toNat := ⟨_, rfl⟩
        obtain ⟨y0, hy0⟩ : ∃ z, z = y.toInt.toNat := ⟨_, rfl⟩
        have ex := nI_oz hx0 on.1.1
        have ey := nI_oz hy0 on.2.1
        have xl : x0 < (B.pl i).w := by omega
        have yl : y0 < (B.pl i).v := by omega
        rw [← hx0, ← hy0, Nat.mul_comm y0] at ea
        clear hx0 hy0 on fin
        subst ex ey
        have cl : (B.pl i).w * y0 + x0 < (B.pl i).w * (B.pl i).v := (row_in yl xl).1
        have hm := mFF_st (e := 0) hm ok
        have q3 : mQg I (stI I 0) := mQg_s
        refine ps_iff rfl (by decide) ?_
        refine pw_c rfl ?_
        refine ps_goto rfl ?_
        refine pw_k rfl rfl rfl rfl ⟨Nat.zero_le _, Nat.zero_le _⟩ ?_
        refine M_is ?_
        refine ps_ift rfl (by decide) ?_
        show pm_W _ _ _ _ _ (stI I 0, L, g_R s, 306) _ _
        generalize stI I 0 = J at hm q3 ⊢
        have P1 := mFF_P1 hm ok il
        obtain ⟨sx, sy⟩ := sq_ix (p := (B.pl i).w) (x := x0) (y := y0) xl
        have ew : ∀ y : Int32, w.toInt = y.toInt → w = y := fun y q => (i_eq _ _).mpr q
        rcases (show w.toInt = 0 ∨ w.toInt = 1 ∨ w.toInt = 2 by omega) with q | q | q
        · have q := ew 0 q
          subst q
          refine ps_iload rfl rfl ?_
          refine ps_iff rfl (by decide) ?_
          refine ps_aload rfl rfl ?_
          refine ps_gfr 11 6 rfl rfl rfl rfl rfl (rfl) ?_
          refine ps_aload rfl rfl ?_
          refine ps_iload rfl rfl ?_
          refine ps_iload rfl rfl ?_
          refine ps_iload rfl rfl ?_
          rw [← iI_nat x0, ← iI_nat y0]
          refine pw_k rfl rfl rfl rfl ⟨Nat.zero_le _, Nat.zero_le _⟩ ?_
          refine M_indexOf P1.1 (by omega) (by omega) ?_
          rw [cxy_inn xl yl]
          refine ps_iald (289 * i + ((B.pl i).w * y0 + x0)) rfl rfl rfl (rfl) (by omega) ?_
          rw [show ((J, L, g_R s, 306) : pm_H).1 280 (289 * i + ((B.pl i).w * y0 + x0)) = (B.pl i).ho ((B.pl i).w * y0 + x0) from (P1.2 _ cl).1]
          refine ps_goto rfl ?_
          refine ps_iret rfl rfl ?_
          exact kk _ _ (by rw [ea]; rfl) q3 hm
        · have q := ew 1 q
          subst q
          refine ps_iload rfl rfl ?_
          refine ps_ift rfl (by decide) ?_
          refine ps_iload rfl rfl ?_
          refine pw_c rfl ?_
          refine ps_icmpf rfl (by decide) ?_
          refine ps_aload rfl rfl ?_
          refine ps_iload rfl rfl ?_
          refine ps_iload rfl rfl ?_
          refine ps_iload rfl rfl ?_
          rw [← iI_nat x0, ← iI_nat y0]
          refine pw_k rfl rfl rfl rfl ⟨Nat.zero_le _, Nat.zero_le _⟩ ?_
          refine M_weightOf P1.1 (by omega) (by omega) ?_
          rw [cxy_inn xl yl, (P1.2 _ cl).2]
          refine ps_goto rfl ?_
          refine ps_iret rfl rfl ?_
          exact kk _ _ (by rw [ea]; rfl) q3 hm
        · have q := ew 2 q
          subst q
          refine ps_iload rfl rfl ?_
          refine ps_ift rfl (by decide) ?_
          refine ps_iload rfl rfl ?_
          refine pw_c rfl ?_
          refine ps_icmpt rfl (by decide) ?_
          refine ps_aload rfl rfl ?_
          refine ps_iload rfl rfl ?_
          refine ps_iload rfl rfl ?_
          refine ps_iload rfl rfl ?_
          have sd := fun Q => M_sideOfX (ys := ys) (L := L) (s := s) (c := (B.pl i).w * y0 + x0) (Q := Q) P1 cl
          rw [sx, sy] at sd
          refine pw_k rfl rfl rfl rfl ⟨Nat.zero_le _, Nat.zero_le _⟩ ?_
          refine sd _ ?_
          refine ps_iret rfl rfl ?_
          exact kk _ _ (by rw [ea]; rfl) q3 hm
      · rw [if_pos on] at ea
        rw [decide_eq_false on]
        refine ps_ift rfl (by decide) ?_
        refine pw_c rfl ?_
        exact fin 2 (by decide) ea
    · rw [decide_eq_false hk]
      refine ps_ift rfl (by decide) ?_
      refine pw_c rfl ?_
      exact fin 2 (by decide) (by unfold qCell; rw [if_neg (fun z => z hw), plN_n hk])
  · rw [decide_eq_false hw]
    refine ps_iff rfl (by decide) ?_
    refine pw_c rfl ?_
    refine ps_goto rfl ?_
    exact fin 1 (by decide) (by unfold qCell; rw [if_pos hw])
end UE
