/-! BY HAND: what is fed, exactly -/
section KC
/-- one more in the row b, counted at f of o -/
def pt1 (b o f : Nat) (I : Nat → Nat → Int32) (t : Nat) (x : Int32) : Nat → Nat → Int32 := pm_u (pm_u I b t x) o f (nI (t + 1))
def ptL (b o f : Nat) (I : Nat → Nat → Int32) (t : Nat) : List Int32 → Nat → Nat → Int32
  | [] => I
  | x :: l => ptL b o f (pt1 b o f I t x) (t + 1) l
variable {b o f : Nat} {I : Nat → Nat → Int32}
theorem ptL_app : ∀ {l m : List Int32} {I : Nat → Nat → Int32} {t : Nat}, ptL b o f I t (l ++ m) = ptL b o f (ptL b o f I t l) (t + l.length) m
  | [], m, I, t => rfl
  | x :: l, m, I, t => by
    rw [List.cons_append, ptL, ptL, ptL_app, List.length_cons]
    congr 1
    omega
theorem pt1_o {t a j : Nat} {x : Int32} (h1 : ¬ (a = b ∧ j = t)) (h2 : ¬ (a = o ∧ j = f)) : pt1 b o f I t x a j = I a j := by
  have key : ∀ (J : Nat → Nat → Int32) (c i : Nat) (y : Int32), ¬ (a = c ∧ j = i) → pm_u J c i y a j = J a j := by
    intro J c i y q
    by_cases e : a = c
    · subst e
      exact pu_n (fun e2 => q ⟨rfl, e2⟩)
    · exact pu_o e
  unfold pt1
  rw [key _ _ _ _ h2, key _ _ _ _ h1]
theorem ptL_o {a j : Nat} (h2 : ¬ (a = o ∧ j = f)) : ∀ {l : List Int32} {I : Nat → Nat → Int32} {t : Nat}, ¬ (a = b ∧ t ≤ j ∧ j < t + l.length) → ptL b o f I t l a j = I a j
  | [], _, _, _ => rfl
  | x :: l, I, t, h1 => by
    rw [List.length_cons] at h1
    rw [ptL, ptL_o h2 (by omega), pt1_o (by omega) h2]
theorem ptL_len : ∀ {l : List Int32} {I : Nat → Nat → Int32} {t : Nat}, I o f = nI t → ptL b o f I t l o f = nI (t + l.length)
  | [], _, _, h => h
  | x :: l, I, t, h => by
    rw [ptL, ptL_len (by unfold pt1; exact pu_s), List.length_cons]
    congr 1
    omega
theorem ptL_get (hbo : ¬ b = o) : ∀ {l : List Int32} {I : Nat → Nat → Int32} {t i : Nat} {x : Int32}, l[i]? = some x → ptL b o f I t l b (t + i) = x
  | [], _, _, _, _, h => by cases h
  | y :: l, I, t, 0, x, h => by
    cases h
    show ptL b o f I t (y :: l) b t = y
    rw [ptL, ptL_o (by omega) (by omega)]
    unfold pt1
    rw [pu_o hbo, pu_s]
  | y :: l, I, t, i + 1, x, h => by
    rw [ptL, show t + (i + 1) = (t + 1) + i by omega]
    exact ptL_get hbo h
def cB (v s : Int32) : Int32 := (v >>> (s &&& 31)) &&& 255
def mB (v s : Int32) : Int32 := vp_nar .byte (v >>> (s &&& 31)).toInt8.toInt32
abbrev c4 (v : Int32) : List Int32 := [cB v 24, cB v 16, cB v 8, cB v 0]
abbrev m4 (v : Int32) : List Int32 := [mB v 24, mB v 16, mB v 8, mB v 0]
abbrev cT (I : Nat → Nat → Int32) (t : Nat) (l : List Int32) := ptL 2 1 1 I t l
abbrev mT (I : Nat → Nat → Int32) (t : Nat) (l : List Int32) := ptL 303 275 43 I t l
end KC
section KD
variable {ys : List Int32} {I : Nat → Nat → Int32} {L : Nat → Nat → Int64} {s : Nat → Option Nat} {Q : List Value → pm_H → Prop}
theorem B_put {t : Nat} (hl : I 1 1 = nI t) (ht : t < 800) (x : Int32) (kk : Q [] (cT I t [x], L, g_R s, 306)) : pm_W (g_P ys) 16 0 [.ref 1, .int x] [] (I, L, g_R s, 306) (0, 0) Q := by
  have q1 : pm_u I 2 t x 1 1 = nI t := by rw [pu_o (by decide)]; exact hl
  refine ps_aload rfl rfl ?_
  refine ps_gfi 1 1 rfl rfl rfl rfl rfl ?_
  refine ps_aload rfl rfl ?_
  refine ps_gfr 1 0 rfl rfl rfl rfl rfl (rfl) ?_
  refine ps_alen rfl rfl ?_
  refine ps_icmpf rfl (by show decide (nI 800 ≤ I 1 1) = false; rw [hl]; exact decide_eq_false (nI_ge (by omega) (by omega))) ?_
  refine ps_aload rfl rfl ?_
  refine ps_gfr 1 0 rfl rfl rfl rfl rfl (rfl) ?_
  refine ps_aload rfl rfl ?_
  refine ps_gfi 1 1 rfl rfl rfl rfl rfl ?_
  refine ps_iload rfl rfl ?_
  refine ps_iast (t) rfl rfl rfl (hl) (by omega) ?_
  show pm_W (g_P ys) 16 22 _ _ (pm_u I 2 t x, L, g_R s, 306) (0, 0) Q
  refine ps_aload rfl rfl ?_
  refine ps_ar rfl rfl rfl rfl rfl ?_
  refine ps_gfi 1 1 rfl rfl rfl rfl rfl ?_
  rw [show ((pm_u I 2 t x, L, g_R s, 306) : pm_H).1 1 1 = nI t from q1]
  refine pw_c rfl ?_
  refine ps_ar rfl rfl rfl rfl rfl ?_
  rw [show nI t + 1 = nI (t + 1) from nI_1 t]
  refine ps_pfi 1 1 rfl rfl rfl rfl rfl ?_
  refine ps_vret rfl rfl ?_
  exact kk
theorem B_putInt {t : Nat} (hl : I 1 1 = nI t) (ht : t + 4 ≤ 800) (v : Int32) (kk : Q [] (cT I t (c4 v), L, g_R s, 306)) : pm_W (g_P ys) 15 0 [.ref 1, .int v, .retAddr 0] [] (I, L, g_R s, 306) (0, 0) Q := by
  have l1 : cT I t [cB v 24] 1 1 = nI (t + 1) := ptL_len hl
  have l2 : cT I t [cB v 24, cB v 16] 1 1 = nI (t + 2) := ptL_len hl
  have l3 : cT I t [cB v 24, cB v 16, cB v 8] 1 1 = nI (t + 3) := ptL_len hl
  refine pw_c rfl ?_
  refine ps_istore rfl rfl ?_
  refine ps_iload rfl rfl ?_
  refine ps_iff rfl (by decide) ?_
  refine ps_aload rfl rfl ?_
  refine ps_iload rfl rfl ?_
  refine ps_iload rfl rfl ?_
  refine ps_ar rfl rfl rfl rfl rfl ?_
  refine pw_c rfl ?_
  refine ps_ar rfl rfl rfl rfl rfl ?_
  refine pw_k rfl rfl rfl rfl ⟨Nat.zero_le _, Nat.zero_le _⟩ ?_
  refine B_put hl (by omega) _ ?_
  show pm_W (g_P ys) 15 18 [.ref 1, .int v, .int 24] [] (cT I t [cB v 24], L, g_R s, 306) (0, 0) Q
  refine ps_iinc rfl rfl ?_
  refine ps_goto rfl ?_
  show pm_W (g_P ys) 15 3 [.ref 1, .int v, .int 16] [] (cT I t [cB v 24], L, g_R s, 306) (0, 0) Q
  refine ps_iload rfl rfl ?_
  refine ps_iff rfl (by decide) ?_
  refine ps_aload rfl rfl ?_
  refine ps_iload rfl rfl ?_
  refine ps_iload rfl rfl ?_
  refine ps_ar rfl rfl rfl rfl rfl ?_
  refine pw_c rfl ?_
  refine ps_ar rfl rfl rfl rfl rfl ?_
  refine pw_k rfl rfl rfl rfl ⟨Nat.zero_le _, Nat.zero_le _⟩ ?_
  refine B_put l1 (by omega) _ ?_
  show pm_W (g_P ys) 15 18 [.ref 1, .int v, .int 16] [] (cT I t [cB v 24, cB v 16], L, g_R s, 306) (0, 0) Q
  refine ps_iinc rfl rfl ?_
  refine ps_goto rfl ?_
  show pm_W (g_P ys) 15 3 [.ref 1, .int v, .int 8] [] (cT I t [cB v 24, cB v 16], L, g_R s, 306) (0, 0) Q
  refine ps_iload rfl rfl ?_
  refine ps_iff rfl (by decide) ?_
  refine ps_aload rfl rfl ?_
  refine ps_iload rfl rfl ?_
  refine ps_iload rfl rfl ?_
  refine ps_ar rfl rfl rfl rfl rfl ?_
  refine pw_c rfl ?_
  refine ps_ar rfl rfl rfl rfl rfl ?_
  refine pw_k rfl rfl rfl rfl ⟨Nat.zero_le _, Nat.zero_le _⟩ ?_
  refine B_put l2 (by omega) _ ?_
  show pm_W (g_P ys) 15 18 [.ref 1, .int v, .int 8] [] (cT I t [cB v 24, cB v 16, cB v 8], L, g_R s, 306) (0, 0) Q
  refine ps_iinc rfl rfl ?_
  refine ps_goto rfl ?_
  show pm_W (g_P ys) 15 3 [.ref 1, .int v, .int 0] [] (cT I t [cB v 24, cB v 16, cB v 8], L, g_R s, 306) (0, 0) Q
  refine ps_iload rfl rfl ?_
  refine ps_iff rfl (by decide) ?_
  refine ps_aload rfl rfl ?_
  refine ps_iload rfl rfl ?_
  refine ps_iload rfl rfl ?_
  refine ps_ar rfl rfl rfl rfl rfl ?_
  refine pw_c rfl ?_
  refine ps_ar rfl rfl rfl rfl rfl ?_
  refine pw_k rfl rfl rfl rfl ⟨Nat.zero_le _, Nat.zero_le _⟩ ?_
  refine B_put l3 (by omega) _ ?_
  show pm_W (g_P ys) 15 18 [.ref 1, .int v, .int 0] [] (cT I t (c4 v), L, g_R s, 306) (0, 0) Q
  refine ps_iinc rfl rfl ?_
  refine ps_goto rfl ?_
  refine ps_iload rfl rfl ?_
  refine ps_ift rfl (by decide) ?_
  refine ps_vret rfl rfl ?_
  exact kk
theorem c20 {t : Nat} {a b c d e : Int32} : cT (cT (cT (cT (cT I t (c4 a)) (t + 4) (c4 b)) (t + 8) (c4 c)) (t + 12) (c4 d)) (t + 16) (c4 e) = cT I t (c4 a ++ (c4 b ++ (c4 c ++ (c4 d ++ c4 e)))) := by
  have e4 : ∀ v, (c4 v).length = 4 := fun _ => rfl
  unfold cT
  rw [ptL_app, ptL_app, ptL_app, ptL_app, e4, e4, e4, e4]
theorem m20 {t : Nat} {a b c d e : Int32} : mT (mT (mT (mT (mT I t (m4 a)) (t + 4) (m4 b)) (t + 8) (m4 c)) (t + 12) (m4 d)) (t + 16) (m4 e) = mT I t (m4 a ++ (m4 b ++ (m4 c ++ (m4 d ++ m4 e)))) := by
  have e4 : ∀ v, (m4 v).length = 4 := fun _ => rfl
  unfold mT
  rw [ptL_app, ptL_app, ptL_app, ptL_app, e4, e4, e4, e4]
theorem B_feedX {t : Nat} (hl : I 1 1 = nI t) (ht : t ≤ 800) (a b c d e : Int32) (k0 : 780 < t → Q [.int (-1)] (I, L, g_R s, 306)) (k1 : t ≤ 780 → Q [.int (nI (t + 20))] (cT I t (c4 a ++ (c4 b ++ (c4 c ++ (c4 d ++ c4 e)))), L, g_R s, 306)) : pm_W (g_P ys) 14 0 [.ref 0, .int a, .int b, .int c, .int d, .int e] [] (I, L, g_R s, 306) (0, 0) Q := by
  refine ps_aload rfl rfl ?_
  refine ps_gfr 0 0 rfl rfl rfl rfl rfl (rfl) ?_
  refine ps_gfi 1 1 rfl rfl rfl rfl rfl ?_
  rw [show ((I, L, g_R s, 306) : pm_H).1 1 1 = nI t from hl]
  refine pw_c rfl ?_
  refine ps_ar rfl rfl rfl rfl rfl ?_
  rw [show nI t + 20 = nI (t + 20) from nI_add t 20]
  by_cases h : 780 < t
  · refine pw_c rfl ?_
    refine ps_icmpf rfl (decide_eq_false (nI_ge (a := 800) (b := t + 20) (by omega) (by omega))) ?_
    refine pw_c rfl ?_
    refine ps_iret rfl rfl ?_
    exact k0 h
  · have l1 : cT I t (c4 a) 1 1 = nI (t + 4) := ptL_len hl
    have l2 : cT (cT I t (c4 a)) (t + 4) (c4 b) 1 1 = nI (t + 8) := ptL_len l1
    have l3 : cT (cT (cT I t (c4 a)) (t + 4) (c4 b)) (t + 8) (c4 c) 1 1 = nI (t + 12) := ptL_len l2
    have l4 : cT (cT (cT (cT I t (c4 a)) (t + 4) (c4 b)) (t + 8) (c4 c)) (t + 12) (c4 d) 1 1 = nI (t + 16) := ptL_len l3
    have l5 : cT (cT (cT (cT (cT I t (c4 a)) (t + 4) (c4 b)) (t + 8) (c4 c)) (t + 12) (c4 d)) (t + 16) (c4 e) 1 1 = nI (t + 20) := ptL_len l4
    refine pw_c rfl ?_
    refine ps_icmpt rfl (decide_eq_true (nI_le (a := t + 20) (b := 800) (by omega) (by omega))) ?_
    refine ps_aload rfl rfl ?_
    refine ps_gfr 0 0 rfl rfl rfl rfl rfl (rfl) ?_
    refine ps_iload rfl rfl ?_
    refine pw_k rfl rfl rfl rfl ⟨Nat.zero_le _, Nat.zero_le _⟩ ?_
    refine B_putInt hl (by omega) a ?_
    refine ps_aload rfl rfl ?_
    refine ps_gfr 0 0 rfl rfl rfl rfl rfl (rfl) ?_
    refine ps_iload rfl rfl ?_
    refine pw_k rfl rfl rfl rfl ⟨Nat.zero_le _, Nat.zero_le _⟩ ?_
    refine B_putInt l1 (by omega) b ?_
    refine ps_aload rfl rfl ?_
    refine ps_gfr 0 0 rfl rfl rfl rfl rfl (rfl) ?_
    refine ps_iload rfl rfl ?_
    refine pw_k rfl rfl rfl rfl ⟨Nat.zero_le _, Nat.zero_le _⟩ ?_
    refine B_putInt l2 (by omega) c ?_
    refine ps_aload rfl rfl ?_
    refine ps_gfr 0 0 rfl rfl rfl rfl rfl (rfl) ?_
    refine ps_iload rfl rfl ?_
    refine pw_k rfl rfl rfl rfl ⟨Nat.zero_le _, Nat.zero_le _⟩ ?_
    refine B_putInt l3 (by omega) d ?_
    refine ps_aload rfl rfl ?_
    refine ps_gfr 0 0 rfl rfl rfl rfl rfl (rfl) ?_
    refine ps_iload rfl rfl ?_
    refine pw_k rfl rfl rfl rfl ⟨Nat.zero_le _, Nat.zero_le _⟩ ?_
    refine B_putInt l4 (by omega) e ?_
    refine ps_aload rfl rfl ?_
    refine ps_gfr 0 0 rfl rfl rfl rfl rfl (rfl) ?_
    refine ps_gfi 1 1 rfl rfl rfl rfl rfl ?_
    rw [show ((cT (cT (cT (cT (cT I t (c4 a)) (t + 4) (c4 b)) (t + 8) (c4 c)) (t + 12) (c4 d)) (t + 16) (c4 e), L, g_R s, 306) : pm_H).1 1 1 = nI (t + 20) from l5]
    refine ps_iret rfl rfl ?_
    rw [c20]
    exact k1 (by omega)
theorem cT_iv {t : Nat} {l : List Int32} : ∀ {I : Nat → Nat → Int32}, sx_IV xT xtg xPH (I, L, g_R s, 306) → (∀ x, x ∈ l → 0 ≤ x.toInt ∧ x.toInt ≤ 255) → t + l.length ≤ 800 → sx_IV xT xtg xPH (cT I t l, L, g_R s, 306) ∧ sx_fr xtg xVP [(2, .ofNat 1, .ofNat 1), (3, .ofNat 0, .ofNat 799)] (false, false) (I, L, g_R s, 306) (cT I t l, L, g_R s, 306) := by
  induction l generalizing t with
  | nil => exact fun iv _ _ => ⟨iv, sx_fr_refl _ _ _ _ _⟩
  | cons x l ih =>
    intro I iv hb hn
    rw [List.length_cons] at hn
    have bx := hb x List.mem_cons_self
    have g := sx_mw_ok (xC []) iv (W := [(2, .ofNat 1, .ofNat 1), (3, .ofNat 0, .ofNat 799)]) (D := (false, false)) (a := 2) (t := 3) (k := t) (lo := 0) (hi := 799) (b := (0, 255)) (by decide) (by decide) (by omega) (by omega) (x := x) bx.1 bx.2
    have g2 := sx_mw_ok (xC []) g.1 (W := [(2, .ofNat 1, .ofNat 1), (3, .ofNat 0, .ofNat 799)]) (D := (false, false)) (a := 1) (t := 2) (k := 1) (lo := 1) (hi := 1) (b := (0, 800)) (by decide) (by decide) (by decide) (by decide) (x := nI (t + 1)) (by rw [nI_toInt (by omega)]; show (0 : Int) ≤ _; omega) (by rw [nI_toInt (by omega)]; show _ ≤ (800 : Int); omega)
    obtain ⟨g3, g4⟩ := ih (t := t + 1) (I := pt1 2 1 1 I t x) g2.1 (fun y hy => hb y (List.mem_cons_of_mem _ hy)) (by omega)
    exact ⟨g3, sx_fr_trans g.2.1 (sx_fr_trans g2.2.1 g4)⟩
theorem cB_bd (v s : Int32) : 0 ≤ (cB v s).toInt ∧ (cB v s).toInt ≤ 255 := sx_and_ok (by decide)
theorem c4_bd {a b c d e x : Int32} (h : x ∈ c4 a ++ (c4 b ++ (c4 c ++ (c4 d ++ c4 e)))) : 0 ≤ x.toInt ∧ x.toInt ≤ 255 := by
  simp only [c4, List.mem_append, List.mem_cons, List.not_mem_nil, or_false] at h
  rcases h with (rfl | rfl | rfl | rfl) | (rfl | rfl | rfl | rfl) | (rfl | rfl | rfl | rfl) | (rfl | rfl | rfl | rfl) | (rfl | rfl | rfl | rfl) <;> exact cB_bd _ _
theorem M_feeds {t : Nat} (hl : I 275 43 = nI t) (ht : t + 4 ≤ 800) (v : Int32) (kk : Q [] (mT I t (m4 v), L, g_R s, 306)) : pm_W (g_P ys) 277 0 [.ref 275, .int v, .retAddr 0] [] (I, L, g_R s, 306) (0, 0) Q := by
  have one : ∀ (I : Nat → Nat → Int32) (t : Nat) (k : Int32), I 275 43 = nI t → t < 800 → (0 : Int32) ≤ k → pm_W (g_P ys) 277 3 [.ref 275, .int v, .int (k + Int32.ofInt (-8))] [] (mT I t [mB v k], L, g_R s, 306) (0, 0) Q → pm_W (g_P ys) 277 3 [.ref 275, .int v, .int k] [] (I, L, g_R s, 306) (0, 0) Q := by
    intro I t k hl ht hk kk
    have q1 : pm_u I 303 t (mB v k) 275 43 = nI t := by rw [pu_o (by decide)]; exact hl
    refine ps_iload rfl rfl ?_
    refine ps_iff rfl (decide_eq_false (fun q => absurd ((i_le _ _).mp hk) (by have := (i_lt _ _).mp q; omega))) ?_
    refine ps_aload rfl rfl ?_
    refine ps_gfr 11 42 rfl rfl rfl rfl rfl (rfl) ?_
    refine ps_aload rfl rfl ?_
    refine ps_gfi 11 43 rfl rfl rfl rfl rfl ?_
    refine ps_iload rfl rfl ?_
    refine ps_iload rfl rfl ?_
    refine ps_ar rfl rfl rfl rfl rfl ?_
    refine ps_ar rfl rfl rfl rfl rfl ?_
    refine ps_bast (t) rfl rfl rfl (hl) (by omega) ?_
    show pm_W (g_P ys) 277 20 _ _ (pm_u I 303 t (mB v k), L, g_R s, 306) (0, 0) Q
    refine ps_aload rfl rfl ?_
    refine ps_ar rfl rfl rfl rfl rfl ?_
    refine ps_gfi 11 43 rfl rfl rfl rfl rfl ?_
    rw [show ((pm_u I 303 t (mB v k), L, g_R s, 306) : pm_H).1 275 43 = nI t from q1]
    refine pw_c rfl ?_
    refine ps_ar rfl rfl rfl rfl rfl ?_
    rw [show nI t + 1 = nI (t + 1) from nI_1 t]
    refine ps_pfi 11 43 rfl rfl rfl rfl rfl ?_
    refine ps_iinc rfl rfl ?_
    refine ps_goto rfl ?_
    exact kk
  have one2 : ∀ (I : Nat → Nat → Int32) (t t2 : Nat) (k k2 : Int32), I 275 43 = nI t → t < 800 → (0 : Int32) ≤ k → k + Int32.ofInt (-8) = k2 → t + 1 = t2 → (mT I t [mB v k] 275 43 = nI t2 → pm_W (g_P ys) 277 3 [.ref 275, .int v, .int k2] [] (mT I t [mB v k], L, g_R s, 306) (0, 0) Q) → pm_W (g_P ys) 277 3 [.ref 275, .int v, .int k] [] (I, L, g_R s, 306) (0, 0) Q := by
    intro I t t2 k k2 hl ht hk e1 e2 kk
    subst e1
    subst e2
    exact one I t k hl ht hk (kk (ptL_len hl))
  have e4 : mT (mT (mT (mT I t [mB v 24]) (t + 1) [mB v 16]) (t + 2) [mB v 8]) (t + 3) [mB v 0] = mT I t (m4 v) := by
    show _ = mT I t ([mB v 24] ++ ([mB v 16] ++ ([mB v 8] ++ [mB v 0])))
    have e1 : ∀ x : Int32, [x].length = 1 := fun _ => rfl
    unfold mT
    rw [ptL_app, ptL_app, ptL_app, e1, e1, e1]
  refine pw_c rfl ?_
  refine ps_istore rfl rfl ?_
  refine one2 I t (t + 1) 24 16 hl (by omega) (by decide) (by decide) rfl (fun l1 => ?_)
  refine one2 _ (t + 1) (t + 2) 16 8 l1 (by omega) (by decide) (by decide) rfl (fun l2 => ?_)
  refine one2 _ (t + 2) (t + 3) 8 0 l2 (by omega) (by decide) (by decide) rfl (fun l3 => ?_)
  refine one2 _ (t + 3) (t + 4) 0 (-8) l3 (by omega) (by decide) (by decide) rfl (fun l4 => ?_)
  rw [e4]
  refine ps_iload rfl rfl ?_
  refine ps_ift rfl (by decide) ?_
  refine ps_vret rfl rfl ?_
  exact kk
theorem M_feedX {t : Nat} (hl : I 275 43 = nI t) (ht : t ≤ 800) (a b c d e : Int32) (k0 : 780 < t → Q [.int (-1)] (pm_u I 275 1 0, L, g_R s, 306)) (k1 : t ≤ 780 → Q [.int (nI (t + 20))] (mT (pm_u I 275 1 0) t (m4 a ++ (m4 b ++ (m4 c ++ (m4 d ++ m4 e)))), L, g_R s, 306)) : pm_W (g_P ys) 276 0 [.ref 275, .int a, .int b, .int c, .int d, .int e] [] (I, L, g_R s, 306) (0, 0) Q := by
  refine ps_aload rfl rfl ?_
  refine pw_c rfl ?_
  refine ps_pfi 11 1 rfl rfl rfl rfl rfl ?_
  show pm_W (g_P ys) 276 5 _ _ (pm_u I 275 1 0, L, g_R s, 306) (0, 0) Q
  have hl : pm_u I 275 1 0 275 43 = nI t := by rw [pu_n (by decide)]; exact hl
  generalize pm_u I 275 1 0 = I at *
  refine ps_aload rfl rfl ?_
  refine ps_gfi 11 43 rfl rfl rfl rfl rfl ?_
  rw [show ((I, L, g_R s, 306) : pm_H).1 275 43 = nI t from hl]
  refine pw_c rfl ?_
  refine ps_ar rfl rfl rfl rfl rfl ?_
  rw [show nI t + 20 = nI (t + 20) from nI_add t 20]
  by_cases h : 780 < t
  · refine pw_c rfl ?_
    refine ps_icmpf rfl (decide_eq_false (nI_ge (a := 800) (b := t + 20) (by omega) (by omega))) ?_
    refine pw_c rfl ?_
    refine ps_iret rfl rfl ?_
    exact k0 h
  · have l1 : mT I t (m4 a) 275 43 = nI (t + 4) := ptL_len hl
    have l2 : mT (mT I t (m4 a)) (t + 4) (m4 b) 275 43 = nI (t + 8) := ptL_len l1
    have l3 : mT (mT (mT I t (m4 a)) (t + 4) (m4 b)) (t + 8) (m4 c) 275 43 = nI (t + 12) := ptL_len l2
    have l4 : mT (mT (mT (mT I t (m4 a)) (t + 4) (m4 b)) (t + 8) (m4 c)) (t + 12) (m4 d) 275 43 = nI (t + 16) := ptL_len l3
    have l5 : mT (mT (mT (mT (mT I t (m4 a)) (t + 4) (m4 b)) (t + 8) (m4 c)) (t + 12) (m4 d)) (t + 16) (m4 e) 275 43 = nI (t + 20) := ptL_len l4
    refine pw_c rfl ?_
    refine ps_icmpt rfl (decide_eq_true (nI_le (a := t + 20) (b := 800) (by omega) (by omega))) ?_
    refine ps_aload rfl rfl ?_
    refine ps_iload rfl rfl ?_
    refine pw_k rfl rfl rfl rfl ⟨Nat.zero_le _, Nat.zero_le _⟩ ?_
    refine M_feeds hl (by omega) a ?_
    refine ps_aload rfl rfl ?_
    refine ps_iload rfl rfl ?_
    refine pw_k rfl rfl rfl rfl ⟨Nat.zero_le _, Nat.zero_le _⟩ ?_
    refine M_feeds l1 (by omega) b ?_
    refine ps_aload rfl rfl ?_
    refine ps_iload rfl rfl ?_
    refine pw_k rfl rfl rfl rfl ⟨Nat.zero_le _, Nat.zero_le _⟩ ?_
    refine M_feeds l2 (by omega) c ?_
    refine ps_aload rfl rfl ?_
    refine ps_iload rfl rfl ?_
    refine pw_k rfl rfl rfl rfl ⟨Nat.zero_le _, Nat.zero_le _⟩ ?_
    refine M_feeds l3 (by omega) d ?_
    refine ps_aload rfl rfl ?_
    refine ps_iload rfl rfl ?_
    refine pw_k rfl rfl rfl rfl ⟨Nat.zero_le _, Nat.zero_le _⟩ ?_
    refine M_feeds l4 (by omega) e ?_
    refine ps_aload rfl rfl ?_
    refine ps_gfi 11 43 rfl rfl rfl rfl rfl ?_
    rw [show ((mT (mT (mT (mT (mT I t (m4 a)) (t + 4) (m4 b)) (t + 8) (m4 c)) (t + 12) (m4 d)) (t + 16) (m4 e), L, g_R s, 306) : pm_H).1 275 43 = nI (t + 20) from l5]
    refine ps_iret rfl rfl ?_
    rw [m20]
    exact k1 (by omega)
theorem mB_bd (v s : Int32) : -128 ≤ (mB v s).toInt ∧ (mB v s).toInt ≤ 127 := sx_nar_byte _
theorem m4_bd {a b c d e x : Int32} (h : x ∈ m4 a ++ (m4 b ++ (m4 c ++ (m4 d ++ m4 e)))) : -128 ≤ x.toInt ∧ x.toInt ≤ 127 := by
  simp only [m4, List.mem_append, List.mem_cons, List.not_mem_nil, or_false] at h
  rcases h with (rfl | rfl | rfl | rfl) | (rfl | rfl | rfl | rfl) | (rfl | rfl | rfl | rfl) | (rfl | rfl | rfl | rfl) | (rfl | rfl | rfl | rfl) <;> exact mB_bd _ _
theorem mT_iv {t : Nat} {l : List Int32} : ∀ {I : Nat → Nat → Int32}, sx_IV xT xtg xPH (I, L, g_R s, 306) → (∀ x, x ∈ l → -128 ≤ x.toInt ∧ x.toInt ≤ 127) → t + l.length ≤ 800 → sx_IV xT xtg xPH (mT I t l, L, g_R s, 306) ∧ sx_fr xtg xVP [(50, .ofNat 43, .ofNat 43), (78, .ofNat 0, .ofNat 799)] (false, false) (I, L, g_R s, 306) (mT I t l, L, g_R s, 306) := by
  induction l generalizing t with
  | nil => exact fun iv _ _ => ⟨iv, sx_fr_refl _ _ _ _ _⟩
  | cons x l ih =>
    intro I iv hb hn
    rw [List.length_cons] at hn
    have bx := hb x List.mem_cons_self
    have g := sx_mw_ok (xC []) iv (W := [(50, .ofNat 43, .ofNat 43), (78, .ofNat 0, .ofNat 799)]) (D := (false, false)) (a := 303) (t := 78) (k := t) (lo := 0) (hi := 799) (b := (-128, 127)) (by decide) (by decide) (by omega) (by omega) (x := x) bx.1 bx.2
    have g2 := sx_mw_ok (xC []) g.1 (W := [(50, .ofNat 43, .ofNat 43), (78, .ofNat 0, .ofNat 799)]) (D := (false, false)) (a := 275) (t := 50) (k := 43) (lo := 43) (hi := 43) (b := (0, 800)) (by decide) (by decide) (by decide) (by decide) (x := nI (t + 1)) (by rw [nI_toInt (by omega)]; show (0 : Int) ≤ _; omega) (by rw [nI_toInt (by omega)]; show _ ≤ (800 : Int); omega)
    obtain ⟨g3, g4⟩ := ih (t := t + 1) (I := pt1 303 275 43 I t x) g2.1 (fun y hy => hb y (List.mem_cons_of_mem _ hy)) (by omega)
    exact ⟨g3, sx_fr_trans g.2.1 (sx_fr_trans g2.2.1 g4)⟩
end KD
