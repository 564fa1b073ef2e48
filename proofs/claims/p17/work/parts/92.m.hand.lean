/-! BY HAND: the model prints -/
section IB
variable {ys : List Int32} {h0 h : pm_H} {Q : List Value → pm_H → Prop} {n : Nat}
theorem fr_wk {W1 W2 : sx_W} {D : Bool × Bool} {h h' : pm_H} (e : W1.all (fun q => sx_wk W2 q.1 q.2.1 q.2.2) = true) (k : sx_fr xtg xVP W1 D h h') : sx_fr xtg xVP W2 D h h' := by
  refine ⟨fun a j hn => k.1 a j (fun q => hn ?_), k.2⟩
  obtain ⟨q, h1, h2, h3, h4⟩ := q
  rw [← h2]
  exact sx_wk_ok (List.all_eq_true.mp e q h1) h3 h4
/-- out has at most n -/
def oS (h0 h : pm_H) (n : Nat) : Prop := sx_IV xT xtg xPH h ∧ sx_fr xtg xVP [(50, .ofNat 57, .ofNat 57), (80, .ofNat 0, .ofNat 1999)] (false, false) h0 h ∧ ∃ m : Nat, m ≤ n ∧ h.1 275 57 = nI m
theorem oS_o (k : oS h0 h n) {a j : Nat} (h1 : ¬ xtg a = 80) (h2 : ¬ (xtg a = 50 ∧ j = 57)) : h.1 a j = h0.1 a j := k.2.1.1 a j (fun q => by
  obtain ⟨q, g1, g2, g3, g4⟩ := q
  rcases List.mem_cons.mp g1 with rfl | g1
  · have g3' : (57 : Int) ≤ (j : Int) := g3
    have g4' : (j : Int) ≤ (57 : Int) := g4
    exact h2 ⟨g2.symm, by omega⟩
  · rcases List.mem_cons.mp g1 with rfl | g1
    · exact h1 g2.symm
    · cases g1)
theorem oS_le (k : oS h0 h n) {m : Nat} (hm : n ≤ m) : oS h0 h m := by
  obtain ⟨k1, k2, j, h1, h2⟩ := k
  exact ⟨k1, k2, j, by omega, h2⟩
theorem shM {h : pm_H} (iv : sx_IV xT xtg xPH h) : pm_sh (g_P ys) h 275 = some (.inl 11) := shp_of iv rfl rfl
theorem M_says (k : oS h0 h n) (hn : n < 2000) (c : Int32) (kk : ∀ h', oS h0 h' (n + 1) → Q [] h') : pm_W (g_P ys) 310 0 [.ref 275, .int c] [] h (0, 0) Q := by
  obtain ⟨iv, fr, m, hm, he⟩ := k
  obtain ⟨I, L, s, rfl⟩ := x_form iv
  have he : I 275 57 = nI m := he
  have bc := i_bd c
  refine ps_aload rfl rfl ?_
  refine ps_gfr 11 56 rfl rfl rfl rfl rfl (rfl) ?_
  refine ps_aload rfl rfl ?_
  refine ps_gfi 11 57 rfl rfl rfl rfl rfl ?_
  refine ps_iload rfl rfl ?_
  refine ps_iast (m) rfl rfl rfl (he) (by omega) ?_
  refine ps_aload rfl rfl ?_
  refine ps_ar rfl rfl rfl rfl rfl ?_
  refine ps_gfi 11 57 rfl rfl rfl rfl rfl ?_
  refine pw_c rfl ?_
  refine ps_ar rfl rfl rfl rfl rfl ?_
  refine ps_pfi 11 57 rfl rfl rfl rfl rfl ?_
  refine ps_vret rfl rfl ?_
  have g := sx_mw_ok (xC []) iv (W := [(50, .ofNat 57, .ofNat 57), (80, .ofNat 0, .ofNat 1999)]) (D := (false, false)) (a := 305) (t := 80) (k := m) (lo := 0) (hi := 1999) (b := (-2147483648, 2147483647)) (by decide) (by decide) (by omega) (by omega) (x := c) (by show (-2147483648 : Int) ≤ _; omega) (by show _ ≤ (2147483647 : Int); omega)
  have e1 : (pm_sI (I, L, g_R s, 306) 305 m c).1 275 57 + 1 = nI (m + 1) := by
    show I 275 57 + 1 = _
    rw [he]
    exact nI_1 m
  have t1 := nI_toInt (n := m + 1) (by omega)
  have g2 := sx_mw_ok (xC []) g.1 (W := [(50, .ofNat 57, .ofNat 57), (80, .ofNat 0, .ofNat 1999)]) (D := (false, false)) (a := 275) (t := 50) (k := 57) (lo := 57) (hi := 57) (b := (0, 2000)) (by decide) (by decide) (by decide) (by decide) (x := (pm_sI (I, L, g_R s, 306) 305 m c).1 275 57 + 1) (by rw [e1, t1]; show (0 : Int) ≤ _; omega) (by rw [e1, t1]; show _ ≤ (2000 : Int); omega)
  refine kk _ ⟨g2.1, sx_fr_trans fr (sx_fr_trans g.2.1 g2.2.1), m + 1, by omega, ?_⟩
  show pm_u (pm_u I 305 m c) 275 57 _ 275 57 = _
  rw [pu_s]
  exact e1
/-- powers of 27 -/
def bZ (j : Nat) : Int64 := Int64.ofInt (27 ^ j)
theorem bZ_f : (List.range 14).all (fun j => decide (bZ j * 27 = bZ (j + 1)) && (decide (bZ (j + 1) / 27 = bZ j) || Nat.beq j 13) && decide (¬ bZ j = 0) && decide (0 < bZ j)) = true := by decide +kernel
theorem bZ_13 (w : Int64) : ¬ 27 ≤ w / bZ 13 := by
  intro q
  rw [Int64.le_iff_toInt_le] at q
  have e : (bZ 13).toInt = 27 ^ 13 := by decide +kernel
  have b1 := Int64.toInt_lt w
  have b2 := Int64.le_toInt w
  rw [Int64.toInt_div_of_ne_right _ _ (by decide +kernel), e] at q
  have q : (27 : Int) ≤ w.toInt.tdiv (27 ^ 13) := q
  rcases Int.le_total 0 w.toInt with hw | hw
  · rw [Int.tdiv_eq_ediv_of_nonneg hw] at q
    omega
  · have : (-w.toInt).tdiv (27 ^ 13) = -(w.toInt.tdiv (27 ^ 13)) := Int.neg_tdiv ..
    have h2 : 0 ≤ (-w.toInt).tdiv (27 ^ 13) := Int.tdiv_nonneg (by omega) (by decide)
    omega
theorem M_saysWord (k : oS h0 h n) (hn : n + 15 ≤ 2000) (w : Int64) (b : Int32) (kk : ∀ h', oS h0 h' (n + 15) → Q [] h') : pm_W (g_P ys) 309 0 [.ref 275, .long w, .retAddr 0, .int b, .retAddr 0, .retAddr 0] [] h (0, 0) Q := by
  have loop2 : ∀ j, j ≤ 13 → ∀ (c : Nat) (h : pm_H), c + j ≤ n + 14 → oS h0 h c → pm_W (g_P ys) 309 35 [.ref 275, .long w, .retAddr 0, .int b, .long (bZ j), .retAddr 0] [] h (0, 0) Q := by
    intro j
    induction j with
    | zero =>
      intro _ c h hc k
      have f := rng bZ_f (a := 0) (by omega)
      refine ps_lload rfl rfl ?_
      refine pw_c rfl ?_
      refine ps_ar rfl rfl rfl rfl rfl ?_
      refine ps_iff rfl (by rw [show pm_cmp .le (lg_cmp (bZ 0) 0) 0 = !pm_cmp .gt (lg_cmp (bZ 0) 0) 0 from by decide +kernel]; decide +kernel) ?_
      have hs := shM (ys := ys) k.1
      refine ps_aload rfl rfl ?_
      refine ps_lload rfl rfl ?_
      refine ps_lload rfl rfl ?_
      refine ps_ldiv rfl (by decide +kernel) ?_
      refine pw_c rfl ?_
      refine ps_lrem rfl (by decide) ?_
      refine ps_ar rfl rfl rfl rfl rfl ?_
      refine pw_c rfl ?_
      refine ps_ar rfl rfl rfl rfl rfl ?_
      refine pv_k rfl rfl rfl rfl rfl (by first | assumption | rfl) rfl ⟨Nat.zero_le _, Nat.zero_le _⟩ ?_
      refine M_says k (by omega) _ ?_
      intro h' k'
      refine ps_lload rfl rfl ?_
      refine pw_c rfl ?_
      refine ps_ldiv rfl (by decide) ?_
      refine ps_lstore rfl rfl ?_
      refine ps_goto rfl ?_
      refine ps_lload rfl rfl ?_
      refine pw_c rfl ?_
      refine ps_ar rfl rfl rfl rfl rfl ?_
      refine ps_ift rfl (by decide +kernel) ?_
      refine ps_vret rfl rfl ?_
      exact kk _ (oS_le k' (by omega))
    | succ j ih =>
      intro hj c h hc k
      have f := rng bZ_f (a := j) (by omega)
      have f2 := rng bZ_f (a := j + 1) (by omega)
      simp only [Bool.and_eq_true, Bool.or_eq_true, decide_eq_true_iff] at f f2
      have e27 : bZ (j + 1) / 27 = bZ j := f.1.1.2.resolve_right (fun q => by have := Nat.eq_of_beq_eq_true q; omega)
      refine ps_lload rfl rfl ?_
      refine pw_c rfl ?_
      refine ps_ar rfl rfl rfl rfl rfl ?_
      have hgt : pm_cmp .gt (lg_cmp (bZ (j + 1)) 0) 0 = true := by rw [lc_gt]; exact decide_eq_true f2.2
      refine ps_iff rfl ?_ ?_
      · have : ∀ x : Int32, pm_cmp .gt x 0 = true → pm_cmp .le x 0 = false := by
          intro x hx
          simp only [pm_cmp, decide_eq_true_eq, decide_eq_false_iff_not] at hx ⊢
          rw [i_lt] at hx
          rw [i_le]
          omega
        exact this _ hgt
      have hs := shM (ys := ys) k.1
      refine ps_aload rfl rfl ?_
      refine ps_lload rfl rfl ?_
      refine ps_lload rfl rfl ?_
      refine ps_ldiv rfl (f2.1.2) ?_
      refine pw_c rfl ?_
      refine ps_lrem rfl (by decide) ?_
      refine ps_ar rfl rfl rfl rfl rfl ?_
      refine pw_c rfl ?_
      refine ps_ar rfl rfl rfl rfl rfl ?_
      refine pv_k rfl rfl rfl rfl rfl (by first | assumption | rfl) rfl ⟨Nat.zero_le _, Nat.zero_le _⟩ ?_
      refine M_says k (by omega) _ ?_
      intro h' k'
      refine ps_lload rfl rfl ?_
      refine pw_c rfl ?_
      refine ps_ldiv rfl (by decide) ?_
      rw [e27]
      refine ps_lstore rfl rfl ?_
      refine ps_goto rfl ?_
      exact ih (by omega) (c + 1) h' (by omega) k'
  have loop1 : ∀ d j, j + d = 13 → ∀ h, oS h0 h (n + 1) → pm_W (g_P ys) 309 13 [.ref 275, .long w, .retAddr 0, .int b, .long (bZ j), .retAddr 0] [] h (0, 0) Q := by
    intro d
    induction d with
    | zero =>
      intro j hj h k
      have hj : j = 13 := by omega
      subst hj
      refine ps_lload rfl rfl ?_
      refine ps_lload rfl rfl ?_
      refine ps_ldiv rfl (by decide +kernel) ?_
      refine pw_c rfl ?_
      refine ps_ar rfl rfl rfl rfl rfl ?_
      refine ps_ift rfl (by rw [lc_lt]; exact decide_eq_true (by have := bZ_13 w; rw [Int64.le_iff_toInt_le] at this; rw [Int64.lt_iff_toInt_lt]; omega)) ?_
      exact loop2 13 (by omega) (n + 1) h (by omega) k
    | succ d ih =>
      intro j hj h k
      have f := rng bZ_f (a := j) (by omega)
      simp only [Bool.and_eq_true, Bool.or_eq_true, decide_eq_true_iff] at f
      refine ps_lload rfl rfl ?_
      refine ps_lload rfl rfl ?_
      refine ps_ldiv rfl (f.1.2) ?_
      refine pw_c rfl ?_
      refine ps_ar rfl rfl rfl rfl rfl ?_
      refine ps_if rfl (fun hc => ?_) (fun hc => ?_)
      · exact loop2 j (by omega) (n + 1) h (by omega) k
      · refine ps_lload rfl rfl ?_
        refine pw_c rfl ?_
        refine ps_ar rfl rfl rfl rfl rfl ?_
        rw [f.1.1.1]
        refine ps_lstore rfl rfl ?_
        refine ps_goto rfl ?_
        exact ih (j + 1) (by omega) h k
  have go : ∀ h, oS h0 h (n + 1) → pm_W (g_P ys) 309 10 [.ref 275, .long w, .retAddr 0, .int b, .retAddr 0, .retAddr 0] [] h (0, 0) Q := by
    intro h k
    refine pw_c rfl ?_
    refine ps_lstore rfl rfl ?_
    show pm_W (g_P ys) 309 13 [.ref 275, .long w, .retAddr 0, .int b, .long (bZ 0), .retAddr 0] [] h (0, 0) Q
    exact loop1 13 0 (by omega) h k
  refine ps_iload rfl rfl ?_
  refine ps_if rfl (fun hc => ?_) (fun hc => ?_)
  · exact go _ (oS_le k (by omega))
  · have hs := shM (ys := ys) k.1
    refine ps_aload rfl rfl ?_
    refine pw_c rfl ?_
    refine pv_k rfl rfl rfl rfl rfl (by first | assumption | rfl) rfl ⟨Nat.zero_le _, Nat.zero_le _⟩ ?_
    refine M_says k (by omega) _ ?_
    intro h' k'
    exact go _ k'
theorem M_saysNumber (k : oS h0 h n) {v d : Nat} (hd : d ≤ 3) (hv : v < 10 ^ d) (hd1 : 1 ≤ d) (hn : n + d + 1 ≤ 2000) (kk : ∀ h', oS h0 h' (n + d + 1) → Q [] h') : pm_W (g_P ys) 311 0 [.ref 275, .int (nI v), .retAddr 0] [] h (0, 0) Q := by
  have hp : ∀ j, j ≤ 3 → 10 ^ j ≤ 1000 ∧ 1 ≤ 10 ^ j := by
    intro j hj
    have : j = 0 ∨ j = 1 ∨ j = 2 ∨ j = 3 := by omega
    rcases this with q | q | q | q <;> rw [q] <;> decide
  have hv3 : v < 1000 := by have := (hp d hd).1; omega
  have loop2 : ∀ j, j < 3 → ∀ (c : Nat) (h : pm_H), c + j + 1 ≤ n + d + 1 → oS h0 h c → pm_W (g_P ys) 311 24 [.ref 275, .int (nI v), .int (nI (10 ^ j))] [] h (0, 0) Q := by
    intro j
    induction j with
    | zero =>
      intro _ c h hc k
      have hs := shM (ys := ys) k.1
      refine ps_iload rfl rfl ?_
      refine ps_iff rfl (by decide) ?_
      refine ps_aload rfl rfl ?_
      refine pw_c rfl ?_
      refine ps_iload rfl rfl ?_
      refine ps_iload rfl rfl ?_
      refine ps_div rfl (nI_nz (b := 1) (by omega) (by omega)) ?_
      refine pw_c rfl ?_
      refine ps_rem rfl (by decide) ?_
      refine ps_ar rfl rfl rfl rfl rfl ?_
      refine pv_k rfl rfl rfl rfl rfl (by first | assumption | rfl) rfl ⟨Nat.zero_le _, Nat.zero_le _⟩ ?_
      refine M_says k (by omega) _ ?_
      intro h' k'
      refine ps_iload rfl rfl ?_
      refine pw_c rfl ?_
      refine ps_div rfl (by decide) ?_
      refine ps_istore rfl rfl ?_
      refine ps_goto rfl ?_
      refine ps_iload rfl rfl ?_
      refine ps_ift rfl (by decide) ?_
      refine ps_vret rfl rfl ?_
      exact kk _ (oS_le k' (by omega))
    | succ j ih =>
      intro hj c h hc k
      have q := hp (j + 1) (by omega)
      have q0 : (nI (10 ^ (j + 1))).toInt = ((10 ^ (j + 1) : Nat) : Int) := nI_toInt (by omega)
      have hs := shM (ys := ys) k.1
      refine ps_iload rfl rfl ?_
      refine ps_iff rfl (by show decide _ = false; refine decide_eq_false (fun g => ?_); rw [i_le, q0] at g; have e : (0 : Int32).toInt = 0 := rfl; omega) ?_
      refine ps_aload rfl rfl ?_
      refine pw_c rfl ?_
      refine ps_iload rfl rfl ?_
      refine ps_iload rfl rfl ?_
      refine ps_div rfl (nI_nz (by omega) (by omega)) ?_
      refine pw_c rfl ?_
      refine ps_rem rfl (by decide) ?_
      refine ps_ar rfl rfl rfl rfl rfl ?_
      refine pv_k rfl rfl rfl rfl rfl (by first | assumption | rfl) rfl ⟨Nat.zero_le _, Nat.zero_le _⟩ ?_
      refine M_says k (by omega) _ ?_
      intro h' k'
      refine ps_iload rfl rfl ?_
      refine pw_c rfl ?_
      refine ps_div rfl (by decide) ?_
      rw [show nI (10 ^ (j + 1)) / 10 = nI (10 ^ j) by rw [show (10 : Int32) = nI 10 from rfl, nI_div (by omega) (by omega), Nat.pow_succ, Nat.mul_div_cancel _ (by omega)]]
      refine ps_istore rfl rfl ?_
      refine ps_goto rfl ?_
      exact ih (by omega) (c + 1) h' (by omega) k'
  have loop1 : ∀ e j, j + e = d → j < d → ∀ h, oS h0 h (n + 1) → pm_W (g_P ys) 311 8 [.ref 275, .int (nI v), .int (nI (10 ^ j))] [] h (0, 0) Q := by
    intro e
    induction e with
    | zero => intro j h1 h2; omega
    | succ e ih =>
      intro j hj hjd h k
      have q := hp j (by omega)
      refine ps_iload rfl rfl ?_
      refine ps_iload rfl rfl ?_
      refine ps_div rfl (nI_nz (by omega) (by omega)) ?_
      rw [nI_div (by omega) (by omega)]
      refine pw_c rfl ?_
      refine ps_icmp rfl (fun hc => ?_) (fun hc => ?_)
      · exact loop2 j (by omega) (n + 1) h (by omega) k
      · have hge : 10 ≤ v / 10 ^ j := by
          have g : ¬ nI (v / 10 ^ j) < 10 := by simpa [pm_cmp] using hc
          rw [i_lt, nI_toInt (Nat.lt_of_le_of_lt (Nat.div_le_self _ _) (by omega))] at g
          have e10 : (10 : Int32).toInt = 10 := rfl
          omega
        have hj2 : j + 1 < d := by
          refine Nat.lt_of_le_of_ne (by omega) (fun q2 => ?_)
          have h1 : 10 ^ j * 10 ≤ v := by
            have := Nat.mul_le_mul_left (10 ^ j) hge
            have := Nat.mul_div_le v (10 ^ j)
            omega
          rw [← Nat.pow_succ, show j.succ = d from q2] at h1
          omega
        refine ps_iload rfl rfl ?_
        refine pw_c rfl ?_
        refine ps_ar rfl rfl rfl rfl rfl ?_
        rw [show nI (10 ^ j) * 10 = nI (10 ^ (j + 1)) by rw [show (10 : Int32) = nI 10 from rfl, pk_mul, Nat.pow_succ]]
        refine ps_istore rfl rfl ?_
        refine ps_goto rfl ?_
        exact ih (j + 1) (by omega) hj2 h k
  have hs := shM (ys := ys) k.1
  refine ps_aload rfl rfl ?_
  refine pw_c rfl ?_
  refine pv_k rfl rfl rfl rfl rfl (by first | assumption | rfl) rfl ⟨Nat.zero_le _, Nat.zero_le _⟩ ?_
  refine M_says k (by omega) _ ?_
  intro h' k'
  refine pw_c rfl ?_
  refine ps_istore rfl rfl ?_
  exact loop1 d 0 (by omega) (by omega) h' k'
end IB
