/-! BY HAND: the model's PLATES as they are made out of others, exactly -/
section KK
variable {I I' I'' : Nat → Nat → Int32} {L L' : Nat → Nat → Int64} {n : Nat} {s : Nat → Option Nat} {Q : List Value → pm_H → Prop} {ys : List Int32} {c : Nat}
/-- a PLATE's rows, and how large it may be -/
def szP (P : sPl) : Prop := 0 < P.w ∧ 0 < P.v ∧ P.w * P.v ≤ 289
theorem sz_b {P : sPl} (z : szP P) : P.w ≤ 289 ∧ P.v ≤ 289 := ⟨Nat.le_trans (Nat.le_mul_of_pos_right _ z.2.1) z.2.2, Nat.le_trans (Nat.le_mul_of_pos_left _ z.1) z.2.2⟩
theorem mk_o {k : Nat} {P : sPl} (h : mkP k P I) (z : szP P) (hk : k < n) (f : mkF n I I') : mkP k P I' := by
  obtain ⟨h1, h2, h3⟩ := h
  refine ⟨(f _ _ (by omega)).trans h1, (f _ _ (by omega)).trans h2, fun i hi => ?_⟩
  have := z.2.2
  rw [f _ _ (by omega), f _ _ (by omega)]
  exact h3 i hi
theorem hw_F {f a b d w v : Int32} {ho we : Nat → Int32} (h : hwI (tsI I n f a b d w v) I' n ho we c) : mkF n I I' := fun x j q => by
  rw [h.1 x j (fun z => q (Or.inr (Or.inl z)))]
  exact ts_F x j q
theorem M_makesNegative {nm : Int32} {P : sPl} {k : Nat} (hn : I 275 15 = nI n) (hn6 : n < 6) (hk : k < n) (hP : mkP k P I) (z : szP P) (kk : ∀ I', mkF n I I' → mkP n (pNeg nm P) I' → Q [] (I', L, g_R s, 306)) : pm_W (g_P ys) 303 0 [.ref 275, .int (nI k), .retAddr 0] [] (I, L, g_R s, 306) (0, 0) Q := by
  have zb := sz_b z
  have z3 := z.2.2
  have loop : ∀ d x I', x + d = P.w * P.v → hwI (tsI I n 3 (nI k) 0 0 (nI P.w) (nI P.v)) I' n (pNeg nm P).ho (pNeg nm P).we x → pm_W (g_P ys) 303 36 [.ref 275, .int (nI k), .int (nI x)] [] (I', L, g_R s, 306) (0, 0) Q := by
    intro d
    induction d with
    | zero =>
      intro x I' hx h
      have hP' := mk_o hP z hk (hw_F h)
      have hxp : x = P.w * P.v := by omega
      rw [hxp] at h
      refine ps_iload rfl rfl ?_
      refine ps_aload rfl rfl ?_
      refine ps_gfr 11 5 rfl rfl rfl rfl rfl (rfl) ?_
      refine pw_c rfl ?_
      refine ps_iload rfl rfl ?_
      refine ps_ar rfl rfl rfl rfl rfl ?_
      refine pw_c rfl ?_
      refine ps_ar rfl rfl rfl rfl rfl ?_
      refine ps_iald (7 * k) rfl rfl rfl (by simp only [ni_lit, ni_l0, pk_mul, nI_add, Nat.add_zero]) (by omega) ?_
      rw [show ((I', L, g_R s, 306) : pm_H).1 279 (7 * k) = nI P.w from hP'.1]
      refine ps_aload rfl rfl ?_
      refine ps_gfr 11 5 rfl rfl rfl rfl rfl (rfl) ?_
      refine pw_c rfl ?_
      refine ps_iload rfl rfl ?_
      refine ps_ar rfl rfl rfl rfl rfl ?_
      refine pw_c rfl ?_
      refine ps_ar rfl rfl rfl rfl rfl ?_
      refine ps_iald (7 * k + 1) rfl rfl rfl (by simp only [ni_lit, ni_l0, pk_mul, nI_add, Nat.add_zero]) (by omega) ?_
      rw [show ((I', L, g_R s, 306) : pm_H).1 279 (7 * k + 1) = nI P.v from hP'.2.1]
      refine ps_ar rfl rfl rfl rfl rfl ?_
      rw [pk_mul]
      refine ps_icmpt rfl (decide_eq_true (nI_le (by omega) (by omega))) ?_
      refine ps_vret rfl rfl ?_
      obtain ⟨z1, z2⟩ := mk_done (I := I) (I' := I') (n := n) (P := pNeg nm P) (f := 3) (a := nI k) (b := 0) (d := 0) h
      exact kk _ z1 z2
    | succ d ih =>
      intro x I' hx h
      have hP' := mk_o hP z hk (hw_F h)
      have np : I' 275 15 = nI n := (hw_np h).trans (ts_np.trans hn)
      obtain ⟨p1, p2⟩ := hP'.2.2 x (by omega)
      refine ps_iload rfl rfl ?_
      refine ps_aload rfl rfl ?_
      refine ps_gfr 11 5 rfl rfl rfl rfl rfl (rfl) ?_
      refine pw_c rfl ?_
      refine ps_iload rfl rfl ?_
      refine ps_ar rfl rfl rfl rfl rfl ?_
      refine pw_c rfl ?_
      refine ps_ar rfl rfl rfl rfl rfl ?_
      refine ps_iald (7 * k) rfl rfl rfl (by simp only [ni_lit, ni_l0, pk_mul, nI_add, Nat.add_zero]) (by omega) ?_
      rw [show ((I', L, g_R s, 306) : pm_H).1 279 (7 * k) = nI P.w from hP'.1]
      refine ps_aload rfl rfl ?_
      refine ps_gfr 11 5 rfl rfl rfl rfl rfl (rfl) ?_
      refine pw_c rfl ?_
      refine ps_iload rfl rfl ?_
      refine ps_ar rfl rfl rfl rfl rfl ?_
      refine pw_c rfl ?_
      refine ps_ar rfl rfl rfl rfl rfl ?_
      refine ps_iald (7 * k + 1) rfl rfl rfl (by simp only [ni_lit, ni_l0, pk_mul, nI_add, Nat.add_zero]) (by omega) ?_
      rw [show ((I', L, g_R s, 306) : pm_H).1 279 (7 * k + 1) = nI P.v from hP'.2.1]
      refine ps_ar rfl rfl rfl rfl rfl ?_
      rw [pk_mul]
      refine ps_icmpf rfl (decide_eq_false (nI_ge (by omega) (by omega))) ?_
      refine ps_aload rfl rfl ?_
      refine ps_iload rfl rfl ?_
      refine ps_aload rfl rfl ?_
      refine ps_gfr 11 7 rfl rfl rfl rfl rfl (rfl) ?_
      refine pw_c rfl ?_
      refine ps_iload rfl rfl ?_
      refine ps_ar rfl rfl rfl rfl rfl ?_
      refine ps_iload rfl rfl ?_
      refine ps_ar rfl rfl rfl rfl rfl ?_
      refine ps_iald (289 * k + x) rfl rfl rfl (by simp only [ni_lit, ni_l0, pk_mul, nI_add, Nat.add_zero]) (by omega) ?_
      rw [show ((I', L, g_R s, 306) : pm_H).1 281 (289 * k + x) = P.ho x from p1]
      have next : ∀ b : Int32, (if b = 0 then (0 : Int32) else 1) = (pNeg nm P).ho x → pm_W (g_P ys) 303 85 [.ref 275, .int (nI k), .int (nI x)] [.int b, .int (nI x), .ref 275] (I', L, g_R s, 306) (0, 0) Q := by
        intro b hb
        refine ps_aload rfl rfl ?_
        refine ps_gfr 11 9 rfl rfl rfl rfl rfl (rfl) ?_
        refine pw_c rfl ?_
        refine ps_iload rfl rfl ?_
        refine ps_ar rfl rfl rfl rfl rfl ?_
        refine ps_iload rfl rfl ?_
        refine ps_ar rfl rfl rfl rfl rfl ?_
        refine ps_iald (289 * k + x) rfl rfl rfl (by simp only [ni_lit, ni_l0, pk_mul, nI_add, Nat.add_zero]) (by omega) ?_
        rw [show ((I', L, g_R s, 306) : pm_H).1 283 (289 * k + x) = P.we x from p2]
        refine ps_ar rfl rfl rfl rfl rfl ?_
        refine pw_k rfl rfl rfl rfl ⟨Nat.zero_le _, Nat.zero_le _⟩ ?_
        refine M_puts np hn6 (by omega) b (- P.we x) ?_
        refine ps_iinc rfl rfl ?_
        refine ps_goto rfl ?_
        rw [show nI x + Int32.ofInt 1 = nI (x + 1) from nI_1 x]
        exact ih (x + 1) _ (by omega) (hw_s h (by omega) hb rfl)
      by_cases e : P.ho x = 0
      · rw [e]
        refine ps_iff rfl (rfl) ?_
        refine pw_c rfl ?_
        refine ps_goto rfl ?_
        exact next 1 (if_pos (t := (1 : Int32)) e).symm
      · refine ps_ift rfl (decide_eq_true e) ?_
        refine pw_c rfl ?_
        exact next 0 (if_neg (t := (1 : Int32)) e).symm
  have hT : mkP k P (pm_u (pm_u (pm_u (pm_u I 279 (7 * n + 2) 3) 279 (7 * n + 3) (nI k)) 279 (7 * n + 4) 0) 279 (7 * n + 5) 0) := mk_o hP z hk (fun a j q => by rw [pu_x (fun z => q (by omega)), pu_x (fun z => q (by omega)), pu_x (fun z => q (by omega)), pu_x (fun z => q (by omega))])
  refine ps_aload rfl rfl ?_
  refine pw_c rfl ?_
  refine ps_iload rfl rfl ?_
  refine pw_c rfl ?_
  refine pw_c rfl ?_
  refine pw_k rfl rfl rfl rfl ⟨Nat.zero_le _, Nat.zero_le _⟩ ?_
  refine M_tells hn hn6 3 (nI k) 0 0 ?_
  refine ps_aload rfl rfl ?_
  refine ps_aload rfl rfl ?_
  refine ps_gfr 11 5 rfl rfl rfl rfl rfl (rfl) ?_
  refine pw_c rfl ?_
  refine ps_iload rfl rfl ?_
  refine ps_ar rfl rfl rfl rfl rfl ?_
  refine pw_c rfl ?_
  refine ps_ar rfl rfl rfl rfl rfl ?_
  refine ps_iald (7 * k) rfl rfl rfl (by simp only [ni_lit, ni_l0, pk_mul, nI_add, Nat.add_zero]) (by omega) ?_
  rw [show ((pm_u (pm_u (pm_u (pm_u I 279 (7 * n + 2) 3) 279 (7 * n + 3) (nI k)) 279 (7 * n + 4) 0) 279 (7 * n + 5) 0, L, g_R s, 306) : pm_H).1 279 (7 * k) = nI P.w from hT.1]
  refine ps_aload rfl rfl ?_
  refine ps_gfr 11 5 rfl rfl rfl rfl rfl (rfl) ?_
  refine pw_c rfl ?_
  refine ps_iload rfl rfl ?_
  refine ps_ar rfl rfl rfl rfl rfl ?_
  refine pw_c rfl ?_
  refine ps_ar rfl rfl rfl rfl rfl ?_
  refine ps_iald (7 * k + 1) rfl rfl rfl (by simp only [ni_lit, ni_l0, pk_mul, nI_add, Nat.add_zero]) (by omega) ?_
  rw [show ((pm_u (pm_u (pm_u (pm_u I 279 (7 * n + 2) 3) 279 (7 * n + 3) (nI k)) 279 (7 * n + 4) 0) 279 (7 * n + 5) 0, L, g_R s, 306) : pm_H).1 279 (7 * k + 1) = nI P.v from hT.2.1]
  refine pw_k rfl rfl rfl rfl ⟨Nat.zero_le _, Nat.zero_le _⟩ ?_
  refine M_sizes (by rw [pu_o (by decide), pu_o (by decide), pu_o (by decide), pu_o (by decide)]; exact hn) hn6 (nI P.w) (nI P.v) ?_
  refine pw_c rfl ?_
  refine ps_istore rfl rfl ?_
  exact loop (P.w * P.v) 0 _ (by omega) hw_0
theorem M_makesBoth {nm : Int32} {P R : sPl} {k l : Nat} (hn : I 275 15 = nI n) (hn6 : n < 6) (hk : k < n) (hl : l < n) (hP : mkP k P I) (hR : mkP l R I) (zP : szP P) (zR : szP R) (pv : P.v = 1) (rv : R.v = 1) (wh : P.w * R.w ≤ 289) (kk : ∀ I', mkF n I I' → mkP n (pBoth nm P R) I' → Q [] (I', L, g_R s, 306)) : pm_W (g_P ys) 304 0 [.ref 275, .int (nI k), .int (nI l), .retAddr 0, .retAddr 0, .retAddr 0, .retAddr 0] [] (I, L, g_R s, 306) (0, 0) Q := by
  have bP := sz_b zP
  have bR := sz_b zR
  have w0 := zP.1
  have outer : ∀ e y I' (v6 : Value), y + e = R.w → hwI (tsI I n 4 (nI k) (nI l) 0 (nI P.w) (nI R.w)) I' n (pBoth nm P R).ho (pBoth nm P R).we (P.w * y) → pm_W (g_P ys) 304 43 [.ref 275, .int (nI k), .int (nI l), .int (nI P.w), .int (nI R.w), .int (nI y), v6] [] (I', L, g_R s, 306) (0, 0) Q := by
    intro e
    induction e with
    | zero =>
      intro y I' v6 hy h
      have hyp : y = R.w := by omega
      rw [hyp] at h
      refine ps_iload rfl rfl ?_
      refine ps_iload rfl rfl ?_
      refine ps_icmpt rfl (decide_eq_true (nI_le (by omega) (by omega))) ?_
      refine ps_vret rfl rfl ?_
      obtain ⟨z1, z2⟩ := mk_done (I := I) (I' := I') (n := n) (P := pBoth nm P R) (f := 4) (a := nI k) (b := nI l) (d := 0) h
      exact kk _ z1 z2
    | succ e ihe =>
      intro y I' v6 hy h
      have hyl : P.w * y + P.w ≤ P.w * R.w := by
        have := Nat.mul_le_mul_left P.w (show y + 1 ≤ R.w by omega)
        rw [Nat.mul_add, Nat.mul_one] at this
        exact this
      have inner : ∀ d x I', x + d = P.w → hwI (tsI I n 4 (nI k) (nI l) 0 (nI P.w) (nI R.w)) I' n (pBoth nm P R).ho (pBoth nm P R).we (P.w * y + x) → pm_W (g_P ys) 304 53 [.ref 275, .int (nI k), .int (nI l), .int (nI P.w), .int (nI R.w), .int (nI y), .int (nI x)] [] (I', L, g_R s, 306) (0, 0) Q := by
        intro d
        induction d with
        | zero =>
          intro x I' hx h
          have hxp : x = P.w := by omega
          rw [hxp, show P.w * y + P.w = P.w * (y + 1) by rw [Nat.mul_add, Nat.mul_one]] at h
          refine ps_iload rfl rfl ?_
          refine ps_iload rfl rfl ?_
          refine ps_icmpt rfl (decide_eq_true (nI_le (by omega) (by omega))) ?_
          refine ps_iinc rfl rfl ?_
          refine ps_goto rfl ?_
          rw [show nI y + Int32.ofInt 1 = nI (y + 1) from nI_1 y]
          exact ihe (y + 1) _ _ (by omega) h
        | succ d ih =>
          intro x I' hx h
          have np : I' 275 15 = nI n := (hw_np h).trans (ts_np.trans hn)
          obtain ⟨ix1, ix2⟩ := sq_ix (p := P.w) (x := x) (y := y) (by omega)
          obtain ⟨p1, p2⟩ := (mk_o hP zP hk (hw_F h)).2.2 x (by rw [pv]; omega)
          obtain ⟨r1, r2⟩ := (mk_o hR zR hl (hw_F h)).2.2 y (by rw [rv]; omega)
          have next : ∀ b : Int32, (if b = 0 then (0 : Int32) else 1) = (pBoth nm P R).ho (P.w * y + x) → pm_W (g_P ys) 304 101 [.ref 275, .int (nI k), .int (nI l), .int (nI P.w), .int (nI R.w), .int (nI y), .int (nI x)] [.int b, .int (nI (P.w * y + x)), .ref 275] (I', L, g_R s, 306) (0, 0) Q := by
            intro b hb
            refine ps_aload rfl rfl ?_
            refine ps_gfr 11 9 rfl rfl rfl rfl rfl (rfl) ?_
            refine pw_c rfl ?_
            refine ps_iload rfl rfl ?_
            refine ps_ar rfl rfl rfl rfl rfl ?_
            refine ps_iload rfl rfl ?_
            refine ps_ar rfl rfl rfl rfl rfl ?_
            refine ps_iald (289 * k + x) rfl rfl rfl (by simp only [ni_lit, ni_l0, pk_mul, nI_add, Nat.add_zero]) (by omega) ?_
            rw [show ((I', L, g_R s, 306) : pm_H).1 283 (289 * k + x) = P.we x from p2]
            refine ps_aload rfl rfl ?_
            refine ps_gfr 11 9 rfl rfl rfl rfl rfl (rfl) ?_
            refine pw_c rfl ?_
            refine ps_iload rfl rfl ?_
            refine ps_ar rfl rfl rfl rfl rfl ?_
            refine ps_iload rfl rfl ?_
            refine ps_ar rfl rfl rfl rfl rfl ?_
            refine ps_iald (289 * l + y) rfl rfl rfl (by simp only [ni_lit, ni_l0, pk_mul, nI_add, Nat.add_zero]) (by omega) ?_
            rw [show ((I', L, g_R s, 306) : pm_H).1 283 (289 * l + y) = R.we y from r2]
            refine ps_ar rfl rfl rfl rfl rfl ?_
            refine pw_k rfl rfl rfl rfl ⟨Nat.zero_le _, Nat.zero_le _⟩ ?_
            refine M_puts np hn6 (by omega) b (P.we x * R.we y) ?_
            refine ps_iinc rfl rfl ?_
            refine ps_goto rfl ?_
            rw [show nI x + Int32.ofInt 1 = nI (x + 1) from nI_1 x]
            refine ih (x + 1) _ (by omega) (hw_s h (by omega) hb ?_)
            show _ = P.we ((P.w * y + x) % P.w) * R.we ((P.w * y + x) / P.w)
            rw [ix1, ix2]
          have eh : (pBoth nm P R).ho (P.w * y + x) = if P.ho x = R.ho y then 1 else 0 := by
            show (if P.ho ((P.w * y + x) % P.w) = R.ho ((P.w * y + x) / P.w) then (1 : Int32) else 0) = _
            rw [ix1, ix2]
          refine ps_iload rfl rfl ?_
          refine ps_iload rfl rfl ?_
          refine ps_icmpf rfl (decide_eq_false (nI_ge (by omega) (by omega))) ?_
          refine ps_aload rfl rfl ?_
          refine ps_iload rfl rfl ?_
          refine ps_iload rfl rfl ?_
          refine ps_ar rfl rfl rfl rfl rfl ?_
          refine ps_iload rfl rfl ?_
          refine ps_ar rfl rfl rfl rfl rfl ?_
          rw [show nI P.w * nI y + nI x = nI (P.w * y + x) by simp only [pk_mul, nI_add]]
          refine ps_aload rfl rfl ?_
          refine ps_gfr 11 7 rfl rfl rfl rfl rfl (rfl) ?_
          refine pw_c rfl ?_
          refine ps_iload rfl rfl ?_
          refine ps_ar rfl rfl rfl rfl rfl ?_
          refine ps_iload rfl rfl ?_
          refine ps_ar rfl rfl rfl rfl rfl ?_
          refine ps_iald (289 * k + x) rfl rfl rfl (by simp only [ni_lit, ni_l0, pk_mul, nI_add, Nat.add_zero]) (by omega) ?_
          rw [show ((I', L, g_R s, 306) : pm_H).1 281 (289 * k + x) = P.ho x from p1]
          refine ps_aload rfl rfl ?_
          refine ps_gfr 11 7 rfl rfl rfl rfl rfl (rfl) ?_
          refine pw_c rfl ?_
          refine ps_iload rfl rfl ?_
          refine ps_ar rfl rfl rfl rfl rfl ?_
          refine ps_iload rfl rfl ?_
          refine ps_ar rfl rfl rfl rfl rfl ?_
          refine ps_iald (289 * l + y) rfl rfl rfl (by simp only [ni_lit, ni_l0, pk_mul, nI_add, Nat.add_zero]) (by omega) ?_
          rw [show ((I', L, g_R s, 306) : pm_H).1 281 (289 * l + y) = R.ho y from r1]
          by_cases e : P.ho x = R.ho y
          · refine ps_icmpf rfl (decide_eq_false (fun q => q e)) ?_
            refine pw_c rfl ?_
            refine ps_goto rfl ?_
            exact next 1 (by rw [eh, if_pos e]; rfl)
          · refine ps_icmpt rfl (decide_eq_true e) ?_
            refine pw_c rfl ?_
            exact next 0 (by rw [eh, if_neg e]; rfl)
      refine ps_iload rfl rfl ?_
      refine ps_iload rfl rfl ?_
      refine ps_icmpf rfl (decide_eq_false (nI_ge (by omega) (by omega))) ?_
      refine pw_c rfl ?_
      refine ps_istore rfl rfl ?_
      exact inner P.w 0 I' (by omega) h
  have fT : mkF n I (pm_u (pm_u (pm_u (pm_u I 279 (7 * n + 2) 4) 279 (7 * n + 3) (nI k)) 279 (7 * n + 4) (nI l)) 279 (7 * n + 5) 0) := fun a j q => by rw [pu_x (fun z => q (by omega)), pu_x (fun z => q (by omega)), pu_x (fun z => q (by omega)), pu_x (fun z => q (by omega))]
  refine ps_aload rfl rfl ?_
  refine pw_c rfl ?_
  refine ps_iload rfl rfl ?_
  refine ps_iload rfl rfl ?_
  refine pw_c rfl ?_
  refine pw_k rfl rfl rfl rfl ⟨Nat.zero_le _, Nat.zero_le _⟩ ?_
  refine M_tells hn hn6 4 (nI k) (nI l) 0 ?_
  refine ps_aload rfl rfl ?_
  refine ps_gfr 11 5 rfl rfl rfl rfl rfl (rfl) ?_
  refine pw_c rfl ?_
  refine ps_iload rfl rfl ?_
  refine ps_ar rfl rfl rfl rfl rfl ?_
  refine pw_c rfl ?_
  refine ps_ar rfl rfl rfl rfl rfl ?_
  refine ps_iald (7 * k) rfl rfl rfl (by simp only [ni_lit, ni_l0, pk_mul, nI_add, Nat.add_zero]) (by omega) ?_
  rw [show ((pm_u (pm_u (pm_u (pm_u I 279 (7 * n + 2) 4) 279 (7 * n + 3) (nI k)) 279 (7 * n + 4) (nI l)) 279 (7 * n + 5) 0, L, g_R s, 306) : pm_H).1 279 (7 * k) = nI P.w from (mk_o hP zP hk fT).1]
  refine ps_istore rfl rfl ?_
  refine ps_aload rfl rfl ?_
  refine ps_gfr 11 5 rfl rfl rfl rfl rfl (rfl) ?_
  refine pw_c rfl ?_
  refine ps_iload rfl rfl ?_
  refine ps_ar rfl rfl rfl rfl rfl ?_
  refine pw_c rfl ?_
  refine ps_ar rfl rfl rfl rfl rfl ?_
  refine ps_iald (7 * l) rfl rfl rfl (by simp only [ni_lit, ni_l0, pk_mul, nI_add, Nat.add_zero]) (by omega) ?_
  rw [show ((pm_u (pm_u (pm_u (pm_u I 279 (7 * n + 2) 4) 279 (7 * n + 3) (nI k)) 279 (7 * n + 4) (nI l)) 279 (7 * n + 5) 0, L, g_R s, 306) : pm_H).1 279 (7 * l) = nI R.w from (mk_o hR zR hl fT).1]
  refine ps_istore rfl rfl ?_
  refine ps_aload rfl rfl ?_
  refine ps_iload rfl rfl ?_
  refine ps_iload rfl rfl ?_
  refine pw_k rfl rfl rfl rfl ⟨Nat.zero_le _, Nat.zero_le _⟩ ?_
  refine M_sizes (by rw [pu_o (by decide), pu_o (by decide), pu_o (by decide), pu_o (by decide)]; exact hn) hn6 (nI P.w) (nI R.w) ?_
  refine pw_c rfl ?_
  refine ps_istore rfl rfl ?_
  exact outer R.w 0 _ _ (by omega) (by rw [Nat.mul_zero]; exact hw_0)
theorem iI_n (z : Int) (h : 0 ≤ z) : iI z = nI z.toNat := by
  rw [← iI_nat, Int.toNat_of_nonneg h]
theorem M_makesTurn {nm : Int32} {P : sPl} {k a b : Nat} (hn : I 275 15 = nI n) (hn6 : n < 6) (hk : k < n) (hP : mkP k P I) (zP : szP P) (h01 : ∀ i, i < P.w * P.v → P.ho i = 0 ∨ P.ho i = 1) (ha : a ≤ 99) (hb : b ≤ 99) (kk : ∀ I', mkF n I I' → mkP n (pTurn nm P a b) I' → Q [] (I', L, g_R s, 306)) : pm_W (g_P ys) 302 0 [.ref 275, .int (nI k), .int (nI a), .int (nI b), .retAddr 0, .retAddr 0, .retAddr 0, .retAddr 0, .retAddr 0] [] (I, L, g_R s, 306) (0, 0) Q := by
  have bP := sz_b zP
  have w0 := zP.1
  have v0 := zP.2.1
  have wv := zP.2.2
  have outer : ∀ e y I' (v7 v8 : Value), y + e = P.v → hwI (tsI I n 2 (nI k) (nI a) (nI b) (nI P.w) (nI P.v)) I' n (pTurn nm P a b).ho (pTurn nm P a b).we (P.w * y) → pm_W (g_P ys) 302 45 [.ref 275, .int (nI k), .int (nI a), .int (nI b), .int (nI P.w), .int (nI P.v), .int (nI y), v7, v8] [] (I', L, g_R s, 306) (0, 0) Q := by
    intro e
    induction e with
    | zero =>
      intro y I' v7 v8 hy h
      have hyp : y = P.v := by omega
      rw [hyp] at h
      refine ps_iload rfl rfl ?_
      refine ps_iload rfl rfl ?_
      refine ps_icmpt rfl (decide_eq_true (nI_le (by omega) (by omega))) ?_
      refine ps_vret rfl rfl ?_
      obtain ⟨z1, z2⟩ := mk_done (I := I) (I' := I') (n := n) (P := pTurn nm P a b) (f := 2) (a := nI k) (b := nI a) (d := nI b) h
      exact kk _ z1 z2
    | succ e ihe =>
      intro y I' v7 v8 hy h
      have hyl : P.w * y + P.w ≤ P.w * P.v := by
        have := Nat.mul_le_mul_left P.w (show y + 1 ≤ P.v by omega)
        rw [Nat.mul_add, Nat.mul_one] at this
        exact this
      have inner : ∀ d x I' (v8 : Value), x + d = P.w → hwI (tsI I n 2 (nI k) (nI a) (nI b) (nI P.w) (nI P.v)) I' n (pTurn nm P a b).ho (pTurn nm P a b).we (P.w * y + x) → pm_W (g_P ys) 302 55 [.ref 275, .int (nI k), .int (nI a), .int (nI b), .int (nI P.w), .int (nI P.v), .int (nI y), .int (nI x), v8] [] (I', L, g_R s, 306) (0, 0) Q := by
        intro d
        induction d with
        | zero =>
          intro x I' v8 hx h
          have hxp : x = P.w := by omega
          rw [hxp, show P.w * y + P.w = P.w * (y + 1) by rw [Nat.mul_add, Nat.mul_one]] at h
          refine ps_iload rfl rfl ?_
          refine ps_iload rfl rfl ?_
          refine ps_icmpt rfl (decide_eq_true (nI_le (by omega) (by omega))) ?_
          refine ps_iinc rfl rfl ?_
          refine ps_goto rfl ?_
          rw [show nI y + Int32.ofInt 1 = nI (y + 1) from nI_1 y]
          exact ihe (y + 1) _ _ _ (by omega) h
        | succ d ih =>
          intro x I' v8 hx h
          have np : I' 275 15 = nI n := (hw_np h).trans (ts_np.trans hn)
          obtain ⟨ix1, ix2⟩ := sq_ix (p := P.w) (x := x) (y := y) (by omega)
          have my := Int.emod_lt_of_pos ((y : Int) - b) (show (0 : Int) < P.v by omega)
          have my0 := Int.emod_nonneg ((y : Int) - b) (show ¬ (P.v : Int) = 0 by omega)
          have mx := Int.emod_lt_of_pos ((x : Int) - a) (show (0 : Int) < P.w by omega)
          have mx0 := Int.emod_nonneg ((x : Int) - a) (show ¬ (P.w : Int) = 0 by omega)
          have tu : tuI P.w P.v a b (P.w * y + x) = (((y : Int) - b) % P.v).toNat * P.w + (((x : Int) - a) % P.w).toNat := by
            unfold tuI
            rw [ix1, ix2]
          obtain ⟨ny, hny⟩ : ∃ ny, ny = (((y : Int) - b) % P.v).toNat := ⟨_, rfl⟩
          obtain ⟨nx, hnx⟩ : ∃ nx, nx = (((x : Int) - a) % P.w).toNat := ⟨_, rfl⟩
          have iy : iI (((y : Int) - b) % P.v) = nI ny := by rw [hny]; exact iI_n _ my0
          have ixx : iI (((x : Int) - a) % P.w) = nI nx := by rw [hnx]; exact iI_n _ mx0
          rw [← hny, ← hnx] at tu
          have tl : ny * P.w + nx < P.w * P.v := by
            have h1 : ny * P.w + P.w ≤ P.v * P.w := by
              have := Nat.mul_le_mul_right P.w (show ny + 1 ≤ P.v by omega)
              rw [Nat.add_mul, Nat.one_mul] at this
              exact this
            rw [Nat.mul_comm P.w P.v]
            omega
          obtain ⟨p1, p2⟩ := (mk_o hP zP hk (hw_F h)).2.2 (ny * P.w + nx) tl
          refine ps_iload rfl rfl ?_
          refine ps_iload rfl rfl ?_
          refine ps_icmpf rfl (decide_eq_false (nI_ge (by omega) (by omega))) ?_
          refine pw_c rfl ?_
          refine ps_iload rfl rfl ?_
          refine ps_ar rfl rfl rfl rfl rfl ?_
          refine ps_iload rfl rfl ?_
          refine ps_iload rfl rfl ?_
          refine ps_ar rfl rfl rfl rfl rfl ?_
          rw [show nI y - nI b = iI ((y : Int) - b) by rw [← iI_sub, iI_nat, iI_nat]]
          refine ps_iload rfl rfl ?_
          refine pw_k rfl rfl rfl rfl ⟨Nat.zero_le _, Nat.zero_le _⟩ ?_
          refine M_round (a := (y : Int) - b) (b := (P.v : Int)) (by omega) (by omega) ?_
          rw [iy]
          refine ps_iload rfl rfl ?_
          refine ps_ar rfl rfl rfl rfl rfl ?_
          refine ps_ar rfl rfl rfl rfl rfl ?_
          refine ps_iload rfl rfl ?_
          refine ps_iload rfl rfl ?_
          refine ps_ar rfl rfl rfl rfl rfl ?_
          rw [show nI x - nI a = iI ((x : Int) - a) by rw [← iI_sub, iI_nat, iI_nat]]
          refine ps_iload rfl rfl ?_
          refine pw_k rfl rfl rfl rfl ⟨Nat.zero_le _, Nat.zero_le _⟩ ?_
          refine M_round (a := (x : Int) - a) (b := (P.w : Int)) (by omega) (by omega) ?_
          rw [ixx]
          refine ps_ar rfl rfl rfl rfl rfl ?_
          rw [show (289 : Int32) * nI k + nI ny * nI P.w + nI nx = nI (289 * k + (ny * P.w + nx)) by simp only [ni_lit, pk_mul, nI_add, Nat.add_assoc]]
          refine ps_istore rfl rfl ?_
          refine ps_aload rfl rfl ?_
          refine ps_iload rfl rfl ?_
          refine ps_iload rfl rfl ?_
          refine ps_ar rfl rfl rfl rfl rfl ?_
          refine ps_iload rfl rfl ?_
          refine ps_ar rfl rfl rfl rfl rfl ?_
          rw [show nI P.w * nI y + nI x = nI (P.w * y + x) by simp only [pk_mul, nI_add]]
          have next : ∀ q : Int32, (if q = 0 then (0 : Int32) else 1) = (pTurn nm P a b).ho (P.w * y + x) → pm_W (g_P ys) 302 117 [.ref 275, .int (nI k), .int (nI a), .int (nI b), .int (nI P.w), .int (nI P.v), .int (nI y), .int (nI x), .int (nI (289 * k + (ny * P.w + nx)))] [.int q, .int (nI (P.w * y + x)), .ref 275] (I', L, g_R s, 306) (0, 0) Q := by
            intro q hq
            refine ps_aload rfl rfl ?_
            refine ps_gfr 11 9 rfl rfl rfl rfl rfl (rfl) ?_
            refine ps_iload rfl rfl ?_
            refine ps_iald (289 * k + (ny * P.w + nx)) rfl rfl rfl (rfl) (by omega) ?_
            rw [show ((I', L, g_R s, 306) : pm_H).1 283 (289 * k + (ny * P.w + nx)) = P.we (ny * P.w + nx) from p2]
            refine pw_k rfl rfl rfl rfl ⟨Nat.zero_le _, Nat.zero_le _⟩ ?_
            refine M_puts np hn6 (by omega) q (P.we (ny * P.w + nx)) ?_
            refine ps_iinc rfl rfl ?_
            refine ps_goto rfl ?_
            rw [show nI x + Int32.ofInt 1 = nI (x + 1) from nI_1 x]
            refine ih (x + 1) _ _ (by omega) (hw_s h (by omega) hq ?_)
            show _ = P.we (tuI P.w P.v a b (P.w * y + x))
            rw [tu]
          have eh : (pTurn nm P a b).ho (P.w * y + x) = P.ho (ny * P.w + nx) := by
            show P.ho (tuI P.w P.v a b (P.w * y + x)) = _
            rw [tu]
          refine ps_aload rfl rfl ?_
          refine ps_gfr 11 7 rfl rfl rfl rfl rfl (rfl) ?_
          refine ps_iload rfl rfl ?_
          refine ps_iald (289 * k + (ny * P.w + nx)) rfl rfl rfl (rfl) (by omega) ?_
          rw [show ((I', L, g_R s, 306) : pm_H).1 281 (289 * k + (ny * P.w + nx)) = P.ho (ny * P.w + nx) from p1]
          rcases h01 _ tl with e | e
          · rw [e]
            refine pw_c rfl ?_
            refine ps_icmpt rfl (rfl) ?_
            refine pw_c rfl ?_
            exact next 0 (by rw [eh, e]; rfl)
          · rw [e]
            refine pw_c rfl ?_
            refine ps_icmpf rfl (rfl) ?_
            refine pw_c rfl ?_
            refine ps_goto rfl ?_
            exact next 1 (by rw [eh, e]; rfl)
      refine ps_iload rfl rfl ?_
      refine ps_iload rfl rfl ?_
      refine ps_icmpf rfl (decide_eq_false (nI_ge (by omega) (by omega))) ?_
      refine pw_c rfl ?_
      refine ps_istore rfl rfl ?_
      exact inner P.w 0 I' _ (by omega) h
  have fT : mkF n I (pm_u (pm_u (pm_u (pm_u I 279 (7 * n + 2) 2) 279 (7 * n + 3) (nI k)) 279 (7 * n + 4) (nI a)) 279 (7 * n + 5) (nI b)) := fun a j q => by rw [pu_x (fun z => q (by omega)), pu_x (fun z => q (by omega)), pu_x (fun z => q (by omega)), pu_x (fun z => q (by omega))]
  refine ps_aload rfl rfl ?_
  refine pw_c rfl ?_
  refine ps_iload rfl rfl ?_
  refine ps_iload rfl rfl ?_
  refine ps_iload rfl rfl ?_
  refine pw_k rfl rfl rfl rfl ⟨Nat.zero_le _, Nat.zero_le _⟩ ?_
  refine M_tells hn hn6 2 (nI k) (nI a) (nI b) ?_
  refine ps_aload rfl rfl ?_
  refine ps_gfr 11 5 rfl rfl rfl rfl rfl (rfl) ?_
  refine pw_c rfl ?_
  refine ps_iload rfl rfl ?_
  refine ps_ar rfl rfl rfl rfl rfl ?_
  refine pw_c rfl ?_
  refine ps_ar rfl rfl rfl rfl rfl ?_
  refine ps_iald (7 * k) rfl rfl rfl (by simp only [ni_lit, ni_l0, pk_mul, nI_add, Nat.add_zero]) (by omega) ?_
  rw [show ((pm_u (pm_u (pm_u (pm_u I 279 (7 * n + 2) 2) 279 (7 * n + 3) (nI k)) 279 (7 * n + 4) (nI a)) 279 (7 * n + 5) (nI b), L, g_R s, 306) : pm_H).1 279 (7 * k) = nI P.w from (mk_o hP zP hk fT).1]
  refine ps_istore rfl rfl ?_
  refine ps_aload rfl rfl ?_
  refine ps_gfr 11 5 rfl rfl rfl rfl rfl (rfl) ?_
  refine pw_c rfl ?_
  refine ps_iload rfl rfl ?_
  refine ps_ar rfl rfl rfl rfl rfl ?_
  refine pw_c rfl ?_
  refine ps_ar rfl rfl rfl rfl rfl ?_
  refine ps_iald (7 * k + 1) rfl rfl rfl (by simp only [ni_lit, ni_l0, pk_mul, nI_add, Nat.add_zero]) (by omega) ?_
  rw [show ((pm_u (pm_u (pm_u (pm_u I 279 (7 * n + 2) 2) 279 (7 * n + 3) (nI k)) 279 (7 * n + 4) (nI a)) 279 (7 * n + 5) (nI b), L, g_R s, 306) : pm_H).1 279 (7 * k + 1) = nI P.v from (mk_o hP zP hk fT).2.1]
  refine ps_istore rfl rfl ?_
  refine ps_aload rfl rfl ?_
  refine ps_iload rfl rfl ?_
  refine ps_iload rfl rfl ?_
  refine pw_k rfl rfl rfl rfl ⟨Nat.zero_le _, Nat.zero_le _⟩ ?_
  refine M_sizes (by rw [pu_o (by decide), pu_o (by decide), pu_o (by decide), pu_o (by decide)]; exact hn) hn6 (nI P.w) (nI P.v) ?_
  refine pw_c rfl ?_
  refine ps_istore rfl rfl ?_
  exact outer P.v 0 _ _ _ (by omega) (by rw [Nat.mul_zero]; exact hw_0)
end KK
