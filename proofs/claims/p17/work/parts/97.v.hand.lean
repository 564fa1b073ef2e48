/-! BY HAND: the class's plates, exactly, third: plates made out of others, squares -/
section KT
variable {I I' : Nat → Nat → Int32} {L : Nat → Nat → Int64} {s : Nat → Option Nat} {Q : List Value → pm_H → Prop} {ys : List Int32} {h : pm_H} {nm : Int32}
theorem re_f {q x : Nat} (h : reB q x = false) : roI q x (q - 1) 1 = -1 := by
  unfold reB at h
  exact Decidable.byContradiction (fun z => of_decide_eq_false h z)
theorem re_t {q x : Nat} (h : reB q x = true) : ¬ roI q x (q - 1) 1 = -1 := by
  unfold reB at h
  exact of_decide_eq_true h
theorem P_ne {p q : Nat} (hp : isP p) (hq : isP q) (h : ¬ p = q) : ¬ p + 1 = q ∧ ¬ p + 2 = q ∧ ¬ p + 3 = q ∧ ¬ q + 1 = p ∧ ¬ q + 2 = p ∧ ¬ q + 3 = p ∧ ¬ p + 1 = q + 1 ∧ ¬ p + 1 = q + 2 ∧ ¬ p + 2 = q + 1 ∧ ¬ p + 2 = q + 2 := by
  obtain ⟨b, k, hb, hk, e⟩ := hp
  obtain ⟨b', k', hb', hk', e'⟩ := hq
  unfold isB at hb hb'
  omega
theorem nI_neg {a : Nat} (h : a ≤ 1000) : (- nI a).toInt = -(a : Int) := by
  rw [← iI_nat, iI_neg, iI_toInt (by omega) (by omega)]
theorem B_makeNegX {p q : Nat} {P : sPl} (hp : isP p) (hq : isP q) (pq : ¬ p = q) (hQ : cPP I q P) (h01 : ∀ i, i < P.w * P.v → P.ho i = 0 ∨ P.ho i = 1) (kk : ∀ I', cF p I I' → cPP I' p (pNeg nm P) → Q [] (I', L, g_R s, 306)) : pm_W (g_P ys) 67 0 [.ref p, .ref q, .retAddr 0] [] (I, L, g_R s, 306) (0, 0) Q := by
  obtain ⟨hS0, hS1, hS2, hS3, hR0, hR1, hR2⟩ := pl_F (ys := ys) (s := s) hp
  obtain ⟨hS4, hS5, hS6, hS7, hR3, hR4, hR5⟩ := pl_F (ys := ys) (s := s) hq
  have pn := P_ne hp hq pq
  obtain ⟨cq, sq, rq⟩ := hQ
  obtain ⟨_, _, _, w0, v0, h289⟩ := id cq
  have c1 := rsz_cP (I := I) (p := p) w0 v0 h289
  have k1 : rszI I p P.w P.v p 9 = 0 := pu_s
  refine ps_aload rfl rfl ?_
  refine ps_aload rfl rfl ?_
  refine ps_gfi 9 4 rfl rfl rfl (by first | exact hS0 _ _ | exact hS1 _ _ | exact hS2 _ _ | exact hS3 _ _ | exact hS4 _ _ | exact hS5 _ _ | exact hS6 _ _ | exact hS7 _ _ | exact hS8 _ _ | exact hS9 _ _ | exact hS10 _ _ | exact hS11 _ _ | exact hS12 _ _ | exact hS13 _ _ | assumption | rfl) rfl ?_
  rw [show ((I, L, g_R s, 306) : pm_H).1 q 4 = nI P.w from cq.1]
  refine ps_aload rfl rfl ?_
  refine ps_gfi 9 5 rfl rfl rfl (by first | exact hS0 _ _ | exact hS1 _ _ | exact hS2 _ _ | exact hS3 _ _ | exact hS4 _ _ | exact hS5 _ _ | exact hS6 _ _ | exact hS7 _ _ | exact hS8 _ _ | exact hS9 _ _ | exact hS10 _ _ | exact hS11 _ _ | exact hS12 _ _ | exact hS13 _ _ | assumption | rfl) rfl ?_
  rw [show ((I, L, g_R s, 306) : pm_H).1 q 5 = nI P.v from cq.2.1]
  refine pv_k rfl rfl rfl rfl rfl (by first | exact hS0 _ _ | exact hS1 _ _ | exact hS2 _ _ | exact hS3 _ _ | exact hS4 _ _ | exact hS5 _ _ | exact hS6 _ _ | exact hS7 _ _ | exact hS8 _ _ | exact hS9 _ _ | exact hS10 _ _ | exact hS11 _ _ | exact hS12 _ _ | exact hS13 _ _ | assumption | rfl) rfl ⟨Nat.zero_le _, Nat.zero_le _⟩ ?_
  refine B_resizeX hp w0 v0 h289 ?_
  have loop : ∀ d i I', i + d = P.w * P.v → (∀ a j, ¬ ((a = p + 1 ∨ a = p + 2) ∧ j < i) → I' a j = rszI I p P.w P.v a j) → (∀ j, j < i → I' (p + 1) j = (pNeg nm P).ho j ∧ I' (p + 2) j = (pNeg nm P).we j) → pm_W (g_P ys) 67 14 [.ref p, .ref q, .int (nI i)] [] (I', L, g_R s, 306) (0, 0) Q := by
    intro d
    induction d with
    | zero =>
      intro i I' hi g1 g2
      have c' := cP_o c1 (fun j => g1 p j (by omega))
      refine ps_iload rfl rfl ?_
      refine ps_aload rfl rfl ?_
      refine ps_gfi 9 6 rfl rfl rfl (by first | exact hS0 _ _ | exact hS1 _ _ | exact hS2 _ _ | exact hS3 _ _ | exact hS4 _ _ | exact hS5 _ _ | exact hS6 _ _ | exact hS7 _ _ | exact hS8 _ _ | exact hS9 _ _ | exact hS10 _ _ | exact hS11 _ _ | exact hS12 _ _ | exact hS13 _ _ | assumption | rfl) rfl ?_
      rw [show ((I', L, g_R s, 306) : pm_H).1 p 6 = nI (P.w * P.v) from c'.2.2.1]
      refine ps_icmpt rfl (decide_eq_true (nI_le (by omega) (by omega))) ?_
      refine ps_vret rfl rfl ?_
      refine kk _ (fun a j n => ?_) ⟨c', (g1 _ _ (by omega)).trans k1, fun j hj => g2 j (by have hj : j < P.w * P.v := hj; omega)⟩
      rw [g1 a j (fun z => n (by omega))]
      exact rsz_o (fun z => n (Or.inl ⟨z.1, by omega⟩))
    | succ d ih =>
      intro i I' hi g1 g2
      have c' := cP_o c1 (fun j => g1 p j (by omega))
      have eh : I' (q + 1) i = P.ho i := ((g1 _ _ (by omega)).trans (rsz_o (by omega))).trans (rq i (by omega)).1
      have ew : I' (q + 2) i = P.we i := ((g1 _ _ (by omega)).trans (rsz_o (by omega))).trans (rq i (by omega)).2
      refine ps_iload rfl rfl ?_
      refine ps_aload rfl rfl ?_
      refine ps_gfi 9 6 rfl rfl rfl (by first | exact hS0 _ _ | exact hS1 _ _ | exact hS2 _ _ | exact hS3 _ _ | exact hS4 _ _ | exact hS5 _ _ | exact hS6 _ _ | exact hS7 _ _ | exact hS8 _ _ | exact hS9 _ _ | exact hS10 _ _ | exact hS11 _ _ | exact hS12 _ _ | exact hS13 _ _ | assumption | rfl) rfl ?_
      rw [show ((I', L, g_R s, 306) : pm_H).1 p 6 = nI (P.w * P.v) from c'.2.2.1]
      refine ps_icmpf rfl (decide_eq_false (nI_ge (by omega) (by omega))) ?_
      refine ps_aload rfl rfl ?_
      refine ps_gfr 9 0 rfl rfl rfl (by first | exact hS0 _ _ | exact hS1 _ _ | exact hS2 _ _ | exact hS3 _ _ | exact hS4 _ _ | exact hS5 _ _ | exact hS6 _ _ | exact hS7 _ _ | exact hS8 _ _ | exact hS9 _ _ | exact hS10 _ _ | exact hS11 _ _ | exact hS12 _ _ | exact hS13 _ _ | assumption | rfl) rfl (by assumption) ?_
      refine ps_iload rfl rfl ?_
      refine pw_c rfl ?_
      refine ps_aload rfl rfl ?_
      refine ps_gfr 9 0 rfl rfl rfl (by first | exact hS0 _ _ | exact hS1 _ _ | exact hS2 _ _ | exact hS3 _ _ | exact hS4 _ _ | exact hS5 _ _ | exact hS6 _ _ | exact hS7 _ _ | exact hS8 _ _ | exact hS9 _ _ | exact hS10 _ _ | exact hS11 _ _ | exact hS12 _ _ | exact hS13 _ _ | assumption | rfl) rfl (by assumption) ?_
      refine ps_iload rfl rfl ?_
      refine ps_iald (i) rfl (by first | exact hS0 _ _ | exact hS1 _ _ | exact hS2 _ _ | exact hS3 _ _ | exact hS4 _ _ | exact hS5 _ _ | exact hS6 _ _ | exact hS7 _ _ | exact hS8 _ _ | exact hS9 _ _ | exact hS10 _ _ | exact hS11 _ _ | exact hS12 _ _ | exact hS13 _ _ | assumption | rfl) rfl (rfl) (by omega) ?_
      rw [show ((I', L, g_R s, 306) : pm_H).1 (q + 1) i = P.ho i from eh]
      refine ps_ar rfl rfl rfl rfl rfl ?_
      refine ps_iast (i) rfl (by first | exact hS0 _ _ | exact hS1 _ _ | exact hS2 _ _ | exact hS3 _ _ | exact hS4 _ _ | exact hS5 _ _ | exact hS6 _ _ | exact hS7 _ _ | exact hS8 _ _ | exact hS9 _ _ | exact hS10 _ _ | exact hS11 _ _ | exact hS12 _ _ | exact hS13 _ _ | assumption | rfl) rfl (rfl) (by omega) ?_
      refine ps_aload rfl rfl ?_
      refine ps_gfr 9 1 rfl rfl rfl (by first | exact hS0 _ _ | exact hS1 _ _ | exact hS2 _ _ | exact hS3 _ _ | exact hS4 _ _ | exact hS5 _ _ | exact hS6 _ _ | exact hS7 _ _ | exact hS8 _ _ | exact hS9 _ _ | exact hS10 _ _ | exact hS11 _ _ | exact hS12 _ _ | exact hS13 _ _ | assumption | rfl) rfl (by assumption) ?_
      refine ps_iload rfl rfl ?_
      refine ps_aload rfl rfl ?_
      refine ps_gfr 9 1 rfl rfl rfl (by first | exact hS0 _ _ | exact hS1 _ _ | exact hS2 _ _ | exact hS3 _ _ | exact hS4 _ _ | exact hS5 _ _ | exact hS6 _ _ | exact hS7 _ _ | exact hS8 _ _ | exact hS9 _ _ | exact hS10 _ _ | exact hS11 _ _ | exact hS12 _ _ | exact hS13 _ _ | assumption | rfl) rfl (by assumption) ?_
      refine ps_iload rfl rfl ?_
      refine ps_iald (i) rfl (by first | exact hS0 _ _ | exact hS1 _ _ | exact hS2 _ _ | exact hS3 _ _ | exact hS4 _ _ | exact hS5 _ _ | exact hS6 _ _ | exact hS7 _ _ | exact hS8 _ _ | exact hS9 _ _ | exact hS10 _ _ | exact hS11 _ _ | exact hS12 _ _ | exact hS13 _ _ | assumption | rfl) rfl (rfl) (by omega) ?_
      show pm_W _ _ _ _ [.int (pm_u I' (p + 1) i (1 - P.ho i) (q + 2) i), .int (nI i), .ref (p + 2)] (pm_u I' (p + 1) i (1 - P.ho i), L, g_R s, 306) _ _
      rw [pu_o (by omega), ew]
      refine ps_ar rfl rfl rfl rfl rfl ?_
      refine ps_iast (i) rfl (by first | exact hS0 _ _ | exact hS1 _ _ | exact hS2 _ _ | exact hS3 _ _ | exact hS4 _ _ | exact hS5 _ _ | exact hS6 _ _ | exact hS7 _ _ | exact hS8 _ _ | exact hS9 _ _ | exact hS10 _ _ | exact hS11 _ _ | exact hS12 _ _ | exact hS13 _ _ | assumption | rfl) rfl (rfl) (by omega) ?_
      refine ps_iinc rfl rfl ?_
      refine ps_goto rfl ?_
      rw [show nI i + Int32.ofInt 1 = nI (i + 1) from nI_1 i]
      refine ih (i + 1) _ (by omega) (fun a j n => ?_) (fun j hj => ?_)
      · show pm_u (pm_u I' (p + 1) i (1 - P.ho i)) (p + 2) i (- P.we i) a j = _
        rw [pu_x (fun z => n (by omega)), pu_x (fun z => n (by omega))]
        exact g1 a j (fun z => n (by omega))
      · show pm_u (pm_u I' (p + 1) i (1 - P.ho i)) (p + 2) i (- P.we i) (p + 1) j = _ ∧ pm_u (pm_u I' (p + 1) i (1 - P.ho i)) (p + 2) i (- P.we i) (p + 2) j = _
        rw [pu_o (by omega)]
        by_cases e : j = i
        · subst e
          rw [pu_s, pu_s]
          refine ⟨?_, rfl⟩
          show 1 - P.ho j = if P.ho j = 0 then 1 else 0
          rcases h01 j (by omega) with z | z <;> rw [z] <;> rfl
        · rw [pu_n e, pu_n e, pu_o (by omega)]
          exact g2 j (by omega)
  refine pw_c rfl ?_
  refine ps_istore rfl rfl ?_
  exact loop (P.w * P.v) 0 _ (by omega) (fun _ _ _ => rfl) (fun j hj => absurd hj (by omega))
theorem B_makeBothX {p q r : Nat} {P R : sPl} (hp : isP p) (hq : isP q) (hr : isP r) (pq : ¬ p = q) (pr : ¬ p = r) (hQ : cPP I q P) (hR : cPP I r R) (pv : P.v = 1) (rv : R.v = 1) (wh : P.w * R.w ≤ 289) (kk : ∀ I', cF p I I' → cPP I' p (pBoth nm P R) → Q [] (I', L, g_R s, 306)) : pm_W (g_P ys) 68 0 [.ref p, .ref q, .ref r, .retAddr 0, .retAddr 0, .retAddr 0] [] (I, L, g_R s, 306) (0, 0) Q := by
  obtain ⟨hS0, hS1, hS2, hS3, hR0, hR1, hR2⟩ := pl_F (ys := ys) (s := s) hp
  obtain ⟨hS4, hS5, hS6, hS7, hR3, hR4, hR5⟩ := pl_F (ys := ys) (s := s) hq
  obtain ⟨hS8, hS9, hS10, hS11, hR6, hR7, hR8⟩ := pl_F (ys := ys) (s := s) hr
  have pn := P_ne hp hq pq
  have rn := P_ne hp hr pr
  obtain ⟨cq, sq, rq⟩ := hQ
  obtain ⟨cr, sr, rr⟩ := hR
  obtain ⟨_, _, _, w0, _, _⟩ := id cq
  obtain ⟨_, _, _, v0, _, _⟩ := id cr
  rw [pv, Nat.mul_one] at rq
  rw [rv, Nat.mul_one] at rr
  obtain ⟨pwb, _⟩ := cP_b cq
  obtain ⟨rwb, _⟩ := cP_b cr
  have c1 := rsz_cP (I := I) (p := p) w0 v0 wh
  have k1 : rszI I p P.w R.w p 9 = 0 := pu_s
  refine ps_aload rfl rfl ?_
  refine ps_aload rfl rfl ?_
  refine ps_gfi 9 4 rfl rfl rfl (by first | exact hS0 _ _ | exact hS1 _ _ | exact hS2 _ _ | exact hS3 _ _ | exact hS4 _ _ | exact hS5 _ _ | exact hS6 _ _ | exact hS7 _ _ | exact hS8 _ _ | exact hS9 _ _ | exact hS10 _ _ | exact hS11 _ _ | exact hS12 _ _ | exact hS13 _ _ | assumption | rfl) rfl ?_
  rw [show ((I, L, g_R s, 306) : pm_H).1 q 4 = nI P.w from cq.1]
  refine ps_aload rfl rfl ?_
  refine ps_gfi 9 4 rfl rfl rfl (by first | exact hS0 _ _ | exact hS1 _ _ | exact hS2 _ _ | exact hS3 _ _ | exact hS4 _ _ | exact hS5 _ _ | exact hS6 _ _ | exact hS7 _ _ | exact hS8 _ _ | exact hS9 _ _ | exact hS10 _ _ | exact hS11 _ _ | exact hS12 _ _ | exact hS13 _ _ | assumption | rfl) rfl ?_
  rw [show ((I, L, g_R s, 306) : pm_H).1 r 4 = nI R.w from cr.1]
  refine pv_k rfl rfl rfl rfl rfl (by first | exact hS0 _ _ | exact hS1 _ _ | exact hS2 _ _ | exact hS3 _ _ | exact hS4 _ _ | exact hS5 _ _ | exact hS6 _ _ | exact hS7 _ _ | exact hS8 _ _ | exact hS9 _ _ | exact hS10 _ _ | exact hS11 _ _ | exact hS12 _ _ | exact hS13 _ _ | assumption | rfl) rfl ⟨Nat.zero_le _, Nat.zero_le _⟩ ?_
  refine B_resizeX hp w0 v0 wh ?_
  have loop : ∀ d i I' (u4 u5 : Value), i + d = P.w * R.w → (∀ a j, ¬ ((a = p + 1 ∨ a = p + 2) ∧ j < i) → I' a j = rszI I p P.w R.w a j) → (∀ j, j < i → I' (p + 1) j = (pBoth nm P R).ho j ∧ I' (p + 2) j = (pBoth nm P R).we j) → pm_W (g_P ys) 68 14 [.ref p, .ref q, .ref r, .int (nI i), u4, u5] [] (I', L, g_R s, 306) (0, 0) Q := by
    intro d
    induction d with
    | zero =>
      intro i I' u4 u5 hi g1 g2
      have c' := cP_o c1 (fun j => g1 p j (by omega))
      refine ps_iload rfl rfl ?_
      refine ps_aload rfl rfl ?_
      refine ps_gfi 9 6 rfl rfl rfl (by first | exact hS0 _ _ | exact hS1 _ _ | exact hS2 _ _ | exact hS3 _ _ | exact hS4 _ _ | exact hS5 _ _ | exact hS6 _ _ | exact hS7 _ _ | exact hS8 _ _ | exact hS9 _ _ | exact hS10 _ _ | exact hS11 _ _ | exact hS12 _ _ | exact hS13 _ _ | assumption | rfl) rfl ?_
      rw [show ((I', L, g_R s, 306) : pm_H).1 p 6 = nI (P.w * R.w) from c'.2.2.1]
      refine ps_icmpt rfl (decide_eq_true (nI_le (by omega) (by omega))) ?_
      refine ps_vret rfl rfl ?_
      refine kk _ (fun a j n => ?_) ⟨c', (g1 _ _ (by omega)).trans k1, fun j hj => g2 j (by have hj : j < P.w * R.w := hj; omega)⟩
      rw [g1 a j (fun z => n (by omega))]
      exact rsz_o (fun z => n (Or.inl ⟨z.1, by omega⟩))
    | succ d ih =>
      intro i I' u4 u5 hi g1 g2
      have c' := cP_o c1 (fun j => g1 p j (by omega))
      obtain ⟨x, hx⟩ : ∃ x, x = i % P.w := ⟨_, rfl⟩
      obtain ⟨y, hy⟩ : ∃ y, y = i / P.w := ⟨_, rfl⟩
      have xl : x < P.w := by rw [hx]; exact Nat.mod_lt _ w0
      have yl : y < R.w := by rw [hy]; exact Nat.div_lt_of_lt_mul (by omega)
      have eh : I' (q + 1) x = P.ho x := ((g1 _ _ (by omega)).trans (rsz_o (by omega))).trans (rq x xl).1
      have ew : I' (q + 2) x = P.we x := ((g1 _ _ (by omega)).trans (rsz_o (by omega))).trans (rq x xl).2
      have fh : I' (r + 1) y = R.ho y := ((g1 _ _ (by omega)).trans (rsz_o (by omega))).trans (rr y yl).1
      have fw : I' (r + 2) y = R.we y := ((g1 _ _ (by omega)).trans (rsz_o (by omega))).trans (rr y yl).2
      refine ps_iload rfl rfl ?_
      refine ps_aload rfl rfl ?_
      refine ps_gfi 9 6 rfl rfl rfl (by first | exact hS0 _ _ | exact hS1 _ _ | exact hS2 _ _ | exact hS3 _ _ | exact hS4 _ _ | exact hS5 _ _ | exact hS6 _ _ | exact hS7 _ _ | exact hS8 _ _ | exact hS9 _ _ | exact hS10 _ _ | exact hS11 _ _ | exact hS12 _ _ | exact hS13 _ _ | assumption | rfl) rfl ?_
      rw [show ((I', L, g_R s, 306) : pm_H).1 p 6 = nI (P.w * R.w) from c'.2.2.1]
      refine ps_icmpf rfl (decide_eq_false (nI_ge (by omega) (by omega))) ?_
      refine ps_aload rfl rfl ?_
      refine ps_iload rfl rfl ?_
      refine pv_k rfl rfl rfl rfl rfl (hS0 _ _) rfl ⟨Nat.zero_le _, Nat.zero_le _⟩ ?_
      refine ps_iload rfl rfl ?_
      refine ps_aload rfl rfl ?_
      refine ps_gfi 9 4 rfl rfl rfl (by first | exact hS0 _ _ | exact hS1 _ _ | exact hS2 _ _ | exact hS3 _ _ | exact hS4 _ _ | exact hS5 _ _ | exact hS6 _ _ | exact hS7 _ _ | exact hS8 _ _ | exact hS9 _ _ | exact hS10 _ _ | exact hS11 _ _ | exact hS12 _ _ | exact hS13 _ _ | assumption | rfl) rfl ?_
      rw [show ((I', L, g_R s, 306) : pm_H).1 p 4 = nI P.w from c'.1]
      refine ps_rem rfl (nI_nz w0 (by omega)) ?_
      rw [show nI i - nI i / nI P.w * nI P.w = nI x from by rw [hx]; exact nI_rem (by omega) w0 (by omega)]
      refine ps_iret rfl rfl ?_
      refine ps_istore rfl rfl ?_
      refine ps_aload rfl rfl ?_
      refine ps_iload rfl rfl ?_
      refine pv_k rfl rfl rfl rfl rfl (hS0 _ _) rfl ⟨Nat.zero_le _, Nat.zero_le _⟩ ?_
      refine ps_iload rfl rfl ?_
      refine ps_aload rfl rfl ?_
      refine ps_gfi 9 4 rfl rfl rfl (by first | exact hS0 _ _ | exact hS1 _ _ | exact hS2 _ _ | exact hS3 _ _ | exact hS4 _ _ | exact hS5 _ _ | exact hS6 _ _ | exact hS7 _ _ | exact hS8 _ _ | exact hS9 _ _ | exact hS10 _ _ | exact hS11 _ _ | exact hS12 _ _ | exact hS13 _ _ | assumption | rfl) rfl ?_
      rw [show ((I', L, g_R s, 306) : pm_H).1 p 4 = nI P.w from c'.1]
      refine ps_div rfl (nI_nz w0 (by omega)) ?_
      rw [show nI i / nI P.w = nI y from by rw [hy]; exact nI_div (by omega) (by omega)]
      refine ps_iret rfl rfl ?_
      refine ps_istore rfl rfl ?_
      refine ps_aload rfl rfl ?_
      refine ps_gfr 9 0 rfl rfl rfl (by first | exact hS0 _ _ | exact hS1 _ _ | exact hS2 _ _ | exact hS3 _ _ | exact hS4 _ _ | exact hS5 _ _ | exact hS6 _ _ | exact hS7 _ _ | exact hS8 _ _ | exact hS9 _ _ | exact hS10 _ _ | exact hS11 _ _ | exact hS12 _ _ | exact hS13 _ _ | assumption | rfl) rfl (by assumption) ?_
      refine ps_iload rfl rfl ?_
      refine ps_aload rfl rfl ?_
      refine ps_gfr 9 0 rfl rfl rfl (by first | exact hS0 _ _ | exact hS1 _ _ | exact hS2 _ _ | exact hS3 _ _ | exact hS4 _ _ | exact hS5 _ _ | exact hS6 _ _ | exact hS7 _ _ | exact hS8 _ _ | exact hS9 _ _ | exact hS10 _ _ | exact hS11 _ _ | exact hS12 _ _ | exact hS13 _ _ | assumption | rfl) rfl (by assumption) ?_
      refine ps_iload rfl rfl ?_
      refine ps_iald (x) rfl (by first | exact hS0 _ _ | exact hS1 _ _ | exact hS2 _ _ | exact hS3 _ _ | exact hS4 _ _ | exact hS5 _ _ | exact hS6 _ _ | exact hS7 _ _ | exact hS8 _ _ | exact hS9 _ _ | exact hS10 _ _ | exact hS11 _ _ | exact hS12 _ _ | exact hS13 _ _ | assumption | rfl) rfl (rfl) (by omega) ?_
      rw [show ((I', L, g_R s, 306) : pm_H).1 (q + 1) x = P.ho x from eh]
      refine ps_aload rfl rfl ?_
      refine ps_gfr 9 0 rfl rfl rfl (by first | exact hS0 _ _ | exact hS1 _ _ | exact hS2 _ _ | exact hS3 _ _ | exact hS4 _ _ | exact hS5 _ _ | exact hS6 _ _ | exact hS7 _ _ | exact hS8 _ _ | exact hS9 _ _ | exact hS10 _ _ | exact hS11 _ _ | exact hS12 _ _ | exact hS13 _ _ | assumption | rfl) rfl (by assumption) ?_
      refine ps_iload rfl rfl ?_
      refine ps_iald (y) rfl (by first | exact hS0 _ _ | exact hS1 _ _ | exact hS2 _ _ | exact hS3 _ _ | exact hS4 _ _ | exact hS5 _ _ | exact hS6 _ _ | exact hS7 _ _ | exact hS8 _ _ | exact hS9 _ _ | exact hS10 _ _ | exact hS11 _ _ | exact hS12 _ _ | exact hS13 _ _ | assumption | rfl) rfl (rfl) (by omega) ?_
      rw [show ((I', L, g_R s, 306) : pm_H).1 (r + 1) y = R.ho y from fh]
      have next : ∀ b : Int32, b = (pBoth nm P R).ho i → pm_W (g_P ys) 68 63 [.ref p, .ref q, .ref r, .int (nI i), .int (nI x), .int (nI y)] [.int b, .int (nI i), .ref (p + 1)] (I', L, g_R s, 306) (0, 0) Q := by
        intro b hb
        refine ps_iast (i) rfl (by first | exact hS0 _ _ | exact hS1 _ _ | exact hS2 _ _ | exact hS3 _ _ | exact hS4 _ _ | exact hS5 _ _ | exact hS6 _ _ | exact hS7 _ _ | exact hS8 _ _ | exact hS9 _ _ | exact hS10 _ _ | exact hS11 _ _ | exact hS12 _ _ | exact hS13 _ _ | assumption | rfl) rfl (rfl) (by omega) ?_
        refine ps_aload rfl rfl ?_
        refine ps_gfr 9 1 rfl rfl rfl (by first | exact hS0 _ _ | exact hS1 _ _ | exact hS2 _ _ | exact hS3 _ _ | exact hS4 _ _ | exact hS5 _ _ | exact hS6 _ _ | exact hS7 _ _ | exact hS8 _ _ | exact hS9 _ _ | exact hS10 _ _ | exact hS11 _ _ | exact hS12 _ _ | exact hS13 _ _ | assumption | rfl) rfl (by assumption) ?_
        refine ps_iload rfl rfl ?_
        refine ps_aload rfl rfl ?_
        refine ps_gfr 9 1 rfl rfl rfl (by first | exact hS0 _ _ | exact hS1 _ _ | exact hS2 _ _ | exact hS3 _ _ | exact hS4 _ _ | exact hS5 _ _ | exact hS6 _ _ | exact hS7 _ _ | exact hS8 _ _ | exact hS9 _ _ | exact hS10 _ _ | exact hS11 _ _ | exact hS12 _ _ | exact hS13 _ _ | assumption | rfl) rfl (by assumption) ?_
        refine ps_iload rfl rfl ?_
        refine ps_iald (x) rfl (by first | exact hS0 _ _ | exact hS1 _ _ | exact hS2 _ _ | exact hS3 _ _ | exact hS4 _ _ | exact hS5 _ _ | exact hS6 _ _ | exact hS7 _ _ | exact hS8 _ _ | exact hS9 _ _ | exact hS10 _ _ | exact hS11 _ _ | exact hS12 _ _ | exact hS13 _ _ | assumption | rfl) rfl (rfl) (by omega) ?_
        show pm_W _ _ _ _ [.int (pm_u I' (p + 1) i b (q + 2) x), .int (nI i), .ref (p + 2)] (pm_u I' (p + 1) i b, L, g_R s, 306) _ _
        rw [pu_o (by omega), ew]
        refine ps_aload rfl rfl ?_
        refine ps_gfr 9 1 rfl rfl rfl (by first | exact hS0 _ _ | exact hS1 _ _ | exact hS2 _ _ | exact hS3 _ _ | exact hS4 _ _ | exact hS5 _ _ | exact hS6 _ _ | exact hS7 _ _ | exact hS8 _ _ | exact hS9 _ _ | exact hS10 _ _ | exact hS11 _ _ | exact hS12 _ _ | exact hS13 _ _ | assumption | rfl) rfl (by assumption) ?_
        refine ps_iload rfl rfl ?_
        refine ps_iald (y) rfl (by first | exact hS0 _ _ | exact hS1 _ _ | exact hS2 _ _ | exact hS3 _ _ | exact hS4 _ _ | exact hS5 _ _ | exact hS6 _ _ | exact hS7 _ _ | exact hS8 _ _ | exact hS9 _ _ | exact hS10 _ _ | exact hS11 _ _ | exact hS12 _ _ | exact hS13 _ _ | assumption | rfl) rfl (rfl) (by omega) ?_
        show pm_W _ _ _ _ [.int (pm_u I' (p + 1) i b (r + 2) y), .int (P.we x), .int (nI i), .ref (p + 2)] _ _ _
        rw [pu_o (by omega), fw]
        refine ps_ar rfl rfl rfl rfl rfl ?_
        refine ps_iast (i) rfl (by first | exact hS0 _ _ | exact hS1 _ _ | exact hS2 _ _ | exact hS3 _ _ | exact hS4 _ _ | exact hS5 _ _ | exact hS6 _ _ | exact hS7 _ _ | exact hS8 _ _ | exact hS9 _ _ | exact hS10 _ _ | exact hS11 _ _ | exact hS12 _ _ | exact hS13 _ _ | assumption | rfl) rfl (rfl) (by omega) ?_
        refine ps_iinc rfl rfl ?_
        refine ps_goto rfl ?_
        rw [show nI i + Int32.ofInt 1 = nI (i + 1) from nI_1 i]
        refine ih (i + 1) _ _ _ (by omega) (fun a j n => ?_) (fun j hj => ?_)
        · show pm_u (pm_u I' (p + 1) i b) (p + 2) i (P.we x * R.we y) a j = _
          rw [pu_x (fun z => n (by omega)), pu_x (fun z => n (by omega))]
          exact g1 a j (fun z => n (by omega))
        · show pm_u (pm_u I' (p + 1) i b) (p + 2) i (P.we x * R.we y) (p + 1) j = _ ∧ pm_u (pm_u I' (p + 1) i b) (p + 2) i (P.we x * R.we y) (p + 2) j = _
          rw [pu_o (by omega)]
          by_cases e : j = i
          · subst e
            rw [pu_s, pu_s]
            refine ⟨hb, ?_⟩
            rw [hx, hy]
            rfl
          · rw [pu_n e, pu_n e, pu_o (by omega)]
            exact g2 j (by omega)
      have eb : (pBoth nm P R).ho i = if P.ho x = R.ho y then 1 else 0 := by rw [hx, hy]; rfl
      by_cases e : P.ho x = R.ho y
      · refine ps_icmpf rfl (decide_eq_false (fun z => z e)) ?_
        refine pw_c rfl ?_
        refine ps_goto rfl ?_
        exact next 1 (by rw [eb, if_pos e])
      · refine ps_icmpt rfl (decide_eq_true e) ?_
        refine pw_c rfl ?_
        exact next 0 (by rw [eb, if_neg e])
  refine pw_c rfl ?_
  refine ps_istore rfl rfl ?_
  exact loop (P.w * R.w) 0 _ _ _ (by omega) (fun _ _ _ => rfl) (fun j hj => absurd hj (by omega))
theorem B_makeTurnedX {p q a b : Nat} {P : sPl} (hp : isP p) (hq : isP q) (pq : ¬ p = q) (hQ : cPP I q P) (ha : a ≤ 99) (hb : b ≤ 99) (kk : ∀ I', cF p I I' → cPP I' p (pTurn nm P a b) → Q [] (I', L, g_R s, 306)) : pm_W (g_P ys) 64 0 [.ref p, .ref q, .int (nI a), .int (nI b)] [] (I, L, g_R s, 306) (0, 0) Q := by
  obtain ⟨hS0, hS1, hS2, hS3, hR0, hR1, hR2⟩ := pl_F (ys := ys) (s := s) hp
  obtain ⟨hS4, hS5, hS6, hS7, hR3, hR4, hR5⟩ := pl_F (ys := ys) (s := s) hq
  have pn := P_ne hp hq pq
  obtain ⟨cq, sq, rq⟩ := hQ
  obtain ⟨_, _, _, w0, v0, h289⟩ := id cq
  have c1 := rsz_cP (I := I) (p := p) w0 v0 h289
  have k1 : rszI I p P.w P.v p 9 = 0 := pu_s
  refine ps_aload rfl rfl ?_
  refine ps_aload rfl rfl ?_
  refine ps_gfi 9 4 rfl rfl rfl (by first | exact hS0 _ _ | exact hS1 _ _ | exact hS2 _ _ | exact hS3 _ _ | exact hS4 _ _ | exact hS5 _ _ | exact hS6 _ _ | exact hS7 _ _ | exact hS8 _ _ | exact hS9 _ _ | exact hS10 _ _ | exact hS11 _ _ | exact hS12 _ _ | exact hS13 _ _ | assumption | rfl) rfl ?_
  rw [show ((I, L, g_R s, 306) : pm_H).1 q 4 = nI P.w from cq.1]
  refine ps_aload rfl rfl ?_
  refine ps_gfi 9 5 rfl rfl rfl (by first | exact hS0 _ _ | exact hS1 _ _ | exact hS2 _ _ | exact hS3 _ _ | exact hS4 _ _ | exact hS5 _ _ | exact hS6 _ _ | exact hS7 _ _ | exact hS8 _ _ | exact hS9 _ _ | exact hS10 _ _ | exact hS11 _ _ | exact hS12 _ _ | exact hS13 _ _ | assumption | rfl) rfl ?_
  rw [show ((I, L, g_R s, 306) : pm_H).1 q 5 = nI P.v from cq.2.1]
  refine pv_k rfl rfl rfl rfl rfl (by first | exact hS0 _ _ | exact hS1 _ _ | exact hS2 _ _ | exact hS3 _ _ | exact hS4 _ _ | exact hS5 _ _ | exact hS6 _ _ | exact hS7 _ _ | exact hS8 _ _ | exact hS9 _ _ | exact hS10 _ _ | exact hS11 _ _ | exact hS12 _ _ | exact hS13 _ _ | assumption | rfl) rfl ⟨Nat.zero_le _, Nat.zero_le _⟩ ?_
  refine B_resizeX hp w0 v0 h289 ?_
  refine ps_aload rfl rfl ?_
  refine ps_gfr 9 0 rfl rfl rfl (by first | exact hS0 _ _ | exact hS1 _ _ | exact hS2 _ _ | exact hS3 _ _ | exact hS4 _ _ | exact hS5 _ _ | exact hS6 _ _ | exact hS7 _ _ | exact hS8 _ _ | exact hS9 _ _ | exact hS10 _ _ | exact hS11 _ _ | exact hS12 _ _ | exact hS13 _ _ | assumption | rfl) rfl (by assumption) ?_
  refine pw_c rfl ?_
  refine ps_aload rfl rfl ?_
  refine ps_gfi 9 6 rfl rfl rfl (by first | exact hS0 _ _ | exact hS1 _ _ | exact hS2 _ _ | exact hS3 _ _ | exact hS4 _ _ | exact hS5 _ _ | exact hS6 _ _ | exact hS7 _ _ | exact hS8 _ _ | exact hS9 _ _ | exact hS10 _ _ | exact hS11 _ _ | exact hS12 _ _ | exact hS13 _ _ | assumption | rfl) rfl ?_
  rw [show (((rszI I p P.w P.v), L, g_R s, 306) : pm_H).1 p 6 = nI (P.w * P.v) from c1.2.2.1]
  refine pw_c rfl ?_
  refine pw_k rfl rfl rfl rfl ⟨Nat.zero_le _, Nat.zero_le _⟩ ?_
  refine B_fillX (b := p + 1) (n := P.w * P.v) (N := 289) hS1 (by omega) (by omega) 0 ?_
  intro I1 f1 z1
  have c2 := cP_o c1 (fun j => f1 p j (by omega))
  refine ps_aload rfl rfl ?_
  refine ps_gfr 9 1 rfl rfl rfl (by first | exact hS0 _ _ | exact hS1 _ _ | exact hS2 _ _ | exact hS3 _ _ | exact hS4 _ _ | exact hS5 _ _ | exact hS6 _ _ | exact hS7 _ _ | exact hS8 _ _ | exact hS9 _ _ | exact hS10 _ _ | exact hS11 _ _ | exact hS12 _ _ | exact hS13 _ _ | assumption | rfl) rfl (by assumption) ?_
  refine pw_c rfl ?_
  refine ps_aload rfl rfl ?_
  refine ps_gfi 9 6 rfl rfl rfl (by first | exact hS0 _ _ | exact hS1 _ _ | exact hS2 _ _ | exact hS3 _ _ | exact hS4 _ _ | exact hS5 _ _ | exact hS6 _ _ | exact hS7 _ _ | exact hS8 _ _ | exact hS9 _ _ | exact hS10 _ _ | exact hS11 _ _ | exact hS12 _ _ | exact hS13 _ _ | assumption | rfl) rfl ?_
  rw [show ((I1, L, g_R s, 306) : pm_H).1 p 6 = nI (P.w * P.v) from c2.2.2.1]
  refine pw_c rfl ?_
  refine pw_k rfl rfl rfl rfl ⟨Nat.zero_le _, Nat.zero_le _⟩ ?_
  refine B_fillX (b := p + 2) (n := P.w * P.v) (N := 289) hS2 (by omega) (by omega) 0 ?_
  intro I2 f2 z2
  have c3 := cP_o c2 (fun j => f2 p j (by omega))
  refine ps_aload rfl rfl ?_
  refine ps_aload rfl rfl ?_
  refine ps_gfr 9 0 rfl rfl rfl (by first | exact hS0 _ _ | exact hS1 _ _ | exact hS2 _ _ | exact hS3 _ _ | exact hS4 _ _ | exact hS5 _ _ | exact hS6 _ _ | exact hS7 _ _ | exact hS8 _ _ | exact hS9 _ _ | exact hS10 _ _ | exact hS11 _ _ | exact hS12 _ _ | exact hS13 _ _ | assumption | rfl) rfl (by assumption) ?_
  refine ps_aload rfl rfl ?_
  refine ps_gfr 9 0 rfl rfl rfl (by first | exact hS0 _ _ | exact hS1 _ _ | exact hS2 _ _ | exact hS3 _ _ | exact hS4 _ _ | exact hS5 _ _ | exact hS6 _ _ | exact hS7 _ _ | exact hS8 _ _ | exact hS9 _ _ | exact hS10 _ _ | exact hS11 _ _ | exact hS12 _ _ | exact hS13 _ _ | assumption | rfl) rfl (by assumption) ?_
  refine ps_iload rfl rfl ?_
  refine ps_ar rfl rfl rfl rfl rfl ?_
  refine ps_iload rfl rfl ?_
  refine ps_ar rfl rfl rfl rfl rfl ?_
  refine pw_c rfl ?_
  refine pv_k rfl rfl rfl rfl rfl (by first | exact hS0 _ _ | exact hS1 _ _ | exact hS2 _ _ | exact hS3 _ _ | exact hS4 _ _ | exact hS5 _ _ | exact hS6 _ _ | exact hS7 _ _ | exact hS8 _ _ | exact hS9 _ _ | exact hS10 _ _ | exact hS11 _ _ | exact hS12 _ _ | exact hS13 _ _ | assumption | rfl) rfl ⟨Nat.zero_le _, Nat.zero_le _⟩ ?_
  refine B_addShiftedX hp c3 (b := p + 1) (c := q + 1) hS1 hS5 (by omega) (by omega) (- nI a) (- nI b) 1 ?_
  intro I3 f3 z3
  have c4 := cP_o c3 (fun j => f3 p j (by omega))
  refine ps_aload rfl rfl ?_
  refine ps_aload rfl rfl ?_
  refine ps_gfr 9 1 rfl rfl rfl (by first | exact hS0 _ _ | exact hS1 _ _ | exact hS2 _ _ | exact hS3 _ _ | exact hS4 _ _ | exact hS5 _ _ | exact hS6 _ _ | exact hS7 _ _ | exact hS8 _ _ | exact hS9 _ _ | exact hS10 _ _ | exact hS11 _ _ | exact hS12 _ _ | exact hS13 _ _ | assumption | rfl) rfl (by assumption) ?_
  refine ps_aload rfl rfl ?_
  refine ps_gfr 9 1 rfl rfl rfl (by first | exact hS0 _ _ | exact hS1 _ _ | exact hS2 _ _ | exact hS3 _ _ | exact hS4 _ _ | exact hS5 _ _ | exact hS6 _ _ | exact hS7 _ _ | exact hS8 _ _ | exact hS9 _ _ | exact hS10 _ _ | exact hS11 _ _ | exact hS12 _ _ | exact hS13 _ _ | assumption | rfl) rfl (by assumption) ?_
  refine ps_iload rfl rfl ?_
  refine ps_ar rfl rfl rfl rfl rfl ?_
  refine ps_iload rfl rfl ?_
  refine ps_ar rfl rfl rfl rfl rfl ?_
  refine pw_c rfl ?_
  refine pv_k rfl rfl rfl rfl rfl (by first | exact hS0 _ _ | exact hS1 _ _ | exact hS2 _ _ | exact hS3 _ _ | exact hS4 _ _ | exact hS5 _ _ | exact hS6 _ _ | exact hS7 _ _ | exact hS8 _ _ | exact hS9 _ _ | exact hS10 _ _ | exact hS11 _ _ | exact hS12 _ _ | exact hS13 _ _ | assumption | rfl) rfl ⟨Nat.zero_le _, Nat.zero_le _⟩ ?_
  refine B_addShiftedX hp c4 (b := p + 2) (c := q + 2) hS2 hS6 (by omega) (by omega) (- nI a) (- nI b) 1 ?_
  intro I4 f4 z4
  have c5 := cP_o c4 (fun j => f4 p j (by omega))
  refine ps_vret rfl rfl ?_
  rw [nI_neg (by omega), nI_neg (by omega)] at z3 z4
  refine kk _ (fun x j n => ?_) ⟨c5, ?_, fun i hi => ?_⟩
  · rw [f4 x j (fun z => n (by omega)), f3 x j (fun z => n (by omega)), f2 x j (fun z => n (by omega)), f1 x j (fun z => n (by omega))]
    exact rsz_o (fun z => n (Or.inl ⟨z.1, by omega⟩))
  · rw [f4 _ _ (by omega), f3 _ _ (by omega), f2 _ _ (by omega), f1 _ _ (by omega)]
    exact k1
  · have hi : i < P.w * P.v := hi
    have tl := tu_lt (a := a) (b := b) (i := i) w0 v0
    have es : shF P.w P.v (-(a : Int)) (-(b : Int)) i = tuI P.w P.v a b i := rfl
    constructor
    · rw [f4 _ _ (by omega), z3 i hi, f2 _ _ (by omega), z1 i hi, es, f2 _ _ (by omega), f1 _ _ (by omega), rsz_o (by omega), (rq _ tl).1, Int32.one_mul, Int32.zero_add]
      rfl
    · rw [z4 i hi, es, f3 _ _ (by omega), z2 i hi, f3 _ _ (by omega), f2 _ _ (by omega), f1 _ _ (by omega), rsz_o (by omega), (rq _ tl).2, Int32.one_mul, Int32.zero_add]
      rfl
theorem B_makeSquareX {p q : Nat} (hp : isP p) (h1 : 2 ≤ q) (h2 : q ≤ 17) (kk : ∀ I', cF p I I' → cPP I' p (pSq nm q) → Q [] (I', L, g_R s, 306)) : pm_W (g_P ys) 63 0 [.ref p, .int (nI q), .retAddr 0, .retAddr 0, .retAddr 0, .retAddr 0, .retAddr 0] [] (I, L, g_R s, 306) (0, 0) Q := by
  obtain ⟨hS0, hS1, hS2, hS3, hR0, hR1, hR2⟩ := pl_F (ys := ys) (s := s) hp
  have pp : q * q ≤ 289 := Nat.mul_le_mul h2 h2
  have c1 := rsz_cP (I := I) (p := p) (w := q) (v := q) (by omega) (by omega) pp
  have k1 : rszI I p q q p 9 = 0 := pu_s
  refine ps_aload rfl rfl ?_
  refine ps_iload rfl rfl ?_
  refine ps_iload rfl rfl ?_
  refine pv_k rfl rfl rfl rfl rfl (by first | exact hS0 _ _ | exact hS1 _ _ | exact hS2 _ _ | exact hS3 _ _ | exact hS4 _ _ | exact hS5 _ _ | exact hS6 _ _ | exact hS7 _ _ | exact hS8 _ _ | exact hS9 _ _ | exact hS10 _ _ | exact hS11 _ _ | exact hS12 _ _ | exact hS13 _ _ | assumption | rfl) rfl ⟨Nat.zero_le _, Nat.zero_le _⟩ ?_
  refine B_resizeX hp (by omega) (by omega) pp ?_
  have outer : ∀ e x I' (u3 u4 u5 u6 : Value), x + e = q → (∀ a j, ¬ (a = p + 1 ∧ j < 289) → I' a j = rszI I p q q a j) → (∀ x' y', x' < x → y' < q → I' (p + 1) (q * y' + x') = if sqH q x' y' then 1 else 0) → pm_W (g_P ys) 63 8 [.ref p, .int (nI q), .int (nI x), u3, u4, u5, u6] [] (I', L, g_R s, 306) (0, 0) Q := by
    intro e
    induction e with
    | zero =>
      intro x I' u3 u4 u5 u6 hx g1 g2
      have hxq : x = q := by omega
      have c' := cP_o c1 (fun j => g1 p j (by omega))
      refine ps_iload rfl rfl ?_
      refine ps_aload rfl rfl ?_
      refine ps_gfi 9 4 rfl rfl rfl (by first | exact hS0 _ _ | exact hS1 _ _ | exact hS2 _ _ | exact hS3 _ _ | exact hS4 _ _ | exact hS5 _ _ | exact hS6 _ _ | exact hS7 _ _ | exact hS8 _ _ | exact hS9 _ _ | exact hS10 _ _ | exact hS11 _ _ | exact hS12 _ _ | exact hS13 _ _ | assumption | rfl) rfl ?_
      rw [show ((I', L, g_R s, 306) : pm_H).1 p 4 = nI q from c'.1]
      refine ps_icmpt rfl (decide_eq_true (nI_le (by omega) (by omega))) ?_
      refine ps_aload rfl rfl ?_
      refine pv_k rfl rfl rfl rfl rfl (by first | exact hS0 _ _ | exact hS1 _ _ | exact hS2 _ _ | exact hS3 _ _ | exact hS4 _ _ | exact hS5 _ _ | exact hS6 _ _ | exact hS7 _ _ | exact hS8 _ _ | exact hS9 _ _ | exact hS10 _ _ | exact hS11 _ _ | exact hS12 _ _ | exact hS13 _ _ | assumption | rfl) rfl ⟨Nat.zero_le _, Nat.zero_le _⟩ ?_
      refine B_weighX hp c' ?_
      intro I2 f2 w2
      refine ps_aload rfl rfl ?_
      refine ps_gfr 9 1 rfl rfl rfl (by first | exact hS0 _ _ | exact hS1 _ _ | exact hS2 _ _ | exact hS3 _ _ | exact hS4 _ _ | exact hS5 _ _ | exact hS6 _ _ | exact hS7 _ _ | exact hS8 _ _ | exact hS9 _ _ | exact hS10 _ _ | exact hS11 _ _ | exact hS12 _ _ | exact hS13 _ _ | assumption | rfl) rfl (by assumption) ?_
      refine pw_c rfl ?_
      refine pw_c rfl ?_
      refine ps_iast (0) rfl (by first | exact hS0 _ _ | exact hS1 _ _ | exact hS2 _ _ | exact hS3 _ _ | exact hS4 _ _ | exact hS5 _ _ | exact hS6 _ _ | exact hS7 _ _ | exact hS8 _ _ | exact hS9 _ _ | exact hS10 _ _ | exact hS11 _ _ | exact hS12 _ _ | exact hS13 _ _ | assumption | rfl) rfl (rfl) (by omega) ?_
      refine ps_vret rfl rfl ?_
      have ho : ∀ i, i < q * q → I' (p + 1) i = if sqH q (i % q) (i / q) then 1 else 0 := fun i hi => by
        have a1 := Nat.mod_lt i (show 0 < q by omega)
        have a2 := Nat.div_lt_of_lt_mul hi
        have z := g2 (i % q) (i / q) (by omega) a2
        rw [Nat.div_add_mod] at z
        exact z
      refine kk _ (fun a j n => ?_) ⟨cP_o c' (fun j => (pu_o (by omega)).trans (f2 _ _ (by omega))), ?_, fun i hi => ⟨?_, ?_⟩⟩
      · show pm_u I2 (p + 2) 0 1 a j = _
        rw [pu_o (fun z => n (by omega)), f2 a j (fun z => n (by omega)), g1 a j (fun z => n (by omega))]
        exact rsz_o (fun z => n (Or.inl ⟨z.1, by omega⟩))
      · show pm_u I2 (p + 2) 0 1 p _ = _
        rw [pu_o (by omega), f2 _ _ (by omega), g1 _ _ (by omega)]
        exact k1
      · have hi : i < q * q := hi
        show pm_u I2 (p + 2) 0 1 (p + 1) i = _
        rw [pu_o (by omega), f2 _ _ (by omega)]
        exact ho i hi
      · have hi : i < q * q := hi
        show pm_u I2 (p + 2) 0 1 (p + 2) i = if sqH q (i % q) (i / q) ∨ i = 0 then 1 else -1
        by_cases i0 : i = 0
        · subst i0
          rw [pu_s, if_pos (Or.inr rfl)]
        · rw [pu_n i0, w2 i hi, ho i hi]
          by_cases e : sqH q (i % q) (i / q)
          · rw [if_pos e, if_pos rfl, if_pos (Or.inl e)]
          · rw [if_neg e, if_neg (by decide), if_neg (fun z => Or.elim z e i0)]
    | succ e ihe =>
      intro x I' u3 u4 u5 u6 hx g1 g2
      have c' := cP_o c1 (fun j => g1 p j (by omega))
      have inner : ∀ d y I' (u5 u6 : Value), y + d = q → (∀ a j, ¬ (a = p + 1 ∧ j < 289) → I' a j = rszI I p q q a j) → (∀ x' y', x' < x ∨ (x' = x ∧ y' < y) → y' < q → I' (p + 1) (q * y' + x') = if sqH q x' y' then 1 else 0) → pm_W (g_P ys) 63 34 [.ref p, .int (nI q), .int (nI x), .int (bI (reB q x)), .int (nI y), u5, u6] [] (I', L, g_R s, 306) (0, 0) Q := by
        intro d
        induction d with
        | zero =>
          intro y I' u5 u6 hy g1 g2
          have c' := cP_o c1 (fun j => g1 p j (by omega))
          refine ps_iload rfl rfl ?_
          refine ps_aload rfl rfl ?_
          refine ps_gfi 9 5 rfl rfl rfl (by first | exact hS0 _ _ | exact hS1 _ _ | exact hS2 _ _ | exact hS3 _ _ | exact hS4 _ _ | exact hS5 _ _ | exact hS6 _ _ | exact hS7 _ _ | exact hS8 _ _ | exact hS9 _ _ | exact hS10 _ _ | exact hS11 _ _ | exact hS12 _ _ | exact hS13 _ _ | assumption | rfl) rfl ?_
          rw [show ((I', L, g_R s, 306) : pm_H).1 p 5 = nI q from c'.2.1]
          refine ps_icmpt rfl (decide_eq_true (nI_le (by omega) (by omega))) ?_
          refine ps_iinc rfl rfl ?_
          refine ps_goto rfl ?_
          rw [show nI x + Int32.ofInt 1 = nI (x + 1) from nI_1 x]
          exact ihe (x + 1) _ _ _ _ _ (by omega) g1 (fun x' y' hx' hy' => g2 x' y' (by omega) hy')
        | succ d ih =>
          intro y I' u5 u6 hy g1 g2
          have c' := cP_o c1 (fun j => g1 p j (by omega))
          have b1 := (row_in (w := q) (v := q) (y := y) (x := x) (by omega) (by omega)).1
          have c80 : ∀ b : Int32, (b = 1 ∧ sqH q x y) ∨ (b = 0 ∧ ¬ sqH q x y) → ∀ u6 : Value, pm_W (g_P ys) 63 80 [.ref p, .int (nI q), .int (nI x), .int (bI (reB q x)), .int (nI y), .int (bI (reB q y)), u6] [.int b] (I', L, g_R s, 306) (0, 0) Q := by
            intro b hb u6
            have fin : ∀ z : Int32, z = (if sqH q x y then 1 else 0) → pm_W (g_P ys) 63 105 [.ref p, .int (nI q), .int (nI x), .int (bI (reB q x)), .int (nI y), .int (bI (reB q y)), .int b] [.int z, .int (nI (q * y + x)), .ref (p + 1)] (I', L, g_R s, 306) (0, 0) Q := by
              intro z hz
              refine ps_iast (q * y + x) rfl (by first | exact hS0 _ _ | exact hS1 _ _ | exact hS2 _ _ | exact hS3 _ _ | exact hS4 _ _ | exact hS5 _ _ | exact hS6 _ _ | exact hS7 _ _ | exact hS8 _ _ | exact hS9 _ _ | exact hS10 _ _ | exact hS11 _ _ | exact hS12 _ _ | exact hS13 _ _ | assumption | rfl) rfl (rfl) (by omega) ?_
              refine ps_iinc rfl rfl ?_
              refine ps_goto rfl ?_
              rw [show nI y + Int32.ofInt 1 = nI (y + 1) from nI_1 y]
              refine ih (y + 1) _ _ _ (by omega) (fun a j n => (pu_x (fun z => n (by omega))).trans (g1 a j n)) (fun x' y' hx' hy' => ?_)
              by_cases ee : x' = x ∧ y' = y
              · obtain ⟨e1, e2⟩ := ee
                subst e1 e2
                exact pu_s.trans hz
              · refine (pu_n (fun z => ee ?_)).trans (g2 x' y' ?_ hy')
                · have e1 := sq_ix (p := q) (x := x') (y := y') (by omega)
                  have e2 := sq_ix (p := q) (x := x) (y := y) (by omega)
                  rw [z] at e1
                  exact ⟨e1.1.symm.trans e2.1, e1.2.symm.trans e2.2⟩
                · omega
            refine ps_istore rfl rfl ?_
            refine ps_aload rfl rfl ?_
            refine ps_gfr 9 0 rfl rfl rfl (by first | exact hS0 _ _ | exact hS1 _ _ | exact hS2 _ _ | exact hS3 _ _ | exact hS4 _ _ | exact hS5 _ _ | exact hS6 _ _ | exact hS7 _ _ | exact hS8 _ _ | exact hS9 _ _ | exact hS10 _ _ | exact hS11 _ _ | exact hS12 _ _ | exact hS13 _ _ | assumption | rfl) rfl (by assumption) ?_
            refine ps_iload rfl rfl ?_
            refine ps_aload rfl rfl ?_
            refine ps_gfi 9 4 rfl rfl rfl (by first | exact hS0 _ _ | exact hS1 _ _ | exact hS2 _ _ | exact hS3 _ _ | exact hS4 _ _ | exact hS5 _ _ | exact hS6 _ _ | exact hS7 _ _ | exact hS8 _ _ | exact hS9 _ _ | exact hS10 _ _ | exact hS11 _ _ | exact hS12 _ _ | exact hS13 _ _ | assumption | rfl) rfl ?_
            rw [show ((I', L, g_R s, 306) : pm_H).1 p 4 = nI q from c'.1]
            refine ps_ar rfl rfl rfl rfl rfl ?_
            refine ps_iload rfl rfl ?_
            refine ps_ar rfl rfl rfl rfl rfl ?_
            rw [show nI y * nI q + nI x = nI (q * y + x) by rw [pk_mul, nI_add, Nat.mul_comm y q]]
            rcases hb with ⟨rfl, hb⟩ | ⟨rfl, hb⟩
            · refine ps_iload rfl rfl ?_
              refine ps_iff rfl (rfl) ?_
              refine pw_c rfl ?_
              refine ps_goto rfl ?_
              exact fin 1 (if_pos hb).symm
            · refine ps_iload rfl rfl ?_
              refine ps_ift rfl (rfl) ?_
              refine pw_c rfl ?_
              exact fin 0 (if_neg hb).symm
          have c58 : pm_W (g_P ys) 63 58 [.ref p, .int (nI q), .int (nI x), .int (bI (reB q x)), .int (nI y), u5, u6] [.int (bI (reB q y))] (I', L, g_R s, 306) (0, 0) Q := by
            by_cases x0 : x = 0
            · refine ps_istore rfl rfl ?_
              refine ps_iload rfl rfl ?_
              refine ps_ift rfl (by rw [x0]; rfl) ?_
              refine pw_c rfl ?_
              exact c80 0 (Or.inr ⟨rfl, fun z => absurd z.1 (by omega)⟩) _
            · refine ps_istore rfl rfl ?_
              refine ps_iload rfl rfl ?_
              refine ps_iff rfl (decide_eq_false (fun z => x0 (nI_inj (b := 0) (by omega) (by omega) z))) ?_
              by_cases y0 : y = 0
              · refine ps_iload rfl rfl ?_
                refine ps_ift rfl (by rw [y0]; rfl) ?_
                refine pw_c rfl ?_
                refine ps_goto rfl ?_
                exact c80 1 (Or.inl ⟨rfl, by omega, Or.inl y0⟩) _
              · refine ps_iload rfl rfl ?_
                refine ps_iff rfl (decide_eq_false (fun z => y0 (nI_inj (b := 0) (by omega) (by omega) z))) ?_
                refine ps_iload rfl rfl ?_
                refine ps_iload rfl rfl ?_
                by_cases r : reB q x = reB q y
                · refine ps_icmpf rfl (decide_eq_false (fun z => z (by rw [r]))) ?_
                  refine pw_c rfl ?_
                  refine ps_goto rfl ?_
                  exact c80 1 (Or.inl ⟨rfl, by omega, Or.inr r⟩) _
                · refine ps_icmpt rfl (decide_eq_true (fun z => r (by revert z; cases reB q x <;> cases reB q y <;> decide))) ?_
                  refine pw_c rfl ?_
                  exact c80 0 (Or.inr ⟨rfl, fun z => Or.elim z.2 y0 r⟩) _
          refine ps_iload rfl rfl ?_
          refine ps_aload rfl rfl ?_
          refine ps_gfi 9 5 rfl rfl rfl (by first | exact hS0 _ _ | exact hS1 _ _ | exact hS2 _ _ | exact hS3 _ _ | exact hS4 _ _ | exact hS5 _ _ | exact hS6 _ _ | exact hS7 _ _ | exact hS8 _ _ | exact hS9 _ _ | exact hS10 _ _ | exact hS11 _ _ | exact hS12 _ _ | exact hS13 _ _ | assumption | rfl) rfl ?_
          rw [show ((I', L, g_R s, 306) : pm_H).1 p 5 = nI q from c'.2.1]
          refine ps_icmpf rfl (decide_eq_false (nI_ge (by omega) (by omega))) ?_
          refine ps_iload rfl rfl ?_
          refine ps_iload rfl rfl ?_
          refine pw_k rfl rfl rfl rfl ⟨Nat.zero_le _, Nat.zero_le _⟩ ?_
          refine B_leastRoot h1 (by omega) (by omega) ?_
          cases hre : reB q y with
          | true =>
            rw [hre] at c58
            refine pw_c rfl ?_
            refine ps_icmpf rfl (decide_eq_false (re_t hre)) ?_
            refine pw_c rfl ?_
            refine ps_goto rfl ?_
            exact c58
          | false =>
            rw [hre] at c58
            rw [re_f hre]
            refine pw_c rfl ?_
            refine ps_icmpt rfl (rfl) ?_
            refine pw_c rfl ?_
            exact c58
      have c30 : pm_W (g_P ys) 63 30 [.ref p, .int (nI q), .int (nI x), u3, u4, u5, u6] [.int (bI (reB q x))] (I', L, g_R s, 306) (0, 0) Q := by
        refine ps_istore rfl rfl ?_
        refine pw_c rfl ?_
        refine ps_istore rfl rfl ?_
        exact inner q 0 I' _ _ (by omega) g1 (fun x' y' hx' hy' => g2 x' y' (by omega) hy')
      refine ps_iload rfl rfl ?_
      refine ps_aload rfl rfl ?_
      refine ps_gfi 9 4 rfl rfl rfl (by first | exact hS0 _ _ | exact hS1 _ _ | exact hS2 _ _ | exact hS3 _ _ | exact hS4 _ _ | exact hS5 _ _ | exact hS6 _ _ | exact hS7 _ _ | exact hS8 _ _ | exact hS9 _ _ | exact hS10 _ _ | exact hS11 _ _ | exact hS12 _ _ | exact hS13 _ _ | assumption | rfl) rfl ?_
      rw [show ((I', L, g_R s, 306) : pm_H).1 p 4 = nI q from c'.1]
      refine ps_icmpf rfl (decide_eq_false (nI_ge (by omega) (by omega))) ?_
      refine ps_iload rfl rfl ?_
      refine ps_iload rfl rfl ?_
      refine pw_k rfl rfl rfl rfl ⟨Nat.zero_le _, Nat.zero_le _⟩ ?_
      refine B_leastRoot h1 (by omega) (by omega) ?_
      cases hre : reB q x with
      | true =>
        rw [hre] at c30
        refine pw_c rfl ?_
        refine ps_icmpf rfl (decide_eq_false (re_t hre)) ?_
        refine pw_c rfl ?_
        refine ps_goto rfl ?_
        exact c30
      | false =>
        rw [hre] at c30
        rw [re_f hre]
        refine pw_c rfl ?_
        refine ps_icmpt rfl (rfl) ?_
        refine pw_c rfl ?_
        exact c30
  refine pw_c rfl ?_
  refine ps_istore rfl rfl ?_
  exact outer q 0 _ _ _ _ _ (by omega) (fun _ _ _ => rfl) (fun x' y' hx' => absurd hx' (by omega))
end KT
