/-! BY HAND: the model's camera, exactly, third: SIDES, restoring, what is found -/
section TY
variable {I I' I1 I2 J : Nat → Nat → Int32} {L : Nat → Nat → Int64} {s : Nat → Option Nat} {Q : List Value → pm_H → Prop} {ys : List Int32} {k sh : Nat} {ng : Bool} {P : sPl} {S : sS} {f g : Nat → Int32} {h : pm_H} {o : Nat}
/-- a PLATE of the model, used or not -/
def mP1 (k : Nat) (P : sPl) (I : Nat → Nat → Int32) : Prop := mPl I k P.w P.v ∧ (∀ i, i < P.w * P.v → I 280 (289 * k + i) = P.ho i ∧ I 282 (289 * k + i) = P.we i)
theorem mP1_o (h : mP1 k P I) (c : ∀ a j, (a = 278 ∨ a = 280 ∨ a = 282) → I' a j = I a j) : mP1 k P I' := by
  obtain ⟨⟨p1, p2, p3, p4⟩, hr⟩ := h
  exact ⟨⟨p1, (c _ _ (by omega)).trans p2, (c _ _ (by omega)).trans p3, p4⟩, fun i hi => ⟨(c _ _ (by omega)).trans (hr i hi).1, (c _ _ (by omega)).trans (hr i hi).2⟩⟩
theorem sd_eq (w0 : 0 < P.w) (v0 : 0 < P.v) {g g' : Nat → Int32} (hg : ∀ i, i < P.w * P.v → g i = P.ho i) (hg' : ∀ i, i < P.w * P.v → g' i = P.we i) (c : Nat) : suI (fun j => suI (fun i => if g (cxy P.w P.v (i : Int) (j : Int)) = 1 then g' (cxy P.w P.v ((i : Int) + ((c % P.w : Nat) : Int)) ((j : Int) + ((c / P.w : Nat) : Int))) else 0) P.w) P.v = sdF P c := by
  unfold sdF ovF
  rw [← suI_xy w0]
  refine suI_congr (fun y hy => suI_congr (fun x hx => ?_))
  have l1 := cxy_lt w0 v0 (x : Int) (y : Int)
  have l2 := cxy_lt w0 v0 ((x : Int) + ((c % P.w : Nat) : Int)) ((y : Int) + ((c / P.w : Nat) : Int))
  rw [hg _ l1, hg' _ l2, Int.add_comm ((c % P.w : Nat) : Int), Int.add_comm ((c / P.w : Nat) : Int), cxy_add w0 v0]
theorem M_sideOfX {c : Nat} (hP : mP1 k P I) (hc : c < P.w * P.v) (kk : Q [.int (sdF P c)] (I, L, g_R s, 306)) : pm_W (g_P ys) 199 0 [.ref 275, .int (nI k), .int (nI (c % P.w)), .int (nI (c / P.w)), .retAddr 0, .retAddr 0, .retAddr 0] [] (I, L, g_R s, 306) (0, 0) Q := by
  obtain ⟨hp, hr⟩ := hP
  have w0 := hp.2.2.2.1
  have v0 := hp.2.2.2.2.1
  have n9 := hp.2.2.2.2.2
  have x9 := Nat.mod_le c P.w
  have y9 : c / P.w ≤ c := Nat.div_le_self _ _
  have x7 := Int.natCast_nonneg (c % P.w)
  have y7 := Int.natCast_nonneg (c / P.w)
  rw [← iI_nat (c % P.w), ← iI_nat (c / P.w)]
  refine M_sideOf hp (by omega) (by omega) ?_
  rw [sd_eq (g := fun j => I 280 (289 * k + j)) (g' := fun j => I 282 (289 * k + j)) w0 v0 (fun i hi => (hr i hi).1) (fun i hi => (hr i hi).2) c]
  exact kk
/-- where SIDES are laid -/
def mSg (k : Nat) (I I' : Nat → Nat → Int32) : Prop := ∀ a j : Nat, ¬ ((a = 294 ∨ a = 293 ∨ a = 291 ∨ a = 292) ∧ j = k) → I' a j = I a j
theorem mSg_P {l : Nat} {R : sPl} (h : mP1 l R I) (c : mSg k I I') : mP1 l R I' := mP1_o h (fun a j z => c a j (by omega))
def mSd (I : Nat → Nat → Int32) (k : Nat) (P : sPl) : Prop := I 294 k = 0 ∨ mSk I k P
theorem M_laysSidesX (hP : mP1 k P I) (hs : mSd I k P) (kk : ∀ I', mSg k I I' → mSk I' k P → Q [] (I', L, g_R s, 306)) : pm_W (g_P ys) 198 0 [.ref 275, .int (nI k), .retAddr 0, .retAddr 0, .retAddr 0, .retAddr 0] [] (I, L, g_R s, 306) (0, 0) Q := by
  have k6 := hP.1.1
  have w0 := hP.1.2.2.2.1
  have v0 := hP.1.2.2.2.2.1
  have n9 := hP.1.2.2.2.2.2
  obtain ⟨wb, vb⟩ := hP.1.b
  have n0 : 0 < P.w * P.v := Nat.mul_pos w0 v0
  rcases hs with hs | hs
  · refine ps_aload rfl rfl ?_
    refine ps_gfr 11 23 rfl rfl rfl rfl rfl (rfl) ?_
    refine ps_iload rfl rfl ?_
    refine ps_bald (k) rfl rfl (Or.inr rfl) rfl (rfl) (by omega) ?_
    rw [show ((I, L, g_R s, 306) : pm_H).1 294 k = 0 from hs]
    refine ps_ift rfl (rfl) ?_
    refine ps_aload rfl rfl ?_
    refine ps_gfr 11 23 rfl rfl rfl rfl rfl (rfl) ?_
    refine ps_iload rfl rfl ?_
    refine pw_c rfl ?_
    refine ps_zast (k) rfl rfl rfl (rfl) (by omega) ?_
    refine ps_aload rfl rfl ?_
    refine ps_gfr 11 22 rfl rfl rfl rfl rfl (rfl) ?_
    refine ps_iload rfl rfl ?_
    refine ps_aload rfl rfl ?_
    refine ps_iload rfl rfl ?_
    refine pw_c rfl ?_
    refine pw_c rfl ?_
    have g1 : mSg k I (pm_u I 294 k 1) := fun a j z => pu_x (by omega)
    have a1 : pm_u I 294 k 1 294 k = 1 := pu_s
    show pm_W _ _ _ _ _ (pm_u I 294 k 1, L, g_R s, 306) _ _
    generalize pm_u I 294 k 1 = I1 at g1 a1 ⊢
    refine pw_k rfl rfl rfl rfl ⟨Nat.zero_le _, Nat.zero_le _⟩ ?_
    have z0 := fun Q => M_sideOfX (ys := ys) (L := L) (s := s) (c := 0) (Q := Q) (mSg_P hP g1) n0
    rw [Nat.zero_mod, Nat.zero_div] at z0
    refine z0 _ ?_
    refine ps_iast (k) rfl rfl rfl (rfl) (by omega) ?_
    refine pw_c rfl ?_
    refine ps_istore rfl rfl ?_
    refine pw_c rfl ?_
    refine ps_istore rfl rfl ?_
    have g2 : mSg k I (pm_u I1 293 k (sdF P 0)) := fun a j z => (pu_x (by omega)).trans (g1 a j z)
    have a2 : pm_u I1 293 k (sdF P 0) 294 k = 1 ∧ pm_u I1 293 k (sdF P 0) 293 k = sdF P 0 := ⟨(pu_o (by decide)).trans a1, pu_s⟩
    show pm_W _ _ _ _ _ (pm_u I1 293 k (sdF P 0), L, g_R s, 306) _ _
    generalize pm_u I1 293 k (sdF P 0) = I2 at g2 a2 ⊢
    clear z0 g1 a1
    obtain ⟨R, hR⟩ : ∃ R : Nat → (Nat → Nat → Int32) → Prop, R = fun c I' => mSg k I I' ∧ I' 294 k = 1 ∧ I' 293 k = sdF P 0 ∧ (2 ≤ c → I' 291 k = mnF (sdF P) c ∧ I' 292 k = mxF (sdF P) c) := ⟨_, rfl⟩
    obtain ⟨A, hA⟩ : ∃ A : Nat → Int32, A = fun c => if 2 ≤ c then 1 else 0 := ⟨_, rfl⟩
    have outer : ∀ d y, y + d = P.v → ∀ I' (u4 u5 : Value), R (P.w * y) I' → pm_W (g_P ys) 198 34 [.ref 275, .int (nI k), .int (A (P.w * y)), .int (nI y), u4, u5] [] (I', L, g_R s, 306) (0, 0) Q := by
      intro d
      induction d with
      | zero =>
        intro y hy I' u4 u5 hRR
        have ey : y = P.v := by omega
        subst ey
        rw [hR] at hRR
        obtain ⟨r1, r2, r3, r4⟩ := hRR
        have P' := (mSg_P hP r1).1
        refine ps_iload rfl rfl ?_
        refine ps_aload rfl rfl ?_
        refine ps_iload rfl rfl ?_
        refine pw_k rfl rfl rfl rfl ⟨Nat.zero_le _, Nat.zero_le _⟩ ?_
        refine M_highOf k6 ?_
        rw [P'.2.2.1]
        refine ps_icmpt rfl (decide_eq_true (nI_le (by omega) (by omega))) ?_
        refine ps_vret rfl rfl ?_
        exact kk I' r1 ⟨r2, r3, r4⟩
      | succ d ih =>
        intro y hy I' u4 u5 hRR
        have inner : ∀ e x, x + e = P.w → ∀ I' (u5 : Value), R (P.w * y + x) I' → pm_W (g_P ys) 198 46 [.ref 275, .int (nI k), .int (A (P.w * y + x)), .int (nI y), .int (nI x), u5] [] (I', L, g_R s, 306) (0, 0) Q := by
          intro e
          induction e with
          | zero =>
            intro x hx I' u5 hRR
            have ex : x = P.w := by omega
            subst ex
            have hR0 := hRR
            rw [hR] at hR0
            have P' := (mSg_P hP hR0.1).1
            refine ps_iload rfl rfl ?_
            refine ps_aload rfl rfl ?_
            refine ps_iload rfl rfl ?_
            refine pw_k rfl rfl rfl rfl ⟨Nat.zero_le _, Nat.zero_le _⟩ ?_
            refine M_wideOf k6 ?_
            rw [P'.2.1]
            refine ps_icmpt rfl (decide_eq_true (nI_le (by omega) (by omega))) ?_
            refine ps_iinc rfl rfl ?_
            refine ps_goto rfl ?_
            rw [show nI y + Int32.ofInt 1 = nI (y + 1) from nI_1 y]
            rw [show P.w * y + P.w = P.w * (y + 1) by rw [Nat.mul_add, Nat.mul_one]] at hRR ⊢
            exact ih (y + 1) (by omega) I' _ _ hRR
          | succ e ihe =>
            intro x hx I' u5 hRR
            have hR0 := hRR
            rw [hR] at hR0
            obtain ⟨r1, r2, r3, r4⟩ := hR0
            have P1 := mSg_P hP r1
            have P' := P1.1
            have b1 := (row_in (w := P.w) (v := P.v) (y := y) (x := x) (by omega) (by omega)).1
            obtain ⟨q1, q2⟩ := sq_ix (p := P.w) (x := x) (y := y) (by omega)
            obtain ⟨c, hc⟩ : ∃ c, c = P.w * y + x := ⟨_, rfl⟩
            have cx : c % P.w = x := by rw [hc]; exact q1
            have cy : c / P.w = y := by rw [hc]; exact q2
            have next := ihe (x + 1) (by omega)
            rw [show P.w * y + (x + 1) = c + 1 by omega] at next
            rw [← hc] at hRR r4 b1 ⊢
            have back : ∀ I3 (u5 : Value), R (c + 1) I3 → pm_W (g_P ys) 198 142 [.ref 275, .int (nI k), .int (A (c + 1)), .int (nI y), .int (nI x), u5] [] (I3, L, g_R s, 306) (0, 0) Q := by
              intro I3 u5 r
              refine ps_iinc rfl rfl ?_
              refine ps_goto rfl ?_
              rw [show nI x + Int32.ofInt 1 = nI (x + 1) from nI_1 x]
              exact next I3 u5 r
            refine ps_iload rfl rfl ?_
            refine ps_aload rfl rfl ?_
            refine ps_iload rfl rfl ?_
            refine pw_k rfl rfl rfl rfl ⟨Nat.zero_le _, Nat.zero_le _⟩ ?_
            refine M_wideOf k6 ?_
            rw [P'.2.1]
            refine ps_icmpf rfl (decide_eq_false (nI_ge (by omega) (by omega))) ?_
            refine ps_iload rfl rfl ?_
            refine ps_iload rfl rfl ?_
            refine ps_ar rfl rfl rfl rfl rfl ?_
            rw [nI_add]
            by_cases c0 : c = 0
            · have x0 : x = 0 := by rw [← cx, c0, Nat.zero_mod]
              have y0 : y = 0 := by rw [← cy, c0, Nat.zero_div]
              rw [show nI (x + y) = (0 : Int32) from by rw [x0, y0]; rfl]
              refine ps_iff rfl (by decide) ?_
              refine ps_goto rfl ?_
              have z := back I' u5 (by
                rw [hR]
                exact ⟨r1, r2, r3, fun z => absurd z (by omega)⟩)
              rw [show A (c + 1) = A c from by rw [hA, c0]; rfl] at z
              exact z
            · have nz : ¬ x + y = 0 := fun z => c0 (by
                have ex0 : x = 0 := by omega
                have ey0 : y = 0 := by omega
                rw [hc, ex0, ey0, Nat.mul_zero])
              refine ps_ift rfl (decide_eq_true (nI_nz (by omega) (by omega))) ?_
              refine ps_aload rfl rfl ?_
              refine ps_iload rfl rfl ?_
              refine ps_iload rfl rfl ?_
              refine ps_iload rfl rfl ?_
              refine pw_k rfl rfl rfl rfl ⟨Nat.zero_le _, Nat.zero_le _⟩ ?_
              have zs := fun Q => M_sideOfX (ys := ys) (L := L) (s := s) (c := c) (Q := Q) P1 b1
              rw [cx, cy] at zs
              refine zs _ ?_
              clear zs
              -- the most, then on
              have p2 : ∀ I3, mSg k I I3 → I3 294 k = 1 → I3 293 k = sdF P 0 → I3 291 k = mnF (sdF P) (c + 1) → (2 ≤ c → I3 292 k = mxF (sdF P) c) → pm_W (g_P ys) 198 108 [.ref 275, .int (nI k), .int (A c), .int (nI y), .int (nI x), .int (sdF P c)] [] (I3, L, g_R s, 306) (0, 0) Q := by
                intro I3 e1 e2 e3 e4 e5
                have fin : ∀ v, v = mxF (sdF P) (c + 1) → pm_W (g_P ys) 198 139 [.ref 275, .int (nI k), .int (A c), .int (nI y), .int (nI x), .int (sdF P c)] [.int v, .int (nI k), .ref 292] (I3, L, g_R s, 306) (0, 0) Q := by
                  intro v hv
                  refine ps_iast (k) rfl rfl rfl (rfl) (by omega) ?_
                  refine pw_c rfl ?_
                  refine ps_istore rfl rfl ?_
                  have z := back (pm_u I3 292 k v) (.int (sdF P c)) (by
                    rw [hR]
                    exact ⟨fun a j z => (pu_x (by omega)).trans (e1 a j z), (pu_o (by decide)).trans e2, (pu_o (by decide)).trans e3, fun _ => ⟨(pu_o (by decide)).trans e4, pu_s.trans hv⟩⟩)
                  rw [show A (c + 1) = 1 from by rw [hA]; exact if_pos (by omega)] at z
                  exact z
                by_cases c2 : 2 ≤ c
                · have ea : A c = 1 := by rw [hA]; exact if_pos c2
                  rw [ea] at fin ⊢
                  refine ps_aload rfl rfl ?_
                  refine ps_gfr 11 21 rfl rfl rfl rfl rfl (rfl) ?_
                  refine ps_iload rfl rfl ?_
                  refine ps_iload rfl rfl ?_
                  refine ps_iff rfl (by decide) ?_
                  refine ps_iload rfl rfl ?_
                  refine ps_aload rfl rfl ?_
                  refine ps_gfr 11 21 rfl rfl rfl rfl rfl (rfl) ?_
                  refine ps_iload rfl rfl ?_
                  refine ps_iald (k) rfl rfl rfl (rfl) (by omega) ?_
                  rw [show ((I3, L, g_R s, 306) : pm_H).1 292 k = mxF (sdF P) c from e5 c2]
                  by_cases lt : mxF (sdF P) c < sdF P c
                  · refine ps_icmpf rfl (decide_eq_false (fun q => by have q := (i_le _ _).mp q; have y := (i_lt _ _).mp lt; omega)) ?_
                    refine ps_iload rfl rfl ?_
                    refine ps_goto rfl ?_
                    exact fin _ (by rw [mxF_s c2, if_pos lt])
                  · refine ps_icmpt rfl (decide_eq_true ((i_le _ _).mpr (by have : ¬ (mxF (sdF P) c).toInt < (sdF P c).toInt := fun q => lt ((i_lt _ _).mpr q); omega))) ?_
                    refine ps_aload rfl rfl ?_
                    refine ps_gfr 11 21 rfl rfl rfl rfl rfl (rfl) ?_
                    refine ps_iload rfl rfl ?_
                    refine ps_iald (k) rfl rfl rfl (rfl) (by omega) ?_
                    rw [show ((I3, L, g_R s, 306) : pm_H).1 292 k = mxF (sdF P) c from e5 c2]
                    exact fin _ (by rw [mxF_s c2, if_neg lt])
                · have ea : A c = 0 := by rw [hA]; exact if_neg c2
                  have c1 : c = 1 := by omega
                  rw [ea] at fin ⊢
                  refine ps_aload rfl rfl ?_
                  refine ps_gfr 11 21 rfl rfl rfl rfl rfl (rfl) ?_
                  refine ps_iload rfl rfl ?_
                  refine ps_iload rfl rfl ?_
                  refine ps_ift rfl (by decide) ?_
                  refine ps_iload rfl rfl ?_
                  refine ps_goto rfl ?_
                  exact fin _ (by rw [c1]; exact mxF_1.symm)
              have fl : ∀ v, v = mnF (sdF P) (c + 1) → pm_W (g_P ys) 198 107 [.ref 275, .int (nI k), .int (A c), .int (nI y), .int (nI x), .int (sdF P c)] [.int v, .int (nI k), .ref 291] (I', L, g_R s, 306) (0, 0) Q := by
                intro v hv
                refine ps_iast (k) rfl rfl rfl (rfl) (by omega) ?_
                exact p2 _ (fun a j z => (pu_x (by omega)).trans (r1 a j z)) ((pu_o (by decide)).trans r2) ((pu_o (by decide)).trans r3) (pu_s.trans hv) (fun c2 => (pu_o (by decide)).trans (r4 c2).2)
              by_cases c2 : 2 ≤ c
              · have ea : A c = 1 := by rw [hA]; exact if_pos c2
                rw [ea] at fl ⊢
                refine ps_istore rfl rfl ?_
                refine ps_aload rfl rfl ?_
                refine ps_gfr 11 20 rfl rfl rfl rfl rfl (rfl) ?_
                refine ps_iload rfl rfl ?_
                refine ps_iload rfl rfl ?_
                refine ps_iff rfl (by decide) ?_
                refine ps_iload rfl rfl ?_
                refine ps_aload rfl rfl ?_
                refine ps_gfr 11 20 rfl rfl rfl rfl rfl (rfl) ?_
                refine ps_iload rfl rfl ?_
                refine ps_iald (k) rfl rfl rfl (rfl) (by omega) ?_
                rw [show ((I', L, g_R s, 306) : pm_H).1 291 k = mnF (sdF P) c from (r4 c2).1]
                by_cases lt : sdF P c < mnF (sdF P) c
                · refine ps_icmpf rfl (decide_eq_false (fun q => by have q := (i_le _ _).mp q; have y := (i_lt _ _).mp lt; omega)) ?_
                  refine ps_iload rfl rfl ?_
                  refine ps_goto rfl ?_
                  exact fl _ (by rw [mnF_s c2, if_pos lt])
                · refine ps_icmpt rfl (decide_eq_true ((i_le _ _).mpr (by have : ¬ (sdF P c).toInt < (mnF (sdF P) c).toInt := fun q => lt ((i_lt _ _).mpr q); omega))) ?_
                  refine ps_aload rfl rfl ?_
                  refine ps_gfr 11 20 rfl rfl rfl rfl rfl (rfl) ?_
                  refine ps_iload rfl rfl ?_
                  refine ps_iald (k) rfl rfl rfl (rfl) (by omega) ?_
                  rw [show ((I', L, g_R s, 306) : pm_H).1 291 k = mnF (sdF P) c from (r4 c2).1]
                  exact fl _ (by rw [mnF_s c2, if_neg lt])
              · have ea : A c = 0 := by rw [hA]; exact if_neg c2
                have c1 : c = 1 := by omega
                rw [ea] at fl ⊢
                refine ps_istore rfl rfl ?_
                refine ps_aload rfl rfl ?_
                refine ps_gfr 11 20 rfl rfl rfl rfl rfl (rfl) ?_
                refine ps_iload rfl rfl ?_
                refine ps_iload rfl rfl ?_
                refine ps_ift rfl (by decide) ?_
                refine ps_iload rfl rfl ?_
                refine ps_goto rfl ?_
                exact fl _ (by rw [c1]; exact mnF_1.symm)
        have hR0 := hRR
        rw [hR] at hR0
        have P' := (mSg_P hP hR0.1).1
        refine ps_iload rfl rfl ?_
        refine ps_aload rfl rfl ?_
        refine ps_iload rfl rfl ?_
        refine pw_k rfl rfl rfl rfl ⟨Nat.zero_le _, Nat.zero_le _⟩ ?_
        refine M_highOf k6 ?_
        rw [P'.2.2.1]
        refine ps_icmpf rfl (decide_eq_false (nI_ge (by omega) (by omega))) ?_
        refine pw_c rfl ?_
        refine ps_istore rfl rfl ?_
        exact inner P.w 0 (by omega) I' _ hRR
    have z := outer P.v 0 (by omega) I2 (.retAddr 0) (.retAddr 0) (by
      rw [hR]
      exact ⟨g2, a2.1, a2.2, fun z => absurd z (by omega)⟩)
    rw [show A (P.w * 0) = 0 from by rw [hA]; rfl] at z
    exact z
  · refine ps_aload rfl rfl ?_
    refine ps_gfr 11 23 rfl rfl rfl rfl rfl (rfl) ?_
    refine ps_iload rfl rfl ?_
    refine ps_bald (k) rfl rfl (Or.inr rfl) rfl (rfl) (by omega) ?_
    rw [show ((I, L, g_R s, 306) : pm_H).1 294 k = 1 from hs.1]
    refine ps_iff rfl (rfl) ?_
    refine ps_vret rfl rfl ?_
    exact kk I (fun _ _ _ => rfl) hs
theorem M_isFlatX (hP : mP1 k P I) (hs : mSd I k P) (kk : ∀ I', mSg k I I' → mSk I' k P → Q [.int (bI (decide (P.w * P.v = 1 ∨ lsS P = gsS P)))] (I', L, g_R s, 306)) : pm_W (g_P ys) 206 0 [.ref 275, .int (nI k)] [] (I, L, g_R s, 306) (0, 0) Q := by
  have k6 := hP.1.1
  have w0 := hP.1.2.2.2.1
  have v0 := hP.1.2.2.2.2.1
  have n9 := hP.1.2.2.2.2.2
  have n0 : 0 < P.w * P.v := Nat.mul_pos w0 v0
  refine ps_aload rfl rfl ?_
  refine ps_iload rfl rfl ?_
  refine pw_k rfl rfl rfl rfl ⟨Nat.zero_le _, Nat.zero_le _⟩ ?_
  refine M_laysSidesX hP hs (fun I1 g1 s1 => ?_)
  have P1 := (mSg_P hP g1).1
  have kk := kk I1 g1 s1
  refine ps_aload rfl rfl ?_
  refine ps_iload rfl rfl ?_
  refine pw_k rfl rfl rfl rfl ⟨Nat.zero_le _, Nat.zero_le _⟩ ?_
  refine M_cellsOf k6 ?_
  rw [P1.2.1, P1.2.2.1, pk_mul]
  by_cases c1 : P.w * P.v = 1
  · rw [decide_eq_true (Or.inl c1)] at kk
    refine pw_c rfl ?_
    refine ps_icmpt rfl (decide_eq_true (by rw [c1]; rfl)) ?_
    refine pw_c rfl ?_
    refine ps_goto rfl ?_
    refine ps_zret rfl rfl (Or.inr rfl) ?_
    exact kk
  · obtain ⟨s2, s3⟩ := s1.2.2 (by omega)
    refine pw_c rfl ?_
    refine ps_icmpf rfl (decide_eq_false (fun z => c1 (nI_eqv (b := 1) (by omega) (by omega) z))) ?_
    refine ps_aload rfl rfl ?_
    refine ps_gfr 11 20 rfl rfl rfl rfl rfl (rfl) ?_
    refine ps_iload rfl rfl ?_
    refine ps_iald (k) rfl rfl rfl (rfl) (by omega) ?_
    rw [show ((I1, L, g_R s, 306) : pm_H).1 291 k = lsS P from s2]
    refine ps_aload rfl rfl ?_
    refine ps_gfr 11 21 rfl rfl rfl rfl rfl (rfl) ?_
    refine ps_iload rfl rfl ?_
    refine ps_iald (k) rfl rfl rfl (rfl) (by omega) ?_
    rw [show ((I1, L, g_R s, 306) : pm_H).1 292 k = gsS P from s3]
    by_cases c2 : lsS P = gsS P
    · rw [decide_eq_true (Or.inr c2)] at kk
      refine ps_icmpf rfl (decide_eq_false (fun z => z c2)) ?_
      refine pw_c rfl ?_
      refine ps_goto rfl ?_
      refine ps_zret rfl rfl (Or.inr rfl) ?_
      exact kk
    · rw [decide_eq_false (fun z => z.elim c1 c2)] at kk
      refine ps_icmpt rfl (decide_eq_true c2) ?_
      refine pw_c rfl ?_
      refine ps_zret rfl rfl (Or.inl rfl) ?_
      exact kk
theorem M_canRestoreX (hP : mP1 k P I) (hs : mSd I k P) (kk : ∀ I', mSg k I I' → mSd I' k P → (crP P → mSk I' k P) → Q [.int (bI (decide (crP P)))] (I', L, g_R s, 306)) : pm_W (g_P ys) 235 0 [.ref 275, .int (nI k)] [] (I, L, g_R s, 306) (0, 0) Q := by
  have k6 := hP.1.1
  have w0 := hP.1.2.2.2.1
  have v0 := hP.1.2.2.2.2.1
  have n9 := hP.1.2.2.2.2.2
  have n0 : 0 < P.w * P.v := Nat.mul_pos w0 v0
  have e0 : (0 : Int32).toInt = 0 := rfl
  have e1 : (1 : Int32).toInt = 1 := rfl
  have no : ¬ crP P → ∀ I', mSg k I I' → mSd I' k P → pm_W (g_P ys) 235 44 [.ref 275, .int (nI k)] [] (I', L, g_R s, 306) (0, 0) Q := by
    intro z I' g' s'
    have kk := kk I' g' s' (fun y => absurd y z)
    rw [decide_eq_false z] at kk
    refine pw_c rfl ?_
    refine ps_zret rfl rfl (Or.inl rfl) ?_
    exact kk
  refine ps_aload rfl rfl ?_
  refine ps_iload rfl rfl ?_
  refine pw_k rfl rfl rfl rfl ⟨Nat.zero_le _, Nat.zero_le _⟩ ?_
  refine M_cellsOf k6 ?_
  rw [hP.1.2.1, hP.1.2.2.1, pk_mul]
  by_cases c1 : 2 ≤ P.w * P.v
  · refine pw_c rfl ?_
    refine ps_icmpf rfl (decide_eq_false (fun z => by have z := (i_le _ _).mp z; rw [nI_toInt (by omega)] at z; omega)) ?_
    refine ps_aload rfl rfl ?_
    refine ps_iload rfl rfl ?_
    refine pw_k rfl rfl rfl rfl ⟨Nat.zero_le _, Nat.zero_le _⟩ ?_
    refine M_isFlatX hP hs (fun I1 g1 s1 => ?_)
    have P1 := mSg_P hP g1
    obtain ⟨s2, s3⟩ := s1.2.2 c1
    have hh : suI (fun c => I1 280 (289 * k + c)) (P.w * P.v) = hoP P := suI_congr (fun c hc => (P1.2 c hc).1)
    by_cases c2 : lsS P = gsS P
    · rw [decide_eq_true (Or.inr c2)]
      refine ps_iff rfl (by decide) ?_
      refine ps_aload rfl rfl ?_
      refine ps_iload rfl rfl ?_
      refine pw_k rfl rfl rfl rfl ⟨Nat.zero_le _, Nat.zero_le _⟩ ?_
      refine M_holesOf k6 P1.1.2.1 P1.1.2.2.1 n9 ?_
      rw [hh]
      by_cases c3 : 0 < (hoP P).toInt
      · refine ps_iff rfl (decide_eq_false (fun z => by have z := (i_le _ _).mp z; omega)) ?_
        refine ps_aload rfl rfl ?_
        refine ps_gfr 11 22 rfl rfl rfl rfl rfl (rfl) ?_
        refine ps_iload rfl rfl ?_
        refine ps_iald (k) rfl rfl rfl (rfl) (by omega) ?_
        rw [show ((I1, L, g_R s, 306) : pm_H).1 293 k = sdF P 0 from s1.2.1]
        refine ps_aload rfl rfl ?_
        refine ps_gfr 11 20 rfl rfl rfl rfl rfl (rfl) ?_
        refine ps_iload rfl rfl ?_
        refine ps_iald (k) rfl rfl rfl (rfl) (by omega) ?_
        rw [show ((I1, L, g_R s, 306) : pm_H).1 291 k = lsS P from s2]
        by_cases c4 : sdF P 0 = lsS P
        · refine ps_icmpt rfl (decide_eq_true c4) ?_
          exact no (fun z => z.2.2.2 c4) I1 g1 (Or.inr s1)
        · have cr : crP P := ⟨c1, c3, c2, c4⟩
          have kk := kk I1 g1 (Or.inr s1) (fun _ => s1)
          rw [decide_eq_true cr] at kk
          refine ps_icmpf rfl (decide_eq_false c4) ?_
          refine pw_c rfl ?_
          refine ps_goto rfl ?_
          refine ps_zret rfl rfl (Or.inr rfl) ?_
          exact kk
      · refine ps_ift rfl (decide_eq_true ((i_le _ _).mpr (by omega))) ?_
        exact no (fun z => c3 z.2.1) I1 g1 (Or.inr s1)
    · rw [decide_eq_false (fun z => z.elim (fun y => absurd y (by omega)) c2)]
      refine ps_ift rfl (by decide) ?_
      exact no (fun z => c2 z.2.2.1) I1 g1 (Or.inr s1)
  · refine pw_c rfl ?_
    refine ps_icmpt rfl (decide_eq_true ((i_le _ _).mpr (by rw [nI_toInt (by omega)]; omega))) ?_
    exact no (fun z => c1 z.1) I (fun _ _ _ => rfl) hs
theorem M_usesX (kk : Q [] (pm_u (pm_u (pm_u I 275 24 (nI k)) 275 25 0) 275 26 0, L, g_R s, 306)) : pm_W (g_P ys) 236 0 [.ref 275, .int (nI k)] [] (I, L, g_R s, 306) (0, 0) Q := by
  refine ps_aload rfl rfl ?_
  refine ps_iload rfl rfl ?_
  refine ps_pfi 11 24 rfl rfl rfl rfl rfl ?_
  refine ps_aload rfl rfl ?_
  refine pw_c rfl ?_
  refine ps_pfi 11 25 rfl rfl rfl rfl rfl ?_
  refine ps_aload rfl rfl ?_
  refine pw_c rfl ?_
  refine ps_pfz 11 26 rfl rfl rfl rfl rfl (Or.inl rfl) ?_
  refine ps_vret rfl rfl ?_
  exact kk
/-- behind uses -/
def usI (k : Nat) (I : Nat → Nat → Int32) : Nat → Nat → Int32 := pm_u (pm_u (pm_u I 275 24 (nI k)) 275 25 0) 275 26 0
theorem usI_o {a j : Nat} (h : ¬ (a = 275 ∧ (j = 24 ∨ j = 25 ∨ j = 26))) : usI k I a j = I a j := (pu_x (by omega)).trans ((pu_x (by omega)).trans (pu_x (by omega)))
theorem usI_V (hP : mP1 k P I) (h01 : ∀ i, i < P.w * P.v → P.ho i = 0 ∨ P.ho i = 1) (hS : mSc 288 0 S I) (ok : S.ok) (on : okN S) : mV k P S 0 false (usI k I) := by
  obtain ⟨p1, p2⟩ := mP1_o (I' := usI k I) hP (fun a j z => usI_o (by omega))
  exact ⟨p1, p2, h01, mSc_f hS ok (fun j => usI_o (by omega)), ok, on, (pu_n (by decide)).trans ((pu_n (by decide)).trans pu_s), (pu_n (by decide)).trans pu_s, pu_s, by omega⟩
/-! what is found: the model's way -/
def fmR (P : sPl) (S : sS) : Nat → Nat → Int32
  | 0, i => shadF P S i
  | k + 1, i => if lostF P S i = 0 ∧ onF P (fnP P S k) i = 1 then fmR P S k i - fnC P S k else fmR P S k i
end TY
