/-! BY HAND: the model's camera, exactly, fourth: what is found, filled -/
section UA
variable {I I' I1 I2 J : Nat → Nat → Int32} {L : Nat → Nat → Int64} {s : Nat → Option Nat} {Q : List Value → pm_H → Prop} {ys : List Int32} {k sh : Nat} {ng : Bool} {P : sPl} {S : sS} {f g : Nat → Int32} {h : pm_H} {o : Nat}
theorem bn_f : ∀ b : Bool, (b != false) = b := by decide
theorem M_letsN {c pl : Nat} (hV : mV k P S 0 false I) (hc : c < 1000) (hp : pl < 1000) (kk : Q [.int (bI (decide (onF P pl c = 1)))] (I, L, g_R s, 306)) : pm_W (g_P ys) 243 0 [.ref 275, .int (nI (c % P.w) - nI (pl % P.w)), .int (nI (c / P.w) - nI (pl / P.w))] [] (I, L, g_R s, 306) (0, 0) Q := by
  have l1 : c % P.w ≤ c := Nat.mod_le _ _
  have l2 : c / P.w ≤ c := Nat.div_le_self _ _
  have l3 : pl % P.w ≤ pl := Nat.mod_le _ _
  have l4 : pl / P.w ≤ pl := Nat.div_le_self _ _
  have p1 : (0 : Int) ≤ ((c / P.w : Nat) : Int) := Int.natCast_nonneg _
  have p2 : (0 : Int) ≤ ((pl / P.w : Nat) : Int) := Int.natCast_nonneg _
  rw [show nI (c % P.w) - nI (pl % P.w) = iI (((c % P.w : Nat) : Int) - ((pl % P.w : Nat) : Int)) from by rw [← iI_nat, ← iI_nat, iI_sub], show nI (c / P.w) - nI (pl / P.w) = iI (((c / P.w : Nat) : Int) - ((pl / P.w : Nat) : Int)) from by rw [← iI_nat, ← iI_nat, iI_sub]]
  refine M_letsX hV (by omega) (by omega) ?_
  rw [bn_f, show ((c % P.w : Nat) : Int) - ((pl % P.w : Nat) : Int) - ((0 : Nat) : Int) = ((c % P.w : Nat) : Int) - ((pl % P.w : Nat) : Int) by omega]
  exact kk
/-- where finding writes -/
def mFd (I I' : Nat → Nat → Int32) : Prop := ∀ a j : Nat, ¬ (a = 297 ∨ a = 298 ∨ a = 300) → ¬ (a = 275 ∧ (j = 32 ∨ j = 33 ∨ j = 34 ∨ j = 36)) → I' a j = I a j
theorem mFd_c (h : mFd I I') : mCg I I' := fun a j z1 z2 => h a j (by unfold mRow at z1; omega) (by unfold mFld at z2; omega)
/-- what was found, as the model keeps it -/
def mFn (P : sPl) (S : sS) (n : Nat) (I : Nat → Nat → Int32) : Prop := ∀ i, i < n → I 300 (3 * i) = nI (fnP P S i % P.w) ∧ I 300 (3 * i + 1) = nI (fnP P S i / P.w) ∧ I 300 (3 * i + 2) = fnC P S i
theorem mSk_o (h : mSk I k P) (c : ∀ a j, (a = 294 ∨ a = 293 ∨ a = 291 ∨ a = 292) → I' a j = I a j) : mSk I' k P := ⟨(c _ _ (by omega)).trans h.1, (c _ _ (by omega)).trans h.2.1, fun z => ⟨(c _ _ (by omega)).trans (h.2.2 z).1, (c _ _ (by omega)).trans (h.2.2 z).2⟩⟩
theorem fn_lt (w0 : 0 < P.w) (v0 : 0 < P.v) (q : Nat) : fnP P S q < P.w * P.v := pgF_lt (Nat.mul_pos w0 v0)
theorem M_findsX (hV : mV k P S 0 false I) (cr : crP P) (hk : mSk I k P) (hL : mLd P S 0 false I) (kk : ∀ I', mFd I I' → I' 275 36 = nI (fdN P S) → mFn P S (fdN P S) I' → Q [] (I', L, g_R s, 306)) : pm_W (g_P ys) 260 0 [.ref 275, .retAddr 0, .retAddr 0] [] (I, L, g_R s, 306) (0, 0) Q := by
  obtain ⟨wb, vb, w0, v0, n9⟩ := mV_b hV
  have h01 := hV.2.2.1
  have on := hV.2.2.2.2.2.1
  have hSh : ∀ I L, pm_sh (g_P ys) (I, L, g_R s, 306) 297 = some (.inr (0, 289)) := fun _ _ => rfl
  have main : ∀ d q, q + d = 8 → fdN P S = fnD P S d q → ∀ I' (u1 u2 : Value), mFd I I' → I' 275 36 = nI q → mFn P S q I' → (∀ j, j < P.w * P.v → I' 297 j = fmR P S q j) → pm_W (g_P ys) 260 5 [.ref 275, u1, u2] [] (I', L, g_R s, 306) (0, 0) Q := by
    intro d
    induction d with
    | zero =>
      intro q hq hn I' u1 u2 g1 g2 g3 g4
      have hn : fdN P S = q := hn
      refine ps_aload rfl rfl ?_
      refine ps_gfi 11 36 rfl rfl rfl rfl rfl ?_
      rw [show ((I', L, g_R s, 306) : pm_H).1 275 36 = nI q from g2]
      refine pw_c rfl ?_
      refine ps_icmpt rfl (decide_eq_true (nI_le (a := 8) (by omega) (by omega))) ?_
      refine ps_vret rfl rfl ?_
      rw [hn] at kk
      exact kk I' g1 g2 g3
    | succ d ih =>
      intro q hq hn I' u1 u2 g1 g2 g3 g4
      have V1 : mV k P S 0 false I' := mV_o hV (mFd_c g1)
      refine ps_aload rfl rfl ?_
      refine ps_gfi 11 36 rfl rfl rfl rfl rfl ?_
      rw [show ((I', L, g_R s, 306) : pm_H).1 275 36 = nI q from g2]
      refine pw_c rfl ?_
      refine ps_icmpf rfl (decide_eq_false (nI_ge (b := 8) (by omega) (by omega))) ?_
      refine ps_aload rfl rfl ?_
      refine ps_aload rfl rfl ?_
      refine ps_gfr 11 29 rfl rfl rfl rfl rfl (rfl) ?_
      refine pw_k rfl rfl rfl rfl ⟨Nat.zero_le _, Nat.zero_le _⟩ ?_
      refine M_decodesX V1 hSh (by decide) g4 (fun I2 c2 d2 => ?_)
      have d2 : ∀ j, j < P.w * P.v → I2 298 j = decF P (fmR P S q) j := d2
      have V2 : mV k P S 0 false I2 := mV_o V1 (mCg_r (fun a j z => c2 a j (fun e => z (by unfold mRow; omega))))
      refine ps_aload rfl rfl ?_
      refine ps_aload rfl rfl ?_
      refine pw_k rfl rfl rfl rfl ⟨Nat.zero_le _, Nat.zero_le _⟩ ?_
      refine M_laysMostX V2 d2 (fun I3 c3 x3 y3 _ => ?_)
      have V3 : mV k P S 0 false I3 := mV_o V2 (fun a j z1 z2 => c3 a j (fun e => z2 ⟨e.1, by unfold mFld; omega⟩))
      have s3 : ∀ j, j < P.w * P.v → I3 297 j = fmR P S q j := fun j hj => (c3 _ _ (by omega)).trans ((c2 _ _ (by omega)).trans (g4 j hj))
      have l3 : ∀ j, j < P.w * P.v → I3 295 j = lostF P S j := fun j hj => (c3 _ _ (by omega)).trans ((c2 _ _ (by omega)).trans ((g1 _ _ (by omega) (by omega)).trans (hL j hj).1))
      have k3 : mSk I3 k P := mSk_o hk (fun a j z => (c3 _ _ (by omega)).trans ((c2 _ _ (by omega)).trans (g1 _ _ (by omega) (by omega))))
      rw [← fnP_m h01 w0 v0 q] at x3 y3 ⊢
      refine pw_k rfl rfl rfl rfl ⟨Nat.zero_le _, Nat.zero_le _⟩ ?_
      refine M_restoredFromX V3 cr k3 s3 l3 lost_01 _ ?_
      rw [← fnC_m h01 w0 v0 q]
      have pl := fn_lt (P := P) (S := S) w0 v0 q
      have f3 : I3 275 36 = nI q := (c3 _ _ (by decide)).trans ((c2 _ _ (by decide)).trans g2)
      have fd3 : mFd I I3 := fun a j z1 z2 => (c3 a j (by omega)).trans ((c2 a j (by omega)).trans (g1 a j z1 z2))
      by_cases c0 : 0 < (fnC P S q).toInt
      · have hn : fdN P S = fnD P S d (q + 1) := by rw [hn, fnD, if_neg (by omega)]
        refine ps_istore rfl rfl ?_
        refine ps_iload rfl rfl ?_
        refine ps_ift rfl (decide_eq_true ((i_lt _ _).mpr c0)) ?_
        refine ps_aload rfl rfl ?_
        refine ps_gfr 11 35 rfl rfl rfl rfl rfl (rfl) ?_
        refine pw_c rfl ?_
        refine ps_aload rfl rfl ?_
        refine ps_gfi 11 36 rfl rfl rfl rfl rfl ?_
        rw [show ((I3, L, g_R s, 306) : pm_H).1 275 36 = nI q from f3]
        refine ps_ar rfl rfl rfl rfl rfl ?_
        refine ps_aload rfl rfl ?_
        refine ps_gfi 11 32 rfl rfl rfl rfl rfl ?_
        rw [show ((I3, L, g_R s, 306) : pm_H).1 275 32 = nI (fnP P S q % P.w) from x3]
        refine ps_iast (3 * q) rfl rfl rfl (by simp only [ni_lit, ni_l0, pk_mul, nI_add, Nat.add_zero]) (by omega) ?_
        refine ps_aload rfl rfl ?_
        refine ps_gfr 11 35 rfl rfl rfl rfl rfl (rfl) ?_
        refine pw_c rfl ?_
        refine ps_aload rfl rfl ?_
        refine ps_gfi 11 36 rfl rfl rfl rfl rfl ?_
        rw [show (((pm_u I3 300 (3 * q) (nI (fnP P S q % P.w))), L, g_R s, 306) : pm_H).1 275 36 = nI q from (show (pm_u I3 300 (3 * q) (nI (fnP P S q % P.w))) 275 36 = nI q from (pu_o (by decide)).trans f3)]
        refine ps_ar rfl rfl rfl rfl rfl ?_
        refine pw_c rfl ?_
        refine ps_ar rfl rfl rfl rfl rfl ?_
        refine ps_aload rfl rfl ?_
        refine ps_gfi 11 33 rfl rfl rfl rfl rfl ?_
        rw [show (((pm_u I3 300 (3 * q) (nI (fnP P S q % P.w))), L, g_R s, 306) : pm_H).1 275 33 = nI (fnP P S q / P.w) from (show (pm_u I3 300 (3 * q) (nI (fnP P S q % P.w))) 275 33 = nI (fnP P S q / P.w) from (pu_o (by decide)).trans y3)]
        refine ps_iast (3 * q + 1) rfl rfl rfl (by simp only [ni_lit, ni_l0, pk_mul, nI_add, Nat.add_zero]) (by omega) ?_
        refine ps_aload rfl rfl ?_
        refine ps_gfr 11 35 rfl rfl rfl rfl rfl (rfl) ?_
        refine pw_c rfl ?_
        refine ps_aload rfl rfl ?_
        refine ps_gfi 11 36 rfl rfl rfl rfl rfl ?_
        rw [show (((pm_u (pm_u I3 300 (3 * q) (nI (fnP P S q % P.w))) 300 (3 * q + 1) (nI (fnP P S q / P.w))), L, g_R s, 306) : pm_H).1 275 36 = nI q from (show (pm_u (pm_u I3 300 (3 * q) (nI (fnP P S q % P.w))) 300 (3 * q + 1) (nI (fnP P S q / P.w))) 275 36 = nI q from (pu_o (by decide)).trans ((pu_o (by decide)).trans f3))]
        refine ps_ar rfl rfl rfl rfl rfl ?_
        refine pw_c rfl ?_
        refine ps_ar rfl rfl rfl rfl rfl ?_
        refine ps_iload rfl rfl ?_
        refine ps_iast (3 * q + 2) rfl rfl rfl (by simp only [ni_lit, ni_l0, pk_mul, nI_add, Nat.add_zero]) (by omega) ?_
        obtain ⟨X, hX⟩ : ∃ X, X = pm_u (pm_u (pm_u I3 300 (3 * q) (nI (fnP P S q % P.w))) 300 (3 * q + 1) (nI (fnP P S q / P.w))) 300 (3 * q + 2) (fnC P S q) := ⟨_, rfl⟩
        have xo : ∀ a j, ¬ (a = 300 ∧ 3 * q ≤ j) → X a j = I3 a j := fun a j z => by
          rw [hX]
          exact (pu_x (by omega)).trans ((pu_x (by omega)).trans (pu_x (by omega)))
        have xn : mFn P S (q + 1) X := fun i hi => by
          by_cases e : i = q
          · rw [e, hX]
            exact ⟨(pu_n (by omega)).trans ((pu_n (by omega)).trans pu_s), (pu_n (by omega)).trans pu_s, pu_s⟩
          · obtain ⟨z1, z2, z3⟩ := g3 i (by omega)
            have t : ∀ j, j < 3 * q → X 300 j = I' 300 j := fun j hj => (xo _ _ (by omega)).trans ((c3 _ _ (by omega)).trans (c2 _ _ (by omega)))
            exact ⟨(t _ (by omega)).trans z1, (t _ (by omega)).trans z2, (t _ (by omega)).trans z3⟩
        show pm_W _ _ _ _ _ (pm_u (pm_u (pm_u I3 300 (3 * q) (nI (fnP P S q % P.w))) 300 (3 * q + 1) (nI (fnP P S q / P.w))) 300 (3 * q + 2) (fnC P S q), L, g_R s, 306) _ _
        rw [← hX]
        refine ps_aload rfl rfl ?_
        refine ps_ar rfl rfl rfl rfl rfl ?_
        refine ps_gfi 11 36 rfl rfl rfl rfl rfl ?_
        rw [show ((X, L, g_R s, 306) : pm_H).1 275 36 = nI q from (xo _ _ (by omega)).trans f3]
        refine pw_c rfl ?_
        refine ps_ar rfl rfl rfl rfl rfl ?_
        rw [show nI q + (1 : Int32) = nI (q + 1) from nI_1 q]
        refine ps_pfi 11 36 rfl rfl rfl rfl rfl ?_
        refine pw_c rfl ?_
        refine ps_istore rfl rfl ?_
        obtain ⟨Y, hY⟩ : ∃ Y, Y = pm_u X 275 36 (nI (q + 1)) := ⟨_, rfl⟩
        have yo : ∀ a j, ¬ (a = 275 ∧ j = 36) → Y a j = X a j := fun a j z => by
          rw [hY]
          exact pu_x z
        have yn : Y 275 36 = nI (q + 1) := by
          rw [hY]
          exact pu_s
        show pm_W _ _ _ _ _ (pm_u X 275 36 (nI (q + 1)), L, g_R s, 306) _ _
        rw [← hY]
        have y3' : ∀ a j, ¬ a = 300 → ¬ (a = 275 ∧ j = 36) → Y a j = I3 a j := fun a j z1 z2 => (yo a j z2).trans (xo a j (fun e => z1 e.1))
        have fdY : mFd I Y := fun a j z1 z2 => (y3' a j (by omega) (by omega)).trans (fd3 a j z1 z2)
        have inner : ∀ e c, c + e = P.w * P.v → ∀ I5 : Nat → Nat → Int32, (∀ a j, ¬ a = 297 → I5 a j = Y a j) → (∀ j, j < P.w * P.v → I5 297 j = if j < c then fmR P S (q + 1) j else fmR P S q j) → pm_W (g_P ys) 260 94 [.ref 275, .int (fnC P S q), .int (nI c)] [] (I5, L, g_R s, 306) (0, 0) Q := by
          intro e
          induction e with
          | zero =>
            intro c hc I5 o5 s5
            have V5 : mV k P S 0 false I5 := mV_o hV (fun a j z1 z2 => (o5 a j (fun e => z1 (by unfold mRow; omega))).trans (mFd_c fdY a j z1 z2))
            refine ps_iload rfl rfl ?_
            refine ps_aload rfl rfl ?_
            refine pw_k rfl rfl rfl rfl ⟨Nat.zero_le _, Nat.zero_le _⟩ ?_
            refine M_cells0X V5 ?_
            refine ps_icmpt rfl (decide_eq_true (nI_le (by omega) (by omega))) ?_
            refine ps_goto rfl ?_
            exact ih (q + 1) (by omega) hn I5 _ _ (fun a j z1 z2 => (o5 a j (by omega)).trans (fdY a j z1 z2)) ((o5 _ _ (by decide)).trans yn) (fun i hi => by
              obtain ⟨z1, z2, z3⟩ := xn i hi
              have t : ∀ j, I5 300 j = X 300 j := fun j => (o5 _ _ (by decide)).trans (yo _ _ (by omega))
              exact ⟨(t _).trans z1, (t _).trans z2, (t _).trans z3⟩) (fun j hj => by rw [s5 j hj, if_pos (by omega)])
          | succ e ihe =>
            intro c hc I5 o5 s5
            have V5 : mV k P S 0 false I5 := mV_o hV (fun a j z1 z2 => (o5 a j (fun e => z1 (by unfold mRow; omega))).trans (mFd_c fdY a j z1 z2))
            have lo : I5 295 c = lostF P S c := (o5 _ _ (by decide)).trans ((y3' _ _ (by decide) (by omega)).trans (l3 c (by omega)))
            have mx : I5 275 32 = nI (fnP P S q % P.w) := (o5 _ _ (by decide)).trans ((y3' _ _ (by decide) (by decide)).trans x3)
            have my : I5 275 33 = nI (fnP P S q / P.w) := (o5 _ _ (by decide)).trans ((y3' _ _ (by decide) (by decide)).trans y3)
            have skip : fmR P S (q + 1) c = fmR P S q c → pm_W (g_P ys) 260 150 [.ref 275, .int (fnC P S q), .int (nI c)] [] (I5, L, g_R s, 306) (0, 0) Q := by
              intro z
              refine ps_iinc rfl rfl ?_
              refine ps_goto rfl ?_
              rw [show nI c + Int32.ofInt 1 = nI (c + 1) from nI_1 c]
              refine ihe (c + 1) (by omega) I5 o5 (fun j hj => ?_)
              rw [s5 j hj]
              by_cases e1 : j = c
              · rw [e1, if_neg (by omega), if_pos (by omega), z]
              · by_cases e2 : j < c
                · rw [if_pos e2, if_pos (by omega)]
                · rw [if_neg e2, if_neg (by omega)]
            refine ps_iload rfl rfl ?_
            refine ps_aload rfl rfl ?_
            refine pw_k rfl rfl rfl rfl ⟨Nat.zero_le _, Nat.zero_le _⟩ ?_
            refine M_cells0X V5 ?_
            refine ps_icmpf rfl (decide_eq_false (nI_ge (by omega) (by omega))) ?_
            refine ps_aload rfl rfl ?_
            refine ps_gfr 11 27 rfl rfl rfl rfl rfl (rfl) ?_
            refine ps_iload rfl rfl ?_
            refine ps_bald (c) rfl rfl (Or.inr rfl) rfl (rfl) (by omega) ?_
            rw [show ((I5, L, g_R s, 306) : pm_H).1 295 c = lostF P S c from lo]
            rcases lost_01 (P := P) (S := S) c with l0 | l1
            · rw [l0]
              refine ps_iff rfl (by decide) ?_
              refine ps_aload rfl rfl ?_
              refine ps_iload rfl rfl ?_
              refine ps_aload rfl rfl ?_
              refine pw_k rfl rfl rfl rfl ⟨Nat.zero_le _, Nat.zero_le _⟩ ?_
              refine M_wideX V5 ?_
              refine ps_rem rfl (nI_nz w0 (by omega)) ?_
              rw [nI_rem (by omega) w0 (by omega)]
              refine ps_aload rfl rfl ?_
              refine ps_gfi 11 32 rfl rfl rfl rfl rfl ?_
              rw [show ((I5, L, g_R s, 306) : pm_H).1 275 32 = nI (fnP P S q % P.w) from mx]
              refine ps_ar rfl rfl rfl rfl rfl ?_
              refine ps_iload rfl rfl ?_
              refine ps_aload rfl rfl ?_
              refine pw_k rfl rfl rfl rfl ⟨Nat.zero_le _, Nat.zero_le _⟩ ?_
              refine M_wideX V5 ?_
              refine ps_div rfl (nI_nz w0 (by omega)) ?_
              rw [nI_div (by omega) (by omega)]
              refine ps_aload rfl rfl ?_
              refine ps_gfi 11 33 rfl rfl rfl rfl rfl ?_
              rw [show ((I5, L, g_R s, 306) : pm_H).1 275 33 = nI (fnP P S q / P.w) from my]
              refine ps_ar rfl rfl rfl rfl rfl ?_
              refine pw_k rfl rfl rfl rfl ⟨Nat.zero_le _, Nat.zero_le _⟩ ?_
              refine M_letsN V5 (by omega) (by omega) ?_
              by_cases o1 : onF P (fnP P S q) c = 1
              · have fe : fmR P S (q + 1) c = fmR P S q c - fnC P S q := by rw [fmR, if_pos ⟨l0, o1⟩]
                rw [decide_eq_true o1]
                refine ps_iff rfl (by decide) ?_
                refine ps_aload rfl rfl ?_
                refine ps_gfr 11 29 rfl rfl rfl rfl rfl (rfl) ?_
                refine ps_iload rfl rfl ?_
                refine ps_ar rfl rfl rfl rfl rfl ?_
                refine ps_iald (c) rfl rfl rfl (rfl) (by omega) ?_
                rw [show ((I5, L, g_R s, 306) : pm_H).1 297 c = fmR P S q c from by
                  have z := s5 c (by omega)
                  rw [if_neg (by omega)] at z
                  exact z]
                refine ps_iload rfl rfl ?_
                refine ps_ar rfl rfl rfl rfl rfl ?_
                refine ps_iast (c) rfl rfl rfl (rfl) (by omega) ?_
                refine ps_iinc rfl rfl ?_
                refine ps_goto rfl ?_
                rw [show nI c + Int32.ofInt 1 = nI (c + 1) from nI_1 c]
                refine ihe (c + 1) (by omega) _ (fun a j z => (pu_o z).trans (o5 a j z)) (fun j hj => ?_)
                show pm_u I5 297 c (fmR P S q c - fnC P S q) 297 j = _
                by_cases e1 : j = c
                · rw [e1, pu_s, if_pos (by omega), fe]
                · rw [pu_n e1, s5 j hj]
                  by_cases e2 : j < c
                  · rw [if_pos e2, if_pos (by omega)]
                  · rw [if_neg e2, if_neg (by omega)]
              · rw [decide_eq_false o1]
                refine ps_ift rfl (by decide) ?_
                exact skip (by rw [fmR, if_neg (fun z => o1 z.2)])
            · rw [l1]
              refine ps_ift rfl (by decide) ?_
              exact skip (by rw [fmR, if_neg (fun z => by rw [l1] at z; exact absurd z.1 (by decide))])
        exact inner (P.w * P.v) 0 (by omega) Y (fun _ _ _ => rfl) (fun j hj => by rw [if_neg (by omega)]; exact (y3' _ _ (by decide) (by omega)).trans (s3 j hj))
      · have hn : fdN P S = q := by rw [hn, fnD, if_pos (by omega)]
        refine ps_istore rfl rfl ?_
        refine ps_iload rfl rfl ?_
        refine ps_iff rfl (decide_eq_false (fun z => c0 ((i_lt _ _).mp z))) ?_
        refine ps_vret rfl rfl ?_
        rw [hn] at kk
        exact kk I3 fd3 f3 (fun i hi => by
          obtain ⟨z1, z2, z3⟩ := g3 i hi
          have t : ∀ j, I3 300 j = I' 300 j := fun j => (c3 _ _ (by omega)).trans (c2 _ _ (by omega))
          exact ⟨(t _).trans z1, (t _).trans z2, (t _).trans z3⟩)
  refine ps_aload rfl rfl ?_
  refine pw_c rfl ?_
  refine ps_pfi 11 36 rfl rfl rfl rfl rfl ?_
  exact main 8 0 (by omega) rfl _ _ _ (fun a j _ z2 => pu_x (by omega)) pu_s (fun i hi => absurd hi (by omega)) (fun j hj => (pu_o (by decide)).trans ((hL j hj).2.2.trans (shMM_0 h01 on w0 v0 hj)))
/-- where filling writes -/
def mFl (I I' : Nat → Nat → Int32) : Prop := ∀ a j : Nat, ¬ (a = 295 ∨ a = 296 ∨ a = 297 ∨ a = 298 ∨ a = 300) → ¬ (a = 275 ∧ (j = 32 ∨ j = 33 ∨ j = 34 ∨ j = 36)) → I' a j = I a j
theorem mFl_c (h : mFl I I') : mCg I I' := fun a j z1 z2 => h a j (by unfold mRow at z1; omega) (by unfold mFld at z2; omega)
theorem tb_sm {i q : Nat} : S.bk + suI (tbG P S i) (q + 1) = S.bk + suI (tbG P S i) q + fnC P S q * onF P (fnP P S q) i := by
  rw [suI_s, Int32.add_assoc]
  rfl
theorem M_fillsX (hV : mV k P S 0 false I) (cr : crP P) (hk : mSk I k P) (hL : mLd P S 0 false I) (kk : ∀ I', mFl I I' → (∀ i, i < P.w * P.v → I' 297 i = filF P S i) → (∀ i, i < P.w * P.v → I' 295 i = 0) → Q [.int (ffF P S (filF P S) (P.w * P.v))] (I', L, g_R s, 306)) : pm_W (g_P ys) 263 0 [.ref 275, .retAddr 0, .retAddr 0, .retAddr 0, .retAddr 0] [] (I, L, g_R s, 306) (0, 0) Q := by
  obtain ⟨wb, vb, w0, v0, n9⟩ := mV_b hV
  have h01 := hV.2.2.1
  have on := hV.2.2.2.2.2.1
  have f8 := fdN_le (P := P) (S := S)
  refine ps_aload rfl rfl ?_
  refine pw_k rfl rfl rfl rfl ⟨Nat.zero_le _, Nat.zero_le _⟩ ?_
  refine M_findsX hV cr hk hL (fun I1 c1 n1 r1 => ?_)
  have V1 : mV k P S 0 false I1 := mV_o hV (mFd_c c1)
  refine ps_aload rfl rfl ?_
  refine pw_k rfl rfl rfl rfl ⟨Nat.zero_le _, Nat.zero_le _⟩ ?_
  refine M_laysShadowsX V1 (fun I2 c2 L2 => ?_)
  have n2 : I2 275 36 = nI (fdN P S) := (c2 _ _ (by decide) (by decide) (by decide)).trans n1
  have r2 : mFn P S (fdN P S) I2 := fun i hi => by
    obtain ⟨z1, z2, z3⟩ := r1 i hi
    exact ⟨(c2 _ _ (by decide) (by decide) (by decide)).trans z1, (c2 _ _ (by decide) (by decide) (by decide)).trans z2, (c2 _ _ (by decide) (by decide) (by decide)).trans z3⟩
  have fl2 : mFl I I2 := fun a j z1 z2 => (c2 a j (by omega) (by omega) (by omega)).trans (c1 a j (by omega) z2)
  have V2 : mV k P S 0 false I2 := mV_o hV (mFl_c fl2)
  have main : ∀ d c, c + d = P.w * P.v → ∀ I' (u3 u4 : Value), (∀ a j, ¬ a = 297 → ¬ a = 295 → I' a j = I2 a j) → (∀ j, j < P.w * P.v → I' 297 j = if j < c then filF P S j else shadF P S j) → (∀ j, j < P.w * P.v → I' 295 j = if j < c then 0 else lostF P S j) → pm_W (g_P ys) 263 12 [.ref 275, .int (ffF P S (filF P S) c), .int (nI c), u3, u4] [] (I', L, g_R s, 306) (0, 0) Q := by
    intro d
    induction d with
    | zero =>
      intro c hc I' u3 u4 g1 g2 g3
      have ec : c = P.w * P.v := by omega
      subst ec
      have V' : mV k P S 0 false I' := mV_o V2 (mCg_r (fun a j z => g1 a j (fun e => z (by unfold mRow; omega)) (fun e => z (by unfold mRow; omega))))
      refine ps_iload rfl rfl ?_
      refine ps_aload rfl rfl ?_
      refine pw_k rfl rfl rfl rfl ⟨Nat.zero_le _, Nat.zero_le _⟩ ?_
      refine M_cells0X V' ?_
      refine ps_icmpt rfl (decide_eq_true (nI_le (by omega) (by omega))) ?_
      refine ps_iload rfl rfl ?_
      refine ps_iret rfl rfl ?_
      exact kk I' (fun a j z1 z2 => (g1 a j (by omega) (by omega)).trans (fl2 a j z1 z2)) (fun i hi => by rw [g2 i hi, if_pos hi]) (fun i hi => by rw [g3 i hi, if_pos hi])
    | succ d ih =>
      intro c hc I' u3 u4 g1 g2 g3
      have V' : mV k P S 0 false I' := mV_o V2 (mCg_r (fun a j z => g1 a j (fun e => z (by unfold mRow; omega)) (fun e => z (by unfold mRow; omega))))
      have lo : I' 295 c = lostF P S c := by rw [g3 c (by omega), if_neg (by omega)]
      refine ps_iload rfl rfl ?_
      refine ps_aload rfl rfl ?_
      refine pw_k rfl rfl rfl rfl ⟨Nat.zero_le _, Nat.zero_le _⟩ ?_
      refine M_cells0X V' ?_
      refine ps_icmpf rfl (decide_eq_false (nI_ge (by omega) (by omega))) ?_
      refine ps_aload rfl rfl ?_
      refine ps_gfr 11 27 rfl rfl rfl rfl rfl (rfl) ?_
      refine ps_iload rfl rfl ?_
      refine ps_bald (c) rfl rfl (Or.inr rfl) rfl (rfl) (by omega) ?_
      rw [show ((I', L, g_R s, 306) : pm_H).1 295 c = lostF P S c from lo]
      rcases lost_01 (P := P) (S := S) c with l0 | l1
      · have nl : ¬ lostF P S c = 1 := by rw [l0]; decide
        have ef : filF P S c = shadF P S c := by unfold filF; rw [if_neg nl]
        have em : ffF P S (filF P S) (c + 1) = ffF P S (filF P S) c := by rw [ffF, if_neg nl]
        rw [l0]
        refine ps_iff rfl (by decide) ?_
        refine ps_goto rfl ?_
        refine ps_iinc rfl rfl ?_
        refine ps_goto rfl ?_
        rw [show nI c + Int32.ofInt 1 = nI (c + 1) from nI_1 c]
        have z := ih (c + 1) (by omega) I' u3 u4 g1 (fun j hj => by
          rw [g2 j hj]
          by_cases e1 : j = c
          · rw [e1, if_neg (by omega), if_pos (by omega), ef]
          · by_cases e2 : j < c
            · rw [if_pos e2, if_pos (by omega)]
            · rw [if_neg e2, if_neg (by omega)]) (fun j hj => by
          rw [g3 j hj]
          by_cases e1 : j = c
          · rw [e1, if_neg (by omega), if_pos (by omega), l0]
          · by_cases e2 : j < c
            · rw [if_pos e2, if_pos (by omega)]
            · rw [if_neg e2, if_neg (by omega)])
        rw [em] at z
        exact z
      · have ef : filF P S c = S.bk + suI (tbG P S c) (fdN P S) := by unfold filF tbF; rw [if_pos l1]
        rw [l1]
        refine ps_ift rfl (by decide) ?_
        refine ps_aload rfl rfl ?_
        refine ps_gfr 11 16 rfl rfl rfl rfl rfl (rfl) ?_
        refine pw_c rfl ?_
        refine ps_iald (3) rfl rfl rfl (rfl) (by omega) ?_
        rw [show ((I', L, g_R s, 306) : pm_H).1 288 3 = S.bk from V'.2.2.2.1.2.1]
        have nm : I' 275 36 = nI (fdN P S) := (g1 _ _ (by decide) (by decide)).trans n2
        have inner : ∀ e q, q + e = fdN P S → pm_W (g_P ys) 263 42 [.ref 275, .int (ffF P S (filF P S) c), .int (nI c), .int (S.bk + suI (tbG P S c) q), .int (nI q)] [] (I', L, g_R s, 306) (0, 0) Q := by
          intro e
          induction e with
          | zero =>
            intro q hq
            have eq : q = fdN P S := by omega
            subst eq
            rw [← ef]
            refine ps_iload rfl rfl ?_
            refine ps_aload rfl rfl ?_
            refine ps_gfi 11 36 rfl rfl rfl rfl rfl ?_
            rw [show ((I', L, g_R s, 306) : pm_H).1 275 36 = nI (fdN P S) from nm]
            refine ps_icmpt rfl (decide_eq_true (nI_le (by omega) (by omega))) ?_
            refine ps_aload rfl rfl ?_
            refine ps_gfr 11 29 rfl rfl rfl rfl rfl (rfl) ?_
            refine ps_iload rfl rfl ?_
            refine ps_iload rfl rfl ?_
            refine ps_iast (c) rfl rfl rfl (rfl) (by omega) ?_
            refine ps_aload rfl rfl ?_
            refine ps_gfr 11 27 rfl rfl rfl rfl rfl (rfl) ?_
            refine ps_iload rfl rfl ?_
            refine pw_c rfl ?_
            refine ps_zast (c) rfl rfl rfl (rfl) (by omega) ?_
            show pm_W _ _ _ _ _ (pm_u (pm_u I' 297 c (filF P S c)) 295 c 0, L, g_R s, 306) _ _
            refine ps_iload rfl rfl ?_
            refine ps_aload rfl rfl ?_
            refine ps_gfr 11 28 rfl rfl rfl rfl rfl (rfl) ?_
            refine ps_iload rfl rfl ?_
            refine ps_iald (c) rfl rfl rfl (rfl) (by omega) ?_
            rw [show (((pm_u (pm_u I' 297 c (filF P S c)) 295 c 0), L, g_R s, 306) : pm_H).1 296 c = wholF P S 0 c from (show (pm_u (pm_u I' 297 c (filF P S c)) 295 c 0) 296 c = wholF P S 0 c from (pu_o (by decide)).trans ((pu_o (by decide)).trans ((g1 _ _ (by decide) (by decide)).trans ((L2 c (by omega)).2.1.trans (whM_0 h01 on w0 v0 (by omega))))))]
            have nx : ∀ (m x : Int32), m = ffF P S (filF P S) (c + 1) → pm_W (g_P ys) 263 165 [.ref 275, .int (ffF P S (filF P S) c), .int (nI c), .int (filF P S c), .int x] [.int m] (pm_u (pm_u I' 297 c (filF P S c)) 295 c 0, L, g_R s, 306) (0, 0) Q := by
              intro m x hm
              subst hm
              refine ps_istore rfl rfl ?_
              refine ps_iinc rfl rfl ?_
              refine ps_goto rfl ?_
              rw [show nI c + Int32.ofInt 1 = nI (c + 1) from nI_1 c]
              refine ih (c + 1) (by omega) _ _ _ (fun a j z1 z2 => (pu_o z2).trans ((pu_o z1).trans (g1 a j z1 z2))) (fun j hj => ?_) (fun j hj => ?_)
              · refine (pu_o (by decide)).trans ?_
                by_cases e1 : j = c
                · rw [e1, pu_s, if_pos (by omega)]
                · rw [pu_n e1, g2 j hj]
                  by_cases e2 : j < c
                  · rw [if_pos e2, if_pos (by omega)]
                  · rw [if_neg e2, if_neg (by omega)]
              · by_cases e1 : j = c
                · rw [e1, pu_s, if_pos (by omega)]
                · rw [pu_n e1, pu_o (by decide), g3 j hj]
                  by_cases e2 : j < c
                  · rw [if_pos e2, if_pos (by omega)]
                  · rw [if_neg e2, if_neg (by omega)]
            have em : ffF P S (filF P S) (c + 1) = if ffF P S (filF P S) c < absI (filF P S c - wholF P S 0 c) then absI (filF P S c - wholF P S 0 c) else ffF P S (filF P S) c := by rw [ffF, if_pos l1]
            rw [← fx_m (ffF_nn c)] at em
            refine ps_ar rfl rfl rfl rfl rfl ?_
            refine ps_istore rfl rfl ?_
            generalize filF P S c - wholF P S 0 c = x at em ⊢
            by_cases b1 : ffF P S (filF P S) c < x
            · rw [if_pos b1] at em
              refine ps_iload rfl rfl ?_
              refine ps_iload rfl rfl ?_
              refine ps_icmpf rfl (decide_eq_false (fun z => by have z := (i_le _ _).mp z; have y := (i_lt _ _).mp b1; omega)) ?_
              refine ps_iload rfl rfl ?_
              refine ps_goto rfl ?_
              exact nx _ _ em.symm
            · rw [if_neg b1] at em
              by_cases b2 : ffF P S (filF P S) c < -x
              · rw [if_pos b2] at em
                refine ps_iload rfl rfl ?_
                refine ps_iload rfl rfl ?_
                refine ps_icmpt rfl (decide_eq_true ((i_le _ _).mpr (by have : ¬ (ffF P S (filF P S) c).toInt < x.toInt := fun q => b1 ((i_lt _ _).mpr q); omega))) ?_
                refine ps_iload rfl rfl ?_
                refine ps_ar rfl rfl rfl rfl rfl ?_
                refine ps_iload rfl rfl ?_
                refine ps_icmpf rfl (decide_eq_false (fun z => by have z := (i_le _ _).mp z; have y := (i_lt _ _).mp b2; omega)) ?_
                refine ps_iload rfl rfl ?_
                refine ps_ar rfl rfl rfl rfl rfl ?_
                refine ps_goto rfl ?_
                exact nx _ _ em.symm
              · rw [if_neg b2] at em
                refine ps_iload rfl rfl ?_
                refine ps_iload rfl rfl ?_
                refine ps_icmpt rfl (decide_eq_true ((i_le _ _).mpr (by have : ¬ (ffF P S (filF P S) c).toInt < x.toInt := fun q => b1 ((i_lt _ _).mpr q); omega))) ?_
                refine ps_iload rfl rfl ?_
                refine ps_ar rfl rfl rfl rfl rfl ?_
                refine ps_iload rfl rfl ?_
                refine ps_icmpt rfl (decide_eq_true ((i_le _ _).mpr (by have : ¬ (ffF P S (filF P S) c).toInt < (-x).toInt := fun q => b2 ((i_lt _ _).mpr q); omega))) ?_
                refine ps_iload rfl rfl ?_
                exact nx _ _ em.symm
          | succ e ihe =>
            intro q hq
            have pl := fn_lt (P := P) (S := S) w0 v0 q
            obtain ⟨z1, z2, z3⟩ := r2 q (by omega)
            have fr : ∀ j, I' 300 j = I2 300 j := fun j => g1 _ _ (by decide) (by decide)
            have nx := ihe (q + 1) (by omega)
            rw [tb_sm] at nx
            refine ps_iload rfl rfl ?_
            refine ps_aload rfl rfl ?_
            refine ps_gfi 11 36 rfl rfl rfl rfl rfl ?_
            rw [show ((I', L, g_R s, 306) : pm_H).1 275 36 = nI (fdN P S) from nm]
            refine ps_icmpf rfl (decide_eq_false (nI_ge (by omega) (by omega))) ?_
            refine ps_iload rfl rfl ?_
            refine ps_aload rfl rfl ?_
            refine ps_iload rfl rfl ?_
            refine ps_aload rfl rfl ?_
            refine pw_k rfl rfl rfl rfl ⟨Nat.zero_le _, Nat.zero_le _⟩ ?_
            refine M_wideX V' ?_
            refine ps_rem rfl (nI_nz w0 (by omega)) ?_
            rw [nI_rem (by omega) w0 (by omega)]
            refine ps_aload rfl rfl ?_
            refine ps_gfr 11 35 rfl rfl rfl rfl rfl (rfl) ?_
            refine pw_c rfl ?_
            refine ps_iload rfl rfl ?_
            refine ps_ar rfl rfl rfl rfl rfl ?_
            refine ps_iald (3 * q) rfl rfl rfl (by simp only [ni_lit, ni_l0, pk_mul, nI_add, Nat.add_zero]) (by omega) ?_
            rw [show ((I', L, g_R s, 306) : pm_H).1 300 (3 * q) = nI (fnP P S q % P.w) from (fr _).trans z1]
            refine ps_ar rfl rfl rfl rfl rfl ?_
            refine ps_iload rfl rfl ?_
            refine ps_aload rfl rfl ?_
            refine pw_k rfl rfl rfl rfl ⟨Nat.zero_le _, Nat.zero_le _⟩ ?_
            refine M_wideX V' ?_
            refine ps_div rfl (nI_nz w0 (by omega)) ?_
            rw [nI_div (by omega) (by omega)]
            refine ps_aload rfl rfl ?_
            refine ps_gfr 11 35 rfl rfl rfl rfl rfl (rfl) ?_
            refine pw_c rfl ?_
            refine ps_iload rfl rfl ?_
            refine ps_ar rfl rfl rfl rfl rfl ?_
            refine pw_c rfl ?_
            refine ps_ar rfl rfl rfl rfl rfl ?_
            refine ps_iald (3 * q + 1) rfl rfl rfl (by simp only [ni_lit, ni_l0, pk_mul, nI_add, Nat.add_zero]) (by omega) ?_
            rw [show ((I', L, g_R s, 306) : pm_H).1 300 (3 * q + 1) = nI (fnP P S q / P.w) from (fr _).trans z2]
            refine ps_ar rfl rfl rfl rfl rfl ?_
            refine pw_k rfl rfl rfl rfl ⟨Nat.zero_le _, Nat.zero_le _⟩ ?_
            refine M_letsN V' (by omega) (by omega) ?_
            rcases on_01 (pl := fnP P S q) h01 w0 v0 c with o0 | o1
            · rw [o0, Int32.mul_zero] at nx
              rw [o0]
              refine ps_ift rfl (by decide) ?_
              refine pw_c rfl ?_
              refine ps_ar rfl rfl rfl rfl rfl ?_
              refine ps_istore rfl rfl ?_
              refine ps_iinc rfl rfl ?_
              refine ps_goto rfl ?_
              rw [show nI q + Int32.ofInt 1 = nI (q + 1) from nI_1 q]
              exact nx
            · rw [o1, Int32.mul_one] at nx
              rw [o1]
              refine ps_iff rfl (by decide) ?_
              refine ps_aload rfl rfl ?_
              refine ps_gfr 11 35 rfl rfl rfl rfl rfl (rfl) ?_
              refine pw_c rfl ?_
              refine ps_iload rfl rfl ?_
              refine ps_ar rfl rfl rfl rfl rfl ?_
              refine pw_c rfl ?_
              refine ps_ar rfl rfl rfl rfl rfl ?_
              refine ps_iald (3 * q + 2) rfl rfl rfl (by simp only [ni_lit, ni_l0, pk_mul, nI_add, Nat.add_zero]) (by omega) ?_
              rw [show ((I', L, g_R s, 306) : pm_H).1 300 (3 * q + 2) = fnC P S q from (fr _).trans z3]
              refine ps_goto rfl ?_
              refine ps_ar rfl rfl rfl rfl rfl ?_
              refine ps_istore rfl rfl ?_
              refine ps_iinc rfl rfl ?_
              refine ps_goto rfl ?_
              rw [show nI q + Int32.ofInt 1 = nI (q + 1) from nI_1 q]
              exact nx
        refine ps_istore rfl rfl ?_
        refine pw_c rfl ?_
        refine ps_istore rfl rfl ?_
        have z := inner (fdN P S) 0 (by omega)
        rw [show S.bk + suI (tbG P S c) 0 = S.bk from Int32.add_zero _] at z
        exact z
  refine pw_c rfl ?_
  refine ps_istore rfl rfl ?_
  refine pw_c rfl ?_
  refine ps_istore rfl rfl ?_
  exact main (P.w * P.v) 0 (by omega) I2 _ _ (fun _ _ _ _ => rfl) (fun j hj => by rw [if_neg (by omega)]; exact (L2 j hj).2.2.trans (shMM_0 h01 on w0 v0 hj)) (fun j hj => by rw [if_neg (by omega)]; exact (L2 j hj).1)
end UA
