/-! BY HAND: the model's window, alike, as functions of the bench -/
section TG
variable {I I' J : Nat → Nat → Int32} {L : Nat → Nat → Int64} {s : Nat → Option Nat} {Q : List Value → pm_H → Prop} {ys : List Int32} {p b c w v n r : Nat} {B : sB}
theorem M_window9 (hm : mBp B I) (ok : B.ok) (k x y w h : Int32) (kk : ∀ r e, r = exv (qWin B k x y w h) → Q [.int r] (stI I e, L, g_R s, 306)) : pm_W (g_P ys) 216 0 [.ref 275, .int k, .int x, .int y, .int w, .int h, .retAddr 0, .retAddr 0, .retAddr 0] [] (I, L, g_R s, 306) (0, 0) Q := by
  have os : ∀ e, pm_u (pm_u I 275 1 0) 275 0 e = stI I e := fun _ => rfl
  have no : ¬ ((1 ≤ w.toInt ∧ w.toInt ≤ 99) ∧ 1 ≤ h.toInt ∧ h.toInt ≤ 99) → pm_W (g_P ys) 216 27 [.ref 275, .int k, .int x, .int y, .int w, .int h, .retAddr 0, .retAddr 0, .retAddr 0] [.ref 275] (I, L, g_R s, 306) (0, 0) Q := by
    intro z
    refine pw_c rfl ?_
    refine ps_goto rfl ?_
    refine pw_k rfl rfl rfl rfl ⟨Nat.zero_le _, Nat.zero_le _⟩ ?_
    refine M_is ?_
    refine ps_iff rfl (by decide) ?_
    refine pw_c rfl ?_
    refine ps_iret rfl rfl ?_
    exact kk _ 1 (by unfold qWin; rw [if_pos z]; rfl)
  have bad : qWin B k x y w h = .error 2 → pm_W (g_P ys) 216 53 [.ref 275, .int k, .int x, .int y, .int w, .int h, .retAddr 0, .retAddr 0, .retAddr 0] [.ref 275] (I, L, g_R s, 306) (0, 0) Q := by
    intro ea
    refine pw_c rfl ?_
    refine pw_k rfl rfl rfl rfl ⟨Nat.zero_le _, Nat.zero_le _⟩ ?_
    refine M_is ?_
    refine ps_iff rfl (by decide) ?_
    refine pw_c rfl ?_
    refine ps_iret rfl rfl ?_
    exact kk _ 2 (by rw [ea]; rfl)
  have go : ((1 ≤ w.toInt ∧ w.toInt ≤ 99) ∧ 1 ≤ h.toInt ∧ h.toInt ≤ 99) → pm_W (g_P ys) 216 31 [.ref 275, .int k, .int x, .int y, .int w, .int h, .retAddr 0, .retAddr 0, .retAddr 0] [.ref 275] (I, L, g_R s, 306) (0, 0) Q := by
    intro hw
    refine ps_aload rfl rfl ?_
    refine ps_iload rfl rfl ?_
    refine pw_k rfl rfl rfl rfl ⟨Nat.zero_le _, Nat.zero_le _⟩ ?_
    refine M_isPlate ?_
    rw [hm.1, isPl_k ok.1]
    by_cases hk : 0 ≤ k.toInt ∧ k.toInt < B.ps
    · obtain ⟨i, hi⟩ : ∃ i, i = k.toInt.toNat := ⟨_, rfl⟩
      have ek := nI_oz hi hk.1
      have il : i < B.ps := by omega
      obtain ⟨P, hPe⟩ : ∃ P, P = B.pl i := ⟨_, rfl⟩
      have ea : qWin B k x y w h = if ¬ ((0 ≤ x.toInt ∧ x.toInt < P.w) ∧ 0 ≤ y.toInt ∧ y.toInt < P.v) then .error 2 else .ok (wnF P x.toInt.toNat y.toInt.toNat w.toInt.toNat h.toInt.toNat) := by
        unfold qWin
        rw [if_neg (fun z => z hw), plN_y il ok.1 ek, hPe]
      have o := ok_P1 ok il
      have hP := mBp_P hm ok il
      have rows := (hm.2 i il).2.2
      rw [← hPe] at o hP rows
      rw [decide_eq_true hk]
      clear hi hk
      subst ek
      obtain ⟨hk6, hw1, hv1, w0, v0, n9⟩ := id hP
      obtain ⟨wb, vb⟩ := hP.b
      refine ps_iff rfl (rfl) ?_
      refine ps_aload rfl rfl ?_
      refine ps_iload rfl rfl ?_
      refine ps_iload rfl rfl ?_
      refine ps_iload rfl rfl ?_
      refine pw_k rfl rfl rfl rfl ⟨Nat.zero_le _, Nat.zero_le _⟩ ?_
      refine M_isOn hk6 (A := decide (0 ≤ x.toInt ∧ x.toInt < P.w)) (B := decide (0 ≤ y.toInt ∧ y.toInt < P.v)) (by rw [hw1]; exact isOn_k (by omega) x) (by rw [hv1]; exact isOn_k (by omega) y) ?_
      by_cases hxy : (0 ≤ x.toInt ∧ x.toInt < P.w) ∧ 0 ≤ y.toInt ∧ y.toInt < P.v
      · rw [if_neg (fun z => z hxy)] at ea
        rw [decide_eq_true hxy.1, decide_eq_true hxy.2]
        refine ps_iff rfl (rfl) ?_
        refine pw_c rfl ?_
        refine ps_goto rfl ?_
        refine pw_k rfl rfl rfl rfl ⟨Nat.zero_le _, Nat.zero_le _⟩ ?_
        refine M_is ?_
        rw [os]
        have hPJ : mPl (stI I 0) i P.w P.v := ⟨hk6, (stI_o (fun z => absurd z.1 (by decide))).trans hw1, (stI_o (fun z => absurd z.1 (by decide))).trans hv1, w0, v0, n9⟩
        have rJ : ∀ j, j < P.w * P.v → stI I 0 280 (289 * i + j) = P.ho j := fun j hj => (stI_o (fun z => absurd z.1 (by decide))).trans (rows j hj).1
        obtain ⟨x0, hx0⟩ : ∃ z, z = x.toInt.toNat := ⟨_, rfl⟩
        obtain ⟨y0, hy0⟩ : ∃ z, z = y.toInt.toNat := ⟨_, rfl⟩
        obtain ⟨w1, hw1'⟩ : ∃ z, z = w.toInt.toNat := ⟨_, rfl⟩
        obtain ⟨h1, hh1⟩ : ∃ z, z = h.toInt.toNat := ⟨_, rfl⟩
        have x9 : x0 < 289 := by omega
        have y9 : y0 < 289 := by omega
        have w9 : w1 ≤ 99 := by omega
        have h9 : h1 ≤ 99 := by omega
        have ex := nI_oz hx0 (by omega)
        have ey := nI_oz hy0 (by omega)
        have ew := nI_oz hw1' (by omega)
        have eh := nI_oz hh1 (by omega)
        rw [← hx0, ← hy0, ← hw1', ← hh1] at ea
        rw [ea] at kk
        have kk := kk _ 0 rfl
        clear hx0 hy0 hw1' hh1 hxy hw bad no ea
        subst ex ey ew eh
        generalize stI I 0 = J at kk hPJ rJ ⊢
        obtain ⟨F, hF⟩ : ∃ F : Nat → Nat → Int32, F = fun v u => P.ho (cxy P.w P.v (((x0 + u : Nat)) : Int) ((y0 + v : Nat) : Int)) := ⟨_, rfl⟩
        have outer : ∀ d j, j + d = h1 → ∀ u : Value, pm_W (g_P ys) 216 68 [.ref 275, .int (nI i), .int (nI x0), .int (nI y0), .int (nI w1), .int (nI h1), .int (suI (fun v => suI (F v) w1) j), .int (nI j), u] [] (J, L, g_R s, 306) (0, 0) Q := by
          intro d
          induction d with
          | zero =>
            intro j hj u
            refine ps_iload rfl rfl ?_
            refine ps_iload rfl rfl ?_
            refine ps_icmpt rfl (decide_eq_true (nI_le (by omega) (by omega))) ?_
            refine ps_iload rfl rfl ?_
            refine ps_iret rfl rfl ?_
            rw [show j = h1 by omega, hF]
            exact kk
          | succ d ih =>
            intro j hj u
            have inner : ∀ e t, t + e = w1 → pm_W (g_P ys) 216 78 [.ref 275, .int (nI i), .int (nI x0), .int (nI y0), .int (nI w1), .int (nI h1), .int (suI (fun v => suI (F v) w1) j + suI (F j) t), .int (nI j), .int (nI t)] [] (J, L, g_R s, 306) (0, 0) Q := by
              intro e
              induction e with
              | zero =>
                intro t ht
                refine ps_iload rfl rfl ?_
                refine ps_iload rfl rfl ?_
                refine ps_icmpt rfl (decide_eq_true (nI_le (by omega) (by omega))) ?_
                refine ps_iinc rfl rfl ?_
                refine ps_goto rfl ?_
                rw [show nI j + Int32.ofInt 1 = nI (j + 1) from nI_1 j]
                rw [show t = w1 by omega]
                exact ih (j + 1) (by omega) _
              | succ e ihe =>
                intro t ht
                have cl := cxy_lt w0 v0 (((x0 + t : Nat)) : Int) ((y0 + j : Nat) : Int)
                have z := ihe (t + 1) (by omega)
                rw [suI_s, ← Int32.add_assoc] at z
                have fj : F j t = J 280 (289 * i + cxy P.w P.v (((x0 + t : Nat)) : Int) ((y0 + j : Nat) : Int)) := by
                  rw [hF]
                  exact (rJ _ cl).symm
                have f01 : F j t = 0 ∨ F j t = 1 := by
                  rw [hF]
                  exact o.2.2.2 _ cl
                refine ps_iload rfl rfl ?_
                refine ps_iload rfl rfl ?_
                refine ps_icmpf rfl (decide_eq_false (nI_ge (by omega) (by omega))) ?_
                refine ps_iload rfl rfl ?_
                refine ps_aload rfl rfl ?_
                refine ps_iload rfl rfl ?_
                refine ps_iload rfl rfl ?_
                refine ps_iload rfl rfl ?_
                refine ps_ar rfl rfl rfl rfl rfl ?_
                rw [nI_add]
                refine ps_iload rfl rfl ?_
                refine ps_iload rfl rfl ?_
                refine ps_ar rfl rfl rfl rfl rfl ?_
                rw [nI_add, ← iI_nat (x0 + t), ← iI_nat (y0 + j)]
                refine pw_k rfl rfl rfl rfl ⟨Nat.zero_le _, Nat.zero_le _⟩ ?_
                refine M_isHole hPJ (by omega) (by omega) ?_
                rw [← fj]
                rcases f01 with f0 | f0
                · rw [f0] at z ⊢
                  refine ps_ift rfl (by decide) ?_
                  refine pw_c rfl ?_
                  refine ps_ar rfl rfl rfl rfl rfl ?_
                  refine ps_istore rfl rfl ?_
                  refine ps_iinc rfl rfl ?_
                  refine ps_goto rfl ?_
                  rw [show nI t + Int32.ofInt 1 = nI (t + 1) from nI_1 t]
                  exact z
                · rw [f0] at z ⊢
                  refine ps_iff rfl (by decide) ?_
                  refine pw_c rfl ?_
                  refine ps_goto rfl ?_
                  refine ps_ar rfl rfl rfl rfl rfl ?_
                  refine ps_istore rfl rfl ?_
                  refine ps_iinc rfl rfl ?_
                  refine ps_goto rfl ?_
                  rw [show nI t + Int32.ofInt 1 = nI (t + 1) from nI_1 t]
                  exact z
            refine ps_iload rfl rfl ?_
            refine ps_iload rfl rfl ?_
            refine ps_icmpf rfl (decide_eq_false (nI_ge (by omega) (by omega))) ?_
            refine pw_c rfl ?_
            refine ps_istore rfl rfl ?_
            have z := inner w1 0 (by omega)
            rw [show suI (F j) 0 = 0 from rfl, Int32.add_zero] at z
            exact z
        refine ps_ift rfl (by decide) ?_
        refine pw_c rfl ?_
        refine ps_istore rfl rfl ?_
        refine pw_c rfl ?_
        refine ps_istore rfl rfl ?_
        exact outer h1 0 (by omega) _
      · rw [if_pos hxy] at ea
        have e : (decide (0 ≤ x.toInt ∧ x.toInt < P.w) && decide (0 ≤ y.toInt ∧ y.toInt < P.v)) = false := by
          rw [Bool.eq_false_iff]
          intro z
          rw [Bool.and_eq_true, decide_eq_true_iff, decide_eq_true_iff] at z
          exact hxy z
        rw [e]
        refine ps_ift rfl (rfl) ?_
        exact bad ea
    · rw [decide_eq_false hk]
      refine ps_ift rfl (rfl) ?_
      exact bad (by unfold qWin; rw [if_neg (fun z => z hw), plN_n hk])
  have w2 : (1 ≤ w.toInt ∧ w.toInt ≤ 99) → ∀ a d v : Int64, (decide (a ≤ v) && decide (v ≤ d)) = decide (1 ≤ h.toInt ∧ h.toInt ≤ 99) → pm_W (g_P ys) 216 21 [.ref 275, .int k, .int x, .int y, .int w, .int h, .retAddr 0, .retAddr 0, .retAddr 0] [.long d, .long a, .long v, .ref 275] (I, L, g_R s, 306) (0, 0) Q := by
    intro hw a d v e
    refine pw_k rfl rfl rfl rfl ⟨Nat.zero_le _, Nat.zero_le _⟩ ?_
    refine M_isIn ?_
    rw [e]
    by_cases hh : 1 ≤ h.toInt ∧ h.toInt ≤ 99
    · rw [decide_eq_true hh]
      refine ps_ift rfl (rfl) ?_
      exact go ⟨hw, hh⟩
    · rw [decide_eq_false hh]
      refine ps_iff rfl (rfl) ?_
      exact no (fun z => hh z.2)
  refine ps_aload rfl rfl ?_
  refine ps_iload rfl rfl ?_
  refine ps_ar rfl rfl rfl rfl rfl ?_
  refine pw_c rfl ?_
  refine pw_c rfl ?_
  refine pw_k rfl rfl rfl rfl ⟨Nat.zero_le _, Nat.zero_le _⟩ ?_
  refine M_isIn ?_
  rw [isIn_k w 1 99 1 99 rfl rfl]
  by_cases hw : 1 ≤ w.toInt ∧ w.toInt ≤ 99
  · rw [decide_eq_true hw]
    refine ps_iff rfl (rfl) ?_
    refine ps_iload rfl rfl ?_
    refine ps_ar rfl rfl rfl rfl rfl ?_
    refine pw_c rfl ?_
    refine pw_c rfl ?_
    exact w2 hw _ _ _ (isIn_k h 1 99 1 99 rfl rfl)
  · rw [decide_eq_false hw]
    refine ps_ift rfl (rfl) ?_
    exact no (fun z => hw z.1)
/-- alike by a turn the other way -/
def alkM (P R : sPl) (a b : Nat) : Prop := ∀ j, j < P.w * P.v → P.ho j = R.ho (cxy P.w P.v (((j % P.w : Nat) : Int) - a) (((j / P.w : Nat) : Int) - b))
theorem alkM_y {P R : sPl} (w0 : 0 < P.w) (v0 : 0 < P.v) (e1 : P.w = R.w) (e2 : P.v = R.v) {a b : Nat} (h : alkM P R a b) : alkP P R := by
  obtain ⟨m1, m2⟩ := cxy_md w0 v0 (-(a : Int)) (-(b : Int))
  refine ⟨e1, e2, cxy P.w P.v (-(a : Int)) (-(b : Int)), cxy_lt w0 v0 _ _, fun j hj => ?_⟩
  rw [h j hj]
  congr 1
  refine cxy_eq ?_ ?_
  · rw [m1, Int.add_emod_emod, Int.sub_eq_add_neg]
  · rw [m2, Int.add_emod_emod, Int.sub_eq_add_neg]
theorem alkM_n {P R : sPl} (w0 : 0 < P.w) (v0 : 0 < P.v) (h : alkP P R) : ∃ a b, a < P.w ∧ b < P.v ∧ alkM P R a b := by
  obtain ⟨e1, e2, i, hi, hj⟩ := h
  have a1 := Int.emod_nonneg (-((i % P.w : Nat) : Int)) (show ¬ (P.w : Int) = 0 by omega)
  have a2 := Int.emod_lt_of_pos (-((i % P.w : Nat) : Int)) (show (0 : Int) < P.w by omega)
  have b1 := Int.emod_nonneg (-((i / P.w : Nat) : Int)) (show ¬ (P.v : Int) = 0 by omega)
  have b2 := Int.emod_lt_of_pos (-((i / P.w : Nat) : Int)) (show (0 : Int) < P.v by omega)
  refine ⟨((-((i % P.w : Nat) : Int)) % P.w).toNat, ((-((i / P.w : Nat) : Int)) % P.v).toNat, by omega, by omega, fun j hj' => ?_⟩
  rw [hj j hj']
  congr 1
  refine cxy_eq ?_ ?_
  · rw [Int.toNat_of_nonneg a1, em_sr]
    congr 1
    omega
  · rw [Int.toNat_of_nonneg b1, em_sr]
    congr 1
    omega
theorem alB_b {n : Nat} {f : Nat → Bool} (h : alB f n = true) {i : Nat} (hi : i < n) : f i = true := (alB_iff n).mp h i hi
theorem alkM_b {P R : sPl} (oP : okP1 P) (oR : okP1 R) (e1 : P.w = R.w) (e2 : P.v = R.v) {g g' : Nat → Int32} (hg : ∀ j, j < P.w * P.v → g j = P.ho j) (hg' : ∀ j, j < P.w * P.v → g' j = R.ho j) (a b : Nat) : alB (fun j => alB (fun i => decide (g (cxy P.w P.v (i : Int) (j : Int)) = 1) == decide (g' (cxy P.w P.v ((i : Int) - (a : Int)) ((j : Int) - (b : Int))) = 1)) P.w) P.v = true ↔ alkM P R a b := by
  obtain ⟨w0, v0, n9, h01⟩ := oP
  have h01' := oR.2.2.2
  rw [← e1, ← e2] at h01'
  have ne : ∀ x y : Int32, (x = 0 ∨ x = 1) → (y = 0 ∨ y = 1) → ((decide (x = 1) == decide (y = 1)) = true ↔ x = y) := by
    intro x y hx hy
    rcases hx with rfl | rfl <;> rcases hy with rfl | rfl <;> decide
  have one : ∀ x y : Nat, x < P.w → y < P.v → ((decide (g (cxy P.w P.v (x : Int) (y : Int)) = 1) == decide (g' (cxy P.w P.v ((x : Int) - (a : Int)) ((y : Int) - (b : Int))) = 1)) = true ↔ P.ho (cxy P.w P.v (x : Int) (y : Int)) = R.ho (cxy P.w P.v ((x : Int) - (a : Int)) ((y : Int) - (b : Int)))) := by
    intro x y hx hy
    have l1 := cxy_lt w0 v0 (x : Int) (y : Int)
    have l2 := cxy_lt w0 v0 ((x : Int) - (a : Int)) ((y : Int) - (b : Int))
    rw [hg _ l1, hg' _ l2]
    exact ne _ _ (h01 _ l1) (h01' _ l2)
  constructor
  · intro h j hj
    have x9 := Nat.mod_lt j w0
    have y9 : j / P.w < P.v := Nat.div_lt_of_lt_mul hj
    have z := (one _ _ x9 y9).mp (alB_b (alB_b h y9) x9)
    rw [cxy_self w0 hj] at z
    exact z
  · intro h
    refine (alB_iff _).mpr (fun y hy => (alB_iff _).mpr (fun x hx => (one x y hx hy).mpr ?_))
    have l1 := cxy_lt w0 v0 (x : Int) (y : Int)
    have z := h _ l1
    rw [cxy_sub' w0 v0] at z
    exact z
theorem M_alike9 (hm : mBp B I) (ok : B.ok) (k o : Int32) (kk : ∀ r e, r = exv (qAlk B k o) → Q [.int r] (stI I e, L, g_R s, 306)) : pm_W (g_P ys) 209 0 [.ref 275, .int k, .int o, .retAddr 0, .retAddr 0] [] (I, L, g_R s, 306) (0, 0) Q := by
  have os : ∀ e, pm_u (pm_u I 275 1 0) 275 0 e = stI I e := fun _ => rfl
  have bad : qAlk B k o = .error 2 → pm_W (g_P ys) 209 21 [.ref 275, .int k, .int o, .retAddr 0, .retAddr 0] [.ref 275] (I, L, g_R s, 306) (0, 0) Q := by
    intro ea
    refine pw_c rfl ?_
    refine pw_k rfl rfl rfl rfl ⟨Nat.zero_le _, Nat.zero_le _⟩ ?_
    refine M_is ?_
    refine ps_iff rfl (by decide) ?_
    refine pw_c rfl ?_
    refine ps_iret rfl rfl ?_
    exact kk _ 2 (by rw [ea]; rfl)
  refine ps_aload rfl rfl ?_
  refine ps_aload rfl rfl ?_
  refine ps_iload rfl rfl ?_
  refine pw_k rfl rfl rfl rfl ⟨Nat.zero_le _, Nat.zero_le _⟩ ?_
  refine M_isPlate ?_
  rw [hm.1, isPl_k ok.1]
  by_cases hk : 0 ≤ k.toInt ∧ k.toInt < B.ps
  · rw [decide_eq_true hk]
    refine ps_iff rfl (rfl) ?_
    refine ps_aload rfl rfl ?_
    refine ps_iload rfl rfl ?_
    refine pw_k rfl rfl rfl rfl ⟨Nat.zero_le _, Nat.zero_le _⟩ ?_
    refine M_isPlate ?_
    rw [hm.1, isPl_k ok.1]
    by_cases ho : 0 ≤ o.toInt ∧ o.toInt < B.ps
    · rw [decide_eq_true ho]
      obtain ⟨i, hi⟩ : ∃ i, i = k.toInt.toNat := ⟨_, rfl⟩
      obtain ⟨l, hl⟩ : ∃ l, l = o.toInt.toNat := ⟨_, rfl⟩
      have ek := nI_oz hi hk.1
      have eo := nI_oz hl ho.1
      have il : i < B.ps := by omega
      have ll : l < B.ps := by omega
      obtain ⟨P, hPe⟩ : ∃ P, P = B.pl i := ⟨_, rfl⟩
      obtain ⟨R, hRe⟩ : ∃ R, R = B.pl l := ⟨_, rfl⟩
      have ea : qAlk B k o = .ok (bI (alkB P R)) := by
        unfold qAlk
        rw [plN_y il ok.1 ek, plN_y ll ok.1 eo, hPe, hRe]
      have oP := ok_P1 ok il
      have oR := ok_P1 ok ll
      have hP := mBp_P hm ok il
      have hR := mBp_P hm ok ll
      have rows := (hm.2 i il).2.2
      have rows2 := (hm.2 l ll).2.2
      rw [← hPe] at oP hP rows
      rw [← hRe] at oR hR rows2
      rw [ea] at kk
      have kk := kk _ 0 rfl
      clear hi hl hk ho ea bad
      subst ek eo
      obtain ⟨hk6, hw1, hv1, w0, v0, n9⟩ := id hP
      obtain ⟨hl6, hw2, hv2, w02, v02, n92⟩ := id hR
      obtain ⟨wb, vb⟩ := hP.b
      obtain ⟨wb2, vb2⟩ := hR.b
      refine ps_iff rfl (rfl) ?_
      refine pw_c rfl ?_
      refine ps_goto rfl ?_
      refine pw_k rfl rfl rfl rfl ⟨Nat.zero_le _, Nat.zero_le _⟩ ?_
      refine M_is ?_
      rw [os]
      have hPJ : mPl (stI I 0) i P.w P.v := ⟨hk6, (stI_o (fun z => absurd z.1 (by decide))).trans hw1, (stI_o (fun z => absurd z.1 (by decide))).trans hv1, w0, v0, n9⟩
      have hRJ : mPl (stI I 0) l R.w R.v := ⟨hl6, (stI_o (fun z => absurd z.1 (by decide))).trans hw2, (stI_o (fun z => absurd z.1 (by decide))).trans hv2, w02, v02, n92⟩
      have rJ : ∀ j, j < P.w * P.v → (fun j => stI I 0 280 (289 * i + j)) j = P.ho j := fun j hj => (stI_o (fun z => absurd z.1 (by decide))).trans (rows j hj).1
      have rJ2 : ∀ j, j < R.w * R.v → (fun j => stI I 0 280 (289 * l + j)) j = R.ho j := fun j hj => (stI_o (fun z => absurd z.1 (by decide))).trans (rows2 j hj).1
      generalize stI I 0 = J at kk hPJ hRJ rJ rJ2 ⊢
      have hw1 := hPJ.2.1
      have hv1 := hPJ.2.2.1
      have hw2 := hRJ.2.1
      have hv2 := hRJ.2.2.1
      have kN : ¬ alkP P R → Q [.int 0] (J, L, g_R s, 306) := fun z => by
        rw [show alkB P R = false from Bool.eq_false_iff.mpr (fun y => z (alkB_iff.mp y))] at kk
        exact kk
      have kY : alkP P R → Q [.int 1] (J, L, g_R s, 306) := fun z => by
        rw [alkB_iff.mpr z] at kk
        exact kk
      have no : ¬ alkP P R → pm_W (g_P ys) 209 56 [.ref 275, .int (nI i), .int (nI l), .retAddr 0, .retAddr 0] [] (J, L, g_R s, 306) (0, 0) Q := by
        intro z
        refine pw_c rfl ?_
        refine ps_iret rfl rfl ?_
        exact kN z
      refine ps_ift rfl (by decide) ?_
      refine ps_aload rfl rfl ?_
      refine ps_iload rfl rfl ?_
      refine pw_k rfl rfl rfl rfl ⟨Nat.zero_le _, Nat.zero_le _⟩ ?_
      refine M_wideOf hk6 ?_
      rw [hw1]
      refine ps_aload rfl rfl ?_
      refine ps_iload rfl rfl ?_
      refine pw_k rfl rfl rfl rfl ⟨Nat.zero_le _, Nat.zero_le _⟩ ?_
      refine M_wideOf hl6 ?_
      rw [hw2]
      by_cases e1 : P.w = R.w
      · refine ps_icmpf rfl (decide_eq_false (fun z => z (by rw [e1]))) ?_
        refine ps_aload rfl rfl ?_
        refine ps_iload rfl rfl ?_
        refine pw_k rfl rfl rfl rfl ⟨Nat.zero_le _, Nat.zero_le _⟩ ?_
        refine M_highOf hk6 ?_
        rw [hv1]
        refine ps_aload rfl rfl ?_
        refine ps_iload rfl rfl ?_
        refine pw_k rfl rfl rfl rfl ⟨Nat.zero_le _, Nat.zero_le _⟩ ?_
        refine M_highOf hl6 ?_
        rw [hv2]
        by_cases e2 : P.v = R.v
        · refine ps_icmpt rfl (decide_eq_true (by rw [e2])) ?_
          have hRJ' : mPl J l P.w P.v := by
            rw [e1, e2]
            exact hRJ
          have rJ2' : ∀ j, j < P.w * P.v → (fun j => J 280 (289 * l + j)) j = R.ho j := fun j hj => rJ2 j (by rw [← e1, ← e2]; exact hj)
          have outer : ∀ d b, b + d = P.v → (∀ a b', a < P.w → b' < b → ¬ alkM P R a b') → ∀ u : Value, pm_W (g_P ys) 209 60 [.ref 275, .int (nI i), .int (nI l), .int (nI b), u] [] (J, L, g_R s, 306) (0, 0) Q := by
            intro d
            induction d with
            | zero =>
              intro b hb h u
              refine ps_iload rfl rfl ?_
              refine ps_aload rfl rfl ?_
              refine ps_iload rfl rfl ?_
              refine pw_k rfl rfl rfl rfl ⟨Nat.zero_le _, Nat.zero_le _⟩ ?_
              refine M_highOf hk6 ?_
              rw [hv1]
              refine ps_icmpt rfl (decide_eq_true (nI_le (by omega) (by omega))) ?_
              refine pw_c rfl ?_
              refine ps_iret rfl rfl ?_
              refine kN (fun z => ?_)
              obtain ⟨a, b', ha, hb', y⟩ := alkM_n w0 v0 z
              exact h a b' ha (by omega) y
            | succ d ih =>
              intro b hb h u
              have inner : ∀ e a, a + e = P.w → (∀ a', a' < a → ¬ alkM P R a' b) → pm_W (g_P ys) 209 72 [.ref 275, .int (nI i), .int (nI l), .int (nI b), .int (nI a)] [] (J, L, g_R s, 306) (0, 0) Q := by
                intro e
                induction e with
                | zero =>
                  intro a ha h2
                  refine ps_iload rfl rfl ?_
                  refine ps_aload rfl rfl ?_
                  refine ps_iload rfl rfl ?_
                  refine pw_k rfl rfl rfl rfl ⟨Nat.zero_le _, Nat.zero_le _⟩ ?_
                  refine M_wideOf hk6 ?_
                  rw [hw1]
                  refine ps_icmpt rfl (decide_eq_true (nI_le (by omega) (by omega))) ?_
                  refine ps_iinc rfl rfl ?_
                  refine ps_goto rfl ?_
                  rw [show nI b + Int32.ofInt 1 = nI (b + 1) from nI_1 b]
                  refine ih (b + 1) (by omega) (fun a' b' ha' hb' => ?_) _
                  by_cases e : b' = b
                  · rw [e]
                    exact h2 a' (by omega)
                  · exact h a' b' ha' (by omega)
                | succ e ihe =>
                  intro a ha h2
                  refine ps_iload rfl rfl ?_
                  refine ps_aload rfl rfl ?_
                  refine ps_iload rfl rfl ?_
                  refine pw_k rfl rfl rfl rfl ⟨Nat.zero_le _, Nat.zero_le _⟩ ?_
                  refine M_wideOf hk6 ?_
                  rw [hw1]
                  refine ps_icmpf rfl (decide_eq_false (nI_ge (by omega) (by omega))) ?_
                  refine ps_aload rfl rfl ?_
                  refine ps_iload rfl rfl ?_
                  refine ps_iload rfl rfl ?_
                  refine ps_iload rfl rfl ?_
                  refine ps_iload rfl rfl ?_
                  rw [← iI_nat a, ← iI_nat b]
                  refine pw_k rfl rfl rfl rfl ⟨Nat.zero_le _, Nat.zero_le _⟩ ?_
                  refine M_areAlike hPJ hRJ' (by omega) (by omega) ?_
                  have iff := alkM_b oP oR e1 e2 rJ rJ2' a b
                  by_cases y : alkM P R a b
                  · rw [iff.mpr y]
                    refine ps_iff rfl (rfl) ?_
                    refine pw_c rfl ?_
                    refine ps_iret rfl rfl ?_
                    exact kY (alkM_y w0 v0 e1 e2 y)
                  · rw [show (alB _ P.v : Bool) = false from Bool.eq_false_iff.mpr (fun z => y (iff.mp z))]
                    refine ps_ift rfl (rfl) ?_
                    rw [iI_nat a, iI_nat b]
                    refine ps_iinc rfl rfl ?_
                    refine ps_goto rfl ?_
                    rw [show nI a + Int32.ofInt 1 = nI (a + 1) from nI_1 a]
                    refine ihe (a + 1) (by omega) (fun a' ha' => ?_)
                    by_cases e : a' = a
                    · rw [e]
                      exact y
                    · exact h2 a' (by omega)
              refine ps_iload rfl rfl ?_
              refine ps_aload rfl rfl ?_
              refine ps_iload rfl rfl ?_
              refine pw_k rfl rfl rfl rfl ⟨Nat.zero_le _, Nat.zero_le _⟩ ?_
              refine M_highOf hk6 ?_
              rw [hv1]
              refine ps_icmpf rfl (decide_eq_false (nI_ge (by omega) (by omega))) ?_
              refine pw_c rfl ?_
              refine ps_istore rfl rfl ?_
              exact inner P.w 0 (by omega) (fun a' ha' => absurd ha' (by omega))
          refine pw_c rfl ?_
          refine ps_istore rfl rfl ?_
          exact outer P.v 0 (by omega) (fun a b' _ hb' => absurd hb' (by omega)) _
        · refine ps_icmpf rfl (decide_eq_false (fun z => e2 (nI_eqv (by omega) (by omega) z))) ?_
          exact no (fun z => e2 z.2.1)
      · refine ps_icmpt rfl (decide_eq_true (fun z => e1 (nI_eqv (by omega) (by omega) z))) ?_
        exact no (fun z => e1 z.1)
    · rw [decide_eq_false ho]
      refine ps_ift rfl (rfl) ?_
      refine bad ?_
      unfold qAlk
      rw [plN_n ho]
      split
      · rename_i h
        cases h
      · rfl
  · rw [decide_eq_false hk]
    refine ps_ift rfl (rfl) ?_
    refine bad ?_
    unfold qAlk
    rw [plN_n hk]
end TG
