/-! BY HAND: the model's differences, window, alike, as functions of the bench -/
section TE
variable {I I' J : Nat → Nat → Int32} {L : Nat → Nat → Int64} {s : Nat → Option Nat} {Q : List Value → pm_H → Prop} {ys : List Int32} {p b c w v n r : Nat} {B : sB}
theorem isPl_k {ps : Nat} (p6 : ps ≤ 6) (k : Int32) : (decide ((0 : Int64) ≤ k.toInt64) && decide (k.toInt64 ≤ (nI ps - 1).toInt64)) = decide (0 ≤ k.toInt ∧ k.toInt < ps) := by
  rw [isIn_k k 0 (nI ps - 1).toInt64 0 ((ps : Int) - 1) rfl (nI_pd (by omega)), Bool.eq_iff_iff, decide_eq_true_iff, decide_eq_true_iff]
  omega
theorem isOn_k {w : Nat} (h : w ≤ 300) (x : Int32) : (decide ((0 : Int64) ≤ x.toInt64) && decide (x.toInt64 ≤ (nI w - 1).toInt64)) = decide (0 ≤ x.toInt ∧ x.toInt < w) := by
  rw [isIn_k x 0 (nI w - 1).toInt64 0 ((w : Int) - 1) rfl (nI_pd (by omega)), Bool.eq_iff_iff, decide_eq_true_iff, decide_eq_true_iff]
  omega
theorem mBp_P (h : mBp B I) (ok : B.ok) {k : Nat} (hk : k < B.ps) : mPl I k (B.pl k).w (B.pl k).v := by
  obtain ⟨g1, g2, g3⟩ := h.2 k hk
  obtain ⟨o1, o2, o3, _⟩ := ok.2.1 k hk
  exact ⟨by have := ok.1; omega, g1, g2, o1, o2, o3⟩
theorem mBp_st {e : Int32} (h : mBp B I) : mBp B (stI I e) := mBp_a h (fun a j z => stI_o (fun y => by
  rcases z with z | z | z | z
  · have : j = 14 := z.2
    omega
  · omega
  · omega
  · omega))
def okP1 (P : sPl) : Prop := 0 < P.w ∧ 0 < P.v ∧ P.w * P.v ≤ 289 ∧ ∀ i, i < P.w * P.v → P.ho i = 0 ∨ P.ho i = 1
theorem ok_P1 (ok : B.ok) {k : Nat} (hk : k < B.ps) : okP1 (B.pl k) := ok.2.1 k hk
theorem df_eq {P : sPl} (o : okP1 P) {g : Nat → Int32} (hg : ∀ i, i < P.w * P.v → g i = P.ho i) (c : Nat) : suI (fun j => suI (fun i => if g (cxy P.w P.v (i : Int) (j : Int)) = 1 then (if g (cxy P.w P.v ((i : Int) + ((c % P.w : Nat) : Int)) ((j : Int) + ((c / P.w : Nat) : Int))) = 1 then 1 else 0) else 0) P.w) P.v = dfF P c := by
  obtain ⟨w0, v0, n9, h01⟩ := o
  unfold dfF ovF
  rw [← suI_xy w0]
  refine suI_congr (fun y hy => suI_congr (fun x hx => ?_))
  have l1 := cxy_lt w0 v0 (x : Int) (y : Int)
  have l2 := cxy_lt w0 v0 ((x : Int) + ((c % P.w : Nat) : Int)) ((y : Int) + ((c / P.w : Nat) : Int))
  rw [hg _ l1, hg _ l2, Int.add_comm ((c % P.w : Nat) : Int), Int.add_comm ((c / P.w : Nat) : Int), cxy_add w0 v0]
  by_cases e : P.ho (cxy P.w P.v (x : Int) (y : Int)) = 1
  · rw [if_pos e, if_pos e]
    rcases h01 _ l2 with z | z
    · rw [z]
      rfl
    · rw [z]
      rfl
  · rw [if_neg e, if_neg e]
theorem df_bd {P : sPl} (o : okP1 P) (c : Nat) : 0 ≤ (dfF P c).toInt ∧ (dfF P c).toInt ≤ 289 := by
  obtain ⟨w0, v0, n9, h01⟩ := o
  have z := suI_bd (f := fun h => if P.ho h = 1 then P.ho (cxy P.w P.v (((c % P.w : Nat) : Int) + ((h % P.w : Nat) : Int)) (((c / P.w : Nat) : Int) + ((h / P.w : Nat) : Int))) else 0) (n := P.w * P.v) (fun i hi => by
    have l2 := cxy_lt w0 v0 (((c % P.w : Nat) : Int) + ((i % P.w : Nat) : Int)) (((c / P.w : Nat) : Int) + ((i / P.w : Nat) : Int))
    have e0 : (0 : Int32).toInt = 0 := rfl
    have e1 : (1 : Int32).toInt = 1 := rfl
    show 0 ≤ (if P.ho i = 1 then P.ho _ else 0 : Int32).toInt ∧ (if P.ho i = 1 then P.ho _ else 0 : Int32).toInt ≤ 1
    split
    · rcases h01 _ l2 with y | y
      · rw [y]
        omega
      · rw [y]
        omega
    · omega) (by omega)
  have y : suI _ (P.w * P.v) = dfF P c := rfl
  rw [y] at z
  omega
theorem cnF_s {f : Nat → Int32} {x : Int32} {c : Nat} (h : 1 ≤ c) : cnF f x (c + 1) = cnF f x c + (if f c = x then 1 else 0) := by
  obtain ⟨k, rfl⟩ := Nat.exists_eq_add_of_le h
  unfold cnF
  rw [show 1 + k + 1 - 1 = k + 1 by omega, show 1 + k - 1 = k by omega, suI_s, show 1 + k = k + 1 by omega]
theorem cnF_0 {f : Nat → Int32} {x : Int32} {c : Nat} (h : ∀ i, 1 ≤ i → i < c → ¬ f i = x) : cnF f x c = 0 := by
  unfold cnF
  rw [suI_congr (g := fun _ => 0) (fun i hi => if_neg (h (i + 1) (by omega) (by omega)))]
  exact suI_z _
/-- what differences has so far -/
def dfS (D : Nat → Int32) (c : Nat) : Int32 × Int32 × Int32 := if c ≤ 1 then (289, -1, 0) else (mnF D c, mxF D c, cnF D (mxF D c) c)
theorem dfS_1 (D : Nat → Int32) : dfS D 1 = (289, -1, 0) := rfl
theorem dfS_n {D : Nat → Int32} {c : Nat} (h : 2 ≤ c) : dfS D c = (mnF D c, mxF D c, cnF D (mxF D c) c) := by
  unfold dfS
  rw [if_neg (by omega)]
theorem dfS_s {D : Nat → Int32} (bd : ∀ c, 0 ≤ (D c).toInt ∧ (D c).toInt ≤ 289) {c : Nat} (hc : 1 ≤ c) : dfS D (c + 1) = (if D c < (dfS D c).1 then D c else (dfS D c).1, if (dfS D c).2.1 < D c then D c else (dfS D c).2.1, if (dfS D c).2.1 < D c then 1 else if D c = (dfS D c).2.1 then (dfS D c).2.2 + 1 else (dfS D c).2.2) := by
  have b := bd c
  have e289 : (289 : Int32).toInt = 289 := rfl
  have em1 : (-1 : Int32).toInt = -1 := rfl
  by_cases h1 : c = 1
  · subst h1
    rw [dfS_1, dfS_n (by omega)]
    have m : (-1 : Int32) < D 1 := (i_lt _ _).mpr (by omega)
    show (mnF D 2, mxF D 2, cnF D (mxF D 2) 2) = (if D 1 < 289 then D 1 else 289, if -1 < D 1 then D 1 else -1, if -1 < D 1 then 1 else if D 1 = -1 then 0 + 1 else 0)
    rw [if_pos m, if_pos m, mnF_1, mxF_1, cnF_s (by omega), cnF_0 (fun i h1 h2 => absurd h2 (by omega)), if_pos rfl]
    by_cases h : D 1 < 289
    · rw [if_pos h]
      rfl
    · rw [if_neg h]
      have : D 1 = 289 := (i_eq _ _).mpr (by
        have : ¬ (D 1).toInt < (289 : Int32).toInt := fun z => h ((i_lt _ _).mpr z)
        omega)
      rw [this]
      rfl
  · have h2 : 2 ≤ c := by omega
    rw [dfS_n (D := D) h2, dfS_n (D := D) (c := c + 1) (by omega)]
    show (mnF D (c + 1), mxF D (c + 1), cnF D (mxF D (c + 1)) (c + 1)) = (if D c < mnF D c then D c else mnF D c, if mxF D c < D c then D c else mxF D c, if mxF D c < D c then 1 else if D c = mxF D c then cnF D (mxF D c) c + 1 else cnF D (mxF D c) c)
    rw [mnF_s h2, mxF_s h2]
    by_cases h : mxF D c < D c
    · rw [if_pos h, if_pos h, cnF_s hc, if_pos rfl, cnF_0 (fun i i1 i2 e => ?_)]
      · rfl
      · have z := mxF_ge (f := D) i1 i2
        have y := (i_lt _ _).mp h
        rw [e] at z
        omega
    · rw [if_neg h, if_neg h, cnF_s hc]
      by_cases e : D c = mxF D c
      · rw [if_pos e, if_pos e]
      · rw [if_neg e, if_neg e, Int32.add_zero]
theorem M_differences9 (hm : mBp B I) (ok : B.ok) (k w : Int32) (kk : ∀ r e, r = exv (qDif B k w) → Q [.int r] (stI I e, L, g_R s, 306)) : pm_W (g_P ys) 214 0 [.ref 275, .int k, .int w, .retAddr 0, .retAddr 0, .retAddr 0, .retAddr 0, .retAddr 0] [] (I, L, g_R s, 306) (0, 0) Q := by
  have os : ∀ e, pm_u (pm_u I 275 1 0) 275 0 e = stI I e := fun _ => rfl
  refine ps_aload rfl rfl ?_
  refine ps_iload rfl rfl ?_
  refine ps_ar rfl rfl rfl rfl rfl ?_
  refine pw_c rfl ?_
  refine pw_c rfl ?_
  refine pw_k rfl rfl rfl rfl ⟨Nat.zero_le _, Nat.zero_le _⟩ ?_
  refine M_isIn ?_
  rw [isIn_k w 0 2 0 2 rfl rfl]
  by_cases hw : 0 ≤ w.toInt ∧ w.toInt ≤ 2
  · rw [decide_eq_true hw]
    refine ps_ift rfl (rfl) ?_
    refine ps_aload rfl rfl ?_
    refine ps_iload rfl rfl ?_
    refine pw_k rfl rfl rfl rfl ⟨Nat.zero_le _, Nat.zero_le _⟩ ?_
    refine M_isPlate ?_
    rw [hm.1, isPl_k ok.1]
    by_cases hk : 0 ≤ k.toInt ∧ k.toInt < B.ps
    · obtain ⟨i, hi⟩ : ∃ i, i = k.toInt.toNat := ⟨_, rfl⟩
      have ek := nI_oz hi hk.1
      have il : i < B.ps := by omega
      obtain ⟨P, hPe⟩ : ∃ P, P = B.pl i := ⟨_, rfl⟩
      have ea : qDif B k w = if P.w * P.v = 1 then .error 5 else .ok (if w = 0 then mnF (dfF P) (P.w * P.v) else if w = 1 then mxF (dfF P) (P.w * P.v) else cnF (dfF P) (mxF (dfF P) (P.w * P.v)) (P.w * P.v)) := by
        unfold qDif
        rw [if_neg (fun z => z hw), plN_y il ok.1 ek, hPe]
      have o := ok_P1 ok il
      have hP := mBp_P hm ok il
      have rows := (hm.2 i il).2.2
      rw [← hPe] at o hP rows
      rw [decide_eq_true hk]
      rw [ea] at kk
      clear hi hk ea
      subst ek
      obtain ⟨hk6, hw1, hv1, w0, v0, n9⟩ := id hP
      obtain ⟨wb, vb⟩ := hP.b
      have n0 : 0 < P.w * P.v := Nat.mul_pos w0 v0
      refine ps_ift rfl (rfl) ?_
      refine ps_aload rfl rfl ?_
      refine ps_iload rfl rfl ?_
      refine pw_k rfl rfl rfl rfl ⟨Nat.zero_le _, Nat.zero_le _⟩ ?_
      refine M_cellsOf hk6 ?_
      rw [hw1, hv1, pk_mul]
      by_cases e1 : P.w * P.v = 1
      · rw [if_pos e1] at kk
        refine pw_c rfl ?_
        refine ps_icmpf rfl (decide_eq_false (fun z => z (by rw [e1]; rfl))) ?_
        refine pw_c rfl ?_
        refine ps_goto rfl ?_
        refine pw_k rfl rfl rfl rfl ⟨Nat.zero_le _, Nat.zero_le _⟩ ?_
        refine M_is ?_
        rw [os]
        refine ps_iff rfl (by decide) ?_
        refine pw_c rfl ?_
        refine ps_iret rfl rfl ?_
        exact kk _ _ rfl
      · rw [if_neg e1] at kk
        refine pw_c rfl ?_
        refine ps_icmpt rfl (decide_eq_true (fun z => e1 (nI_eqv (b := 1) (by omega) (by omega) z))) ?_
        refine pw_c rfl ?_
        refine pw_k rfl rfl rfl rfl ⟨Nat.zero_le _, Nat.zero_le _⟩ ?_
        refine M_is ?_
        rw [os]
        have hPJ : mPl (stI I 0) i P.w P.v := ⟨hk6, (stI_o (fun z => absurd z.1 (by decide))).trans hw1, (stI_o (fun z => absurd z.1 (by decide))).trans hv1, w0, v0, n9⟩
        have rJ : ∀ j, j < P.w * P.v → (fun j => stI I 0 280 (289 * i + j)) j = P.ho j := fun j hj => (stI_o (fun z => absurd z.1 (by decide))).trans (rows j hj).1
        have bd := df_bd o
        have kk := kk _ 0 rfl
        generalize stI I 0 = J at kk hPJ rJ ⊢
        obtain ⟨D, hD⟩ : ∃ D, D = dfF P := ⟨_, rfl⟩
        rw [← hD] at bd kk
        have hw1 := hPJ.2.1
        have hv1 := hPJ.2.2.1
        have fin : ∀ u6 u7, pm_W (g_P ys) 214 161 [.ref 275, .int (nI i), .int w, .int (dfS D (P.w * P.v)).1, .int (dfS D (P.w * P.v)).2.1, .int (dfS D (P.w * P.v)).2.2, u6, u7] [] (J, L, g_R s, 306) (0, 0) Q := by
          intro u6 u7
          rw [dfS_n (by omega)]
          by_cases c0 : w = 0
          · rw [if_pos c0] at kk
            refine ps_iload rfl rfl ?_
            refine ps_iff rfl (decide_eq_false (fun z => z c0)) ?_
            refine ps_iload rfl rfl ?_
            refine ps_goto rfl ?_
            refine ps_iret rfl rfl ?_
            exact kk
          · rw [if_neg c0] at kk
            by_cases c1 : w = 1
            · rw [if_pos c1] at kk
              refine ps_iload rfl rfl ?_
              refine ps_ift rfl (decide_eq_true c0) ?_
              refine ps_iload rfl rfl ?_
              refine pw_c rfl ?_
              refine ps_icmpf rfl (decide_eq_false (fun z => z c1)) ?_
              refine ps_iload rfl rfl ?_
              refine ps_goto rfl ?_
              refine ps_iret rfl rfl ?_
              exact kk
            · rw [if_neg c1] at kk
              refine ps_iload rfl rfl ?_
              refine ps_ift rfl (decide_eq_true c0) ?_
              refine ps_iload rfl rfl ?_
              refine pw_c rfl ?_
              refine ps_icmpt rfl (decide_eq_true c1) ?_
              refine ps_iload rfl rfl ?_
              refine ps_iret rfl rfl ?_
              exact kk
        have loop : ∀ d c, c + d = P.w * P.v → 1 ≤ c → ∀ u7 : Value, pm_W (g_P ys) 214 64 [.ref 275, .int (nI i), .int w, .int (dfS D c).1, .int (dfS D c).2.1, .int (dfS D c).2.2, .int (nI c), u7] [] (J, L, g_R s, 306) (0, 0) Q := by
          intro d
          induction d with
          | zero =>
            intro c hc c1 u7
            refine ps_iload rfl rfl ?_
            refine ps_aload rfl rfl ?_
            refine ps_iload rfl rfl ?_
            refine pw_k rfl rfl rfl rfl ⟨Nat.zero_le _, Nat.zero_le _⟩ ?_
            refine M_cellsOf hk6 ?_
            rw [hw1, hv1, pk_mul]
            refine ps_icmpt rfl (decide_eq_true (nI_le (by omega) (by omega))) ?_
            have z := fin (.int (nI c)) u7
            rw [← show c = P.w * P.v by omega] at z
            exact z
          | succ d ih =>
            intro c hc c1 u7
            have x9 := Nat.mod_lt c w0
            have y9 : c / P.w ≤ c := Nat.div_le_self _ _
            have S := dfS_s bd c1
            generalize hs : dfS D c = St at S ⊢
            obtain ⟨s1, s2, s3⟩ := St
            have S : dfS D (c + 1) = (if D c < s1 then D c else s1, if s2 < D c then D c else s2, if s2 < D c then 1 else if D c = s2 then s3 + 1 else s3) := S
            have back : ∀ q3 q4 q5 : Int32, dfS D (c + 1) = (q3, q4, q5) → ∀ x : Int32, pm_W (g_P ys) 214 155 [.ref 275, .int (nI i), .int w, .int q3, .int q4, .int q5, .int (nI c), .int x] [] (J, L, g_R s, 306) (0, 0) Q := by
              intro q3 q4 q5 hq x
              refine ps_iinc rfl rfl ?_
              refine ps_goto rfl ?_
              rw [show nI c + Int32.ofInt 1 = nI (c + 1) from nI_1 c]
              have z := ih (c + 1) (by omega) (by omega) (.int x)
              rw [hq] at z
              exact z
            show pm_W (g_P ys) 214 64 [.ref 275, .int (nI i), .int w, .int s1, .int s2, .int s3, .int (nI c), u7] [] (J, L, g_R s, 306) (0, 0) Q
            refine ps_iload rfl rfl ?_
            refine ps_aload rfl rfl ?_
            refine ps_iload rfl rfl ?_
            refine pw_k rfl rfl rfl rfl ⟨Nat.zero_le _, Nat.zero_le _⟩ ?_
            refine M_cellsOf hk6 ?_
            rw [hw1, hv1, pk_mul]
            refine ps_icmpf rfl (decide_eq_false (nI_ge (by omega) (by omega))) ?_
            refine ps_aload rfl rfl ?_
            refine ps_iload rfl rfl ?_
            refine ps_iload rfl rfl ?_
            refine ps_aload rfl rfl ?_
            refine ps_iload rfl rfl ?_
            refine pw_k rfl rfl rfl rfl ⟨Nat.zero_le _, Nat.zero_le _⟩ ?_
            refine M_wideOf hk6 ?_
            rw [hw1]
            refine ps_rem rfl (nI_nz w0 (by omega)) ?_
            rw [nI_rem (by omega) w0 (by omega)]
            refine ps_iload rfl rfl ?_
            refine ps_aload rfl rfl ?_
            refine ps_iload rfl rfl ?_
            refine pw_k rfl rfl rfl rfl ⟨Nat.zero_le _, Nat.zero_le _⟩ ?_
            refine M_wideOf hk6 ?_
            rw [hw1]
            refine ps_div rfl (nI_nz w0 (by omega)) ?_
            rw [nI_div (by omega) (by omega), ← iI_nat (c % P.w), ← iI_nat (c / P.w)]
            refine pw_k rfl rfl rfl rfl ⟨Nat.zero_le _, Nat.zero_le _⟩ ?_
            have y0 := Int.natCast_nonneg (c / P.w)
            have x0 := Int.natCast_nonneg (c % P.w)
            refine M_differencesAt hPJ (by omega) (by omega) ?_
            rw [df_eq (g := fun j => J 280 (289 * i + j)) o rJ c, ← hD]
            -- the least
            have p2 : ∀ q3 : Int32, q3 = (if D c < s1 then D c else s1) → pm_W (g_P ys) 214 110 [.ref 275, .int (nI i), .int w, .int q3, .int s2, .int s3, .int (nI c), .int (D c)] [] (J, L, g_R s, 306) (0, 0) Q := by
              intro q3 h3
              by_cases g1 : s2 < D c
              · refine ps_iload rfl rfl ?_
                refine ps_iload rfl rfl ?_
                refine ps_icmpf rfl (decide_eq_false (fun z => by have z := (i_le _ _).mp z; have y := (i_lt _ _).mp g1; omega)) ?_
                refine pw_c rfl ?_
                refine ps_goto rfl ?_
                refine ps_istore rfl rfl ?_
                refine ps_iload rfl rfl ?_
                refine ps_iload rfl rfl ?_
                refine ps_icmpf rfl (decide_eq_false (fun z => by have z := (i_le _ _).mp z; have y := (i_lt _ _).mp g1; omega)) ?_
                refine ps_iload rfl rfl ?_
                refine ps_goto rfl ?_
                refine ps_istore rfl rfl ?_
                exact back _ _ _ (by rw [S, if_pos g1, if_pos g1, h3]) _
              · have g2 : ¬ s2.toInt < (D c).toInt := fun z => g1 ((i_lt _ _).mpr z)
                by_cases g3 : D c = s2
                · refine ps_iload rfl rfl ?_
                  refine ps_iload rfl rfl ?_
                  refine ps_icmpt rfl (decide_eq_true ((i_le _ _).mpr (by omega))) ?_
                  refine ps_iload rfl rfl ?_
                  refine ps_iload rfl rfl ?_
                  refine ps_icmpf rfl (decide_eq_false (fun z => z g3)) ?_
                  refine ps_iload rfl rfl ?_
                  refine pw_c rfl ?_
                  refine ps_ar rfl rfl rfl rfl rfl ?_
                  refine ps_goto rfl ?_
                  refine ps_istore rfl rfl ?_
                  refine ps_iload rfl rfl ?_
                  refine ps_iload rfl rfl ?_
                  refine ps_icmpt rfl (decide_eq_true ((i_le _ _).mpr (by omega))) ?_
                  refine ps_iload rfl rfl ?_
                  refine ps_istore rfl rfl ?_
                  exact back _ _ _ (by rw [S, if_neg g1, if_neg g1, if_pos g3, h3]) _
                · refine ps_iload rfl rfl ?_
                  refine ps_iload rfl rfl ?_
                  refine ps_icmpt rfl (decide_eq_true ((i_le _ _).mpr (by omega))) ?_
                  refine ps_iload rfl rfl ?_
                  refine ps_iload rfl rfl ?_
                  refine ps_icmpt rfl (decide_eq_true g3) ?_
                  refine ps_iload rfl rfl ?_
                  refine ps_istore rfl rfl ?_
                  refine ps_iload rfl rfl ?_
                  refine ps_iload rfl rfl ?_
                  refine ps_icmpt rfl (decide_eq_true ((i_le _ _).mpr (by omega))) ?_
                  refine ps_iload rfl rfl ?_
                  refine ps_istore rfl rfl ?_
                  exact back _ _ _ (by rw [S, if_neg g1, if_neg g1, if_neg g3, h3]) _
            by_cases l1 : D c < s1
            · refine ps_istore rfl rfl ?_
              refine ps_iload rfl rfl ?_
              refine ps_iload rfl rfl ?_
              refine ps_icmpf rfl (decide_eq_false (fun z => by have z := (i_le _ _).mp z; have y := (i_lt _ _).mp l1; omega)) ?_
              refine ps_iload rfl rfl ?_
              refine ps_goto rfl ?_
              refine ps_istore rfl rfl ?_
              exact p2 _ (by rw [if_pos l1])
            · refine ps_istore rfl rfl ?_
              refine ps_iload rfl rfl ?_
              refine ps_iload rfl rfl ?_
              refine ps_icmpt rfl (decide_eq_true ((i_le _ _).mpr (by have : ¬ (D c).toInt < s1.toInt := fun z => l1 ((i_lt _ _).mpr z); omega))) ?_
              refine ps_iload rfl rfl ?_
              refine ps_istore rfl rfl ?_
              exact p2 _ (by rw [if_neg l1])
        refine ps_ift rfl (by decide) ?_
        refine pw_c rfl ?_
        refine ps_istore rfl rfl ?_
        refine pw_c rfl ?_
        refine ps_istore rfl rfl ?_
        refine pw_c rfl ?_
        refine ps_istore rfl rfl ?_
        refine pw_c rfl ?_
        refine ps_istore rfl rfl ?_
        have z := loop (P.w * P.v - 1) 1 (by omega) (by omega) (.retAddr 0)
        rw [dfS_1] at z
        exact z
    · have ea : qDif B k w = .error 2 := by
        unfold qDif
        rw [if_neg (fun z => z hw), plN_n hk]
      rw [decide_eq_false hk]
      refine ps_iff rfl (rfl) ?_
      refine pw_c rfl ?_
      refine ps_goto rfl ?_
      refine pw_k rfl rfl rfl rfl ⟨Nat.zero_le _, Nat.zero_le _⟩ ?_
      refine M_is ?_
      refine ps_iff rfl (by decide) ?_
      refine pw_c rfl ?_
      refine ps_iret rfl rfl ?_
      exact kk _ 2 (by rw [ea]; rfl)
  · rw [decide_eq_false hw]
    refine ps_iff rfl (rfl) ?_
    refine pw_c rfl ?_
    refine ps_goto rfl ?_
    refine pw_k rfl rfl rfl rfl ⟨Nat.zero_le _, Nat.zero_le _⟩ ?_
    refine M_is ?_
    refine ps_iff rfl (by decide) ?_
    refine pw_c rfl ?_
    refine ps_iret rfl rfl ?_
    exact kk _ 1 (by unfold qDif; rw [if_pos hw]; rfl)
end TE
