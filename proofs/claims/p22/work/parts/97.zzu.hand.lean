/-! BY HAND: the model's camera, exactly, first: cells, shadows -/
section TW
variable {I I' I1 I2 J : Nat → Nat → Int32} {L : Nat → Nat → Int64} {s : Nat → Option Nat} {Q : List Value → pm_H → Prop} {ys : List Int32} {k sh : Nat} {ng : Bool} {P : sPl} {S : sS} {f g : Nat → Int32} {h : pm_H} {x y : Int}
/-- things lie within -/
def okN (S : sS) : Prop := ∀ q, q < 3 → ∀ k, k < S.n q → ∀ j, j < 3 → 0 ≤ (S.sc q k j).toInt ∧ (S.sc q k j).toInt ≤ 999
/-- the model uses the PLATE k (P), turned by sh, or its negative, with the scene S -/
def mV (k : Nat) (P : sPl) (S : sS) (sh : Nat) (ng : Bool) (I : Nat → Nat → Int32) : Prop := mPl I k P.w P.v ∧ (∀ i, i < P.w * P.v → I 280 (289 * k + i) = P.ho i ∧ I 282 (289 * k + i) = P.we i) ∧ (∀ i, i < P.w * P.v → P.ho i = 0 ∨ P.ho i = 1) ∧ mSc 288 0 S I ∧ S.ok ∧ okN S ∧ I 275 24 = nI k ∧ I 275 25 = nI sh ∧ I 275 26 = bI ng ∧ sh ≤ 2000
/-- rows that the model's camera lays -/
def mRow (a : Nat) : Prop := a = 295 ∨ a = 296 ∨ a = 297 ∨ a = 298 ∨ a = 301 ∨ a = 300 ∨ a = 302
def mFld (j : Nat) : Prop := j = 32 ∨ j = 33 ∨ j = 34 ∨ j = 36
def mCg (I I' : Nat → Nat → Int32) : Prop := ∀ a j, ¬ mRow a → ¬ (a = 275 ∧ mFld j) → I' a j = I a j
theorem mCg_t (h1 : mCg I I1) (h2 : mCg I1 I2) : mCg I I2 := fun a j z1 z2 => (h2 a j z1 z2).trans (h1 a j z1 z2)
theorem mCg_r (h : ∀ a j, ¬ mRow a → I' a j = I a j) : mCg I I' := fun a j z1 _ => h a j z1
theorem mV_o (h : mV k P S sh ng I) (c : mCg I I') : mV k P S sh ng I' := by
  obtain ⟨⟨p1, p2, p3, p4⟩, hr, h01, hS, ok, on, u1, u2, u3, u4⟩ := h
  have c1 : ∀ a j, (a = 278 ∨ a = 280 ∨ a = 282 ∨ a = 288) → I' a j = I a j := fun a j z => c a j (by unfold mRow; omega) (by omega)
  have c2 : ∀ j, (j = 24 ∨ j = 25 ∨ j = 26) → I' 275 j = I 275 j := fun j z => c 275 j (by unfold mRow; omega) (by unfold mFld; omega)
  exact ⟨⟨p1, (c1 _ _ (by omega)).trans p2, (c1 _ _ (by omega)).trans p3, p4⟩, fun i hi => ⟨(c1 _ _ (by omega)).trans (hr i hi).1, (c1 _ _ (by omega)).trans (hr i hi).2⟩, h01, mSc_f hS ok (fun j => c1 _ _ (by omega)), ok, on, (c2 _ (by omega)).trans u1, (c2 _ (by omega)).trans u2, (c2 _ (by omega)).trans u3, u4⟩
theorem mSc_r {a q k j : Nat} (h : mSc a 0 S I) (hq : q < 3) (hk : k < S.n q) (hj : j < 3) : I a (rwK q + 3 * k + j) = S.sc q k j := by
  have z := h.2.2.2 q hq k hk j hj
  rw [Nat.zero_add] at z
  exact z
theorem mSc_n {a q : Nat} (h : mSc a 0 S I) (hq : q < 3) : I a q = nI (S.n q) := by
  have z := h.1 q hq
  rw [Nat.zero_add] at z
  exact z
theorem bI_j : ∀ a b : Bool, bI a = bI b → a = b := by decide
theorem M_wideX (hV : mV k P S sh ng I) (kk : Q [.int (nI P.w)] (I, L, g_R s, 306)) : pm_W (g_P ys) 241 0 [.ref 275] [] (I, L, g_R s, 306) (0, 0) Q := by
  obtain ⟨⟨hk, hw, hv, w0, v0, n9⟩, hr, h01, hS, ok, on, u1, u2, u3, u4⟩ := hV
  refine ps_aload rfl rfl ?_
  refine ps_aload rfl rfl ?_
  refine ps_gfi 11 24 rfl rfl rfl rfl rfl ?_
  rw [show ((I, L, g_R s, 306) : pm_H).1 275 24 = nI k from u1]
  refine pw_k rfl rfl rfl rfl ⟨Nat.zero_le _, Nat.zero_le _⟩ ?_
  refine M_wideOf hk ?_
  rw [hw]
  refine ps_iret rfl rfl ?_
  exact kk
theorem M_highX (hV : mV k P S sh ng I) (kk : Q [.int (nI P.v)] (I, L, g_R s, 306)) : pm_W (g_P ys) 240 0 [.ref 275] [] (I, L, g_R s, 306) (0, 0) Q := by
  obtain ⟨⟨hk, hw, hv, w0, v0, n9⟩, hr, h01, hS, ok, on, u1, u2, u3, u4⟩ := hV
  refine ps_aload rfl rfl ?_
  refine ps_aload rfl rfl ?_
  refine ps_gfi 11 24 rfl rfl rfl rfl rfl ?_
  rw [show ((I, L, g_R s, 306) : pm_H).1 275 24 = nI k from u1]
  refine pw_k rfl rfl rfl rfl ⟨Nat.zero_le _, Nat.zero_le _⟩ ?_
  refine M_highOf hk ?_
  rw [hv]
  refine ps_iret rfl rfl ?_
  exact kk
theorem M_cells0X (hV : mV k P S sh ng I) (kk : Q [.int (nI (P.w * P.v))] (I, L, g_R s, 306)) : pm_W (g_P ys) 244 0 [.ref 275] [] (I, L, g_R s, 306) (0, 0) Q := by
  obtain ⟨⟨hk, hw, hv, w0, v0, n9⟩, hr, h01, hS, ok, on, u1, u2, u3, u4⟩ := hV
  refine ps_aload rfl rfl ?_
  refine ps_aload rfl rfl ?_
  refine ps_gfi 11 24 rfl rfl rfl rfl rfl ?_
  rw [show ((I, L, g_R s, 306) : pm_H).1 275 24 = nI k from u1]
  refine pw_k rfl rfl rfl rfl ⟨Nat.zero_le _, Nat.zero_le _⟩ ?_
  refine M_cellsOf hk ?_
  rw [hw, hv, pk_mul]
  refine ps_iret rfl rfl ?_
  exact kk
theorem mV_b (hV : mV k P S sh ng I) : P.w ≤ 289 ∧ P.v ≤ 289 ∧ 0 < P.w ∧ 0 < P.v ∧ P.w * P.v ≤ 289 := ⟨hV.1.b.1, hV.1.b.2, hV.1.2.2.2.1, hV.1.2.2.2.2.1, hV.1.2.2.2.2.2⟩
theorem M_cellAtX (hV : mV k P S sh ng I) (hx : -2147483649 < x ∧ x < 2147483648) (hy : -2147483649 < y ∧ y < 2147483648) (kk : Q [.int (nI (cxy P.w P.v x y))] (I, L, g_R s, 306)) : pm_W (g_P ys) 239 0 [.ref 275, .int (iI x), .int (iI y)] [] (I, L, g_R s, 306) (0, 0) Q := by
  obtain ⟨wb, vb, w0, v0, n9⟩ := mV_b hV
  refine ps_iload rfl rfl ?_
  refine ps_aload rfl rfl ?_
  refine pw_k rfl rfl rfl rfl ⟨Nat.zero_le _, Nat.zero_le _⟩ ?_
  refine M_highX hV ?_
  rw [← iI_nat P.v]
  refine pw_k rfl rfl rfl rfl ⟨Nat.zero_le _, Nat.zero_le _⟩ ?_
  refine M_round hy (by omega) ?_
  refine ps_aload rfl rfl ?_
  refine pw_k rfl rfl rfl rfl ⟨Nat.zero_le _, Nat.zero_le _⟩ ?_
  refine M_wideX hV ?_
  refine ps_ar rfl rfl rfl rfl rfl ?_
  refine ps_iload rfl rfl ?_
  refine ps_aload rfl rfl ?_
  refine pw_k rfl rfl rfl rfl ⟨Nat.zero_le _, Nat.zero_le _⟩ ?_
  refine M_wideX hV ?_
  rw [← iI_nat P.w]
  refine pw_k rfl rfl rfl rfl ⟨Nat.zero_le _, Nat.zero_le _⟩ ?_
  refine M_round hx (by omega) ?_
  refine ps_ar rfl rfl rfl rfl rfl ?_
  have e : iI (y % P.v) * iI P.w + iI (x % P.w) = nI (cxy P.w P.v x y) := by
    rw [← iI_nat (cxy P.w P.v x y), iI_mul, iI_add, cxy_int w0 v0]
  rw [e]
  refine ps_iret rfl rfl ?_
  exact kk
theorem M_cellAtN {x y : Nat} (hV : mV k P S sh ng I) (hx : x < 100000) (hy : y < 100000) (kk : Q [.int (nI (cxy P.w P.v (x : Int) (y : Int)))] (I, L, g_R s, 306)) : pm_W (g_P ys) 239 0 [.ref 275, .int (nI x), .int (nI y)] [] (I, L, g_R s, 306) (0, 0) Q := by
  rw [← iI_nat x, ← iI_nat y]
  exact M_cellAtX hV (by omega) (by omega) kk
theorem cxy_inn {w v x y : Nat} (hx : x < w) (hy : y < v) : cxy w v (x : Int) (y : Int) = w * y + x := by
  rw [cxy_n, Nat.mod_eq_of_lt hx, Nat.mod_eq_of_lt hy, Nat.mul_comm]
theorem M_letsX (hV : mV k P S sh ng I) (hx : -100000 < x ∧ x < 100000) (hy : -100000 < y ∧ y < 100000) (kk : Q [.int (bI (decide (P.ho (cxy P.w P.v (x - sh) y) = 1) != ng))] (I, L, g_R s, 306)) : pm_W (g_P ys) 243 0 [.ref 275, .int (iI x), .int (iI y)] [] (I, L, g_R s, 306) (0, 0) Q := by
  obtain ⟨hP, hr, h01, hS, ok, on, u1, u2, u3, u4⟩ := hV
  have cl := cxy_lt hP.2.2.2.1 hP.2.2.2.2.1 (x - sh) y
  refine ps_aload rfl rfl ?_
  refine ps_aload rfl rfl ?_
  refine ps_gfi 11 24 rfl rfl rfl rfl rfl ?_
  rw [show ((I, L, g_R s, 306) : pm_H).1 275 24 = nI k from u1]
  refine ps_iload rfl rfl ?_
  refine ps_aload rfl rfl ?_
  refine ps_gfi 11 25 rfl rfl rfl rfl rfl ?_
  rw [show ((I, L, g_R s, 306) : pm_H).1 275 25 = nI sh from u2]
  rw [← iI_nat sh]
  refine ps_ar rfl rfl rfl rfl rfl ?_
  rw [iI_sub]
  refine ps_iload rfl rfl ?_
  refine pw_k rfl rfl rfl rfl ⟨Nat.zero_le _, Nat.zero_le _⟩ ?_
  refine M_isHole hP (by omega) (by omega) ?_
  rw [(hr _ cl).1]
  refine ps_aload rfl rfl ?_
  refine ps_gfi 11 26 rfl rfl rfl rfl rfl ?_
  rw [show ((I, L, g_R s, 306) : pm_H).1 275 26 = bI ng from u3]
  generalize decide (P.ho (cxy P.w P.v (x - sh) y) = 1) = D at kk ⊢
  by_cases e : D = ng
  · rw [show (D != ng) = false by rw [e]; cases ng <;> rfl] at kk
    refine ps_icmpt rfl (decide_eq_true (by rw [e])) ?_
    refine pw_c rfl ?_
    refine ps_zret rfl rfl (Or.inl rfl) ?_
    exact kk
  · rw [show (D != ng) = true by cases D <;> cases ng <;> first | rfl | exact absurd rfl e] at kk
    refine ps_icmpf rfl (decide_eq_false (fun z => e (bI_j _ _ z))) ?_
    refine pw_c rfl ?_
    refine ps_goto rfl ?_
    refine ps_zret rfl rfl (Or.inr rfl) ?_
    exact kk
theorem M_laysLostX (hV : mV k P S sh ng I) (kk : ∀ I' : Nat → Nat → Int32, (∀ a j, ¬ a = 295 → I' a j = I a j) → (∀ i, i < P.w * P.v → I' 295 i = lostF P S i) → Q [] (I', L, g_R s, 306)) : pm_W (g_P ys) 238 0 [.ref 275, .retAddr 0] [] (I, L, g_R s, 306) (0, 0) Q := by
  obtain ⟨wb, vb, w0, v0, n9⟩ := mV_b hV
  have hS := hV.2.2.2.1
  have ok := hV.2.2.2.2.1
  have on := hV.2.2.2.2.2.1
  have n12 : S.n 1 ≤ 12 := ok 1 (by omega)
  have l2 : ∀ d i, i + d = S.n 1 → ∀ I' : Nat → Nat → Int32, (∀ a j, ¬ a = 295 → I' a j = I a j) → (∀ j, j < P.w * P.v → I' 295 j = lsR P S i j) → pm_W (g_P ys) 238 24 [.ref 275, .int (nI i)] [] (I', L, g_R s, 306) (0, 0) Q := by
    intro d
    induction d with
    | zero =>
      intro i hi I' g1 g2
      have ei : i = S.n 1 := by omega
      subst ei
      refine ps_iload rfl rfl ?_
      refine ps_aload rfl rfl ?_
      refine ps_gfr 11 16 rfl rfl rfl rfl rfl (rfl) ?_
      refine pw_c rfl ?_
      refine ps_iald (1) rfl rfl rfl (rfl) (by omega) ?_
      rw [show ((I', L, g_R s, 306) : pm_H).1 288 1 = nI (S.n 1) from (g1 _ _ (by decide)).trans (mSc_n hS (q := 1) (by omega))]
      refine ps_icmpt rfl (decide_eq_true (nI_le (by omega) (by omega))) ?_
      refine ps_vret rfl rfl ?_
      exact kk I' g1 g2
    | succ d ih =>
      intro i hi I' g1 g2
      have r0 : I' 288 (29 + 3 * i) = S.sc 1 i 0 := (g1 _ _ (by decide)).trans (mSc_r hS (q := 1) (j := 0) (by omega) (by omega) (by omega))
      have r1 : I' 288 (29 + 3 * i + 1) = S.sc 1 i 1 := (g1 _ _ (by decide)).trans (mSc_r hS (q := 1) (j := 1) (by omega) (by omega) (by omega))
      have V' : mV k P S sh ng I' := mV_o hV (mCg_r (fun a j z => g1 a j (fun e => z (Or.inl e))))
      have b0 := on 1 (by omega) i (by omega) 0 (by omega)
      have b1 := on 1 (by omega) i (by omega) 1 (by omega)
      have cl := cell_lt (P := P) w0 v0 (S.sc 1 i 0) (S.sc 1 i 1)
      refine ps_iload rfl rfl ?_
      refine ps_aload rfl rfl ?_
      refine ps_gfr 11 16 rfl rfl rfl rfl rfl (rfl) ?_
      refine pw_c rfl ?_
      refine ps_iald (1) rfl rfl rfl (rfl) (by omega) ?_
      rw [show ((I', L, g_R s, 306) : pm_H).1 288 1 = nI (S.n 1) from (g1 _ _ (by decide)).trans (mSc_n hS (q := 1) (by omega))]
      refine ps_icmpf rfl (decide_eq_false (nI_ge (by omega) (by omega))) ?_
      refine ps_aload rfl rfl ?_
      refine ps_gfr 11 27 rfl rfl rfl rfl rfl (rfl) ?_
      refine ps_aload rfl rfl ?_
      refine ps_aload rfl rfl ?_
      refine ps_gfr 11 16 rfl rfl rfl rfl rfl (rfl) ?_
      refine pw_c rfl ?_
      refine pw_c rfl ?_
      refine ps_iload rfl rfl ?_
      refine ps_ar rfl rfl rfl rfl rfl ?_
      refine ps_ar rfl rfl rfl rfl rfl ?_
      refine ps_iald (29 + 3 * i) rfl rfl rfl (by simp only [ni_lit, ni_l0, pk_mul, nI_add, Nat.add_zero]) (by omega) ?_
      rw [show ((I', L, g_R s, 306) : pm_H).1 288 (29 + 3 * i) = iI (S.sc 1 i 0).toInt from r0.trans (iI_of _)]
      refine ps_aload rfl rfl ?_
      refine ps_gfr 11 16 rfl rfl rfl rfl rfl (rfl) ?_
      refine pw_c rfl ?_
      refine pw_c rfl ?_
      refine ps_iload rfl rfl ?_
      refine ps_ar rfl rfl rfl rfl rfl ?_
      refine ps_ar rfl rfl rfl rfl rfl ?_
      refine pw_c rfl ?_
      refine ps_ar rfl rfl rfl rfl rfl ?_
      refine ps_iald (29 + 3 * i + 1) rfl rfl rfl (by simp only [ni_lit, ni_l0, pk_mul, nI_add, Nat.add_zero]) (by omega) ?_
      rw [show ((I', L, g_R s, 306) : pm_H).1 288 (29 + 3 * i + 1) = iI (S.sc 1 i 1).toInt from r1.trans (iI_of _)]
      refine pw_k rfl rfl rfl rfl ⟨Nat.zero_le _, Nat.zero_le _⟩ ?_
      refine M_cellAtX V' (by omega) (by omega) ?_
      show pm_W _ _ _ _ [.int (nI (cellF P (S.sc 1 i 0) (S.sc 1 i 1))), .ref 295] _ _ _
      refine pw_c rfl ?_
      refine ps_zast (cellF P (S.sc 1 i 0) (S.sc 1 i 1)) rfl rfl rfl (rfl) (by omega) ?_
      refine ps_iinc rfl rfl ?_
      refine ps_goto rfl ?_
      rw [show nI i + Int32.ofInt 1 = nI (i + 1) from nI_1 i]
      refine ih (i + 1) (by omega) _ (fun a j z => (pu_o z).trans (g1 a j z)) (fun j hj => ?_)
      show pm_u I' 295 (cellF P (S.sc 1 i 0) (S.sc 1 i 1)) 1 295 j = _
      unfold lsR
      by_cases ej : j = cellF P (S.sc 1 i 0) (S.sc 1 i 1)
      · rw [if_pos ej, ej, pu_s]
      · rw [if_neg ej, pu_n ej]
        exact g2 j hj
  have l1 : ∀ d i, i + d = 289 → ∀ I' : Nat → Nat → Int32, (∀ a j, ¬ a = 295 → I' a j = I a j) → (∀ j, j < i → I' 295 j = 0) → pm_W (g_P ys) 238 2 [.ref 275, .int (nI i)] [] (I', L, g_R s, 306) (0, 0) Q := by
    intro d
    induction d with
    | zero =>
      intro i hi I' g1 g2
      refine ps_iload rfl rfl ?_
      refine pw_c rfl ?_
      refine ps_icmpt rfl (decide_eq_true (nI_le (a := 289) (by omega) (by omega))) ?_
      refine pw_c rfl ?_
      refine ps_istore rfl rfl ?_
      exact l2 (S.n 1) 0 (by omega) I' g1 (fun j hj => g2 j (by omega))
    | succ d ih =>
      intro i hi I' g1 g2
      refine ps_iload rfl rfl ?_
      refine pw_c rfl ?_
      refine ps_icmpf rfl (decide_eq_false (nI_ge (b := 289) (by omega) (by omega))) ?_
      refine ps_aload rfl rfl ?_
      refine ps_gfr 11 27 rfl rfl rfl rfl rfl (rfl) ?_
      refine ps_iload rfl rfl ?_
      refine pw_c rfl ?_
      refine ps_zast (i) rfl rfl rfl (rfl) (by omega) ?_
      refine ps_iinc rfl rfl ?_
      refine ps_goto rfl ?_
      rw [show nI i + Int32.ofInt 1 = nI (i + 1) from nI_1 i]
      exact ih (i + 1) (by omega) _ (fun a j z => (pu_o z).trans (g1 a j z)) (row_t (G := fun _ => 0) g2 rfl)
  refine pw_c rfl ?_
  refine ps_istore rfl rfl ?_
  exact l1 289 0 (by omega) I (fun _ _ _ => rfl) (fun j hj => absurd hj (by omega))
/-- what SOURCES throw on a CELL: the model's way -/
def msQ (P : sPl) (S : sS) (sh : Nat) (ng : Bool) (x y : Nat) : Nat → Int32
  | 0 => S.bk
  | k + 1 => if (decide (P.ho (cxy P.w P.v ((x : Int) - (S.sc 0 k 0).toInt - sh) ((y : Int) - (S.sc 0 k 1).toInt)) = 1) != ng) = true then msQ P S sh ng x y k + S.sc 0 k 2 else msQ P S sh ng x y k
theorem M_wholeAtX {x y : Nat} (hV : mV k P S sh ng I) (hx : x < 300) (hy : y < 300) (kk : Q [.int (msQ P S sh ng x y (S.n 0))] (I, L, g_R s, 306)) : pm_W (g_P ys) 242 0 [.ref 275, .int (nI x), .int (nI y), .retAddr 0, .retAddr 0] [] (I, L, g_R s, 306) (0, 0) Q := by
  have hS := hV.2.2.2.1
  have ok := hV.2.2.2.2.1
  have on := hV.2.2.2.2.2.1
  have u4 := hV.2.2.2.2.2.2.2.2.2
  have n8 : S.n 0 ≤ 8 := ok 0 (by omega)
  have loop : ∀ d i, i + d = S.n 0 → pm_W (g_P ys) 242 10 [.ref 275, .int (nI x), .int (nI y), .int (msQ P S sh ng x y i), .int (nI i)] [] (I, L, g_R s, 306) (0, 0) Q := by
    intro d
    induction d with
    | zero =>
      intro i hi
      have ei : i = S.n 0 := by omega
      subst ei
      refine ps_iload rfl rfl ?_
      refine ps_aload rfl rfl ?_
      refine ps_gfr 11 16 rfl rfl rfl rfl rfl (rfl) ?_
      refine pw_c rfl ?_
      refine ps_iald (0) rfl rfl rfl (rfl) (by omega) ?_
      rw [show ((I, L, g_R s, 306) : pm_H).1 288 0 = nI (S.n 0) from mSc_n hS (q := 0) (by omega)]
      refine ps_icmpt rfl (decide_eq_true (nI_le (by omega) (by omega))) ?_
      refine ps_iload rfl rfl ?_
      refine ps_iret rfl rfl ?_
      exact kk
    | succ d ih =>
      intro i hi
      have r0 : I 288 (5 + 3 * i) = S.sc 0 i 0 := mSc_r hS (q := 0) (j := 0) (by omega) (by omega) (by omega)
      have r1 : I 288 (5 + 3 * i + 1) = S.sc 0 i 1 := mSc_r hS (q := 0) (j := 1) (by omega) (by omega) (by omega)
      have r2 : I 288 (5 + 3 * i + 2) = S.sc 0 i 2 := mSc_r hS (q := 0) (j := 2) (by omega) (by omega) (by omega)
      have b0 := on 0 (by omega) i (by omega) 0 (by omega)
      have b1 := on 0 (by omega) i (by omega) 1 (by omega)
      have z := ih (i + 1) (by omega)
      rw [msQ] at z
      refine ps_iload rfl rfl ?_
      refine ps_aload rfl rfl ?_
      refine ps_gfr 11 16 rfl rfl rfl rfl rfl (rfl) ?_
      refine pw_c rfl ?_
      refine ps_iald (0) rfl rfl rfl (rfl) (by omega) ?_
      rw [show ((I, L, g_R s, 306) : pm_H).1 288 0 = nI (S.n 0) from mSc_n hS (q := 0) (by omega)]
      refine ps_icmpf rfl (decide_eq_false (nI_ge (by omega) (by omega))) ?_
      refine ps_aload rfl rfl ?_
      refine ps_iload rfl rfl ?_
      refine ps_aload rfl rfl ?_
      refine ps_gfr 11 16 rfl rfl rfl rfl rfl (rfl) ?_
      refine pw_c rfl ?_
      refine pw_c rfl ?_
      refine ps_iload rfl rfl ?_
      refine ps_ar rfl rfl rfl rfl rfl ?_
      refine ps_ar rfl rfl rfl rfl rfl ?_
      refine ps_iald (5 + 3 * i) rfl rfl rfl (by simp only [ni_lit, ni_l0, pk_mul, nI_add, Nat.add_zero]) (by omega) ?_
      rw [show ((I, L, g_R s, 306) : pm_H).1 288 (5 + 3 * i) = iI (S.sc 0 i 0).toInt from r0.trans (iI_of _)]
      refine ps_ar rfl rfl rfl rfl rfl ?_
      rw [show nI x - iI (S.sc 0 i 0).toInt = iI ((x : Int) - (S.sc 0 i 0).toInt) from by rw [← iI_nat, iI_sub]]
      refine ps_iload rfl rfl ?_
      refine ps_aload rfl rfl ?_
      refine ps_gfr 11 16 rfl rfl rfl rfl rfl (rfl) ?_
      refine pw_c rfl ?_
      refine pw_c rfl ?_
      refine ps_iload rfl rfl ?_
      refine ps_ar rfl rfl rfl rfl rfl ?_
      refine ps_ar rfl rfl rfl rfl rfl ?_
      refine pw_c rfl ?_
      refine ps_ar rfl rfl rfl rfl rfl ?_
      refine ps_iald (5 + 3 * i + 1) rfl rfl rfl (by simp only [ni_lit, ni_l0, pk_mul, nI_add, Nat.add_zero]) (by omega) ?_
      rw [show ((I, L, g_R s, 306) : pm_H).1 288 (5 + 3 * i + 1) = iI (S.sc 0 i 1).toInt from r1.trans (iI_of _)]
      refine ps_ar rfl rfl rfl rfl rfl ?_
      rw [show nI y - iI (S.sc 0 i 1).toInt = iI ((y : Int) - (S.sc 0 i 1).toInt) from by rw [← iI_nat, iI_sub]]
      refine pw_k rfl rfl rfl rfl ⟨Nat.zero_le _, Nat.zero_le _⟩ ?_
      refine M_letsX hV (by omega) (by omega) ?_
      by_cases c : (decide (P.ho (cxy P.w P.v ((x : Int) - (S.sc 0 i 0).toInt - sh) ((y : Int) - (S.sc 0 i 1).toInt)) = 1) != ng) = true
      · rw [if_pos c] at z
        rw [c]
        refine ps_iff rfl (by decide) ?_
        refine ps_iload rfl rfl ?_
        refine ps_aload rfl rfl ?_
        refine ps_gfr 11 16 rfl rfl rfl rfl rfl (rfl) ?_
        refine pw_c rfl ?_
        refine pw_c rfl ?_
        refine ps_iload rfl rfl ?_
        refine ps_ar rfl rfl rfl rfl rfl ?_
        refine ps_ar rfl rfl rfl rfl rfl ?_
        refine pw_c rfl ?_
        refine ps_ar rfl rfl rfl rfl rfl ?_
        refine ps_iald (5 + 3 * i + 2) rfl rfl rfl (by simp only [ni_lit, ni_l0, pk_mul, nI_add, Nat.add_zero]) (by omega) ?_
        rw [show ((I, L, g_R s, 306) : pm_H).1 288 (5 + 3 * i + 2) = S.sc 0 i 2 from r2]
        refine ps_ar rfl rfl rfl rfl rfl ?_
        refine ps_istore rfl rfl ?_
        refine ps_iinc rfl rfl ?_
        refine ps_goto rfl ?_
        rw [show nI i + Int32.ofInt 1 = nI (i + 1) from nI_1 i]
        exact z
      · rw [if_neg c] at z
        rw [show (decide (P.ho (cxy P.w P.v ((x : Int) - (S.sc 0 i 0).toInt - sh) ((y : Int) - (S.sc 0 i 1).toInt)) = 1) != ng) = false from Bool.eq_false_iff.mpr c]
        refine ps_ift rfl (by decide) ?_
        refine ps_iinc rfl rfl ?_
        refine ps_goto rfl ?_
        rw [show nI i + Int32.ofInt 1 = nI (i + 1) from nI_1 i]
        exact z
  refine ps_aload rfl rfl ?_
  refine ps_gfr 11 16 rfl rfl rfl rfl rfl (rfl) ?_
  refine pw_c rfl ?_
  refine ps_iald (3) rfl rfl rfl (rfl) (by omega) ?_
  rw [show ((I, L, g_R s, 306) : pm_H).1 288 3 = S.bk from hS.2.1]
  refine ps_istore rfl rfl ?_
  refine pw_c rfl ?_
  refine ps_istore rfl rfl ?_
  exact loop (S.n 0) 0 (by omega)
def msR (P : sPl) (S : sS) (sh : Nat) (ng : Bool) (i : Nat) : Int32 := msQ P S sh ng (i % P.w) (i / P.w) (S.n 0)
def whM (P : sPl) (S : sS) (sh : Nat) (ng : Bool) : Nat → Int32 := acR P S 2 (msR P S sh ng) (S.n 2)
def shMM (P : sPl) (S : sS) (sh : Nat) (ng : Bool) (i : Nat) : Int32 := if lostF P S i = 1 then 0 else whM P S sh ng i
/-- what is laid -/
def mLd (P : sPl) (S : sS) (sh : Nat) (ng : Bool) (I : Nat → Nat → Int32) : Prop := ∀ i, i < P.w * P.v → I 295 i = lostF P S i ∧ I 296 i = whM P S sh ng i ∧ I 297 i = shMM P S sh ng i
theorem M_laysShadowsX (hV : mV k P S sh ng I) (kk : ∀ I' : Nat → Nat → Int32, (∀ a j, ¬ a = 295 → ¬ a = 296 → ¬ a = 297 → I' a j = I a j) → mLd P S sh ng I' → Q [] (I', L, g_R s, 306)) : pm_W (g_P ys) 237 0 [.ref 275, .retAddr 0, .retAddr 0] [] (I, L, g_R s, 306) (0, 0) Q := by
  obtain ⟨wb, vb, w0, v0, n9⟩ := mV_b hV
  refine ps_aload rfl rfl ?_
  refine pw_k rfl rfl rfl rfl ⟨Nat.zero_le _, Nat.zero_le _⟩ ?_
  refine M_laysLostX hV (fun I0 c0 l0 => ?_)
  have V0 : mV k P S sh ng I0 := mV_o hV (mCg_r (fun a j z => c0 a j (fun e => z (Or.inl e))))
  have hS := V0.2.2.2.1
  have ok := V0.2.2.2.2.1
  have on := V0.2.2.2.2.2.1
  have n8 : S.n 2 ≤ 8 := ok 2 (by omega)
  have l3 : ∀ I1 : Nat → Nat → Int32, (∀ a j, ¬ a = 296 → I1 a j = I0 a j) → (∀ i, i < P.w * P.v → I1 296 i = whM P S sh ng i) → ∀ d i, i + d = P.w * P.v → ∀ I' (u2 : Value), (∀ a j, ¬ a = 297 → I' a j = I1 a j) → (∀ j, j < i → I' 297 j = shMM P S sh ng j) → pm_W (g_P ys) 237 122 [.ref 275, .int (nI i), u2] [] (I', L, g_R s, 306) (0, 0) Q := by
    intro I1 a1 w1 d
    induction d with
    | zero =>
      intro i hi I' u2 g1 g2
      have ei : i = P.w * P.v := by omega
      subst ei
      have V' : mV k P S sh ng I' := mV_o V0 (mCg_r (fun a j z => (g1 a j (fun e => z (by unfold mRow; omega))).trans (a1 a j (fun e => z (by unfold mRow; omega)))))
      refine ps_iload rfl rfl ?_
      refine ps_aload rfl rfl ?_
      refine pw_k rfl rfl rfl rfl ⟨Nat.zero_le _, Nat.zero_le _⟩ ?_
      refine M_cells0X V' ?_
      refine ps_icmpt rfl (decide_eq_true (nI_le (by omega) (by omega))) ?_
      refine ps_vret rfl rfl ?_
      exact kk I' (fun a j z1 z2 z3 => (g1 a j z3).trans ((a1 a j z2).trans (c0 a j z1))) (fun i hi => ⟨(g1 _ _ (by decide)).trans ((a1 _ _ (by decide)).trans (l0 i hi)), (g1 _ _ (by decide)).trans (w1 i hi), g2 i hi⟩)
    | succ d ih =>
      intro i hi I' u2 g1 g2
      have V' : mV k P S sh ng I' := mV_o V0 (mCg_r (fun a j z => (g1 a j (fun e => z (by unfold mRow; omega))).trans (a1 a j (fun e => z (by unfold mRow; omega)))))
      have lo : I' 295 i = lostF P S i := (g1 _ _ (by decide)).trans ((a1 _ _ (by decide)).trans (l0 i (by omega)))
      have next : ∀ x, x = shMM P S sh ng i → pm_W (g_P ys) 237 154 [.ref 275, .int (nI i), u2] [.int x, .int (nI i), .ref 297] (I', L, g_R s, 306) (0, 0) Q := by
        intro x hx
        refine ps_iast (i) rfl rfl rfl (rfl) (by omega) ?_
        refine ps_iinc rfl rfl ?_
        refine ps_goto rfl ?_
        rw [show nI i + Int32.ofInt 1 = nI (i + 1) from nI_1 i]
        exact ih (i + 1) (by omega) _ u2 (fun a j z => (pu_o z).trans (g1 a j z)) (row_t (G := shMM P S sh ng) g2 hx)
      refine ps_iload rfl rfl ?_
      refine ps_aload rfl rfl ?_
      refine pw_k rfl rfl rfl rfl ⟨Nat.zero_le _, Nat.zero_le _⟩ ?_
      refine M_cells0X V' ?_
      refine ps_icmpf rfl (decide_eq_false (nI_ge (by omega) (by omega))) ?_
      refine ps_aload rfl rfl ?_
      refine ps_gfr 11 29 rfl rfl rfl rfl rfl (rfl) ?_
      refine ps_iload rfl rfl ?_
      refine ps_aload rfl rfl ?_
      refine ps_gfr 11 27 rfl rfl rfl rfl rfl (rfl) ?_
      refine ps_iload rfl rfl ?_
      refine ps_bald (i) rfl rfl (Or.inr rfl) rfl (rfl) (by omega) ?_
      rw [show ((I', L, g_R s, 306) : pm_H).1 295 i = lostF P S i from lo]
      rcases lost_01 (P := P) (S := S) i with e0 | e1
      · rw [e0]
        refine ps_ift rfl (by decide) ?_
        refine ps_aload rfl rfl ?_
        refine ps_gfr 11 28 rfl rfl rfl rfl rfl (rfl) ?_
        refine ps_iload rfl rfl ?_
        refine ps_iald (i) rfl rfl rfl (rfl) (by omega) ?_
        rw [show ((I', L, g_R s, 306) : pm_H).1 296 i = whM P S sh ng i from (g1 _ _ (by decide)).trans (w1 i (by omega))]
        exact next _ (by unfold shMM; rw [if_neg (by rw [e0]; decide)])
      · rw [e1]
        refine ps_iff rfl (by decide) ?_
        refine pw_c rfl ?_
        refine ps_goto rfl ?_
        exact next 0 (by unfold shMM; rw [if_pos e1])
  have l2 : ∀ d i, i + d = S.n 2 → ∀ I' (u2 : Value), (∀ a j, ¬ a = 296 → I' a j = I0 a j) → (∀ j, j < P.w * P.v → I' 296 j = acR P S 2 (msR P S sh ng) i j) → pm_W (g_P ys) 237 55 [.ref 275, .int (nI i), u2] [] (I', L, g_R s, 306) (0, 0) Q := by
    intro d
    induction d with
    | zero =>
      intro i hi I' u2 g1 g2
      have ei : i = S.n 2 := by omega
      subst ei
      refine ps_iload rfl rfl ?_
      refine ps_aload rfl rfl ?_
      refine ps_gfr 11 16 rfl rfl rfl rfl rfl (rfl) ?_
      refine pw_c rfl ?_
      refine ps_iald (2) rfl rfl rfl (rfl) (by omega) ?_
      rw [show ((I', L, g_R s, 306) : pm_H).1 288 2 = nI (S.n 2) from (g1 _ _ (by decide)).trans (mSc_n hS (q := 2) (by omega))]
      refine ps_icmpt rfl (decide_eq_true (nI_le (by omega) (by omega))) ?_
      refine pw_c rfl ?_
      refine ps_istore rfl rfl ?_
      exact l3 I' g1 g2 (P.w * P.v) 0 (by omega) I' _ (fun _ _ _ => rfl) (fun j hj => absurd hj (by omega))
    | succ d ih =>
      intro i hi I' u2 g1 g2
      have V' : mV k P S sh ng I' := mV_o V0 (mCg_r (fun a j z => g1 a j (fun e => z (by unfold mRow; omega))))
      have r0 : I' 288 (65 + 3 * i) = S.sc 2 i 0 := (g1 _ _ (by decide)).trans (mSc_r hS (q := 2) (j := 0) (by omega) (by omega) (by omega))
      have r1 : I' 288 (65 + 3 * i + 1) = S.sc 2 i 1 := (g1 _ _ (by decide)).trans (mSc_r hS (q := 2) (j := 1) (by omega) (by omega) (by omega))
      have r2 : I' 288 (65 + 3 * i + 2) = S.sc 2 i 2 := (g1 _ _ (by decide)).trans (mSc_r hS (q := 2) (j := 2) (by omega) (by omega) (by omega))
      have b0 := on 2 (by omega) i (by omega) 0 (by omega)
      have b1 := on 2 (by omega) i (by omega) 1 (by omega)
      have cl := cell_lt (P := P) w0 v0 (S.sc 2 i 0) (S.sc 2 i 1)
      refine ps_iload rfl rfl ?_
      refine ps_aload rfl rfl ?_
      refine ps_gfr 11 16 rfl rfl rfl rfl rfl (rfl) ?_
      refine pw_c rfl ?_
      refine ps_iald (2) rfl rfl rfl (rfl) (by omega) ?_
      rw [show ((I', L, g_R s, 306) : pm_H).1 288 2 = nI (S.n 2) from (g1 _ _ (by decide)).trans (mSc_n hS (q := 2) (by omega))]
      refine ps_icmpf rfl (decide_eq_false (nI_ge (by omega) (by omega))) ?_
      refine ps_aload rfl rfl ?_
      refine ps_gfr 11 28 rfl rfl rfl rfl rfl (rfl) ?_
      refine ps_aload rfl rfl ?_
      refine ps_aload rfl rfl ?_
      refine ps_gfr 11 16 rfl rfl rfl rfl rfl (rfl) ?_
      refine pw_c rfl ?_
      refine pw_c rfl ?_
      refine ps_iload rfl rfl ?_
      refine ps_ar rfl rfl rfl rfl rfl ?_
      refine ps_ar rfl rfl rfl rfl rfl ?_
      refine ps_iald (65 + 3 * i) rfl rfl rfl (by simp only [ni_lit, ni_l0, pk_mul, nI_add, Nat.add_zero]) (by omega) ?_
      rw [show ((I', L, g_R s, 306) : pm_H).1 288 (65 + 3 * i) = iI (S.sc 2 i 0).toInt from r0.trans (iI_of _)]
      refine ps_aload rfl rfl ?_
      refine ps_gfr 11 16 rfl rfl rfl rfl rfl (rfl) ?_
      refine pw_c rfl ?_
      refine pw_c rfl ?_
      refine ps_iload rfl rfl ?_
      refine ps_ar rfl rfl rfl rfl rfl ?_
      refine ps_ar rfl rfl rfl rfl rfl ?_
      refine pw_c rfl ?_
      refine ps_ar rfl rfl rfl rfl rfl ?_
      refine ps_iald (65 + 3 * i + 1) rfl rfl rfl (by simp only [ni_lit, ni_l0, pk_mul, nI_add, Nat.add_zero]) (by omega) ?_
      rw [show ((I', L, g_R s, 306) : pm_H).1 288 (65 + 3 * i + 1) = iI (S.sc 2 i 1).toInt from r1.trans (iI_of _)]
      refine pw_k rfl rfl rfl rfl ⟨Nat.zero_le _, Nat.zero_le _⟩ ?_
      refine M_cellAtX V' (by omega) (by omega) ?_
      show pm_W _ _ _ _ [.int (nI (cellF P (S.sc 2 i 0) (S.sc 2 i 1))), .ref 296] _ _ _
      refine ps_ar rfl rfl rfl rfl rfl ?_
      refine ps_iald (cellF P (S.sc 2 i 0) (S.sc 2 i 1)) rfl rfl rfl (rfl) (by omega) ?_
      refine ps_aload rfl rfl ?_
      refine ps_gfr 11 16 rfl rfl rfl rfl rfl (rfl) ?_
      refine pw_c rfl ?_
      refine pw_c rfl ?_
      refine ps_iload rfl rfl ?_
      refine ps_ar rfl rfl rfl rfl rfl ?_
      refine ps_ar rfl rfl rfl rfl rfl ?_
      refine pw_c rfl ?_
      refine ps_ar rfl rfl rfl rfl rfl ?_
      refine ps_iald (65 + 3 * i + 2) rfl rfl rfl (by simp only [ni_lit, ni_l0, pk_mul, nI_add, Nat.add_zero]) (by omega) ?_
      rw [show ((I', L, g_R s, 306) : pm_H).1 288 (65 + 3 * i + 2) = S.sc 2 i 2 from r2]
      refine ps_ar rfl rfl rfl rfl rfl ?_
      refine ps_iast (cellF P (S.sc 2 i 0) (S.sc 2 i 1)) rfl rfl rfl (rfl) (by omega) ?_
      refine ps_iinc rfl rfl ?_
      refine ps_goto rfl ?_
      rw [show nI i + Int32.ofInt 1 = nI (i + 1) from nI_1 i]
      refine ih (i + 1) (by omega) _ _ (fun a j z => (pu_o z).trans (g1 a j z)) (fun j hj => ?_)
      show pm_u I' 296 (cellF P (S.sc 2 i 0) (S.sc 2 i 1)) (I' 296 (cellF P (S.sc 2 i 0) (S.sc 2 i 1)) + S.sc 2 i 2) 296 j = _
      rw [acR]
      by_cases ej : j = cellF P (S.sc 2 i 0) (S.sc 2 i 1)
      · rw [if_pos ej, ej, pu_s, g2 _ cl]
      · rw [if_neg ej, pu_n ej]
        exact g2 j hj
  have l1 : ∀ d y, y + d = P.v → ∀ I' (u2 : Value), (∀ a j, ¬ a = 296 → I' a j = I0 a j) → (∀ j, j < P.w * y → I' 296 j = msR P S sh ng j) → pm_W (g_P ys) 237 6 [.ref 275, .int (nI y), u2] [] (I', L, g_R s, 306) (0, 0) Q := by
    intro d
    induction d with
    | zero =>
      intro y hy I' u2 g1 g2
      have ey : y = P.v := by omega
      subst ey
      have V' : mV k P S sh ng I' := mV_o V0 (mCg_r (fun a j z => g1 a j (fun e => z (by unfold mRow; omega))))
      refine ps_iload rfl rfl ?_
      refine ps_aload rfl rfl ?_
      refine pw_k rfl rfl rfl rfl ⟨Nat.zero_le _, Nat.zero_le _⟩ ?_
      refine M_highX V' ?_
      refine ps_icmpt rfl (decide_eq_true (nI_le (by omega) (by omega))) ?_
      refine pw_c rfl ?_
      refine ps_istore rfl rfl ?_
      exact l2 (S.n 2) 0 (by omega) I' _ g1 g2
    | succ d ih =>
      intro y hy I' u2 g1 g2
      have V' : mV k P S sh ng I' := mV_o V0 (mCg_r (fun a j z => g1 a j (fun e => z (by unfold mRow; omega))))
      have inner : ∀ e x, x + e = P.w → ∀ I' : Nat → Nat → Int32, (∀ a j, ¬ a = 296 → I' a j = I0 a j) → (∀ j, j < P.w * y + x → I' 296 j = msR P S sh ng j) → pm_W (g_P ys) 237 16 [.ref 275, .int (nI y), .int (nI x)] [] (I', L, g_R s, 306) (0, 0) Q := by
        intro e
        induction e with
        | zero =>
          intro x hx I' g1 g2
          have ex : x = P.w := by omega
          subst ex
          have V' : mV k P S sh ng I' := mV_o V0 (mCg_r (fun a j z => g1 a j (fun e => z (by unfold mRow; omega))))
          refine ps_iload rfl rfl ?_
          refine ps_aload rfl rfl ?_
          refine pw_k rfl rfl rfl rfl ⟨Nat.zero_le _, Nat.zero_le _⟩ ?_
          refine M_wideX V' ?_
          refine ps_icmpt rfl (decide_eq_true (nI_le (by omega) (by omega))) ?_
          refine ps_iinc rfl rfl ?_
          refine ps_goto rfl ?_
          rw [show nI y + Int32.ofInt 1 = nI (y + 1) from nI_1 y]
          exact ih (y + 1) (by omega) I' _ g1 (fun j hj => g2 j (by rw [Nat.mul_add, Nat.mul_one] at hj; exact hj))
        | succ e ihe =>
          intro x hx I' g1 g2
          have V' : mV k P S sh ng I' := mV_o V0 (mCg_r (fun a j z => g1 a j (fun e => z (by unfold mRow; omega))))
          have b1 := (row_in (w := P.w) (v := P.v) (y := y) (x := x) (by omega) (by omega)).1
          obtain ⟨q1, q2⟩ := sq_ix (p := P.w) (x := x) (y := y) (by omega)
          refine ps_iload rfl rfl ?_
          refine ps_aload rfl rfl ?_
          refine pw_k rfl rfl rfl rfl ⟨Nat.zero_le _, Nat.zero_le _⟩ ?_
          refine M_wideX V' ?_
          refine ps_icmpf rfl (decide_eq_false (nI_ge (by omega) (by omega))) ?_
          refine ps_aload rfl rfl ?_
          refine ps_gfr 11 28 rfl rfl rfl rfl rfl (rfl) ?_
          refine ps_aload rfl rfl ?_
          refine ps_iload rfl rfl ?_
          refine ps_iload rfl rfl ?_
          refine pw_k rfl rfl rfl rfl ⟨Nat.zero_le _, Nat.zero_le _⟩ ?_
          refine M_cellAtN V' (by omega) (by omega) ?_
          rw [cxy_inn (by omega) (by omega)]
          refine ps_aload rfl rfl ?_
          refine ps_iload rfl rfl ?_
          refine ps_iload rfl rfl ?_
          refine pw_k rfl rfl rfl rfl ⟨Nat.zero_le _, Nat.zero_le _⟩ ?_
          refine M_wholeAtX V' (by omega) (by omega) ?_
          refine ps_iast (P.w * y + x) rfl rfl rfl (rfl) (by omega) ?_
          refine ps_iinc rfl rfl ?_
          refine ps_goto rfl ?_
          rw [show nI x + Int32.ofInt 1 = nI (x + 1) from nI_1 x]
          exact ihe (x + 1) (by omega) _ (fun a j z => (pu_o z).trans (g1 a j z)) (row_t (k := P.w * y + x) (G := msR P S sh ng) g2 (by unfold msR; rw [q1, q2]))
      refine ps_iload rfl rfl ?_
      refine ps_aload rfl rfl ?_
      refine pw_k rfl rfl rfl rfl ⟨Nat.zero_le _, Nat.zero_le _⟩ ?_
      refine M_highX V' ?_
      refine ps_icmpf rfl (decide_eq_false (nI_ge (by omega) (by omega))) ?_
      refine pw_c rfl ?_
      refine ps_istore rfl rfl ?_
      exact inner P.w 0 (by omega) I' g1 g2
  refine pw_c rfl ?_
  refine ps_istore rfl rfl ?_
  exact l1 P.v 0 (by omega) I0 _ (fun _ _ _ => rfl) (fun j hj => absurd hj (by omega))
end TW
