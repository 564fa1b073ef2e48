/-! BY HAND: the model's camera, exactly, second: decoded, lights, errors, the greatest -/
section TX
variable {I I' I1 I2 J : Nat → Nat → Int32} {L : Nat → Nat → Int64} {s : Nat → Option Nat} {Q : List Value → pm_H → Prop} {ys : List Int32} {k sh : Nat} {ng : Bool} {P : sPl} {S : sS} {f g : Nat → Int32} {h : pm_H} {o : Nat}
theorem M_decodedAtX {x y : Nat} (hV : mV k P S sh ng I) (hO : ∀ I L, pm_sh (g_P ys) (I, L, g_R s, 306) o = some (.inr (0, 289))) (hf : ∀ i, i < P.w * P.v → I o i = f i) (hx : x < 300) (hy : y < 300) (kk : Q [.int (wtF P f (x + sh) y)] (I, L, g_R s, 306)) : pm_W (g_P ys) 245 0 [.ref 275, .ref o, .int (nI x), .int (nI y), .retAddr 0, .retAddr 0, .retAddr 0] [] (I, L, g_R s, 306) (0, 0) Q := by
  obtain ⟨wb, vb, w0, v0, n9⟩ := mV_b hV
  have hP := hV.1
  have hr := hV.2.1
  have u1 := hV.2.2.2.2.2.2.1
  have u2 := hV.2.2.2.2.2.2.2.1
  have u4 := hV.2.2.2.2.2.2.2.2.2
  obtain ⟨G, hG⟩ : ∃ G : Nat → Int32, G = fun c => f c * P.we (cxy P.w P.v (((c % P.w : Nat) : Int) - ((x + sh : Nat) : Int)) (((c / P.w : Nat) : Int) - (y : Int))) := ⟨_, rfl⟩
  have outer : ∀ d v, v + d = P.v → ∀ u : Value, pm_W (g_P ys) 245 6 [.ref 275, .ref o, .int (nI x), .int (nI y), .int (suI G (P.w * v)), .int (nI v), u] [] (I, L, g_R s, 306) (0, 0) Q := by
    intro d
    induction d with
    | zero =>
      intro v hv u
      have ev : v = P.v := by omega
      subst ev
      refine ps_iload rfl rfl ?_
      refine ps_aload rfl rfl ?_
      refine pw_k rfl rfl rfl rfl ⟨Nat.zero_le _, Nat.zero_le _⟩ ?_
      refine M_highX hV ?_
      refine ps_icmpt rfl (decide_eq_true (nI_le (by omega) (by omega))) ?_
      refine ps_iload rfl rfl ?_
      refine ps_iret rfl rfl ?_
      rw [hG]
      exact kk
    | succ d ih =>
      intro v hv u
      have inner : ∀ e u, u + e = P.w → pm_W (g_P ys) 245 18 [.ref 275, .ref o, .int (nI x), .int (nI y), .int (suI G (P.w * v + u)), .int (nI v), .int (nI u)] [] (I, L, g_R s, 306) (0, 0) Q := by
        intro e
        induction e with
        | zero =>
          intro u hu
          have eu : u = P.w := by omega
          subst eu
          refine ps_iload rfl rfl ?_
          refine ps_aload rfl rfl ?_
          refine pw_k rfl rfl rfl rfl ⟨Nat.zero_le _, Nat.zero_le _⟩ ?_
          refine M_wideX hV ?_
          refine ps_icmpt rfl (decide_eq_true (nI_le (by omega) (by omega))) ?_
          refine ps_iinc rfl rfl ?_
          refine ps_goto rfl ?_
          rw [show nI v + Int32.ofInt 1 = nI (v + 1) from nI_1 v]
          rw [show P.w * v + P.w = P.w * (v + 1) by rw [Nat.mul_add, Nat.mul_one]]
          exact ih (v + 1) (by omega) _
        | succ e ihe =>
          intro u hu
          have b1 := (row_in (w := P.w) (v := P.v) (y := v) (x := u) (by omega) (by omega)).1
          obtain ⟨q1, q2⟩ := sq_ix (p := P.w) (x := u) (y := v) (by omega)
          have cl := cxy_lt w0 v0 ((u : Int) - (x : Int) - (sh : Int)) ((v : Int) - (y : Int))
          have z := ihe (u + 1) (by omega)
          have eG : G (P.w * v + u) = f (P.w * v + u) * P.we (cxy P.w P.v ((u : Int) - (x : Int) - (sh : Int)) ((v : Int) - (y : Int))) := by
            rw [hG]
            show f (P.w * v + u) * P.we (cxy P.w P.v ((((P.w * v + u) % P.w : Nat) : Int) - ((x + sh : Nat) : Int)) ((((P.w * v + u) / P.w : Nat) : Int) - (y : Int))) = _
            rw [q1, q2, show (u : Int) - ((x + sh : Nat) : Int) = (u : Int) - (x : Int) - (sh : Int) by omega]
          rw [show P.w * v + (u + 1) = P.w * v + u + 1 from rfl, suI_s, eG] at z
          refine ps_iload rfl rfl ?_
          refine ps_aload rfl rfl ?_
          refine pw_k rfl rfl rfl rfl ⟨Nat.zero_le _, Nat.zero_le _⟩ ?_
          refine M_wideX hV ?_
          refine ps_icmpf rfl (decide_eq_false (nI_ge (by omega) (by omega))) ?_
          refine ps_iload rfl rfl ?_
          refine ps_aload rfl rfl ?_
          refine ps_aload rfl rfl ?_
          refine pw_k rfl rfl rfl rfl ⟨Nat.zero_le _, Nat.zero_le _⟩ ?_
          refine M_wideX hV ?_
          refine ps_iload rfl rfl ?_
          refine ps_ar rfl rfl rfl rfl rfl ?_
          rw [pk_mul]
          refine ps_iload rfl rfl ?_
          refine ps_ar rfl rfl rfl rfl rfl ?_
          rw [nI_add]
          refine ps_iald (P.w * v + u) rfl (hO _ _) rfl rfl (by omega) ?_
          rw [show ((I, L, g_R s, 306) : pm_H).1 o (P.w * v + u) = f (P.w * v + u) from hf _ b1]
          refine ps_aload rfl rfl ?_
          refine ps_aload rfl rfl ?_
          refine ps_gfi 11 24 rfl rfl rfl rfl rfl ?_
          rw [show ((I, L, g_R s, 306) : pm_H).1 275 24 = nI k from u1]
          refine ps_iload rfl rfl ?_
          refine ps_iload rfl rfl ?_
          refine ps_ar rfl rfl rfl rfl rfl ?_
          refine ps_aload rfl rfl ?_
          refine ps_gfi 11 25 rfl rfl rfl rfl rfl ?_
          rw [show ((I, L, g_R s, 306) : pm_H).1 275 25 = nI sh from u2]
          refine ps_ar rfl rfl rfl rfl rfl ?_
          refine ps_iload rfl rfl ?_
          refine ps_iload rfl rfl ?_
          refine ps_ar rfl rfl rfl rfl rfl ?_
          rw [show nI u - nI x - nI sh = iI ((u : Int) - (x : Int) - (sh : Int)) from by rw [← iI_nat, ← iI_nat x, ← iI_nat sh, iI_sub, iI_sub], show nI v - nI y = iI ((v : Int) - (y : Int)) from by rw [← iI_nat, ← iI_nat y, iI_sub]]
          refine pw_k rfl rfl rfl rfl ⟨Nat.zero_le _, Nat.zero_le _⟩ ?_
          refine M_weightOf hP (by omega) (by omega) ?_
          rw [(hr _ cl).2]
          refine ps_ar rfl rfl rfl rfl rfl ?_
          refine ps_ar rfl rfl rfl rfl rfl ?_
          refine ps_istore rfl rfl ?_
          refine ps_iinc rfl rfl ?_
          refine ps_goto rfl ?_
          rw [show nI u + Int32.ofInt 1 = nI (u + 1) from nI_1 u]
          exact z
      refine ps_iload rfl rfl ?_
      refine ps_aload rfl rfl ?_
      refine pw_k rfl rfl rfl rfl ⟨Nat.zero_le _, Nat.zero_le _⟩ ?_
      refine M_highX hV ?_
      refine ps_icmpf rfl (decide_eq_false (nI_ge (by omega) (by omega))) ?_
      refine pw_c rfl ?_
      refine ps_istore rfl rfl ?_
      exact inner P.w 0 (by omega)
  refine pw_c rfl ?_
  refine ps_istore rfl rfl ?_
  refine pw_c rfl ?_
  refine ps_istore rfl rfl ?_
  exact outer P.v 0 (by omega) _
theorem wtF_dec (i : Nat) : wtF P f (i % P.w) (i / P.w) = decF P f i := rfl
theorem M_decodesX (hV : mV k P S sh ng I) (hO : ∀ I L, pm_sh (g_P ys) (I, L, g_R s, 306) o = some (.inr (0, 289))) (od : ¬ o = 298) (hf : ∀ i, i < P.w * P.v → I o i = f i) (kk : ∀ I' : Nat → Nat → Int32, (∀ a j, ¬ a = 298 → I' a j = I a j) → (∀ i, i < P.w * P.v → I' 298 i = wtF P f (i % P.w + sh) (i / P.w)) → Q [] (I', L, g_R s, 306)) : pm_W (g_P ys) 255 0 [.ref 275, .ref o, .retAddr 0, .retAddr 0] [] (I, L, g_R s, 306) (0, 0) Q := by
  obtain ⟨wb, vb, w0, v0, n9⟩ := mV_b hV
  obtain ⟨G, hG⟩ : ∃ G : Nat → Int32, G = fun i => wtF P f (i % P.w + sh) (i / P.w) := ⟨_, rfl⟩
  have l1 : ∀ d y, y + d = P.v → ∀ I' (u2 : Value), (∀ a j, ¬ a = 298 → I' a j = I a j) → (∀ j, j < P.w * y → I' 298 j = G j) → pm_W (g_P ys) 255 2 [.ref 275, .ref o, .int (nI y), u2] [] (I', L, g_R s, 306) (0, 0) Q := by
    intro d
    induction d with
    | zero =>
      intro y hy I' u2 g1 g2
      have ey : y = P.v := by omega
      subst ey
      have V' : mV k P S sh ng I' := mV_o hV (mCg_r (fun a j z => g1 a j (fun e => z (by unfold mRow; omega))))
      refine ps_iload rfl rfl ?_
      refine ps_aload rfl rfl ?_
      refine pw_k rfl rfl rfl rfl ⟨Nat.zero_le _, Nat.zero_le _⟩ ?_
      refine M_highX V' ?_
      refine ps_icmpt rfl (decide_eq_true (nI_le (by omega) (by omega))) ?_
      refine ps_vret rfl rfl ?_
      rw [hG] at g2
      exact kk I' g1 g2
    | succ d ih =>
      intro y hy I' u2 g1 g2
      have V' : mV k P S sh ng I' := mV_o hV (mCg_r (fun a j z => g1 a j (fun e => z (by unfold mRow; omega))))
      have inner : ∀ e x, x + e = P.w → ∀ I' : Nat → Nat → Int32, (∀ a j, ¬ a = 298 → I' a j = I a j) → (∀ j, j < P.w * y + x → I' 298 j = G j) → pm_W (g_P ys) 255 12 [.ref 275, .ref o, .int (nI y), .int (nI x)] [] (I', L, g_R s, 306) (0, 0) Q := by
        intro e
        induction e with
        | zero =>
          intro x hx I' g1 g2
          have ex : x = P.w := by omega
          subst ex
          have V' : mV k P S sh ng I' := mV_o hV (mCg_r (fun a j z => g1 a j (fun e => z (by unfold mRow; omega))))
          refine ps_iload rfl rfl ?_
          refine ps_aload rfl rfl ?_
          refine pw_k rfl rfl rfl rfl ⟨Nat.zero_le _, Nat.zero_le _⟩ ?_
          refine M_wideX V' ?_
          refine ps_icmpt rfl (decide_eq_true (nI_le (by omega) (by omega))) ?_
          refine ps_iinc rfl rfl ?_
          refine ps_goto rfl ?_
          rw [show nI y + Int32.ofInt 1 = nI (y + 1) from nI_1 y]
          exact ih (y + 1) (by omega) I' _ g1 (fun j hj => g2 j (by rw [Nat.mul_add, Nat.mul_one] at hj; exact hj))
        | succ e ihe =>
          intro x hx I' g1 g2
          have V' : mV k P S sh ng I' := mV_o hV (mCg_r (fun a j z => g1 a j (fun e => z (by unfold mRow; omega))))
          have b1 := (row_in (w := P.w) (v := P.v) (y := y) (x := x) (by omega) (by omega)).1
          obtain ⟨q1, q2⟩ := sq_ix (p := P.w) (x := x) (y := y) (by omega)
          refine ps_iload rfl rfl ?_
          refine ps_aload rfl rfl ?_
          refine pw_k rfl rfl rfl rfl ⟨Nat.zero_le _, Nat.zero_le _⟩ ?_
          refine M_wideX V' ?_
          refine ps_icmpf rfl (decide_eq_false (nI_ge (by omega) (by omega))) ?_
          refine ps_aload rfl rfl ?_
          refine ps_gfr 11 30 rfl rfl rfl rfl rfl (rfl) ?_
          refine ps_aload rfl rfl ?_
          refine ps_iload rfl rfl ?_
          refine ps_iload rfl rfl ?_
          refine pw_k rfl rfl rfl rfl ⟨Nat.zero_le _, Nat.zero_le _⟩ ?_
          refine M_cellAtN V' (by omega) (by omega) ?_
          rw [cxy_inn (by omega) (by omega)]
          refine ps_aload rfl rfl ?_
          refine ps_aload rfl rfl ?_
          refine ps_iload rfl rfl ?_
          refine ps_iload rfl rfl ?_
          refine pw_k rfl rfl rfl rfl ⟨Nat.zero_le _, Nat.zero_le _⟩ ?_
          refine M_decodedAtX (f := f) V' hO (fun i hi => (g1 _ _ od).trans (hf i hi)) (by omega) (by omega) ?_
          refine ps_iast (P.w * y + x) rfl rfl rfl (rfl) (by omega) ?_
          refine ps_iinc rfl rfl ?_
          refine ps_goto rfl ?_
          rw [show nI x + Int32.ofInt 1 = nI (x + 1) from nI_1 x]
          exact ihe (x + 1) (by omega) _ (fun a j z => (pu_o z).trans (g1 a j z)) (row_t (k := P.w * y + x) (G := G) g2 (by
            rw [hG]
            show _ = wtF P f ((P.w * y + x) % P.w + sh) ((P.w * y + x) / P.w)
            rw [q1, q2]))
      refine ps_iload rfl rfl ?_
      refine ps_aload rfl rfl ?_
      refine pw_k rfl rfl rfl rfl ⟨Nat.zero_le _, Nat.zero_le _⟩ ?_
      refine M_highX V' ?_
      refine ps_icmpf rfl (decide_eq_false (nI_ge (by omega) (by omega))) ?_
      refine pw_c rfl ?_
      refine ps_istore rfl rfl ?_
      exact inner P.w 0 (by omega) I' g1 g2
  refine pw_c rfl ?_
  refine ps_istore rfl rfl ?_
  exact l1 P.v 0 (by omega) I _ (fun _ _ _ => rfl) (fun j hj => absurd hj (by omega))
theorem M_lostCellsX (hV : mV k P S sh ng I) (hl : ∀ i, i < P.w * P.v → I 295 i = g i) (h01 : ∀ i, g i = 0 ∨ g i = 1) (kk : Q [.int (suI g (P.w * P.v))] (I, L, g_R s, 306)) : pm_W (g_P ys) 248 0 [.ref 275, .retAddr 0, .retAddr 0] [] (I, L, g_R s, 306) (0, 0) Q := by
  obtain ⟨wb, vb, w0, v0, n9⟩ := mV_b hV
  have loop : ∀ d i, i + d = P.w * P.v → pm_W (g_P ys) 248 4 [.ref 275, .int (suI g i), .int (nI i)] [] (I, L, g_R s, 306) (0, 0) Q := by
    intro d
    induction d with
    | zero =>
      intro i hi
      have ei : i = P.w * P.v := by omega
      subst ei
      refine ps_iload rfl rfl ?_
      refine ps_aload rfl rfl ?_
      refine pw_k rfl rfl rfl rfl ⟨Nat.zero_le _, Nat.zero_le _⟩ ?_
      refine M_cells0X hV ?_
      refine ps_icmpt rfl (decide_eq_true (nI_le (by omega) (by omega))) ?_
      refine ps_iload rfl rfl ?_
      refine ps_iret rfl rfl ?_
      exact kk
    | succ d ih =>
      intro i hi
      have z := ih (i + 1) (by omega)
      rw [suI_s] at z
      refine ps_iload rfl rfl ?_
      refine ps_aload rfl rfl ?_
      refine pw_k rfl rfl rfl rfl ⟨Nat.zero_le _, Nat.zero_le _⟩ ?_
      refine M_cells0X hV ?_
      refine ps_icmpf rfl (decide_eq_false (nI_ge (by omega) (by omega))) ?_
      refine ps_iload rfl rfl ?_
      refine ps_aload rfl rfl ?_
      refine ps_gfr 11 27 rfl rfl rfl rfl rfl (rfl) ?_
      refine ps_iload rfl rfl ?_
      refine ps_bald (i) rfl rfl (Or.inr rfl) rfl (rfl) (by omega) ?_
      rw [show ((I, L, g_R s, 306) : pm_H).1 295 i = g i from hl i (by omega)]
      rcases h01 i with e0 | e1
      · rw [e0] at z ⊢
        refine ps_ift rfl (by decide) ?_
        refine pw_c rfl ?_
        refine ps_ar rfl rfl rfl rfl rfl ?_
        refine ps_istore rfl rfl ?_
        refine ps_iinc rfl rfl ?_
        refine ps_goto rfl ?_
        rw [show nI i + Int32.ofInt 1 = nI (i + 1) from nI_1 i]
        exact z
      · rw [e1] at z ⊢
        refine ps_iff rfl (by decide) ?_
        refine pw_c rfl ?_
        refine ps_goto rfl ?_
        refine ps_ar rfl rfl rfl rfl rfl ?_
        refine ps_istore rfl rfl ?_
        refine ps_iinc rfl rfl ?_
        refine ps_goto rfl ?_
        rw [show nI i + Int32.ofInt 1 = nI (i + 1) from nI_1 i]
        exact z
  refine pw_c rfl ?_
  refine ps_istore rfl rfl ?_
  refine pw_c rfl ?_
  refine ps_istore rfl rfl ?_
  exact loop (P.w * P.v) 0 (by omega)
theorem M_lightX (hV : mV k P S sh ng I) (hf : ∀ i, i < P.w * P.v → I 297 i = f i) (hl : ∀ i, i < P.w * P.v → I 295 i = g i) (h01 : ∀ i, g i = 0 ∨ g i = 1) (kk : Q [.int (liF P S f (suI g (P.w * P.v)))] (I, L, g_R s, 306)) : pm_W (g_P ys) 247 0 [.ref 275, .retAddr 0, .retAddr 0] [] (I, L, g_R s, 306) (0, 0) Q := by
  obtain ⟨wb, vb, w0, v0, n9⟩ := mV_b hV
  have hS := hV.2.2.2.1
  have loop : ∀ d i, i + d = P.w * P.v → pm_W (g_P ys) 247 4 [.ref 275, .int (suI f i), .int (nI i)] [] (I, L, g_R s, 306) (0, 0) Q := by
    intro d
    induction d with
    | zero =>
      intro i hi
      have ei : i = P.w * P.v := by omega
      subst ei
      refine ps_iload rfl rfl ?_
      refine ps_aload rfl rfl ?_
      refine pw_k rfl rfl rfl rfl ⟨Nat.zero_le _, Nat.zero_le _⟩ ?_
      refine M_cells0X hV ?_
      refine ps_icmpt rfl (decide_eq_true (nI_le (by omega) (by omega))) ?_
      refine ps_iload rfl rfl ?_
      refine ps_aload rfl rfl ?_
      refine ps_gfr 11 16 rfl rfl rfl rfl rfl (rfl) ?_
      refine pw_c rfl ?_
      refine ps_iald (3) rfl rfl rfl (rfl) (by omega) ?_
      rw [show ((I, L, g_R s, 306) : pm_H).1 288 3 = S.bk from hS.2.1]
      refine ps_aload rfl rfl ?_
      refine pw_k rfl rfl rfl rfl ⟨Nat.zero_le _, Nat.zero_le _⟩ ?_
      refine M_cells0X hV ?_
      refine ps_aload rfl rfl ?_
      refine pw_k rfl rfl rfl rfl ⟨Nat.zero_le _, Nat.zero_le _⟩ ?_
      refine M_lostCellsX hV hl h01 ?_
      refine ps_ar rfl rfl rfl rfl rfl ?_
      refine ps_ar rfl rfl rfl rfl rfl ?_
      refine ps_ar rfl rfl rfl rfl rfl ?_
      refine ps_iret rfl rfl ?_
      exact kk
    | succ d ih =>
      intro i hi
      refine ps_iload rfl rfl ?_
      refine ps_aload rfl rfl ?_
      refine pw_k rfl rfl rfl rfl ⟨Nat.zero_le _, Nat.zero_le _⟩ ?_
      refine M_cells0X hV ?_
      refine ps_icmpf rfl (decide_eq_false (nI_ge (by omega) (by omega))) ?_
      refine ps_iload rfl rfl ?_
      refine ps_aload rfl rfl ?_
      refine ps_gfr 11 29 rfl rfl rfl rfl rfl (rfl) ?_
      refine ps_iload rfl rfl ?_
      refine ps_iald (i) rfl rfl rfl (rfl) (by omega) ?_
      rw [show ((I, L, g_R s, 306) : pm_H).1 297 i = f i from hf i (by omega)]
      refine ps_ar rfl rfl rfl rfl rfl ?_
      refine ps_istore rfl rfl ?_
      refine ps_iinc rfl rfl ?_
      refine ps_goto rfl ?_
      rw [show nI i + Int32.ofInt 1 = nI (i + 1) from nI_1 i]
      exact ih (i + 1) (by omega)
  refine pw_c rfl ?_
  refine ps_istore rfl rfl ?_
  refine pw_c rfl ?_
  refine ps_istore rfl rfl ?_
  exact loop (P.w * P.v) 0 (by omega)
theorem M_downByX (a b : Int32) (hb : ¬ b = 0) (kk : Q [.int (fdI a b)] h) : pm_W (g_P ys) 249 0 [.int a, .int b, .retAddr 0] [] h (0, 0) Q := by
  have e0 : (0 : Int32).toInt = 0 := rfl
  unfold fdI at kk
  refine ps_iload rfl rfl ?_
  refine ps_iload rfl rfl ?_
  refine ps_div rfl (hb) ?_
  refine ps_istore rfl rfl ?_
  refine ps_iload rfl rfl ?_
  refine ps_iload rfl rfl ?_
  refine ps_rem rfl (hb) ?_
  by_cases h1 : a - a / b * b = 0
  · rw [if_neg (fun z => z.1 h1)] at kk
    refine ps_ift rfl (decide_eq_true h1) ?_
    refine ps_iload rfl rfl ?_
    refine ps_iret rfl rfl ?_
    exact kk
  · by_cases ha : a < 0
    · have ha' := (i_lt _ _).mp ha
      by_cases hb0 : b < 0
      · have hb' := (i_lt _ _).mp hb0
        rw [decide_eq_true ha, decide_eq_true hb0, if_neg (fun z => z.2 rfl)] at kk
        refine ps_iff rfl (decide_eq_false h1) ?_
        refine ps_iload rfl rfl ?_
        refine ps_iff rfl (decide_eq_false (fun z => by have z := (i_le _ _).mp z; omega)) ?_
        refine pw_c rfl ?_
        refine ps_goto rfl ?_
        refine ps_iload rfl rfl ?_
        refine ps_iff rfl (decide_eq_false (fun z => by have z := (i_le _ _).mp z; omega)) ?_
        refine pw_c rfl ?_
        refine ps_goto rfl ?_
        refine ps_icmpt rfl (by decide) ?_
        refine ps_iload rfl rfl ?_
        refine ps_iret rfl rfl ?_
        exact kk
      · have hb' : ¬ b.toInt < (0 : Int32).toInt := fun z => hb0 ((i_lt _ _).mpr z)
        rw [decide_eq_true ha, decide_eq_false hb0, if_pos ⟨h1, by decide⟩] at kk
        refine ps_iff rfl (decide_eq_false h1) ?_
        refine ps_iload rfl rfl ?_
        refine ps_iff rfl (decide_eq_false (fun z => by have z := (i_le _ _).mp z; omega)) ?_
        refine pw_c rfl ?_
        refine ps_goto rfl ?_
        refine ps_iload rfl rfl ?_
        refine ps_ift rfl (decide_eq_true ((i_le _ _).mpr (by omega))) ?_
        refine pw_c rfl ?_
        refine ps_icmpf rfl (by decide) ?_
        refine ps_iload rfl rfl ?_
        refine pw_c rfl ?_
        refine ps_ar rfl rfl rfl rfl rfl ?_
        refine ps_goto rfl ?_
        refine ps_iret rfl rfl ?_
        exact kk
    · have ha' : ¬ a.toInt < (0 : Int32).toInt := fun z => ha ((i_lt _ _).mpr z)
      by_cases hb0 : b < 0
      · have hb' := (i_lt _ _).mp hb0
        rw [decide_eq_false ha, decide_eq_true hb0, if_pos ⟨h1, by decide⟩] at kk
        refine ps_iff rfl (decide_eq_false h1) ?_
        refine ps_iload rfl rfl ?_
        refine ps_ift rfl (decide_eq_true ((i_le _ _).mpr (by omega))) ?_
        refine pw_c rfl ?_
        refine ps_iload rfl rfl ?_
        refine ps_iff rfl (decide_eq_false (fun z => by have z := (i_le _ _).mp z; omega)) ?_
        refine pw_c rfl ?_
        refine ps_goto rfl ?_
        refine ps_icmpf rfl (by decide) ?_
        refine ps_iload rfl rfl ?_
        refine pw_c rfl ?_
        refine ps_ar rfl rfl rfl rfl rfl ?_
        refine ps_goto rfl ?_
        refine ps_iret rfl rfl ?_
        exact kk
      · have hb' : ¬ b.toInt < (0 : Int32).toInt := fun z => hb0 ((i_lt _ _).mpr z)
        rw [decide_eq_false ha, decide_eq_false hb0, if_neg (fun z => z.2 rfl)] at kk
        refine ps_iff rfl (decide_eq_false h1) ?_
        refine ps_iload rfl rfl ?_
        refine ps_ift rfl (decide_eq_true ((i_le _ _).mpr (by omega))) ?_
        refine pw_c rfl ?_
        refine ps_iload rfl rfl ?_
        refine ps_ift rfl (decide_eq_true ((i_le _ _).mpr (by omega))) ?_
        refine pw_c rfl ?_
        refine ps_icmpt rfl (by decide) ?_
        refine ps_iload rfl rfl ?_
        refine ps_iret rfl rfl ?_
        exact kk
/-- the model knows the SIDES of the PLATE k -/
def mSk (I : Nat → Nat → Int32) (k : Nat) (P : sPl) : Prop := I 294 k = 1 ∧ I 293 k = sdF P 0 ∧ (2 ≤ P.w * P.v → I 291 k = lsS P ∧ I 292 k = gsS P)
theorem hoP_m (hV : mV k P S sh ng I) : suI (fun c => I 280 (289 * k + c)) (P.w * P.v) = hoP P := suI_congr (fun c hc => (hV.2.1 c hc).1)
theorem weP_m (hV : mV k P S sh ng I) : suI (fun c => I 282 (289 * k + c)) (P.w * P.v) = weP P := suI_congr (fun c hc => (hV.2.1 c hc).2)
theorem i_sub3 (a b c : Int32) : a - b - c = a - (b + c) := by
  rw [iI_of a, iI_of b, iI_of c, iI_sub, iI_sub, iI_add, iI_sub]
  congr 1
  omega
theorem rsF_m {v l : Int32} (cr : crP P) : fdI (v - lsS P * fdI l (hoP P) - S.bk * weP P) (sdF P 0 - lsS P) = rsF P v (flF P S l) := by
  have n : ¬ sdF P 0 - lsS P = 0 := fun z => cr.2.2.2 ((i_sb0 _ _).mp z)
  unfold rsF flF lbF
  rw [if_neg n, if_pos (show 0 < (hoP P).toInt from cr.2.1), i_sub3]
theorem M_restoredFromX (hV : mV k P S sh ng I) (cr : crP P) (hk : mSk I k P) (hf : ∀ i, i < P.w * P.v → I 297 i = f i) (hl : ∀ i, i < P.w * P.v → I 295 i = g i) (h01 : ∀ i, g i = 0 ∨ g i = 1) (v : Int32) (kk : Q [.int (rsF P v (flF P S (liF P S f (suI g (P.w * P.v)))))] (I, L, g_R s, 306)) : pm_W (g_P ys) 246 0 [.ref 275, .int v, .retAddr 0] [] (I, L, g_R s, 306) (0, 0) Q := by
  obtain ⟨wb, vb, w0, v0, n9⟩ := mV_b hV
  have hP := hV.1
  have k6 := hP.1
  have hS := hV.2.2.2.1
  have u1 := hV.2.2.2.2.2.2.1
  have e0 : (0 : Int32).toInt = 0 := rfl
  have hh : ¬ hoP P = 0 := fun z => by have y := cr.2.1; unfold hoP at z; rw [z] at y; omega
  have hd : ¬ sdF P 0 - lsS P = 0 := fun z => cr.2.2.2 ((i_sb0 _ _).mp z)
  refine ps_aload rfl rfl ?_
  refine ps_gfr 11 20 rfl rfl rfl rfl rfl (rfl) ?_
  refine ps_aload rfl rfl ?_
  refine ps_gfi 11 24 rfl rfl rfl rfl rfl ?_
  rw [show ((I, L, g_R s, 306) : pm_H).1 275 24 = nI k from u1]
  refine ps_iald (k) rfl rfl rfl (rfl) (by omega) ?_
  rw [show ((I, L, g_R s, 306) : pm_H).1 291 k = lsS P from (hk.2.2 cr.1).1]
  refine ps_istore rfl rfl ?_
  refine ps_iload rfl rfl ?_
  refine ps_iload rfl rfl ?_
  refine ps_aload rfl rfl ?_
  refine pw_k rfl rfl rfl rfl ⟨Nat.zero_le _, Nat.zero_le _⟩ ?_
  refine M_lightX hV hf hl h01 ?_
  refine ps_aload rfl rfl ?_
  refine ps_aload rfl rfl ?_
  refine ps_gfi 11 24 rfl rfl rfl rfl rfl ?_
  rw [show ((I, L, g_R s, 306) : pm_H).1 275 24 = nI k from u1]
  refine pw_k rfl rfl rfl rfl ⟨Nat.zero_le _, Nat.zero_le _⟩ ?_
  refine M_holesOf k6 hP.2.1 hP.2.2.1 n9 ?_
  rw [hoP_m hV]
  refine pw_k rfl rfl rfl rfl ⟨Nat.zero_le _, Nat.zero_le _⟩ ?_
  refine M_downByX _ _ hh ?_
  refine ps_ar rfl rfl rfl rfl rfl ?_
  refine ps_ar rfl rfl rfl rfl rfl ?_
  refine ps_aload rfl rfl ?_
  refine ps_gfr 11 16 rfl rfl rfl rfl rfl (rfl) ?_
  refine pw_c rfl ?_
  refine ps_iald (3) rfl rfl rfl (rfl) (by omega) ?_
  rw [show ((I, L, g_R s, 306) : pm_H).1 288 3 = S.bk from hS.2.1]
  refine ps_aload rfl rfl ?_
  refine ps_aload rfl rfl ?_
  refine ps_gfi 11 24 rfl rfl rfl rfl rfl ?_
  rw [show ((I, L, g_R s, 306) : pm_H).1 275 24 = nI k from u1]
  refine pw_k rfl rfl rfl rfl ⟨Nat.zero_le _, Nat.zero_le _⟩ ?_
  refine M_weightsOf k6 hP.2.1 hP.2.2.1 n9 ?_
  rw [weP_m hV]
  refine ps_ar rfl rfl rfl rfl rfl ?_
  refine ps_ar rfl rfl rfl rfl rfl ?_
  refine ps_aload rfl rfl ?_
  refine ps_gfr 11 22 rfl rfl rfl rfl rfl (rfl) ?_
  refine ps_aload rfl rfl ?_
  refine ps_gfi 11 24 rfl rfl rfl rfl rfl ?_
  rw [show ((I, L, g_R s, 306) : pm_H).1 275 24 = nI k from u1]
  refine ps_iald (k) rfl rfl rfl (rfl) (by omega) ?_
  rw [show ((I, L, g_R s, 306) : pm_H).1 293 k = sdF P 0 from hk.2.1]
  refine ps_iload rfl rfl ?_
  refine ps_ar rfl rfl rfl rfl rfl ?_
  refine pw_k rfl rfl rfl rfl ⟨Nat.zero_le _, Nat.zero_le _⟩ ?_
  refine M_downByX _ _ hd ?_
  rw [rsF_m cr]
  refine ps_iret rfl rfl ?_
  exact kk
theorem M_trueAtX {x y : Nat} (hV : mV k P S sh ng I) (hx : x < P.w) (hy : y < P.v) (kk : Q [.int (truF P S (P.w * y + x))] (I, L, g_R s, 306)) : pm_W (g_P ys) 250 0 [.ref 275, .int (nI x), .int (nI y), .retAddr 0, .retAddr 0] [] (I, L, g_R s, 306) (0, 0) Q := by
  obtain ⟨wb, vb, w0, v0, n9⟩ := mV_b hV
  have hS := hV.2.2.2.1
  have ok := hV.2.2.2.2.1
  have on := hV.2.2.2.2.2.1
  have n8 : S.n 0 ≤ 8 := ok 0 (by omega)
  have loop : ∀ d i, i + d = S.n 0 → pm_W (g_P ys) 250 5 [.ref 275, .int (nI x), .int (nI y), .int (acR P S 0 (fun _ => 0) i (P.w * y + x)), .int (nI i)] [] (I, L, g_R s, 306) (0, 0) Q := by
    intro d
    induction d with
    | zero =>
      intro i hi
      have ei : i = S.n 0 := by omega
      subst ei
      refine ps_iload rfl rfl ?_
      refine ps_aload rfl rfl ?_
      refine ps_gfr 11 16 rfl rfl rfl rfl rfl (rfl) ?_
      refine pw_c rfl ?_
      refine ps_iald (0) rfl rfl rfl (rfl) (by omega) ?_
      rw [show ((I, L, g_R s, 306) : pm_H).1 288 0 = nI (S.n 0) from mSc_n hS (q := 0) (by omega)]
      refine ps_icmpt rfl (decide_eq_true (nI_le (by omega) (by omega))) ?_
      refine ps_iload rfl rfl ?_
      refine ps_iret rfl rfl ?_
      exact kk
    | succ d ih =>
      intro i hi
      have r0 : I 288 (5 + 3 * i) = S.sc 0 i 0 := mSc_r hS (q := 0) (j := 0) (by omega) (by omega) (by omega)
      have r1 : I 288 (5 + 3 * i + 1) = S.sc 0 i 1 := mSc_r hS (q := 0) (j := 1) (by omega) (by omega) (by omega)
      have r2 : I 288 (5 + 3 * i + 2) = S.sc 0 i 2 := mSc_r hS (q := 0) (j := 2) (by omega) (by omega) (by omega)
      have b0 := on 0 (by omega) i (by omega) 0 (by omega)
      have b1 := on 0 (by omega) i (by omega) 1 (by omega)
      have cl := cell_lt (P := P) w0 v0 (S.sc 0 i 0) (S.sc 0 i 1)
      have b9 := (row_in (w := P.w) (v := P.v) (y := y) (x := x) hy hx).1
      have z := ih (i + 1) (by omega)
      rw [acR] at z
      refine ps_iload rfl rfl ?_
      refine ps_aload rfl rfl ?_
      refine ps_gfr 11 16 rfl rfl rfl rfl rfl (rfl) ?_
      refine pw_c rfl ?_
      refine ps_iald (0) rfl rfl rfl (rfl) (by omega) ?_
      rw [show ((I, L, g_R s, 306) : pm_H).1 288 0 = nI (S.n 0) from mSc_n hS (q := 0) (by omega)]
      refine ps_icmpf rfl (decide_eq_false (nI_ge (by omega) (by omega))) ?_
      refine ps_iload rfl rfl ?_
      refine ps_aload rfl rfl ?_
      refine ps_aload rfl rfl ?_
      refine ps_gfr 11 16 rfl rfl rfl rfl rfl (rfl) ?_
      refine pw_c rfl ?_
      refine pw_c rfl ?_
      refine ps_iload rfl rfl ?_
      refine ps_ar rfl rfl rfl rfl rfl ?_
      refine ps_ar rfl rfl rfl rfl rfl ?_
      refine ps_iald (5 + 3 * i) rfl rfl rfl (by simp only [ni_lit, ni_l0, pk_mul, nI_add, Nat.add_zero]) (by omega) ?_
      rw [show ((I, L, g_R s, 306) : pm_H).1 288 (5 + 3 * i) = iI (S.sc 0 i 0).toInt from r0.trans (iI_of _)]
      refine ps_aload rfl rfl ?_
      refine ps_gfr 11 16 rfl rfl rfl rfl rfl (rfl) ?_
      refine pw_c rfl ?_
      refine pw_c rfl ?_
      refine ps_iload rfl rfl ?_
      refine ps_ar rfl rfl rfl rfl rfl ?_
      refine ps_ar rfl rfl rfl rfl rfl ?_
      refine pw_c rfl ?_
      refine ps_ar rfl rfl rfl rfl rfl ?_
      refine ps_iald (5 + 3 * i + 1) rfl rfl rfl (by simp only [ni_lit, ni_l0, pk_mul, nI_add, Nat.add_zero]) (by omega) ?_
      rw [show ((I, L, g_R s, 306) : pm_H).1 288 (5 + 3 * i + 1) = iI (S.sc 0 i 1).toInt from r1.trans (iI_of _)]
      refine pw_k rfl rfl rfl rfl ⟨Nat.zero_le _, Nat.zero_le _⟩ ?_
      refine M_cellAtX hV (by omega) (by omega) ?_
      refine ps_aload rfl rfl ?_
      refine ps_iload rfl rfl ?_
      refine ps_iload rfl rfl ?_
      refine pw_k rfl rfl rfl rfl ⟨Nat.zero_le _, Nat.zero_le _⟩ ?_
      refine M_cellAtN hV (by omega) (by omega) ?_
      rw [cxy_inn hx hy]
      by_cases c : P.w * y + x = cellF P (S.sc 0 i 0) (S.sc 0 i 1)
      · rw [if_pos c] at z
        refine ps_icmpf rfl (decide_eq_false (fun q => q (by rw [c]; rfl))) ?_
        refine ps_aload rfl rfl ?_
        refine ps_gfr 11 16 rfl rfl rfl rfl rfl (rfl) ?_
        refine pw_c rfl ?_
        refine pw_c rfl ?_
        refine ps_iload rfl rfl ?_
        refine ps_ar rfl rfl rfl rfl rfl ?_
        refine ps_ar rfl rfl rfl rfl rfl ?_
        refine pw_c rfl ?_
        refine ps_ar rfl rfl rfl rfl rfl ?_
        refine ps_iald (5 + 3 * i + 2) rfl rfl rfl (by simp only [ni_lit, ni_l0, pk_mul, nI_add, Nat.add_zero]) (by omega) ?_
        rw [show ((I, L, g_R s, 306) : pm_H).1 288 (5 + 3 * i + 2) = S.sc 0 i 2 from r2]
        refine ps_goto rfl ?_
        refine ps_ar rfl rfl rfl rfl rfl ?_
        refine ps_istore rfl rfl ?_
        refine ps_iinc rfl rfl ?_
        refine ps_goto rfl ?_
        rw [show nI i + Int32.ofInt 1 = nI (i + 1) from nI_1 i]
        exact z
      · rw [if_neg c] at z
        refine ps_icmpt rfl (decide_eq_true (fun q => c (nI_eqv (a := cellF P (S.sc 0 i 0) (S.sc 0 i 1)) (b := P.w * y + x) (by omega) (by omega) q).symm)) ?_
        refine pw_c rfl ?_
        refine ps_ar rfl rfl rfl rfl rfl ?_
        rw [Int32.add_zero]
        refine ps_istore rfl rfl ?_
        refine ps_iinc rfl rfl ?_
        refine ps_goto rfl ?_
        rw [show nI i + Int32.ofInt 1 = nI (i + 1) from nI_1 i]
        exact z
  refine pw_c rfl ?_
  refine ps_istore rfl rfl ?_
  refine pw_c rfl ?_
  refine ps_istore rfl rfl ?_
  exact loop (S.n 0) 0 (by omega)
theorem M_sumOfX (hV : mV k P S sh ng I) (hO : ∀ I L, pm_sh (g_P ys) (I, L, g_R s, 306) o = some (.inr (0, 289))) (hf : ∀ i, i < P.w * P.v → I o i = f i) (hl : ∀ i, i < P.w * P.v → I 295 i = g i) (h01 : ∀ i, g i = 0 ∨ g i = 1) (w : Bool) (kk : Q [.int (suI (fun i => if w = false ∨ g i = 1 then f i else 0) (P.w * P.v))] (I, L, g_R s, 306)) : pm_W (g_P ys) 253 0 [.ref 275, .ref o, .int (bI w), .retAddr 0, .retAddr 0] [] (I, L, g_R s, 306) (0, 0) Q := by
  obtain ⟨wb, vb, w0, v0, n9⟩ := mV_b hV
  have loop : ∀ d i, i + d = P.w * P.v → pm_W (g_P ys) 253 5 [.ref 275, .ref o, .int (bI w), .int (suI (fun i => if w = false ∨ g i = 1 then f i else 0) i), .int (nI i)] [] (I, L, g_R s, 306) (0, 0) Q := by
    intro d
    induction d with
    | zero =>
      intro i hi
      have ei : i = P.w * P.v := by omega
      subst ei
      refine ps_iload rfl rfl ?_
      refine ps_aload rfl rfl ?_
      refine pw_k rfl rfl rfl rfl ⟨Nat.zero_le _, Nat.zero_le _⟩ ?_
      refine M_cells0X hV ?_
      refine ps_icmpt rfl (decide_eq_true (nI_le (by omega) (by omega))) ?_
      refine ps_iload rfl rfl ?_
      refine ps_iret rfl rfl ?_
      exact kk
    | succ d ih =>
      intro i hi
      have z := ih (i + 1) (by omega)
      rw [suI_s] at z
      have take : (w = false ∨ g i = 1) → pm_W (g_P ys) 253 29 [.ref 275, .ref o, .int (bI w), .int (suI (fun i => if w = false ∨ g i = 1 then f i else 0) i), .int (nI i)] [.int (suI (fun i => if w = false ∨ g i = 1 then f i else 0) i)] (I, L, g_R s, 306) (0, 0) Q := by
        intro c
        rw [if_pos c] at z
        refine ps_aload rfl rfl ?_
        refine ps_iload rfl rfl ?_
        refine ps_iald i rfl (hO _ _) rfl rfl (by omega) ?_
        rw [show ((I, L, g_R s, 306) : pm_H).1 o i = f i from hf i (by omega)]
        refine ps_goto rfl ?_
        refine ps_ar rfl rfl rfl rfl rfl ?_
        refine ps_istore rfl rfl ?_
        refine ps_iinc rfl rfl ?_
        refine ps_goto rfl ?_
        rw [show nI i + Int32.ofInt 1 = nI (i + 1) from nI_1 i]
        exact z
      refine ps_iload rfl rfl ?_
      refine ps_aload rfl rfl ?_
      refine pw_k rfl rfl rfl rfl ⟨Nat.zero_le _, Nat.zero_le _⟩ ?_
      refine M_cells0X hV ?_
      cases w with
      | false =>
        refine ps_icmpf rfl (decide_eq_false (nI_ge (by omega) (by omega))) ?_
        refine ps_iload rfl rfl ?_
        refine ps_iload rfl rfl ?_
        refine ps_ift rfl (by decide) ?_
        exact take (Or.inl rfl)
      | true =>
        refine ps_icmpf rfl (decide_eq_false (nI_ge (by omega) (by omega))) ?_
        refine ps_iload rfl rfl ?_
        refine ps_iload rfl rfl ?_
        refine ps_iff rfl (by decide) ?_
        refine ps_aload rfl rfl ?_
        refine ps_gfr 11 27 rfl rfl rfl rfl rfl (rfl) ?_
        refine ps_iload rfl rfl ?_
        refine ps_bald (i) rfl rfl (Or.inr rfl) rfl (rfl) (by omega) ?_
        rw [show ((I, L, g_R s, 306) : pm_H).1 295 i = g i from hl i (by omega)]
        rcases h01 i with e0 | e1
        · rw [if_neg (by rw [e0]; decide), Int32.add_zero] at z
          rw [e0]
          refine ps_ift rfl (by decide) ?_
          refine pw_c rfl ?_
          refine ps_ar rfl rfl rfl rfl rfl ?_
          rw [Int32.add_zero]
          refine ps_istore rfl rfl ?_
          refine ps_iinc rfl rfl ?_
          refine ps_goto rfl ?_
          rw [show nI i + Int32.ofInt 1 = nI (i + 1) from nI_1 i]
          exact z
        · rw [e1]
          refine ps_iff rfl (by decide) ?_
          exact take (Or.inr e1)
  refine pw_c rfl ?_
  refine ps_istore rfl rfl ?_
  refine pw_c rfl ?_
  refine ps_istore rfl rfl ?_
  exact loop (P.w * P.v) 0 (by omega)
theorem M_errorNowX (hV : mV k P S 0 ng I) (cr : crP P) (hk : mSk I k P) (hf : ∀ i, i < P.w * P.v → I 297 i = f i) (hl : ∀ i, i < P.w * P.v → I 295 i = g i) (h01 : ∀ i, g i = 0 ∨ g i = 1) (kk : ∀ I' : Nat → Nat → Int32, (∀ a j, ¬ a = 298 → I' a j = I a j) → Q [.int (erF P S (decF P f) (liF P S f (suI g (P.w * P.v))))] (I', L, g_R s, 306)) : pm_W (g_P ys) 254 0 [.ref 275, .retAddr 0, .retAddr 0, .retAddr 0, .retAddr 0, .retAddr 0, .retAddr 0, .retAddr 0] [] (I, L, g_R s, 306) (0, 0) Q := by
  obtain ⟨wb, vb, w0, v0, n9⟩ := mV_b hV
  have e0 : (0 : Int32).toInt = 0 := rfl
  have hh : ¬ hoP P = 0 := fun z => by have y := cr.2.1; unfold hoP at z; rw [z] at y; omega
  have hd : ¬ sdF P 0 - lsS P = 0 := fun z => cr.2.2.2 ((i_sb0 _ _).mp z)
  refine ps_aload rfl rfl ?_
  refine ps_aload rfl rfl ?_
  refine ps_gfr 11 29 rfl rfl rfl rfl rfl (rfl) ?_
  refine pw_k rfl rfl rfl rfl ⟨Nat.zero_le _, Nat.zero_le _⟩ ?_
  refine M_decodesX (f := f) hV (fun _ _ => rfl) (by decide) hf (fun I1 c1 d1 => ?_)
  have V1 : mV k P S 0 ng I1 := mV_o hV (mCg_r (fun a j z => c1 a j (fun e => z (by unfold mRow; omega))))
  have hP := V1.1
  have k6 := hP.1
  have hS := V1.2.2.2.1
  have u1 := V1.2.2.2.2.2.2.1
  have d1 : ∀ i, i < P.w * P.v → I1 298 i = decF P f i := d1
  have f1 : ∀ i, i < P.w * P.v → I1 297 i = f i := fun i hi => (c1 _ _ (by decide)).trans (hf i hi)
  have l1 : ∀ i, i < P.w * P.v → I1 295 i = g i := fun i hi => (c1 _ _ (by decide)).trans (hl i hi)
  have kl : I1 291 k = lsS P := (c1 _ _ (by decide)).trans (hk.2.2 cr.1).1
  have kp : I1 293 k = sdF P 0 := (c1 _ _ (by decide)).trans hk.2.1
  obtain ⟨l, hl'⟩ : ∃ l, l = liF P S f (suI g (P.w * P.v)) := ⟨_, rfl⟩
  obtain ⟨G, hG⟩ : ∃ G : Nat → Int32, G = fun i => absI (rsF P (decF P f i) (flF P S l) - truF P S i) := ⟨_, rfl⟩
  refine pw_c rfl ?_
  refine ps_istore rfl rfl ?_
  refine ps_aload rfl rfl ?_
  refine pw_k rfl rfl rfl rfl ⟨Nat.zero_le _, Nat.zero_le _⟩ ?_
  refine M_lightX V1 f1 l1 h01 ?_
  refine ps_aload rfl rfl ?_
  refine ps_aload rfl rfl ?_
  refine ps_gfi 11 24 rfl rfl rfl rfl rfl ?_
  rw [show ((I1, L, g_R s, 306) : pm_H).1 275 24 = nI k from u1]
  refine pw_k rfl rfl rfl rfl ⟨Nat.zero_le _, Nat.zero_le _⟩ ?_
  refine M_holesOf k6 hP.2.1 hP.2.2.1 n9 ?_
  rw [hoP_m V1, ← hl']
  refine pw_k rfl rfl rfl rfl ⟨Nat.zero_le _, Nat.zero_le _⟩ ?_
  refine M_downByX _ _ hh ?_
  refine ps_istore rfl rfl ?_
  refine ps_aload rfl rfl ?_
  refine ps_gfr 11 20 rfl rfl rfl rfl rfl (rfl) ?_
  refine ps_aload rfl rfl ?_
  refine ps_gfi 11 24 rfl rfl rfl rfl rfl ?_
  rw [show ((I1, L, g_R s, 306) : pm_H).1 275 24 = nI k from u1]
  refine ps_iald (k) rfl rfl rfl (rfl) (by omega) ?_
  rw [show ((I1, L, g_R s, 306) : pm_H).1 291 k = lsS P from kl]
  refine ps_istore rfl rfl ?_
  refine ps_aload rfl rfl ?_
  refine ps_aload rfl rfl ?_
  refine ps_gfi 11 24 rfl rfl rfl rfl rfl ?_
  rw [show ((I1, L, g_R s, 306) : pm_H).1 275 24 = nI k from u1]
  refine pw_k rfl rfl rfl rfl ⟨Nat.zero_le _, Nat.zero_le _⟩ ?_
  refine M_weightsOf k6 hP.2.1 hP.2.2.1 n9 ?_
  rw [weP_m V1]
  have outer : ∀ d y, y + d = P.v → ∀ u6 u7 : Value, pm_W (g_P ys) 254 49 [.ref 275, .int (suI G (P.w * y)), .int (fdI l (hoP P)), .int (lsS P), .int (weP P), .int (nI y), u6, u7] [] (I1, L, g_R s, 306) (0, 0) Q := by
    intro d
    induction d with
    | zero =>
      intro y hy u6 u7
      have ey : y = P.v := by omega
      subst ey
      refine ps_iload rfl rfl ?_
      refine ps_aload rfl rfl ?_
      refine pw_k rfl rfl rfl rfl ⟨Nat.zero_le _, Nat.zero_le _⟩ ?_
      refine M_highX V1 ?_
      refine ps_icmpt rfl (decide_eq_true (nI_le (by omega) (by omega))) ?_
      refine ps_iload rfl rfl ?_
      refine ps_iret rfl rfl ?_
      have z := kk I1 c1
      rw [← hl'] at z
      rw [hG]
      exact z
    | succ d ih =>
      intro y hy u6 u7
      have inner : ∀ e x, x + e = P.w → ∀ u7 : Value, pm_W (g_P ys) 254 61 [.ref 275, .int (suI G (P.w * y + x)), .int (fdI l (hoP P)), .int (lsS P), .int (weP P), .int (nI y), .int (nI x), u7] [] (I1, L, g_R s, 306) (0, 0) Q := by
        intro e
        induction e with
        | zero =>
          intro x hx u7
          have ex : x = P.w := by omega
          subst ex
          refine ps_iload rfl rfl ?_
          refine ps_aload rfl rfl ?_
          refine pw_k rfl rfl rfl rfl ⟨Nat.zero_le _, Nat.zero_le _⟩ ?_
          refine M_wideX V1 ?_
          refine ps_icmpt rfl (decide_eq_true (nI_le (by omega) (by omega))) ?_
          refine ps_iinc rfl rfl ?_
          refine ps_goto rfl ?_
          rw [show nI y + Int32.ofInt 1 = nI (y + 1) from nI_1 y]
          rw [show P.w * y + P.w = P.w * (y + 1) by rw [Nat.mul_add, Nat.mul_one]]
          exact ih (y + 1) (by omega) _ _
        | succ e ihe =>
          intro x hx u7
          have b1 := (row_in (w := P.w) (v := P.v) (y := y) (x := x) (by omega) (by omega)).1
          have z := ihe (x + 1) (by omega)
          have eG : G (P.w * y + x) = absI (rsF P (decF P f (P.w * y + x)) (flF P S l) - truF P S (P.w * y + x)) := by rw [hG]
          rw [show P.w * y + (x + 1) = P.w * y + x + 1 from rfl, suI_s, eG] at z
          refine ps_iload rfl rfl ?_
          refine ps_aload rfl rfl ?_
          refine pw_k rfl rfl rfl rfl ⟨Nat.zero_le _, Nat.zero_le _⟩ ?_
          refine M_wideX V1 ?_
          refine ps_icmpf rfl (decide_eq_false (nI_ge (by omega) (by omega))) ?_
          refine ps_aload rfl rfl ?_
          refine ps_gfr 11 30 rfl rfl rfl rfl rfl (rfl) ?_
          refine ps_aload rfl rfl ?_
          refine ps_iload rfl rfl ?_
          refine ps_iload rfl rfl ?_
          refine pw_k rfl rfl rfl rfl ⟨Nat.zero_le _, Nat.zero_le _⟩ ?_
          refine M_cellAtN V1 (by omega) (by omega) ?_
          rw [cxy_inn (by omega) (by omega)]
          refine ps_iald (P.w * y + x) rfl rfl rfl (rfl) (by omega) ?_
          rw [show ((I1, L, g_R s, 306) : pm_H).1 298 (P.w * y + x) = decF P f (P.w * y + x) from d1 _ b1]
          refine ps_iload rfl rfl ?_
          refine ps_iload rfl rfl ?_
          refine ps_ar rfl rfl rfl rfl rfl ?_
          refine ps_ar rfl rfl rfl rfl rfl ?_
          refine ps_aload rfl rfl ?_
          refine ps_gfr 11 16 rfl rfl rfl rfl rfl (rfl) ?_
          refine pw_c rfl ?_
          refine ps_iald (3) rfl rfl rfl (rfl) (by omega) ?_
          rw [show ((I1, L, g_R s, 306) : pm_H).1 288 3 = S.bk from hS.2.1]
          refine ps_iload rfl rfl ?_
          refine ps_ar rfl rfl rfl rfl rfl ?_
          refine ps_ar rfl rfl rfl rfl rfl ?_
          refine ps_aload rfl rfl ?_
          refine ps_gfr 11 22 rfl rfl rfl rfl rfl (rfl) ?_
          refine ps_aload rfl rfl ?_
          refine ps_gfi 11 24 rfl rfl rfl rfl rfl ?_
          rw [show ((I1, L, g_R s, 306) : pm_H).1 275 24 = nI k from u1]
          refine ps_iald (k) rfl rfl rfl (rfl) (by omega) ?_
          rw [show ((I1, L, g_R s, 306) : pm_H).1 293 k = sdF P 0 from kp]
          refine ps_iload rfl rfl ?_
          refine ps_ar rfl rfl rfl rfl rfl ?_
          refine pw_k rfl rfl rfl rfl ⟨Nat.zero_le _, Nat.zero_le _⟩ ?_
          refine M_downByX _ _ hd ?_
          rw [rsF_m cr]
          refine ps_aload rfl rfl ?_
          refine ps_iload rfl rfl ?_
          refine ps_iload rfl rfl ?_
          refine pw_k rfl rfl rfl rfl ⟨Nat.zero_le _, Nat.zero_le _⟩ ?_
          refine M_trueAtX V1 (by omega) (by omega) ?_
          refine ps_ar rfl rfl rfl rfl rfl ?_
          refine ps_istore rfl rfl ?_
          refine ps_iload rfl rfl ?_
          refine ps_iload rfl rfl ?_
          generalize rsF P (decF P f (P.w * y + x)) (flF P S l) - truF P S (P.w * y + x) = v at z ⊢
          unfold absI at z
          by_cases hv : v < 0
          · rw [if_pos hv] at z
            refine ps_iff rfl (decide_eq_false (fun q => by have q := (i_le _ _).mp q; have := (i_lt _ _).mp hv; omega)) ?_
            refine ps_iload rfl rfl ?_
            refine ps_ar rfl rfl rfl rfl rfl ?_
            refine ps_goto rfl ?_
            refine ps_ar rfl rfl rfl rfl rfl ?_
            refine ps_istore rfl rfl ?_
            refine ps_iinc rfl rfl ?_
            refine ps_goto rfl ?_
            rw [show nI x + Int32.ofInt 1 = nI (x + 1) from nI_1 x]
            exact z _
          · rw [if_neg hv] at z
            refine ps_ift rfl (decide_eq_true ((i_le _ _).mpr (by have : ¬ v.toInt < (0 : Int32).toInt := fun q => hv ((i_lt _ _).mpr q); omega))) ?_
            refine ps_iload rfl rfl ?_
            refine ps_ar rfl rfl rfl rfl rfl ?_
            refine ps_istore rfl rfl ?_
            refine ps_iinc rfl rfl ?_
            refine ps_goto rfl ?_
            rw [show nI x + Int32.ofInt 1 = nI (x + 1) from nI_1 x]
            exact z _
      refine ps_iload rfl rfl ?_
      refine ps_aload rfl rfl ?_
      refine pw_k rfl rfl rfl rfl ⟨Nat.zero_le _, Nat.zero_le _⟩ ?_
      refine M_highX V1 ?_
      refine ps_icmpf rfl (decide_eq_false (nI_ge (by omega) (by omega))) ?_
      refine pw_c rfl ?_
      refine ps_istore rfl rfl ?_
      exact inner P.w 0 (by omega) _
  refine ps_istore rfl rfl ?_
  refine pw_c rfl ?_
  refine ps_istore rfl rfl ?_
  exact outer P.v 0 (by omega) _ _
theorem M_laysMostX (hV : mV k P S sh ng I) (hf : ∀ i, i < P.w * P.v → I 298 i = f i) (kk : ∀ I' : Nat → Nat → Int32, (∀ a j, ¬ (a = 275 ∧ (j = 32 ∨ j = 33 ∨ j = 34)) → I' a j = I a j) → I' 275 32 = nI (pgF f (P.w * P.v) % P.w) → I' 275 33 = nI (pgF f (P.w * P.v) / P.w) → I' 275 34 = tgF f (P.w * P.v) → Q [.int (f (pgF f (P.w * P.v)))] (I', L, g_R s, 306)) : pm_W (g_P ys) 258 0 [.ref 275, .retAddr 0, .retAddr 0] [] (I, L, g_R s, 306) (0, 0) Q := by
  obtain ⟨wb, vb, w0, v0, n9⟩ := mV_b hV
  have n0 : 0 < P.w * P.v := Nat.mul_pos w0 v0
  obtain ⟨b, hb⟩ : ∃ b, b = pgF f (P.w * P.v) := ⟨_, rfl⟩
  have b9 : b < P.w * P.v := by rw [hb]; exact pgF_lt n0
  have l2 : ∀ d i, i + d = P.w * P.v → ∀ I' : Nat → Nat → Int32, (∀ a j, ¬ (a = 275 ∧ j = 34) → I' a j = I a j) → I' 275 34 = suI (fun i => if f i = f b then 1 else 0) i → pm_W (g_P ys) 258 46 [.ref 275, .int (nI b), .int (nI i)] [] (I', L, g_R s, 306) (0, 0) Q := by
    intro d
    induction d with
    | zero =>
      intro i hi I' g1 g2
      have ei : i = P.w * P.v := by omega
      subst ei
      have V' : mV k P S sh ng I' := mV_o hV (fun a j z1 z2 => g1 a j (fun e => z2 ⟨e.1, by unfold mFld; omega⟩))
      refine ps_iload rfl rfl ?_
      refine ps_aload rfl rfl ?_
      refine pw_k rfl rfl rfl rfl ⟨Nat.zero_le _, Nat.zero_le _⟩ ?_
      refine M_cells0X V' ?_
      refine ps_icmpt rfl (decide_eq_true (nI_le (by omega) (by omega))) ?_
      refine ps_aload rfl rfl ?_
      refine ps_iload rfl rfl ?_
      refine ps_aload rfl rfl ?_
      refine pw_k rfl rfl rfl rfl ⟨Nat.zero_le _, Nat.zero_le _⟩ ?_
      refine M_wideX V' ?_
      refine ps_rem rfl (nI_nz w0 (by omega)) ?_
      rw [nI_rem (by omega) w0 (by omega)]
      refine ps_pfi 11 32 rfl rfl rfl rfl rfl ?_
      refine ps_aload rfl rfl ?_
      refine ps_iload rfl rfl ?_
      refine ps_aload rfl rfl ?_
      have V2 : mV k P S sh ng (pm_u I' 275 32 (nI (b % P.w))) := mV_o V' (fun a j z1 z2 => pu_x (fun e => z2 ⟨e.1, by unfold mFld; omega⟩))
      refine pw_k rfl rfl rfl rfl ⟨Nat.zero_le _, Nat.zero_le _⟩ ?_
      refine M_wideX V2 ?_
      refine ps_div rfl (nI_nz w0 (by omega)) ?_
      rw [nI_div (by omega) (by omega)]
      refine ps_pfi 11 33 rfl rfl rfl rfl rfl ?_
      refine ps_aload rfl rfl ?_
      refine ps_gfr 11 30 rfl rfl rfl rfl rfl (rfl) ?_
      refine ps_iload rfl rfl ?_
      refine ps_iald (b) rfl rfl rfl (rfl) (by omega) ?_
      have o3 : ∀ a j, ¬ (a = 275 ∧ (j = 32 ∨ j = 33)) → pm_u (pm_u I' 275 32 (nI (b % P.w))) 275 33 (nI (b / P.w)) a j = I' a j := fun a j z => (pu_x (by omega)).trans (pu_x (by omega))
      rw [show ((pm_u (pm_u I' 275 32 (nI (b % P.w))) 275 33 (nI (b / P.w)), L, g_R s, 306) : pm_H).1 298 b = f b from (o3 _ _ (by omega)).trans ((g1 _ _ (by omega)).trans (hf b b9))]
      refine ps_iret rfl rfl ?_
      have e1 : pm_u (pm_u I' 275 32 (nI (b % P.w))) 275 33 (nI (b / P.w)) 275 32 = nI (b % P.w) := (pu_n (by decide)).trans pu_s
      have e2 : pm_u (pm_u I' 275 32 (nI (b % P.w))) 275 33 (nI (b / P.w)) 275 33 = nI (b / P.w) := pu_s
      subst hb
      exact kk _ (fun a j z => (o3 a j (by omega)).trans (g1 a j (by omega))) e1 e2 ((o3 _ _ (by decide)).trans g2)
    | succ d ih =>
      intro i hi I' g1 g2
      have V' : mV k P S sh ng I' := mV_o hV (fun a j z1 z2 => g1 a j (fun e => z2 ⟨e.1, by unfold mFld; omega⟩))
      have next : ∀ x : Int32, x = (if f i = f b then 1 else 0) → pm_W (g_P ys) 258 79 [.ref 275, .int (nI b), .int (nI i)] [.int x, .int (suI (fun i => if f i = f b then 1 else 0) i), .ref 275] (I', L, g_R s, 306) (0, 0) Q := by
        intro x hx
        refine ps_ar rfl rfl rfl rfl rfl ?_
        refine ps_pfi 11 34 rfl rfl rfl rfl rfl ?_
        refine ps_iinc rfl rfl ?_
        refine ps_goto rfl ?_
        rw [show nI i + Int32.ofInt 1 = nI (i + 1) from nI_1 i]
        refine ih (i + 1) (by omega) _ (fun a j z => (pu_x z).trans (g1 a j z)) ?_
        rw [suI_s, ← hx]
        exact pu_s
      refine ps_iload rfl rfl ?_
      refine ps_aload rfl rfl ?_
      refine pw_k rfl rfl rfl rfl ⟨Nat.zero_le _, Nat.zero_le _⟩ ?_
      refine M_cells0X V' ?_
      refine ps_icmpf rfl (decide_eq_false (nI_ge (by omega) (by omega))) ?_
      refine ps_aload rfl rfl ?_
      refine ps_ar rfl rfl rfl rfl rfl ?_
      refine ps_gfi 11 34 rfl rfl rfl rfl rfl ?_
      rw [show ((I', L, g_R s, 306) : pm_H).1 275 34 = suI (fun i => if f i = f b then 1 else 0) i from g2]
      refine ps_aload rfl rfl ?_
      refine ps_gfr 11 30 rfl rfl rfl rfl rfl (rfl) ?_
      refine ps_iload rfl rfl ?_
      refine ps_iald (i) rfl rfl rfl (rfl) (by omega) ?_
      rw [show ((I', L, g_R s, 306) : pm_H).1 298 i = f i from (g1 _ _ (by omega)).trans (hf i (by omega))]
      refine ps_aload rfl rfl ?_
      refine ps_gfr 11 30 rfl rfl rfl rfl rfl (rfl) ?_
      refine ps_iload rfl rfl ?_
      refine ps_iald (b) rfl rfl rfl (rfl) (by omega) ?_
      rw [show ((I', L, g_R s, 306) : pm_H).1 298 b = f b from (g1 _ _ (by omega)).trans (hf b b9)]
      by_cases c : f i = f b
      · refine ps_icmpf rfl (decide_eq_false (fun z => z c)) ?_
        refine pw_c rfl ?_
        refine ps_goto rfl ?_
        exact next 1 (by rw [if_pos c])
      · refine ps_icmpt rfl (decide_eq_true c) ?_
        refine pw_c rfl ?_
        exact next 0 (by rw [if_neg c])
  have l1 : ∀ I1 : Nat → Nat → Int32, (∀ a j, ¬ (a = 275 ∧ j = 34) → I1 a j = I a j) → I1 275 34 = 0 → ∀ d i, i + d = P.w * P.v → 1 ≤ i → pm_W (g_P ys) 258 9 [.ref 275, .int (nI (pgF f i)), .int (nI i)] [] (I1, L, g_R s, 306) (0, 0) Q := by
    intro I1 o1 m1 d
    have V1 : mV k P S sh ng I1 := mV_o hV (fun a j z1 z2 => o1 a j (fun e => z2 ⟨e.1, by unfold mFld; omega⟩))
    induction d with
    | zero =>
      intro i hi h1
      have ei : i = P.w * P.v := by omega
      subst ei
      refine ps_iload rfl rfl ?_
      refine ps_aload rfl rfl ?_
      refine pw_k rfl rfl rfl rfl ⟨Nat.zero_le _, Nat.zero_le _⟩ ?_
      refine M_cells0X V1 ?_
      refine ps_icmpt rfl (decide_eq_true (nI_le (by omega) (by omega))) ?_
      refine pw_c rfl ?_
      refine ps_istore rfl rfl ?_
      have z := l2 (P.w * P.v) 0 (by omega) I1 o1 m1
      rw [hb] at z
      exact z
    | succ d ih =>
      intro i hi h1
      have z := ih (i + 1) (by omega) (by omega)
      rw [pgF_s h1] at z
      have l := pgF_lt (f := f) (n := i) (by omega)
      refine ps_iload rfl rfl ?_
      refine ps_aload rfl rfl ?_
      refine pw_k rfl rfl rfl rfl ⟨Nat.zero_le _, Nat.zero_le _⟩ ?_
      refine M_cells0X V1 ?_
      refine ps_icmpf rfl (decide_eq_false (nI_ge (by omega) (by omega))) ?_
      refine ps_aload rfl rfl ?_
      refine ps_gfr 11 30 rfl rfl rfl rfl rfl (rfl) ?_
      refine ps_iload rfl rfl ?_
      refine ps_iald (i) rfl rfl rfl (rfl) (by omega) ?_
      rw [show ((I1, L, g_R s, 306) : pm_H).1 298 i = f i from (o1 _ _ (by omega)).trans (hf i (by omega))]
      refine ps_aload rfl rfl ?_
      refine ps_gfr 11 30 rfl rfl rfl rfl rfl (rfl) ?_
      refine ps_iload rfl rfl ?_
      refine ps_iald (pgF f i) rfl rfl rfl (rfl) (by omega) ?_
      rw [show ((I1, L, g_R s, 306) : pm_H).1 298 (pgF f i) = f (pgF f i) from (o1 _ _ (by omega)).trans (hf _ (by omega))]
      by_cases c : f (pgF f i) < f i
      · rw [if_pos c] at z
        refine ps_icmpf rfl (decide_eq_false (fun q => by have q := (i_le _ _).mp q; have y := (i_lt _ _).mp c; omega)) ?_
        refine ps_iload rfl rfl ?_
        refine ps_goto rfl ?_
        refine ps_istore rfl rfl ?_
        refine ps_iinc rfl rfl ?_
        refine ps_goto rfl ?_
        rw [show nI i + Int32.ofInt 1 = nI (i + 1) from nI_1 i]
        exact z
      · rw [if_neg c] at z
        refine ps_icmpt rfl (decide_eq_true ((i_le _ _).mpr (by have : ¬ (f (pgF f i)).toInt < (f i).toInt := fun q => c ((i_lt _ _).mpr q); omega))) ?_
        refine ps_iload rfl rfl ?_
        refine ps_istore rfl rfl ?_
        refine ps_iinc rfl rfl ?_
        refine ps_goto rfl ?_
        rw [show nI i + Int32.ofInt 1 = nI (i + 1) from nI_1 i]
        exact z
  refine pw_c rfl ?_
  refine ps_istore rfl rfl ?_
  refine ps_aload rfl rfl ?_
  refine pw_c rfl ?_
  refine ps_pfi 11 34 rfl rfl rfl rfl rfl ?_
  refine pw_c rfl ?_
  refine ps_istore rfl rfl ?_
  exact l1 _ (fun a j z => pu_x z) pu_s (P.w * P.v - 1) 1 (by omega) (by omega)
end TX
