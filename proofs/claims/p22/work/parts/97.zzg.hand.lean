/-! BY HAND: the class's plates, exactly: mirrored patterns, what a row decodes to, SIDES -/
section TI
variable {I I' J : Nat → Nat → Int32} {L : Nat → Nat → Int64} {s : Nat → Option Nat} {Q : List Value → pm_H → Prop} {ys : List Int32} {p b c w v n : Nat} {h : pm_H}
theorem mdP {z : Int} {w : Nat} (hw : 0 < w) : ∃ r, r < w ∧ (z % w).toNat = r ∧ z % (w : Int) = (r : Int) ∧ ((z - 1) % w).toNat = if r = 0 then w - 1 else r - 1 := by
  have h1 := Int.emod_nonneg z (show ¬ (w : Int) = 0 by omega)
  have h2 := Int.emod_lt_of_pos z (show (0 : Int) < w by omega)
  refine ⟨(z % w).toNat, by omega, rfl, by omega, ?_⟩
  have e : (z - 1) % (w : Int) = ((z % w) - 1) % w := em_sl.symm
  rw [e]
  by_cases e0 : (z % w).toNat = 0
  · rw [if_pos e0, show z % (w : Int) = 0 by omega]
    have y : (0 - 1 : Int) % w = ((w : Int) - 1) := by
      have : (0 - 1 : Int) % (w : Int) = (0 - 1 + w) % w := by rw [Int.add_emod_right]
      rw [this, Int.emod_eq_of_lt (by omega) (by omega)]
      omega
    rw [y]
    omega
  · rw [if_neg e0, Int.emod_eq_of_lt (by omega) (by omega)]
    omega
/-- the place of the pattern, mirrored at pl, that comes to the place i -/
def mrF (w v pl i : Nat) : Nat := cxy w v (((pl % w : Nat) : Int) - ((i % w : Nat) : Int)) (((pl / w : Nat) : Int) - ((i / w : Nat) : Int))
theorem mrF_xy {w v pl x y : Nat} (hx : x < w) : mrF w v pl (w * y + x) = ((((pl / w : Nat) : Int) - (y : Int)) % v).toNat * w + ((((pl % w : Nat) : Int) - (x : Int)) % w).toNat := by
  obtain ⟨e1, e2⟩ := sq_ix (p := w) (x := x) (y := y) hx
  unfold mrF cxy
  rw [e1, e2]
theorem B_addMirroredX {pl : Nat} (hp : isP p) (hP : cP I p w v) (hS4 : ∀ I L, pm_sh (g_P ys) (I, L, g_R s, 306) b = some (.inr (0, 289))) (hS5 : ∀ I L, pm_sh (g_P ys) (I, L, g_R s, 306) c = some (.inr (0, 289))) (bc : ¬ c = b) (bp : ¬ p = b) (hl : pl < w * v) (tm : Int32) (kk : ∀ I', (∀ a j, ¬ (a = b ∧ j < w * v) → I' a j = I a j) → (∀ i, i < w * v → I' b i = I b i + tm * I c (mrF w v pl i)) → Q [] (I', L, g_R s, 306)) : pm_W (g_P ys) 133 0 [.ref p, .ref b, .ref c, .int (nI pl), .int tm, .retAddr 0, .retAddr 0, .retAddr 0, .retAddr 0, .retAddr 0] [] (I, L, g_R s, 306) (0, 0) Q := by
  obtain ⟨hS0, hS1, hS2, hS3, hR0, hR1, hR2⟩ := pl_F (ys := ys) (s := s) hp
  have h289 := hP.2.2.2.2.2
  have w0 := hP.2.2.2.1
  have v0 := hP.2.2.2.2.1
  obtain ⟨wb, vb⟩ := cP_b hP
  have xl := Nat.mod_lt pl w0
  have yl : pl / w < v := Nat.div_lt_of_lt_mul hl
  obtain ⟨G, hG⟩ : ∃ G : Nat → Int32, G = fun i => I b i + tm * I c (mrF w v pl i) := ⟨_, rfl⟩
  have outer : ∀ e y I' (u8 u9 : Value), y + e = v → (∀ a j, ¬ (a = b ∧ j < w * y) → I' a j = I a j) → (∀ i, i < w * y → I' b i = G i) → ∀ py, py = ((((pl / w : Nat) : Int) - (y : Int)) % v).toNat → pm_W (g_P ys) 133 13 [.ref p, .ref b, .ref c, .int (nI pl), .int tm, .int (nI py), .int (nI (w * y)), .int (nI y), u8, u9] [] (I', L, g_R s, 306) (0, 0) Q := by
    intro e
    induction e with
    | zero =>
      intro y I' u8 u9 hy h1 h2 py hpy
      have hyv : y = v := by omega
      have P' := cP_o hP (fun j => h1 p j (fun z => bp z.1))
      refine ps_iload rfl rfl ?_
      refine ps_aload rfl rfl ?_
      refine ps_gfi 9 5 rfl rfl rfl (by first | exact hS0 _ _ | exact hS1 _ _ | exact hS2 _ _ | exact hS3 _ _ | exact hS4 _ _ | exact hS5 _ _ | exact hS6 _ _ | exact hS7 _ _ | exact hS8 _ _ | exact hS9 _ _ | exact hS10 _ _ | exact hS11 _ _ | exact hS12 _ _ | exact hS13 _ _ | exact hS14 _ _ | exact hS15 _ _ | exact hS16 _ _ | exact hS17 _ _ | exact hS18 _ _ | exact hS19 _ _ | exact hS20 _ _ | exact hS21 _ _ | exact hS22 _ _ | exact hS23 _ _ | assumption | rfl) rfl ?_
      rw [show ((I', L, g_R s, 306) : pm_H).1 p 5 = nI v from P'.2.1]
      refine ps_icmpt rfl (decide_eq_true (nI_le (by omega) (by omega))) ?_
      refine ps_vret rfl rfl ?_
      rw [hyv] at h1 h2
      rw [hG] at h2
      exact kk _ h1 h2
    | succ e ihe =>
      intro y I' u8 u9 hy h1 h2 py hpy
      have P' := cP_o hP (fun j => h1 p j (fun z => bp z.1))
      have inner : ∀ d x I' , x + d = w → (∀ a j, ¬ (a = b ∧ j < w * y + x) → I' a j = I a j) → (∀ i, i < w * y + x → I' b i = G i) → ∀ px, px = ((((pl % w : Nat) : Int) - (x : Int)) % w).toNat → pm_W (g_P ys) 133 32 [.ref p, .ref b, .ref c, .int (nI pl), .int tm, .int (nI py), .int (nI (w * y + x)), .int (nI y), .int (nI px), .int (nI x)] [] (I', L, g_R s, 306) (0, 0) Q := by
        intro d
        induction d with
        | zero =>
          intro x I' hx h1 h2 px hpx
          have hxw : x = w := by omega
          have P' := cP_o hP (fun j => h1 p j (fun z => bp z.1))
          rw [hxw, show w * y + w = w * (y + 1) by rw [Nat.mul_add, Nat.mul_one]] at h1 h2 ⊢
          obtain ⟨r, r1, r2, r3, r4⟩ := mdP (z := ((pl / w : Nat) : Int) - (y : Int)) v0
          have er : py = r := by rw [hpy]; exact r2
          subst er
          refine ps_iload rfl rfl ?_
          refine ps_aload rfl rfl ?_
          refine ps_gfi 9 4 rfl rfl rfl (by first | exact hS0 _ _ | exact hS1 _ _ | exact hS2 _ _ | exact hS3 _ _ | exact hS4 _ _ | exact hS5 _ _ | exact hS6 _ _ | exact hS7 _ _ | exact hS8 _ _ | exact hS9 _ _ | exact hS10 _ _ | exact hS11 _ _ | exact hS12 _ _ | exact hS13 _ _ | exact hS14 _ _ | exact hS15 _ _ | exact hS16 _ _ | exact hS17 _ _ | exact hS18 _ _ | exact hS19 _ _ | exact hS20 _ _ | exact hS21 _ _ | exact hS22 _ _ | exact hS23 _ _ | assumption | rfl) rfl ?_
          rw [show ((I', L, g_R s, 306) : pm_H).1 p 4 = nI w from P'.1]
          rw [show ((pl / w : Nat) : Int) - (y : Int) - 1 = ((pl / w : Nat) : Int) - ((y + 1 : Nat) : Int) by omega] at r4
          have next : ∀ q, q = ((((pl / w : Nat) : Int) - ((y + 1 : Nat) : Int)) % v).toNat → pm_W (g_P ys) 133 110 [.ref p, .ref b, .ref c, .int (nI pl), .int tm, .int (nI py), .int (nI (w * (y + 1))), .int (nI y), .int (nI px), .int (nI w)] [.int (nI q)] (I', L, g_R s, 306) (0, 0) Q := by
            intro q hq
            refine ps_istore rfl rfl ?_
            refine ps_iinc rfl rfl ?_
            refine ps_goto rfl ?_
            rw [show nI y + Int32.ofInt 1 = nI (y + 1) from nI_1 y]
            exact ihe (y + 1) _ _ _ (by omega) h1 h2 q hq
          by_cases eq : py = 0
          · subst eq
            refine ps_icmpt rfl (decide_eq_true (nI_le (by omega) (by omega))) ?_
            refine ps_iload rfl rfl ?_
            refine ps_iff rfl (by decide) ?_
            refine ps_aload rfl rfl ?_
            refine ps_gfi 9 5 rfl rfl rfl (by first | exact hS0 _ _ | exact hS1 _ _ | exact hS2 _ _ | exact hS3 _ _ | exact hS4 _ _ | exact hS5 _ _ | exact hS6 _ _ | exact hS7 _ _ | exact hS8 _ _ | exact hS9 _ _ | exact hS10 _ _ | exact hS11 _ _ | exact hS12 _ _ | exact hS13 _ _ | exact hS14 _ _ | exact hS15 _ _ | exact hS16 _ _ | exact hS17 _ _ | exact hS18 _ _ | exact hS19 _ _ | exact hS20 _ _ | exact hS21 _ _ | exact hS22 _ _ | exact hS23 _ _ | assumption | rfl) rfl ?_
            rw [show ((I', L, g_R s, 306) : pm_H).1 p 5 = nI v from P'.2.1]
            refine pw_c rfl ?_
            refine ps_ar rfl rfl rfl rfl rfl ?_
            rw [show nI v - (1 : Int32) = nI (v - 1) by have z := nI_p (v - 1); rw [show v - 1 + 1 = v by omega] at z; exact z]
            refine ps_goto rfl ?_
            exact next (v - 1) (by rw [r4, if_pos rfl])
          · refine ps_icmpt rfl (decide_eq_true (nI_le (by omega) (by omega))) ?_
            refine ps_iload rfl rfl ?_
            refine ps_ift rfl (decide_eq_true (nI_nz (by omega) (by omega))) ?_
            refine ps_iload rfl rfl ?_
            refine pw_c rfl ?_
            refine ps_ar rfl rfl rfl rfl rfl ?_
            rw [show nI py - (1 : Int32) = nI (py - 1) by have z := nI_p (py - 1); rw [show py - 1 + 1 = py by omega] at z; exact z]
            exact next (py - 1) (by rw [r4, if_neg eq])
        | succ d ih =>
          intro x I' hx h1 h2 px hpx
          have P' := cP_o hP (fun j => h1 p j (fun z => bp z.1))
          obtain ⟨r, r1, r2, r3, r4⟩ := mdP (z := ((pl % w : Nat) : Int) - (x : Int)) w0
          have er : px = r := by rw [hpx]; exact r2
          subst er
          obtain ⟨q, q1, q2, q3, q4⟩ := mdP (z := ((pl / w : Nat) : Int) - (y : Int)) v0
          have eq : py = q := by rw [hpy]; exact q2
          subst eq
          have sh := mrF_xy (w := w) (v := v) (pl := pl) (x := x) (y := y) (by omega)
          rw [q2, r2] at sh
          have b1 := (row_in (w := w) (v := v) (y := y) (x := x) (by omega) (by omega)).1
          have b2 := (row_in (w := w) (v := v) (y := py) (x := px) (by omega) (by omega)).2
          refine ps_iload rfl rfl ?_
          refine ps_aload rfl rfl ?_
          refine ps_gfi 9 4 rfl rfl rfl (by first | exact hS0 _ _ | exact hS1 _ _ | exact hS2 _ _ | exact hS3 _ _ | exact hS4 _ _ | exact hS5 _ _ | exact hS6 _ _ | exact hS7 _ _ | exact hS8 _ _ | exact hS9 _ _ | exact hS10 _ _ | exact hS11 _ _ | exact hS12 _ _ | exact hS13 _ _ | exact hS14 _ _ | exact hS15 _ _ | exact hS16 _ _ | exact hS17 _ _ | exact hS18 _ _ | exact hS19 _ _ | exact hS20 _ _ | exact hS21 _ _ | exact hS22 _ _ | exact hS23 _ _ | assumption | rfl) rfl ?_
          rw [show ((I', L, g_R s, 306) : pm_H).1 p 4 = nI w from P'.1]
          refine ps_icmpf rfl (decide_eq_false (nI_ge (by omega) (by omega))) ?_
          refine ps_aload rfl rfl ?_
          refine ps_iload rfl rfl ?_
          refine ps_ar rfl rfl rfl rfl rfl ?_
          refine ps_iald (w * y + x) rfl (by first | exact hS0 _ _ | exact hS1 _ _ | exact hS2 _ _ | exact hS3 _ _ | exact hS4 _ _ | exact hS5 _ _ | exact hS6 _ _ | exact hS7 _ _ | exact hS8 _ _ | exact hS9 _ _ | exact hS10 _ _ | exact hS11 _ _ | exact hS12 _ _ | exact hS13 _ _ | exact hS14 _ _ | exact hS15 _ _ | exact hS16 _ _ | exact hS17 _ _ | exact hS18 _ _ | exact hS19 _ _ | exact hS20 _ _ | exact hS21 _ _ | exact hS22 _ _ | exact hS23 _ _ | assumption | rfl) rfl (rfl) (by omega) ?_
          refine ps_iload rfl rfl ?_
          refine ps_aload rfl rfl ?_
          refine ps_iload rfl rfl ?_
          refine ps_aload rfl rfl ?_
          refine ps_gfi 9 4 rfl rfl rfl (by first | exact hS0 _ _ | exact hS1 _ _ | exact hS2 _ _ | exact hS3 _ _ | exact hS4 _ _ | exact hS5 _ _ | exact hS6 _ _ | exact hS7 _ _ | exact hS8 _ _ | exact hS9 _ _ | exact hS10 _ _ | exact hS11 _ _ | exact hS12 _ _ | exact hS13 _ _ | exact hS14 _ _ | exact hS15 _ _ | exact hS16 _ _ | exact hS17 _ _ | exact hS18 _ _ | exact hS19 _ _ | exact hS20 _ _ | exact hS21 _ _ | exact hS22 _ _ | exact hS23 _ _ | assumption | rfl) rfl ?_
          rw [show ((I', L, g_R s, 306) : pm_H).1 p 4 = nI w from P'.1]
          refine ps_ar rfl rfl rfl rfl rfl ?_
          refine ps_iload rfl rfl ?_
          refine ps_ar rfl rfl rfl rfl rfl ?_
          rw [show nI py * nI w + nI px = nI (py * w + px) by rw [pk_mul, nI_add]]
          refine ps_iald (py * w + px) rfl (by first | exact hS0 _ _ | exact hS1 _ _ | exact hS2 _ _ | exact hS3 _ _ | exact hS4 _ _ | exact hS5 _ _ | exact hS6 _ _ | exact hS7 _ _ | exact hS8 _ _ | exact hS9 _ _ | exact hS10 _ _ | exact hS11 _ _ | exact hS12 _ _ | exact hS13 _ _ | exact hS14 _ _ | exact hS15 _ _ | exact hS16 _ _ | exact hS17 _ _ | exact hS18 _ _ | exact hS19 _ _ | exact hS20 _ _ | exact hS21 _ _ | exact hS22 _ _ | exact hS23 _ _ | assumption | rfl) rfl (rfl) (by omega) ?_
          rw [show ((I', L, g_R s, 306) : pm_H).1 c (py * w + px) = I c (py * w + px) from h1 _ _ (fun z => bc z.1)]
          rw [show ((I', L, g_R s, 306) : pm_H).1 b (w * y + x) = I b (w * y + x) from h1 _ _ (by omega)]
          refine ps_ar rfl rfl rfl rfl rfl ?_
          refine ps_ar rfl rfl rfl rfl rfl ?_
          refine ps_iast (w * y + x) rfl (by first | exact hS0 _ _ | exact hS1 _ _ | exact hS2 _ _ | exact hS3 _ _ | exact hS4 _ _ | exact hS5 _ _ | exact hS6 _ _ | exact hS7 _ _ | exact hS8 _ _ | exact hS9 _ _ | exact hS10 _ _ | exact hS11 _ _ | exact hS12 _ _ | exact hS13 _ _ | exact hS14 _ _ | exact hS15 _ _ | exact hS16 _ _ | exact hS17 _ _ | exact hS18 _ _ | exact hS19 _ _ | exact hS20 _ _ | exact hS21 _ _ | exact hS22 _ _ | exact hS23 _ _ | assumption | rfl) rfl (rfl) (by omega) ?_
          have nxt : ∀ z, z = ((((pl % w : Nat) : Int) - ((x + 1 : Nat) : Int)) % w).toNat → pm_W (g_P ys) 133 84 [.ref p, .ref b, .ref c, .int (nI pl), .int tm, .int (nI py), .int (nI (w * y + (x + 1))), .int (nI y), .int (nI px), .int (nI x)] [.int (nI z)] (pm_u I' b (w * y + x) (I b (w * y + x) + tm * I c (py * w + px)), L, g_R s, 306) (0, 0) Q := by
            intro z hz
            refine ps_istore rfl rfl ?_
            refine ps_iinc rfl rfl ?_
            refine ps_goto rfl ?_
            rw [show nI x + Int32.ofInt 1 = nI (x + 1) from nI_1 x]
            exact ih (x + 1) _ (by omega) (fun a j q => (pu_x (fun z => q (by omega))).trans (h1 a j (fun z => q (by omega)))) (row_t (k := w * y + x) (G := G) h2 (by
              rw [hG]
              show _ = I b (w * y + x) + tm * I c (mrF w v pl (w * y + x))
              rw [sh])) z hz
          rw [show ((pl % w : Nat) : Int) - (x : Int) - 1 = ((pl % w : Nat) : Int) - ((x + 1 : Nat) : Int) by omega] at r4
          refine ps_iinc rfl rfl ?_
          rw [show nI (w * y + x) + Int32.ofInt 1 = nI (w * y + (x + 1)) from nI_1 _]
          by_cases eq : px = 0
          · subst eq
            refine ps_iload rfl rfl ?_
            refine ps_iff rfl (by decide) ?_
            refine ps_aload rfl rfl ?_
            refine ps_gfi 9 4 rfl rfl rfl (by first | exact hS0 _ _ | exact hS1 _ _ | exact hS2 _ _ | exact hS3 _ _ | exact hS4 _ _ | exact hS5 _ _ | exact hS6 _ _ | exact hS7 _ _ | exact hS8 _ _ | exact hS9 _ _ | exact hS10 _ _ | exact hS11 _ _ | exact hS12 _ _ | exact hS13 _ _ | exact hS14 _ _ | exact hS15 _ _ | exact hS16 _ _ | exact hS17 _ _ | exact hS18 _ _ | exact hS19 _ _ | exact hS20 _ _ | exact hS21 _ _ | exact hS22 _ _ | exact hS23 _ _ | assumption | rfl) rfl ?_
            show pm_W _ _ _ _ [.int (pm_u I' b (w * y + x) (I b (w * y + x) + tm * I c (py * w + 0)) p 4)] (pm_u I' b (w * y + x) (I b (w * y + x) + tm * I c (py * w + 0)), L, g_R s, 306) _ _
            rw [pu_o bp, P'.1]
            refine pw_c rfl ?_
            refine ps_ar rfl rfl rfl rfl rfl ?_
            rw [show nI w - (1 : Int32) = nI (w - 1) by have z := nI_p (w - 1); rw [show w - 1 + 1 = w by omega] at z; exact z]
            refine ps_goto rfl ?_
            exact nxt (w - 1) (by rw [r4, if_pos rfl])
          · refine ps_iload rfl rfl ?_
            refine ps_ift rfl (decide_eq_true (nI_nz (by omega) (by omega))) ?_
            refine ps_iload rfl rfl ?_
            refine pw_c rfl ?_
            refine ps_ar rfl rfl rfl rfl rfl ?_
            rw [show nI px - (1 : Int32) = nI (px - 1) by have z := nI_p (px - 1); rw [show px - 1 + 1 = px by omega] at z; exact z]
            exact nxt (px - 1) (by rw [r4, if_neg eq])
      refine ps_iload rfl rfl ?_
      refine ps_aload rfl rfl ?_
      refine ps_gfi 9 5 rfl rfl rfl (by first | exact hS0 _ _ | exact hS1 _ _ | exact hS2 _ _ | exact hS3 _ _ | exact hS4 _ _ | exact hS5 _ _ | exact hS6 _ _ | exact hS7 _ _ | exact hS8 _ _ | exact hS9 _ _ | exact hS10 _ _ | exact hS11 _ _ | exact hS12 _ _ | exact hS13 _ _ | exact hS14 _ _ | exact hS15 _ _ | exact hS16 _ _ | exact hS17 _ _ | exact hS18 _ _ | exact hS19 _ _ | exact hS20 _ _ | exact hS21 _ _ | exact hS22 _ _ | exact hS23 _ _ | assumption | rfl) rfl ?_
      rw [show ((I', L, g_R s, 306) : pm_H).1 p 5 = nI v from P'.2.1]
      refine ps_icmpf rfl (decide_eq_false (nI_ge (by omega) (by omega))) ?_
      refine ps_aload rfl rfl ?_
      refine ps_iload rfl rfl ?_
      refine pv_k rfl rfl rfl rfl rfl (hS0 _ _) rfl ⟨Nat.zero_le _, Nat.zero_le _⟩ ?_
      refine B_xOfX hp P' (by omega) ?_
      refine ps_istore rfl rfl ?_
      refine pw_c rfl ?_
      refine ps_istore rfl rfl ?_
      exact inner w 0 I' (by omega) h1 h2 _ (by rw [show ((pl % w : Nat) : Int) - ((0 : Nat) : Int) = ((pl % w : Nat) : Int) by omega, ← Int.natCast_emod, Int.toNat_natCast, Nat.mod_eq_of_lt xl])
  refine ps_aload rfl rfl ?_
  refine ps_iload rfl rfl ?_
  refine pv_k rfl rfl rfl rfl rfl (hS0 _ _) rfl ⟨Nat.zero_le _, Nat.zero_le _⟩ ?_
  refine B_yOfX hp hP (by omega) ?_
  refine ps_istore rfl rfl ?_
  refine pw_c rfl ?_
  refine ps_istore rfl rfl ?_
  refine pw_c rfl ?_
  refine ps_istore rfl rfl ?_
  exact outer v 0 I _ _ (by omega) (fun _ _ _ => rfl) (fun j hj => absurd hj (by omega)) _ (by rw [show ((pl / w : Nat) : Int) - ((0 : Nat) : Int) = ((pl / w : Nat) : Int) by omega, ← Int.natCast_emod, Int.toNat_natCast, Nat.mod_eq_of_lt yl])
/-- what a row decodes to -/
def dcF (w v : Nat) (row we : Nat → Int32) (i : Nat) : Int32 := suI (fun c => row c * we (mrF w v c i)) (w * v)
theorem B_decodeAllX (hp : isP p) (hP : cP I p w v) (hS4 : ∀ I L, pm_sh (g_P ys) (I, L, g_R s, 306) b = some (.inr (0, 289))) (hS5 : ∀ I L, pm_sh (g_P ys) (I, L, g_R s, 306) c = some (.inr (0, 289))) (bc : ¬ c = b) (bp : ¬ p = b) (b2 : ¬ p + 2 = b) (kk : ∀ I', (∀ a j, ¬ (a = b ∧ j < w * v) → I' a j = I a j) → (∀ i, i < w * v → I' b i = dcF w v (fun j => I c j) (fun j => I (p + 2) j) i) → Q [] (I', L, g_R s, 306)) : pm_W (g_P ys) 132 0 [.ref p, .ref c, .ref b, .retAddr 0] [] (I, L, g_R s, 306) (0, 0) Q := by
  obtain ⟨hS0, hS1, hS2, hS3, hR0, hR1, hR2⟩ := pl_F (ys := ys) (s := s) hp
  have n289 := hP.2.2.2.2.2
  have loop : ∀ d i, i + d = w * v → ∀ I', (∀ a j, ¬ (a = b ∧ j < w * v) → I' a j = I a j) → (∀ j, j < w * v → I' b j = suI (fun h => I c h * I (p + 2) (mrF w v h j)) i) → pm_W (g_P ys) 132 12 [.ref p, .ref c, .ref b, .int (nI i)] [] (I', L, g_R s, 306) (0, 0) Q := by
    intro d
    induction d with
    | zero =>
      intro i hi I' g1 g2
      have c' := cP_o hP (fun j => g1 p j (by omega))
      refine ps_iload rfl rfl ?_
      refine ps_aload rfl rfl ?_
      refine ps_gfi 9 6 rfl rfl rfl (by first | exact hS0 _ _ | exact hS1 _ _ | exact hS2 _ _ | exact hS3 _ _ | exact hS4 _ _ | exact hS5 _ _ | exact hS6 _ _ | exact hS7 _ _ | exact hS8 _ _ | exact hS9 _ _ | exact hS10 _ _ | exact hS11 _ _ | exact hS12 _ _ | exact hS13 _ _ | exact hS14 _ _ | exact hS15 _ _ | exact hS16 _ _ | exact hS17 _ _ | exact hS18 _ _ | exact hS19 _ _ | exact hS20 _ _ | exact hS21 _ _ | exact hS22 _ _ | exact hS23 _ _ | assumption | rfl) rfl ?_
      rw [show ((I', L, g_R s, 306) : pm_H).1 p 6 = nI (w * v) from c'.2.2.1]
      refine ps_icmpt rfl (decide_eq_true (nI_le (by omega) (by omega))) ?_
      refine ps_vret rfl rfl ?_
      have hi : i = w * v := by omega
      subst hi
      exact kk _ g1 g2
    | succ d ih =>
      intro i hi I' g1 g2
      have c' := cP_o hP (fun j => g1 p j (by omega))
      have ec : I' c i = I c i := g1 _ _ (by omega)
      refine ps_iload rfl rfl ?_
      refine ps_aload rfl rfl ?_
      refine ps_gfi 9 6 rfl rfl rfl (by first | exact hS0 _ _ | exact hS1 _ _ | exact hS2 _ _ | exact hS3 _ _ | exact hS4 _ _ | exact hS5 _ _ | exact hS6 _ _ | exact hS7 _ _ | exact hS8 _ _ | exact hS9 _ _ | exact hS10 _ _ | exact hS11 _ _ | exact hS12 _ _ | exact hS13 _ _ | exact hS14 _ _ | exact hS15 _ _ | exact hS16 _ _ | exact hS17 _ _ | exact hS18 _ _ | exact hS19 _ _ | exact hS20 _ _ | exact hS21 _ _ | exact hS22 _ _ | exact hS23 _ _ | assumption | rfl) rfl ?_
      rw [show ((I', L, g_R s, 306) : pm_H).1 p 6 = nI (w * v) from c'.2.2.1]
      refine ps_icmpf rfl (decide_eq_false (nI_ge (by omega) (by omega))) ?_
      refine ps_aload rfl rfl ?_
      refine ps_iload rfl rfl ?_
      refine ps_iald (i) rfl (by first | exact hS0 _ _ | exact hS1 _ _ | exact hS2 _ _ | exact hS3 _ _ | exact hS4 _ _ | exact hS5 _ _ | exact hS6 _ _ | exact hS7 _ _ | exact hS8 _ _ | exact hS9 _ _ | exact hS10 _ _ | exact hS11 _ _ | exact hS12 _ _ | exact hS13 _ _ | exact hS14 _ _ | exact hS15 _ _ | exact hS16 _ _ | exact hS17 _ _ | exact hS18 _ _ | exact hS19 _ _ | exact hS20 _ _ | exact hS21 _ _ | exact hS22 _ _ | exact hS23 _ _ | assumption | rfl) rfl (rfl) (by omega) ?_
      rw [show ((I', L, g_R s, 306) : pm_H).1 c i = I c i from ec]
      by_cases e : I c i = 0
      · refine ps_ift rfl (decide_eq_true e) ?_
        refine ps_iinc rfl rfl ?_
        refine ps_goto rfl ?_
        rw [show nI i + Int32.ofInt 1 = nI (i + 1) from nI_1 i]
        refine ih (i + 1) (by omega) I' g1 (fun j hj => ?_)
        rw [g2 j hj, suI_s, e, Int32.zero_mul, Int32.add_zero]
      · refine ps_iff rfl (decide_eq_false e) ?_
        refine ps_aload rfl rfl ?_
        refine ps_aload rfl rfl ?_
        refine ps_aload rfl rfl ?_
        refine ps_gfr 9 1 rfl rfl rfl (by first | exact hS0 _ _ | exact hS1 _ _ | exact hS2 _ _ | exact hS3 _ _ | exact hS4 _ _ | exact hS5 _ _ | exact hS6 _ _ | exact hS7 _ _ | exact hS8 _ _ | exact hS9 _ _ | exact hS10 _ _ | exact hS11 _ _ | exact hS12 _ _ | exact hS13 _ _ | exact hS14 _ _ | exact hS15 _ _ | exact hS16 _ _ | exact hS17 _ _ | exact hS18 _ _ | exact hS19 _ _ | exact hS20 _ _ | exact hS21 _ _ | exact hS22 _ _ | exact hS23 _ _ | assumption | rfl) rfl (by first | assumption | rfl) ?_
        refine ps_iload rfl rfl ?_
        refine ps_aload rfl rfl ?_
        refine ps_iload rfl rfl ?_
        refine ps_iald (i) rfl (by first | exact hS0 _ _ | exact hS1 _ _ | exact hS2 _ _ | exact hS3 _ _ | exact hS4 _ _ | exact hS5 _ _ | exact hS6 _ _ | exact hS7 _ _ | exact hS8 _ _ | exact hS9 _ _ | exact hS10 _ _ | exact hS11 _ _ | exact hS12 _ _ | exact hS13 _ _ | exact hS14 _ _ | exact hS15 _ _ | exact hS16 _ _ | exact hS17 _ _ | exact hS18 _ _ | exact hS19 _ _ | exact hS20 _ _ | exact hS21 _ _ | exact hS22 _ _ | exact hS23 _ _ | assumption | rfl) rfl (rfl) (by omega) ?_
        rw [show ((I', L, g_R s, 306) : pm_H).1 c i = I c i from ec]
        refine pv_k rfl rfl rfl rfl rfl (hS0 _ _) rfl ⟨Nat.zero_le _, Nat.zero_le _⟩ ?_
        refine B_addMirroredX hp c' hS4 hS2 b2 bp (by omega) (I c i) (fun I2 k1 k2 => ?_)
        refine ps_iinc rfl rfl ?_
        refine ps_goto rfl ?_
        rw [show nI i + Int32.ofInt 1 = nI (i + 1) from nI_1 i]
        refine ih (i + 1) (by omega) I2 (fun a j z => (k1 a j z).trans (g1 a j z)) (fun j hj => ?_)
        rw [k2 j hj, g2 j hj, suI_s, g1 (p + 2) _ (by omega)]
  refine ps_aload rfl rfl ?_
  refine pw_c rfl ?_
  refine ps_aload rfl rfl ?_
  refine ps_gfi 9 6 rfl rfl rfl (by first | exact hS0 _ _ | exact hS1 _ _ | exact hS2 _ _ | exact hS3 _ _ | exact hS4 _ _ | exact hS5 _ _ | exact hS6 _ _ | exact hS7 _ _ | exact hS8 _ _ | exact hS9 _ _ | exact hS10 _ _ | exact hS11 _ _ | exact hS12 _ _ | exact hS13 _ _ | exact hS14 _ _ | exact hS15 _ _ | exact hS16 _ _ | exact hS17 _ _ | exact hS18 _ _ | exact hS19 _ _ | exact hS20 _ _ | exact hS21 _ _ | exact hS22 _ _ | exact hS23 _ _ | assumption | rfl) rfl ?_
  rw [show ((I, L, g_R s, 306) : pm_H).1 p 6 = nI (w * v) from hP.2.2.1]
  refine pw_c rfl ?_
  refine pw_k rfl rfl rfl rfl ⟨Nat.zero_le _, Nat.zero_le _⟩ ?_
  refine B_fillX (N := 289) hS4 (by omega) n289 0 (fun I1 f1 f2 => ?_)
  refine pw_c rfl ?_
  refine ps_istore rfl rfl ?_
  exact loop (w * v) 0 (by omega) I1 f1 f2
/-- a row decoded at one place: class and reference -/
theorem B_weighedX (hp : isP p) (hP : cP I p w v) (hS4 : ∀ I L, pm_sh (g_P ys) (I, L, g_R s, 306) b = some (.inr (0, 289))) {x y : Nat} (hx : x < 100000) (hy : y < 100000) (kk : Q [.int (suI (fun c => I b c * I (p + 2) (cxy w v (((c % w : Nat) : Int) - (x : Int)) (((c / w : Nat) : Int) - (y : Int)))) (w * v))] (I, L, g_R s, 306)) : pm_W (g_P ys) 158 0 [.ref p, .ref b, .int (nI x), .int (nI y), .retAddr 0, .retAddr 0] [] (I, L, g_R s, 306) (0, 0) Q := by
  obtain ⟨hS0, hS1, hS2, hS3, hR0, hR1, hR2⟩ := pl_F (ys := ys) (s := s) hp
  have n289 := hP.2.2.2.2.2
  have w0 := hP.2.2.2.1
  have v0 := hP.2.2.2.2.1
  have loop : ∀ d i, i + d = w * v → pm_W (g_P ys) 158 6 [.ref p, .ref b, .int (nI x), .int (nI y), .int (suI (fun c => I b c * I (p + 2) (cxy w v (((c % w : Nat) : Int) - (x : Int)) (((c / w : Nat) : Int) - (y : Int)))) i), .int (nI i)] [] (I, L, g_R s, 306) (0, 0) Q := by
    intro d
    induction d with
    | zero =>
      intro i hi
      refine ps_iload rfl rfl ?_
      refine ps_aload rfl rfl ?_
      refine ps_gfi 9 6 rfl rfl rfl (by first | exact hS0 _ _ | exact hS1 _ _ | exact hS2 _ _ | exact hS3 _ _ | exact hS4 _ _ | exact hS5 _ _ | exact hS6 _ _ | exact hS7 _ _ | exact hS8 _ _ | exact hS9 _ _ | exact hS10 _ _ | exact hS11 _ _ | exact hS12 _ _ | exact hS13 _ _ | exact hS14 _ _ | exact hS15 _ _ | exact hS16 _ _ | exact hS17 _ _ | exact hS18 _ _ | exact hS19 _ _ | exact hS20 _ _ | exact hS21 _ _ | exact hS22 _ _ | exact hS23 _ _ | assumption | rfl) rfl ?_
      rw [show ((I, L, g_R s, 306) : pm_H).1 p 6 = nI (w * v) from hP.2.2.1]
      refine ps_icmpt rfl (decide_eq_true (nI_le (by omega) (by omega))) ?_
      refine ps_iload rfl rfl ?_
      refine ps_iret rfl rfl ?_
      rw [show i = w * v by omega]
      exact kk
    | succ d ih =>
      intro i hi
      have z := ih (i + 1) (by omega)
      rw [suI_s] at z
      have x9 := Nat.mod_lt i w0
      have y9 : i / w ≤ i := Nat.div_le_self _ _
      have cl := cxy_lt w0 v0 (((i % w : Nat) : Int) - (x : Int)) (((i / w : Nat) : Int) - (y : Int))
      refine ps_iload rfl rfl ?_
      refine ps_aload rfl rfl ?_
      refine ps_gfi 9 6 rfl rfl rfl (by first | exact hS0 _ _ | exact hS1 _ _ | exact hS2 _ _ | exact hS3 _ _ | exact hS4 _ _ | exact hS5 _ _ | exact hS6 _ _ | exact hS7 _ _ | exact hS8 _ _ | exact hS9 _ _ | exact hS10 _ _ | exact hS11 _ _ | exact hS12 _ _ | exact hS13 _ _ | exact hS14 _ _ | exact hS15 _ _ | exact hS16 _ _ | exact hS17 _ _ | exact hS18 _ _ | exact hS19 _ _ | exact hS20 _ _ | exact hS21 _ _ | exact hS22 _ _ | exact hS23 _ _ | assumption | rfl) rfl ?_
      rw [show ((I, L, g_R s, 306) : pm_H).1 p 6 = nI (w * v) from hP.2.2.1]
      refine ps_icmpf rfl (decide_eq_false (nI_ge (by omega) (by omega))) ?_
      refine ps_aload rfl rfl ?_
      refine ps_iload rfl rfl ?_
      refine ps_iald (i) rfl (by first | exact hS0 _ _ | exact hS1 _ _ | exact hS2 _ _ | exact hS3 _ _ | exact hS4 _ _ | exact hS5 _ _ | exact hS6 _ _ | exact hS7 _ _ | exact hS8 _ _ | exact hS9 _ _ | exact hS10 _ _ | exact hS11 _ _ | exact hS12 _ _ | exact hS13 _ _ | exact hS14 _ _ | exact hS15 _ _ | exact hS16 _ _ | exact hS17 _ _ | exact hS18 _ _ | exact hS19 _ _ | exact hS20 _ _ | exact hS21 _ _ | exact hS22 _ _ | exact hS23 _ _ | assumption | rfl) rfl (rfl) (by omega) ?_
      by_cases e : I b i = 0
      · rw [e, Int32.zero_mul, Int32.add_zero] at z
        refine ps_ift rfl (decide_eq_true e) ?_
        refine ps_iinc rfl rfl ?_
        refine ps_goto rfl ?_
        rw [show nI i + Int32.ofInt 1 = nI (i + 1) from nI_1 i]
        exact z
      · refine ps_iff rfl (decide_eq_false e) ?_
        refine ps_iload rfl rfl ?_
        refine ps_aload rfl rfl ?_
        refine ps_iload rfl rfl ?_
        refine ps_iald (i) rfl (by first | exact hS0 _ _ | exact hS1 _ _ | exact hS2 _ _ | exact hS3 _ _ | exact hS4 _ _ | exact hS5 _ _ | exact hS6 _ _ | exact hS7 _ _ | exact hS8 _ _ | exact hS9 _ _ | exact hS10 _ _ | exact hS11 _ _ | exact hS12 _ _ | exact hS13 _ _ | exact hS14 _ _ | exact hS15 _ _ | exact hS16 _ _ | exact hS17 _ _ | exact hS18 _ _ | exact hS19 _ _ | exact hS20 _ _ | exact hS21 _ _ | exact hS22 _ _ | exact hS23 _ _ | assumption | rfl) rfl (rfl) (by omega) ?_
        refine ps_aload rfl rfl ?_
        refine ps_gfr 9 1 rfl rfl rfl (by first | exact hS0 _ _ | exact hS1 _ _ | exact hS2 _ _ | exact hS3 _ _ | exact hS4 _ _ | exact hS5 _ _ | exact hS6 _ _ | exact hS7 _ _ | exact hS8 _ _ | exact hS9 _ _ | exact hS10 _ _ | exact hS11 _ _ | exact hS12 _ _ | exact hS13 _ _ | exact hS14 _ _ | exact hS15 _ _ | exact hS16 _ _ | exact hS17 _ _ | exact hS18 _ _ | exact hS19 _ _ | exact hS20 _ _ | exact hS21 _ _ | exact hS22 _ _ | exact hS23 _ _ | assumption | rfl) rfl (by first | assumption | rfl) ?_
        refine ps_aload rfl rfl ?_
        refine ps_aload rfl rfl ?_
        refine ps_iload rfl rfl ?_
        refine pv_k rfl rfl rfl rfl rfl (hS0 _ _) rfl ⟨Nat.zero_le _, Nat.zero_le _⟩ ?_
        refine B_xOfX hp hP (by omega) ?_
        refine ps_iload rfl rfl ?_
        refine ps_ar rfl rfl rfl rfl rfl ?_
        refine ps_aload rfl rfl ?_
        refine ps_iload rfl rfl ?_
        refine pv_k rfl rfl rfl rfl rfl (hS0 _ _) rfl ⟨Nat.zero_le _, Nat.zero_le _⟩ ?_
        refine B_yOfX hp hP (by omega) ?_
        refine ps_iload rfl rfl ?_
        refine ps_ar rfl rfl rfl rfl rfl ?_
        have x8 := Nat.mod_le i w
        have x7 := Int.natCast_nonneg (i % w)
        have y7 := Int.natCast_nonneg (i / w)
        have t1 : (nI (i % w) - nI x).toInt = ((i % w : Nat) : Int) - (x : Int) := by
          rw [← iI_nat, ← iI_nat x, iI_sub, iI_toInt (by omega) (by omega)]
        have t2 : (nI (i / w) - nI y).toInt = ((i / w : Nat) : Int) - (y : Int) := by
          rw [← iI_nat, ← iI_nat y, iI_sub, iI_toInt (by omega) (by omega)]
        refine pv_k rfl rfl rfl rfl rfl (hS0 _ _) rfl ⟨Nat.zero_le _, Nat.zero_le _⟩ ?_
        refine B_indexOfX hp hP _ _ ?_
        rw [t1, t2]
        refine ps_iald (cxy w v (((i % w : Nat) : Int) - (x : Int)) (((i / w : Nat) : Int) - (y : Int))) rfl (by first | exact hS0 _ _ | exact hS1 _ _ | exact hS2 _ _ | exact hS3 _ _ | exact hS4 _ _ | exact hS5 _ _ | exact hS6 _ _ | exact hS7 _ _ | exact hS8 _ _ | exact hS9 _ _ | exact hS10 _ _ | exact hS11 _ _ | exact hS12 _ _ | exact hS13 _ _ | exact hS14 _ _ | exact hS15 _ _ | exact hS16 _ _ | exact hS17 _ _ | exact hS18 _ _ | exact hS19 _ _ | exact hS20 _ _ | exact hS21 _ _ | exact hS22 _ _ | exact hS23 _ _ | assumption | rfl) rfl (rfl) (by omega) ?_
        refine ps_ar rfl rfl rfl rfl rfl ?_
        refine ps_ar rfl rfl rfl rfl rfl ?_
        refine ps_istore rfl rfl ?_
        refine ps_iinc rfl rfl ?_
        refine ps_goto rfl ?_
        rw [show nI i + Int32.ofInt 1 = nI (i + 1) from nI_1 i]
        exact z
  refine pw_c rfl ?_
  refine ps_istore rfl rfl ?_
  refine pw_c rfl ?_
  refine ps_istore rfl rfl ?_
  exact loop (w * v) 0 (by omega)
end TI
