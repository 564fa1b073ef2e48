/-! BY HAND: the class's plates, exactly, second: patterns added, plates made -/
section KS
variable {I I' : Nat → Nat → Int32} {L : Nat → Nat → Int64} {s : Nat → Option Nat} {Q : List Value → pm_H → Prop} {ys : List Int32} {h : pm_H}
theorem md_s {z w : Int} (hw : 0 < w) : (z + 1) % w = if z % w + 1 = w then 0 else z % w + 1 := by
  have h1 := Int.emod_nonneg z (show ¬ w = 0 by omega)
  have h2 := Int.emod_lt_of_pos z hw
  rw [← Int.emod_add_emod]
  split
  · rename_i e
    rw [e, Int.emod_self]
  · exact Int.emod_eq_of_lt (by omega) (by omega)
theorem mdN {z : Int} {w : Nat} (hw : 0 < w) : ∃ r, r < w ∧ (z % w).toNat = r ∧ z % (w : Int) = (r : Int) ∧ ((z + 1) % w).toNat = if r + 1 = w then 0 else r + 1 := by
  have h1 := Int.emod_nonneg z (show ¬ (w : Int) = 0 by omega)
  have h2 := Int.emod_lt_of_pos z (show (0 : Int) < w by omega)
  have h3 := md_s (z := z) (w := w) (by omega)
  refine ⟨(z % w).toNat, by omega, rfl, by omega, ?_⟩
  rw [h3]
  by_cases e : (z % w).toNat + 1 = w
  · rw [if_pos e, if_pos (by omega)]
    rfl
  · rw [if_neg e, if_neg (by omega)]
    omega
/-- the place of the pattern that comes to the place i -/
def shF (w v : Nat) (dx dy : Int) (i : Nat) : Nat := cxy w v (((i % w : Nat) : Int) + dx) (((i / w : Nat) : Int) + dy)
theorem shF_xy {w v x y : Nat} {dx dy : Int} (hx : x < w) : shF w v dx dy (w * y + x) = (((y : Int) + dy) % v).toNat * w + (((x : Int) + dx) % w).toNat := by
  obtain ⟨e1, e2⟩ := sq_ix (p := w) (x := x) (y := y) hx
  unfold shF cxy
  rw [e1, e2]
theorem row_in {w v y x : Nat} (hy : y < v) (hx : x < w) : w * y + x < w * v ∧ y * w + x < w * v := by
  have := Nat.mul_le_mul_left w (show y + 1 ≤ v by omega)
  rw [Nat.mul_add, Nat.mul_one] at this
  have e : y * w = w * y := Nat.mul_comm _ _
  omega
theorem B_addShiftedX {p b c w v : Nat} (hp : isP p) (hP : cP I p w v) (hS4 : ∀ I L, pm_sh (g_P ys) (I, L, g_R s, 306) b = some (.inr (0, 289))) (hS5 : ∀ I L, pm_sh (g_P ys) (I, L, g_R s, 306) c = some (.inr (0, 289))) (bc : ¬ c = b) (bp : ¬ p = b) (dx dy tm : Int32) (kk : ∀ I', (∀ a j, ¬ (a = b ∧ j < w * v) → I' a j = I a j) → (∀ i, i < w * v → I' b i = I b i + tm * I c (shF w v dx.toInt dy.toInt i)) → Q [] (I', L, g_R s, 306)) : pm_W (g_P ys) 65 0 [.ref p, .ref b, .ref c, .int dx, .int dy, .int tm, .retAddr 0, .retAddr 0, .retAddr 0, .retAddr 0, .retAddr 0, .retAddr 0] [] (I, L, g_R s, 306) (0, 0) Q := by
  obtain ⟨hS0, hS1, hS2, hS3, hR0, hR1, hR2⟩ := pl_F (ys := ys) (s := s) hp
  have h289 := hP.2.2.2.2.2
  have w0 := hP.2.2.2.1
  have v0 := hP.2.2.2.2.1
  obtain ⟨wb, vb⟩ := cP_b hP
  obtain ⟨fx, hfx⟩ : ∃ fx, fx = (dx.toInt % w).toNat := ⟨_, rfl⟩
  have outer : ∀ e y I' (u10 u11 : Value), y + e = v → (∀ a j, ¬ (a = b ∧ j < w * y) → I' a j = I a j) → (∀ i, i < w * y → I' b i = I b i + tm * I c (shF w v dx.toInt dy.toInt i)) → ∀ py, py = (((y : Int) + dy.toInt) % v).toNat → pm_W (g_P ys) 65 27 [.ref p, .ref b, .ref c, .int dx, .int dy, .int tm, .int (nI fx), .int (nI py), .int (nI (w * y)), .int (nI y), u10, u11] [] (I', L, g_R s, 306) (0, 0) Q := by
    intro e
    induction e with
    | zero =>
      intro y I' u10 u11 hy h1 h2 py hpy
      have hyv : y = v := by omega
      have P' := cP_o hP (fun j => h1 p j (fun z => bp z.1))
      refine ps_iload rfl rfl ?_
      refine ps_aload rfl rfl ?_
      refine ps_gfi 9 5 rfl rfl rfl (by first | exact hS0 _ _ | exact hS1 _ _ | exact hS2 _ _ | exact hS3 _ _ | exact hS4 _ _ | exact hS5 _ _ | exact hS6 _ _ | exact hS7 _ _ | exact hS8 _ _ | exact hS9 _ _ | exact hS10 _ _ | exact hS11 _ _ | exact hS12 _ _ | exact hS13 _ _ | assumption | rfl) rfl ?_
      rw [show ((I', L, g_R s, 306) : pm_H).1 p 5 = nI v from P'.2.1]
      refine ps_icmpt rfl (decide_eq_true (nI_le (by omega) (by omega))) ?_
      refine ps_vret rfl rfl ?_
      rw [hyv] at h1 h2
      exact kk _ h1 h2
    | succ e ihe =>
      intro y I' u10 u11 hy h1 h2 py hpy
      have P' := cP_o hP (fun j => h1 p j (fun z => bp z.1))
      have inner : ∀ d x I' , x + d = w → (∀ a j, ¬ (a = b ∧ j < w * y + x) → I' a j = I a j) → (∀ i, i < w * y + x → I' b i = I b i + tm * I c (shF w v dx.toInt dy.toInt i)) → ∀ px, px = (((x : Int) + dx.toInt) % w).toNat → pm_W (g_P ys) 65 43 [.ref p, .ref b, .ref c, .int dx, .int dy, .int tm, .int (nI fx), .int (nI py), .int (nI (w * y + x)), .int (nI y), .int (nI px), .int (nI x)] [] (I', L, g_R s, 306) (0, 0) Q := by
        intro d
        induction d with
        | zero =>
          intro x I' hx h1 h2 px hpx
          have hxw : x = w := by omega
          have P' := cP_o hP (fun j => h1 p j (fun z => bp z.1))
          rw [hxw, show w * y + w = w * (y + 1) by rw [Nat.mul_add, Nat.mul_one]] at h1 h2 ⊢
          obtain ⟨r, r1, r2, r3, r4⟩ := mdN (z := (y : Int) + dy.toInt) v0
          have er : py = r := by rw [hpy]; exact r2
          subst er
          refine ps_iload rfl rfl ?_
          refine ps_aload rfl rfl ?_
          refine ps_gfi 9 4 rfl rfl rfl (by first | exact hS0 _ _ | exact hS1 _ _ | exact hS2 _ _ | exact hS3 _ _ | exact hS4 _ _ | exact hS5 _ _ | exact hS6 _ _ | exact hS7 _ _ | exact hS8 _ _ | exact hS9 _ _ | exact hS10 _ _ | exact hS11 _ _ | exact hS12 _ _ | exact hS13 _ _ | assumption | rfl) rfl ?_
          rw [show ((I', L, g_R s, 306) : pm_H).1 p 4 = nI w from P'.1]
          refine ps_icmpt rfl (decide_eq_true (nI_le (by omega) (by omega))) ?_
          refine ps_iload rfl rfl ?_
          refine pw_c rfl ?_
          refine ps_ar rfl rfl rfl rfl rfl ?_
          rw [show nI py + (1 : Int32) = nI (py + 1) from nI_1 py]
          refine ps_aload rfl rfl ?_
          refine ps_gfi 9 5 rfl rfl rfl (by first | exact hS0 _ _ | exact hS1 _ _ | exact hS2 _ _ | exact hS3 _ _ | exact hS4 _ _ | exact hS5 _ _ | exact hS6 _ _ | exact hS7 _ _ | exact hS8 _ _ | exact hS9 _ _ | exact hS10 _ _ | exact hS11 _ _ | exact hS12 _ _ | exact hS13 _ _ | assumption | rfl) rfl ?_
          rw [show ((I', L, g_R s, 306) : pm_H).1 p 5 = nI v from P'.2.1]
          have next : ∀ q, q = ((((y + 1 : Nat) : Int) + dy.toInt) % v).toNat → pm_W (g_P ys) 65 123 [.ref p, .ref b, .ref c, .int dx, .int dy, .int tm, .int (nI fx), .int (nI py), .int (nI (w * (y + 1))), .int (nI y), .int (nI px), .int (nI w)] [.int (nI q)] (I', L, g_R s, 306) (0, 0) Q := by
            intro q hq
            refine ps_istore rfl rfl ?_
            refine ps_iinc rfl rfl ?_
            refine ps_goto rfl ?_
            rw [show nI y + Int32.ofInt 1 = nI (y + 1) from nI_1 y]
            exact ihe (y + 1) _ _ _ (by omega) h1 h2 q hq
          rw [show (y : Int) + dy.toInt + 1 = ((y + 1 : Nat) : Int) + dy.toInt by omega] at r4
          by_cases eq : py + 1 = v
          · refine ps_icmpf rfl (decide_eq_false (fun z => z (by rw [eq]))) ?_
            refine pw_c rfl ?_
            refine ps_goto rfl ?_
            exact next 0 (by rw [r4, if_pos eq])
          · refine ps_icmpt rfl (decide_eq_true (fun z => eq (nI_inj (by omega) (by omega) z))) ?_
            refine ps_iload rfl rfl ?_
            refine pw_c rfl ?_
            refine ps_ar rfl rfl rfl rfl rfl ?_
            rw [show nI py + (1 : Int32) = nI (py + 1) from nI_1 py]
            exact next (py + 1) (by rw [r4, if_neg eq])
        | succ d ih =>
          intro x I' hx h1 h2 px hpx
          have P' := cP_o hP (fun j => h1 p j (fun z => bp z.1))
          obtain ⟨r, r1, r2, r3, r4⟩ := mdN (z := (x : Int) + dx.toInt) w0
          have er : px = r := by rw [hpx]; exact r2
          subst er
          obtain ⟨q, q1, q2, q3, q4⟩ := mdN (z := (y : Int) + dy.toInt) v0
          have eq : py = q := by rw [hpy]; exact q2
          subst eq
          have sh := shF_xy (w := w) (v := v) (dx := dx.toInt) (dy := dy.toInt) (x := x) (y := y) (by omega)
          rw [q2, r2] at sh
          have b1 := (row_in (w := w) (v := v) (y := y) (x := x) (by omega) (by omega)).1
          have b2 := (row_in (w := w) (v := v) (y := py) (x := px) (by omega) (by omega)).2
          refine ps_iload rfl rfl ?_
          refine ps_aload rfl rfl ?_
          refine ps_gfi 9 4 rfl rfl rfl (by first | exact hS0 _ _ | exact hS1 _ _ | exact hS2 _ _ | exact hS3 _ _ | exact hS4 _ _ | exact hS5 _ _ | exact hS6 _ _ | exact hS7 _ _ | exact hS8 _ _ | exact hS9 _ _ | exact hS10 _ _ | exact hS11 _ _ | exact hS12 _ _ | exact hS13 _ _ | assumption | rfl) rfl ?_
          rw [show ((I', L, g_R s, 306) : pm_H).1 p 4 = nI w from P'.1]
          refine ps_icmpf rfl (decide_eq_false (nI_ge (by omega) (by omega))) ?_
          refine ps_aload rfl rfl ?_
          refine ps_iload rfl rfl ?_
          refine ps_ar rfl rfl rfl rfl rfl ?_
          refine ps_iald (w * y + x) rfl (by first | exact hS0 _ _ | exact hS1 _ _ | exact hS2 _ _ | exact hS3 _ _ | exact hS4 _ _ | exact hS5 _ _ | exact hS6 _ _ | exact hS7 _ _ | exact hS8 _ _ | exact hS9 _ _ | exact hS10 _ _ | exact hS11 _ _ | exact hS12 _ _ | exact hS13 _ _ | assumption | rfl) rfl (rfl) (by omega) ?_
          refine ps_iload rfl rfl ?_
          refine ps_aload rfl rfl ?_
          refine ps_iload rfl rfl ?_
          refine ps_aload rfl rfl ?_
          refine ps_gfi 9 4 rfl rfl rfl (by first | exact hS0 _ _ | exact hS1 _ _ | exact hS2 _ _ | exact hS3 _ _ | exact hS4 _ _ | exact hS5 _ _ | exact hS6 _ _ | exact hS7 _ _ | exact hS8 _ _ | exact hS9 _ _ | exact hS10 _ _ | exact hS11 _ _ | exact hS12 _ _ | exact hS13 _ _ | assumption | rfl) rfl ?_
          rw [show ((I', L, g_R s, 306) : pm_H).1 p 4 = nI w from P'.1]
          refine ps_ar rfl rfl rfl rfl rfl ?_
          refine ps_iload rfl rfl ?_
          refine ps_ar rfl rfl rfl rfl rfl ?_
          rw [show nI py * nI w + nI px = nI (py * w + px) by rw [pk_mul, nI_add]]
          refine ps_iald (py * w + px) rfl (by first | exact hS0 _ _ | exact hS1 _ _ | exact hS2 _ _ | exact hS3 _ _ | exact hS4 _ _ | exact hS5 _ _ | exact hS6 _ _ | exact hS7 _ _ | exact hS8 _ _ | exact hS9 _ _ | exact hS10 _ _ | exact hS11 _ _ | exact hS12 _ _ | exact hS13 _ _ | assumption | rfl) rfl (rfl) (by omega) ?_
          rw [show ((I', L, g_R s, 306) : pm_H).1 c (py * w + px) = I c (py * w + px) from h1 _ _ (fun z => bc z.1)]
          rw [show ((I', L, g_R s, 306) : pm_H).1 b (w * y + x) = I b (w * y + x) from h1 _ _ (by omega)]
          refine ps_ar rfl rfl rfl rfl rfl ?_
          refine ps_ar rfl rfl rfl rfl rfl ?_
          refine ps_iast (w * y + x) rfl (by first | exact hS0 _ _ | exact hS1 _ _ | exact hS2 _ _ | exact hS3 _ _ | exact hS4 _ _ | exact hS5 _ _ | exact hS6 _ _ | exact hS7 _ _ | exact hS8 _ _ | exact hS9 _ _ | exact hS10 _ _ | exact hS11 _ _ | exact hS12 _ _ | exact hS13 _ _ | assumption | rfl) rfl (rfl) (by omega) ?_
          refine ps_iinc rfl rfl ?_
          refine ps_iload rfl rfl ?_
          refine pw_c rfl ?_
          rw [show nI (w * y + x) + Int32.ofInt 1 = nI (w * y + (x + 1)) from nI_1 _]
          refine ps_ar rfl rfl rfl rfl rfl ?_
          rw [show nI px + (1 : Int32) = nI (px + 1) from nI_1 px]
          refine ps_aload rfl rfl ?_
          refine ps_gfi 9 4 rfl rfl rfl (by first | exact hS0 _ _ | exact hS1 _ _ | exact hS2 _ _ | exact hS3 _ _ | exact hS4 _ _ | exact hS5 _ _ | exact hS6 _ _ | exact hS7 _ _ | exact hS8 _ _ | exact hS9 _ _ | exact hS10 _ _ | exact hS11 _ _ | exact hS12 _ _ | exact hS13 _ _ | assumption | rfl) rfl ?_
          show pm_W _ _ _ _ [.int (pm_u I' b (w * y + x) (I b (w * y + x) + tm * I c (py * w + px)) p 4), .int (nI (px + 1))] (pm_u I' b (w * y + x) (I b (w * y + x) + tm * I c (py * w + px)), L, g_R s, 306) _ _
          rw [pu_o bp, P'.1]
          have next : ∀ z, z = ((((x + 1 : Nat) : Int) + dx.toInt) % w).toNat → pm_W (g_P ys) 65 96 [.ref p, .ref b, .ref c, .int dx, .int dy, .int tm, .int (nI fx), .int (nI py), .int (nI (w * y + (x + 1))), .int (nI y), .int (nI px), .int (nI x)] [.int (nI z)] (pm_u I' b (w * y + x) (I b (w * y + x) + tm * I c (py * w + px)), L, g_R s, 306) (0, 0) Q := by
            intro z hz
            refine ps_istore rfl rfl ?_
            refine ps_iinc rfl rfl ?_
            refine ps_goto rfl ?_
            rw [show nI x + Int32.ofInt 1 = nI (x + 1) from nI_1 x]
            exact ih (x + 1) _ (by omega) (fun a j q => (pu_x (fun z => q (by omega))).trans (h1 a j (fun z => q (by omega)))) (row_t (k := w * y + x) (G := fun i => I b i + tm * I c (shF w v dx.toInt dy.toInt i)) h2 (by rw [sh])) z hz
          rw [show (x : Int) + dx.toInt + 1 = ((x + 1 : Nat) : Int) + dx.toInt by omega] at r4
          by_cases eq : px + 1 = w
          · refine ps_icmpf rfl (decide_eq_false (fun z => z (by rw [eq]))) ?_
            refine pw_c rfl ?_
            refine ps_goto rfl ?_
            exact next 0 (by rw [r4, if_pos eq])
          · refine ps_icmpt rfl (decide_eq_true (fun z => eq (nI_inj (by omega) (by omega) z))) ?_
            refine ps_iload rfl rfl ?_
            refine pw_c rfl ?_
            refine ps_ar rfl rfl rfl rfl rfl ?_
            rw [show nI px + (1 : Int32) = nI (px + 1) from nI_1 px]
            exact next (px + 1) (by rw [r4, if_neg eq])
      refine ps_iload rfl rfl ?_
      refine ps_aload rfl rfl ?_
      refine ps_gfi 9 5 rfl rfl rfl (by first | exact hS0 _ _ | exact hS1 _ _ | exact hS2 _ _ | exact hS3 _ _ | exact hS4 _ _ | exact hS5 _ _ | exact hS6 _ _ | exact hS7 _ _ | exact hS8 _ _ | exact hS9 _ _ | exact hS10 _ _ | exact hS11 _ _ | exact hS12 _ _ | exact hS13 _ _ | assumption | rfl) rfl ?_
      rw [show ((I', L, g_R s, 306) : pm_H).1 p 5 = nI v from P'.2.1]
      refine ps_icmpf rfl (decide_eq_false (nI_ge (by omega) (by omega))) ?_
      refine ps_iload rfl rfl ?_
      refine ps_istore rfl rfl ?_
      refine pw_c rfl ?_
      refine ps_istore rfl rfl ?_
      exact inner w 0 I' (by omega) h1 h2 fx (by rw [hfx]; congr 1; congr 1; omega)
  refine ps_iload rfl rfl ?_
  refine ps_aload rfl rfl ?_
  refine ps_gfi 9 4 rfl rfl rfl (by first | exact hS0 _ _ | exact hS1 _ _ | exact hS2 _ _ | exact hS3 _ _ | exact hS4 _ _ | exact hS5 _ _ | exact hS6 _ _ | exact hS7 _ _ | exact hS8 _ _ | exact hS9 _ _ | exact hS10 _ _ | exact hS11 _ _ | exact hS12 _ _ | exact hS13 _ _ | assumption | rfl) rfl ?_
  rw [show ((I, L, g_R s, 306) : pm_H).1 p 4 = nI w from hP.1]
  refine pw_k rfl rfl rfl rfl ⟨Nat.zero_le _, Nat.zero_le _⟩ ?_
  refine B_floorModX dx w0 (by omega) ?_
  refine ps_istore rfl rfl ?_
  refine ps_iload rfl rfl ?_
  refine ps_aload rfl rfl ?_
  refine ps_gfi 9 5 rfl rfl rfl (by first | exact hS0 _ _ | exact hS1 _ _ | exact hS2 _ _ | exact hS3 _ _ | exact hS4 _ _ | exact hS5 _ _ | exact hS6 _ _ | exact hS7 _ _ | exact hS8 _ _ | exact hS9 _ _ | exact hS10 _ _ | exact hS11 _ _ | exact hS12 _ _ | exact hS13 _ _ | assumption | rfl) rfl ?_
  rw [show ((I, L, g_R s, 306) : pm_H).1 p 5 = nI v from hP.2.1]
  refine pw_k rfl rfl rfl rfl ⟨Nat.zero_le _, Nat.zero_le _⟩ ?_
  refine B_floorModX dy v0 (by omega) ?_
  refine ps_istore rfl rfl ?_
  refine pw_c rfl ?_
  refine ps_istore rfl rfl ?_
  refine pw_c rfl ?_
  refine ps_istore rfl rfl ?_
  rw [← hfx]
  exact outer v 0 I _ _ (by omega) (fun _ _ _ => rfl) (fun j hj => absurd hj (by omega)) _ (by congr 1; congr 1; omega)
theorem B_closedX {p w : Nat} (hp : isP p) (w0 : 0 < w) (w9 : w ≤ 289) (kk : ∀ I', (∀ a j, ¬ ((a = p ∧ (j = 4 ∨ j = 5 ∨ j = 6 ∨ j = 9)) ∨ (a = p + 1 ∧ j < 289)) → I' a j = I a j) → cP I' p w 1 → I' p 9 = 0 → (∀ j, j < w → I' (p + 1) j = 0) → Q [] (I', L, g_R s, 306)) : pm_W (g_P ys) 48 0 [.ref p, .int (nI w)] [] (I, L, g_R s, 306) (0, 0) Q := by
  obtain ⟨hS0, hS1, hS2, hS3, hR0, hR1, hR2⟩ := pl_F (ys := ys) (s := s) hp
  have hc := rsz_cP (I := I) (p := p) w0 (show 0 < 1 by omega) (show w * 1 ≤ 289 by omega)
  refine ps_aload rfl rfl ?_
  refine ps_iload rfl rfl ?_
  refine pw_c rfl ?_
  refine pv_k rfl rfl rfl rfl rfl (by first | exact hS0 _ _ | exact hS1 _ _ | exact hS2 _ _ | exact hS3 _ _ | exact hS4 _ _ | exact hS5 _ _ | exact hS6 _ _ | exact hS7 _ _ | exact hS8 _ _ | exact hS9 _ _ | exact hS10 _ _ | exact hS11 _ _ | exact hS12 _ _ | exact hS13 _ _ | assumption | rfl) rfl ⟨Nat.zero_le _, Nat.zero_le _⟩ ?_
  refine B_resizeX hp w0 (v := 1) (by omega) (by omega) ?_
  refine ps_aload rfl rfl ?_
  refine ps_gfr 9 0 rfl rfl rfl (by first | exact hS0 _ _ | exact hS1 _ _ | exact hS2 _ _ | exact hS3 _ _ | exact hS4 _ _ | exact hS5 _ _ | exact hS6 _ _ | exact hS7 _ _ | exact hS8 _ _ | exact hS9 _ _ | exact hS10 _ _ | exact hS11 _ _ | exact hS12 _ _ | exact hS13 _ _ | assumption | rfl) rfl (by assumption) ?_
  refine pw_c rfl ?_
  refine ps_aload rfl rfl ?_
  refine ps_gfi 9 6 rfl rfl rfl (by first | exact hS0 _ _ | exact hS1 _ _ | exact hS2 _ _ | exact hS3 _ _ | exact hS4 _ _ | exact hS5 _ _ | exact hS6 _ _ | exact hS7 _ _ | exact hS8 _ _ | exact hS9 _ _ | exact hS10 _ _ | exact hS11 _ _ | exact hS12 _ _ | exact hS13 _ _ | assumption | rfl) rfl ?_
  rw [show (((rszI I p w 1), L, g_R s, 306) : pm_H).1 p 6 = nI (w * 1) from hc.2.2.1]
  refine pw_c rfl ?_
  refine pw_k rfl rfl rfl rfl ⟨Nat.zero_le _, Nat.zero_le _⟩ ?_
  refine B_fillX (b := p + 1) (n := w * 1) (N := 289) hS1 (by omega) (by omega) 0 ?_
  intro I' h1 h2
  refine ps_vret rfl rfl ?_
  refine kk I' (fun a j q => ?_) (cP_o hc (fun j => h1 _ _ (by omega))) ?_ (fun j hj => h2 j (by omega))
  · rw [h1 a j (fun z => q (by omega))]
    exact rsz_o (fun z => q (by omega))
  · rw [h1 _ _ (by omega)]
    exact pu_s
/-- a plate is P (but for its name, how many holes, weights) -/
def cPP (I : Nat → Nat → Int32) (p : Nat) (P : sPl) : Prop := cP I p P.w P.v ∧ I p 9 = 0 ∧ ∀ i, i < P.w * P.v → I (p + 1) i = P.ho i ∧ I (p + 2) i = P.we i
/-- where a plate is made -/
def cF (p : Nat) (I I' : Nat → Nat → Int32) : Prop := ∀ a j, ¬ ((a = p ∧ ¬ j = 3) ∨ a = p + 1 ∨ a = p + 2) → I' a j = I a j
variable {nm : Int32}
theorem B_makeRowX {p q : Nat} (hp : isP p) (h1 : 2 ≤ q) (h2 : q ≤ 47) (kk : ∀ I', cF p I I' → cPP I' p (pRow nm q) → Q [] (I', L, g_R s, 306)) : pm_W (g_P ys) 60 0 [.ref p, .int (nI q), .retAddr 0] [] (I, L, g_R s, 306) (0, 0) Q := by
  obtain ⟨hS0, hS1, hS2, hS3, hR0, hR1, hR2⟩ := pl_F (ys := ys) (s := s) hp
  refine ps_aload rfl rfl ?_
  refine ps_iload rfl rfl ?_
  refine pv_k rfl rfl rfl rfl rfl (by first | exact hS0 _ _ | exact hS1 _ _ | exact hS2 _ _ | exact hS3 _ _ | exact hS4 _ _ | exact hS5 _ _ | exact hS6 _ _ | exact hS7 _ _ | exact hS8 _ _ | exact hS9 _ _ | exact hS10 _ _ | exact hS11 _ _ | exact hS12 _ _ | exact hS13 _ _ | assumption | rfl) rfl ⟨Nat.zero_le _, Nat.zero_le _⟩ ?_
  refine B_closedX hp (by omega) (by omega) ?_
  intro I1 f1 c1 k1 z1
  have loop : ∀ d x I', x + d = q → 1 ≤ x → (∀ a j, ¬ (a = p + 1 ∧ 0 < j ∧ j < x) → I' a j = I1 a j) → (∀ j, 0 < j → j < x → I' (p + 1) j = if reB q j = true then 1 else 0) → pm_W (g_P ys) 60 7 [.ref p, .int (nI q), .int (nI x)] [] (I', L, g_R s, 306) (0, 0) Q := by
    intro d
    induction d with
    | zero =>
      intro x I' hx x1 g1 g2
      have hxq : x = q := by omega
      have c' := cP_o c1 (fun j => g1 p j (by omega))
      refine ps_iload rfl rfl ?_
      refine ps_aload rfl rfl ?_
      refine ps_gfi 9 6 rfl rfl rfl (by first | exact hS0 _ _ | exact hS1 _ _ | exact hS2 _ _ | exact hS3 _ _ | exact hS4 _ _ | exact hS5 _ _ | exact hS6 _ _ | exact hS7 _ _ | exact hS8 _ _ | exact hS9 _ _ | exact hS10 _ _ | exact hS11 _ _ | exact hS12 _ _ | exact hS13 _ _ | assumption | rfl) rfl ?_
      rw [show ((I', L, g_R s, 306) : pm_H).1 p 6 = nI (q * 1) from c'.2.2.1]
      refine ps_icmpt rfl (decide_eq_true (nI_le (by omega) (by omega))) ?_
      refine ps_aload rfl rfl ?_
      refine pv_k rfl rfl rfl rfl rfl (by first | exact hS0 _ _ | exact hS1 _ _ | exact hS2 _ _ | exact hS3 _ _ | exact hS4 _ _ | exact hS5 _ _ | exact hS6 _ _ | exact hS7 _ _ | exact hS8 _ _ | exact hS9 _ _ | exact hS10 _ _ | exact hS11 _ _ | exact hS12 _ _ | exact hS13 _ _ | assumption | rfl) rfl ⟨Nat.zero_le _, Nat.zero_le _⟩ ?_
      refine B_weighX hp c' ?_
      intro I2 f2 w2
      have k2 : I2 p 9 = 0 := (f2 _ _ (by omega)).trans ((g1 _ _ (by omega)).trans k1)
      have ho : ∀ i, i < q → I2 (p + 1) i = (pRow nm q).ho i := fun i hi => by
        rw [f2 _ _ (by omega)]
        show I' (p + 1) i = if 0 < i ∧ reB q i = true then 1 else 0
        by_cases i0 : i = 0
        · rw [if_neg (by omega), g1 _ _ (by omega), i0]
          exact z1 0 (by omega)
        · rw [g2 i (by omega) (by omega)]
          by_cases e : reB q i = true
          · rw [if_pos e, if_pos ⟨by omega, e⟩]
          · rw [if_neg e, if_neg (fun z => e z.2)]
      have we : ∀ i, i < q → 0 < i → I2 (p + 2) i = (pRow nm q).we i := fun i hi i0 => by
        rw [w2 i (by omega)]
        have z := ho i hi
        rw [f2 _ _ (by omega)] at z
        rw [z]
        show (if (if 0 < i ∧ reB q i = true then (1 : Int32) else 0) = 1 then (1 : Int32) else -1) = if (0 < i ∧ reB q i = true) ∨ (i = 0 ∧ q % 4 = 1) then 1 else -1
        by_cases e : 0 < i ∧ reB q i = true
        · rw [if_pos e, if_pos rfl, if_pos (Or.inl e)]
        · rw [if_neg e, if_neg (by decide), if_neg (fun z => Or.elim z e (fun z => by omega))]
      have fr : ∀ I3, (∀ a j, ¬ (a = p + 2) → I3 a j = I2 a j) → cF p I I3 := fun I3 f3 a j n => by
        rw [f3 a j (fun z => n (by omega)), f2 a j (fun z => n (by omega)), g1 a j (fun z => n (by omega)), f1 a j (fun z => n (by omega))]
      refine ps_iload rfl rfl ?_
      refine pw_c rfl ?_
      refine ps_rem rfl (nI_nz (b := 4) (by omega) (by omega)) ?_
      rw [show nI q - nI q / (4 : Int32) * (4 : Int32) = nI (q % 4) from nI_rem (b := 4) (by omega) (by omega) (by omega)]
      have w0 : I2 (p + 2) 0 = -1 := by
        rw [w2 0 (by omega)]
        have z := ho 0 (by omega)
        rw [f2 _ _ (by omega)] at z
        rw [z]
        rfl
      by_cases q4 : q % 4 = 1
      · rw [q4]
        refine pw_c rfl ?_
        refine ps_icmpf rfl (rfl) ?_
        refine ps_aload rfl rfl ?_
        refine ps_gfr 9 1 rfl rfl rfl (by first | exact hS0 _ _ | exact hS1 _ _ | exact hS2 _ _ | exact hS3 _ _ | exact hS4 _ _ | exact hS5 _ _ | exact hS6 _ _ | exact hS7 _ _ | exact hS8 _ _ | exact hS9 _ _ | exact hS10 _ _ | exact hS11 _ _ | exact hS12 _ _ | exact hS13 _ _ | assumption | rfl) rfl (by assumption) ?_
        refine pw_c rfl ?_
        refine pw_c rfl ?_
        refine ps_iast (0) rfl (by first | exact hS0 _ _ | exact hS1 _ _ | exact hS2 _ _ | exact hS3 _ _ | exact hS4 _ _ | exact hS5 _ _ | exact hS6 _ _ | exact hS7 _ _ | exact hS8 _ _ | exact hS9 _ _ | exact hS10 _ _ | exact hS11 _ _ | exact hS12 _ _ | exact hS13 _ _ | assumption | rfl) rfl (rfl) (by omega) ?_
        refine ps_vret rfl rfl ?_
        refine kk _ (fr _ (fun a j n => pu_o n)) ⟨cP_o c' (fun j => (pu_o (by omega)).trans (f2 _ _ (by omega))), (pu_o (by omega)).trans k2, fun i hi => ⟨?_, ?_⟩⟩
        · have hi : i < q * 1 := hi
          exact (pu_o (by omega)).trans (ho i (by omega))
        · have hi : i < q * 1 := hi
          by_cases i0 : i = 0
          · subst i0
            refine pu_s.trans ?_
            exact (if_pos (Or.inr ⟨rfl, q4⟩)).symm
          · exact (pu_n i0).trans (we i (by omega) (by omega))
      · refine pw_c rfl ?_
        refine ps_icmpt rfl (decide_eq_true (fun z => q4 (nI_inj (b := 1) (by omega) (by omega) z))) ?_
        refine ps_vret rfl rfl ?_
        refine kk _ (fr _ (fun a j n => rfl)) ⟨cP_o c' (fun j => f2 _ _ (by omega)), k2, fun i hi => ⟨?_, ?_⟩⟩
        · have hi : i < q * 1 := hi
          exact ho i (by omega)
        · have hi : i < q * 1 := hi
          by_cases i0 : i = 0
          · subst i0
            rw [w0]
            exact (if_neg (fun z => Or.elim z (fun z => absurd z.1 (by omega)) (fun z => q4 z.2))).symm
          · exact we i (by omega) (by omega)
    | succ d ih =>
      intro x I' hx x1 g1 g2
      have c' := cP_o c1 (fun j => g1 p j (by omega))
      refine ps_iload rfl rfl ?_
      refine ps_aload rfl rfl ?_
      refine ps_gfi 9 6 rfl rfl rfl (by first | exact hS0 _ _ | exact hS1 _ _ | exact hS2 _ _ | exact hS3 _ _ | exact hS4 _ _ | exact hS5 _ _ | exact hS6 _ _ | exact hS7 _ _ | exact hS8 _ _ | exact hS9 _ _ | exact hS10 _ _ | exact hS11 _ _ | exact hS12 _ _ | exact hS13 _ _ | assumption | rfl) rfl ?_
      rw [show ((I', L, g_R s, 306) : pm_H).1 p 6 = nI (q * 1) from c'.2.2.1]
      have next : ∀ b : Int32, b = (if reB q x = true then 1 else 0) → pm_W (g_P ys) 60 34 [.ref p, .int (nI q), .int (nI x)] [.int b, .int (nI x), .ref (p + 1)] (I', L, g_R s, 306) (0, 0) Q := by
        intro b hb
        refine ps_iast (x) rfl (by first | exact hS0 _ _ | exact hS1 _ _ | exact hS2 _ _ | exact hS3 _ _ | exact hS4 _ _ | exact hS5 _ _ | exact hS6 _ _ | exact hS7 _ _ | exact hS8 _ _ | exact hS9 _ _ | exact hS10 _ _ | exact hS11 _ _ | exact hS12 _ _ | exact hS13 _ _ | assumption | rfl) rfl (rfl) (by omega) ?_
        refine ps_iinc rfl rfl ?_
        refine ps_goto rfl ?_
        rw [show nI x + Int32.ofInt 1 = nI (x + 1) from nI_1 x]
        refine ih (x + 1) _ (by omega) (by omega) (fun a j q => (pu_x (fun z => q (by omega))).trans (g1 a j (fun z => q (by omega)))) (fun j j0 jx => ?_)
        by_cases e : j = x
        · subst e
          exact pu_s.trans hb
        · exact (pu_n e).trans (g2 j j0 (by omega))
      refine ps_icmpf rfl (decide_eq_false (nI_ge (by omega) (by omega))) ?_
      refine ps_aload rfl rfl ?_
      refine ps_gfr 9 0 rfl rfl rfl (by first | exact hS0 _ _ | exact hS1 _ _ | exact hS2 _ _ | exact hS3 _ _ | exact hS4 _ _ | exact hS5 _ _ | exact hS6 _ _ | exact hS7 _ _ | exact hS8 _ _ | exact hS9 _ _ | exact hS10 _ _ | exact hS11 _ _ | exact hS12 _ _ | exact hS13 _ _ | assumption | rfl) rfl (by assumption) ?_
      refine ps_iload rfl rfl ?_
      refine ps_iload rfl rfl ?_
      refine ps_iload rfl rfl ?_
      refine pw_k rfl rfl rfl rfl ⟨Nat.zero_le _, Nat.zero_le _⟩ ?_
      refine B_leastRoot h1 h2 (by omega) ?_
      by_cases e : roI q x (q - 1) 1 = -1
      · rw [e]
        refine pw_c rfl ?_
        refine ps_icmpf rfl (rfl) ?_
        refine pw_c rfl ?_
        refine ps_goto rfl ?_
        refine next 0 (if_neg ?_).symm
        unfold reB
        rw [decide_eq_true_iff]
        exact fun z => z e
      · refine pw_c rfl ?_
        refine ps_icmpt rfl (decide_eq_true e) ?_
        refine pw_c rfl ?_
        refine next 1 (if_pos ?_).symm
        unfold reB
        exact decide_eq_true e
  refine pw_c rfl ?_
  refine ps_istore rfl rfl ?_
  exact loop (q - 1) 1 I1 (by omega) (by omega) (fun _ _ _ => rfl) (fun j j0 jx => absurd jx (by omega))
end KS
