/-! BY HAND: the model's steps through a text, sixth: readsThing -/
section KI
variable {f T : Nat → Int32} {J I I' I'' : Nat → Nat → Int32} {L L' L'' : Nat → Nat → Int64} {n c t : Nat} {s : Nat → Option Nat} {Q : List Value → pm_H → Prop} {ys : List Int32} {B : sB}
/-- readsThing, wrong already -/
theorem rt_60 {q a0 : Nat} {w cnt : Int32} (hq : q < 3) (ha : a0 + 2 < 89) (hw : 0 < (I 275 46).toInt) (kk : ∀ I', (∀ a j, ¬ a = 289 → I' a j = I a j) → Q [] (I', L, g_R s, 306)) : pm_W (g_P ys) 305 60 [.ref 275, .int (nI q), .int w, .int cnt, .int (nI a0)] [] (I, L, g_R s, 306) (0, 0) Q := by
  have t85 : ∀ v : Int32, pm_W (g_P ys) 305 85 [.ref 275, .int (nI q), .int w, .int cnt, .int (nI a0)] [.int v, .int (nI (a0 + 2)), .ref 289] (I, L, g_R s, 306) (0, 0) Q := by
    intro v
    refine ps_iast (a0 + 2) rfl rfl rfl (rfl) (by omega) ?_
    refine ps_aload rfl rfl ?_
    refine ps_gfr 11 17 rfl rfl rfl rfl rfl (rfl) ?_
    refine ps_iload rfl rfl ?_
    refine pw_k rfl rfl rfl rfl ⟨Nat.zero_le _, Nat.zero_le _⟩ ?_
    refine M_manyOf hq ?_
    refine ps_ar rfl rfl rfl rfl rfl ?_
    refine ps_iald (q) rfl rfl rfl (rfl) (by omega) ?_
    refine pw_c rfl ?_
    refine ps_ar rfl rfl rfl rfl rfl ?_
    refine ps_iast (q) rfl rfl rfl (rfl) (by omega) ?_
    refine ps_vret rfl rfl ?_
    exact kk _ (fun a j h => (pu_o h).trans (pu_o h))
  refine ps_aload rfl rfl ?_
  refine ps_gfr 11 17 rfl rfl rfl rfl rfl (rfl) ?_
  refine ps_iload rfl rfl ?_
  refine pw_c rfl ?_
  refine ps_ar rfl rfl rfl rfl rfl ?_
  rw [show nI a0 + (2 : Int32) = nI (a0 + 2) by simp only [ni_lit, nI_add]]
  refine ps_iload rfl rfl ?_
  refine pw_c rfl ?_
  refine ps_icmp rfl (fun h1 => ?_) (fun h1 => ?_)
  · refine ps_aload rfl rfl ?_
    refine pw_c rfl ?_
    refine pw_c rfl ?_
    refine pw_k rfl rfl rfl rfl ⟨Nat.zero_le _, Nat.zero_le _⟩ ?_
    refine M_takesNumberB hw ?_
    exact t85 1
  · refine pw_c rfl ?_
    refine ps_goto rfl ?_
    exact t85 0
theorem rt_44 {q a0 : Nat} {w cnt : Int32} (hq : q < 3) (ha : a0 + 2 < 89) (hw : 0 < (I 275 46).toInt) (kk : ∀ I', (∀ a j, ¬ a = 289 → I' a j = I a j) → Q [] (I', L, g_R s, 306)) : pm_W (g_P ys) 305 44 [.ref 275, .int (nI q), .int w, .int cnt, .int (nI a0)] [] (I, L, g_R s, 306) (0, 0) Q := by
  refine ps_aload rfl rfl ?_
  refine ps_gfr 11 17 rfl rfl rfl rfl rfl (rfl) ?_
  refine ps_iload rfl rfl ?_
  refine pw_c rfl ?_
  refine ps_ar rfl rfl rfl rfl rfl ?_
  rw [show nI a0 + (1 : Int32) = nI (a0 + 1) by simp only [ni_lit, nI_add]]
  refine ps_aload rfl rfl ?_
  refine pw_c rfl ?_
  refine pw_c rfl ?_
  refine pw_k rfl rfl rfl rfl ⟨Nat.zero_le _, Nat.zero_le _⟩ ?_
  refine M_takesNumberB hw ?_
  refine ps_iast (a0 + 1) rfl rfl rfl (rfl) (by omega) ?_
  refine rt_60 (I := pm_u I 289 (a0 + 1) 0) hq ha (by rw [pu_o (by decide)]; exact hw) (fun I' h => kk I' (fun a j z => (h a j z).trans (pu_o z)))
theorem mX_o {k p : Int32} (h : mX I k p) (e : ∀ a j, ¬ a = 289 → I' a j = I a j) : mX I' k p := ⟨by rw [e _ _ (by decide)]; exact h.1, by rw [e _ _ (by decide)]; exact h.2.1, h.2.2⟩
theorem mF_o (h : mF I I') (e : ∀ a j, ¬ a = 289 → I'' a j = I' a j) : mF I I'' := fun a j q => by
  rw [e a j (fun z => q (by omega))]
  exact h a j q
theorem M_readsThing {q : Nat} (hq : q < 3) (S : stX f T J n c) (m : mC J T c n t I L) (ht : t < c) (hB : mBn B I L) (ok : B.ok) (kB : ∀ k u, xThr J B q t = .error (k, u) → ∀ I' L', mF I I' → lF L L' → mX I' k (J 8 u) → Q [] (I', L', g_R s, 306)) (kO : ∀ t' B', xThr J B q t = .ok (t', B') → ∀ I' L', mF I I' → lF L L' → mC J T c n t' I' L' → mBn B' I' L' → Q [] (I', L', g_R s, 306)) : pm_W (g_P ys) 305 0 [.ref 275, .int (nI q), .int (nI (mst q)), .retAddr 0, .retAddr 0] [] (I, L, g_R s, 306) (0, 0) Q := by
  have nq := B.ok_n ok hq
  have m12 : mst q ≤ 12 := by rcases q3 hq with rfl | rfl | rfl <;> decide
  refine ps_aload rfl rfl ?_
  refine ps_gfr 11 17 rfl rfl rfl rfl rfl (rfl) ?_
  refine ps_iload rfl rfl ?_
  refine pw_k rfl rfl rfl rfl ⟨Nat.zero_le _, Nat.zero_le _⟩ ?_
  refine M_manyOf hq ?_
  refine ps_iald (q) rfl rfl rfl (rfl) (by omega) ?_
  rw [show ((I, L, g_R s, 306) : pm_H).1 289 q = nI (B.n q) from hB.2.2.1 q hq]
  refine ps_istore rfl rfl ?_
  refine ps_aload rfl rfl ?_
  refine ps_iload rfl rfl ?_
  refine ps_iload rfl rfl ?_
  refine pw_k rfl rfl rfl rfl ⟨Nat.zero_le _, Nat.zero_le _⟩ ?_
  refine M_begins S m ht (by omega) (by omega) (fun nb => ?_) (fun lt I1 L1 d1 l1 m1 => ?_)
  · refine ps_iff rfl (rfl) ?_
    refine ps_vret rfl rfl ?_
    exact kB _ _ (by unfold xThr; rw [if_neg nb]) _ _ (mF_b mF_r) lF_r (mX_b (by decide))
  · have er : ∀ e, xThg J B q (t + 1) = .error e → xThr J B q t = .error e := fun e h => by
      unfold xThr
      rw [if_pos lt]
      exact h
    have eo : ∀ e, xThg J B q (t + 1) = .ok e → xThr J B q t = .ok e := fun e h => by
      unfold xThr
      rw [if_pos lt]
      exact h
    have ra := (rw_b hq lt).1
    refine ps_ift rfl (rfl) ?_
    refine ps_iload rfl rfl ?_
    refine pw_k rfl rfl rfl rfl ⟨Nat.zero_le _, Nat.zero_le _⟩ ?_
    refine M_rowOf hq ?_
    refine pw_c rfl ?_
    refine ps_iload rfl rfl ?_
    refine ps_ar rfl rfl rfl rfl rfl ?_
    refine ps_ar rfl rfl rfl rfl rfl ?_
    rw [show nI (rwK q) + (3 : Int32) * nI (B.n q) = nI (rwK q + 3 * B.n q) by simp only [ni_lit, pk_mul, nI_add]]
    have a0e : ∃ a0, a0 = rwK q + 3 * B.n q := ⟨_, rfl⟩
    obtain ⟨a0, ha0⟩ := a0e
    rw [← ha0] at ra ⊢
    refine ps_istore rfl rfl ?_
    refine ps_aload rfl rfl ?_
    refine ps_gfr 11 17 rfl rfl rfl rfl rfl (rfl) ?_
    refine ps_iload rfl rfl ?_
    refine ps_aload rfl rfl ?_
    refine pw_c rfl ?_
    refine pw_c rfl ?_
    refine pw_k rfl rfl rfl rfl ⟨Nat.zero_le _, Nat.zero_le _⟩ ?_
    refine M_takesNumber (lo := 0) (hi := 99) S m1 (fun k u ex kp => ?_) (fun x ex I2 L2 d2 l2 m2 => ?_)
    · refine ps_iast (a0) rfl rfl rfl (rfl) (by omega) ?_
      refine rt_44 (I := pm_u (bdI I1 k (J 8 u)) 289 a0 0) hq ra (by rw [pu_o (by decide)]; exact bd_wb kp) (fun I' h => ?_)
      refine kB k u (er _ ?_) _ _ (mF_o (mF_u (mF_b (mF_d d1)) (by omega)) h) (lF_l l1) (mX_o (mX_u (mX_b kp) (by omega)) h)
      unfold xThg
      rw [show xNum J 0 99 (t + 1) = _ from ex]
    · refine ps_iast (a0) rfl rfl rfl (rfl) (by omega) ?_
      refine ps_aload rfl rfl ?_
      refine ps_gfr 11 17 rfl rfl rfl rfl rfl (rfl) ?_
      refine ps_iload rfl rfl ?_
      refine pw_c rfl ?_
      refine ps_ar rfl rfl rfl rfl rfl ?_
      rw [show nI a0 + (1 : Int32) = nI (a0 + 1) by simp only [ni_lit, nI_add]]
      have m2' : mC J T c n (t + 1 + 1) (pm_u I2 289 a0 x) L2 := mC_u m2 (by decide) (by decide)
      refine ps_aload rfl rfl ?_
      refine pw_c rfl ?_
      refine pw_c rfl ?_
      refine pw_k rfl rfl rfl rfl ⟨Nat.zero_le _, Nat.zero_le _⟩ ?_
      refine M_takesNumber (lo := 0) (hi := 99) S m2' (fun k u ey kp => ?_) (fun y ey I3 L3 d3 l3 m3 => ?_)
      · refine ps_iast (a0 + 1) rfl rfl rfl (rfl) (by omega) ?_
        refine rt_60 (I := pm_u (bdI (pm_u I2 289 a0 x) k (J 8 u)) 289 (a0 + 1) 0) hq ra (by rw [pu_o (by decide)]; exact bd_wb kp) (fun I' h => ?_)
        refine kB k u (er _ ?_) _ _ (mF_o (mF_u (mF_b (mF_t (mF_u (mF_t (mF_d d1) (mF_d d2)) (by omega)) mF_r)) (by omega)) h) (lF_t (lF_l l1) (lF_l l2)) (mX_o (mX_u (mX_b kp) (by omega)) h)
        unfold xThg
        rw [show xNum J 0 99 (t + 1) = _ from ex]
        show (match xNum J 0 99 (t + 1 + 1) with | .error e => _ | .ok y => _) = _
        rw [show xNum J 0 99 (t + 1 + 1) = _ from ey]
      · have d3 : dAg (pm_u I2 289 a0 x) I3 := d3
        have m3' : mC J T c n (t + 1 + 2) (pm_u I3 289 (a0 + 1) y) L3 := mC_u m3 (by decide) (by decide)
        have f3 : mF I (pm_u I3 289 (a0 + 1) y) := mF_u (mF_t (mF_u (mF_t (mF_d d1) (mF_d d2)) (by omega)) (mF_d d3)) (by omega)
        have g3 : lF L L3 := lF_t (lF_t (lF_l l1) (lF_l l2)) (lF_l l3)
        -- the end, with a third one
        have fin : ∀ (z : Int32) t4 I4 L4, xThg J B q (t + 1) = .ok (t4, B.adT q x y z) → dAg (pm_u I3 289 (a0 + 1) y) I4 → lA L3 L4 → mC J T c n t4 I4 L4 → pm_W (g_P ys) 305 85 [.ref 275, .int (nI q), .int (nI (mst q)), .int (nI (B.n q)), .int (nI a0)] [.int z, .int (nI (a0 + 2)), .ref 289] (I4, L4, g_R s, 306) (0, 0) Q := by
          intro z t4 I4 L4 ez d4 l4 m4
          have row : ∀ j, I4 289 j = if j = a0 then x else if j = a0 + 1 then y else I 289 j := by
            intro j
            rw [dAg_n d4 (by decide)]
            by_cases e1 : j = a0 + 1
            · subst e1
              rw [pu_s, if_neg (by omega), if_pos rfl]
            · rw [pu_n e1, dAg_n d3 (by decide)]
              by_cases e0 : j = a0
              · subst e0
                rw [pu_s, if_pos rfl]
              · rw [pu_n e0, dAg_n d2 (by decide), dAg_n d1 (by decide), if_neg e0, if_neg e1]
          have rb := rw_b hq lt
          have qv : pm_u I4 289 (a0 + 2) z 289 q = nI (B.n q) := by
            rw [pu_n (by omega), row, if_neg (by omega), if_neg (by omega)]
            exact hB.2.2.1 q hq
          refine ps_iast (a0 + 2) rfl rfl rfl (rfl) (by omega) ?_
          refine ps_aload rfl rfl ?_
          refine ps_gfr 11 17 rfl rfl rfl rfl rfl (rfl) ?_
          refine ps_iload rfl rfl ?_
          refine pw_k rfl rfl rfl rfl ⟨Nat.zero_le _, Nat.zero_le _⟩ ?_
          refine M_manyOf hq ?_
          refine ps_ar rfl rfl rfl rfl rfl ?_
          refine ps_iald (q) rfl rfl rfl (rfl) (by omega) ?_
          rw [show ((pm_sI (I4, L4, g_R s, 306) 289 (a0 + 2) z) : pm_H).1 289 q = nI (B.n q) from qv]
          refine pw_c rfl ?_
          refine ps_ar rfl rfl rfl rfl rfl ?_
          rw [show nI (B.n q) + (1 : Int32) = nI (B.n q + 1) by simp only [ni_lit, nI_add]]
          refine ps_iast (q) rfl rfl rfl (rfl) (by omega) ?_
          refine ps_vret rfl rfl ?_
          refine kO _ _ (eo _ ez) _ _ (mF_u (mF_u (mF_t f3 (mF_d d4)) (by omega)) (by omega)) (lF_t g3 (lF_l l4)) (mC_u (mC_u m4 (by decide) (by decide)) (by decide) (by decide)) ?_
          refine mBn_T hq ok hB lt (fun j => ?_) (fun a j ha => ?_) ?_ (fun j => ?_)
          · rw [← ha0]
            show pm_u (pm_u I4 289 (a0 + 2) z) 289 q (nI (B.n q + 1)) 289 j = _
            by_cases e0 : j = q
            · subst e0
              rw [pu_s, if_pos rfl]
            · rw [pu_n e0, if_neg e0]
              by_cases e2 : j = a0 + 2
              · subst e2
                rw [pu_s, if_neg (by omega), if_neg (by omega), if_pos rfl]
              · rw [pu_n e2, row]
                by_cases e3 : j = a0
                · rw [if_pos e3, if_pos e3]
                · rw [if_neg e3, if_neg e3]
                  by_cases e4 : j = a0 + 1
                  · rw [if_pos e4, if_pos e4]
                  · rw [if_neg e4, if_neg e4, if_neg e2]
          · have n1 : ¬ a = 289 := by omega
            have n2 : ¬ a = 275 := by omega
            show pm_u (pm_u I4 289 (a0 + 2) z) 289 q (nI (B.n q + 1)) a j = _
            rw [pu_o n1, pu_o n1, dAg_n d4 n2, pu_o n1, dAg_n d3 n2, pu_o n1, dAg_n d2 n2, dAg_n d1 n2]
          · show pm_u (pm_u I4 289 (a0 + 2) z) 289 q (nI (B.n q + 1)) 275 15 = _
            rw [pu_o (by decide), pu_o (by decide), d4 _ _ (by decide), pu_o (by decide), d3 _ _ (by decide), pu_o (by decide), d2 _ _ (by decide), d1 _ _ (by decide)]
          · rw [lA_n l4 (by decide), lA_n l3 (by decide), lA_n l2 (by decide), lA_n l1 (by decide)]
        refine ps_iast (a0 + 1) rfl rfl rfl (rfl) (by omega) ?_
        refine ps_aload rfl rfl ?_
        refine ps_gfr 11 17 rfl rfl rfl rfl rfl (rfl) ?_
        refine ps_iload rfl rfl ?_
        refine pw_c rfl ?_
        refine ps_ar rfl rfl rfl rfl rfl ?_
        rw [show nI a0 + (2 : Int32) = nI (a0 + 2) by simp only [ni_lit, nI_add]]
        by_cases q1 : q = 1
        · refine ps_iload rfl rfl ?_
          refine pw_c rfl ?_
          refine ps_icmpf rfl (by rw [q1]; rfl) ?_
          refine pw_c rfl ?_
          refine ps_goto rfl ?_
          refine fin 0 (t + 1 + 2) (pm_u I3 289 (a0 + 1) y) L3 ?_ (fun _ _ _ => rfl) (fun _ _ _ => rfl) m3'
          unfold xThg
          rw [show xNum J 0 99 (t + 1) = _ from ex]
          show (match xNum J 0 99 (t + 1 + 1) with | .error e => _ | .ok y => _) = _
          rw [show xNum J 0 99 (t + 1 + 1) = _ from ey]
          exact if_pos q1
        · refine ps_iload rfl rfl ?_
          refine pw_c rfl ?_
          refine ps_icmpt rfl (decide_eq_true (fun z => q1 (nI_inj (b := 1) (by omega) (by omega) z))) ?_
          have xz : xThg J B q (t + 1) = match xNum J 1 999 (t + 1 + 2) with | .error e => .error e | .ok z => .ok (t + 1 + 3, B.adT q x y z) := by
            unfold xThg
            rw [show xNum J 0 99 (t + 1) = _ from ex]
            show (match xNum J 0 99 (t + 1 + 1) with | .error e => _ | .ok y => _) = _
            rw [show xNum J 0 99 (t + 1 + 1) = _ from ey]
            exact if_neg q1
          refine ps_aload rfl rfl ?_
          refine pw_c rfl ?_
          refine pw_c rfl ?_
          refine pw_k rfl rfl rfl rfl ⟨Nat.zero_le _, Nat.zero_le _⟩ ?_
          refine M_takesNumber (lo := 1) (hi := 999) S m3' (fun k u ez kp => ?_) (fun z ez I4 L4 d4 l4 m4 => ?_)
          · refine ps_iast (a0 + 2) rfl rfl rfl (rfl) (by omega) ?_
            refine ps_aload rfl rfl ?_
            refine ps_gfr 11 17 rfl rfl rfl rfl rfl (rfl) ?_
            refine ps_iload rfl rfl ?_
            refine pw_k rfl rfl rfl rfl ⟨Nat.zero_le _, Nat.zero_le _⟩ ?_
            refine M_manyOf hq ?_
            refine ps_ar rfl rfl rfl rfl rfl ?_
            refine ps_iald (q) rfl rfl rfl (rfl) (by omega) ?_
            refine pw_c rfl ?_
            refine ps_ar rfl rfl rfl rfl rfl ?_
            refine ps_iast (q) rfl rfl rfl (rfl) (by omega) ?_
            refine ps_vret rfl rfl ?_
            refine kB k u (er _ ?_) _ _ (mF_u (mF_u (mF_b f3) (by omega)) (by omega)) g3 (mX_u (mX_u (mX_b kp) (by omega)) (by omega))
            rw [xz, show xNum J 1 999 (t + 1 + 2) = _ from ez]
          · refine fin z _ _ _ ?_ d4 l4 m4
            rw [xz, show xNum J 1 999 (t + 1 + 2) = _ from ez]
end KI
