/-! BY HAND: the model's scene: what was, things; how they come and go -/
section SG
variable {I I' I1 I2 J : Nat → Nat → Int32} {L : Nat → Nat → Int64} {s : Nat → Option Nat} {Q : List Value → pm_H → Prop} {ys : List Int32} {ps m n q : Nat} {S S' : sS} {H H' : Nat → sS}
/-- what was, of the model -/
def mHs (H : Nat → sS) (m : Nat) (I : Nat → Nat → Int32) : Prop := m ≤ 12 ∧ I 275 19 = nI m ∧ ∀ i, i < m → mSc 290 (89 * i) (H i) I
/-- where the model's ACTS write -/
def naM (I I' : Nat → Nat → Int32) : Prop := ∀ a j : Nat, ¬ a = 290 → ¬ a = 288 → ¬ (a = 275 ∧ (j = 1 ∨ j = 0 ∨ j = 19)) → I' a j = I a j
def stI (I : Nat → Nat → Int32) (e : Int32) : Nat → Nat → Int32 := pm_u (pm_u I 275 1 0) 275 0 e
def aftM (S' : sS) (H' : Nat → sS) (m' : Nat) (I I' : Nat → Nat → Int32) : Prop := naM I I' ∧ mSc 288 0 S' I' ∧ mHs H' m' I'
theorem stI_o {e : Int32} {a j : Nat} (h : ¬ (a = 275 ∧ (j = 1 ∨ j = 0))) : stI I e a j = I a j := (pu_x (by omega)).trans (pu_x (by omega))
theorem rwS (hq : q < 3) : q < rwK q := by
  rcases q3 hq with rfl | rfl | rfl <;> decide
theorem mSc_f {a o : Nat} (h : mSc a o S I) (ok : S.ok) (k : ∀ j, I' a j = I a j) : mSc a o S I' := mSc_t h ok (fun j _ => k _)
theorem mHs_f (h : mHs H m I) (hok : ∀ i, i < m → (H i).ok) (k : ∀ j, I' 290 j = I 290 j) (k2 : I' 275 19 = I 275 19) : mHs H m I' := ⟨h.1, k2.trans h.2.1, fun i hi => mSc_f (h.2.2 i hi) (hok i hi) k⟩
theorem rem6 (hS : mSc 288 0 S I) (ok : S.ok) (hH : mHs H m I) (hok : ∀ i, i < m → (H i).ok) (hr : ∀ j, I' 290 j = rmR I m j) (hm : I' 275 19 = nI (rmM m)) : mHs (psh H m S) (rmM m) I' := by
  obtain ⟨m12, _, hs⟩ := hH
  refine ⟨by unfold rmM; split <;> omega, hm, fun i hi => ?_⟩
  unfold psh
  unfold rmM at hi
  by_cases h : m < 12
  · rw [if_pos h] at hi ⊢
    by_cases e : i = m
    · rw [if_pos e]
      refine mSc_t hS ok (fun j hj => ?_)
      rw [hr]
      unfold rmR
      rw [if_pos h, if_pos (by omega), show 89 * i + j - 89 * m = 0 + j by omega]
    · rw [if_neg e]
      refine mSc_t (hs i (by omega)) (hok i (by omega)) (fun j hj => ?_)
      rw [hr]
      unfold rmR
      rw [if_pos h, if_neg (by omega)]
  · rw [if_neg h] at hi ⊢
    have e12 : m = 12 := by omega
    by_cases e : i = 11
    · rw [if_pos e]
      refine mSc_t hS ok (fun j hj => ?_)
      rw [hr]
      unfold rmR
      rw [if_neg h, if_pos (by omega), show 89 * i + j - 979 = 0 + j by omega]
    · rw [if_neg e]
      refine mSc_t (hs (i + 1) (by omega)) (hok (i + 1) (by omega)) (fun j hj => ?_)
      rw [hr]
      unfold rmR
      rw [if_neg h, if_neg (by omega), if_pos (by omega), show 89 * i + j + 89 = 89 * (i + 1) + j by omega]
theorem M_rem6 (hS : mSc 288 0 S I) (ok : S.ok) (hH : mHs H m I) (hok : ∀ i, i < m → (H i).ok) (kk : ∀ I', naM I I' → mSc 288 0 S I' → mHs (psh H m S) (rmM m) I' → (∀ j, I' 275 0 = I 275 0 ∧ I' 288 j = I 288 j) → Q [] (I', L, g_R s, 306)) : pm_W (g_P ys) 223 0 [.ref 275, .retAddr 0] [] (I, L, g_R s, 306) (0, 0) Q := by
  refine M_remembers hH.2.1 hH.1 (fun I' ag hr hm => kk I' (fun a j h1 h2 h3 => ag a j h1 (by omega)) (mSc_f hS ok (fun j => ag _ _ (by decide) (fun z => absurd z.1 (by decide)))) (rem6 hS ok hH hok hr hm) (fun j => ⟨ag _ _ (by decide) (by decide), ag _ _ (by decide) (fun z => absurd z.1 (by decide))⟩))
theorem M_manyX (hq : q < 3) {h : pm_H} (kk : Q [.int (nI q)] h) : pm_W (g_P ys) 219 0 [.int (nI q)] [] h (0, 0) Q := by
  rcases q3 hq with rfl | rfl | rfl
  · exact M_manyOf0 kk
  · exact M_manyOf1 kk
  · exact M_manyOf2 kk
theorem M_rowX (hq : q < 3) {h : pm_H} (kk : Q [.int (nI (rwK q))] h) : pm_W (g_P ys) 220 0 [.int (nI q)] [] h (0, 0) Q := by
  rcases q3 hq with rfl | rfl | rfl
  · exact M_rowOf0 kk
  · exact M_rowOf1 kk
  · exact M_rowOf2 kk
theorem isIn_k (x : Int32) (a b : Int64) (la lb : Int) (ha : a.toInt = la) (hb : b.toInt = lb) : (decide (a ≤ x.toInt64) && decide (x.toInt64 ≤ b)) = decide (la ≤ x.toInt ∧ x.toInt ≤ lb) := by
  rw [Bool.eq_iff_iff, Bool.and_eq_true, decide_eq_true_iff, decide_eq_true_iff, decide_eq_true_iff, Int64.le_iff_toInt_le, Int64.le_iff_toInt_le, Int32.toInt_toInt64, ha, hb]
theorem nI_pd (h : n ≤ 1000) : (nI n - 1).toInt64.toInt = (n : Int) - 1 := by
  rw [Int32.toInt_toInt64]
  cases n with
  | zero => rfl
  | succ k =>
    rw [nI_p, nI_toInt (by omega)]
    omega
theorem M_isThing6 (hS : mSc 288 0 S I) (ok : S.ok) (hq : q < 3) (k : Int32) (kk : Q [.int (bI (decide (0 ≤ k.toInt ∧ k.toInt < S.n q)))] (I, L, g_R s, 306)) : pm_W (g_P ys) 218 0 [.ref 275, .int (nI q), .int k] [] (I, L, g_R s, 306) (0, 0) Q := by
  have z := hS.1 q hq
  rw [Nat.zero_add] at z
  have n12 := ok q hq
  have m12 := mst12 hq
  refine ps_iload rfl rfl ?_
  refine ps_ar rfl rfl rfl rfl rfl ?_
  refine pw_c rfl ?_
  refine ps_aload rfl rfl ?_
  refine ps_gfr 11 16 rfl rfl rfl rfl rfl (rfl) ?_
  refine ps_iload rfl rfl ?_
  refine pw_k rfl rfl rfl rfl ⟨Nat.zero_le _, Nat.zero_le _⟩ ?_
  refine M_manyX hq ?_
  refine ps_iald (q) rfl rfl rfl (rfl) (by omega) ?_
  rw [show ((I, L, g_R s, 306) : pm_H).1 288 q = nI (S.n q) from z]
  refine pw_c rfl ?_
  refine ps_ar rfl rfl rfl rfl rfl ?_
  refine ps_ar rfl rfl rfl rfl rfl ?_
  refine pw_k rfl rfl rfl rfl ⟨Nat.zero_le _, Nat.zero_le _⟩ ?_
  refine M_isIn ?_
  rw [isIn_k k 0 (nI (S.n q) - 1).toInt64 0 ((S.n q : Int) - 1) rfl (nI_pd (by omega)), show decide (0 ≤ k.toInt ∧ k.toInt ≤ (S.n q : Int) - 1) = decide (0 ≤ k.toInt ∧ k.toInt < S.n q) from by rw [Bool.eq_iff_iff, decide_eq_true_iff, decide_eq_true_iff]; omega]
  refine ps_zret rfl rfl (bI_01 _) ?_
  exact kk
/-- one comes -/
def comI (I : Nat → Nat → Int32) (q n : Nat) (x y z : Int32) : Nat → Nat → Int32 := pm_u (pm_u (pm_u (pm_u I 288 (rwK q + 3 * n) x) 288 (rwK q + 3 * n + 1) y) 288 (rwK q + 3 * n + 2) z) 288 q (nI (n + 1))
theorem com_S (hS : mSc 288 0 S I) (ok : S.ok) (hq : q < 3) (lt : S.n q < mst q) {x y z : Int32} : mSc 288 0 (S.add q x y z) (comI I q (S.n q) x y z) := by
  obtain ⟨h1, h2, h3, h4⟩ := hS
  have rq := rwS hq
  have rb := rw_b hq lt
  have e : ∀ j, comI I q (S.n q) x y z 288 j = if j = q then nI (S.n q + 1) else if j = rwK q + 3 * S.n q then x else if j = rwK q + 3 * S.n q + 1 then y else if j = rwK q + 3 * S.n q + 2 then z else I 288 j := by
    intro j
    unfold comI
    by_cases e1 : j = q
    · rw [if_pos e1, e1, pu_s]
    · rw [if_neg e1, pu_n e1]
      by_cases e2 : j = rwK q + 3 * S.n q + 2
      · rw [if_neg (by omega), if_neg (by omega), if_pos e2, e2, pu_s]
      · rw [pu_n e2]
        by_cases e3 : j = rwK q + 3 * S.n q + 1
        · rw [if_neg (by omega), if_pos e3, e3, pu_s]
        · rw [pu_n e3]
          by_cases e4 : j = rwK q + 3 * S.n q
          · rw [if_pos e4, e4, pu_s]
          · rw [if_neg e4, if_neg e3, if_neg e2, pu_n e4]
  refine ⟨fun r hr => ?_, ?_, ?_, fun r hr k hk j hj => ?_⟩
  · rw [e, Nat.zero_add]
    show _ = nI (if r = q then S.n r + 1 else S.n r)
    have z := h1 r hr
    rw [Nat.zero_add] at z
    by_cases e1 : r = q
    · rw [if_pos e1, if_pos e1, e1]
    · rw [if_neg e1, if_neg e1, if_neg (by omega), if_neg (by omega), if_neg (by omega)]
      exact z
  · rw [e, if_neg (by omega), if_neg (by omega), if_neg (by omega), if_neg (by omega)]
    exact h2
  · rw [e, if_neg (by omega), if_neg (by omega), if_neg (by omega), if_neg (by omega)]
    exact h3
  · have hk : k < (if r = q then S.n r + 1 else S.n r) := hk
    have nr := ok r hr
    show _ = if r = q ∧ k = S.n r then (if j = 0 then x else if j = 1 then y else z) else S.sc r k j
    have km : k < mst r := by
      by_cases e1 : r = q
      · rw [if_pos e1] at hk
        subst e1
        omega
      · rw [if_neg e1] at hk
        omega
    have r5 := (rw_b hr km).2
    rw [e, Nat.zero_add, if_neg (by omega)]
    by_cases e1 : r = q ∧ k = S.n r
    · rw [if_pos e1]
      obtain ⟨e1, e2⟩ := e1
      subst e1 e2
      rcases q3 hj with rfl | rfl | rfl
      · rw [if_pos (by omega), if_pos rfl]
      · rw [if_neg (by omega), if_pos (by omega), if_neg (by omega), if_pos rfl]
      · rw [if_neg (by omega), if_neg (by omega), if_pos (by omega), if_neg (by omega), if_neg (by omega)]
    · rw [if_neg e1]
      have ne : ∀ i, i < 3 → ¬ rwK r + 3 * k + j = rwK q + 3 * S.n q + i := fun i hi z => by
        obtain ⟨z1, z2, _⟩ := rw_i hr hq km lt hj hi z
        exact e1 ⟨z1, by rw [z1, z2]⟩
      rw [if_neg (by have := ne 0 (by omega); omega), if_neg (ne 1 (by omega)), if_neg (ne 2 (by omega))]
      have kn : k < S.n r := by
        by_cases e2 : r = q
        · rw [if_pos e2] at hk
          have : ¬ k = S.n r := fun z => e1 ⟨e2, z⟩
          omega
        · rw [if_neg e2] at hk
          exact hk
      have z := h4 r hr k kn j hj
      rw [Nat.zero_add] at z
      exact z
theorem M_comes6 (hS : mSc 288 0 S I) (ok : S.ok) (hH : mHs H m I) (hok : ∀ i, i < m → (H i).ok) (hq : q < 3) (lt : S.n q < mst q) (x y z : Int32) (kk : ∀ I', aftM (S.add q x y z) (psh H m S) (rmM m) I I' → Q [.int (nI (S.n q))] (I', L, g_R s, 306)) : pm_W (g_P ys) 222 0 [.ref 275, .int (nI q), .int x, .int y, .int z, .retAddr 0, .retAddr 0] [] (I, L, g_R s, 306) (0, 0) Q := by
  have rb := rw_b hq lt
  have m12 := mst12 hq
  refine ps_aload rfl rfl ?_
  refine pw_k rfl rfl rfl rfl ⟨Nat.zero_le _, Nat.zero_le _⟩ ?_
  refine M_rem6 hS ok hH hok (fun I1 n1 s1 h1 _ => ?_)
  have c1 := s1.1 q hq
  rw [Nat.zero_add] at c1
  refine ps_aload rfl rfl ?_
  refine ps_gfr 11 16 rfl rfl rfl rfl rfl (rfl) ?_
  refine ps_iload rfl rfl ?_
  refine pw_k rfl rfl rfl rfl ⟨Nat.zero_le _, Nat.zero_le _⟩ ?_
  refine M_manyX hq ?_
  refine ps_iald (q) rfl rfl rfl (rfl) (by omega) ?_
  rw [show ((I1, L, g_R s, 306) : pm_H).1 288 q = nI (S.n q) from c1]
  refine ps_istore rfl rfl ?_
  refine ps_iload rfl rfl ?_
  refine pw_k rfl rfl rfl rfl ⟨Nat.zero_le _, Nat.zero_le _⟩ ?_
  refine M_rowX hq ?_
  refine pw_c rfl ?_
  refine ps_iload rfl rfl ?_
  refine ps_ar rfl rfl rfl rfl rfl ?_
  refine ps_ar rfl rfl rfl rfl rfl ?_
  rw [show (3 : Int32) * nI (S.n q) = nI (3 * S.n q) from pk_mul 3 _, nI_add]
  refine ps_istore rfl rfl ?_
  refine ps_aload rfl rfl ?_
  refine ps_gfr 11 16 rfl rfl rfl rfl rfl (rfl) ?_
  refine ps_iload rfl rfl ?_
  refine ps_iload rfl rfl ?_
  refine ps_iast (rwK q + 3 * S.n q) rfl rfl rfl (rfl) (by omega) ?_
  refine ps_aload rfl rfl ?_
  refine ps_gfr 11 16 rfl rfl rfl rfl rfl (rfl) ?_
  refine ps_iload rfl rfl ?_
  refine pw_c rfl ?_
  refine ps_ar rfl rfl rfl rfl rfl ?_
  rw [show nI (rwK q + 3 * S.n q) + (1 : Int32) = nI (rwK q + 3 * S.n q + 1) from nI_1 _]
  refine ps_iload rfl rfl ?_
  refine ps_iast (rwK q + 3 * S.n q + 1) rfl rfl rfl (rfl) (by omega) ?_
  refine ps_aload rfl rfl ?_
  refine ps_gfr 11 16 rfl rfl rfl rfl rfl (rfl) ?_
  refine ps_iload rfl rfl ?_
  refine pw_c rfl ?_
  refine ps_ar rfl rfl rfl rfl rfl ?_
  rw [show nI (rwK q + 3 * S.n q) + (2 : Int32) = nI (rwK q + 3 * S.n q + 2) from nI_add _ _]
  refine ps_iload rfl rfl ?_
  refine ps_iast (rwK q + 3 * S.n q + 2) rfl rfl rfl (rfl) (by omega) ?_
  refine ps_aload rfl rfl ?_
  refine ps_gfr 11 16 rfl rfl rfl rfl rfl (rfl) ?_
  refine ps_iload rfl rfl ?_
  refine pw_k rfl rfl rfl rfl ⟨Nat.zero_le _, Nat.zero_le _⟩ ?_
  refine M_manyX hq ?_
  refine ps_ar rfl rfl rfl rfl rfl ?_
  refine ps_iald (q) rfl rfl rfl (rfl) (by omega) ?_
  have rq := rwS hq
  rw [show ((pm_u (pm_u (pm_u I1 288 (rwK q + 3 * S.n q) x) 288 (rwK q + 3 * S.n q + 1) y) 288 (rwK q + 3 * S.n q + 2) z, L, g_R s, 306) : pm_H).1 288 q = nI (S.n q) from (pu_n (by omega)).trans ((pu_n (by omega)).trans ((pu_n (by omega)).trans c1))]
  refine pw_c rfl ?_
  refine ps_ar rfl rfl rfl rfl rfl ?_
  rw [show nI (S.n q) + (1 : Int32) = nI (S.n q + 1) from nI_1 _]
  refine ps_iast (q) rfl rfl rfl (rfl) (by omega) ?_
  refine ps_iload rfl rfl ?_
  refine ps_iret rfl rfl ?_
  have o : ∀ a j, ¬ a = 288 → comI I1 q (S.n q) x y z a j = I1 a j := fun a j h => (pu_o h).trans ((pu_o h).trans ((pu_o h).trans (pu_o h)))
  refine kk (comI I1 q (S.n q) x y z) ⟨fun a j z1 z2 z3 => (o a j z2).trans (n1 a j z1 z2 z3), com_S s1 ok hq lt, ?_⟩
  refine mHs_f h1 (fun i hi => ?_) (fun j => o _ _ (by decide)) (o _ _ (by decide))
  unfold psh
  unfold rmM at hi
  split
  · split
    · exact ok
    · rename_i e1 e2
      rw [if_pos e1] at hi
      exact hok i (by omega)
  · split
    · exact ok
    · rename_i e1 e2
      rw [if_neg e1] at hi
      exact hok (i + 1) (by have := hH.1; omega)
end SG
