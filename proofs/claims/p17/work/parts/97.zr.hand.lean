/-! BY HAND: the model's ACTS, exactly -/
section SH
variable {I I' I1 I2 J : Nat → Nat → Int32} {L : Nat → Nat → Int64} {s : Nat → Option Nat} {Q : List Value → pm_H → Prop} {ys : List Int32} {ps m n q : Nat} {S S' : sS} {H H' : Nat → sS}
theorem psh_ok (ok : S.ok) (h12 : m ≤ 12) (hok : ∀ i, i < m → (H i).ok) : ∀ i, i < rmM m → (psh H m S i).ok := by
  intro i hi
  unfold psh
  unfold rmM at hi
  split
  · split
    · exact ok
    · rename_i e1 e2
      rw [if_pos e1] at hi
      exact hok i (by omega)
  · split
    · exact ok
    · rename_i e1 e2
      rw [if_neg e1] at hi
      exact hok (i + 1) (by omega)
theorem st_S {e : Int32} (hS : mSc 288 0 S I) (ok : S.ok) : mSc 288 0 S (stI I e) := mSc_f hS ok (fun j => stI_o (fun z => absurd z.1 (by decide)))
theorem st_H {e : Int32} (hH : mHs H m I) (hok : ∀ i, i < m → (H i).ok) : mHs H m (stI I e) := mHs_f hH hok (fun j => stI_o (fun z => absurd z.1 (by decide))) (stI_o (by decide))
/-- one goes: the row between -/
theorem goes_S (hS : mSc 288 0 S I1) (ok : S.ok) (hq : q < 3) {k : Nat} (hk : k < S.n q) (h : ∀ j, I' 288 j = if j = q then nI (S.n q - 1) else if rwK q + 3 * k ≤ j ∧ j < rwK q + 3 * (S.n q - 1) then I1 288 (j + 3) else I1 288 j) : mSc 288 0 (S.out q k) I' := by
  obtain ⟨h1, h2, h3, h4⟩ := hS
  have rq := rwS hq
  have nq := ok q hq
  have rb := rw_b hq (k := k) (by omega)
  refine ⟨fun r hr => ?_, ?_, ?_, fun r hr i hi j hj => ?_⟩
  · rw [h, Nat.zero_add]
    show _ = nI (if r = q then S.n r - 1 else S.n r)
    have z := h1 r hr
    rw [Nat.zero_add] at z
    by_cases e1 : r = q
    · rw [if_pos e1, if_pos e1, e1]
    · rw [if_neg e1, if_neg e1, if_neg (by omega)]
      exact z
  · rw [h, if_neg (by omega), if_neg (by omega)]
    exact h2
  · rw [h, if_neg (by omega), if_neg (by omega)]
    exact h3
  · have hi : i < (if r = q then S.n r - 1 else S.n r) := hi
    have nr := ok r hr
    show _ = if r = q ∧ k ≤ i then S.sc r (i + 1) j else S.sc r i j
    have il : i < S.n r := by
      by_cases e1 : r = q
      · rw [if_pos e1] at hi
        omega
      · rw [if_neg e1] at hi
        exact hi
    have r5 := rw_b hr (k := i) (by omega)
    have z0 := h4 r hr i il j hj
    rw [Nat.zero_add] at z0
    rw [h, Nat.zero_add, if_neg (by omega)]
    by_cases e1 : r = q
    · subst e1
      rw [if_pos rfl] at hi
      by_cases e2 : k ≤ i
      · rw [if_pos (by omega), if_pos ⟨rfl, e2⟩]
        have z := h4 r hr (i + 1) (by omega) j hj
        rw [Nat.zero_add, show rwK r + 3 * (i + 1) + j = rwK r + 3 * i + j + 3 by omega] at z
        exact z
      · rw [if_neg (by omega), if_neg (by omega)]
        exact z0
    · rw [if_neg ?_, if_neg (fun z => e1 z.1)]
      · exact z0
      · intro z
        have m0 : mst 0 = 8 := rfl
        have m1 : mst 1 = 12 := rfl
        have m2 : mst 2 = 8 := rfl
        have r0 : rwK 0 = 5 := rfl
        have r1 : rwK 1 = 29 := rfl
        have r2 : rwK 2 = 65 := rfl
        rcases q3 hq with rfl | rfl | rfl <;> rcases q3 hr with rfl | rfl | rfl <;> omega
theorem M_goes6 (hS : mSc 288 0 S I) (ok : S.ok) (hH : mHs H m I) (hok : ∀ i, i < m → (H i).ok) (hq : q < 3) {k : Nat} (hk : k < S.n q) (kk : ∀ I', aftM (S.out q k) (psh H m S) (rmM m) I I' → Q [.int (nI (S.n q - 1))] (I', L, g_R s, 306)) : pm_W (g_P ys) 225 0 [.ref 275, .int (nI q), .int (nI k), .retAddr 0] [] (I, L, g_R s, 306) (0, 0) Q := by
  have m12 := mst12 hq
  have nq := ok q hq
  have rq := rwS hq
  have rb := rw_b hq (k := k) (by omega)
  have rb2 := rw_b hq (k := S.n q - 1) (by omega)
  refine ps_aload rfl rfl ?_
  refine pw_k rfl rfl rfl rfl ⟨Nat.zero_le _, Nat.zero_le _⟩ ?_
  refine M_rem6 hS ok hH hok (fun I1 n1 s1 h1 _ => ?_)
  have c1 := s1.1 q hq
  rw [Nat.zero_add] at c1
  have go : ∀ d i, i + d = rwK q + 3 * (S.n q - 1) → rwK q + 3 * k ≤ i → ∀ I2, (∀ a j, ¬ a = 288 → I2 a j = I1 a j) → (∀ j, I2 288 j = if j = q then nI (S.n q - 1) else if rwK q + 3 * k ≤ j ∧ j < i then I1 288 (j + 3) else I1 288 j) → pm_W (g_P ys) 225 26 [.ref 275, .int (nI q), .int (nI k), .int (nI i)] [] (I2, L, g_R s, 306) (0, 0) Q := by
    intro d
    induction d with
    | zero =>
      intro i hi ki I2 o e
      have eq : I2 288 q = nI (S.n q - 1) := by rw [e, if_pos rfl]
      refine ps_iload rfl rfl ?_
      refine ps_iload rfl rfl ?_
      refine pw_k rfl rfl rfl rfl ⟨Nat.zero_le _, Nat.zero_le _⟩ ?_
      refine M_rowX hq ?_
      refine pw_c rfl ?_
      refine ps_aload rfl rfl ?_
      refine ps_gfr 11 16 rfl rfl rfl rfl rfl (rfl) ?_
      refine ps_iload rfl rfl ?_
      refine pw_k rfl rfl rfl rfl ⟨Nat.zero_le _, Nat.zero_le _⟩ ?_
      refine M_manyX hq ?_
      refine ps_iald (q) rfl rfl rfl (rfl) (by omega) ?_
      rw [show ((I2, L, g_R s, 306) : pm_H).1 288 q = nI (S.n q - 1) from eq]
      refine ps_ar rfl rfl rfl rfl rfl ?_
      refine ps_ar rfl rfl rfl rfl rfl ?_
      rw [show (3 : Int32) * nI (S.n q - 1) = nI (3 * (S.n q - 1)) from pk_mul 3 _, nI_add]
      refine ps_icmpt rfl (decide_eq_true (nI_le (by omega) (by omega))) ?_
      refine ps_aload rfl rfl ?_
      refine ps_gfr 11 16 rfl rfl rfl rfl rfl (rfl) ?_
      refine ps_iload rfl rfl ?_
      refine pw_k rfl rfl rfl rfl ⟨Nat.zero_le _, Nat.zero_le _⟩ ?_
      refine M_manyX hq ?_
      refine ps_iald (q) rfl rfl rfl (rfl) (by omega) ?_
      rw [show ((I2, L, g_R s, 306) : pm_H).1 288 q = nI (S.n q - 1) from eq]
      refine ps_iret rfl rfl ?_
      refine kk _ ⟨fun a j z1 z2 z3 => (o a j z2).trans (n1 a j z1 z2 z3), goes_S s1 ok hq hk (fun j => ?_), mHs_f h1 (psh_ok ok hH.1 hok) (fun j => o _ _ (by decide)) (o _ _ (by decide))⟩
      rw [e, show i = rwK q + 3 * (S.n q - 1) by omega]
    | succ d ih =>
      intro i hi ki I2 o e
      have eq : I2 288 q = nI (S.n q - 1) := by rw [e, if_pos rfl]
      refine ps_iload rfl rfl ?_
      refine ps_iload rfl rfl ?_
      refine pw_k rfl rfl rfl rfl ⟨Nat.zero_le _, Nat.zero_le _⟩ ?_
      refine M_rowX hq ?_
      refine pw_c rfl ?_
      refine ps_aload rfl rfl ?_
      refine ps_gfr 11 16 rfl rfl rfl rfl rfl (rfl) ?_
      refine ps_iload rfl rfl ?_
      refine pw_k rfl rfl rfl rfl ⟨Nat.zero_le _, Nat.zero_le _⟩ ?_
      refine M_manyX hq ?_
      refine ps_iald (q) rfl rfl rfl (rfl) (by omega) ?_
      rw [show ((I2, L, g_R s, 306) : pm_H).1 288 q = nI (S.n q - 1) from eq]
      refine ps_ar rfl rfl rfl rfl rfl ?_
      refine ps_ar rfl rfl rfl rfl rfl ?_
      rw [show (3 : Int32) * nI (S.n q - 1) = nI (3 * (S.n q - 1)) from pk_mul 3 _, nI_add]
      refine ps_icmpf rfl (decide_eq_false (nI_ge (by omega) (by omega))) ?_
      refine ps_aload rfl rfl ?_
      refine ps_gfr 11 16 rfl rfl rfl rfl rfl (rfl) ?_
      refine ps_iload rfl rfl ?_
      refine ps_aload rfl rfl ?_
      refine ps_gfr 11 16 rfl rfl rfl rfl rfl (rfl) ?_
      refine ps_iload rfl rfl ?_
      refine pw_c rfl ?_
      refine ps_ar rfl rfl rfl rfl rfl ?_
      rw [show nI i + (3 : Int32) = nI (i + 3) from nI_add _ _]
      refine ps_iald (i + 3) rfl rfl rfl (rfl) (by omega) ?_
      refine ps_iast (i) rfl rfl rfl (rfl) (by omega) ?_
      refine ps_iinc rfl rfl ?_
      refine ps_goto rfl ?_
      rw [show nI i + Int32.ofInt 1 = nI (i + 1) from nI_1 i]
      refine ih (i + 1) (by omega) (by omega) _ (fun a j h => (pu_o h).trans (o a j h)) (fun j => ?_)
      show pm_u I2 288 i (I2 288 (i + 3)) 288 j = _
      by_cases ej : j = i
      · rw [ej, pu_s, e, if_neg (by omega), if_neg (by omega), if_neg (by omega), if_pos (by omega)]
      · rw [pu_n ej, e]
        by_cases e1 : j = q
        · rw [if_pos e1, if_pos e1]
        · rw [if_neg e1, if_neg e1]
          by_cases e2 : rwK q + 3 * k ≤ j ∧ j < i
          · rw [if_pos e2, if_pos (by omega)]
          · rw [if_neg e2, if_neg (by omega)]
  refine ps_aload rfl rfl ?_
  refine ps_gfr 11 16 rfl rfl rfl rfl rfl (rfl) ?_
  refine ps_iload rfl rfl ?_
  refine pw_k rfl rfl rfl rfl ⟨Nat.zero_le _, Nat.zero_le _⟩ ?_
  refine M_manyX hq ?_
  refine ps_ar rfl rfl rfl rfl rfl ?_
  refine ps_iald (q) rfl rfl rfl (rfl) (by omega) ?_
  rw [show ((I1, L, g_R s, 306) : pm_H).1 288 q = nI (S.n q) from c1]
  refine pw_c rfl ?_
  refine ps_ar rfl rfl rfl rfl rfl ?_
  rw [show nI (S.n q) - (1 : Int32) = nI (S.n q - 1) by have z := nI_p (S.n q - 1); rw [show S.n q - 1 + 1 = S.n q by omega] at z; exact z]
  refine ps_iast (q) rfl rfl rfl (rfl) (by omega) ?_
  refine ps_iload rfl rfl ?_
  refine pw_k rfl rfl rfl rfl ⟨Nat.zero_le _, Nat.zero_le _⟩ ?_
  refine M_rowX hq ?_
  refine pw_c rfl ?_
  refine ps_iload rfl rfl ?_
  refine ps_ar rfl rfl rfl rfl rfl ?_
  rw [show (3 : Int32) * nI k = nI (3 * k) from pk_mul 3 _]
  refine ps_ar rfl rfl rfl rfl rfl ?_
  rw [nI_add]
  refine ps_istore rfl rfl ?_
  refine go (rwK q + 3 * (S.n q - 1) - (rwK q + 3 * k)) (rwK q + 3 * k) (by omega) (by omega) _ (fun a j h => pu_o h) (fun j => ?_)
  show pm_u I1 288 q (nI (S.n q - 1)) 288 j = _
  by_cases e1 : j = q
  · rw [if_pos e1, e1, pu_s]
  · rw [if_neg e1, pu_n e1, if_neg (by omega)]
theorem M_changes6 (hS : mSc 288 0 S I) (ok : S.ok) (hH : mHs H m I) (hok : ∀ i, i < m → (H i).ok) {p : Nat} {v w : Int32} (hp : p = 3 ∨ p = 4) (hv : I 288 p = w) (kk : ∀ I', aftM (if p = 3 then S.light v else S.use v) (psh H m S) (rmM m) I I' → Q [.int w] (I', L, g_R s, 306)) : pm_W (g_P ys) 229 0 [.ref 275, .int (nI p), .int v, .retAddr 0] [] (I, L, g_R s, 306) (0, 0) Q := by
  refine ps_aload rfl rfl ?_
  refine ps_gfr 11 16 rfl rfl rfl rfl rfl (rfl) ?_
  refine ps_iload rfl rfl ?_
  refine ps_iald (p) rfl rfl rfl (rfl) (by omega) ?_
  rw [show ((I, L, g_R s, 306) : pm_H).1 288 p = w from hv]
  refine ps_istore rfl rfl ?_
  refine ps_aload rfl rfl ?_
  refine pw_k rfl rfl rfl rfl ⟨Nat.zero_le _, Nat.zero_le _⟩ ?_
  refine M_rem6 hS ok hH hok (fun I1 n1 s1 h1 _ => ?_)
  refine ps_aload rfl rfl ?_
  refine ps_gfr 11 16 rfl rfl rfl rfl rfl (rfl) ?_
  refine ps_iload rfl rfl ?_
  refine ps_iload rfl rfl ?_
  refine ps_iast (p) rfl rfl rfl (rfl) (by omega) ?_
  refine ps_iload rfl rfl ?_
  refine ps_iret rfl rfl ?_
  obtain ⟨g1, g2, g3, g4⟩ := s1
  have o : ∀ a j, ¬ a = 288 → pm_u I1 288 p v a j = I1 a j := fun a j h => pu_o h
  refine kk _ ⟨fun a j z1 z2 z3 => (o a j z2).trans (n1 a j z1 z2 z3), ?_, mHs_f h1 (psh_ok ok hH.1 hok) (fun j => o _ _ (by decide)) (o _ _ (by decide))⟩
  have rows : ∀ r, r < 3 → ∀ k, k < S.n r → ∀ j, j < 3 → pm_u I1 288 p v 288 (0 + (rwK r + 3 * k + j)) = S.sc r k j := fun r hr k hk j hj => (pu_n (by have := (rw_b hr (k := k) (by have := ok r hr; omega)).2; omega)).trans (g4 r hr k hk j hj)
  have cnt : ∀ r, r < 3 → pm_u I1 288 p v 288 (0 + r) = nI (S.n r) := fun r hr => (pu_n (by omega)).trans (g1 r hr)
  rcases hp with rfl | rfl
  · rw [if_pos rfl]
    exact ⟨cnt, pu_s, (pu_n (by decide)).trans g3, rows⟩
  · rw [if_neg (by decide)]
    exact ⟨cnt, (pu_n (by decide)).trans g2, pu_s, rows⟩
theorem M_drop6 (hS : mSc 288 0 S I) (ok : S.ok) (hH : mHs H m I) (hok : ∀ i, i < m → (H i).ok) (kd k : Int32) (kE : ∀ e, aDrop S kd k = .error e → Q [.int (-1)] (stI I e, L, g_R s, 306)) (kO : ∀ r S', aDrop S kd k = .ok (r, S') → ∀ I', aftM S' (psh H m S) (rmM m) (stI I 0) I' → Q [.int r] (I', L, g_R s, 306)) : pm_W (g_P ys) 224 0 [.ref 275, .int kd, .int k] [] (I, L, g_R s, 306) (0, 0) Q := by
  by_cases hk : kd = 0 ∨ kd = 2
  · have ea : aDrop S kd k = aOut S kd.toInt.toNat k := by
      unfold aDrop
      rw [if_neg (fun z => z hk)]
    have go : ∀ q, q < 3 → kd = nI q → kd.toInt.toNat = q → pm_W (g_P ys) 224 14 [.ref 275, .int kd, .int k] [.ref 275] (I, L, g_R s, 306) (0, 0) Q := by
      intro q hq e1 e2
      subst e1
      rw [e2] at ea
      refine ps_aload rfl rfl ?_
      refine ps_iload rfl rfl ?_
      refine ps_iload rfl rfl ?_
      refine pw_k rfl rfl rfl rfl ⟨Nat.zero_le _, Nat.zero_le _⟩ ?_
      refine M_isThing6 hS ok hq k ?_
      by_cases hkk : 0 ≤ k.toInt ∧ k.toInt < S.n q
      · rw [decide_eq_true hkk]
        obtain ⟨i, hi⟩ : ∃ i, i = k.toInt.toNat := ⟨_, rfl⟩
        have ek := nI_oz hi hkk.1
        have ea2 : aOut S q k = .ok (nI (S.n q - 1), S.out q i) := by
          unfold aOut
          rw [if_neg (fun z => z hkk), hi]
        rw [ea2] at ea
        subst ek
        refine ps_iff rfl (rfl) ?_
        refine pw_c rfl ?_
        refine ps_goto rfl ?_
        refine pw_k rfl rfl rfl rfl ⟨Nat.zero_le _, Nat.zero_le _⟩ ?_
        refine M_is ?_
        refine ps_iff rfl (by decide) ?_
        refine ps_aload rfl rfl ?_
        refine ps_iload rfl rfl ?_
        refine ps_iload rfl rfl ?_
        refine pw_k rfl rfl rfl rfl ⟨Nat.zero_le _, Nat.zero_le _⟩ ?_
        refine M_goes6 (st_S hS ok) ok (st_H hH hok) hok hq (k := i) (by omega) (fun I' z => ?_)
        refine ps_goto rfl ?_
        refine ps_iret rfl rfl ?_
        exact kO _ _ ea I' z
      · rw [decide_eq_false hkk]
        have ea2 : aOut S q k = .error 2 := by
          unfold aOut
          rw [if_pos hkk]
        rw [ea2] at ea
        refine ps_ift rfl (rfl) ?_
        refine pw_c rfl ?_
        refine pw_k rfl rfl rfl rfl ⟨Nat.zero_le _, Nat.zero_le _⟩ ?_
        refine M_is ?_
        refine ps_ift rfl (by decide) ?_
        refine pw_c rfl ?_
        refine ps_iret rfl rfl ?_
        exact kE _ ea
    by_cases h0 : kd = 0
    · refine ps_aload rfl rfl ?_
      refine ps_iload rfl rfl ?_
      refine ps_ift rfl (decide_eq_true h0) ?_
      exact go 0 (by omega) h0 (by rw [h0]; rfl)
    · have h2 : kd = 2 := by
        rcases hk with z | z
        · exact absurd z h0
        · exact z
      refine ps_aload rfl rfl ?_
      refine ps_iload rfl rfl ?_
      refine ps_iff rfl (decide_eq_false h0) ?_
      refine ps_iload rfl rfl ?_
      refine pw_c rfl ?_
      refine ps_icmpt rfl (decide_eq_true h2) ?_
      exact go 2 (by omega) h2 (by rw [h2]; rfl)
  · refine ps_aload rfl rfl ?_
    refine ps_iload rfl rfl ?_
    refine ps_iff rfl (decide_eq_false (fun z => hk (Or.inl z))) ?_
    refine ps_iload rfl rfl ?_
    refine pw_c rfl ?_
    refine ps_icmpf rfl (decide_eq_false (fun z => hk (Or.inr z))) ?_
    refine pw_c rfl ?_
    refine ps_goto rfl ?_
    refine pw_k rfl rfl rfl rfl ⟨Nat.zero_le _, Nat.zero_le _⟩ ?_
    refine M_is ?_
    refine ps_ift rfl (by decide) ?_
    refine pw_c rfl ?_
    refine ps_iret rfl rfl ?_
    exact kE 1 (by unfold aDrop; rw [if_pos hk])
theorem M_heal6 (hS : mSc 288 0 S I) (ok : S.ok) (hH : mHs H m I) (hok : ∀ i, i < m → (H i).ok) (k : Int32) (kE : ∀ e, aOut S 1 k = .error e → Q [.int (-1)] (stI I e, L, g_R s, 306)) (kO : ∀ r S', aOut S 1 k = .ok (r, S') → ∀ I', aftM S' (psh H m S) (rmM m) (stI I 0) I' → Q [.int r] (I', L, g_R s, 306)) : pm_W (g_P ys) 227 0 [.ref 275, .int k] [] (I, L, g_R s, 306) (0, 0) Q := by
  refine ps_aload rfl rfl ?_
  refine ps_aload rfl rfl ?_
  refine pw_c rfl ?_
  refine ps_iload rfl rfl ?_
  refine pw_k rfl rfl rfl rfl ⟨Nat.zero_le _, Nat.zero_le _⟩ ?_
  refine M_isThing6 hS ok (q := 1) (by omega) k ?_
  by_cases hkk : 0 ≤ k.toInt ∧ k.toInt < S.n 1
  · rw [decide_eq_true hkk]
    obtain ⟨i, hi⟩ : ∃ i, i = k.toInt.toNat := ⟨_, rfl⟩
    have ek := nI_oz hi hkk.1
    have ea : aOut S 1 k = .ok (nI (S.n 1 - 1), S.out 1 i) := by
      unfold aOut
      rw [if_neg (fun z => z hkk), hi]
    subst ek
    refine ps_iff rfl (rfl) ?_
    refine pw_c rfl ?_
    refine ps_goto rfl ?_
    refine pw_k rfl rfl rfl rfl ⟨Nat.zero_le _, Nat.zero_le _⟩ ?_
    refine M_is ?_
    refine ps_iff rfl (by decide) ?_
    refine ps_aload rfl rfl ?_
    refine pw_c rfl ?_
    refine ps_iload rfl rfl ?_
    refine pw_k rfl rfl rfl rfl ⟨Nat.zero_le _, Nat.zero_le _⟩ ?_
    refine M_goes6 (q := 1) (st_S hS ok) ok (st_H hH hok) hok (by omega) (k := i) (by omega) (fun I' z => ?_)
    refine ps_goto rfl ?_
    refine ps_iret rfl rfl ?_
    exact kO _ _ ea I' z
  · rw [decide_eq_false hkk]
    have ea : aOut S 1 k = .error 2 := by
      unfold aOut
      rw [if_pos hkk]
    refine ps_ift rfl (rfl) ?_
    refine pw_c rfl ?_
    refine pw_k rfl rfl rfl rfl ⟨Nat.zero_le _, Nat.zero_le _⟩ ?_
    refine M_is ?_
    refine ps_ift rfl (by decide) ?_
    refine pw_c rfl ?_
    refine ps_iret rfl rfl ?_
    exact kE _ ea
theorem M_light6 (hS : mSc 288 0 S I) (ok : S.ok) (hH : mHs H m I) (hok : ∀ i, i < m → (H i).ok) (v : Int32) (kE : ∀ e, aLight S v = .error e → Q [.int (-1)] (stI I e, L, g_R s, 306)) (kO : ∀ r S', aLight S v = .ok (r, S') → ∀ I', aftM S' (psh H m S) (rmM m) (stI I 0) I' → Q [.int r] (I', L, g_R s, 306)) : pm_W (g_P ys) 228 0 [.ref 275, .int v] [] (I, L, g_R s, 306) (0, 0) Q := by
  refine ps_aload rfl rfl ?_
  refine ps_iload rfl rfl ?_
  refine ps_ar rfl rfl rfl rfl rfl ?_
  refine pw_c rfl ?_
  refine pw_c rfl ?_
  refine pw_k rfl rfl rfl rfl ⟨Nat.zero_le _, Nat.zero_le _⟩ ?_
  refine M_isIn ?_
  rw [isIn_k v 0 99 0 99 rfl rfl]
  by_cases hv : 0 ≤ v.toInt ∧ v.toInt ≤ 99
  · rw [decide_eq_true hv]
    have ea : aLight S v = if S.bk = v then .error 4 else .ok (S.bk, S.light v) := by
      unfold aLight
      rw [if_neg (fun z => z hv)]
    refine ps_ift rfl (rfl) ?_
    refine ps_aload rfl rfl ?_
    refine ps_gfr 11 16 rfl rfl rfl rfl rfl (rfl) ?_
    refine pw_c rfl ?_
    refine ps_iald (3) rfl rfl rfl (rfl) (by omega) ?_
    rw [show ((I, L, g_R s, 306) : pm_H).1 288 3 = S.bk from hS.2.1]
    by_cases e : S.bk = v
    · rw [if_pos e] at ea
      refine ps_iload rfl rfl ?_
      refine ps_icmpf rfl (decide_eq_false (fun z => z e)) ?_
      refine pw_c rfl ?_
      refine ps_goto rfl ?_
      refine pw_k rfl rfl rfl rfl ⟨Nat.zero_le _, Nat.zero_le _⟩ ?_
      refine M_is ?_
      refine ps_ift rfl (by decide) ?_
      refine pw_c rfl ?_
      refine ps_iret rfl rfl ?_
      exact kE _ ea
    · rw [if_neg e] at ea
      refine ps_iload rfl rfl ?_
      refine ps_icmpt rfl (decide_eq_true e) ?_
      refine pw_c rfl ?_
      refine pw_k rfl rfl rfl rfl ⟨Nat.zero_le _, Nat.zero_le _⟩ ?_
      refine M_is ?_
      refine ps_iff rfl (by decide) ?_
      refine ps_aload rfl rfl ?_
      refine pw_c rfl ?_
      refine ps_iload rfl rfl ?_
      refine pw_k rfl rfl rfl rfl ⟨Nat.zero_le _, Nat.zero_le _⟩ ?_
      refine M_changes6 (p := 3) (v := v) (w := S.bk) (st_S hS ok) ok (st_H hH hok) hok (Or.inl rfl) ((stI_o (by decide)).trans hS.2.1) (fun I' z => ?_)
      refine ps_goto rfl ?_
      refine ps_iret rfl rfl ?_
      exact kO _ _ ea I' z
  · rw [decide_eq_false hv]
    refine ps_iff rfl (rfl) ?_
    refine pw_c rfl ?_
    refine ps_goto rfl ?_
    refine pw_k rfl rfl rfl rfl ⟨Nat.zero_le _, Nat.zero_le _⟩ ?_
    refine M_is ?_
    refine ps_ift rfl (by decide) ?_
    refine pw_c rfl ?_
    refine ps_iret rfl rfl ?_
    exact kE 1 (by unfold aLight; rw [if_pos hv])
theorem M_use6 (hS : mSc 288 0 S I) (ok : S.ok) (hH : mHs H m I) (hok : ∀ i, i < m → (H i).ok) (hP : I 275 14 = nI ps) (p6 : ps ≤ 6) (k : Int32) (kE : ∀ e, aUse S ps k = .error e → Q [.int (-1)] (stI I e, L, g_R s, 306)) (kO : ∀ r S', aUse S ps k = .ok (r, S') → ∀ I', aftM S' (psh H m S) (rmM m) (stI I 0) I' → Q [.int r] (I', L, g_R s, 306)) : pm_W (g_P ys) 230 0 [.ref 275, .int k] [] (I, L, g_R s, 306) (0, 0) Q := by
  refine ps_aload rfl rfl ?_
  refine ps_aload rfl rfl ?_
  refine ps_iload rfl rfl ?_
  refine pw_k rfl rfl rfl rfl ⟨Nat.zero_le _, Nat.zero_le _⟩ ?_
  refine M_isPlate ?_
  rw [hP, isIn_k k 0 (nI ps - 1).toInt64 0 ((ps : Int) - 1) rfl (nI_pd (by omega)), show decide (0 ≤ k.toInt ∧ k.toInt ≤ (ps : Int) - 1) = decide (0 ≤ k.toInt ∧ k.toInt < ps) from by rw [Bool.eq_iff_iff, decide_eq_true_iff, decide_eq_true_iff]; omega]
  by_cases hk : 0 ≤ k.toInt ∧ k.toInt < ps
  · rw [decide_eq_true hk]
    have ea : aUse S ps k = if S.us = k then .error 4 else .ok (S.us, S.use k) := by
      unfold aUse
      rw [if_neg (fun z => z hk)]
    refine ps_ift rfl (rfl) ?_
    refine ps_aload rfl rfl ?_
    refine ps_gfr 11 16 rfl rfl rfl rfl rfl (rfl) ?_
    refine pw_c rfl ?_
    refine ps_iald (4) rfl rfl rfl (rfl) (by omega) ?_
    rw [show ((I, L, g_R s, 306) : pm_H).1 288 4 = S.us from hS.2.2.1]
    by_cases e : S.us = k
    · rw [if_pos e] at ea
      refine ps_iload rfl rfl ?_
      refine ps_icmpf rfl (decide_eq_false (fun z => z e)) ?_
      refine pw_c rfl ?_
      refine ps_goto rfl ?_
      refine pw_k rfl rfl rfl rfl ⟨Nat.zero_le _, Nat.zero_le _⟩ ?_
      refine M_is ?_
      refine ps_ift rfl (by decide) ?_
      refine pw_c rfl ?_
      refine ps_iret rfl rfl ?_
      exact kE _ ea
    · rw [if_neg e] at ea
      refine ps_iload rfl rfl ?_
      refine ps_icmpt rfl (decide_eq_true e) ?_
      refine pw_c rfl ?_
      refine pw_k rfl rfl rfl rfl ⟨Nat.zero_le _, Nat.zero_le _⟩ ?_
      refine M_is ?_
      refine ps_iff rfl (by decide) ?_
      refine ps_aload rfl rfl ?_
      refine pw_c rfl ?_
      refine ps_iload rfl rfl ?_
      refine pw_k rfl rfl rfl rfl ⟨Nat.zero_le _, Nat.zero_le _⟩ ?_
      refine M_changes6 (p := 4) (v := k) (w := S.us) (st_S hS ok) ok (st_H hH hok) hok (Or.inr rfl) ((stI_o (by decide)).trans hS.2.2.1) (fun I' z => ?_)
      refine ps_goto rfl ?_
      refine ps_iret rfl rfl ?_
      exact kO _ _ ea I' z
  · rw [decide_eq_false hk]
    refine ps_iff rfl (rfl) ?_
    refine pw_c rfl ?_
    refine ps_goto rfl ?_
    refine pw_k rfl rfl rfl rfl ⟨Nat.zero_le _, Nat.zero_le _⟩ ?_
    refine M_is ?_
    refine ps_ift rfl (by decide) ?_
    refine pw_c rfl ?_
    refine ps_iret rfl rfl ?_
    exact kE 2 (by unfold aUse; rw [if_pos hk])
end SH
