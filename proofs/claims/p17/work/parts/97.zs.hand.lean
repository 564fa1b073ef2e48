/-! BY HAND: the model's ACTS, exactly, second: add, lose, slide, undo; many, thing -/
section SJ
variable {I I' I1 I2 J : Nat → Nat → Int32} {L : Nat → Nat → Int64} {s : Nat → Option Nat} {Q : List Value → pm_H → Prop} {ys : List Int32} {ps m n q : Nat} {S S' : sS} {H H' : Nat → sS}
theorem M_add6 (hS : mSc 288 0 S I) (ok : S.ok) (hH : mHs H m I) (hok : ∀ i, i < m → (H i).ok) (kd x y c : Int32) (kE : ∀ e, aAdd S kd x y c = .error e → Q [.int (-1)] (stI I e, L, g_R s, 306)) (kO : ∀ r S', aAdd S kd x y c = .ok (r, S') → ∀ I', aftM S' (psh H m S) (rmM m) (stI I 0) I' → Q [.int r] (I', L, g_R s, 306)) : pm_W (g_P ys) 221 0 [.ref 275, .int kd, .int x, .int y, .int c, .retAddr 0] [] (I, L, g_R s, 306) (0, 0) Q := by
  have bad : ¬ ((kd = 0 ∨ kd = 2) ∧ plcB x y ∧ 1 ≤ c.toInt ∧ c.toInt ≤ 999) → pm_W (g_P ys) 221 50 [.ref 275, .int kd, .int x, .int y, .int c, .retAddr 0] [] (I, L, g_R s, 306) (0, 0) Q := by
    intro z
    refine pw_c rfl ?_
    refine ps_istore rfl rfl ?_
    refine ps_aload rfl rfl ?_
    refine ps_iload rfl rfl ?_
    refine ps_iff rfl (rfl) ?_
    refine pw_c rfl ?_
    refine ps_goto rfl ?_
    refine pw_k rfl rfl rfl rfl ⟨Nat.zero_le _, Nat.zero_le _⟩ ?_
    refine M_is ?_
    refine ps_ift rfl (by decide) ?_
    refine pw_c rfl ?_
    refine ps_iret rfl rfl ?_
    exact kE 1 (by unfold aAdd; rw [if_pos z])
  by_cases hk : kd = 0 ∨ kd = 2
  · have go : ∀ q, q < 3 → mst q = 8 → kd = nI q → kd.toInt.toNat = q → pm_W (g_P ys) 221 9 [.ref 275, .int kd, .int x, .int y, .int c, .retAddr 0] [] (I, L, g_R s, 306) (0, 0) Q := by
      intro q hq m8 z1 z2
      have nq := ok q hq
      have cq := hS.1 q hq
      rw [Nat.zero_add] at cq
      have w3 : plcB x y → ∀ a d v : Int64, (decide (a ≤ v) && decide (v ≤ d)) = decide (1 ≤ c.toInt ∧ c.toInt ≤ 999) → pm_W (g_P ys) 221 40 [.ref 275, .int kd, .int x, .int y, .int c, .retAddr 0] [.long d, .long a, .long v] (I, L, g_R s, 306) (0, 0) Q := by
        intro hp a d v e
        refine pw_k rfl rfl rfl rfl ⟨Nat.zero_le _, Nat.zero_le _⟩ ?_
        refine M_isIn ?_
        rw [e]
        by_cases hc : 1 ≤ c.toInt ∧ c.toInt ≤ 999
        · rw [decide_eq_true hc]
          have ea : aAdd S kd x y c = if S.n kd.toInt.toNat = 8 then .error 3 else .ok (nI (S.n kd.toInt.toNat), S.add kd.toInt.toNat x y c) := by
            unfold aAdd
            rw [if_neg (fun z => z ⟨hk, hp, hc⟩)]
          rw [z2] at ea
          subst z1
          refine ps_iff rfl (rfl) ?_
          refine pw_c rfl ?_
          refine ps_goto rfl ?_
          refine ps_istore rfl rfl ?_
          refine ps_aload rfl rfl ?_
          refine ps_iload rfl rfl ?_
          refine ps_ift rfl (rfl) ?_
          refine ps_aload rfl rfl ?_
          refine ps_gfr 11 16 rfl rfl rfl rfl rfl (rfl) ?_
          refine ps_iload rfl rfl ?_
          refine pw_k rfl rfl rfl rfl ⟨Nat.zero_le _, Nat.zero_le _⟩ ?_
          refine M_manyX hq ?_
          refine ps_iald (q) rfl rfl rfl (rfl) (by omega) ?_
          rw [show ((I, L, g_R s, 306) : pm_H).1 288 q = nI (S.n q) from cq]
          by_cases e : S.n q = 8
          · rw [if_pos e] at ea
            refine pw_c rfl ?_
            refine ps_icmpf rfl (decide_eq_false (fun z => z (by rw [e]; rfl))) ?_
            refine pw_c rfl ?_
            refine ps_goto rfl ?_
            refine pw_k rfl rfl rfl rfl ⟨Nat.zero_le _, Nat.zero_le _⟩ ?_
            refine M_is ?_
            refine ps_ift rfl (by decide) ?_
            refine pw_c rfl ?_
            refine ps_iret rfl rfl ?_
            exact kE _ ea
          · rw [if_neg e] at ea
            refine pw_c rfl ?_
            refine ps_icmpt rfl (decide_eq_true (fun z => e (nI_eqv (b := 8) (by omega) (by omega) z))) ?_
            refine pw_c rfl ?_
            refine pw_k rfl rfl rfl rfl ⟨Nat.zero_le _, Nat.zero_le _⟩ ?_
            refine M_is ?_
            refine ps_iff rfl (by decide) ?_
            refine ps_aload rfl rfl ?_
            refine ps_iload rfl rfl ?_
            refine ps_iload rfl rfl ?_
            refine ps_iload rfl rfl ?_
            refine ps_iload rfl rfl ?_
            refine pw_k rfl rfl rfl rfl ⟨Nat.zero_le _, Nat.zero_le _⟩ ?_
            refine M_comes6 (st_S hS ok) ok (st_H hH hok) hok hq (by omega) x y c (fun I' z => ?_)
            refine ps_goto rfl ?_
            refine ps_iret rfl rfl ?_
            exact kO _ _ ea I' z
        · rw [decide_eq_false hc]
          refine ps_ift rfl (rfl) ?_
          exact bad (fun z => hc z.2.2)
      have w2 : (0 ≤ x.toInt ∧ x.toInt ≤ 99) → ∀ a d v : Int64, (decide (a ≤ v) && decide (v ≤ d)) = decide (0 ≤ y.toInt ∧ y.toInt ≤ 99) → pm_W (g_P ys) 221 27 [.ref 275, .int kd, .int x, .int y, .int c, .retAddr 0] [.long d, .long a, .long v] (I, L, g_R s, 306) (0, 0) Q := by
        intro hx a d v e
        refine pw_k rfl rfl rfl rfl ⟨Nat.zero_le _, Nat.zero_le _⟩ ?_
        refine M_isIn ?_
        rw [e]
        by_cases hy : 0 ≤ y.toInt ∧ y.toInt ≤ 99
        · rw [decide_eq_true hy]
          refine ps_iff rfl (rfl) ?_
          refine ps_iload rfl rfl ?_
          refine ps_ar rfl rfl rfl rfl rfl ?_
          refine pw_c rfl ?_
          refine pw_c rfl ?_
          exact w3 ⟨hx, hy⟩ _ _ _ (isIn_k c 1 999 1 999 rfl rfl)
        · rw [decide_eq_false hy]
          refine ps_ift rfl (rfl) ?_
          exact bad (fun z => hy z.2.1.2)
      refine ps_iload rfl rfl ?_
      refine ps_ar rfl rfl rfl rfl rfl ?_
      refine pw_c rfl ?_
      refine pw_c rfl ?_
      refine pw_k rfl rfl rfl rfl ⟨Nat.zero_le _, Nat.zero_le _⟩ ?_
      refine M_isIn ?_
      rw [isIn_k x 0 99 0 99 rfl rfl]
      by_cases hx : 0 ≤ x.toInt ∧ x.toInt ≤ 99
      · rw [decide_eq_true hx]
        refine ps_iff rfl (rfl) ?_
        refine ps_iload rfl rfl ?_
        refine ps_ar rfl rfl rfl rfl rfl ?_
        refine pw_c rfl ?_
        refine pw_c rfl ?_
        exact w2 hx _ _ _ (isIn_k y 0 99 0 99 rfl rfl)
      · rw [decide_eq_false hx]
        refine ps_ift rfl (rfl) ?_
        exact bad (fun z => hx z.2.1.1)
    by_cases h0 : kd = 0
    · refine ps_iload rfl rfl ?_
      refine ps_ift rfl (decide_eq_true h0) ?_
      exact go 0 (by omega) rfl h0 (by rw [h0]; rfl)
    · have h2 : kd = 2 := by
        rcases hk with z | z
        · exact absurd z h0
        · exact z
      refine ps_iload rfl rfl ?_
      refine ps_iff rfl (decide_eq_false h0) ?_
      refine ps_iload rfl rfl ?_
      refine pw_c rfl ?_
      refine ps_icmpf rfl (decide_eq_false (fun z => z h2)) ?_
      exact go 2 (by omega) rfl h2 (by rw [h2]; rfl)
  · refine ps_iload rfl rfl ?_
    refine ps_iff rfl (decide_eq_false (fun z => hk (Or.inl z))) ?_
    refine ps_iload rfl rfl ?_
    refine pw_c rfl ?_
    refine ps_icmpt rfl (decide_eq_true (fun z => hk (Or.inr z))) ?_
    exact bad (fun z => hk z.1)
theorem M_lose6 (hS : mSc 288 0 S I) (ok : S.ok) (hH : mHs H m I) (hok : ∀ i, i < m → (H i).ok) (x y : Int32) (kE : ∀ e, aLose S x y = .error e → Q [.int (-1)] (stI I e, L, g_R s, 306)) (kO : ∀ r S', aLose S x y = .ok (r, S') → ∀ I', aftM S' (psh H m S) (rmM m) (stI I 0) I' → Q [.int r] (I', L, g_R s, 306)) : pm_W (g_P ys) 226 0 [.ref 275, .int x, .int y, .retAddr 0, .retAddr 0] [] (I, L, g_R s, 306) (0, 0) Q := by
  have n12 : S.n 1 ≤ 12 := ok 1 (by omega)
  have c1 : I 288 1 = nI (S.n 1) := hS.1 1 (by omega)
  have sc : ∀ k, k < S.n 1 → I 288 (29 + 3 * k) = S.sc 1 k 0 ∧ I 288 (29 + 3 * k + 1) = S.sc 1 k 1 := fun k hk => by
    have z0 := hS.2.2.2 1 (by omega) k hk 0 (by omega)
    have z1 := hS.2.2.2 1 (by omega) k hk 1 (by omega)
    rw [Nat.zero_add] at z0 z1
    exact ⟨z0, z1⟩
  have fin : ∀ t : Bool, t = tldB S x y → ∀ u, pm_W (g_P ys) 226 66 [.ref 275, .int x, .int y, .int (bI t), .int u] [] (I, L, g_R s, 306) (0, 0) Q := by
    intro t ht u
    have bad : ¬ plcB x y → pm_W (g_P ys) 226 91 [.ref 275, .int x, .int y, .int (bI t), .int u] [.ref 275] (I, L, g_R s, 306) (0, 0) Q := by
      intro z
      refine pw_c rfl ?_
      refine ps_goto rfl ?_
      refine pw_k rfl rfl rfl rfl ⟨Nat.zero_le _, Nat.zero_le _⟩ ?_
      refine M_is ?_
      refine ps_ift rfl (by decide) ?_
      refine pw_c rfl ?_
      refine ps_iret rfl rfl ?_
      exact kE 1 (by unfold aLose; rw [if_pos z])
    have w2 : (0 ≤ x.toInt ∧ x.toInt ≤ 99) → ∀ a d v : Int64, (decide (a ≤ v) && decide (v ≤ d)) = decide (0 ≤ y.toInt ∧ y.toInt ≤ 99) → pm_W (g_P ys) 226 85 [.ref 275, .int x, .int y, .int (bI t), .int u] [.long d, .long a, .long v, .ref 275] (I, L, g_R s, 306) (0, 0) Q := by
      intro hx a d v e
      refine pw_k rfl rfl rfl rfl ⟨Nat.zero_le _, Nat.zero_le _⟩ ?_
      refine M_isIn ?_
      rw [e]
      by_cases hy : 0 ≤ y.toInt ∧ y.toInt ≤ 99
      · rw [decide_eq_true hy]
        have ea : aLose S x y = if S.n 1 = 12 then .error 3 else if tldB S x y = true then .error 4 else .ok (nI (S.n 1 + 1), S.add 1 x y 0) := by
          unfold aLose
          rw [if_neg (fun z => z ⟨hx, hy⟩)]
        refine ps_ift rfl (rfl) ?_
        refine ps_aload rfl rfl ?_
        refine ps_gfr 11 16 rfl rfl rfl rfl rfl (rfl) ?_
        refine pw_c rfl ?_
        refine ps_iald (1) rfl rfl rfl (rfl) (by omega) ?_
        rw [show ((I, L, g_R s, 306) : pm_H).1 288 1 = nI (S.n 1) from c1]
        by_cases e : S.n 1 = 12
        · rw [if_pos e] at ea
          refine pw_c rfl ?_
          refine ps_icmpf rfl (decide_eq_false (fun z => z (by rw [e]; rfl))) ?_
          refine pw_c rfl ?_
          refine ps_goto rfl ?_
          refine pw_k rfl rfl rfl rfl ⟨Nat.zero_le _, Nat.zero_le _⟩ ?_
          refine M_is ?_
          refine ps_ift rfl (by decide) ?_
          refine pw_c rfl ?_
          refine ps_iret rfl rfl ?_
          exact kE _ ea
        · rw [if_neg e] at ea
          rw [← ht] at ea
          cases t with
          | true =>
            rw [if_pos rfl] at ea
            refine pw_c rfl ?_
            refine ps_icmpt rfl (decide_eq_true (fun z => e (nI_eqv (b := 12) (by omega) (by omega) z))) ?_
            refine ps_iload rfl rfl ?_
            refine ps_iff rfl (rfl) ?_
            refine pw_c rfl ?_
            refine ps_goto rfl ?_
            refine pw_k rfl rfl rfl rfl ⟨Nat.zero_le _, Nat.zero_le _⟩ ?_
            refine M_is ?_
            refine ps_ift rfl (by decide) ?_
            refine pw_c rfl ?_
            refine ps_iret rfl rfl ?_
            exact kE _ ea
          | false =>
            rw [if_neg (by decide)] at ea
            refine pw_c rfl ?_
            refine ps_icmpt rfl (decide_eq_true (fun z => e (nI_eqv (b := 12) (by omega) (by omega) z))) ?_
            refine ps_iload rfl rfl ?_
            refine ps_ift rfl (rfl) ?_
            refine pw_c rfl ?_
            refine pw_k rfl rfl rfl rfl ⟨Nat.zero_le _, Nat.zero_le _⟩ ?_
            refine M_is ?_
            refine ps_iff rfl (by decide) ?_
            refine ps_aload rfl rfl ?_
            refine pw_c rfl ?_
            refine ps_iload rfl rfl ?_
            refine ps_iload rfl rfl ?_
            refine pw_c rfl ?_
            refine pw_k rfl rfl rfl rfl ⟨Nat.zero_le _, Nat.zero_le _⟩ ?_
            refine M_comes6 (q := 1) (st_S hS ok) ok (st_H hH hok) hok (by omega) (show S.n 1 < 12 by omega) x y 0 (fun I' z => ?_)
            refine pw_c rfl ?_
            refine ps_ar rfl rfl rfl rfl rfl ?_
            rw [show nI (S.n 1) + (1 : Int32) = nI (S.n 1 + 1) from nI_1 _]
            refine ps_goto rfl ?_
            refine ps_iret rfl rfl ?_
            exact kO _ _ ea I' z
      · rw [decide_eq_false hy]
        refine ps_iff rfl (rfl) ?_
        exact bad (fun z => hy z.2)
    refine ps_aload rfl rfl ?_
    refine ps_iload rfl rfl ?_
    refine ps_ar rfl rfl rfl rfl rfl ?_
    refine pw_c rfl ?_
    refine pw_c rfl ?_
    refine pw_k rfl rfl rfl rfl ⟨Nat.zero_le _, Nat.zero_le _⟩ ?_
    refine M_isIn ?_
    rw [isIn_k x 0 99 0 99 rfl rfl]
    by_cases hx : 0 ≤ x.toInt ∧ x.toInt ≤ 99
    · rw [decide_eq_true hx]
      refine ps_iff rfl (rfl) ?_
      refine ps_iload rfl rfl ?_
      refine ps_ar rfl rfl rfl rfl rfl ?_
      refine pw_c rfl ?_
      refine pw_c rfl ?_
      exact w2 hx _ _ _ (isIn_k y 0 99 0 99 rfl rfl)
    · rw [decide_eq_false hx]
      refine ps_ift rfl (rfl) ?_
      exact bad (fun z => hx z.1)
  have loop : ∀ d i : Nat, i + d = S.n 1 → ∀ t : Bool, (t = true ↔ ∃ k, k < i ∧ S.sc 1 k 0 = x ∧ S.sc 1 k 1 = y) → pm_W (g_P ys) 226 5 [.ref 275, .int x, .int y, .int (bI t), .int (nI i)] [] (I, L, g_R s, 306) (0, 0) Q := by
    intro d
    induction d with
    | zero =>
      intro i hi t ht
      refine ps_iload rfl rfl ?_
      refine ps_aload rfl rfl ?_
      refine ps_gfr 11 16 rfl rfl rfl rfl rfl (rfl) ?_
      refine pw_c rfl ?_
      refine ps_iald (1) rfl rfl rfl (rfl) (by omega) ?_
      rw [show ((I, L, g_R s, 306) : pm_H).1 288 1 = nI (S.n 1) from c1]
      refine ps_icmpt rfl (decide_eq_true (nI_le (by omega) (by omega))) ?_
      refine fin t ?_ _
      rw [Bool.eq_iff_iff, ht]
      constructor
      · rintro ⟨k, hk, h⟩
        exact tld_y ⟨k, by omega, h⟩
      · intro h
        refine Classical.byContradiction (fun z => tld_n (fun k hk v => z ⟨k, by omega, v⟩) h)
    | succ d ih =>
      intro i hi t ht
      obtain ⟨s0, s1⟩ := sc i (by omega)
      have next : ∀ t' : Bool, (t' = true ↔ t = true ∨ (S.sc 1 i 0 = x ∧ S.sc 1 i 1 = y)) → pm_W (g_P ys) 226 60 [.ref 275, .int x, .int y, .int (bI t'), .int (nI i)] [] (I, L, g_R s, 306) (0, 0) Q := by
        intro t' ht'
        refine ps_iinc rfl rfl ?_
        refine ps_goto rfl ?_
        rw [show nI i + Int32.ofInt 1 = nI (i + 1) from nI_1 i]
        refine ih (i + 1) (by omega) t' ?_
        rw [ht', ht]
        constructor
        · rintro (⟨k, hk, h⟩ | h)
          · exact ⟨k, by omega, h⟩
          · exact ⟨i, by omega, h⟩
        · rintro ⟨k, hk, h⟩
          by_cases e : k = i
          · rw [e] at h
            exact Or.inr h
          · exact Or.inl ⟨k, by omega, h⟩
      refine ps_iload rfl rfl ?_
      refine ps_aload rfl rfl ?_
      refine ps_gfr 11 16 rfl rfl rfl rfl rfl (rfl) ?_
      refine pw_c rfl ?_
      refine ps_iald (1) rfl rfl rfl (rfl) (by omega) ?_
      rw [show ((I, L, g_R s, 306) : pm_H).1 288 1 = nI (S.n 1) from c1]
      refine ps_icmpf rfl (decide_eq_false (nI_ge (by omega) (by omega))) ?_
      refine ps_iload rfl rfl ?_
      cases t with
      | true =>
        refine ps_ift rfl (rfl) ?_
        refine pw_c rfl ?_
        refine ps_goto rfl ?_
        refine ps_istore rfl rfl ?_
        exact next true ⟨fun _ => Or.inl rfl, fun _ => rfl⟩
      | false =>
        refine ps_iff rfl (rfl) ?_
        refine ps_aload rfl rfl ?_
        refine ps_gfr 11 16 rfl rfl rfl rfl rfl (rfl) ?_
        refine pw_c rfl ?_
        refine pw_c rfl ?_
        refine ps_iload rfl rfl ?_
        refine ps_ar rfl rfl rfl rfl rfl ?_
        rw [show (3 : Int32) * nI i = nI (3 * i) from pk_mul 3 _]
        refine ps_ar rfl rfl rfl rfl rfl ?_
        rw [show (29 : Int32) + nI (3 * i) = nI (29 + 3 * i) from nI_add _ _]
        refine ps_iald (29 + 3 * i) rfl rfl rfl (rfl) (by omega) ?_
        rw [show ((I, L, g_R s, 306) : pm_H).1 288 (29 + 3 * i) = S.sc 1 i 0 from s0]
        by_cases e1 : S.sc 1 i 0 = x
        · refine ps_iload rfl rfl ?_
          refine ps_icmpf rfl (decide_eq_false (fun z => z e1)) ?_
          refine ps_aload rfl rfl ?_
          refine ps_gfr 11 16 rfl rfl rfl rfl rfl (rfl) ?_
          refine pw_c rfl ?_
          refine pw_c rfl ?_
          refine ps_iload rfl rfl ?_
          refine ps_ar rfl rfl rfl rfl rfl ?_
          rw [show (3 : Int32) * nI i = nI (3 * i) from pk_mul 3 _]
          refine ps_ar rfl rfl rfl rfl rfl ?_
          rw [show (29 : Int32) + nI (3 * i) = nI (29 + 3 * i) from nI_add _ _]
          refine pw_c rfl ?_
          refine ps_ar rfl rfl rfl rfl rfl ?_
          rw [show nI (29 + 3 * i) + (1 : Int32) = nI (29 + 3 * i + 1) from nI_1 _]
          refine ps_iald (29 + 3 * i + 1) rfl rfl rfl (rfl) (by omega) ?_
          rw [show ((I, L, g_R s, 306) : pm_H).1 288 (29 + 3 * i + 1) = S.sc 1 i 1 from s1]
          by_cases e2 : S.sc 1 i 1 = y
          · refine ps_iload rfl rfl ?_
            refine ps_icmpf rfl (decide_eq_false (fun z => z e2)) ?_
            refine pw_c rfl ?_
            refine ps_goto rfl ?_
            refine ps_istore rfl rfl ?_
            exact next true ⟨fun _ => Or.inr ⟨e1, e2⟩, fun _ => rfl⟩
          · refine ps_iload rfl rfl ?_
            refine ps_icmpt rfl (decide_eq_true e2) ?_
            refine pw_c rfl ?_
            refine ps_istore rfl rfl ?_
            exact next false ⟨fun z => absurd z (by decide), fun z => z.elim (fun z => absurd z (by decide)) (fun z => absurd z.2 e2)⟩
        · refine ps_iload rfl rfl ?_
          refine ps_icmpt rfl (decide_eq_true e1) ?_
          refine pw_c rfl ?_
          refine ps_istore rfl rfl ?_
          exact next false ⟨fun z => absurd z (by decide), fun z => z.elim (fun z => absurd z (by decide)) (fun z => absurd z.1 e1)⟩
  refine pw_c rfl ?_
  refine ps_istore rfl rfl ?_
  refine pw_c rfl ?_
  refine ps_istore rfl rfl ?_
  exact loop (S.n 1) 0 (by omega) false ⟨fun z => absurd z (by decide), fun ⟨k, hk, _⟩ => absurd hk (by omega)⟩
end SJ
