/-! BY HAND: how the class reads a text, exactly, second -/
section KX
variable {P : pm_P} {m pc nx : Nat} {lv st r : List Value} {h : pm_H} {cs : Nat × Nat} {Q : List Value → pm_H → Prop}
theorem ps_brr {i : Instr} {t : Nat} {st' : List Value} (hc : pm_cod P m pc = some (.inr i, nx)) (hr : pm_re (pm_ret P m) i st = none) (ha : pm_ca P i st h = none) (hl : pm_lo i lv st = none) (h1 : pm_ar i st = none) (hb : pm_br i nx st = some (t, st')) (kk : pm_W P m t lv st' h cs Q) : pm_W P m pc lv st h cs Q := pw_s hc hr ha (by simp only [pm_s, hl, h1, hb]) kk
end KX
section KY
variable {I I' J : Nat → Nat → Int32} {L : Nat → Nat → Int64} {s : Nat → Option Nat} {Q : List Value → pm_H → Prop} {ys : List Int32} {B : sB} {b n c t : Nat} {f T : Nat → Int32}
theorem nF_n {q : Nat} : ∀ {d : Nat}, (∀ j, j < d → inR 48 57 (f (q + j))) → ∃ m, m < 10 ^ d ∧ nF f q d = nI m
  | 0, _ => ⟨0, by decide, rfl⟩
  | d + 1, h => by
    obtain ⟨m, h1, h2⟩ := nF_n (q := q) (d := d) (fun j hj => h j (by omega))
    have r := h d (by omega)
    unfold inR at r
    refine ⟨10 * m + ((f (q + d)).toInt.toNat - 48), by rw [Nat.pow_succ]; omega, ?_⟩
    have e : f (q + d) = nI (f (q + d)).toInt.toNat := nI_oz rfl (by omega)
    rw [nF, h2, e]
    have z : (f (q + d)).toInt.toNat = (nI (f (q + d)).toInt.toNat).toInt.toNat := by rw [← e]
    rw [← z, show (48 : Int32) = nI 48 from rfl, nI_sub (by omega), show (10 : Int32) = nI 10 from rfl, pk_mul, nI_add, Nat.mul_comm m 10]
theorem tk_num (S : stX f T J n c) (ht : t < c) (h3 : J 7 t = 3) : 0 ≤ (J 10 t).toInt ∧ (J 10 t).toInt ≤ 9999 := by
  obtain ⟨q, e, d1, d2, d3, d4, d5, d6, d7, d8, d9⟩ := S.1.1 t ht
  rw [h3] at d9
  rcases d9 with ⟨_, _, d, _⟩ | ⟨_, r, d, v⟩ | ⟨_, _, d, _⟩ | ⟨_, _, _, _, d, _⟩
  · exfalso
    split at d <;> exact absurd d (by decide)
  · split at d
    · rename_i z
      obtain ⟨r1, r2, r3, _⟩ := r
      obtain ⟨m, m1, m2⟩ := nF_n (f := f) (q := q) (d := e - q) (fun j hj => r3 _ (by omega) (by omega))
      have p : 10 ^ (e - q) ≤ 10 ^ 4 := Nat.pow_le_pow_right (by omega) z
      have p4 : 10 ^ 4 = 10000 := by decide
      rw [v, m2, nI_toInt (by omega)]
      omega
    · exact absurd d (by decide)
  · exfalso
    split at d <;> exact absurd d (by decide)
  · exfalso
    split at d <;> exact absurd d (by decide)
def xNmd (J : Nat → Nat → Int32) (B : sB) (mw mh t : Nat) : sR Nat := match xNam J B t with
  | .error e => .error e
  | .ok k => if (B.pl k).w ≤ mw ∧ (B.pl k).v ≤ mh then .ok k else .error (5, t)
def xNew (J : Nat → Nat → Int32) (B : sB) (t : Nat) : sR Int32 := if J 7 t = 2 ∧ kwF (J 10 t) = -1 then (match fnN (fun k => (B.pl k).nm) (J 10 t) B.ps 0 with
  | some _ => .error (4, t)
  | none => .ok (J 10 t)) else .error (eK J t, t)
def flB (B : sB) (w : Int32) : Prop := (w = 0 ∧ ¬ B.ps < 6) ∨ (w = 8 ∧ ¬ B.n 0 < 8) ∨ (w = 9 ∧ ¬ B.n 1 < 12) ∨ (w = 10 ∧ ¬ B.n 2 < 8)
theorem B_takeNamedX (hb : isB b) (hc : cC b J I t) (h8 : t ≤ 800) (hB : cBp b B I) (ok : B.ok) {g : Nat} (hg : I 5 2 = nI g) (g3 : g < 3) {mw mh : Nat} (m1 : mw ≤ 289) (m2 : mh ≤ 289) (kB : ∀ k u, xNmd J B mw mh t = .error (k, u) → ∀ I', cL b J I' → I' 5 4 = k → I' 5 5 = J 8 u → Q [.int 0] (I', L, g_R s, 306)) (kO : ∀ k, xNmd J B mw mh t = .ok k → Q [.int 1] (givI I g t (nI k), L, g_R s, 306)) : pm_W (g_P ys) 55 0 [.ref 5, .ref b, .int (nI mw), .int (nI mh), .retAddr 0, .retAddr 0] [] (I, L, g_R s, 306) (0, 0) Q := by
  obtain ⟨hS0, hS1, hS2, hS3, hS4, hR0, hR1, hR2, hR3, hR4, hR5, hR6, hR7⟩ := bn_F (ys := ys) (s := s) hb
  have e10 := cL_r hb hc.1 (a := 10) (by omega) (by omega) t
  have p6 := ok.1
  refine ps_aload rfl rfl ?_
  refine pw_c rfl ?_
  refine pw_k rfl rfl rfl rfl ⟨Nat.zero_le _, Nat.zero_le _⟩ ?_
  refine B_expX hb hc h8 (k := 2) (by decide) (fun h7 I' c1 c2 c3 => ?_) (fun h7 => ?_)
  · refine ps_iff rfl (rfl) ?_
    refine pw_c rfl ?_
    refine ps_zret rfl rfl (Or.inl rfl) ?_
    exact kB _ _ (by unfold xNmd xNam; rw [if_neg h7]) _ c1 c2 c3
  refine ps_ift rfl (rfl) ?_
  refine ps_aload rfl rfl ?_
  refine ps_gfr 2 0 rfl rfl rfl rfl rfl (rfl) ?_
  refine ps_gfr 3 3 rfl rfl rfl rfl rfl (rfl) ?_
  refine ps_aload rfl rfl ?_
  refine ps_gfi 2 3 rfl rfl rfl rfl rfl ?_
  refine ps_iald (t) rfl rfl rfl (hc.2.1) (by omega) ?_
  rw [show ((I, L, g_R s, 306) : pm_H).1 10 t = J 10 t from e10]
  refine pw_k rfl rfl rfl rfl ⟨Nat.zero_le _, Nat.zero_le _⟩ ?_
  refine B_kwX (J 10 t) ?_
  by_cases hk : kwF (J 10 t) = -1
  · rw [hk]
    refine pw_c rfl ?_
    refine ps_icmpt rfl (rfl) ?_
    refine ps_aload rfl rfl ?_
    refine ps_aload rfl rfl ?_
    refine ps_gfr 2 0 rfl rfl rfl rfl rfl (rfl) ?_
    refine ps_gfr 3 3 rfl rfl rfl rfl rfl (rfl) ?_
    refine ps_aload rfl rfl ?_
    refine ps_gfi 2 3 rfl rfl rfl rfl rfl ?_
    refine ps_iald (t) rfl rfl rfl (hc.2.1) (by omega) ?_
    rw [show ((I, L, g_R s, 306) : pm_H).1 10 t = J 10 t from e10]
    refine pv_k rfl rfl rfl rfl rfl (hS0 _ _) rfl ⟨Nat.zero_le _, Nat.zero_le _⟩ ?_
    refine B_numberOfX hb hB p6 ?_
    cases e : fnN (fun k => (B.pl k).nm) (J 10 t) B.ps 0 with
    | none =>
      refine ps_istore rfl rfl ?_
      refine ps_aload rfl rfl ?_
      refine ps_iload rfl rfl ?_
      refine pv_k rfl rfl rfl rfl rfl (hS0 _ _) rfl ⟨Nat.zero_le _, Nat.zero_le _⟩ ?_
      refine B_plateOfN hb hB.1 p6 (by show ¬ (0 ≤ (-1 : Int32).toInt ∧ _); have : (-1 : Int32).toInt = -1 := rfl; omega) ?_
      refine ps_astoreN rfl rfl ?_
      refine ps_aloadN rfl rfl ?_
      refine ps_brr rfl rfl rfl rfl rfl rfl ?_
      refine ps_aload rfl rfl ?_
      refine pw_c rfl ?_
      refine pw_k rfl rfl rfl rfl ⟨Nat.zero_le _, Nat.zero_le _⟩ ?_
      refine B_wroX hb hc h8 (fun I' c1 c2 c3 => ?_)
      refine ps_zret rfl rfl (Or.inl rfl) ?_
      refine kB _ _ ?_ _ c1 c2 c3
      unfold xNmd xNam
      rw [if_pos h7, if_pos hk, e]
    | some k =>
      obtain ⟨_, k6, _⟩ := fnN_lt e
      have k6 : k < B.ps := by omega
      have hP := isP_of hb (show k < 6 by omega)
      have hS5 := (pl_F (ys := ys) (s := s) hP).1
      obtain ⟨cp, _⟩ := (hB.2 k k6).1
      obtain ⟨wb, vb⟩ := cP_b cp
      have xn : xNmd J B mw mh t = if (B.pl k).w ≤ mw ∧ (B.pl k).v ≤ mh then .ok k else .error (5, t) := by
        unfold xNmd xNam
        rw [if_pos h7, if_pos hk, e]
      have bad : ¬ ((B.pl k).w ≤ mw ∧ (B.pl k).v ≤ mh) → pm_W (g_P ys) 55 90 [.ref 5, .ref b, .int (nI mw), .int (nI mh), .int (nI k), .ref (b + 17 + 4 * k)] [] (I, L, g_R s, 306) (0, 0) Q := by
        intro z
        refine ps_aload rfl rfl ?_
        refine pw_c rfl ?_
        refine pw_k rfl rfl rfl rfl ⟨Nat.zero_le _, Nat.zero_le _⟩ ?_
        refine B_wroX hb hc h8 (fun I' c1 c2 c3 => ?_)
        refine ps_zret rfl rfl (Or.inl rfl) ?_
        exact kB _ _ (by rw [xn, if_neg z]) _ c1 c2 c3
      refine ps_istore rfl rfl ?_
      refine ps_aload rfl rfl ?_
      refine ps_iload rfl rfl ?_
      refine pv_k rfl rfl rfl rfl rfl (hS0 _ _) rfl ⟨Nat.zero_le _, Nat.zero_le _⟩ ?_
      refine B_plateOfX hb hB.1 p6 k6 ?_
      refine ps_astore rfl rfl ?_
      refine ps_aload rfl rfl ?_
      refine ps_brr rfl rfl rfl rfl rfl rfl ?_
      refine ps_aload rfl rfl ?_
      refine ps_gfi 9 4 rfl rfl rfl (by first | exact hS0 _ _ | exact hS1 _ _ | exact hS2 _ _ | exact hS3 _ _ | exact hS4 _ _ | exact hS5 _ _ | exact hS6 _ _ | exact hS7 _ _ | exact hS8 _ _ | exact hS9 _ _ | exact hS10 _ _ | exact hS11 _ _ | exact hS12 _ _ | exact hS13 _ _ | assumption | rfl) rfl ?_
      rw [show ((I, L, g_R s, 306) : pm_H).1 (b + 17 + 4 * k) 4 = nI (B.pl k).w from cp.1]
      by_cases h1 : (B.pl k).w ≤ mw
      · refine ps_iload rfl rfl ?_
        refine ps_icmpf rfl (decide_eq_false (fun z => absurd ((nI_ltI (by omega) (by omega)).mp z) (by omega))) ?_
        refine ps_aload rfl rfl ?_
        refine ps_gfi 9 5 rfl rfl rfl (by first | exact hS0 _ _ | exact hS1 _ _ | exact hS2 _ _ | exact hS3 _ _ | exact hS4 _ _ | exact hS5 _ _ | exact hS6 _ _ | exact hS7 _ _ | exact hS8 _ _ | exact hS9 _ _ | exact hS10 _ _ | exact hS11 _ _ | exact hS12 _ _ | exact hS13 _ _ | assumption | rfl) rfl ?_
        rw [show ((I, L, g_R s, 306) : pm_H).1 (b + 17 + 4 * k) 5 = nI (B.pl k).v from cp.2.1]
        by_cases h2 : (B.pl k).v ≤ mh
        · refine ps_iload rfl rfl ?_
          refine ps_icmpt rfl (decide_eq_true (nI_le h2 (by omega))) ?_
          refine ps_aload rfl rfl ?_
          refine ps_iload rfl rfl ?_
          refine pw_k rfl rfl rfl rfl ⟨Nat.zero_le _, Nat.zero_le _⟩ ?_
          refine B_takeX hc.2.1 hg g3 ?_
          refine ps_zret rfl rfl (Or.inr rfl) ?_
          exact kO _ (by rw [xn, if_pos ⟨h1, h2⟩])
        · refine ps_iload rfl rfl ?_
          refine ps_icmpf rfl (decide_eq_false (nI_ge (by omega) (by omega))) ?_
          exact bad (fun z => h2 z.2)
      · refine ps_iload rfl rfl ?_
        refine ps_icmpt rfl (decide_eq_true (nI_lt (by omega) (by omega))) ?_
        exact bad (fun z => h1 z.1)
  · refine pw_c rfl ?_
    refine ps_icmpf rfl (decide_eq_false hk) ?_
    refine ps_aload rfl rfl ?_
    refine pw_c rfl ?_
    refine pw_k rfl rfl rfl rfl ⟨Nat.zero_le _, Nat.zero_le _⟩ ?_
    refine B_wroX hb hc h8 (fun I' c1 c2 c3 => ?_)
    refine ps_zret rfl rfl (Or.inl rfl) ?_
    refine kB _ _ ?_ _ c1 c2 c3
    unfold xNmd xNam
    rw [if_pos h7, if_neg hk]
theorem B_newNameX (hb : isB b) (hc : cC b J I t) (h8 : t ≤ 800) (hB : cBp b B I) (p6 : B.ps < 6) (kB : ∀ k u, xNew J B t = .error (k, u) → ∀ I', cL b J I' → I' 5 4 = k → I' 5 5 = J 8 u → Q [.int 0] (I', L, g_R s, 306)) (kO : ∀ v, xNew J B t = .ok v → Q [.int 1] (nxtI (pm_u I (b + 17 + 4 * B.ps) 3 v) t, L, g_R s, 306)) : pm_W (g_P ys) 38 0 [.ref 5, .ref b, .retAddr 0] [] (I, L, g_R s, 306) (0, 0) Q := by
  obtain ⟨hS0, hS1, hS2, hS3, hS4, hR0, hR1, hR2, hR3, hR4, hR5, hR6, hR7⟩ := bn_F (ys := ys) (s := s) hb
  have e10 := cL_r hb hc.1 (a := 10) (by omega) (by omega) t
  have hP := isP_of hb p6
  have hS5 := (pl_F (ys := ys) (s := s) hP).1
  refine ps_aload rfl rfl ?_
  refine pw_c rfl ?_
  refine pw_k rfl rfl rfl rfl ⟨Nat.zero_le _, Nat.zero_le _⟩ ?_
  refine B_expX hb hc h8 (k := 2) (by decide) (fun h7 I' c1 c2 c3 => ?_) (fun h7 => ?_)
  · refine ps_iff rfl (rfl) ?_
    refine pw_c rfl ?_
    refine ps_zret rfl rfl (Or.inl rfl) ?_
    exact kB _ _ (by unfold xNew; rw [if_neg (fun z => h7 z.1)]) _ c1 c2 c3
  refine ps_ift rfl (rfl) ?_
  refine ps_aload rfl rfl ?_
  refine ps_gfr 2 0 rfl rfl rfl rfl rfl (rfl) ?_
  refine ps_gfr 3 3 rfl rfl rfl rfl rfl (rfl) ?_
  refine ps_aload rfl rfl ?_
  refine ps_gfi 2 3 rfl rfl rfl rfl rfl ?_
  refine ps_iald (t) rfl rfl rfl (hc.2.1) (by omega) ?_
  rw [show ((I, L, g_R s, 306) : pm_H).1 10 t = J 10 t from e10]
  refine ps_istore rfl rfl ?_
  refine ps_iload rfl rfl ?_
  refine pw_k rfl rfl rfl rfl ⟨Nat.zero_le _, Nat.zero_le _⟩ ?_
  refine B_kwX (J 10 t) ?_
  by_cases hk : kwF (J 10 t) = -1
  · rw [hk]
    refine pw_c rfl ?_
    refine ps_icmpt rfl (rfl) ?_
    refine ps_aload rfl rfl ?_
    refine ps_iload rfl rfl ?_
    refine pv_k rfl rfl rfl rfl rfl (hS0 _ _) rfl ⟨Nat.zero_le _, Nat.zero_le _⟩ ?_
    refine B_numberOfX hb hB (by omega) ?_
    cases e : fnN (fun k => (B.pl k).nm) (J 10 t) B.ps 0 with
    | some k =>
      obtain ⟨_, k6, _⟩ := fnN_lt e
      refine pw_c rfl ?_
      refine ps_icmpf rfl (decide_eq_false (fun z => by have z := congrArg Int32.toInt (show nI k = -1 from z); rw [nI_toInt (by omega)] at z; have : (-1 : Int32).toInt = -1 := rfl; omega)) ?_
      refine ps_aload rfl rfl ?_
      refine pw_c rfl ?_
      refine pw_k rfl rfl rfl rfl ⟨Nat.zero_le _, Nat.zero_le _⟩ ?_
      refine B_wroX hb hc h8 (fun I' c1 c2 c3 => ?_)
      refine ps_zret rfl rfl (Or.inl rfl) ?_
      refine kB _ _ ?_ _ c1 c2 c3
      unfold xNew
      rw [if_pos ⟨h7, hk⟩, e]
    | none =>
      refine pw_c rfl ?_
      refine ps_icmpt rfl (rfl) ?_
      refine ps_aload rfl rfl ?_
      refine pv_k rfl rfl rfl rfl rfl (hS0 _ _) rfl ⟨Nat.zero_le _, Nat.zero_le _⟩ ?_
      refine B_nextX hb hB.1 p6 ?_
      refine ps_iload rfl rfl ?_
      refine ps_pfi 9 3 rfl rfl rfl (by first | exact hS0 _ _ | exact hS1 _ _ | exact hS2 _ _ | exact hS3 _ _ | exact hS4 _ _ | exact hS5 _ _ | exact hS6 _ _ | exact hS7 _ _ | exact hS8 _ _ | exact hS9 _ _ | exact hS10 _ _ | exact hS11 _ _ | exact hS12 _ _ | exact hS13 _ _ | assumption | rfl) rfl ?_
      refine ps_aload rfl rfl ?_
      refine ps_ar rfl rfl rfl rfl rfl ?_
      refine ps_gfi 2 3 rfl rfl rfl (by first | exact hS0 _ _ | exact hS1 _ _ | exact hS2 _ _ | exact hS3 _ _ | exact hS4 _ _ | exact hS5 _ _ | exact hS6 _ _ | exact hS7 _ _ | exact hS8 _ _ | exact hS9 _ _ | exact hS10 _ _ | exact hS11 _ _ | exact hS12 _ _ | exact hS13 _ _ | assumption | rfl) rfl ?_
      have i5 : ¬ 5 = b + 17 + 4 * B.ps := by have := isB_b hb; omega
      show pm_W _ _ _ _ [.int (pm_u I (b + 17 + 4 * B.ps) 3 (J 10 t) 5 3), .ref 5] (pm_u I (b + 17 + 4 * B.ps) 3 (J 10 t), L, g_R s, 306) _ _
      rw [pu_o i5, hc.2.1]
      refine pw_c rfl ?_
      refine ps_ar rfl rfl rfl rfl rfl ?_
      rw [show nI t + (1 : Int32) = nI (t + 1) from nI_1 t]
      refine ps_pfi 2 3 rfl rfl rfl rfl rfl ?_
      refine pw_c rfl ?_
      refine ps_zret rfl rfl (Or.inr rfl) ?_
      refine kO (J 10 t) ?_
      unfold xNew
      rw [if_pos ⟨h7, hk⟩, e]
  · refine pw_c rfl ?_
    refine ps_icmpf rfl (decide_eq_false hk) ?_
    refine ps_aload rfl rfl ?_
    refine pw_c rfl ?_
    refine pw_k rfl rfl rfl rfl ⟨Nat.zero_le _, Nat.zero_le _⟩ ?_
    refine B_wroX hb hc h8 (fun I' c1 c2 c3 => ?_)
    refine ps_zret rfl rfl (Or.inl rfl) ?_
    refine kB _ _ ?_ _ c1 c2 c3
    unfold xNew
    rw [if_neg (fun z => hk z.2), eK_w h7]
theorem B_formWordX (hb : isB b) (hc : cC b J I t) (h8 : t ≤ 800) (kB : ¬ (J 7 t = 2 ∧ 1 ≤ (kwF (J 10 t)).toInt ∧ (kwF (J 10 t)).toInt ≤ 7) → ∀ I', cL b J I' → I' 5 4 = eK J t → I' 5 5 = J 8 t → Q [.int 0] (I', L, g_R s, 306)) (kO : J 7 t = 2 → 1 ≤ (kwF (J 10 t)).toInt → (kwF (J 10 t)).toInt ≤ 7 → Q [.int 1] (nxtI I t, L, g_R s, 306)) : pm_W (g_P ys) 41 0 [.ref 5, .retAddr 0] [] (I, L, g_R s, 306) (0, 0) Q := by
  have e10 := cL_r hb hc.1 (a := 10) (by omega) (by omega) t
  have e1 : (1 : Int32).toInt = 1 := rfl
  have e7 : (7 : Int32).toInt = 7 := rfl
  refine ps_aload rfl rfl ?_
  refine pw_c rfl ?_
  refine pw_k rfl rfl rfl rfl ⟨Nat.zero_le _, Nat.zero_le _⟩ ?_
  refine B_expX hb hc h8 (k := 2) (by decide) (fun h7 I' c1 c2 c3 => ?_) (fun h7 => ?_)
  · refine ps_iff rfl (rfl) ?_
    refine pw_c rfl ?_
    refine ps_zret rfl rfl (Or.inl rfl) ?_
    exact kB (fun z => h7 z.1) _ c1 c2 c3
  have bad : ¬ (1 ≤ (kwF (J 10 t)).toInt ∧ (kwF (J 10 t)).toInt ≤ 7) → pm_W (g_P ys) 41 37 [.ref 5, .int (kwF (J 10 t))] [] (I, L, g_R s, 306) (0, 0) Q := by
    intro z
    refine ps_aload rfl rfl ?_
    refine pw_c rfl ?_
    refine pw_k rfl rfl rfl rfl ⟨Nat.zero_le _, Nat.zero_le _⟩ ?_
    refine B_wroX hb hc h8 (fun I' c1 c2 c3 => ?_)
    refine ps_zret rfl rfl (Or.inl rfl) ?_
    exact kB (fun y => z y.2) _ c1 (by rw [eK_w h7]; exact c2) c3
  refine ps_ift rfl (rfl) ?_
  refine ps_aload rfl rfl ?_
  refine ps_gfr 2 0 rfl rfl rfl rfl rfl (rfl) ?_
  refine ps_gfr 3 3 rfl rfl rfl rfl rfl (rfl) ?_
  refine ps_aload rfl rfl ?_
  refine ps_gfi 2 3 rfl rfl rfl rfl rfl ?_
  refine ps_iald (t) rfl rfl rfl (hc.2.1) (by omega) ?_
  rw [show ((I, L, g_R s, 306) : pm_H).1 10 t = J 10 t from e10]
  refine pw_k rfl rfl rfl rfl ⟨Nat.zero_le _, Nat.zero_le _⟩ ?_
  refine B_kwX (J 10 t) ?_
  by_cases h1 : 1 ≤ (kwF (J 10 t)).toInt
  · refine ps_istore rfl rfl ?_
    refine ps_iload rfl rfl ?_
    refine pw_c rfl ?_
    refine ps_icmpf rfl (decide_eq_false (fun z => absurd ((i_lt _ _).mp z) (by omega))) ?_
    by_cases h2 : (kwF (J 10 t)).toInt ≤ 7
    · refine ps_iload rfl rfl ?_
      refine pw_c rfl ?_
      refine ps_icmpt rfl (decide_eq_true ((i_le _ _).mpr (by omega))) ?_
      refine ps_aload rfl rfl ?_
      refine ps_ar rfl rfl rfl rfl rfl ?_
      refine ps_gfi 2 3 rfl rfl rfl rfl rfl ?_
      rw [show ((I, L, g_R s, 306) : pm_H).1 5 3 = nI t from hc.2.1]
      refine pw_c rfl ?_
      refine ps_ar rfl rfl rfl rfl rfl ?_
      rw [show nI t + (1 : Int32) = nI (t + 1) from nI_1 t]
      refine ps_pfi 2 3 rfl rfl rfl rfl rfl ?_
      refine pw_c rfl ?_
      refine ps_zret rfl rfl (Or.inr rfl) ?_
      exact kO h7 h1 h2
    · refine ps_iload rfl rfl ?_
      refine pw_c rfl ?_
      refine ps_icmpf rfl (decide_eq_false (fun z => h2 (by have := (i_le _ _).mp z; omega))) ?_
      exact bad (fun z => h2 z.2)
  · refine ps_istore rfl rfl ?_
    refine ps_iload rfl rfl ?_
    refine pw_c rfl ?_
    refine ps_icmpt rfl (decide_eq_true ((i_lt _ _).mpr (by omega))) ?_
    exact bad (fun z => h1 z.1)
theorem B_isFullX (hb : isB b) {q : Nat} (hq : q < 3) (hn : I (b + mkO q) 3 = nI (B.n q)) (ok : B.ok) (kk : Q [.int (bI (decide (¬ B.n q < mst q)))] (I, L, g_R s, 306)) : pm_W (g_P ys) 37 0 [.ref (b + mkO q)] [] (I, L, g_R s, 306) (0, 0) Q := by
  obtain ⟨hS0, hS1, hS2, hS3, hR0, hR1, hR2⟩ := mk_F (ys := ys) (s := s) hb hq
  have nq := sB.ok_n ok hq
  have m12 : mst q ≤ 12 := by rcases q3 hq with rfl | rfl | rfl <;> decide
  refine ps_aload rfl rfl ?_
  refine ps_gfi 6 3 rfl rfl rfl (by first | exact hS0 _ _ | exact hS1 _ _ | exact hS2 _ _ | exact hS3 _ _ | exact hS4 _ _ | exact hS5 _ _ | exact hS6 _ _ | exact hS7 _ _ | exact hS8 _ _ | exact hS9 _ _ | exact hS10 _ _ | exact hS11 _ _ | exact hS12 _ _ | exact hS13 _ _ | assumption | rfl) rfl ?_
  rw [show ((I, L, g_R s, 306) : pm_H).1 (b + mkO q) 3 = nI (B.n q) from hn]
  refine ps_aload rfl rfl ?_
  refine ps_gfr 6 0 rfl rfl rfl (by first | exact hS0 _ _ | exact hS1 _ _ | exact hS2 _ _ | exact hS3 _ _ | exact hS4 _ _ | exact hS5 _ _ | exact hS6 _ _ | exact hS7 _ _ | exact hS8 _ _ | exact hS9 _ _ | exact hS10 _ _ | exact hS11 _ _ | exact hS12 _ _ | exact hS13 _ _ | assumption | rfl) rfl (by first | assumption | rfl) ?_
  refine ps_alen rfl (by first | exact hS0 _ _ | exact hS1 _ _ | exact hS2 _ _ | exact hS3 _ _ | exact hS4 _ _ | exact hS5 _ _ | exact hS6 _ _ | exact hS7 _ _ | exact hS8 _ _ | exact hS9 _ _ | exact hS10 _ _ | exact hS11 _ _ | exact hS12 _ _ | exact hS13 _ _ | assumption | rfl) ?_
  by_cases e : B.n q < mst q
  · rw [decide_eq_false (fun z => z e)] at kk
    refine ps_icmpt rfl (decide_eq_true (nI_lt (by omega) (by omega))) ?_
    refine pw_c rfl ?_
    refine ps_zret rfl rfl (Or.inl rfl) ?_
    exact kk
  · rw [decide_eq_true e] at kk
    refine ps_icmpf rfl (decide_eq_false (fun z => e ((nI_ltI (by omega) (by omega)).mp z))) ?_
    refine pw_c rfl ?_
    refine ps_goto rfl ?_
    refine ps_zret rfl rfl (Or.inr rfl) ?_
    exact kk
theorem kw_val (x : Int32) : kwF x = 0 ∨ kwF x = 8 ∨ kwF x = 9 ∨ kwF x = 10 ∨ kwF x = 11 ∨ kwF x = 12 ∨ (¬ kwF x = 0 ∧ (kwF x).toInt < 8) := by
  rcases kw_rng x with h | ⟨h1, h2⟩ | h
  · exact Or.inl h
  · have e : ∀ y : Int32, (kwF x).toInt = y.toInt → kwF x = y := fun y q => (i_eq _ _).mpr q
    rcases (show (kwF x).toInt = 8 ∨ (kwF x).toInt = 9 ∨ (kwF x).toInt = 10 ∨ (kwF x).toInt = 11 ∨ (kwF x).toInt = 12 by omega) with q | q | q | q | q
    · exact Or.inr (Or.inl (e 8 q))
    · exact Or.inr (Or.inr (Or.inl (e 9 q)))
    · exact Or.inr (Or.inr (Or.inr (Or.inl (e 10 q))))
    · exact Or.inr (Or.inr (Or.inr (Or.inr (Or.inl (e 11 q)))))
    · exact Or.inr (Or.inr (Or.inr (Or.inr (Or.inr (Or.inl (e 12 q))))))
  · exact Or.inr (Or.inr (Or.inr (Or.inr (Or.inr (Or.inr h)))))
/-- a word that begins a LINE, and room for it -/
theorem B_lineWordX (hb : isB b) (hc : cC b J I t) (h8 : t ≤ 800) (hB : I b 3 = nI B.ps) (hS : ∀ q, q < 3 → I (b + mkO q) 3 = nI (B.n q)) (ok : B.ok) (kB1 : ¬ (J 7 t = 2 ∧ (kwF (J 10 t) = 0 ∨ 8 ≤ (kwF (J 10 t)).toInt)) → ∀ I', cL b J I' → I' 5 4 = eK J t → I' 5 5 = J 8 t → Q [.int 0] (I', L, g_R s, 306)) (kB2 : J 7 t = 2 → flB B (kwF (J 10 t)) → ∀ I', cL b J I' → I' 5 4 = 6 → I' 5 5 = J 8 t → Q [.int 0] (I', L, g_R s, 306)) (kO : J 7 t = 2 → (kwF (J 10 t) = 0 ∨ kwF (J 10 t) = 8 ∨ kwF (J 10 t) = 9 ∨ kwF (J 10 t) = 10 ∨ kwF (J 10 t) = 11 ∨ kwF (J 10 t) = 12) → ¬ flB B (kwF (J 10 t)) → Q [.int 1] (nxtI I t, L, g_R s, 306)) : pm_W (g_P ys) 32 0 [.ref 5, .ref b, .retAddr 0] [] (I, L, g_R s, 306) (0, 0) Q := by
  obtain ⟨hS0, hS1, hS2, hS3, hS4, hR0, hR1, hR2, hR3, hR4, hR5, hR6, hR7⟩ := bn_F (ys := ys) (s := s) hb
  have hS5 := (mk_F (ys := ys) (s := s) hb (q := 0) (by omega)).1
  have hS6 := (mk_F (ys := ys) (s := s) hb (q := 1) (by omega)).1
  have hS7 := (mk_F (ys := ys) (s := s) hb (q := 2) (by omega)).1
  have p6 := ok.1
  have e10 := cL_r hb hc.1 (a := 10) (by omega) (by omega) t
  refine ps_aload rfl rfl ?_
  refine pw_c rfl ?_
  refine pw_k rfl rfl rfl rfl ⟨Nat.zero_le _, Nat.zero_le _⟩ ?_
  refine B_expX hb hc h8 (k := 2) (by decide) (fun h7 I' c1 c2 c3 => ?_) (fun h7 => ?_)
  · refine ps_iff rfl (rfl) ?_
    refine pw_c rfl ?_
    refine ps_zret rfl rfl (Or.inl rfl) ?_
    exact kB1 (fun z => h7 z.1) _ c1 c2 c3
  -- behind the test
  have end1 : ∀ F : Bool, (F = true ↔ flB B (kwF (J 10 t))) → (kwF (J 10 t) = 0 ∨ kwF (J 10 t) = 8 ∨ kwF (J 10 t) = 9 ∨ kwF (J 10 t) = 10 ∨ kwF (J 10 t) = 11 ∨ kwF (J 10 t) = 12) → pm_W (g_P ys) 32 47 [.ref 5, .ref b, .int (kwF (J 10 t))] [.int (bI F)] (I, L, g_R s, 306) (0, 0) Q := by
    intro F hF hw
    cases F with
    | true =>
      refine ps_iff rfl (rfl) ?_
      refine ps_aload rfl rfl ?_
      refine pw_c rfl ?_
      refine pw_k rfl rfl rfl rfl ⟨Nat.zero_le _, Nat.zero_le _⟩ ?_
      refine B_wroX hb hc h8 (fun I' c1 c2 c3 => ?_)
      refine ps_zret rfl rfl (Or.inl rfl) ?_
      exact kB2 h7 (hF.mp rfl) _ c1 c2 c3
    | false =>
      refine ps_ift rfl (rfl) ?_
      refine ps_aload rfl rfl ?_
      refine ps_ar rfl rfl rfl rfl rfl ?_
      refine ps_gfi 2 3 rfl rfl rfl rfl rfl ?_
      rw [show ((I, L, g_R s, 306) : pm_H).1 5 3 = nI t from hc.2.1]
      refine pw_c rfl ?_
      refine ps_ar rfl rfl rfl rfl rfl ?_
      rw [show nI t + (1 : Int32) = nI (t + 1) from nI_1 t]
      refine ps_pfi 2 3 rfl rfl rfl rfl rfl ?_
      refine pw_c rfl ?_
      refine ps_zret rfl rfl (Or.inr rfl) ?_
      exact kO h7 hw (fun z => absurd (hF.mpr z) (by decide))
  have mk : ∀ q, q < 3 → ∀ w : Int32, kwF (J 10 t) = w → (flB B w ↔ ¬ B.n q < mst q) → (kwF (J 10 t) = 0 ∨ kwF (J 10 t) = 8 ∨ kwF (J 10 t) = 9 ∨ kwF (J 10 t) = 10 ∨ kwF (J 10 t) = 11 ∨ kwF (J 10 t) = 12) → pm_W (g_P ys) 32 47 [.ref 5, .ref b, .int (kwF (J 10 t))] [.int (bI (decide (¬ B.n q < mst q)))] (I, L, g_R s, 306) (0, 0) Q := fun q hq w ew hf hw => end1 _ (by rw [decide_eq_true_iff, ew]; exact hf.symm) hw
  refine ps_ift rfl (rfl) ?_
  refine ps_aload rfl rfl ?_
  refine ps_gfr 2 0 rfl rfl rfl rfl rfl (rfl) ?_
  refine ps_gfr 3 3 rfl rfl rfl rfl rfl (rfl) ?_
  refine ps_aload rfl rfl ?_
  refine ps_gfi 2 3 rfl rfl rfl rfl rfl ?_
  refine ps_iald (t) rfl rfl rfl (hc.2.1) (by omega) ?_
  rw [show ((I, L, g_R s, 306) : pm_H).1 10 t = J 10 t from e10]
  refine pw_k rfl rfl rfl rfl ⟨Nat.zero_le _, Nat.zero_le _⟩ ?_
  refine B_kwX (J 10 t) ?_
  have z08 : ¬ (0 : Int32) = 8 := by decide
  rcases kw_val (J 10 t) with e | e | e | e | e | e | e
  · have q := end1 (decide (¬ B.ps < 6)) (by
      rw [decide_eq_true_iff, e]
      unfold flB
      exact ⟨fun z => Or.inl ⟨rfl, z⟩, fun z => by rcases z with z | z | z | z; exact z.2; exact absurd z.1 (by decide); exact absurd z.1 (by decide); exact absurd z.1 (by decide)⟩) (Or.inl e)
    rw [e] at q ⊢
    refine ps_istore rfl rfl ?_
    refine ps_iload rfl rfl ?_
    refine ps_ift rfl (rfl) ?_
    refine ps_aload rfl rfl ?_
    refine ps_iload rfl rfl ?_
    refine pv_k rfl rfl rfl rfl rfl (hS0 _ _) rfl ⟨Nat.zero_le _, Nat.zero_le _⟩ ?_
    refine ps_iload rfl rfl ?_
    refine ps_brr rfl rfl rfl rfl rfl rfl ?_
    refine ps_aload rfl rfl ?_
    refine ps_gfi 8 3 rfl rfl rfl (by first | exact hS0 _ _ | exact hS1 _ _ | exact hS2 _ _ | exact hS3 _ _ | exact hS4 _ _ | exact hS5 _ _ | exact hS6 _ _ | exact hS7 _ _ | exact hS8 _ _ | exact hS9 _ _ | exact hS10 _ _ | exact hS11 _ _ | exact hS12 _ _ | exact hS13 _ _ | assumption | rfl) rfl ?_
    rw [show ((I, L, g_R s, 306) : pm_H).1 b 3 = nI B.ps from hB]
    by_cases e6 : B.ps < 6
    · rw [decide_eq_false (fun z => z e6)] at q
      refine pw_c rfl ?_
      refine ps_icmpt rfl (decide_eq_true (nI_lt (b := 6) e6 (by omega))) ?_
      refine pw_c rfl ?_
      refine ps_zret rfl rfl (Or.inl rfl) ?_
      exact q
    · rw [decide_eq_true e6] at q
      refine pw_c rfl ?_
      refine ps_icmpf rfl (decide_eq_false (fun z => e6 ((nI_ltI (b := 6) (by omega) (by omega)).mp z))) ?_
      refine pw_c rfl ?_
      refine ps_goto rfl ?_
      refine ps_zret rfl rfl (Or.inr rfl) ?_
      exact q
  · have q := mk 0 (by omega) 8 e (by
      unfold flB
      exact ⟨fun z => by rcases z with z | z | z | z; exact absurd z.1 (by decide); exact z.2; exact absurd z.1 (by decide); exact absurd z.1 (by decide), fun z => Or.inr (Or.inl ⟨rfl, z⟩)⟩) (Or.inr (Or.inl e))
    rw [e] at q ⊢
    refine ps_istore rfl rfl ?_
    refine ps_iload rfl rfl ?_
    refine ps_iff rfl (rfl) ?_
    refine ps_iload rfl rfl ?_
    refine pw_c rfl ?_
    refine ps_icmpt rfl (rfl) ?_
    refine ps_aload rfl rfl ?_
    refine ps_iload rfl rfl ?_
    refine pv_k rfl rfl rfl rfl rfl (hS0 _ _) rfl ⟨Nat.zero_le _, Nat.zero_le _⟩ ?_
    refine ps_iload rfl rfl ?_
    refine ps_brr rfl rfl rfl rfl rfl rfl ?_
    refine ps_aload rfl rfl ?_
    refine ps_gfr 8 1 rfl rfl rfl (by first | exact hS0 _ _ | exact hS1 _ _ | exact hS2 _ _ | exact hS3 _ _ | exact hS4 _ _ | exact hS5 _ _ | exact hS6 _ _ | exact hS7 _ _ | exact hS8 _ _ | exact hS9 _ _ | exact hS10 _ _ | exact hS11 _ _ | exact hS12 _ _ | exact hS13 _ _ | assumption | rfl) rfl (by first | assumption | rfl) ?_
    refine ps_gfr 5 0 rfl rfl rfl (by first | exact hS0 _ _ | exact hS1 _ _ | exact hS2 _ _ | exact hS3 _ _ | exact hS4 _ _ | exact hS5 _ _ | exact hS6 _ _ | exact hS7 _ _ | exact hS8 _ _ | exact hS9 _ _ | exact hS10 _ _ | exact hS11 _ _ | exact hS12 _ _ | exact hS13 _ _ | assumption | rfl) rfl (by first | assumption | rfl) ?_
    refine pv_k rfl rfl rfl rfl rfl (hS5 _ _) rfl ⟨Nat.zero_le _, Nat.zero_le _⟩ ?_
    refine B_isFullX hb (q := 0) (by omega) (hS 0 (by omega)) ok ?_
    refine ps_zret rfl rfl (bI_01 _) ?_
    exact q
  · have q := mk 1 (by omega) 9 e (by
      unfold flB
      exact ⟨fun z => by rcases z with z | z | z | z; exact absurd z.1 (by decide); exact absurd z.1 (by decide); exact z.2; exact absurd z.1 (by decide), fun z => Or.inr (Or.inr (Or.inl ⟨rfl, z⟩))⟩) (Or.inr (Or.inr (Or.inl e)))
    rw [e] at q ⊢
    refine ps_istore rfl rfl ?_
    refine ps_iload rfl rfl ?_
    refine ps_iff rfl (rfl) ?_
    refine ps_iload rfl rfl ?_
    refine pw_c rfl ?_
    refine ps_icmpt rfl (rfl) ?_
    refine ps_aload rfl rfl ?_
    refine ps_iload rfl rfl ?_
    refine pv_k rfl rfl rfl rfl rfl (hS0 _ _) rfl ⟨Nat.zero_le _, Nat.zero_le _⟩ ?_
    refine ps_iload rfl rfl ?_
    refine ps_brr rfl rfl rfl rfl rfl rfl ?_
    refine ps_aload rfl rfl ?_
    refine ps_gfr 8 1 rfl rfl rfl (by first | exact hS0 _ _ | exact hS1 _ _ | exact hS2 _ _ | exact hS3 _ _ | exact hS4 _ _ | exact hS5 _ _ | exact hS6 _ _ | exact hS7 _ _ | exact hS8 _ _ | exact hS9 _ _ | exact hS10 _ _ | exact hS11 _ _ | exact hS12 _ _ | exact hS13 _ _ | assumption | rfl) rfl (by first | assumption | rfl) ?_
    refine ps_gfr 5 1 rfl rfl rfl (by first | exact hS0 _ _ | exact hS1 _ _ | exact hS2 _ _ | exact hS3 _ _ | exact hS4 _ _ | exact hS5 _ _ | exact hS6 _ _ | exact hS7 _ _ | exact hS8 _ _ | exact hS9 _ _ | exact hS10 _ _ | exact hS11 _ _ | exact hS12 _ _ | exact hS13 _ _ | assumption | rfl) rfl (by first | assumption | rfl) ?_
    refine pv_k rfl rfl rfl rfl rfl (hS6 _ _) rfl ⟨Nat.zero_le _, Nat.zero_le _⟩ ?_
    refine B_isFullX hb (q := 1) (by omega) (hS 1 (by omega)) ok ?_
    refine ps_zret rfl rfl (bI_01 _) ?_
    exact q
  · have q := mk 2 (by omega) 10 e (by
      unfold flB
      exact ⟨fun z => by rcases z with z | z | z | z; exact absurd z.1 (by decide); exact absurd z.1 (by decide); exact absurd z.1 (by decide); exact z.2, fun z => Or.inr (Or.inr (Or.inr ⟨rfl, z⟩))⟩) (Or.inr (Or.inr (Or.inr (Or.inl e))))
    rw [e] at q ⊢
    refine ps_istore rfl rfl ?_
    refine ps_iload rfl rfl ?_
    refine ps_iff rfl (rfl) ?_
    refine ps_iload rfl rfl ?_
    refine pw_c rfl ?_
    refine ps_icmpt rfl (rfl) ?_
    refine ps_aload rfl rfl ?_
    refine ps_iload rfl rfl ?_
    refine pv_k rfl rfl rfl rfl rfl (hS0 _ _) rfl ⟨Nat.zero_le _, Nat.zero_le _⟩ ?_
    refine ps_iload rfl rfl ?_
    refine ps_brr rfl rfl rfl rfl rfl rfl ?_
    refine ps_aload rfl rfl ?_
    refine ps_gfr 8 1 rfl rfl rfl (by first | exact hS0 _ _ | exact hS1 _ _ | exact hS2 _ _ | exact hS3 _ _ | exact hS4 _ _ | exact hS5 _ _ | exact hS6 _ _ | exact hS7 _ _ | exact hS8 _ _ | exact hS9 _ _ | exact hS10 _ _ | exact hS11 _ _ | exact hS12 _ _ | exact hS13 _ _ | assumption | rfl) rfl (by first | assumption | rfl) ?_
    refine ps_gfr 5 2 rfl rfl rfl (by first | exact hS0 _ _ | exact hS1 _ _ | exact hS2 _ _ | exact hS3 _ _ | exact hS4 _ _ | exact hS5 _ _ | exact hS6 _ _ | exact hS7 _ _ | exact hS8 _ _ | exact hS9 _ _ | exact hS10 _ _ | exact hS11 _ _ | exact hS12 _ _ | exact hS13 _ _ | assumption | rfl) rfl (by first | assumption | rfl) ?_
    refine pv_k rfl rfl rfl rfl rfl (hS7 _ _) rfl ⟨Nat.zero_le _, Nat.zero_le _⟩ ?_
    refine B_isFullX hb (q := 2) (by omega) (hS 2 (by omega)) ok ?_
    refine ps_zret rfl rfl (bI_01 _) ?_
    exact q
  · have q := end1 false (by
      rw [e]
      unfold flB
      exact ⟨fun z => absurd z (by decide), fun z => by rcases z with z | z | z | z <;> exact absurd z.1 (by decide)⟩) (Or.inr (Or.inr (Or.inr (Or.inr (Or.inl e)))))
    rw [e] at q ⊢
    refine ps_istore rfl rfl ?_
    refine ps_iload rfl rfl ?_
    refine ps_iff rfl (rfl) ?_
    refine ps_iload rfl rfl ?_
    refine pw_c rfl ?_
    refine ps_icmpt rfl (rfl) ?_
    refine ps_aload rfl rfl ?_
    refine ps_iload rfl rfl ?_
    refine pv_k rfl rfl rfl rfl rfl (hS0 _ _) rfl ⟨Nat.zero_le _, Nat.zero_le _⟩ ?_
    refine ps_iload rfl rfl ?_
    refine ps_brr rfl rfl rfl rfl rfl rfl ?_
    refine pw_c rfl ?_
    refine ps_zret rfl rfl (Or.inl rfl) ?_
    exact q
  · have q := end1 false (by
      rw [e]
      unfold flB
      exact ⟨fun z => absurd z (by decide), fun z => by rcases z with z | z | z | z <;> exact absurd z.1 (by decide)⟩) (Or.inr (Or.inr (Or.inr (Or.inr (Or.inr e)))))
    rw [e] at q ⊢
    refine ps_istore rfl rfl ?_
    refine ps_iload rfl rfl ?_
    refine ps_iff rfl (rfl) ?_
    refine ps_iload rfl rfl ?_
    refine pw_c rfl ?_
    refine ps_icmpt rfl (rfl) ?_
    refine ps_aload rfl rfl ?_
    refine ps_iload rfl rfl ?_
    refine pv_k rfl rfl rfl rfl rfl (hS0 _ _) rfl ⟨Nat.zero_le _, Nat.zero_le _⟩ ?_
    refine ps_iload rfl rfl ?_
    refine ps_brr rfl rfl rfl rfl rfl rfl ?_
    refine pw_c rfl ?_
    refine ps_zret rfl rfl (Or.inl rfl) ?_
    exact q
  · have e8 : (8 : Int32).toInt = 8 := rfl
    refine ps_istore rfl rfl ?_
    refine ps_iload rfl rfl ?_
    refine ps_iff rfl (decide_eq_false e.1) ?_
    refine ps_iload rfl rfl ?_
    refine pw_c rfl ?_
    refine ps_icmpf rfl (decide_eq_false (fun z => by have := (i_le _ _).mp z; omega)) ?_
    refine ps_aload rfl rfl ?_
    refine pw_c rfl ?_
    refine pw_k rfl rfl rfl rfl ⟨Nat.zero_le _, Nat.zero_le _⟩ ?_
    refine B_wroX hb hc h8 (fun I' c1 c2 c3 => ?_)
    refine ps_zret rfl rfl (Or.inl rfl) ?_
    refine kB1 (fun z => ?_) _ c1 (by rw [eK_w h7]; exact c2) c3
    rcases z.2 with z | z
    · exact e.1 z
    · omega
end KY
