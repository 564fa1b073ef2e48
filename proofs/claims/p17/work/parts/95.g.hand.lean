/-! BY HAND: what goes: drop, heal (printed by gen95g.py) -/
section IR
variable {ys : List Int32} {I : Nat → Nat → Int32} {L : Nat → Nat → Int64} {s : Nat → Option Nat} {Q : List Value → pm_H → Prop}
theorem nI_p (c : Nat) : nI (c + 1) - 1 = nI c := by
  rw [← iI_nat (c + 1), ← iI_nat c, show (1 : Int32) = iI 1 from rfl, iI_sub]
  congr 1
  omega
theorem row3 (r c : Nat) : nI r + 3 * nI c = nI (r + 3 * c) := by
  rw [show (3 : Int32) = nI 3 from rfl, pk_mul, nI_add]
/-- a place of now that is not its plate -/
theorem nowi_iv (iv : sx_IV xT xtg xPH (I, L, g_R s, 306)) {i lo hi : Nat} {b : Int × Int} {x : Int32} (h4 : ¬ i = 4) (hw : sx_wr (xsb (xtg 288)) (lo : Int) (hi : Int) b = true) (h1 : lo ≤ i) (h2 : i ≤ hi) (hi88 : hi ≤ 88) (x0 : b.1 ≤ x.toInt) (x9 : x.toInt ≤ b.2) : sx_IV xT xtg xPH (pm_u I 288 i x, L, g_R s, 306) ∧ sx_fr xtg xVP [(63, .ofNat 0, .ofNat 88)] (false, false) (I, L, g_R s, 306) (pm_u I 288 i x, L, g_R s, 306) := by
  have ro : ∀ a, ¬ a = 288 → ∀ j, pm_u I 288 i x a j = I a j := fun a ha j => pu_o ha
  refine ⟨iv_new iv (fun c j q hq k1 k2 => ?_) (xK_ag2 (fun a ha j => ro a (fun q => by rw [q] at ha; exact absurd ha (by decide)) j) (ro _ (by decide)) (ro _ (by decide)) (ro _ (by decide)) (ro _ (by decide) _) (ro _ (by decide) _) (ro _ (by decide) _) (ro _ (by decide)) (ro _ (by decide)) (ro _ (by decide) _) (fun h0 => ?_) iv.2.2.2.2.2), fun c j hn => ?_, fun _ l z k => xV_ag2 (ro _ (by decide) _) (ro _ (by decide) _) (ro _ (by decide)) (ro _ (by decide)) (ro _ (by decide)) (ro _ (by decide)) (ro _ (by decide)) (ro _ (by decide)) k, fun _ => rfl⟩
  · by_cases e : c = 288
    · subst e
      by_cases e2 : j = i
      · subst e2
        rw [pu_s]
        exact sx_wr_ok hw (by omega) (by omega) x0 x9 q hq k1 k2
      · rw [pu_n e2]
        exact iv.1 _ j q hq k1 k2
    · rw [ro c e]
      exact iv.1 c j q hq k1 k2
  · rw [ro _ (by decide)] at h0
    have q := iv.2.2.2.2.2.2.2.2.1 h0
    rw [pu_n (fun q => h4 q.symm), ro 275 (by decide)]
    refine ⟨q.1, fun j hj hj2 => ?_⟩
    rw [ro 275 (by decide)] at hj2
    rw [ro _ (by decide)]
    exact q.2 j hj hj2
  · show pm_u I 288 i x c j = I c j
    by_cases e : c = 288
    · subst e
      by_cases e2 : j = i
      · exact absurd (sx_wk_ok (lo := 0) (hi := 88) (by decide) (by omega) (by omega)) hn
      · exact pu_n e2
    · exact ro c e j
abbrev goW : sx_W := [(65, .ofNat 0, .ofNat 1067), (50, .ofNat 19, .ofNat 19), (63, .ofNat 0, .ofNat 88)]
theorem M_isThing0 {k : Int32} (kk : Q [.int (bI (decide ((0 : Int64) ≤ k.toInt64) && decide (k.toInt64 ≤ (I 288 0 - 1).toInt64)))] (I, L, g_R s, 306)) : pm_W (g_P ys) 218 0 [.ref 275, .int 0, .int k] [] (I, L, g_R s, 306) (0, 0) Q := by
  refine ps_iload rfl rfl ?_
  refine ps_ar rfl rfl rfl rfl rfl ?_
  refine pw_c rfl ?_
  refine ps_aload rfl rfl ?_
  refine ps_gfr 11 16 rfl rfl rfl rfl rfl (rfl) ?_
  refine ps_iload rfl rfl ?_
  refine pw_k rfl rfl rfl rfl ⟨Nat.zero_le _, Nat.zero_le _⟩ ?_
  refine M_manyOf0 ?_
  refine ps_iald (0) rfl rfl rfl (rfl) (by omega) ?_
  refine pw_c rfl ?_
  refine ps_ar rfl rfl rfl rfl rfl ?_
  refine ps_ar rfl rfl rfl rfl rfl ?_
  refine pw_k rfl rfl rfl rfl ⟨Nat.zero_le _, Nat.zero_le _⟩ ?_
  refine M_isIn ?_
  refine ps_zret rfl rfl (bI_01 _) ?_
  exact kk
theorem M_goes0 (iv : sx_IV xT xtg xPH (I, L, g_R s, 306)) {k c : Nat} (hc : I 288 0 = nI (c + 1)) (hc8 : c + 1 ≤ 8) (hk : k ≤ c) (kk : ∀ r h', sx_IV xT xtg xPH h' → sx_fr xtg xVP goW (false, false) (I, L, g_R s, 306) h' → Q [.int r] h') : pm_W (g_P ys) 225 0 [.ref 275, .int 0, .int (nI k), .retAddr 0] [] (I, L, g_R s, 306) (0, 0) Q := by
  have loop : ∀ d i, i + d = 5 + 3 * c → 5 ≤ i → ∀ I', sx_IV xT xtg xPH (I', L, g_R s, 306) → sx_fr xtg xVP goW (false, false) (I, L, g_R s, 306) (I', L, g_R s, 306) → I' 288 0 = nI c → pm_W (g_P ys) 225 26 [.ref 275, .int 0, .int (nI k), .int (nI i)] [] (I', L, g_R s, 306) (0, 0) Q := by
    intro d
    induction d with
    | zero =>
      intro i hi hi2 I' iv1 fr1 hc1
      have hi : i = 5 + 3 * c := by omega
      subst hi
      refine ps_iload rfl rfl ?_
      refine ps_iload rfl rfl ?_
      refine pw_k rfl rfl rfl rfl ⟨Nat.zero_le _, Nat.zero_le _⟩ ?_
      refine M_rowOf0 ?_
      refine pw_c rfl ?_
      refine ps_aload rfl rfl ?_
      refine ps_gfr 11 16 rfl rfl rfl rfl rfl (rfl) ?_
      refine ps_iload rfl rfl ?_
      refine pw_k rfl rfl rfl rfl ⟨Nat.zero_le _, Nat.zero_le _⟩ ?_
      refine M_manyOf0 ?_
      refine ps_iald (0) rfl rfl rfl (rfl) (by omega) ?_
      rw [show ((I', L, g_R s, 306) : pm_H).1 288 0 = nI c from hc1]
      refine ps_ar rfl rfl rfl rfl rfl ?_
      refine ps_ar rfl rfl rfl rfl rfl ?_
      rw [show (5 : Int32) + 3 * nI c = nI (5 + 3 * c) from row3 5 c]
      refine ps_icmpt rfl (decide_eq_true (Int32.le_refl _)) ?_
      refine ps_aload rfl rfl ?_
      refine ps_gfr 11 16 rfl rfl rfl rfl rfl (rfl) ?_
      refine ps_iload rfl rfl ?_
      refine pw_k rfl rfl rfl rfl ⟨Nat.zero_le _, Nat.zero_le _⟩ ?_
      refine M_manyOf0 ?_
      refine ps_iald (0) rfl rfl rfl (rfl) (by omega) ?_
      refine ps_iret rfl rfl ?_
      exact kk _ _ iv1 fr1
    | succ d ih =>
      intro i hi hi2 I' iv1 fr1 hc1
      refine ps_iload rfl rfl ?_
      refine ps_iload rfl rfl ?_
      refine pw_k rfl rfl rfl rfl ⟨Nat.zero_le _, Nat.zero_le _⟩ ?_
      refine M_rowOf0 ?_
      refine pw_c rfl ?_
      refine ps_aload rfl rfl ?_
      refine ps_gfr 11 16 rfl rfl rfl rfl rfl (rfl) ?_
      refine ps_iload rfl rfl ?_
      refine pw_k rfl rfl rfl rfl ⟨Nat.zero_le _, Nat.zero_le _⟩ ?_
      refine M_manyOf0 ?_
      refine ps_iald (0) rfl rfl rfl (rfl) (by omega) ?_
      rw [show ((I', L, g_R s, 306) : pm_H).1 288 0 = nI c from hc1]
      refine ps_ar rfl rfl rfl rfl rfl ?_
      refine ps_ar rfl rfl rfl rfl rfl ?_
      rw [show (5 : Int32) + 3 * nI c = nI (5 + 3 * c) from row3 5 c]
      have xb := iv1.1 288 (i + 3) (.ofNat 0, .ofNat 88, .ofNat 0, .ofNat 999) (by decide) (by show (0 : Int) ≤ _; omega) (by show _ ≤ (88 : Int); omega)
      obtain ⟨g1, g2⟩ := nowi_iv iv1 (i := i) (lo := 5) (hi := 88) (b := (0, 999)) (by omega) (by decide) (by omega) (by omega) (by omega) xb.1 xb.2
      refine ps_icmpf rfl (decide_eq_false (nI_ge (b := 5 + 3 * c) (by omega) (by omega))) ?_
      refine ps_aload rfl rfl ?_
      refine ps_gfr 11 16 rfl rfl rfl rfl rfl (rfl) ?_
      refine ps_iload rfl rfl ?_
      refine ps_aload rfl rfl ?_
      refine ps_gfr 11 16 rfl rfl rfl rfl rfl (rfl) ?_
      refine ps_iload rfl rfl ?_
      refine pw_c rfl ?_
      refine ps_ar rfl rfl rfl rfl rfl ?_
      refine ps_iald (i + 3) rfl rfl rfl (nI_add i 3) (by omega) ?_
      refine ps_iast (i) rfl rfl rfl (rfl) (by omega) ?_
      refine ps_iinc rfl rfl ?_
      refine ps_goto rfl ?_
      rw [show nI i + Int32.ofInt 1 = nI (i + 1) from nI_1 i]
      exact ih (i + 1) (by omega) (by omega) _ g1 (sx_fr_trans fr1 (fr_wk (by decide) g2)) (by rw [pu_n (by omega)]; exact hc1)
  obtain ⟨m, hm, hm12⟩ := past_n iv
  refine ps_aload rfl rfl ?_
  refine pw_k rfl rfl rfl rfl ⟨Nat.zero_le _, Nat.zero_le _⟩ ?_
  refine M_remembers hm hm12 ?_
  intro I' ag hr hp
  obtain ⟨g1, g2⟩ := rem_iv iv hm hm12 ag hr hp
  have hc1 : I' 288 0 = nI (c + 1) := by rw [ag _ _ (by decide) (by decide)]; exact hc
  have tc := nI_toInt (n := c) (by omega)
  obtain ⟨g3, g4⟩ := nowi_iv g1 (i := 0) (lo := 0) (hi := 0) (b := (0, 8)) (x := nI c) (by omega) (by decide) (by omega) (by omega) (by omega) (by show (0 : Int) ≤ _; omega) (by show _ ≤ (8 : Int); omega)
  refine ps_aload rfl rfl ?_
  refine ps_gfr 11 16 rfl rfl rfl rfl rfl (rfl) ?_
  refine ps_iload rfl rfl ?_
  refine pw_k rfl rfl rfl rfl ⟨Nat.zero_le _, Nat.zero_le _⟩ ?_
  refine M_manyOf0 ?_
  refine ps_ar rfl rfl rfl rfl rfl ?_
  refine ps_iald (0) rfl rfl rfl (rfl) (by omega) ?_
  rw [show ((I', L, g_R s, 306) : pm_H).1 288 0 = nI (c + 1) from hc1]
  refine pw_c rfl ?_
  refine ps_ar rfl rfl rfl rfl rfl ?_
  rw [show nI (c + 1) - 1 = nI c from nI_p c]
  refine ps_iast (0) rfl rfl rfl (rfl) (by omega) ?_
  refine ps_iload rfl rfl ?_
  refine pw_k rfl rfl rfl rfl ⟨Nat.zero_le _, Nat.zero_le _⟩ ?_
  refine M_rowOf0 ?_
  refine pw_c rfl ?_
  refine ps_iload rfl rfl ?_
  refine ps_ar rfl rfl rfl rfl rfl ?_
  refine ps_ar rfl rfl rfl rfl rfl ?_
  rw [show (5 : Int32) + 3 * nI k = nI (5 + 3 * k) from row3 5 k]
  refine ps_istore rfl rfl ?_
  exact loop (3 * (c - k)) (5 + 3 * k) (by omega) (by omega) _ g3 (sx_fr_trans (fr_wk (by decide) g2) (fr_wk (by decide) g4)) pu_s
theorem M_isThing1 {k : Int32} (kk : Q [.int (bI (decide ((0 : Int64) ≤ k.toInt64) && decide (k.toInt64 ≤ (I 288 1 - 1).toInt64)))] (I, L, g_R s, 306)) : pm_W (g_P ys) 218 0 [.ref 275, .int 1, .int k] [] (I, L, g_R s, 306) (0, 0) Q := by
  refine ps_iload rfl rfl ?_
  refine ps_ar rfl rfl rfl rfl rfl ?_
  refine pw_c rfl ?_
  refine ps_aload rfl rfl ?_
  refine ps_gfr 11 16 rfl rfl rfl rfl rfl (rfl) ?_
  refine ps_iload rfl rfl ?_
  refine pw_k rfl rfl rfl rfl ⟨Nat.zero_le _, Nat.zero_le _⟩ ?_
  refine M_manyOf1 ?_
  refine ps_iald (1) rfl rfl rfl (rfl) (by omega) ?_
  refine pw_c rfl ?_
  refine ps_ar rfl rfl rfl rfl rfl ?_
  refine ps_ar rfl rfl rfl rfl rfl ?_
  refine pw_k rfl rfl rfl rfl ⟨Nat.zero_le _, Nat.zero_le _⟩ ?_
  refine M_isIn ?_
  refine ps_zret rfl rfl (bI_01 _) ?_
  exact kk
theorem M_goes1 (iv : sx_IV xT xtg xPH (I, L, g_R s, 306)) {k c : Nat} (hc : I 288 1 = nI (c + 1)) (hc8 : c + 1 ≤ 12) (hk : k ≤ c) (kk : ∀ r h', sx_IV xT xtg xPH h' → sx_fr xtg xVP goW (false, false) (I, L, g_R s, 306) h' → Q [.int r] h') : pm_W (g_P ys) 225 0 [.ref 275, .int 1, .int (nI k), .retAddr 0] [] (I, L, g_R s, 306) (0, 0) Q := by
  have loop : ∀ d i, i + d = 29 + 3 * c → 29 ≤ i → ∀ I', sx_IV xT xtg xPH (I', L, g_R s, 306) → sx_fr xtg xVP goW (false, false) (I, L, g_R s, 306) (I', L, g_R s, 306) → I' 288 1 = nI c → pm_W (g_P ys) 225 26 [.ref 275, .int 1, .int (nI k), .int (nI i)] [] (I', L, g_R s, 306) (0, 0) Q := by
    intro d
    induction d with
    | zero =>
      intro i hi hi2 I' iv1 fr1 hc1
      have hi : i = 29 + 3 * c := by omega
      subst hi
      refine ps_iload rfl rfl ?_
      refine ps_iload rfl rfl ?_
      refine pw_k rfl rfl rfl rfl ⟨Nat.zero_le _, Nat.zero_le _⟩ ?_
      refine M_rowOf1 ?_
      refine pw_c rfl ?_
      refine ps_aload rfl rfl ?_
      refine ps_gfr 11 16 rfl rfl rfl rfl rfl (rfl) ?_
      refine ps_iload rfl rfl ?_
      refine pw_k rfl rfl rfl rfl ⟨Nat.zero_le _, Nat.zero_le _⟩ ?_
      refine M_manyOf1 ?_
      refine ps_iald (1) rfl rfl rfl (rfl) (by omega) ?_
      rw [show ((I', L, g_R s, 306) : pm_H).1 288 1 = nI c from hc1]
      refine ps_ar rfl rfl rfl rfl rfl ?_
      refine ps_ar rfl rfl rfl rfl rfl ?_
      rw [show (29 : Int32) + 3 * nI c = nI (29 + 3 * c) from row3 29 c]
      refine ps_icmpt rfl (decide_eq_true (Int32.le_refl _)) ?_
      refine ps_aload rfl rfl ?_
      refine ps_gfr 11 16 rfl rfl rfl rfl rfl (rfl) ?_
      refine ps_iload rfl rfl ?_
      refine pw_k rfl rfl rfl rfl ⟨Nat.zero_le _, Nat.zero_le _⟩ ?_
      refine M_manyOf1 ?_
      refine ps_iald (1) rfl rfl rfl (rfl) (by omega) ?_
      refine ps_iret rfl rfl ?_
      exact kk _ _ iv1 fr1
    | succ d ih =>
      intro i hi hi2 I' iv1 fr1 hc1
      refine ps_iload rfl rfl ?_
      refine ps_iload rfl rfl ?_
      refine pw_k rfl rfl rfl rfl ⟨Nat.zero_le _, Nat.zero_le _⟩ ?_
      refine M_rowOf1 ?_
      refine pw_c rfl ?_
      refine ps_aload rfl rfl ?_
      refine ps_gfr 11 16 rfl rfl rfl rfl rfl (rfl) ?_
      refine ps_iload rfl rfl ?_
      refine pw_k rfl rfl rfl rfl ⟨Nat.zero_le _, Nat.zero_le _⟩ ?_
      refine M_manyOf1 ?_
      refine ps_iald (1) rfl rfl rfl (rfl) (by omega) ?_
      rw [show ((I', L, g_R s, 306) : pm_H).1 288 1 = nI c from hc1]
      refine ps_ar rfl rfl rfl rfl rfl ?_
      refine ps_ar rfl rfl rfl rfl rfl ?_
      rw [show (29 : Int32) + 3 * nI c = nI (29 + 3 * c) from row3 29 c]
      have xb := iv1.1 288 (i + 3) (.ofNat 0, .ofNat 88, .ofNat 0, .ofNat 999) (by decide) (by show (0 : Int) ≤ _; omega) (by show _ ≤ (88 : Int); omega)
      obtain ⟨g1, g2⟩ := nowi_iv iv1 (i := i) (lo := 5) (hi := 88) (b := (0, 999)) (by omega) (by decide) (by omega) (by omega) (by omega) xb.1 xb.2
      refine ps_icmpf rfl (decide_eq_false (nI_ge (b := 29 + 3 * c) (by omega) (by omega))) ?_
      refine ps_aload rfl rfl ?_
      refine ps_gfr 11 16 rfl rfl rfl rfl rfl (rfl) ?_
      refine ps_iload rfl rfl ?_
      refine ps_aload rfl rfl ?_
      refine ps_gfr 11 16 rfl rfl rfl rfl rfl (rfl) ?_
      refine ps_iload rfl rfl ?_
      refine pw_c rfl ?_
      refine ps_ar rfl rfl rfl rfl rfl ?_
      refine ps_iald (i + 3) rfl rfl rfl (nI_add i 3) (by omega) ?_
      refine ps_iast (i) rfl rfl rfl (rfl) (by omega) ?_
      refine ps_iinc rfl rfl ?_
      refine ps_goto rfl ?_
      rw [show nI i + Int32.ofInt 1 = nI (i + 1) from nI_1 i]
      exact ih (i + 1) (by omega) (by omega) _ g1 (sx_fr_trans fr1 (fr_wk (by decide) g2)) (by rw [pu_n (by omega)]; exact hc1)
  obtain ⟨m, hm, hm12⟩ := past_n iv
  refine ps_aload rfl rfl ?_
  refine pw_k rfl rfl rfl rfl ⟨Nat.zero_le _, Nat.zero_le _⟩ ?_
  refine M_remembers hm hm12 ?_
  intro I' ag hr hp
  obtain ⟨g1, g2⟩ := rem_iv iv hm hm12 ag hr hp
  have hc1 : I' 288 1 = nI (c + 1) := by rw [ag _ _ (by decide) (by decide)]; exact hc
  have tc := nI_toInt (n := c) (by omega)
  obtain ⟨g3, g4⟩ := nowi_iv g1 (i := 1) (lo := 1) (hi := 1) (b := (0, 12)) (x := nI c) (by omega) (by decide) (by omega) (by omega) (by omega) (by show (0 : Int) ≤ _; omega) (by show _ ≤ (12 : Int); omega)
  refine ps_aload rfl rfl ?_
  refine ps_gfr 11 16 rfl rfl rfl rfl rfl (rfl) ?_
  refine ps_iload rfl rfl ?_
  refine pw_k rfl rfl rfl rfl ⟨Nat.zero_le _, Nat.zero_le _⟩ ?_
  refine M_manyOf1 ?_
  refine ps_ar rfl rfl rfl rfl rfl ?_
  refine ps_iald (1) rfl rfl rfl (rfl) (by omega) ?_
  rw [show ((I', L, g_R s, 306) : pm_H).1 288 1 = nI (c + 1) from hc1]
  refine pw_c rfl ?_
  refine ps_ar rfl rfl rfl rfl rfl ?_
  rw [show nI (c + 1) - 1 = nI c from nI_p c]
  refine ps_iast (1) rfl rfl rfl (rfl) (by omega) ?_
  refine ps_iload rfl rfl ?_
  refine pw_k rfl rfl rfl rfl ⟨Nat.zero_le _, Nat.zero_le _⟩ ?_
  refine M_rowOf1 ?_
  refine pw_c rfl ?_
  refine ps_iload rfl rfl ?_
  refine ps_ar rfl rfl rfl rfl rfl ?_
  refine ps_ar rfl rfl rfl rfl rfl ?_
  rw [show (29 : Int32) + 3 * nI k = nI (29 + 3 * k) from row3 29 k]
  refine ps_istore rfl rfl ?_
  exact loop (3 * (c - k)) (29 + 3 * k) (by omega) (by omega) _ g3 (sx_fr_trans (fr_wk (by decide) g2) (fr_wk (by decide) g4)) pu_s
theorem M_isThing2 {k : Int32} (kk : Q [.int (bI (decide ((0 : Int64) ≤ k.toInt64) && decide (k.toInt64 ≤ (I 288 2 - 1).toInt64)))] (I, L, g_R s, 306)) : pm_W (g_P ys) 218 0 [.ref 275, .int 2, .int k] [] (I, L, g_R s, 306) (0, 0) Q := by
  refine ps_iload rfl rfl ?_
  refine ps_ar rfl rfl rfl rfl rfl ?_
  refine pw_c rfl ?_
  refine ps_aload rfl rfl ?_
  refine ps_gfr 11 16 rfl rfl rfl rfl rfl (rfl) ?_
  refine ps_iload rfl rfl ?_
  refine pw_k rfl rfl rfl rfl ⟨Nat.zero_le _, Nat.zero_le _⟩ ?_
  refine M_manyOf2 ?_
  refine ps_iald (2) rfl rfl rfl (rfl) (by omega) ?_
  refine pw_c rfl ?_
  refine ps_ar rfl rfl rfl rfl rfl ?_
  refine ps_ar rfl rfl rfl rfl rfl ?_
  refine pw_k rfl rfl rfl rfl ⟨Nat.zero_le _, Nat.zero_le _⟩ ?_
  refine M_isIn ?_
  refine ps_zret rfl rfl (bI_01 _) ?_
  exact kk
theorem M_goes2 (iv : sx_IV xT xtg xPH (I, L, g_R s, 306)) {k c : Nat} (hc : I 288 2 = nI (c + 1)) (hc8 : c + 1 ≤ 8) (hk : k ≤ c) (kk : ∀ r h', sx_IV xT xtg xPH h' → sx_fr xtg xVP goW (false, false) (I, L, g_R s, 306) h' → Q [.int r] h') : pm_W (g_P ys) 225 0 [.ref 275, .int 2, .int (nI k), .retAddr 0] [] (I, L, g_R s, 306) (0, 0) Q := by
  have loop : ∀ d i, i + d = 65 + 3 * c → 65 ≤ i → ∀ I', sx_IV xT xtg xPH (I', L, g_R s, 306) → sx_fr xtg xVP goW (false, false) (I, L, g_R s, 306) (I', L, g_R s, 306) → I' 288 2 = nI c → pm_W (g_P ys) 225 26 [.ref 275, .int 2, .int (nI k), .int (nI i)] [] (I', L, g_R s, 306) (0, 0) Q := by
    intro d
    induction d with
    | zero =>
      intro i hi hi2 I' iv1 fr1 hc1
      have hi : i = 65 + 3 * c := by omega
      subst hi
      refine ps_iload rfl rfl ?_
      refine ps_iload rfl rfl ?_
      refine pw_k rfl rfl rfl rfl ⟨Nat.zero_le _, Nat.zero_le _⟩ ?_
      refine M_rowOf2 ?_
      refine pw_c rfl ?_
      refine ps_aload rfl rfl ?_
      refine ps_gfr 11 16 rfl rfl rfl rfl rfl (rfl) ?_
      refine ps_iload rfl rfl ?_
      refine pw_k rfl rfl rfl rfl ⟨Nat.zero_le _, Nat.zero_le _⟩ ?_
      refine M_manyOf2 ?_
      refine ps_iald (2) rfl rfl rfl (rfl) (by omega) ?_
      rw [show ((I', L, g_R s, 306) : pm_H).1 288 2 = nI c from hc1]
      refine ps_ar rfl rfl rfl rfl rfl ?_
      refine ps_ar rfl rfl rfl rfl rfl ?_
      rw [show (65 : Int32) + 3 * nI c = nI (65 + 3 * c) from row3 65 c]
      refine ps_icmpt rfl (decide_eq_true (Int32.le_refl _)) ?_
      refine ps_aload rfl rfl ?_
      refine ps_gfr 11 16 rfl rfl rfl rfl rfl (rfl) ?_
      refine ps_iload rfl rfl ?_
      refine pw_k rfl rfl rfl rfl ⟨Nat.zero_le _, Nat.zero_le _⟩ ?_
      refine M_manyOf2 ?_
      refine ps_iald (2) rfl rfl rfl (rfl) (by omega) ?_
      refine ps_iret rfl rfl ?_
      exact kk _ _ iv1 fr1
    | succ d ih =>
      intro i hi hi2 I' iv1 fr1 hc1
      refine ps_iload rfl rfl ?_
      refine ps_iload rfl rfl ?_
      refine pw_k rfl rfl rfl rfl ⟨Nat.zero_le _, Nat.zero_le _⟩ ?_
      refine M_rowOf2 ?_
      refine pw_c rfl ?_
      refine ps_aload rfl rfl ?_
      refine ps_gfr 11 16 rfl rfl rfl rfl rfl (rfl) ?_
      refine ps_iload rfl rfl ?_
      refine pw_k rfl rfl rfl rfl ⟨Nat.zero_le _, Nat.zero_le _⟩ ?_
      refine M_manyOf2 ?_
      refine ps_iald (2) rfl rfl rfl (rfl) (by omega) ?_
      rw [show ((I', L, g_R s, 306) : pm_H).1 288 2 = nI c from hc1]
      refine ps_ar rfl rfl rfl rfl rfl ?_
      refine ps_ar rfl rfl rfl rfl rfl ?_
      rw [show (65 : Int32) + 3 * nI c = nI (65 + 3 * c) from row3 65 c]
      have xb := iv1.1 288 (i + 3) (.ofNat 0, .ofNat 88, .ofNat 0, .ofNat 999) (by decide) (by show (0 : Int) ≤ _; omega) (by show _ ≤ (88 : Int); omega)
      obtain ⟨g1, g2⟩ := nowi_iv iv1 (i := i) (lo := 5) (hi := 88) (b := (0, 999)) (by omega) (by decide) (by omega) (by omega) (by omega) xb.1 xb.2
      refine ps_icmpf rfl (decide_eq_false (nI_ge (b := 65 + 3 * c) (by omega) (by omega))) ?_
      refine ps_aload rfl rfl ?_
      refine ps_gfr 11 16 rfl rfl rfl rfl rfl (rfl) ?_
      refine ps_iload rfl rfl ?_
      refine ps_aload rfl rfl ?_
      refine ps_gfr 11 16 rfl rfl rfl rfl rfl (rfl) ?_
      refine ps_iload rfl rfl ?_
      refine pw_c rfl ?_
      refine ps_ar rfl rfl rfl rfl rfl ?_
      refine ps_iald (i + 3) rfl rfl rfl (nI_add i 3) (by omega) ?_
      refine ps_iast (i) rfl rfl rfl (rfl) (by omega) ?_
      refine ps_iinc rfl rfl ?_
      refine ps_goto rfl ?_
      rw [show nI i + Int32.ofInt 1 = nI (i + 1) from nI_1 i]
      exact ih (i + 1) (by omega) (by omega) _ g1 (sx_fr_trans fr1 (fr_wk (by decide) g2)) (by rw [pu_n (by omega)]; exact hc1)
  obtain ⟨m, hm, hm12⟩ := past_n iv
  refine ps_aload rfl rfl ?_
  refine pw_k rfl rfl rfl rfl ⟨Nat.zero_le _, Nat.zero_le _⟩ ?_
  refine M_remembers hm hm12 ?_
  intro I' ag hr hp
  obtain ⟨g1, g2⟩ := rem_iv iv hm hm12 ag hr hp
  have hc1 : I' 288 2 = nI (c + 1) := by rw [ag _ _ (by decide) (by decide)]; exact hc
  have tc := nI_toInt (n := c) (by omega)
  obtain ⟨g3, g4⟩ := nowi_iv g1 (i := 2) (lo := 2) (hi := 2) (b := (0, 8)) (x := nI c) (by omega) (by decide) (by omega) (by omega) (by omega) (by show (0 : Int) ≤ _; omega) (by show _ ≤ (8 : Int); omega)
  refine ps_aload rfl rfl ?_
  refine ps_gfr 11 16 rfl rfl rfl rfl rfl (rfl) ?_
  refine ps_iload rfl rfl ?_
  refine pw_k rfl rfl rfl rfl ⟨Nat.zero_le _, Nat.zero_le _⟩ ?_
  refine M_manyOf2 ?_
  refine ps_ar rfl rfl rfl rfl rfl ?_
  refine ps_iald (2) rfl rfl rfl (rfl) (by omega) ?_
  rw [show ((I', L, g_R s, 306) : pm_H).1 288 2 = nI (c + 1) from hc1]
  refine pw_c rfl ?_
  refine ps_ar rfl rfl rfl rfl rfl ?_
  rw [show nI (c + 1) - 1 = nI c from nI_p c]
  refine ps_iast (2) rfl rfl rfl (rfl) (by omega) ?_
  refine ps_iload rfl rfl ?_
  refine pw_k rfl rfl rfl rfl ⟨Nat.zero_le _, Nat.zero_le _⟩ ?_
  refine M_rowOf2 ?_
  refine pw_c rfl ?_
  refine ps_iload rfl rfl ?_
  refine ps_ar rfl rfl rfl rfl rfl ?_
  refine ps_ar rfl rfl rfl rfl rfl ?_
  rw [show (65 : Int32) + 3 * nI k = nI (65 + 3 * k) from row3 65 k]
  refine ps_istore rfl rfl ?_
  exact loop (3 * (c - k)) (65 + 3 * k) (by omega) (by omega) _ g3 (sx_fr_trans (fr_wk (by decide) g2) (fr_wk (by decide) g4)) pu_s
theorem k_heal : xk ys kh_227_0 := by
  intro h vs Q iv va fa kk
  obtain ⟨I, L, s, rfl⟩ := x_form iv
  obtain ⟨_, c1, rfl, ⟨a, rfl, ha, _⟩, va1⟩ := vas_c va
  obtain ⟨_, c2, rfl, ⟨x, rfl, _⟩, va2⟩ := vas_c va1
  cases vas_n va2
  cases ref_M ha
  have no : ∀ y : Int32, 0 ≤ y.toInt → y.toInt ≤ 9 → ¬ y = 0 → pm_W (g_P ys) 227 15 [.ref 275, .int x] [.int y, .ref 275] (I, L, g_R s, 306) (0, 0) Q := by
    intro y h1 h2 h3
    obtain ⟨g1, g2⟩ := is_iv iv h1 h2
    refine pw_k rfl rfl rfl rfl ⟨Nat.zero_le _, Nat.zero_le _⟩ ?_
    refine M_is ?_
    rw [decide_eq_false h3]
    refine ps_ift rfl (by decide) ?_
    refine pw_c rfl ?_
    refine ps_iret rfl rfl ?_
    exact kk _ _ g1 (fr_wk (by decide) g2) ⟨_, List.mem_cons_self, po_f⟩
  have nb := iv.1 288 1 (.ofNat 1, .ofNat 1, .ofNat 0, .ofNat 12) (by decide) (by decide) (by decide)
  have nb1 : (0 : Int) ≤ (I 288 1).toInt := nb.1
  have nb2 : (I 288 1).toInt ≤ 12 := nb.2
  refine ps_aload rfl rfl ?_
  refine ps_aload rfl rfl ?_
  refine pw_c rfl ?_
  refine ps_iload rfl rfl ?_
  refine pw_k rfl rfl rfl rfl ⟨Nat.zero_le _, Nat.zero_le _⟩ ?_
  refine M_isThing1 ?_
  have e : (I 288 1 - 1).toInt64.toInt = (I 288 1).toInt - 1 := by
    have e1 : I 288 1 - 1 = iI ((I 288 1).toInt - 1) := by
      rw [← iI_sub, ← iI_of]
      rfl
    rw [Int32.toInt_toInt64, e1, iI_toInt (by omega) (by omega)]
  cases d : (decide ((0 : Int64) ≤ x.toInt64) && decide (x.toInt64 ≤ (I 288 1 - 1).toInt64)) with
  | false =>
    refine ps_ift rfl (by decide) ?_
    refine pw_c rfl ?_
    exact no 2 (by decide) (by decide) (by decide)
  | true =>
    rw [Bool.and_eq_true, decide_eq_true_iff, decide_eq_true_iff] at d
    have d1 := Int64.le_iff_toInt_le.mp d.1
    have d2 := Int64.le_iff_toInt_le.mp d.2
    rw [e, Int32.toInt_toInt64] at d2
    rw [Int32.toInt_toInt64] at d1
    have d1' : (0 : Int) ≤ x.toInt := d1
    obtain ⟨n, hn⟩ : ∃ n : Nat, x.toInt = (n : Int) := ⟨x.toInt.toNat, by omega⟩
    obtain ⟨c, hc⟩ : ∃ c : Nat, (I 288 1).toInt = ((c + 1 : Nat) : Int) := ⟨(I 288 1).toInt.toNat - 1, by omega⟩
    have hc' : I 288 1 = nI (c + 1) := i_nat hc
    cases i_nat hn
    obtain ⟨g1, g2⟩ := is_iv iv (a := 0) (by decide) (by decide)
    refine ps_iff rfl (by decide) ?_
    refine pw_c rfl ?_
    refine ps_goto rfl ?_
    refine pw_k rfl rfl rfl rfl ⟨Nat.zero_le _, Nat.zero_le _⟩ ?_
    refine M_is ?_
    refine ps_iff rfl (by decide) ?_
    refine ps_aload rfl rfl ?_
    refine pw_c rfl ?_
    refine ps_iload rfl rfl ?_
    refine pw_k rfl rfl rfl rfl ⟨Nat.zero_le _, Nat.zero_le _⟩ ?_
    refine M_goes1 g1 (k := n) (c := c) hc' (by omega) (by omega) ?_
    intro r h' g3 g4
    refine ps_goto rfl ?_
    refine ps_iret rfl rfl ?_
    exact kk _ _ g3 (sx_fr_trans (fr_wk (by decide) g2) (fr_wk (by decide) g4)) ⟨_, List.mem_cons_self, po_f⟩
theorem k_drop : xk ys kh_224_0 := by
  intro h vs Q iv va fa kk
  obtain ⟨I, L, s, rfl⟩ := x_form iv
  obtain ⟨_, c1, rfl, ⟨a, rfl, ha, _⟩, va1⟩ := vas_c va
  obtain ⟨_, c2, rfl, ⟨ki, rfl, _⟩, va2⟩ := vas_c va1
  obtain ⟨_, c3, rfl, ⟨x, rfl, _⟩, va3⟩ := vas_c va2
  cases vas_n va3
  cases ref_M ha
  have no : ∀ y : Int32, 0 ≤ y.toInt → y.toInt ≤ 9 → ¬ y = 0 → pm_W (g_P ys) 224 28 [.ref 275, .int ki, .int x] [.int y, .ref 275] (I, L, g_R s, 306) (0, 0) Q := by
    intro y h1 h2 h3
    obtain ⟨g1, g2⟩ := is_iv iv h1 h2
    refine pw_k rfl rfl rfl rfl ⟨Nat.zero_le _, Nat.zero_le _⟩ ?_
    refine M_is ?_
    rw [decide_eq_false h3]
    refine ps_ift rfl (by decide) ?_
    refine pw_c rfl ?_
    refine ps_iret rfl rfl ?_
    exact kk _ _ g1 (fr_wk (by decide) g2) ⟨_, List.mem_cons_self, po_f⟩
  by_cases k0 : ki = 0
  · cases k0
    refine ps_aload rfl rfl ?_
    refine ps_iload rfl rfl ?_
    refine ps_ift rfl (by decide) ?_
    have nb := iv.1 288 0 (.ofNat 0, .ofNat 0, .ofNat 0, .ofNat 8) (by decide) (by decide) (by decide)
    have nb1 : (0 : Int) ≤ (I 288 0).toInt := nb.1
    have nb2 : (I 288 0).toInt ≤ 8 := nb.2
    refine ps_aload rfl rfl ?_
    refine ps_iload rfl rfl ?_
    refine ps_iload rfl rfl ?_
    refine pw_k rfl rfl rfl rfl ⟨Nat.zero_le _, Nat.zero_le _⟩ ?_
    refine M_isThing0 ?_
    have e : (I 288 0 - 1).toInt64.toInt = (I 288 0).toInt - 1 := by
      have e1 : I 288 0 - 1 = iI ((I 288 0).toInt - 1) := by
        rw [← iI_sub, ← iI_of]
        rfl
      rw [Int32.toInt_toInt64, e1, iI_toInt (by omega) (by omega)]
    cases d : (decide ((0 : Int64) ≤ x.toInt64) && decide (x.toInt64 ≤ (I 288 0 - 1).toInt64)) with
    | false =>
      refine ps_ift rfl (by decide) ?_
      refine pw_c rfl ?_
      exact no 2 (by decide) (by decide) (by decide)
    | true =>
      rw [Bool.and_eq_true, decide_eq_true_iff, decide_eq_true_iff] at d
      have d1 := Int64.le_iff_toInt_le.mp d.1
      have d2 := Int64.le_iff_toInt_le.mp d.2
      rw [e, Int32.toInt_toInt64] at d2
      rw [Int32.toInt_toInt64] at d1
      have d1' : (0 : Int) ≤ x.toInt := d1
      obtain ⟨n, hn⟩ : ∃ n : Nat, x.toInt = (n : Int) := ⟨x.toInt.toNat, by omega⟩
      obtain ⟨c, hc⟩ : ∃ c : Nat, (I 288 0).toInt = ((c + 1 : Nat) : Int) := ⟨(I 288 0).toInt.toNat - 1, by omega⟩
      have hc' : I 288 0 = nI (c + 1) := i_nat hc
      cases i_nat hn
      obtain ⟨g1, g2⟩ := is_iv iv (a := 0) (by decide) (by decide)
      refine ps_iff rfl (by decide) ?_
      refine pw_c rfl ?_
      refine ps_goto rfl ?_
      refine pw_k rfl rfl rfl rfl ⟨Nat.zero_le _, Nat.zero_le _⟩ ?_
      refine M_is ?_
      refine ps_iff rfl (by decide) ?_
      refine ps_aload rfl rfl ?_
      refine ps_iload rfl rfl ?_
      refine ps_iload rfl rfl ?_
      refine pw_k rfl rfl rfl rfl ⟨Nat.zero_le _, Nat.zero_le _⟩ ?_
      refine M_goes0 g1 (k := n) (c := c) hc' (by omega) (by omega) ?_
      intro r h' g3 g4
      refine ps_goto rfl ?_
      refine ps_iret rfl rfl ?_
      exact kk _ _ g3 (sx_fr_trans (fr_wk (by decide) g2) (fr_wk (by decide) g4)) ⟨_, List.mem_cons_self, po_f⟩
  by_cases k2 : ki = 2
  · cases k2
    refine ps_aload rfl rfl ?_
    refine ps_iload rfl rfl ?_
    refine ps_iff rfl (by decide) ?_
    refine ps_iload rfl rfl ?_
    refine pw_c rfl ?_
    refine ps_icmpt rfl (by decide) ?_
    have nb := iv.1 288 2 (.ofNat 2, .ofNat 2, .ofNat 0, .ofNat 8) (by decide) (by decide) (by decide)
    have nb1 : (0 : Int) ≤ (I 288 2).toInt := nb.1
    have nb2 : (I 288 2).toInt ≤ 8 := nb.2
    refine ps_aload rfl rfl ?_
    refine ps_iload rfl rfl ?_
    refine ps_iload rfl rfl ?_
    refine pw_k rfl rfl rfl rfl ⟨Nat.zero_le _, Nat.zero_le _⟩ ?_
    refine M_isThing2 ?_
    have e : (I 288 2 - 1).toInt64.toInt = (I 288 2).toInt - 1 := by
      have e1 : I 288 2 - 1 = iI ((I 288 2).toInt - 1) := by
        rw [← iI_sub, ← iI_of]
        rfl
      rw [Int32.toInt_toInt64, e1, iI_toInt (by omega) (by omega)]
    cases d : (decide ((0 : Int64) ≤ x.toInt64) && decide (x.toInt64 ≤ (I 288 2 - 1).toInt64)) with
    | false =>
      refine ps_ift rfl (by decide) ?_
      refine pw_c rfl ?_
      exact no 2 (by decide) (by decide) (by decide)
    | true =>
      rw [Bool.and_eq_true, decide_eq_true_iff, decide_eq_true_iff] at d
      have d1 := Int64.le_iff_toInt_le.mp d.1
      have d2 := Int64.le_iff_toInt_le.mp d.2
      rw [e, Int32.toInt_toInt64] at d2
      rw [Int32.toInt_toInt64] at d1
      have d1' : (0 : Int) ≤ x.toInt := d1
      obtain ⟨n, hn⟩ : ∃ n : Nat, x.toInt = (n : Int) := ⟨x.toInt.toNat, by omega⟩
      obtain ⟨c, hc⟩ : ∃ c : Nat, (I 288 2).toInt = ((c + 1 : Nat) : Int) := ⟨(I 288 2).toInt.toNat - 1, by omega⟩
      have hc' : I 288 2 = nI (c + 1) := i_nat hc
      cases i_nat hn
      obtain ⟨g1, g2⟩ := is_iv iv (a := 0) (by decide) (by decide)
      refine ps_iff rfl (by decide) ?_
      refine pw_c rfl ?_
      refine ps_goto rfl ?_
      refine pw_k rfl rfl rfl rfl ⟨Nat.zero_le _, Nat.zero_le _⟩ ?_
      refine M_is ?_
      refine ps_iff rfl (by decide) ?_
      refine ps_aload rfl rfl ?_
      refine ps_iload rfl rfl ?_
      refine ps_iload rfl rfl ?_
      refine pw_k rfl rfl rfl rfl ⟨Nat.zero_le _, Nat.zero_le _⟩ ?_
      refine M_goes2 g1 (k := n) (c := c) hc' (by omega) (by omega) ?_
      intro r h' g3 g4
      refine ps_goto rfl ?_
      refine ps_iret rfl rfl ?_
      exact kk _ _ g3 (sx_fr_trans (fr_wk (by decide) g2) (fr_wk (by decide) g4)) ⟨_, List.mem_cons_self, po_f⟩
  refine ps_aload rfl rfl ?_
  refine ps_iload rfl rfl ?_
  refine ps_iff rfl (decide_eq_false k0) ?_
  refine ps_iload rfl rfl ?_
  refine pw_c rfl ?_
  refine ps_icmpf rfl (decide_eq_false k2) ?_
  refine pw_c rfl ?_
  refine ps_goto rfl ?_
  exact no 1 (by decide) (by decide) (by decide)
end IR
