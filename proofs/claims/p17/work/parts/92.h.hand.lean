/-! BY HAND: what was, second: remembers -/
section HU
variable {ys : List Int32} {I : Nat → Nat → Int32} {L : Nat → Nat → Int64} {s : Nat → Option Nat} {Q : List Value → pm_H → Prop} {m : Nat}
/-- what was, behind remembers: the row; how many -/
def rmR (I : Nat → Nat → Int32) (m j : Nat) : Int32 := if m < 12 then (if 89 * m ≤ j ∧ j < 89 * m + 89 then I 288 (j - 89 * m) else I 290 j) else (if 979 ≤ j ∧ j < 1068 then I 288 (j - 979) else if j < 979 then I 290 (j + 89) else I 290 j)
def rmM (m : Nat) : Nat := if m < 12 then m + 1 else 12
/-- all but what was stays -/
def pAg (I I' : Nat → Nat → Int32) : Prop := ∀ a j : Nat, ¬ a = 290 → ¬ (a = 275 ∧ j = 19) → I' a j = I a j
theorem M_remembers (hm : I 275 19 = nI m) (hm12 : m ≤ 12) (kk : ∀ I', pAg I I' → (∀ j, I' 290 j = rmR I m j) → I' 275 19 = nI (rmM m) → Q [] (I', L, g_R s, 306)) : pm_W (g_P ys) 223 0 [.ref 275, .retAddr 0] [] (I, L, g_R s, 306) (0, 0) Q := by
  have loop2 : ∀ (J : Nat → Int32) (n : Nat), n < 12 → (∀ j, (if 89 * n ≤ j ∧ j < 89 * n + 89 then I 288 (j - 89 * n) else J j) = rmR I m j) → n + 1 = rmM m → ∀ d i, i + d = 89 → ∀ I', pAg I I' → (∀ j, I' 290 j = if 89 * n ≤ j ∧ j < 89 * n + i then I 288 (j - 89 * n) else J j) → I' 275 19 = nI n → pm_W (g_P ys) 223 51 [.ref 275, .int (nI i)] [] (I', L, g_R s, 306) (0, 0) Q := by
    intro J n hn hJ hrm d
    induction d with
    | zero =>
      intro i hi I' ag hr hp
      refine ps_iload rfl rfl ?_
      refine pw_c rfl ?_
      refine ps_icmpt rfl (decide_eq_true (nI_le (a := 89) (by omega) (by omega))) ?_
      refine ps_aload rfl rfl ?_
      refine ps_ar rfl rfl rfl rfl rfl ?_
      refine ps_gfi 11 19 rfl rfl rfl rfl rfl ?_
      refine pw_c rfl ?_
      refine ps_ar rfl rfl rfl rfl rfl ?_
      refine ps_pfi 11 19 rfl rfl rfl rfl rfl ?_
      refine ps_vret rfl rfl ?_
      refine kk _ (fun a j h1 h2 => ?_) (fun j => ?_) ?_
      · show pm_u I' 275 19 _ a j = I a j
        unfold pm_u
        split
        · rename_i e
          subst e
          rw [if_neg (fun q => h2 ⟨rfl, q⟩)]
          exact ag _ _ h1 h2
        · exact ag _ _ h1 h2
      · show pm_u I' 275 19 _ 290 j = _
        rw [pu_o (by decide), hr j, ← hJ j, show i = 89 by omega]
      · show pm_u I' 275 19 (I' 275 19 + 1) 275 19 = _
        rw [pu_s, hp, nI_1, hrm]
    | succ d ih =>
      intro i hi I' ag hr hp
      refine ps_iload rfl rfl ?_
      refine pw_c rfl ?_
      refine ps_icmpf rfl (decide_eq_false (nI_ge (b := 89) (by omega) (by omega))) ?_
      refine ps_aload rfl rfl ?_
      refine ps_gfr 11 18 rfl rfl rfl rfl rfl (rfl) ?_
      refine pw_c rfl ?_
      refine ps_aload rfl rfl ?_
      refine ps_gfi 11 19 rfl rfl rfl rfl rfl ?_
      rw [show ((I', L, g_R s, 306) : pm_H).1 275 19 = nI n from hp]
      refine ps_ar rfl rfl rfl rfl rfl ?_
      refine ps_iload rfl rfl ?_
      refine ps_ar rfl rfl rfl rfl rfl ?_
      refine ps_aload rfl rfl ?_
      refine ps_gfr 11 16 rfl rfl rfl rfl rfl (rfl) ?_
      refine ps_iload rfl rfl ?_
      refine ps_iald (i) rfl rfl rfl (rfl) (by omega) ?_
      refine ps_iast (89 * n + i) rfl rfl rfl (by simp only [ni_lit, ni_l0, pk_mul, nI_add, Nat.add_zero]) (by omega) ?_
      refine ps_iinc rfl rfl ?_
      refine ps_goto rfl ?_
      rw [show nI i + Int32.ofInt 1 = nI (i + 1) from nI_1 i]
      refine ih (i + 1) (by omega) _ (fun a j h1 h2 => ?_) (fun j => ?_) ?_
      · show pm_u I' 290 _ _ a j = I a j
        rw [pu_o h1]
        exact ag _ _ h1 h2
      · show pm_u I' 290 (89 * n + i) (I' 288 i) 290 j = _
        by_cases e : j = 89 * n + i
        · subst e
          rw [pu_s, ag _ _ (by decide) (fun q => absurd q.1 (by decide)), if_pos ⟨by omega, by omega⟩, show 89 * n + i - 89 * n = i by omega]
        · rw [pu_n e, hr j]
          by_cases e2 : 89 * n ≤ j ∧ j < 89 * n + i
          · rw [if_pos e2, if_pos ⟨e2.1, by omega⟩]
          · rw [if_neg e2, if_neg (by omega)]
      · show pm_u I' 290 _ _ 275 19 = _
        rw [pu_o (by decide)]
        exact hp
  refine ps_aload rfl rfl ?_
  refine ps_gfi 11 19 rfl rfl rfl rfl rfl ?_
  refine pw_c rfl ?_
  refine ps_icmp rfl (fun hc => ?_) (fun hc => ?_)
  · have hne : ¬ I 275 19 = 12 := by simpa [pm_cmp] using hc
    have hlt : m < 12 := by
      refine Nat.lt_of_le_of_ne hm12 (fun q => hne ?_)
      rw [hm, q]
      rfl
    refine pw_c rfl ?_
    refine ps_istore rfl rfl ?_
    refine loop2 (I 290) m hlt (fun j => ?_) (by unfold rmM; rw [if_pos hlt]) 89 0 (by omega) I (fun _ _ _ _ => rfl) (fun j => ?_) hm
    · unfold rmR
      rw [if_pos hlt]
    · rw [if_neg (by omega)]
  · have he : m = 12 := by
      have : I 275 19 = 12 := by simpa [pm_cmp] using hc
      rw [hm] at this
      exact nI_eqv (b := 12) (by omega) (by omega) this
    subst he
    have loop1 : ∀ d i, i + d = 979 → ∀ I', pAg I I' → (∀ j, I' 290 j = if j < i then I 290 (j + 89) else I 290 j) → I' 275 19 = nI 12 → pm_W (g_P ys) 223 11 [.ref 275, .int (nI i)] [] (I', L, g_R s, 306) (0, 0) Q := by
      intro d
      induction d with
      | zero =>
        intro i hi I' ag hr hp
        refine ps_iload rfl rfl ?_
        refine pw_c rfl ?_
        refine ps_icmpt rfl (decide_eq_true (nI_le (a := 979) (by omega) (by omega))) ?_
        refine ps_aload rfl rfl ?_
        refine ps_ar rfl rfl rfl rfl rfl ?_
        refine ps_gfi 11 19 rfl rfl rfl rfl rfl ?_
        refine pw_c rfl ?_
        refine ps_ar rfl rfl rfl rfl rfl ?_
        refine ps_pfi 11 19 rfl rfl rfl rfl rfl ?_
        refine pw_c rfl ?_
        refine ps_istore rfl rfl ?_
        refine loop2 (fun j => if j < 979 then I 290 (j + 89) else I 290 j) 11 (by omega) (fun j => ?_) rfl 89 0 (by omega) _ (fun a j h1 h2 => ?_) (fun j => ?_) ?_
        · unfold rmR
          rw [if_neg (show ¬ (12 : Nat) < 12 by omega)]
        · show pm_u I' 275 19 _ a j = I a j
          unfold pm_u
          split
          · rename_i e
            subst e
            rw [if_neg (fun q => h2 ⟨rfl, q⟩)]
            exact ag _ _ h1 h2
          · exact ag _ _ h1 h2
        · show pm_u I' 275 19 _ 290 j = _
          rw [pu_o (by decide), hr j, show i = 979 by omega, if_neg (show ¬ (89 * 11 ≤ j ∧ j < 89 * 11 + 0) by omega)]
        · show pm_u I' 275 19 (I' 275 19 - 1) 275 19 = _
          rw [pu_s, hp]
          decide
      | succ d ih =>
        intro i hi I' ag hr hp
        refine ps_iload rfl rfl ?_
        refine pw_c rfl ?_
        refine ps_icmpf rfl (decide_eq_false (nI_ge (b := 979) (by omega) (by omega))) ?_
        refine ps_aload rfl rfl ?_
        refine ps_gfr 11 18 rfl rfl rfl rfl rfl (rfl) ?_
        refine ps_iload rfl rfl ?_
        refine ps_aload rfl rfl ?_
        refine ps_gfr 11 18 rfl rfl rfl rfl rfl (rfl) ?_
        refine ps_iload rfl rfl ?_
        refine pw_c rfl ?_
        refine ps_ar rfl rfl rfl rfl rfl ?_
        refine ps_iald (i + 89) rfl rfl rfl (by simp only [ni_lit, ni_l0, pk_mul, nI_add, Nat.add_zero]) (by omega) ?_
        refine ps_iast (i) rfl rfl rfl (rfl) (by omega) ?_
        refine ps_iinc rfl rfl ?_
        refine ps_goto rfl ?_
        rw [show nI i + Int32.ofInt 1 = nI (i + 1) from nI_1 i]
        refine ih (i + 1) (by omega) _ (fun a j h1 h2 => ?_) (fun j => ?_) ?_
        · show pm_u I' 290 _ _ a j = I a j
          rw [pu_o h1]
          exact ag _ _ h1 h2
        · show pm_u I' 290 i (I' 290 (i + 89)) 290 j = _
          by_cases e : j = i
          · subst e
            rw [pu_s, hr, if_neg (by omega), if_pos (by omega)]
          · rw [pu_n e, hr j]
            by_cases e2 : j < i
            · rw [if_pos e2, if_pos (by omega)]
            · rw [if_neg e2, if_neg (by omega)]
        · show pm_u I' 290 _ _ 275 19 = _
          rw [pu_o (by decide)]
          exact hp
    refine pw_c rfl ?_
    refine ps_istore rfl rfl ?_
    exact loop1 979 0 (by omega) I (fun _ _ _ _ => rfl) (fun j => by rw [if_neg (by omega)]) hm
/-- all stays in order -/
theorem rem_iv (iv : sx_IV xT xtg xPH (I, L, g_R s, 306)) (hm : I 275 19 = nI m) (hm12 : m ≤ 12) {I' : Nat → Nat → Int32} (ag : pAg I I') (hr : ∀ j, I' 290 j = rmR I m j) (hp : I' 275 19 = nI (rmM m)) : sx_IV xT xtg xPH (I', L, g_R s, 306) ∧ sx_fr xtg xVP [(65, .ofNat 0, .ofNat 1067), (50, .ofNat 19, .ofNat 19)] (false, false) (I, L, g_R s, 306) (I', L, g_R s, 306) := by
  have hM : rmM m ≤ 12 := by unfold rmM; split <;> omega
  have ro : ∀ a, ¬ a = 290 → ¬ a = 275 → ∀ j, I' a j = I a j := fun a h1 h2 j => ag a j h1 (fun q => h2 q.1)
  have rp : ∀ j, (pB j).1 ≤ (I' 290 j).toInt ∧ (I' 290 j).toInt ≤ (pB j).2 := by
    intro j
    rw [hr j]
    unfold rmR
    split
    · split
      · rename_i h1 h2
        have e : pB j = pB (j - 89 * m) := by
          rw [← pB_m (m := m) (k := j - 89 * m) h1 (by omega), show 89 * m + (j - 89 * m) = j by omega]
        rw [e]
        exact pB_nowv iv (by omega)
      · exact pB_past iv
    · split
      · rename_i h1 h2
        have e : pB j = pB (j - 979) := by
          rw [← pB_m (m := 11) (k := j - 979) (by omega) (by omega), show 89 * 11 + (j - 979) = j by omega]
        rw [e]
        exact pB_nowv iv (by omega)
      · split
        · rename_i h1 h2 h3
          rw [← pB_89 h3]
          exact pB_past iv
        · exact pB_past iv
  have r1068 : ∀ j, 1068 ≤ j → I' 290 j = I 290 j := by
    intro j hj
    rw [hr j]
    unfold rmR
    split
    · rw [if_neg (by omega)]
    · rw [if_neg (by omega), if_neg (by omega)]
  refine ⟨iv_new iv (fun c j q hq k1 k2 => ?_) (xK_ag2 (fun a ha j => ?_) (ro _ (by decide) (by decide)) (ro _ (by decide) (by decide)) (ro _ (by decide) (by decide)) (ag _ _ (by decide) (by decide)) (ag _ _ (by decide) (by decide)) (ag _ _ (by decide) (by decide)) (ro _ (by decide) (by decide)) (ro _ (by decide) (by decide)) (ag _ _ (by decide) (by decide)) (fun h0 => ?_) iv.2.2.2.2.2), fun c j hn => ?_, fun _ l z k => xV_ag2 (ag _ _ (by decide) (by decide)) (ag _ _ (by decide) (by decide)) (ro _ (by decide) (by decide)) (ro _ (by decide) (by decide)) (ro _ (by decide) (by decide)) (ro _ (by decide) (by decide)) (ro _ (by decide) (by decide)) (ro _ (by decide) (by decide)) k, fun _ => rfl⟩
  · by_cases e : c = 290
    · subst e
      by_cases h : j < 1068
      · exact sx_wr_ok (pB_wr h) (Int.le_refl _) (Int.le_refl _) (rp j).1 (rp j).2 q hq k1 k2
      · rw [r1068 j (by omega)]
        exact iv.1 _ _ q hq k1 k2
    · by_cases e2 : c = 275 ∧ j = 19
      · obtain ⟨rfl, rfl⟩ := e2
        refine sx_wr_ok (g := sx_sb xT (xtg 275)) (lo := 19) (hi := 19) (b := (0, 12)) (by decide) (Int.le_refl _) (Int.le_refl _) ?_ ?_ q hq k1 k2
        · rw [hp, nI_toInt (by omega)]; omega
        · rw [hp, nI_toInt (by omega)]; omega
      · rw [ag c j e e2]
        exact iv.1 c j q hq k1 k2
  · refine ro a (fun q => ?_) (fun q => ?_) j
    · rw [q] at ha; exact absurd ha (by decide)
    · rw [q] at ha; exact absurd ha (by decide)
  · rw [ag _ _ (by decide) (by decide)] at h0
    obtain ⟨q1, q2⟩ := iv.2.2.2.2.2.2.2.2.1 h0
    rw [ag 288 4 (by decide) (by decide), ag 275 14 (by decide) (by decide)]
    refine ⟨q1, fun r hr12 hrm => ?_⟩
    rw [hp, nI_toInt (by omega)] at hrm
    rw [hr]
    have mI : (I 275 19).toInt = (m : Int) := by rw [hm, nI_toInt (by omega)]
    unfold rmR
    unfold rmM at hrm
    split
    · rename_i h1
      rw [if_pos h1] at hrm
      split
      · rw [show 89 * r + 4 - 89 * m = 4 by omega]
        exact q1
      · exact q2 r hr12 (by show (r : Int) < (I 275 19).toInt; omega)
    · split
      · rw [show 89 * r + 4 - 979 = 4 by omega]
        exact q1
      · rw [if_pos (by omega), show 89 * r + 4 + 89 = 89 * (r + 1) + 4 by omega]
        exact q2 (r + 1) (by omega) (by show ((r + 1 : Nat) : Int) < (I 275 19).toInt; omega)
  · by_cases e : c = 290
    · subst e
      by_cases h : j < 1068
      · exact absurd (sx_wk_ok (lo := 0) (hi := 1067) (by decide) (by omega) (by omega)) hn
      · exact r1068 j (by omega)
    · by_cases e2 : c = 275 ∧ j = 19
      · obtain ⟨rfl, rfl⟩ := e2
        exact absurd (sx_wk_ok (lo := 19) (hi := 19) (by decide) (Int.le_refl _) (Int.le_refl _)) hn
      · exact ag c j e e2
theorem past_n (iv : sx_IV xT xtg xPH (I, L, g_R s, 306)) : ∃ m : Nat, I 275 19 = nI m ∧ m ≤ 12 := by
  have b := iv.1 275 19 (.ofNat 19, .ofNat 19, .ofNat 0, .ofNat 12) (by decide) (by decide) (by decide)
  have b1 : (0 : Int) ≤ (I 275 19).toInt := b.1
  have b2 : (I 275 19).toInt ≤ 12 := b.2
  exact ⟨(I 275 19).toInt.toNat, i_nat (by omega), by omega⟩
theorem k_remembers : xk ys (223, [.inl (2, .ofNat 0, .ofNat 0, 50)], [], [(65, .ofNat 0, .ofNat 1067), (50, .ofNat 19, .ofNat 19)], (false, false), [([], [], [], [])]) := by
  intro h vs Q iv va fa kk
  obtain ⟨I, L, s, rfl⟩ := x_form iv
  obtain ⟨_, c1, rfl, ⟨a, rfl, ha, _⟩, va1⟩ := vas_c va
  cases vas_n va1
  cases ref_M ha
  obtain ⟨m, hm, hm12⟩ := past_n iv
  refine M_remembers hm hm12 (fun I' ag hr hp => ?_)
  obtain ⟨g1, g2⟩ := rem_iv iv hm hm12 ag hr hp
  exact kk _ _ g1 g2 ⟨_, List.mem_cons_self, po_0⟩
end HU
