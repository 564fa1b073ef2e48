/-! BY HAND: the class's history; how an ACT begins -/
section SC
variable {I I' J : Nat → Nat → Int32} {L : Nat → Nat → Int64} {s : Nat → Option Nat} {Q : List Value → pm_H → Prop} {ys : List Int32} {n m d e len b f : Nat} {S : sS} {H : Nat → sS} {B : sB}
theorem nI_m12 (a : Nat) (h : a < 1000) : nI a - nI a / (12 : Int32) * (12 : Int32) = nI (a % 12) := nI_rem (b := 12) (by omega) (by omega) (by omega)
theorem B_save (hd : isE d) (hb : 170 ≤ d) (hH : cHs H m f I) (h : cSc d S I) (ok : S.ok) (kk : ∀ I' f', hAg I I' → cHs (psh H m S) (rmM m) f' I' → Q [] (I', L, g_R s, 306)) : pm_W (g_P ys) 105 0 [.ref 12, .ref d] [] (I, L, g_R s, 306) (0, 0) Q := by
  obtain ⟨f12, m12, hf, hm, hs⟩ := hH
  obtain ⟨hS0, hR0⟩ := ring_F (ys := ys) (s := s)
  have go : ∀ (f1 m1 : Nat) (J : Nat → Nat → Int32), f1 < 12 → m1 < 12 → hAg I J → J 12 1 = nI f1 → J 12 2 = nI m1 → (∀ a, 14 ≤ a → J a = I a) → m1 + 1 = rmM m → (∀ i, i < m1 → psh H m S i = (if m < 12 then H i else H (i + 1)) ∧ cSc (14 + 13 * ((f1 + i) % 12)) (psh H m S i) I) → psh H m S m1 = S → pm_W (g_P ys) 105 32 [.ref 12, .ref d] [] (J, L, g_R s, 306) (0, 0) Q := by
    intro f1 m1 J hf1 hm1 ag e1 e2 e3 e4 e5 e6
    obtain ⟨p, hp⟩ : ∃ p, p = (f1 + m1) % 12 := ⟨_, rfl⟩
    have p12 : p < 12 := by omega
    obtain ⟨hS1, _, _, _⟩ := en_F (ys := ys) (s := s) (isE_r p12)
    refine ps_aload rfl rfl ?_
    refine ps_gfr 4 0 rfl rfl rfl (by first | exact hS0 _ _ | exact hS1 _ _ | exact hS2 _ _ | exact hS3 _ _ | exact hS4 _ _ | exact hS5 _ _ | exact hS6 _ _ | exact hS7 _ _ | exact hS8 _ _ | exact hS9 _ _ | exact hS10 _ _ | exact hS11 _ _ | exact hS12 _ _ | exact hS13 _ _ | assumption | rfl) rfl (by first | assumption | rfl) ?_
    refine ps_aload rfl rfl ?_
    refine ps_gfi 4 1 rfl rfl rfl (by first | exact hS0 _ _ | exact hS1 _ _ | exact hS2 _ _ | exact hS3 _ _ | exact hS4 _ _ | exact hS5 _ _ | exact hS6 _ _ | exact hS7 _ _ | exact hS8 _ _ | exact hS9 _ _ | exact hS10 _ _ | exact hS11 _ _ | exact hS12 _ _ | exact hS13 _ _ | assumption | rfl) rfl ?_
    rw [show ((J, L, g_R s, 306) : pm_H).1 12 1 = nI f1 from e1]
    refine ps_aload rfl rfl ?_
    refine ps_gfi 4 2 rfl rfl rfl (by first | exact hS0 _ _ | exact hS1 _ _ | exact hS2 _ _ | exact hS3 _ _ | exact hS4 _ _ | exact hS5 _ _ | exact hS6 _ _ | exact hS7 _ _ | exact hS8 _ _ | exact hS9 _ _ | exact hS10 _ _ | exact hS11 _ _ | exact hS12 _ _ | exact hS13 _ _ | assumption | rfl) rfl ?_
    rw [show ((J, L, g_R s, 306) : pm_H).1 12 2 = nI m1 from e2]
    refine ps_ar rfl rfl rfl rfl rfl ?_
    rw [nI_add]
    refine pw_c rfl ?_
    refine ps_rem rfl (by decide) ?_
    rw [nI_m12 _ (by omega), ← hp]
    refine ps_aald (p) rfl (by first | exact hS0 _ _ | exact hS1 _ _ | exact hS2 _ _ | exact hS3 _ _ | exact hS4 _ _ | exact hS5 _ _ | exact hS6 _ _ | exact hS7 _ _ | exact hS8 _ _ | exact hS9 _ _ | exact hS10 _ _ | exact hS11 _ _ | exact hS12 _ _ | exact hS13 _ _ | assumption | rfl) rfl (rfl) (by omega) (hR0 p p12) ?_
    refine ps_aload rfl rfl ?_
    refine pv_k rfl rfl rfl rfl rfl (hS1 _ _) rfl ⟨Nat.zero_le _, Nat.zero_le _⟩ ?_
    refine B_sceneCopy (isE_r p12) hd (by omega) (cSc_t h (fun a j h1 h2 => congrFun (e3 a (by omega)) j)) ok (fun I1 a1 c1 => ?_)
    refine ps_aload rfl rfl ?_
    refine ps_ar rfl rfl rfl rfl rfl ?_
    refine ps_gfi 4 2 rfl rfl rfl (by first | exact hS0 _ _ | exact hS1 _ _ | exact hS2 _ _ | exact hS3 _ _ | exact hS4 _ _ | exact hS5 _ _ | exact hS6 _ _ | exact hS7 _ _ | exact hS8 _ _ | exact hS9 _ _ | exact hS10 _ _ | exact hS11 _ _ | exact hS12 _ _ | exact hS13 _ _ | assumption | rfl) rfl ?_
    rw [show ((I1, L, g_R s, 306) : pm_H).1 12 2 = nI m1 from (a1 _ _ (by omega)).trans e2]
    refine pw_c rfl ?_
    refine ps_ar rfl rfl rfl rfl rfl ?_
    rw [show nI m1 + (1 : Int32) = nI (m1 + 1) from nI_1 m1]
    refine ps_pfi 4 2 rfl rfl rfl (by first | exact hS0 _ _ | exact hS1 _ _ | exact hS2 _ _ | exact hS3 _ _ | exact hS4 _ _ | exact hS5 _ _ | exact hS6 _ _ | exact hS7 _ _ | exact hS8 _ _ | exact hS9 _ _ | exact hS10 _ _ | exact hS11 _ _ | exact hS12 _ _ | exact hS13 _ _ | assumption | rfl) rfl ?_
    refine ps_vret rfl rfl ?_
    have o : ∀ a j, ¬ a = 12 → pm_u I1 12 2 (nI (m1 + 1)) a j = I1 a j := fun a j h => pu_o h
    refine kk _ f1 (fun a j h => (o a j (by omega)).trans ((a1 a j (by omega)).trans (ag a j h))) ⟨hf1, by omega, ?_, ?_, fun i hi => ?_⟩
    · show pm_u I1 12 2 (nI (m1 + 1)) 12 1 = _
      rw [pu_n (by decide)]
      exact (a1 _ _ (by omega)).trans e1
    · show pm_u I1 12 2 (nI (m1 + 1)) 12 2 = _
      rw [pu_s, e4]
    · by_cases ei : i = m1
      · rw [ei, ← hp, e6]
        exact cSc_t c1 (fun a j h1 h2 => o a j (by omega))
      · exact cSc_t (e5 i (by omega)).2 (fun a j h1 h2 => (o a j (by omega)).trans ((a1 a j (by omega)).trans (congrFun (e3 a (by omega)) j)))
  refine ps_aload rfl rfl ?_
  refine ps_gfi 4 2 rfl rfl rfl (by first | exact hS0 _ _ | exact hS1 _ _ | exact hS2 _ _ | exact hS3 _ _ | exact hS4 _ _ | exact hS5 _ _ | exact hS6 _ _ | exact hS7 _ _ | exact hS8 _ _ | exact hS9 _ _ | exact hS10 _ _ | exact hS11 _ _ | exact hS12 _ _ | exact hS13 _ _ | assumption | rfl) rfl ?_
  rw [show ((I, L, g_R s, 306) : pm_H).1 12 2 = nI m from hm]
  by_cases e : m = 12
  · subst e
    refine pw_c rfl ?_
    refine ps_icmpf rfl (by decide) ?_
    refine ps_aload rfl rfl ?_
    refine ps_aload rfl rfl ?_
    refine ps_gfi 4 1 rfl rfl rfl (by first | exact hS0 _ _ | exact hS1 _ _ | exact hS2 _ _ | exact hS3 _ _ | exact hS4 _ _ | exact hS5 _ _ | exact hS6 _ _ | exact hS7 _ _ | exact hS8 _ _ | exact hS9 _ _ | exact hS10 _ _ | exact hS11 _ _ | exact hS12 _ _ | exact hS13 _ _ | assumption | rfl) rfl ?_
    rw [show ((I, L, g_R s, 306) : pm_H).1 12 1 = nI f from hf]
    refine pw_c rfl ?_
    refine ps_ar rfl rfl rfl rfl rfl ?_
    rw [show nI f + (1 : Int32) = nI (f + 1) from nI_1 f]
    refine pw_c rfl ?_
    refine ps_rem rfl (by decide) ?_
    rw [nI_m12 _ (by omega)]
    refine ps_pfi 4 1 rfl rfl rfl (by first | exact hS0 _ _ | exact hS1 _ _ | exact hS2 _ _ | exact hS3 _ _ | exact hS4 _ _ | exact hS5 _ _ | exact hS6 _ _ | exact hS7 _ _ | exact hS8 _ _ | exact hS9 _ _ | exact hS10 _ _ | exact hS11 _ _ | exact hS12 _ _ | exact hS13 _ _ | assumption | rfl) rfl ?_
    refine ps_aload rfl rfl ?_
    refine ps_ar rfl rfl rfl rfl rfl ?_
    refine ps_gfi 4 2 rfl rfl rfl (by first | exact hS0 _ _ | exact hS1 _ _ | exact hS2 _ _ | exact hS3 _ _ | exact hS4 _ _ | exact hS5 _ _ | exact hS6 _ _ | exact hS7 _ _ | exact hS8 _ _ | exact hS9 _ _ | exact hS10 _ _ | exact hS11 _ _ | exact hS12 _ _ | exact hS13 _ _ | assumption | rfl) rfl ?_
    show pm_W _ _ _ _ [.int (pm_u I 12 1 (nI ((f + 1) % 12)) 12 2), .ref 12] (pm_u I 12 1 (nI ((f + 1) % 12)), L, g_R s, 306) _ _
    rw [pu_n (by decide), hm]
    refine pw_c rfl ?_
    refine ps_ar rfl rfl rfl rfl rfl ?_
    rw [show nI 12 - (1 : Int32) = nI 11 by decide]
    refine ps_pfi 4 2 rfl rfl rfl (by first | exact hS0 _ _ | exact hS1 _ _ | exact hS2 _ _ | exact hS3 _ _ | exact hS4 _ _ | exact hS5 _ _ | exact hS6 _ _ | exact hS7 _ _ | exact hS8 _ _ | exact hS9 _ _ | exact hS10 _ _ | exact hS11 _ _ | exact hS12 _ _ | exact hS13 _ _ | assumption | rfl) rfl ?_
    refine go ((f + 1) % 12) 11 _ (by omega) (by omega) (fun a j h => ?_) ?_ pu_s (fun a ha => ?_) rfl (fun i hi => ?_) ?_
    · show pm_u (pm_u I 12 1 (nI ((f + 1) % 12))) 12 2 (nI 11) a j = _
      rw [pu_o (by omega), pu_o (by omega)]
    · show pm_u (pm_u I 12 1 (nI ((f + 1) % 12))) 12 2 (nI 11) 12 1 = _
      rw [pu_n (by decide), pu_s]
    · funext j
      show pm_u (pm_u I 12 1 (nI ((f + 1) % 12))) 12 2 (nI 11) a j = _
      rw [pu_o (by omega), pu_o (by omega)]
    · have z : psh H 12 S i = H (i + 1) := by
        unfold psh
        rw [if_neg (by omega), if_neg (by omega)]
      rw [z, if_neg (by omega), show ((f + 1) % 12 + i) % 12 = (f + (i + 1)) % 12 by omega]
      exact ⟨rfl, hs (i + 1) (by omega)⟩
    · unfold psh
      rw [if_neg (by omega), if_pos rfl]
  · refine pw_c rfl ?_
    refine ps_icmpt rfl (decide_eq_true (fun z => e (nI_eqv (b := 12) (by omega) (by omega) z))) ?_
    refine go f m I f12 (by omega) (fun _ _ _ => rfl) hf hm (fun _ _ => rfl) (by unfold rmM; rw [if_pos (by omega)]) (fun i hi => ?_) ?_
    · have z : psh H m S i = H i := by
        unfold psh
        rw [if_pos (by omega), if_neg (by omega)]
      rw [z, if_pos (by omega)]
      exact ⟨rfl, hs i hi⟩
    · unfold psh
      rw [if_pos (by omega), if_pos rfl]
theorem B_takeBack (hd : isE d) (hb : 170 ≤ d) (hH : cHs H (m + 1) f I) (ok : (H m).ok) (kk : ∀ I', (∀ a j, ¬ (d ≤ a ∧ a ≤ d + 12) → ¬ (a = 12 ∧ j = 2) → I' a j = I a j) → cSc d (H m) I' → cHs H m f I' → Q [] (I', L, g_R s, 306)) : pm_W (g_P ys) 119 0 [.ref 12, .ref d] [] (I, L, g_R s, 306) (0, 0) Q := by
  obtain ⟨f12, m12, hf, hm, hs⟩ := hH
  obtain ⟨hS0, hR0⟩ := ring_F (ys := ys) (s := s)
  obtain ⟨hS1, _, _, _⟩ := en_F (ys := ys) (s := s) hd
  obtain ⟨p, hp⟩ : ∃ p, p = (f + m) % 12 := ⟨_, rfl⟩
  have p12 : p < 12 := by omega
  refine ps_aload rfl rfl ?_
  refine ps_gfi 4 2 rfl rfl rfl (by first | exact hS0 _ _ | exact hS1 _ _ | exact hS2 _ _ | exact hS3 _ _ | exact hS4 _ _ | exact hS5 _ _ | exact hS6 _ _ | exact hS7 _ _ | exact hS8 _ _ | exact hS9 _ _ | exact hS10 _ _ | exact hS11 _ _ | exact hS12 _ _ | exact hS13 _ _ | assumption | rfl) rfl ?_
  rw [show ((I, L, g_R s, 306) : pm_H).1 12 2 = nI (m + 1) from hm]
  refine ps_iff rfl (decide_eq_false (fun z => by have z := (i_le _ _).mp z; rw [nI_toInt (by omega)] at z; have : (0 : Int32).toInt = 0 := rfl; omega)) ?_
  refine ps_aload rfl rfl ?_
  refine ps_ar rfl rfl rfl rfl rfl ?_
  refine ps_gfi 4 2 rfl rfl rfl (by first | exact hS0 _ _ | exact hS1 _ _ | exact hS2 _ _ | exact hS3 _ _ | exact hS4 _ _ | exact hS5 _ _ | exact hS6 _ _ | exact hS7 _ _ | exact hS8 _ _ | exact hS9 _ _ | exact hS10 _ _ | exact hS11 _ _ | exact hS12 _ _ | exact hS13 _ _ | assumption | rfl) rfl ?_
  rw [show ((I, L, g_R s, 306) : pm_H).1 12 2 = nI (m + 1) from hm]
  refine pw_c rfl ?_
  refine ps_ar rfl rfl rfl rfl rfl ?_
  rw [show nI (m + 1) - (1 : Int32) = nI m from nI_p m]
  refine ps_pfi 4 2 rfl rfl rfl (by first | exact hS0 _ _ | exact hS1 _ _ | exact hS2 _ _ | exact hS3 _ _ | exact hS4 _ _ | exact hS5 _ _ | exact hS6 _ _ | exact hS7 _ _ | exact hS8 _ _ | exact hS9 _ _ | exact hS10 _ _ | exact hS11 _ _ | exact hS12 _ _ | exact hS13 _ _ | assumption | rfl) rfl ?_
  refine ps_aload rfl rfl ?_
  refine ps_aload rfl rfl ?_
  refine ps_gfr 4 0 rfl rfl rfl (by first | exact hS0 _ _ | exact hS1 _ _ | exact hS2 _ _ | exact hS3 _ _ | exact hS4 _ _ | exact hS5 _ _ | exact hS6 _ _ | exact hS7 _ _ | exact hS8 _ _ | exact hS9 _ _ | exact hS10 _ _ | exact hS11 _ _ | exact hS12 _ _ | exact hS13 _ _ | assumption | rfl) rfl (by first | assumption | rfl) ?_
  refine ps_aload rfl rfl ?_
  refine ps_gfi 4 1 rfl rfl rfl (by first | exact hS0 _ _ | exact hS1 _ _ | exact hS2 _ _ | exact hS3 _ _ | exact hS4 _ _ | exact hS5 _ _ | exact hS6 _ _ | exact hS7 _ _ | exact hS8 _ _ | exact hS9 _ _ | exact hS10 _ _ | exact hS11 _ _ | exact hS12 _ _ | exact hS13 _ _ | assumption | rfl) rfl ?_
  show pm_W _ _ _ _ [.int (pm_u I 12 2 (nI m) 12 1), .ref 13, .ref d] (pm_u I 12 2 (nI m), L, g_R s, 306) _ _
  rw [pu_n (by decide), hf]
  refine ps_aload rfl rfl ?_
  refine ps_gfi 4 2 rfl rfl rfl (by first | exact hS0 _ _ | exact hS1 _ _ | exact hS2 _ _ | exact hS3 _ _ | exact hS4 _ _ | exact hS5 _ _ | exact hS6 _ _ | exact hS7 _ _ | exact hS8 _ _ | exact hS9 _ _ | exact hS10 _ _ | exact hS11 _ _ | exact hS12 _ _ | exact hS13 _ _ | assumption | rfl) rfl ?_
  show pm_W _ _ _ _ [.int (pm_u I 12 2 (nI m) 12 2), .int (nI f), .ref 13, .ref d] (pm_u I 12 2 (nI m), L, g_R s, 306) _ _
  rw [pu_s]
  refine ps_ar rfl rfl rfl rfl rfl ?_
  rw [nI_add]
  refine pw_c rfl ?_
  refine ps_rem rfl (by decide) ?_
  rw [nI_m12 _ (by omega), ← hp]
  refine ps_aald (p) rfl (by first | exact hS0 _ _ | exact hS1 _ _ | exact hS2 _ _ | exact hS3 _ _ | exact hS4 _ _ | exact hS5 _ _ | exact hS6 _ _ | exact hS7 _ _ | exact hS8 _ _ | exact hS9 _ _ | exact hS10 _ _ | exact hS11 _ _ | exact hS12 _ _ | exact hS13 _ _ | assumption | rfl) rfl (rfl) (by omega) (hR0 p p12) ?_
  refine pv_k rfl rfl rfl rfl rfl (hS1 _ _) rfl ⟨Nat.zero_le _, Nat.zero_le _⟩ ?_
  have o : ∀ a j, ¬ (a = 12 ∧ j = 2) → pm_u I 12 2 (nI m) a j = I a j := fun a j h => pu_x h
  have hs1 := hs m (by omega)
  rw [← hp] at hs1
  refine B_sceneCopy hd (isE_r p12) (by omega) (cSc_t hs1 (fun a j h1 h2 => o a j (by omega))) ok (fun I1 a1 c1 => ?_)
  refine ps_vret rfl rfl ?_
  refine kk _ (fun a j h1 h2 => (a1 a j h1).trans (o a j h2)) c1 ⟨f12, by omega, ?_, ?_, fun i hi => ?_⟩
  · exact (a1 _ _ (by omega)).trans ((o _ _ (by decide)).trans hf)
  · exact (a1 _ _ (by omega)).trans pu_s
  · exact cSc_t (hs i (by omega)) (fun a j h1 h2 => (a1 _ _ (by omega)).trans (o _ _ (by omega)))
/-- an ACT begins: the scene is saved, the camera forgets -/
theorem B_beginAct (hb : isB b) (h0 : s 0 = some b) (hH : cHs H m f I) (h : cSc (b + 2) S I) (ok : S.ok) (kk : ∀ I' f', (∀ a j, ¬ (12 ≤ a ∧ a ≤ 169) → ¬ (a = 255 ∧ j = 15) → I' a j = I a j) → I' 255 15 = 0 → cHs (psh H m S) (rmM m) f' I' → Q [] (I', L, g_R s, 306)) : pm_W (g_P ys) 104 0 [.ref 0] [] (I, L, g_R s, 306) (0, 0) Q := by
  obtain ⟨hS0, hS1, hS2, hS3, hS4, hR0, hR1, hR2, hR3, hR4, hR5, hR6, hR7⟩ := bn_F (ys := ys) (s := s) hb
  have bb := isB_b hb
  refine ps_aload rfl rfl ?_
  refine ps_gfr 0 3 rfl rfl rfl (by first | exact hS0 _ _ | exact hS1 _ _ | exact hS2 _ _ | exact hS3 _ _ | exact hS4 _ _ | exact hS5 _ _ | exact hS6 _ _ | exact hS7 _ _ | exact hS8 _ _ | exact hS9 _ _ | exact hS10 _ _ | exact hS11 _ _ | exact hS12 _ _ | exact hS13 _ _ | assumption | rfl) rfl ( rfl) ?_
  refine ps_aload rfl rfl ?_
  refine ps_gfr 0 6 rfl rfl rfl (by first | exact hS0 _ _ | exact hS1 _ _ | exact hS2 _ _ | exact hS3 _ _ | exact hS4 _ _ | exact hS5 _ _ | exact hS6 _ _ | exact hS7 _ _ | exact hS8 _ _ | exact hS9 _ _ | exact hS10 _ _ | exact hS11 _ _ | exact hS12 _ _ | exact hS13 _ _ | assumption | rfl) rfl ( h0) ?_
  refine ps_gfr 8 1 rfl rfl rfl (by first | exact hS0 _ _ | exact hS1 _ _ | exact hS2 _ _ | exact hS3 _ _ | exact hS4 _ _ | exact hS5 _ _ | exact hS6 _ _ | exact hS7 _ _ | exact hS8 _ _ | exact hS9 _ _ | exact hS10 _ _ | exact hS11 _ _ | exact hS12 _ _ | exact hS13 _ _ | assumption | rfl) rfl (by first | assumption | rfl) ?_
  refine pw_k rfl rfl rfl rfl ⟨Nat.zero_le _, Nat.zero_le _⟩ ?_
  refine B_save (isE_b hb) (by omega) hH h ok (fun I1 f1 a1 c1 => ?_)
  refine ps_aload rfl rfl ?_
  refine ps_gfr 0 8 rfl rfl rfl (by first | exact hS0 _ _ | exact hS1 _ _ | exact hS2 _ _ | exact hS3 _ _ | exact hS4 _ _ | exact hS5 _ _ | exact hS6 _ _ | exact hS7 _ _ | exact hS8 _ _ | exact hS9 _ _ | exact hS10 _ _ | exact hS11 _ _ | exact hS12 _ _ | exact hS13 _ _ | assumption | rfl) rfl ( rfl) ?_
  refine pw_k rfl rfl rfl rfl ⟨Nat.zero_le _, Nat.zero_le _⟩ ?_
  refine ps_aload rfl rfl ?_
  refine pw_c rfl ?_
  refine ps_pfz 10 15 rfl rfl rfl (by first | exact hS0 _ _ | exact hS1 _ _ | exact hS2 _ _ | exact hS3 _ _ | exact hS4 _ _ | exact hS5 _ _ | exact hS6 _ _ | exact hS7 _ _ | exact hS8 _ _ | exact hS9 _ _ | exact hS10 _ _ | exact hS11 _ _ | exact hS12 _ _ | exact hS13 _ _ | assumption | rfl) rfl (Or.inl rfl) ?_
  refine ps_vret rfl rfl ?_
  refine ps_vret rfl rfl ?_
  refine kk _ f1 (fun a j h1 h2 => (pu_x h2).trans (a1 a j h1)) pu_s ?_
  obtain ⟨g1, g2, g3, g4, g5⟩ := c1
  exact ⟨g1, g2, (pu_o (by decide)).trans g3, (pu_o (by decide)).trans g4, fun i hi => cSc_t (g5 i hi) (fun a j h1 h2 => pu_o (by omega))⟩
theorem B_isCounting {h : pm_H} (x : Int32) (kk : Q [.int (bI (decide (x = 0 ∨ x = 2)))] h) : pm_W (g_P ys) 102 0 [.int x] [] h (0, 0) Q := by
  by_cases h1 : x = 0
  · rw [decide_eq_true (Or.inl h1)] at kk
    refine ps_iload rfl rfl ?_
    refine ps_ift rfl (decide_eq_true h1) ?_
    refine pw_c rfl ?_
    refine ps_goto rfl ?_
    refine ps_zret rfl rfl (Or.inr rfl) ?_
    exact kk
  · by_cases h2 : x = 2
    · rw [decide_eq_true (Or.inr h2)] at kk
      refine ps_iload rfl rfl ?_
      refine ps_iff rfl (decide_eq_false h1) ?_
      refine ps_iload rfl rfl ?_
      refine pw_c rfl ?_
      refine ps_icmpf rfl (decide_eq_false (fun z => z h2)) ?_
      refine pw_c rfl ?_
      refine ps_goto rfl ?_
      refine ps_zret rfl rfl (Or.inr rfl) ?_
      exact kk
    · rw [decide_eq_false (fun z => z.elim h1 h2)] at kk
      refine ps_iload rfl rfl ?_
      refine ps_iff rfl (decide_eq_false h1) ?_
      refine ps_iload rfl rfl ?_
      refine pw_c rfl ?_
      refine ps_icmpt rfl (decide_eq_true h2) ?_
      refine pw_c rfl ?_
      refine ps_zret rfl rfl (Or.inl rfl) ?_
      exact kk
/-- a place that a scene may tell -/
abbrev plcB (x y : Int32) : Prop := (0 ≤ x.toInt ∧ x.toInt ≤ 99) ∧ 0 ≤ y.toInt ∧ y.toInt ≤ 99
theorem B_isPlace {h : pm_H} (x y : Int32) (kY : plcB x y → Q [.int 1] h) (kN : ¬ plcB x y → Q [.int 0] h) : pm_W (g_P ys) 103 0 [.int x, .int y] [] h (0, 0) Q := by
  have e0 : (0 : Int32).toInt = 0 := rfl
  have e99 : (99 : Int32).toInt = 99 := rfl
  have no : ¬ plcB x y → pm_W (g_P ys) 103 24 [.int x, .int y] [] h (0, 0) Q := by
    intro z
    refine pw_c rfl ?_
    refine ps_zret rfl rfl (Or.inl rfl) ?_
    exact kN z
  by_cases h1 : x.toInt < 0
  · refine ps_iload rfl rfl ?_
    refine ps_ift rfl (decide_eq_true ((i_lt _ _).mpr (by omega))) ?_
    exact no (fun z => by have := z.1; omega)
  · by_cases h2 : 99 < x.toInt
    · refine ps_iload rfl rfl ?_
      refine ps_iff rfl (decide_eq_false (fun z => h1 (by have := (i_lt _ _).mp z; omega))) ?_
      refine ps_iload rfl rfl ?_
      refine pw_c rfl ?_
      refine ps_icmpt rfl (decide_eq_true ((i_lt _ _).mpr (by omega))) ?_
      exact no (fun z => by have := z.1; omega)
    · by_cases h3 : y.toInt < 0
      · refine ps_iload rfl rfl ?_
        refine ps_iff rfl (decide_eq_false (fun z => h1 (by have := (i_lt _ _).mp z; omega))) ?_
        refine ps_iload rfl rfl ?_
        refine pw_c rfl ?_
        refine ps_icmpf rfl (decide_eq_false (fun z => h2 (by have := (i_lt _ _).mp z; omega))) ?_
        refine ps_iload rfl rfl ?_
        refine ps_ift rfl (decide_eq_true ((i_lt _ _).mpr (by omega))) ?_
        exact no (fun z => by have := z.2; omega)
      · by_cases h4 : 99 < y.toInt
        · refine ps_iload rfl rfl ?_
          refine ps_iff rfl (decide_eq_false (fun z => h1 (by have := (i_lt _ _).mp z; omega))) ?_
          refine ps_iload rfl rfl ?_
          refine pw_c rfl ?_
          refine ps_icmpf rfl (decide_eq_false (fun z => h2 (by have := (i_lt _ _).mp z; omega))) ?_
          refine ps_iload rfl rfl ?_
          refine ps_iff rfl (decide_eq_false (fun z => h3 (by have := (i_lt _ _).mp z; omega))) ?_
          refine ps_iload rfl rfl ?_
          refine pw_c rfl ?_
          refine ps_icmpt rfl (decide_eq_true ((i_lt _ _).mpr (by omega))) ?_
          exact no (fun z => by have := z.2; omega)
        · refine ps_iload rfl rfl ?_
          refine ps_iff rfl (decide_eq_false (fun z => h1 (by have := (i_lt _ _).mp z; omega))) ?_
          refine ps_iload rfl rfl ?_
          refine pw_c rfl ?_
          refine ps_icmpf rfl (decide_eq_false (fun z => h2 (by have := (i_lt _ _).mp z; omega))) ?_
          refine ps_iload rfl rfl ?_
          refine ps_iff rfl (decide_eq_false (fun z => h3 (by have := (i_lt _ _).mp z; omega))) ?_
          refine ps_iload rfl rfl ?_
          refine pw_c rfl ?_
          refine ps_icmpf rfl (decide_eq_false (fun z => h4 (by have := (i_lt _ _).mp z; omega))) ?_
          refine pw_c rfl ?_
          refine ps_goto rfl ?_
          refine ps_zret rfl rfl (Or.inr rfl) ?_
          exact kY ⟨by omega, by omega⟩
/-- the marks of a kind -/
theorem B_marksOfX (he : isE e) {q : Nat} (hq : q < 3) (kk : Q [.ref (e + 1 + 4 * q)] (I, L, g_R s, 306)) : pm_W (g_P ys) 99 0 [.ref e, .int (nI q)] [] (I, L, g_R s, 306) (0, 0) Q := by
  obtain ⟨hS0, hR0, hR1, hR2⟩ := en_F (ys := ys) (s := s) he
  rcases q3 hq with rfl | rfl | rfl
  · refine ps_iload rfl rfl ?_
    refine ps_iff rfl (by decide) ?_
    refine ps_iload rfl rfl ?_
    refine pw_c rfl ?_
    refine ps_icmpt rfl (by decide) ?_
    refine ps_iload rfl rfl ?_
    refine ps_iff rfl (by decide) ?_
    refine ps_aload rfl rfl ?_
    refine ps_gfr 5 0 rfl rfl rfl (by first | exact hS0 _ _ | exact hS1 _ _ | exact hS2 _ _ | exact hS3 _ _ | exact hS4 _ _ | exact hS5 _ _ | exact hS6 _ _ | exact hS7 _ _ | exact hS8 _ _ | exact hS9 _ _ | exact hS10 _ _ | exact hS11 _ _ | exact hS12 _ _ | exact hS13 _ _ | assumption | rfl) rfl (by first | assumption | rfl) ?_
    refine ps_aret rfl rfl ?_
    exact kk
  · refine ps_iload rfl rfl ?_
    refine ps_iff rfl (by decide) ?_
    refine ps_iload rfl rfl ?_
    refine pw_c rfl ?_
    refine ps_icmpt rfl (by decide) ?_
    refine ps_iload rfl rfl ?_
    refine ps_ift rfl (by decide) ?_
    refine ps_iload rfl rfl ?_
    refine pw_c rfl ?_
    refine ps_icmpf rfl (by decide) ?_
    refine ps_aload rfl rfl ?_
    refine ps_gfr 5 1 rfl rfl rfl (by first | exact hS0 _ _ | exact hS1 _ _ | exact hS2 _ _ | exact hS3 _ _ | exact hS4 _ _ | exact hS5 _ _ | exact hS6 _ _ | exact hS7 _ _ | exact hS8 _ _ | exact hS9 _ _ | exact hS10 _ _ | exact hS11 _ _ | exact hS12 _ _ | exact hS13 _ _ | assumption | rfl) rfl (by first | assumption | rfl) ?_
    refine ps_goto rfl ?_
    refine ps_aret rfl rfl ?_
    exact kk
  · refine ps_iload rfl rfl ?_
    refine ps_iff rfl (by decide) ?_
    refine ps_iload rfl rfl ?_
    refine pw_c rfl ?_
    refine ps_icmpt rfl (by decide) ?_
    refine ps_iload rfl rfl ?_
    refine ps_ift rfl (by decide) ?_
    refine ps_iload rfl rfl ?_
    refine pw_c rfl ?_
    refine ps_icmpt rfl (by decide) ?_
    refine ps_aload rfl rfl ?_
    refine ps_gfr 5 2 rfl rfl rfl (by first | exact hS0 _ _ | exact hS1 _ _ | exact hS2 _ _ | exact hS3 _ _ | exact hS4 _ _ | exact hS5 _ _ | exact hS6 _ _ | exact hS7 _ _ | exact hS8 _ _ | exact hS9 _ _ | exact hS10 _ _ | exact hS11 _ _ | exact hS12 _ _ | exact hS13 _ _ | assumption | rfl) rfl (by first | assumption | rfl) ?_
    refine ps_aret rfl rfl ?_
    exact kk
theorem B_marksOfN (he : isE e) {x : Int32} (hx : ¬ (0 ≤ x.toInt ∧ x.toInt < 3)) (kk : Q [.null] (I, L, g_R s, 306)) : pm_W (g_P ys) 99 0 [.ref e, .int x] [] (I, L, g_R s, 306) (0, 0) Q := by
  have e0 : (0 : Int32).toInt = 0 := rfl
  have e3 : (3 : Int32).toInt = 3 := rfl
  have no : pm_W (g_P ys) 99 9 [.ref e, .int x] [] (I, L, g_R s, 306) (0, 0) Q := by
    refine pw_c rfl ?_
    refine ps_aretN rfl rfl ?_
    exact kk
  by_cases h1 : x.toInt < 0
  · refine ps_iload rfl rfl ?_
    refine ps_ift rfl (decide_eq_true ((i_lt _ _).mpr (by omega))) ?_
    exact no
  · refine ps_iload rfl rfl ?_
    refine ps_iff rfl (decide_eq_false (fun z => h1 (by have := (i_lt _ _).mp z; omega))) ?_
    refine ps_iload rfl rfl ?_
    refine pw_c rfl ?_
    refine ps_icmpf rfl (decide_eq_false (fun z => hx (by have := (i_lt _ _).mp z; omega))) ?_
    exact no
end SC
