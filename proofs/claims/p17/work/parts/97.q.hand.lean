/-! BY HAND: the model's LINES, exactly -/
section KO
def sB.adP (B : sB) (P : sPl) : sB := (B.ps + 1, fun k => if k = B.ps then P else B.pl k, B.n, B.sc, B.bk, B.us)
def xPlt (f : Nat → Int32) (J : Nat → Nat → Int32) (c : Nat) (B : sB) (t : Nat) : sR (Nat × sB) :=
  if B.ps < 6 then
    if J 7 (t + 1) = 2 ∧ kwF (J 10 (t + 1)) = -1 then
      match fnN (fun k => (B.pl k).nm) (J 10 (t + 1)) B.ps 0 with
      | some _ => .error (4, t + 1)
      | none => (xFrm f J c B (J 10 (t + 1)) (t + 2)).bind fun p => .ok (p.1, B.adP p.2)
    else .error (eK J (t + 1), t + 1)
  else .error (6, t)
/-- a LINE but for its ; -/
def xLn1 (f : Nat → Int32) (J : Nat → Nat → Int32) (c : Nat) (B : sB) (t : Nat) : sR (Nat × sB) :=
  if J 7 t = 2 then
    if kwF (J 10 t) = 0 then xPlt f J c B t
    else if kwF (J 10 t) = 8 then xThr J B 0 t
    else if kwF (J 10 t) = 9 then xThr J B 1 t
    else if kwF (J 10 t) = 10 then xThr J B 2 t
    else if kwF (J 10 t) = 11 then (xNum J 0 99 (t + 1)).bind fun x => .ok (t + 2, (B.ps, B.pl, B.n, B.sc, x, B.us))
    else if kwF (J 10 t) = 12 then (xNam J B (t + 1)).bind fun k => .ok (t + 2, (B.ps, B.pl, B.n, B.sc, B.bk, nI k))
    else .error (2, t)
  else .error (eK J t, t)
def xLin (f : Nat → Int32) (J : Nat → Nat → Int32) (c : Nat) (B : sB) (t : Nat) : sR (Nat × sB) := (xLn1 f J c B t).bind fun p => if J 7 p.1 = 5 then .ok (p.1 + 1, p.2) else .error (eK J p.1, p.1)
variable {f T : Nat → Int32} {J I I' I'' : Nat → Nat → Int32} {L L' L'' : Nat → Nat → Int64} {n c t r w : Nat} {s : Nat → Option Nat} {Q : List Value → pm_H → Prop} {ys : List Int32} {B : sB}
theorem eK_w (h : J 7 t = 2) : eK J t = 2 := by
  unfold eK
  rw [if_neg (by rw [h]; decide)]
theorem xFrm_nm {nm : Int32} {u : Nat} {P : sPl} (h : xFrm f J c B nm t = .ok (u, P)) : P.nm = nm := by
  unfold xFrm at h
  split at h
  · split at h
    · cases e : xPri J 47 (t + 1) with
      | error e' => rw [e] at h; cases h
      | ok a => rw [e] at h; cases h; rfl
    split at h
    · cases e : xPri J 17 (t + 1) with
      | error e' => rw [e] at h; cases h
      | ok a => rw [e] at h; cases h; rfl
    split at h
    · split at h
      · cases h; rfl
      · cases h
    split at h
    · cases e : xSet J c (t + 1) with
      | error e' => rw [e] at h; cases h
      | ok a => rw [e] at h; cases h; rfl
    split at h
    · cases e : xNam J B (t + 1) with
      | error e' => rw [e] at h; cases h
      | ok a =>
        rw [e] at h
        have h : ((xNum J 0 99 (t + 2)).bind fun x => (xNum J 0 99 (t + 3)).bind fun b => .ok (t + 4, pTurn nm (B.pl a) x.toInt.toNat b.toInt.toNat)) = .ok (u, P) := h
        cases e2 : xNum J 0 99 (t + 2) with
        | error e' => rw [e2] at h; cases h
        | ok a2 =>
          rw [e2] at h
          have h : ((xNum J 0 99 (t + 3)).bind fun b => .ok (t + 4, pTurn nm (B.pl a) a2.toInt.toNat b.toInt.toNat)) = .ok (u, P) := h
          cases e3 : xNum J 0 99 (t + 3) with
          | error e' => rw [e3] at h; cases h
          | ok a3 => rw [e3] at h; cases h; rfl
    split at h
    · cases e : xNam J B (t + 1) with
      | error e' => rw [e] at h; cases h
      | ok a => rw [e] at h; cases h; rfl
    split at h
    · cases e : xNaB J B 1 (t + 1) with
      | error e' => rw [e] at h; cases h
      | ok a =>
        rw [e] at h
        have h : ((xNaB J B (B.pl a).w (t + 2)).bind fun b => .ok (t + 3, pBoth nm (B.pl a) (B.pl b))) = .ok (u, P) := h
        cases e2 : xNaB J B (B.pl a).w (t + 2) with
        | error e' => rw [e2] at h; cases h
        | ok a2 => rw [e2] at h; cases h; rfl
    · cases h
  · cases h
theorem mX_f {k p : Int32} (h : mX I k p) (e1 : I' 275 46 = I 275 46) (e2 : I' 275 47 = I 275 47) : mX I' k p := ⟨e1.trans h.1, e2.trans h.2.1, h.2.2⟩
theorem M_readsPlate (S : stX f T J n c) (m : mC J T c n t I L) (ht : t < c) (hB : mBn B I L) (ok : B.ok) (kB : ∀ k u, xPlt f J c B t = .error (k, u) → ∀ I' L', mF I I' → lF L L' → mX I' k (J 8 u) → Q [] (I', L', g_R s, 306)) (kO : ∀ u B', xPlt f J c B t = .ok (u, B') → ∀ I' L', mF I I' → lF L L' → mC J T c n u I' L' → mBn B' I' L' → Q [] (I', L', g_R s, 306)) : pm_W (g_P ys) 284 0 [.ref 275] [] (I, L, g_R s, 306) (0, 0) Q := by
  have p6 := ok.1
  refine ps_aload rfl rfl ?_
  refine ps_aload rfl rfl ?_
  refine ps_gfi 11 15 rfl rfl rfl rfl rfl ?_
  rw [show ((I, L, g_R s, 306) : pm_H).1 275 15 = nI B.ps from hB.1]
  refine pw_c rfl ?_
  refine pw_k rfl rfl rfl rfl ⟨Nat.zero_le _, Nat.zero_le _⟩ ?_
  refine M_begins (a := B.ps) (b := 6) S m ht (by omega) (by omega) (fun nb => ?_) (fun lt I1 L1 d1 l1 m1 => ?_)
  · refine ps_iff rfl (rfl) ?_
    refine ps_vret rfl rfl ?_
    exact kB _ _ (by unfold xPlt; rw [if_neg nb]) _ _ (mF_b mF_r) lF_r (mX_b (by decide))
  have xp : xPlt f J c B t = xPlt f J c B t := rfl
  conv at xp => rhs; unfold xPlt
  rw [if_pos lt] at xp
  -- wrong already
  have bad : ∀ I2 L2 k u, xPlt f J c B t = .error (k, u) → mF I I2 → lF L L2 → mX I2 k (J 8 u) → pm_W (g_P ys) 284 67 [.ref 275] [] (I2, L2, g_R s, 306) (0, 0) Q := by
    intro I2 L2 k u e f2 l2 x2
    have hw := mX_w x2
    refine ps_aload rfl rfl ?_
    refine pw_k rfl rfl rfl rfl ⟨Nat.zero_le _, Nat.zero_le _⟩ ?_
    refine M_goesOnB (w_nz hw) ?_
    refine ps_aload rfl rfl ?_
    refine pw_k rfl rfl rfl rfl ⟨Nat.zero_le _, Nat.zero_le _⟩ ?_
    refine M_good ?_
    rw [decide_eq_false (w_nz hw)]
    refine ps_ift rfl (rfl) ?_
    refine ps_aload rfl rfl ?_
    refine ps_ar rfl rfl rfl rfl rfl ?_
    refine ps_gfi 11 15 rfl rfl rfl rfl rfl ?_
    refine pw_c rfl ?_
    refine ps_ar rfl rfl rfl rfl rfl ?_
    refine ps_pfi 11 15 rfl rfl rfl rfl rfl ?_
    refine ps_vret rfl rfl ?_
    exact kB _ _ e _ _ (mF_u f2 (by omega)) l2 (mX_u x2 (by omega))
  have ps1 : I1 275 15 = nI B.ps := (d1 _ _ (by decide)).trans hB.1
  have hB1 := mBn_d hB d1 l1
  refine ps_ift rfl (rfl) ?_
  refine ps_aload rfl rfl ?_
  refine ps_aload rfl rfl ?_
  refine pw_k rfl rfl rfl rfl ⟨Nat.zero_le _, Nat.zero_le _⟩ ?_
  refine M_isName S m1 ?_
  by_cases hnm : J 7 (t + 1) = 2 ∧ kwF (J 10 (t + 1)) = -1
  · rw [decide_eq_true hnm]
    rw [if_pos hnm] at xp
    have ht1 := cu_lt S m1 (by rw [hnm.1]; decide)
    have wd := mC_wd S m1 hnm.1
    refine pw_c rfl ?_
    refine pw_k rfl rfl rfl rfl ⟨Nat.zero_le _, Nat.zero_le _⟩ ?_
    refine M_mustT (by decide) ?_
    refine ps_aload rfl rfl ?_
    refine ps_aload rfl rfl ?_
    refine pw_k rfl rfl rfl rfl ⟨Nat.zero_le _, Nat.zero_le _⟩ ?_
    refine M_good ?_
    rw [decide_eq_true m1.1]
    refine ps_iff rfl (rfl) ?_
    refine ps_aload rfl rfl ?_
    refine pw_k rfl rfl rfl rfl ⟨Nat.zero_le _, Nat.zero_le _⟩ ?_
    refine M_plateNamed ps1 p6 (fun k hk => (hB1.2.1 k hk).2.2.1) wd ?_
    cases e : fnN (fun k => (B.pl k).nm) (J 10 (t + 1)) B.ps 0 with
    | some k =>
      have hk := fnN_lt e
      rw [e] at xp
      have hw : 0 < (bdI I1 4 (J 8 (t + 1)) 275 46).toInt := bd_wb (by decide)
      refine ps_ift rfl (decide_eq_true (by rw [i_le]; show (0 : Int32).toInt ≤ (nI k).toInt; rw [nI_toInt (by omega)]; show (0 : Int) ≤ _; omega)) ?_
      refine pw_c rfl ?_
      refine pw_c rfl ?_
      refine pw_k rfl rfl rfl rfl ⟨Nat.zero_le _, Nat.zero_le _⟩ ?_
      refine M_mustN m1 (by decide) ?_
      refine ps_aload rfl rfl ?_
      refine pw_k rfl rfl rfl rfl ⟨Nat.zero_le _, Nat.zero_le _⟩ ?_
      refine M_good ?_
      rw [decide_eq_false (w_nz hw)]
      refine ps_ift rfl (rfl) ?_
      exact bad _ _ _ _ xp (mF_b (mF_d d1)) (lF_l l1) (mX_b (by decide))
    | none =>
      rw [e] at xp
      refine ps_iff rfl (rfl) ?_
      refine pw_c rfl ?_
      refine ps_goto rfl ?_
      refine pw_c rfl ?_
      refine pw_k rfl rfl rfl rfl ⟨Nat.zero_le _, Nat.zero_le _⟩ ?_
      refine M_mustT (by decide) ?_
      refine ps_aload rfl rfl ?_
      refine pw_k rfl rfl rfl rfl ⟨Nat.zero_le _, Nat.zero_le _⟩ ?_
      refine M_good ?_
      rw [decide_eq_true m1.1]
      refine ps_iff rfl (rfl) ?_
      refine ps_aload rfl rfl ?_
      refine ps_gfr 11 13 rfl rfl rfl rfl rfl (rfl) ?_
      refine ps_aload rfl rfl ?_
      refine ps_gfi 11 15 rfl rfl rfl rfl rfl ?_
      rw [show ((I1, L1, g_R s, 306) : pm_H).1 275 15 = nI B.ps from ps1]
      refine ps_aload rfl rfl ?_
      refine ps_gfl 11 54 rfl rfl rfl rfl rfl ?_
      refine ps_last (B.ps) rfl rfl rfl (rfl) (by omega) ?_
      show pm_W _ _ _ _ _ (I1, pm_u L1 287 B.ps (L1 275 54), g_R s, 306) _ _
      obtain ⟨wo, hwo⟩ : ∃ wo, wo = L1 275 54 := ⟨_, rfl⟩
      rw [← hwo] at wd ⊢
      have m1' : mC J T c n (t + 1) I1 (pm_u L1 287 B.ps wo) := mC_of m1 (fun _ _ => rfl) (fun _ => rfl) (fun a j h _ => puL_o h)
      have hB1' : mBn B I1 (pm_u L1 287 B.ps wo) := by
        obtain ⟨b1, b2, b3⟩ := hB1
        exact ⟨b1, fun k hk => ⟨(b2 k hk).1, (b2 k hk).2.1, by rw [puL_n (by omega)]; exact (b2 k hk).2.2.1, (b2 k hk).2.2.2⟩, b3⟩
      have l1' : lF L (pm_u L1 287 B.ps wo) := fun a j q => by
        rw [puL_o (fun z => q (by omega))]
        exact l1 a j (fun z => q (by omega))
      refine ps_aload rfl rfl ?_
      refine pw_k rfl rfl rfl rfl ⟨Nat.zero_le _, Nat.zero_le _⟩ ?_
      refine M_goesOn S m1' ht1 ?_
      intro I2 L2 d2 l2 m2
      have hB2 := mBn_d hB1' d2 l2
      refine ps_aload rfl rfl ?_
      refine pw_k rfl rfl rfl rfl ⟨Nat.zero_le _, Nat.zero_le _⟩ ?_
      refine M_good ?_
      rw [decide_eq_true m2.1]
      refine ps_iff rfl (rfl) ?_
      refine ps_aload rfl rfl ?_
      refine pw_k rfl rfl rfl rfl ⟨Nat.zero_le _, Nat.zero_le _⟩ ?_
      refine M_readsForm (nm := J 10 (t + 1)) S m2 hB2 ok lt (fun k u ex I3 L3 g3 l3 x3 => ?_) (fun u P ex I3 L3 g3 l3 m3 p3 => ?_)
      · rw [show xFrm f J c B (J 10 (t + 1)) (t + 2) = _ from ex] at xp
        refine ps_aload rfl rfl ?_
        refine ps_ar rfl rfl rfl rfl rfl ?_
        refine ps_gfi 11 15 rfl rfl rfl rfl rfl ?_
        refine pw_c rfl ?_
        refine ps_ar rfl rfl rfl rfl rfl ?_
        refine ps_pfi 11 15 rfl rfl rfl rfl rfl ?_
        refine ps_vret rfl rfl ?_
        exact kB _ _ xp _ _ (mF_u (mF_t (mF_t (mF_d d1) (mF_d d2)) (mG_F g3)) (by omega)) (lF_t l1' (lF_t (lF_l l2) (lNb_F l3))) (mX_u x3 (by omega))
      · rw [show xFrm f J c B (J 10 (t + 1)) (t + 2) = _ from ex] at xp
        have ps3 : I3 275 15 = nI B.ps := (mG_np g3).trans ((d2 _ _ (by decide)).trans ps1)
        have en := xFrm_nm ex
        have nn : ∀ k, L3 287 k = pm_u L1 287 B.ps wo 287 k := fun k => (l3 _ _ (by omega)).trans (lA_n l2 (by decide))
        refine ps_aload rfl rfl ?_
        refine ps_ar rfl rfl rfl rfl rfl ?_
        refine ps_gfi 11 15 rfl rfl rfl rfl rfl ?_
        rw [show ((I3, L3, g_R s, 306) : pm_H).1 275 15 = nI B.ps from ps3]
        refine pw_c rfl ?_
        refine ps_ar rfl rfl rfl rfl rfl ?_
        rw [show nI B.ps + 1 = nI (B.ps + 1) from nI_1 B.ps]
        refine ps_pfi 11 15 rfl rfl rfl rfl rfl ?_
        refine ps_vret rfl rfl ?_
        have o : ∀ a j, ¬ a = 275 → pm_u I3 275 15 (nI (B.ps + 1)) a j = I3 a j := fun a j h => pu_o h
        refine kO _ _ xp _ _ (mF_u (mF_t (mF_t (mF_d d1) (mF_d d2)) (mG_F g3)) (by omega)) (lF_t l1' (lF_t (lF_l l2) (lNb_F l3))) (mC_of m3 (fun j hj => pu_n hj) (fun j => pu_o (by decide)) (fun _ _ _ _ => rfl)) ⟨pu_s, fun k hk => ?_, fun q hq => ?_, ?_, ?_, fun q hq k hk j hj => ?_⟩
        · show _ = nI (if k = B.ps then P else B.pl k).w ∧ _ = nI (if k = B.ps then P else B.pl k).v ∧ nmR (if k = B.ps then P else B.pl k).nm _ ∧ _
          have hk : k < B.ps + 1 := hk
          by_cases ek : k = B.ps
          · subst ek
            have eP : (B.adP P).pl B.ps = P := if_pos rfl
            rw [eP, if_pos rfl, nn, puL_s, en]
            exact ⟨(o _ _ (by decide)).trans p3.1, (o _ _ (by decide)).trans p3.2.1, wd, fun i hi => ⟨(o _ _ (by decide)).trans (p3.2.2 i hi).1, (o _ _ (by decide)).trans (p3.2.2 i hi).2⟩⟩
          · have hk2 : k < B.ps := by omega
            have eP : (B.adP P).pl k = B.pl k := if_neg ek
            have pk := mG_o (mBn_P hB2 hk2) (ok_sz ok hk2) hk2 g3
            rw [eP, if_neg ek, nn]
            exact ⟨(o _ _ (by decide)).trans pk.1, (o _ _ (by decide)).trans pk.2.1, (hB1'.2.1 k hk2).2.2.1, fun i hi => ⟨(o _ _ (by decide)).trans (pk.2.2 i hi).1, (o _ _ (by decide)).trans (pk.2.2 i hi).2⟩⟩
        · exact (o _ _ (by decide)).trans ((g3 _ _ (by omega)).trans (hB2.2.2.1 q hq))
        · exact (o _ _ (by decide)).trans ((g3 _ _ (by omega)).trans hB2.2.2.2.1)
        · exact (o _ _ (by decide)).trans ((g3 _ _ (by omega)).trans hB2.2.2.2.2.1)
        · exact (o _ _ (by decide)).trans ((g3 _ _ (by omega)).trans (hB2.2.2.2.2.2 q hq k hk j hj))
  · rw [decide_eq_false hnm]
    rw [if_neg hnm] at xp
    have hw : 0 < (bdI I1 (eK J (t + 1)) (J 8 (t + 1)) 275 46).toInt := bd_wb eK_pos
    refine pw_c rfl ?_
    refine pw_k rfl rfl rfl rfl ⟨Nat.zero_le _, Nat.zero_le _⟩ ?_
    refine M_must2 S m1 ?_
    refine ps_aload rfl rfl ?_
    refine ps_aload rfl rfl ?_
    refine pw_k rfl rfl rfl rfl ⟨Nat.zero_le _, Nat.zero_le _⟩ ?_
    refine M_good ?_
    rw [decide_eq_false (w_nz hw)]
    refine ps_ift rfl (rfl) ?_
    refine pw_c rfl ?_
    refine ps_goto rfl ?_
    refine pw_c rfl ?_
    refine pw_k rfl rfl rfl rfl ⟨Nat.zero_le _, Nat.zero_le _⟩ ?_
    refine M_mustT (by decide) ?_
    refine ps_aload rfl rfl ?_
    refine pw_k rfl rfl rfl rfl ⟨Nat.zero_le _, Nat.zero_le _⟩ ?_
    refine M_good ?_
    rw [decide_eq_false (w_nz hw)]
    refine ps_ift rfl (rfl) ?_
    exact bad _ _ _ _ xp (mF_b (mF_d d1)) (lF_l l1) (mX_b eK_pos)
theorem mBn_now {x : Int32} {i : Nat} {B' : sB} (hB : mBn B I L) (hi : i = 3 ∨ i = 4) (ok : B.ok) (e1 : B'.ps = B.ps) (e2 : B'.pl = B.pl) (e3 : B'.n = B.n) (e4 : B'.sc = B.sc) (e5 : B'.bk = if i = 3 then x else B.bk) (e6 : B'.us = if i = 4 then x else B.us) : mBn B' (pm_u I 289 i x) L := by
  obtain ⟨b1, b2, b3, b4, b5, b6⟩ := hB
  unfold mBn
  rw [e1, e2, e3, e4, e5, e6]
  refine ⟨(pu_o (by decide)).trans b1, fun k hk => ?_, fun q hq => (pu_n (by omega)).trans (b3 q hq), ?_, ?_, fun q hq k hk j hj => ?_⟩
  · obtain ⟨c1, c2, c3, c4⟩ := b2 k hk
    exact ⟨(pu_o (by decide)).trans c1, (pu_o (by decide)).trans c2, c3, fun i hi => ⟨(pu_o (by decide)).trans (c4 i hi).1, (pu_o (by decide)).trans (c4 i hi).2⟩⟩
  · by_cases z : i = 3
    · rw [if_pos z, z, pu_s]
    · rw [if_neg z, pu_n (by omega)]
      exact b4
  · by_cases z : i = 4
    · rw [if_pos z, z, pu_s]
    · rw [if_neg z, pu_n (by omega)]
      exact b5
  · have := (rw_b hq (Nat.lt_of_lt_of_le hk (sB.ok_n ok hq))).2
    exact (pu_n (by omega)).trans (b6 q hq k hk j hj)
theorem M_lineX (S : stX f T J n c) (m : mC J T c n t I L) (hB : mBn B I L) (ok : B.ok) (kB : ∀ k u, xLin f J c B t = .error (k, u) → ∀ I' L', mF I I' → lF L L' → mX I' k (J 8 u) → Q [] (I', L', g_R s, 306)) (kO : ∀ u B', xLin f J c B t = .ok (u, B') → ∀ I' L', mF I I' → lF L L' → mC J T c n u I' L' → mBn B' I' L' → Q [] (I', L', g_R s, 306)) : pm_W (g_P ys) 282 0 [.ref 275] [] (I, L, g_R s, 306) (0, 0) Q := by
  have jB : ∀ I2 L2 k u, xLn1 f J c B t = .error (k, u) → mF I I2 → lF L L2 → mX I2 k (J 8 u) → pm_W (g_P ys) 282 128 [.ref 275] [] (I2, L2, g_R s, 306) (0, 0) Q := by
    intro I2 L2 k u e f2 l2 x2
    have hw := mX_w x2
    have xe : xLin f J c B t = .error (k, u) := by
      unfold xLin
      rw [e]
      rfl
    have fin : ∀ b : Int32, pm_W (g_P ys) 282 142 [.ref 275] [.int b, .ref 275] (I2, L2, g_R s, 306) (0, 0) Q := by
      intro b
      refine pw_c rfl ?_
      refine pw_k rfl rfl rfl rfl ⟨Nat.zero_le _, Nat.zero_le _⟩ ?_
      refine M_mustB hw ?_
      refine ps_aload rfl rfl ?_
      refine pw_k rfl rfl rfl rfl ⟨Nat.zero_le _, Nat.zero_le _⟩ ?_
      refine M_goesOnB (w_nz hw) ?_
      refine ps_vret rfl rfl ?_
      exact kB _ _ xe _ _ f2 l2 x2
    refine ps_aload rfl rfl ?_
    refine ps_aload rfl rfl ?_
    refine ps_gfi 11 50 rfl rfl rfl rfl rfl ?_
    refine pw_c rfl ?_
    refine ps_icmp rfl (fun hc => ?_) (fun hc => ?_)
    · refine pw_c rfl ?_
      exact fin 0
    · refine pw_c rfl ?_
      refine ps_goto rfl ?_
      exact fin 1
  have jO : ∀ I2 L2 u B', xLn1 f J c B t = .ok (u, B') → mF I I2 → lF L L2 → mC J T c n u I2 L2 → mBn B' I2 L2 → pm_W (g_P ys) 282 128 [.ref 275] [] (I2, L2, g_R s, 306) (0, 0) Q := by
    intro I2 L2 u B' e f2 l2 m2 b2
    have so := (cu_so S m2).2.2.2.2.1
    have xe : xLin f J c B t = if J 7 u = 5 then .ok (u + 1, B') else .error (eK J u, u) := by
      unfold xLin
      rw [e]
      rfl
    by_cases h5 : J 7 u = 5
    · rw [if_pos h5] at xe
      refine ps_aload rfl rfl ?_
      refine ps_aload rfl rfl ?_
      refine ps_gfi 11 50 rfl rfl rfl rfl rfl ?_
      rw [show ((I2, L2, g_R s, 306) : pm_H).1 275 50 = 3 from so.mpr h5]
      refine pw_c rfl ?_
      refine ps_icmpf rfl (rfl) ?_
      refine pw_c rfl ?_
      refine ps_goto rfl ?_
      refine pw_c rfl ?_
      refine pw_k rfl rfl rfl rfl ⟨Nat.zero_le _, Nat.zero_le _⟩ ?_
      refine M_mustT (by decide) ?_
      refine ps_aload rfl rfl ?_
      refine pw_k rfl rfl rfl rfl ⟨Nat.zero_le _, Nat.zero_le _⟩ ?_
      refine M_goesOn S m2 (cu_lt S m2 (by rw [h5]; decide)) ?_
      intro I3 L3 d3 l3 m3
      refine ps_vret rfl rfl ?_
      exact kO _ _ xe _ _ (mF_t f2 (mF_d d3)) (lF_t l2 (lF_l l3)) m3 (mBn_d b2 d3 l3)
    · rw [if_neg h5] at xe
      have hw : 0 < (bdI I2 (eK J u) (J 8 u) 275 46).toInt := bd_wb eK_pos
      refine ps_aload rfl rfl ?_
      refine ps_aload rfl rfl ?_
      refine ps_gfi 11 50 rfl rfl rfl rfl rfl ?_
      refine pw_c rfl ?_
      refine ps_icmpt rfl (decide_eq_true (fun z => h5 (so.mp z))) ?_
      refine pw_c rfl ?_
      refine pw_c rfl ?_
      refine pw_k rfl rfl rfl rfl ⟨Nat.zero_le _, Nat.zero_le _⟩ ?_
      refine M_must2 S m2 ?_
      refine ps_aload rfl rfl ?_
      refine pw_k rfl rfl rfl rfl ⟨Nat.zero_le _, Nat.zero_le _⟩ ?_
      refine M_goesOnB (w_nz hw) ?_
      refine ps_vret rfl rfl ?_
      exact kB _ _ xe _ _ (mF_b f2) l2 (mX_b eK_pos)
  have xf : xLn1 f J c B t = xLn1 f J c B t := rfl
  conv at xf => rhs; unfold xLn1
  refine ps_aload rfl rfl ?_
  refine pw_c rfl ?_
  refine pw_k rfl rfl rfl rfl ⟨Nat.zero_le _, Nat.zero_le _⟩ ?_
  refine M_isW (w := 0) (x := 0) S m (by decide) rfl rfl (fun h2 hk => ?_) (fun n0 => ?_)
  · rw [if_pos h2, if_pos hk] at xf
    refine ps_iff rfl (rfl) ?_
    refine ps_aload rfl rfl ?_
    refine pw_k rfl rfl rfl rfl ⟨Nat.zero_le _, Nat.zero_le _⟩ ?_
    refine M_readsPlate S m (cu_lt S m (by rw [h2]; decide)) hB ok (fun k u ex I2 L2 f2 l2 x2 => ?_) (fun u B' ex I2 L2 f2 l2 m2 b2 => ?_)
    · refine ps_goto rfl ?_
      exact jB _ _ _ _ (xf.trans ex) f2 l2 x2
    · refine ps_goto rfl ?_
      exact jO _ _ _ _ (xf.trans ex) f2 l2 m2 b2
  refine ps_ift rfl (rfl) ?_
  refine ps_aload rfl rfl ?_
  refine pw_c rfl ?_
  refine pw_k rfl rfl rfl rfl ⟨Nat.zero_le _, Nat.zero_le _⟩ ?_
  refine M_isW (w := 7) (x := 8) S m (by decide) rfl rfl (fun h2 hk => ?_) (fun n8 => ?_)
  · rw [if_pos h2, if_neg (fun z => n0 ⟨h2, z⟩), if_pos hk] at xf
    refine ps_iff rfl (rfl) ?_
    refine ps_aload rfl rfl ?_
    refine pw_c rfl ?_
    refine pw_c rfl ?_
    refine pw_k rfl rfl rfl rfl ⟨Nat.zero_le _, Nat.zero_le _⟩ ?_
    refine M_readsThing (q := 0) (by omega) S m (cu_lt S m (by rw [h2]; decide)) hB ok (fun k u ex I2 L2 f2 l2 x2 => ?_) (fun u B' ex I2 L2 f2 l2 m2 b2 => ?_)
    · refine ps_goto rfl ?_
      exact jB _ _ _ _ (xf.trans ex) f2 l2 x2
    · refine ps_goto rfl ?_
      exact jO _ _ _ _ (xf.trans ex) f2 l2 m2 b2
  refine ps_ift rfl (rfl) ?_
  refine ps_aload rfl rfl ?_
  refine pw_c rfl ?_
  refine pw_k rfl rfl rfl rfl ⟨Nat.zero_le _, Nat.zero_le _⟩ ?_
  refine M_isW (w := 8) (x := 9) S m (by decide) rfl rfl (fun h2 hk => ?_) (fun n9 => ?_)
  · rw [if_pos h2, if_neg (fun z => n0 ⟨h2, z⟩), if_neg (fun z => n8 ⟨h2, z⟩), if_pos hk] at xf
    refine ps_iff rfl (rfl) ?_
    refine ps_aload rfl rfl ?_
    refine pw_c rfl ?_
    refine pw_c rfl ?_
    refine pw_k rfl rfl rfl rfl ⟨Nat.zero_le _, Nat.zero_le _⟩ ?_
    refine M_readsThing (q := 1) (by omega) S m (cu_lt S m (by rw [h2]; decide)) hB ok (fun k u ex I2 L2 f2 l2 x2 => ?_) (fun u B' ex I2 L2 f2 l2 m2 b2 => ?_)
    · refine ps_goto rfl ?_
      exact jB _ _ _ _ (xf.trans ex) f2 l2 x2
    · refine ps_goto rfl ?_
      exact jO _ _ _ _ (xf.trans ex) f2 l2 m2 b2
  refine ps_ift rfl (rfl) ?_
  refine ps_aload rfl rfl ?_
  refine pw_c rfl ?_
  refine pw_k rfl rfl rfl rfl ⟨Nat.zero_le _, Nat.zero_le _⟩ ?_
  refine M_isW (w := 9) (x := 10) S m (by decide) rfl rfl (fun h2 hk => ?_) (fun n10 => ?_)
  · rw [if_pos h2, if_neg (fun z => n0 ⟨h2, z⟩), if_neg (fun z => n8 ⟨h2, z⟩), if_neg (fun z => n9 ⟨h2, z⟩), if_pos hk] at xf
    refine ps_iff rfl (rfl) ?_
    refine ps_aload rfl rfl ?_
    refine pw_c rfl ?_
    refine pw_c rfl ?_
    refine pw_k rfl rfl rfl rfl ⟨Nat.zero_le _, Nat.zero_le _⟩ ?_
    refine M_readsThing (q := 2) (by omega) S m (cu_lt S m (by rw [h2]; decide)) hB ok (fun k u ex I2 L2 f2 l2 x2 => ?_) (fun u B' ex I2 L2 f2 l2 m2 b2 => ?_)
    · refine ps_goto rfl ?_
      exact jB _ _ _ _ (xf.trans ex) f2 l2 x2
    · refine ps_goto rfl ?_
      exact jO _ _ _ _ (xf.trans ex) f2 l2 m2 b2
  refine ps_ift rfl (rfl) ?_
  refine ps_aload rfl rfl ?_
  refine pw_c rfl ?_
  refine pw_k rfl rfl rfl rfl ⟨Nat.zero_le _, Nat.zero_le _⟩ ?_
  refine M_isW (w := 10) (x := 11) S m (by decide) rfl rfl (fun h2 hk => ?_) (fun n11 => ?_)
  · rw [if_pos h2, if_neg (fun z => n0 ⟨h2, z⟩), if_neg (fun z => n8 ⟨h2, z⟩), if_neg (fun z => n9 ⟨h2, z⟩), if_neg (fun z => n10 ⟨h2, z⟩), if_pos hk] at xf
    refine ps_iff rfl (rfl) ?_
    refine ps_aload rfl rfl ?_
    refine pw_k rfl rfl rfl rfl ⟨Nat.zero_le _, Nat.zero_le _⟩ ?_
    refine M_goesOn S m (cu_lt S m (by rw [h2]; decide)) ?_
    intro I1 L1 d1 l1 m1
    refine ps_aload rfl rfl ?_
    refine ps_gfr 11 17 rfl rfl rfl rfl rfl (rfl) ?_
    refine pw_c rfl ?_
    refine ps_aload rfl rfl ?_
    refine pw_c rfl ?_
    refine pw_c rfl ?_
    refine pw_k rfl rfl rfl rfl ⟨Nat.zero_le _, Nat.zero_le _⟩ ?_
    refine M_takesNumber (lo := 0) (hi := 99) S m1 (fun k u ex kp => ?_) (fun x ex I2 L2 d2 l2 m2 => ?_)
    · rw [show xNum J 0 99 (t + 1) = _ from ex] at xf
      refine ps_iast (3) rfl rfl rfl (rfl) (by omega) ?_
      refine ps_goto rfl ?_
      exact jB _ _ _ _ xf (mF_u (mF_b (mF_d d1)) (by omega)) (lF_l l1) (mX_u (mX_b kp) (by omega))
    · rw [show xNum J 0 99 (t + 1) = _ from ex] at xf
      refine ps_iast (3) rfl rfl rfl (rfl) (by omega) ?_
      refine ps_goto rfl ?_
      exact jO _ _ _ _ xf (mF_u (mF_t (mF_d d1) (mF_d d2)) (by omega)) (lF_l (lA_t l1 l2)) (mC_u m2 (by decide) (by decide)) (mBn_now (x := x) (i := 3) (mBn_d (mBn_d hB d1 l1) d2 l2) (Or.inl rfl) ok rfl rfl rfl rfl rfl rfl)
  refine ps_ift rfl (rfl) ?_
  refine ps_aload rfl rfl ?_
  refine ps_aload rfl rfl ?_
  refine pw_c rfl ?_
  refine pw_k rfl rfl rfl rfl ⟨Nat.zero_le _, Nat.zero_le _⟩ ?_
  refine M_isW (w := 11) (x := 12) S m (by decide) rfl rfl (fun h2 hk => ?_) (fun n12 => ?_)
  · rw [if_pos h2, if_neg (fun z => n0 ⟨h2, z⟩), if_neg (fun z => n8 ⟨h2, z⟩), if_neg (fun z => n9 ⟨h2, z⟩), if_neg (fun z => n10 ⟨h2, z⟩), if_neg (fun z => n11 ⟨h2, z⟩), if_pos hk] at xf
    refine pw_c rfl ?_
    refine pw_k rfl rfl rfl rfl ⟨Nat.zero_le _, Nat.zero_le _⟩ ?_
    refine M_mustT (by decide) ?_
    refine ps_aload rfl rfl ?_
    refine pw_k rfl rfl rfl rfl ⟨Nat.zero_le _, Nat.zero_le _⟩ ?_
    refine M_goesOn S m (cu_lt S m (by rw [h2]; decide)) ?_
    intro I1 L1 d1 l1 m1
    refine ps_aload rfl rfl ?_
    refine ps_gfr 11 17 rfl rfl rfl rfl rfl (rfl) ?_
    refine pw_c rfl ?_
    refine ps_aload rfl rfl ?_
    refine pw_c rfl ?_
    refine pw_c rfl ?_
    refine pw_k rfl rfl rfl rfl ⟨Nat.zero_le _, Nat.zero_le _⟩ ?_
    refine M_takesPlate (b := 0) (wd := 1) S m1 (mBn_d hB d1 l1) ok (Or.inl rfl) (by omega) (if_pos rfl).symm (fun k u ex kp => ?_) (fun k ex I2 L2 d2 l2 m2 => ?_)
    · rw [ex] at xf
      refine ps_iast (4) rfl rfl rfl (rfl) (by omega) ?_
      exact jB _ _ _ _ xf (mF_u (mF_b (mF_d d1)) (by omega)) (lF_l l1) (mX_u (mX_b kp) (by omega))
    · rw [ex] at xf
      refine ps_iast (4) rfl rfl rfl (rfl) (by omega) ?_
      exact jO _ _ _ _ xf (mF_u (mF_t (mF_d d1) (mF_d d2)) (by omega)) (lF_l (lA_t l1 l2)) (mC_u m2 (by decide) (by decide)) (mBn_now (x := nI k) (i := 4) (mBn_d (mBn_d hB d1 l1) d2 l2) (Or.inr rfl) ok rfl rfl rfl rfl rfl rfl)
  · have hw : 0 < (bdI I (eK J t) (J 8 t) 275 46).toInt := bd_wb eK_pos
    have xe : xLn1 f J c B t = .error (eK J t, t) := by
      by_cases h2 : J 7 t = 2
      · rw [if_pos h2, if_neg (fun z => n0 ⟨h2, z⟩), if_neg (fun z => n8 ⟨h2, z⟩), if_neg (fun z => n9 ⟨h2, z⟩), if_neg (fun z => n10 ⟨h2, z⟩), if_neg (fun z => n11 ⟨h2, z⟩), if_neg (fun z => n12 ⟨h2, z⟩)] at xf
        rw [xf, eK_w h2]
      · rw [if_neg h2] at xf
        exact xf
    refine pw_c rfl ?_
    refine pw_k rfl rfl rfl rfl ⟨Nat.zero_le _, Nat.zero_le _⟩ ?_
    refine M_must2 S m ?_
    refine ps_aload rfl rfl ?_
    refine pw_k rfl rfl rfl rfl ⟨Nat.zero_le _, Nat.zero_le _⟩ ?_
    refine M_goesOnB (w_nz hw) ?_
    refine ps_aload rfl rfl ?_
    refine ps_gfr 11 17 rfl rfl rfl rfl rfl (rfl) ?_
    refine pw_c rfl ?_
    refine ps_aload rfl rfl ?_
    refine pw_c rfl ?_
    refine pw_c rfl ?_
    refine pw_k rfl rfl rfl rfl ⟨Nat.zero_le _, Nat.zero_le _⟩ ?_
    refine M_takesPlateB hw ?_
    refine ps_iast (4) rfl rfl rfl (rfl) (by omega) ?_
    exact jB _ _ _ _ xe (mF_u (mF_b mF_r) (by omega)) lF_r (mX_u (mX_b eK_pos) (by omega))
end KO
