/-! BY HAND: the model's forms, exactly -/
section KN
def btF (f : Nat → Int32) (J : Nat → Nat → Int32) (u x : Nat) : Bool := decide ((f ((J 8 u).toInt.toNat + 1 + x)).toInt = 49)
/-- what stands behind the NAME of a PLATE: where the text goes on, the PLATE -/
def xFrm (f : Nat → Int32) (J : Nat → Nat → Int32) (c : Nat) (B : sB) (nm : Int32) (t : Nat) : sR (Nat × sPl) :=
  if J 7 t = 2 then
    if kwF (J 10 t) = 1 then (xPri J 47 (t + 1)).bind fun p => .ok (t + 2, pRow nm p.toInt.toNat)
    else if kwF (J 10 t) = 7 then (xPri J 17 (t + 1)).bind fun p => .ok (t + 2, pSq nm p.toInt.toNat)
    else if kwF (J 10 t) = 2 then (if J 7 (t + 1) = 4 then .ok (t + 2, pBit nm (J 10 (t + 1)).toInt.toNat (btF f J (t + 1))) else .error (eK J (t + 1), t + 1))
    else if kwF (J 10 t) = 3 then (xSet J c (t + 1)).bind fun p => .ok (p.1, pSet nm p.2.1 p.2.2)
    else if kwF (J 10 t) = 4 then (xNam J B (t + 1)).bind fun k => (xNum J 0 99 (t + 2)).bind fun a => (xNum J 0 99 (t + 3)).bind fun b => .ok (t + 4, pTurn nm (B.pl k) a.toInt.toNat b.toInt.toNat)
    else if kwF (J 10 t) = 5 then (xNam J B (t + 1)).bind fun k => .ok (t + 2, pNeg nm (B.pl k))
    else if kwF (J 10 t) = 6 then (xNaB J B 1 (t + 1)).bind fun a => (xNaB J B (B.pl a).w (t + 2)).bind fun b => .ok (t + 3, pBoth nm (B.pl a) (B.pl b))
    else .error (2, t)
  else .error (eK J t, t)
def lNb (L L' : Nat → Nat → Int64) : Prop := ∀ a j : Nat, ¬ (a = 285 ∨ (a = 275 ∧ j = 54)) → L' a j = L a j
variable {f T : Nat → Int32} {J I I' I'' : Nat → Nat → Int32} {L L' L'' : Nat → Nat → Int64} {n c t r w : Nat} {s : Nat → Option Nat} {Q : List Value → pm_H → Prop} {ys : List Int32} {B : sB}
theorem puL_s {a k : Nat} {x : Int64} : pm_u L a k x a k = x := by
  unfold pm_u
  rw [if_pos rfl, if_pos rfl]
theorem puL_n {a j k : Nat} {x : Int64} (h : ¬ j = k) : pm_u L a k x a j = L a j := by
  unfold pm_u
  rw [if_pos rfl, if_neg h]
theorem puL_o {a b j k : Nat} {x : Int64} (h : ¬ b = a) : pm_u L a k x b j = L b j := by
  unfold pm_u
  rw [if_neg h]
theorem lNb_l (h : lA L L') : lNb L L' := fun a j q => h a j (fun z => q (by omega))
theorem lNb_t (h : lNb L L') (k : lNb L' L'') : lNb L L'' := fun a j q => (k a j q).trans (h a j q)
theorem lNb_F (h : lNb L L') : lF L L' := fun a j q => h a j (fun z => q (by omega))
theorem lA_t (h : lA L L') (k : lA L' L'') : lA L L'' := fun a j q => (k a j q).trans (h a j q)
theorem M_isW {w : Nat} {x z : Int32} (S : stX f T J n c) (m : mC J T c n t I L) (hw : w < 13) (hz : z = nI w) (hx : clsK w = x) (k1 : J 7 t = 2 → kwF (J 10 t) = x → Q [.int 1] (I, L, g_R s, 306)) (k0 : ¬ (J 7 t = 2 ∧ kwF (J 10 t) = x) → Q [.int 0] (I, L, g_R s, 306)) : pm_W (g_P ys) 283 0 [.ref 275, .int z] [] (I, L, g_R s, 306) (0, 0) Q := by
  subst hz hx
  refine M_isWord S m hw ?_
  by_cases e : J 7 t = 2 ∧ kwF (J 10 t) = clsK w
  · rw [decide_eq_true e]
    exact k1 e.1 e.2
  · rw [decide_eq_false e]
    exact k0 e
theorem mC_k (m : mC J T c n t I L) (h : mkF r I I') : mC J T c n t I' L := mC_of m (fun j _ => h _ _ (by omega)) (fun j => h _ _ (by omega)) (fun _ _ _ _ => rfl)
theorem mBn_P (hB : mBn B I L) {k : Nat} (hk : k < B.ps) : mkP k (B.pl k) I := ⟨(hB.2.1 k hk).1, (hB.2.1 k hk).2.1, (hB.2.1 k hk).2.2.2⟩
theorem ok_sz (ok : B.ok) {k : Nat} (hk : k < B.ps) : szP (B.pl k) := ⟨(ok.2.1 k hk).1, (ok.2.1 k hk).2.1, (ok.2.1 k hk).2.2.1⟩
theorem mkP_c {P R : sPl} (h : mkP r P I) (e1 : P.w = R.w) (e2 : P.v = R.v) (e : ∀ i, i < R.w * R.v → P.ho i = R.ho i ∧ P.we i = R.we i) : mkP r R I := by
  obtain ⟨h1, h2, h3⟩ := h
  rw [e1, e2] at h3
  exact ⟨by rw [← e1]; exact h1, by rw [← e2]; exact h2, fun i hi => ⟨(h3 i hi).1.trans (e i hi).1, (h3 i hi).2.trans (e i hi).2⟩⟩
theorem xNam_lt {k : Nat} (h : xNam J B t = .ok k) : k < B.ps := by
  unfold xNam at h
  split at h
  · split at h
    · split at h
      · cases h
      · rename_i e
        cases h
        have := fnN_lt e
        omega
    · cases h
  · cases h
theorem xNaB_ok {k wd : Nat} (h : xNaB J B wd t = .ok k) : k < B.ps ∧ (B.pl k).v = 1 ∧ (B.pl k).w * wd ≤ 289 := by
  unfold xNaB at h
  split at h
  · cases h
  · rename_i e
    split at h
    · cases h
      rename_i q
      exact ⟨xNam_lt e, q.1, q.2⟩
    · cases h
theorem xNum_ok {lo hi : Int} {v : Int32} (h : xNum J lo hi t = .ok v) : v = J 10 t ∧ lo ≤ v.toInt ∧ v.toInt ≤ hi := by
  unfold xNum at h
  split at h
  · split at h
    · rename_i q
      cases h
      exact ⟨rfl, q⟩
    · cases h
  · cases h
theorem xPri_ok {hi : Int} {v : Int32} (h : xPri J hi t = .ok v) : v = J 10 t ∧ 3 ≤ v.toInt ∧ v.toInt ≤ 47 ∧ v.toInt ≤ hi := by
  unfold xPri at h
  split at h
  · split at h
    · rename_i q
      cases h
      exact ⟨rfl, q.2.1, q.2.2.1, q.1⟩
    · cases h
  · cases h
theorem nI_oz {x : Int32} {k : Nat} (h : k = x.toInt.toNat) (h0 : 0 ≤ x.toInt) : x = nI k := (i_eq _ _).mpr (by
  have := i_bd x
  rw [nI_toInt (by omega)]
  omega)
/-- BITS at a token -/
theorem tk_bits (S : stX f T J n c) (ht : t < c) (h4 : J 7 t = 4) : ∃ q k, J 8 t = nI q ∧ J 10 t = nI k ∧ 1 ≤ k ∧ k ≤ 40 ∧ q + 1 + k ≤ n ∧ ∀ x, x < k → inR 48 49 (f (q + 1 + x)) := by
  obtain ⟨q, e, d1, d2, d3, d4, d5, d6, d7, d8, d9⟩ := S.1.1 t ht
  rw [h4] at d9
  rcases d9 with ⟨_, _, d, _⟩ | ⟨_, _, d, _⟩ | ⟨_, r, d, v⟩ | ⟨_, _, _, _, d, _⟩
  · exfalso
    split at d <;> exact absurd d (by decide)
  · exfalso
    split at d <;> exact absurd d (by decide)
  · split at d
    · rename_i z
      obtain ⟨r1, r2, r3, _⟩ := r
      exact ⟨q, e - q - 1, d1, v, z.1, z.2, by omega, fun x hx => r3 _ (by omega) (by omega)⟩
    · exact absurd d (by decide)
  · exfalso
    split at d <;> exact absurd d (by decide)
theorem rf_out {a b d : Value} (k : Q [] (I', L', g_R s, 306)) : pm_W (g_P ys) 290 282 [.ref 275, a, b, d] [] (I', L', g_R s, 306) (0, 0) Q := by
  refine ps_vret rfl rfl ?_
  exact k
theorem rf_row {nm : Int32} (S : stX f T J n c) (m : mC J T c n t I L) (hB : mBn B I L) (ok : B.ok) (hr : B.ps < 6) (h2 : J 7 t = 2) (xf : xFrm f J c B nm t = (xPri J 47 (t + 1)).bind fun p => .ok (t + 2, pRow nm p.toInt.toNat)) (kB : ∀ k u, xFrm f J c B nm t = .error (k, u) → ∀ I' L', mG B.ps I I' → lNb L L' → mX I' k (J 8 u) → Q [] (I', L', g_R s, 306)) (kO : ∀ u P, xFrm f J c B nm t = .ok (u, P) → ∀ I' L', mG B.ps I I' → lNb L L' → mC J T c n u I' L' → mkP B.ps P I' → Q [] (I', L', g_R s, 306)) : pm_W (g_P ys) 290 5 [.ref 275, .retAddr 0, .retAddr 0, .retAddr 0] [.int 1] (I, L, g_R s, 306) (0, 0) Q := by
  have hn := hB.1
  have ht := cu_lt S m (by rw [h2]; decide)
  refine ps_iff rfl (rfl) ?_
  refine ps_aload rfl rfl ?_
  refine pw_k rfl rfl rfl rfl ⟨Nat.zero_le _, Nat.zero_le _⟩ ?_
  refine M_goesOn S m ht ?_
  intro I1 L1 d1 l1 m1
  refine ps_aload rfl rfl ?_
  refine pw_c rfl ?_
  refine pw_k rfl rfl rfl rfl ⟨Nat.zero_le _, Nat.zero_le _⟩ ?_
  refine M_takesPrime (hi := 47) S m1 (fun k u ex kp => ?_) (fun v ex I2 L2 d2 l2 m2 => ?_)
  · rw [show xPri J 47 (t + 1) = _ from ex] at xf
    refine ps_istore rfl rfl ?_
    refine ps_aload rfl rfl ?_
    refine pw_k rfl rfl rfl rfl ⟨Nat.zero_le _, Nat.zero_le _⟩ ?_
    refine M_good ?_
    rw [decide_eq_false (w_nz (bd_wb kp))]
    refine ps_ift rfl (rfl) ?_
    refine ps_goto rfl ?_
    exact rf_out (kB k u xf _ _ (mG_b (mG_d d1)) (lNb_l l1) (mX_b kp))
  · obtain ⟨_, v3, v47, _⟩ := xPri_ok ex
    rw [show xPri J 47 (t + 1) = _ from ex] at xf
    obtain ⟨p, hp⟩ : ∃ p, p = v.toInt.toNat := ⟨_, rfl⟩
    have ev := nI_oz hp (by omega)
    have xf : xFrm f J c B nm t = .ok (t + 2, pRow nm p) := by rw [hp]; exact xf
    rw [ev]
    refine ps_istore rfl rfl ?_
    refine ps_aload rfl rfl ?_
    refine pw_k rfl rfl rfl rfl ⟨Nat.zero_le _, Nat.zero_le _⟩ ?_
    refine M_good ?_
    rw [decide_eq_true m2.1]
    refine ps_iff rfl (rfl) ?_
    refine ps_aload rfl rfl ?_
    refine ps_iload rfl rfl ?_
    refine pw_k rfl rfl rfl rfl ⟨Nat.zero_le _, Nat.zero_le _⟩ ?_
    refine M_makesRow (nm := nm) ((d2 _ _ (by decide)).trans ((d1 _ _ (by decide)).trans hn)) hr (by omega) (by omega) ?_
    intro I3 f3 p3
    refine ps_goto rfl ?_
    exact rf_out (kO _ _ xf _ _ (mG_t (mG_d d1) (mG_t (mG_d d2) (mG_k f3))) (lNb_l (lA_t l1 l2)) (mC_k m2 f3) p3)
theorem rf_sq {nm : Int32} (S : stX f T J n c) (m : mC J T c n t I L) (hB : mBn B I L) (ok : B.ok) (hr : B.ps < 6) (h2 : J 7 t = 2) (xf : xFrm f J c B nm t = (xPri J 17 (t + 1)).bind fun p => .ok (t + 2, pSq nm p.toInt.toNat)) (kB : ∀ k u, xFrm f J c B nm t = .error (k, u) → ∀ I' L', mG B.ps I I' → lNb L L' → mX I' k (J 8 u) → Q [] (I', L', g_R s, 306)) (kO : ∀ u P, xFrm f J c B nm t = .ok (u, P) → ∀ I' L', mG B.ps I I' → lNb L L' → mC J T c n u I' L' → mkP B.ps P I' → Q [] (I', L', g_R s, 306)) : pm_W (g_P ys) 290 40 [.ref 275, .retAddr 0, .retAddr 0, .retAddr 0] [.int 1] (I, L, g_R s, 306) (0, 0) Q := by
  have hn := hB.1
  have ht := cu_lt S m (by rw [h2]; decide)
  refine ps_iff rfl (rfl) ?_
  refine ps_aload rfl rfl ?_
  refine pw_k rfl rfl rfl rfl ⟨Nat.zero_le _, Nat.zero_le _⟩ ?_
  refine M_goesOn S m ht ?_
  intro I1 L1 d1 l1 m1
  refine ps_aload rfl rfl ?_
  refine pw_c rfl ?_
  refine pw_k rfl rfl rfl rfl ⟨Nat.zero_le _, Nat.zero_le _⟩ ?_
  refine M_takesPrime (hi := 17) S m1 (fun k u ex kp => ?_) (fun v ex I2 L2 d2 l2 m2 => ?_)
  · rw [show xPri J 17 (t + 1) = _ from ex] at xf
    refine ps_istore rfl rfl ?_
    refine ps_aload rfl rfl ?_
    refine pw_k rfl rfl rfl rfl ⟨Nat.zero_le _, Nat.zero_le _⟩ ?_
    refine M_good ?_
    rw [decide_eq_false (w_nz (bd_wb kp))]
    refine ps_ift rfl (rfl) ?_
    refine ps_goto rfl ?_
    exact rf_out (kB k u xf _ _ (mG_b (mG_d d1)) (lNb_l l1) (mX_b kp))
  · obtain ⟨_, v3, v47, v17⟩ := xPri_ok ex
    have v17 : v.toInt ≤ 17 := v17
    rw [show xPri J 17 (t + 1) = _ from ex] at xf
    obtain ⟨p, hp⟩ : ∃ p, p = v.toInt.toNat := ⟨_, rfl⟩
    have ev := nI_oz hp (by omega)
    have xf : xFrm f J c B nm t = .ok (t + 2, pSq nm p) := by rw [hp]; exact xf
    rw [ev]
    refine ps_istore rfl rfl ?_
    refine ps_aload rfl rfl ?_
    refine pw_k rfl rfl rfl rfl ⟨Nat.zero_le _, Nat.zero_le _⟩ ?_
    refine M_good ?_
    rw [decide_eq_true m2.1]
    refine ps_iff rfl (rfl) ?_
    refine ps_aload rfl rfl ?_
    refine ps_iload rfl rfl ?_
    refine pw_k rfl rfl rfl rfl ⟨Nat.zero_le _, Nat.zero_le _⟩ ?_
    refine M_makesSquare (nm := nm) ((d2 _ _ (by decide)).trans ((d1 _ _ (by decide)).trans hn)) hr (by omega) (by omega) ?_
    intro I3 f3 p3
    refine ps_goto rfl ?_
    exact rf_out (kO _ _ xf _ _ (mG_t (mG_d d1) (mG_t (mG_d d2) (mG_k f3))) (lNb_l (lA_t l1 l2)) (mC_k m2 f3) p3)
theorem bit_mw (S : stX f T J n c) (m1 : mC J T c n t I L) (ht : t < c) (h4 : J 7 t = 4) {q k : Nat} (q1 : J 8 t = nI q) (q2 : J 10 t = nI k) (k40 : k ≤ 40) (qn : q + 1 + k ≤ n) : I 275 53 = nI k ∧ L 275 54 = wB T q k := by
  rcases m1.2.2.2.2.2.2.2 with ⟨r1, r2, _⟩ | ⟨_, _, _, _, _, _, _, r8⟩
  · omega
  · obtain ⟨z1, q', z2, z3, z4⟩ := r8 h4
    rw [q2, nI_toInt (by omega)] at z4 z3
    have hn8 := S.2.2
    have : q' = q := nI_inj (by omega) (by omega) (z2.symm.trans q1)
    subst this
    exact ⟨z1.trans q2, z4⟩
theorem btF_T {q k i : Nat} (S : stX f T J n c) (q1 : J 8 t = nI q) (qn : q + 1 + k ≤ n) (hi : i < k) : decide ((T (q + 1 + i)).toInt = 49) = btF f J t i := by
  have hn8 := S.2.2
  have e8 : (J 8 t).toInt.toNat = q := by rw [q1, nI_toInt (by omega)]; rfl
  unfold btF
  rw [e8]
  exact decide_eq_decide.mpr (tp_c S.2.1 (by omega) (by omega) (by omega)).symm
theorem pBit_c {nm : Int32} {k r : Nat} {g g' : Nat → Bool} (p : mkP r (pBit nm k g) I) (e : ∀ i, i < k → g i = g' i) : mkP r (pBit nm k g') I := by
  obtain ⟨h1, h2, h3⟩ := p
  refine ⟨h1, h2, fun i hi => ?_⟩
  have e2 := e i (by have hi : i < k * 1 := hi; omega)
  obtain ⟨z1, z2⟩ := h3 i hi
  constructor
  · rw [z1]
    show (if g i = true then (1 : Int32) else 0) = (if g' i = true then (1 : Int32) else 0)
    rw [e2]
  · rw [z2]
    show (if g i = true then (1 : Int32) else -1) = (if g' i = true then (1 : Int32) else -1)
    rw [e2]
theorem mkP_d {P : sPl} {r : Nat} (d3 : dAg I I') (p2 : mkP r P I) : mkP r P I' := ⟨(dAg_n d3 (by decide)).trans p2.1, (dAg_n d3 (by decide)).trans p2.2.1, fun i hi => ⟨(dAg_n d3 (by decide)).trans (p2.2.2 i hi).1, (dAg_n d3 (by decide)).trans (p2.2.2 i hi).2⟩⟩
theorem bit_P {nm : Int32} {q k r : Nat} (S : stX f T J n c) (q1 : J 8 t = nI q) (q2 : J 10 t = nI k) (k40 : k ≤ 40) (qn : q + 1 + k ≤ n) (d3 : dAg I I') (p2 : mkP r (pBit nm k (fun x => decide ((T (q + 1 + x)).toInt = 49))) I) : mkP r (pBit nm (J 10 t).toInt.toNat (btF f J t)) I' := by
  have kk2 : (J 10 t).toInt.toNat = k := by rw [q2, nI_toInt (by omega)]; rfl
  rw [kk2]
  exact pBit_c (mkP_d d3 p2) (fun i hi => btF_T S q1 qn hi)
theorem rf_bit {nm : Int32} (S : stX f T J n c) (m : mC J T c n t I L) (hB : mBn B I L) (ok : B.ok) (hr : B.ps < 6) (h2 : J 7 t = 2) (xf : xFrm f J c B nm t = (if J 7 (t + 1) = 4 then .ok (t + 2, pBit nm (J 10 (t + 1)).toInt.toNat (btF f J (t + 1))) else .error (eK J (t + 1), t + 1))) (kB : ∀ k u, xFrm f J c B nm t = .error (k, u) → ∀ I' L', mG B.ps I I' → lNb L L' → mX I' k (J 8 u) → Q [] (I', L', g_R s, 306)) (kO : ∀ u P, xFrm f J c B nm t = .ok (u, P) → ∀ I' L', mG B.ps I I' → lNb L L' → mC J T c n u I' L' → mkP B.ps P I' → Q [] (I', L', g_R s, 306)) : pm_W (g_P ys) 290 74 [.ref 275, .retAddr 0, .retAddr 0, .retAddr 0] [.int 1] (I, L, g_R s, 306) (0, 0) Q := by
  have hn := hB.1
  have ht := cu_lt S m (by rw [h2]; decide)
  refine ps_iff rfl (rfl) ?_
  refine ps_aload rfl rfl ?_
  refine pw_k rfl rfl rfl rfl ⟨Nat.zero_le _, Nat.zero_le _⟩ ?_
  refine M_goesOn S m ht ?_
  intro I1 L1 d1 l1 m1
  have so := (cu_so S m1).2.2.2.2.2.1
  by_cases h4 : J 7 (t + 1) = 4
  · rw [if_pos h4] at xf
    have ht1 := cu_lt S m1 (by rw [h4]; decide)
    obtain ⟨q, k, q1, q2, k1, k40, qn, qb⟩ := tk_bits S ht1 h4
    have bt := bit_mw S m1 ht1 h4 q1 q2 k40 qn
    have hT : ∀ x, x < k → inR 48 49 (T (q + 1 + x)) := fun x hx => (tp_in S.2.1 (by omega) (by omega) (by omega)).mp (qb x hx)
    refine ps_aload rfl rfl ?_
    refine ps_aload rfl rfl ?_
    refine ps_gfi 11 50 rfl rfl rfl rfl rfl ?_
    rw [show ((I1, L1, g_R s, 306) : pm_H).1 275 50 = 4 from so.mpr h4]
    refine pw_c rfl ?_
    refine ps_icmpf rfl (rfl) ?_
    refine pw_c rfl ?_
    refine ps_goto rfl ?_
    refine pw_c rfl ?_
    refine pw_k rfl rfl rfl rfl ⟨Nat.zero_le _, Nat.zero_le _⟩ ?_
    refine M_mustT (by decide) ?_
    refine ps_aload rfl rfl ?_
    refine pw_k rfl rfl rfl rfl ⟨Nat.zero_le _, Nat.zero_le _⟩ ?_
    refine M_good ?_
    rw [decide_eq_true m1.1]
    refine ps_iff rfl (rfl) ?_
    refine ps_aload rfl rfl ?_
    refine ps_aload rfl rfl ?_
    refine ps_gfl 11 54 rfl rfl rfl rfl rfl ?_
    refine ps_aload rfl rfl ?_
    refine ps_gfi 11 53 rfl rfl rfl rfl rfl ?_
    rw [show ((I1, L1, g_R s, 306) : pm_H).1 275 53 = nI k from bt.1]
    refine pw_k rfl rfl rfl rfl ⟨Nat.zero_le _, Nat.zero_le _⟩ ?_
    refine M_makesBits (nm := nm) (T := T) (q := q) (k := k) ((d1 _ _ (by decide)).trans hn) hr k1 k40 hT bt.2 ?_
    intro I2 f2 p2
    have m2 : mC J T c n (t + 1) I2 (pm_u L1 285 B.ps (L1 275 54)) := mC_of (mC_k m1 f2) (fun _ _ => rfl) (fun _ => rfl) (fun a j _ h => puL_o h)
    refine ps_aload rfl rfl ?_
    refine pw_k rfl rfl rfl rfl ⟨Nat.zero_le _, Nat.zero_le _⟩ ?_
    refine M_goesOn S m2 ht1 ?_
    intro I3 L3 d3 l3 m3
    refine ps_goto rfl ?_
    refine rf_out (kO _ _ xf _ _ (mG_t (mG_d d1) (mG_t (mG_k f2) (mG_d d3))) (fun a j z => ?_) m3 ?_)
    · rw [l3 a j (fun y => z (by omega)), puL_o (fun y => z (by omega)), l1 a j (fun y => z (by omega))]
    · exact bit_P S q1 q2 k40 qn d3 p2
  · rw [if_neg h4] at xf
    have hw : 0 < (bdI I1 (eK J (t + 1)) (J 8 (t + 1)) 275 46).toInt := bd_wb eK_pos
    refine ps_aload rfl rfl ?_
    refine ps_aload rfl rfl ?_
    refine ps_gfi 11 50 rfl rfl rfl rfl rfl ?_
    refine pw_c rfl ?_
    refine ps_icmpt rfl (decide_eq_true (fun z => h4 (so.mp z))) ?_
    refine pw_c rfl ?_
    refine pw_c rfl ?_
    refine pw_k rfl rfl rfl rfl ⟨Nat.zero_le _, Nat.zero_le _⟩ ?_
    refine M_must2 S m1 ?_
    refine ps_aload rfl rfl ?_
    refine pw_k rfl rfl rfl rfl ⟨Nat.zero_le _, Nat.zero_le _⟩ ?_
    refine M_good ?_
    rw [decide_eq_false (w_nz hw)]
    refine ps_ift rfl (rfl) ?_
    refine ps_aload rfl rfl ?_
    refine pw_k rfl rfl rfl rfl ⟨Nat.zero_le _, Nat.zero_le _⟩ ?_
    refine M_goesOnB (w_nz hw) ?_
    refine ps_goto rfl ?_
    exact rf_out (kB _ _ xf _ _ (mG_b (mG_d d1)) (lNb_l l1) (mX_b eK_pos))
theorem rf_set {nm : Int32} (S : stX f T J n c) (m : mC J T c n t I L) (hB : mBn B I L) (ok : B.ok) (hr : B.ps < 6) (h2 : J 7 t = 2) (xf : xFrm f J c B nm t = (xSet J c (t + 1)).bind fun p => .ok (p.1, pSet nm p.2.1 p.2.2)) (kB : ∀ k u, xFrm f J c B nm t = .error (k, u) → ∀ I' L', mG B.ps I I' → lNb L L' → mX I' k (J 8 u) → Q [] (I', L', g_R s, 306)) (kO : ∀ u P, xFrm f J c B nm t = .ok (u, P) → ∀ I' L', mG B.ps I I' → lNb L L' → mC J T c n u I' L' → mkP B.ps P I' → Q [] (I', L', g_R s, 306)) : pm_W (g_P ys) 290 131 [.ref 275, .retAddr 0, .retAddr 0, .retAddr 0] [.int 1] (I, L, g_R s, 306) (0, 0) Q := by
  have hn := hB.1
  have ht := cu_lt S m (by rw [h2]; decide)
  refine ps_iff rfl (rfl) ?_
  refine ps_aload rfl rfl ?_
  refine pw_k rfl rfl rfl rfl ⟨Nat.zero_le _, Nat.zero_le _⟩ ?_
  refine M_goesOn S m ht ?_
  intro I1 L1 d1 l1 m1
  refine ps_aload rfl rfl ?_
  refine pw_k rfl rfl rfl rfl ⟨Nat.zero_le _, Nat.zero_le _⟩ ?_
  refine M_makesSet (nm := nm) S m1 ((d1 _ _ (by decide)).trans hn) hr (fun k u ex I2 L2 g2 l2 x2 => ?_) (fun u w h ex I2 L2 g2 l2 m2 p2 => ?_)
  · rw [ex] at xf
    refine ps_goto rfl ?_
    exact rf_out (kB _ _ xf _ _ (mG_t (mG_d d1) g2) (lNb_l (lA_t l1 l2)) x2)
  · rw [ex] at xf
    refine ps_goto rfl ?_
    exact rf_out (kO _ _ xf _ _ (mG_t (mG_d d1) g2) (lNb_l (lA_t l1 l2)) m2 p2)
theorem rf_turn {nm : Int32} (S : stX f T J n c) (m : mC J T c n t I L) (hB : mBn B I L) (ok : B.ok) (hr : B.ps < 6) (h2 : J 7 t = 2) (xf : xFrm f J c B nm t = (xNam J B (t + 1)).bind fun k => (xNum J 0 99 (t + 2)).bind fun a => (xNum J 0 99 (t + 3)).bind fun b => .ok (t + 4, pTurn nm (B.pl k) a.toInt.toNat b.toInt.toNat)) (kB : ∀ k u, xFrm f J c B nm t = .error (k, u) → ∀ I' L', mG B.ps I I' → lNb L L' → mX I' k (J 8 u) → Q [] (I', L', g_R s, 306)) (kO : ∀ u P, xFrm f J c B nm t = .ok (u, P) → ∀ I' L', mG B.ps I I' → lNb L L' → mC J T c n u I' L' → mkP B.ps P I' → Q [] (I', L', g_R s, 306)) : pm_W (g_P ys) 290 150 [.ref 275, .retAddr 0, .retAddr 0, .retAddr 0] [.int 1] (I, L, g_R s, 306) (0, 0) Q := by
  have hn := hB.1
  have ht := cu_lt S m (by rw [h2]; decide)
  refine ps_iff rfl (rfl) ?_
  refine ps_aload rfl rfl ?_
  refine pw_k rfl rfl rfl rfl ⟨Nat.zero_le _, Nat.zero_le _⟩ ?_
  refine M_goesOn S m ht ?_
  intro I1 L1 d1 l1 m1
  refine ps_aload rfl rfl ?_
  refine pw_c rfl ?_
  refine pw_c rfl ?_
  refine pw_k rfl rfl rfl rfl ⟨Nat.zero_le _, Nat.zero_le _⟩ ?_
  refine M_takesPlate (b := 0) (wd := 1) S m1 (mBn_d hB d1 l1) ok (Or.inl rfl) (by omega) (if_pos rfl).symm (fun k u ex kp => ?_) (fun k ex I2 L2 d2 l2 m2 => ?_)
  · rw [ex] at xf
    have hw := bd_wb (I := I1) (p := J 8 u) kp
    refine ps_istore rfl rfl ?_
    refine ps_aload rfl rfl ?_
    refine pw_c rfl ?_
    refine pw_c rfl ?_
    refine pw_k rfl rfl rfl rfl ⟨Nat.zero_le _, Nat.zero_le _⟩ ?_
    refine M_takesNumberB hw ?_
    refine ps_istore rfl rfl ?_
    refine ps_aload rfl rfl ?_
    refine pw_c rfl ?_
    refine pw_c rfl ?_
    refine pw_k rfl rfl rfl rfl ⟨Nat.zero_le _, Nat.zero_le _⟩ ?_
    refine M_takesNumberB hw ?_
    refine ps_istore rfl rfl ?_
    refine ps_aload rfl rfl ?_
    refine pw_k rfl rfl rfl rfl ⟨Nat.zero_le _, Nat.zero_le _⟩ ?_
    refine M_good ?_
    rw [decide_eq_false (w_nz hw)]
    refine ps_ift rfl (rfl) ?_
    refine ps_goto rfl ?_
    exact rf_out (kB _ _ xf _ _ (mG_b (mG_d d1)) (lNb_l l1) (mX_b kp))
  · have hk := xNam_lt ex
    rw [ex] at xf
    have xf : xFrm f J c B nm t = (xNum J 0 99 (t + 2)).bind fun a => (xNum J 0 99 (t + 3)).bind fun b => .ok (t + 4, pTurn nm (B.pl k) a.toInt.toNat b.toInt.toNat) := xf
    refine ps_istore rfl rfl ?_
    refine ps_aload rfl rfl ?_
    refine pw_c rfl ?_
    refine pw_c rfl ?_
    refine pw_k rfl rfl rfl rfl ⟨Nat.zero_le _, Nat.zero_le _⟩ ?_
    refine M_takesNumber (lo := 0) (hi := 99) S m2 (fun k' u ea kp => ?_) (fun a ea I3 L3 d3 l3 m3 => ?_)
    · rw [show xNum J 0 99 (t + 2) = _ from ea] at xf
      have hw := bd_wb (I := I2) (p := J 8 u) kp
      refine ps_istore rfl rfl ?_
      refine ps_aload rfl rfl ?_
      refine pw_c rfl ?_
      refine pw_c rfl ?_
      refine pw_k rfl rfl rfl rfl ⟨Nat.zero_le _, Nat.zero_le _⟩ ?_
      refine M_takesNumberB hw ?_
      refine ps_istore rfl rfl ?_
      refine ps_aload rfl rfl ?_
      refine pw_k rfl rfl rfl rfl ⟨Nat.zero_le _, Nat.zero_le _⟩ ?_
      refine M_good ?_
      rw [decide_eq_false (w_nz hw)]
      refine ps_ift rfl (rfl) ?_
      refine ps_goto rfl ?_
      exact rf_out (kB _ _ xf _ _ (mG_b (mG_t (mG_d d1) (mG_d d2))) (lNb_l (lA_t l1 l2)) (mX_b kp))
    · obtain ⟨_, a0, a99⟩ := xNum_ok ea
      rw [show xNum J 0 99 (t + 2) = _ from ea] at xf
      have xf : xFrm f J c B nm t = (xNum J 0 99 (t + 3)).bind fun b => .ok (t + 4, pTurn nm (B.pl k) a.toInt.toNat b.toInt.toNat) := xf
      refine ps_istore rfl rfl ?_
      refine ps_aload rfl rfl ?_
      refine pw_c rfl ?_
      refine pw_c rfl ?_
      refine pw_k rfl rfl rfl rfl ⟨Nat.zero_le _, Nat.zero_le _⟩ ?_
      refine M_takesNumber (lo := 0) (hi := 99) S m3 (fun k' u eb kp => ?_) (fun b eb I4 L4 d4 l4 m4 => ?_)
      · rw [show xNum J 0 99 (t + 3) = _ from eb] at xf
        have hw := bd_wb (I := I3) (p := J 8 u) kp
        refine ps_istore rfl rfl ?_
        refine ps_aload rfl rfl ?_
        refine pw_k rfl rfl rfl rfl ⟨Nat.zero_le _, Nat.zero_le _⟩ ?_
        refine M_good ?_
        rw [decide_eq_false (w_nz hw)]
        refine ps_ift rfl (rfl) ?_
        refine ps_goto rfl ?_
        exact rf_out (kB _ _ xf _ _ (mG_b (mG_t (mG_d d1) (mG_t (mG_d d2) (mG_d d3)))) (lNb_l (lA_t l1 (lA_t l2 l3))) (mX_b kp))
      · obtain ⟨_, b0, b99⟩ := xNum_ok eb
        rw [show xNum J 0 99 (t + 3) = _ from eb] at xf
        obtain ⟨a', ha'⟩ : ∃ p, p = a.toInt.toNat := ⟨_, rfl⟩
        obtain ⟨b', hb'⟩ : ∃ p, p = b.toInt.toNat := ⟨_, rfl⟩
        have ea' := nI_oz ha' a0
        have eb' := nI_oz hb' b0
        have a99 : a.toInt ≤ 99 := a99
        have b99 : b.toInt ≤ 99 := b99
        have xf : xFrm f J c B nm t = .ok (t + 4, pTurn nm (B.pl k) a' b') := by rw [ha', hb']; exact xf
        rw [ea', eb']
        have g4 : mG B.ps I I4 := mG_t (mG_d d1) (mG_t (mG_d d2) (mG_t (mG_d d3) (mG_d d4)))
        refine ps_istore rfl rfl ?_
        refine ps_aload rfl rfl ?_
        refine pw_k rfl rfl rfl rfl ⟨Nat.zero_le _, Nat.zero_le _⟩ ?_
        refine M_good ?_
        rw [decide_eq_true m4.1]
        refine ps_iff rfl (rfl) ?_
        refine ps_aload rfl rfl ?_
        refine ps_iload rfl rfl ?_
        refine ps_iload rfl rfl ?_
        refine ps_iload rfl rfl ?_
        refine pw_k rfl rfl rfl rfl ⟨Nat.zero_le _, Nat.zero_le _⟩ ?_
        refine M_makesTurn (nm := nm) ((mG_np g4).trans hn) hr hk (mG_o (mBn_P hB hk) (ok_sz ok hk) hk g4) (ok_sz ok hk) (ok.2.1 k hk).2.2.2 (by omega) (by omega) ?_
        intro I5 f5 p5
        refine ps_goto rfl ?_
        exact rf_out (kO _ _ xf _ _ (mG_t g4 (mG_k f5)) (lNb_l (lA_t l1 (lA_t l2 (lA_t l3 l4)))) (mC_k m4 f5) p5)
theorem rf_neg {nm : Int32} (S : stX f T J n c) (m : mC J T c n t I L) (hB : mBn B I L) (ok : B.ok) (hr : B.ps < 6) (h2 : J 7 t = 2) (xf : xFrm f J c B nm t = (xNam J B (t + 1)).bind fun k => .ok (t + 2, pNeg nm (B.pl k))) (kB : ∀ k u, xFrm f J c B nm t = .error (k, u) → ∀ I' L', mG B.ps I I' → lNb L L' → mX I' k (J 8 u) → Q [] (I', L', g_R s, 306)) (kO : ∀ u P, xFrm f J c B nm t = .ok (u, P) → ∀ I' L', mG B.ps I I' → lNb L L' → mC J T c n u I' L' → mkP B.ps P I' → Q [] (I', L', g_R s, 306)) : pm_W (g_P ys) 290 202 [.ref 275, .retAddr 0, .retAddr 0, .retAddr 0] [.int 1] (I, L, g_R s, 306) (0, 0) Q := by
  have hn := hB.1
  have ht := cu_lt S m (by rw [h2]; decide)
  refine ps_iff rfl (rfl) ?_
  refine ps_aload rfl rfl ?_
  refine pw_k rfl rfl rfl rfl ⟨Nat.zero_le _, Nat.zero_le _⟩ ?_
  refine M_goesOn S m ht ?_
  intro I1 L1 d1 l1 m1
  refine ps_aload rfl rfl ?_
  refine pw_c rfl ?_
  refine pw_c rfl ?_
  refine pw_k rfl rfl rfl rfl ⟨Nat.zero_le _, Nat.zero_le _⟩ ?_
  refine M_takesPlate (b := 0) (wd := 1) S m1 (mBn_d hB d1 l1) ok (Or.inl rfl) (by omega) (if_pos rfl).symm (fun k u ex kp => ?_) (fun k ex I2 L2 d2 l2 m2 => ?_)
  · rw [ex] at xf
    have hw := bd_wb (I := I1) (p := J 8 u) kp
    refine ps_istore rfl rfl ?_
    refine ps_aload rfl rfl ?_
    refine pw_k rfl rfl rfl rfl ⟨Nat.zero_le _, Nat.zero_le _⟩ ?_
    refine M_good ?_
    rw [decide_eq_false (w_nz hw)]
    refine ps_ift rfl (rfl) ?_
    refine ps_goto rfl ?_
    exact rf_out (kB _ _ xf _ _ (mG_b (mG_d d1)) (lNb_l l1) (mX_b kp))
  · have hk := xNam_lt ex
    rw [ex] at xf
    have g2 : mG B.ps I I2 := mG_t (mG_d d1) (mG_d d2)
    refine ps_istore rfl rfl ?_
    refine ps_aload rfl rfl ?_
    refine pw_k rfl rfl rfl rfl ⟨Nat.zero_le _, Nat.zero_le _⟩ ?_
    refine M_good ?_
    rw [decide_eq_true m2.1]
    refine ps_iff rfl (rfl) ?_
    refine ps_aload rfl rfl ?_
    refine ps_iload rfl rfl ?_
    refine pw_k rfl rfl rfl rfl ⟨Nat.zero_le _, Nat.zero_le _⟩ ?_
    refine M_makesNegative (nm := nm) ((mG_np g2).trans hn) hr hk (mG_o (mBn_P hB hk) (ok_sz ok hk) hk g2) (ok_sz ok hk) ?_
    intro I3 f3 p3
    refine ps_goto rfl ?_
    exact rf_out (kO _ _ xf _ _ (mG_t g2 (mG_k f3)) (lNb_l (lA_t l1 l2)) (mC_k m2 f3) p3)
theorem rf_both {nm : Int32} (S : stX f T J n c) (m : mC J T c n t I L) (hB : mBn B I L) (ok : B.ok) (hr : B.ps < 6) (h2 : J 7 t = 2) (xf : xFrm f J c B nm t = (xNaB J B 1 (t + 1)).bind fun a => (xNaB J B (B.pl a).w (t + 2)).bind fun b => .ok (t + 3, pBoth nm (B.pl a) (B.pl b))) (kB : ∀ k u, xFrm f J c B nm t = .error (k, u) → ∀ I' L', mG B.ps I I' → lNb L L' → mX I' k (J 8 u) → Q [] (I', L', g_R s, 306)) (kO : ∀ u P, xFrm f J c B nm t = .ok (u, P) → ∀ I' L', mG B.ps I I' → lNb L L' → mC J T c n u I' L' → mkP B.ps P I' → Q [] (I', L', g_R s, 306)) : pm_W (g_P ys) 290 237 [.ref 275, .retAddr 0, .retAddr 0, .retAddr 0] [.int 1, .ref 275] (I, L, g_R s, 306) (0, 0) Q := by
  have hn := hB.1
  have ht := cu_lt S m (by rw [h2]; decide)
  refine pw_c rfl ?_
  refine pw_k rfl rfl rfl rfl ⟨Nat.zero_le _, Nat.zero_le _⟩ ?_
  refine M_mustT (by decide) ?_
  refine ps_aload rfl rfl ?_
  refine pw_k rfl rfl rfl rfl ⟨Nat.zero_le _, Nat.zero_le _⟩ ?_
  refine M_goesOn S m ht ?_
  intro I1 L1 d1 l1 m1
  refine ps_aload rfl rfl ?_
  refine pw_c rfl ?_
  refine pw_c rfl ?_
  refine pw_k rfl rfl rfl rfl ⟨Nat.zero_le _, Nat.zero_le _⟩ ?_
  refine M_takesPlate (b := 1) (wd := 1) S m1 (mBn_d hB d1 l1) ok (Or.inr rfl) (by omega) (if_neg (by decide)).symm (fun k u ex kp => ?_) (fun k ex I2 L2 d2 l2 m2 => ?_)
  · rw [ex] at xf
    have hw := bd_wb (I := I1) (p := J 8 u) kp
    refine ps_istore rfl rfl ?_
    refine ps_aload rfl rfl ?_
    refine pw_c rfl ?_
    refine ps_aload rfl rfl ?_
    refine ps_gfr 11 5 rfl rfl rfl rfl rfl (rfl) ?_
    refine pw_c rfl ?_
    refine ps_iload rfl rfl ?_
    refine ps_ar rfl rfl rfl rfl rfl ?_
    refine pw_c rfl ?_
    refine ps_ar rfl rfl rfl rfl rfl ?_
    refine ps_iald (0) rfl rfl rfl (rfl) (by omega) ?_
    refine pw_k rfl rfl rfl rfl ⟨Nat.zero_le _, Nat.zero_le _⟩ ?_
    refine M_takesPlateB hw ?_
    refine ps_istore rfl rfl ?_
    refine ps_aload rfl rfl ?_
    refine pw_k rfl rfl rfl rfl ⟨Nat.zero_le _, Nat.zero_le _⟩ ?_
    refine M_good ?_
    rw [decide_eq_false (w_nz hw)]
    refine ps_ift rfl (rfl) ?_
    exact rf_out (kB _ _ xf _ _ (mG_b (mG_d d1)) (lNb_l l1) (mX_b kp))
  · obtain ⟨hk, kv, kw⟩ := xNaB_ok ex
    rw [ex] at xf
    have xf : xFrm f J c B nm t = (xNaB J B (B.pl k).w (t + 2)).bind fun b => .ok (t + 3, pBoth nm (B.pl k) (B.pl b)) := xf
    have g2 : mG B.ps I I2 := mG_t (mG_d d1) (mG_d d2)
    have pk2 := mG_o (mBn_P hB hk) (ok_sz ok hk) hk g2
    refine ps_istore rfl rfl ?_
    refine ps_aload rfl rfl ?_
    refine pw_c rfl ?_
    refine ps_aload rfl rfl ?_
    refine ps_gfr 11 5 rfl rfl rfl rfl rfl (rfl) ?_
    refine pw_c rfl ?_
    refine ps_iload rfl rfl ?_
    refine ps_ar rfl rfl rfl rfl rfl ?_
    refine pw_c rfl ?_
    refine ps_ar rfl rfl rfl rfl rfl ?_
    refine ps_iald (7 * k) rfl rfl rfl (by simp only [ni_lit, ni_l0, pk_mul, nI_add, Nat.add_zero]) (by omega) ?_
    rw [show ((I2, L2, g_R s, 306) : pm_H).1 279 (7 * k) = nI (B.pl k).w from pk2.1]
    refine pw_k rfl rfl rfl rfl ⟨Nat.zero_le _, Nat.zero_le _⟩ ?_
    refine M_takesPlate (b := 1) (wd := (B.pl k).w) S m2 (mBn_d (mBn_d hB d1 l1) d2 l2) ok (Or.inr rfl) (by omega) (if_neg (by decide)).symm (fun k' u eb kp => ?_) (fun l eb I3 L3 d3 l3 m3 => ?_)
    · rw [eb] at xf
      have hw := bd_wb (I := I2) (p := J 8 u) kp
      refine ps_istore rfl rfl ?_
      refine ps_aload rfl rfl ?_
      refine pw_k rfl rfl rfl rfl ⟨Nat.zero_le _, Nat.zero_le _⟩ ?_
      refine M_good ?_
      rw [decide_eq_false (w_nz hw)]
      refine ps_ift rfl (rfl) ?_
      exact rf_out (kB _ _ xf _ _ (mG_b g2) (lNb_l (lA_t l1 l2)) (mX_b kp))
    · obtain ⟨hl, lv, lw⟩ := xNaB_ok eb
      rw [eb] at xf
      have g3 : mG B.ps I I3 := mG_t g2 (mG_d d3)
      refine ps_istore rfl rfl ?_
      refine ps_aload rfl rfl ?_
      refine pw_k rfl rfl rfl rfl ⟨Nat.zero_le _, Nat.zero_le _⟩ ?_
      refine M_good ?_
      rw [decide_eq_true m3.1]
      refine ps_iff rfl (rfl) ?_
      refine ps_aload rfl rfl ?_
      refine ps_iload rfl rfl ?_
      refine ps_iload rfl rfl ?_
      refine pw_k rfl rfl rfl rfl ⟨Nat.zero_le _, Nat.zero_le _⟩ ?_
      refine M_makesBoth (nm := nm) ((mG_np g3).trans hn) hr hk hl (mG_o (mBn_P hB hk) (ok_sz ok hk) hk g3) (mG_o (mBn_P hB hl) (ok_sz ok hl) hl g3) (ok_sz ok hk) (ok_sz ok hl) kv lv (by rw [Nat.mul_comm]; exact lw) ?_
      intro I4 f4 p4
      exact rf_out (kO _ _ xf _ _ (mG_t g3 (mG_k f4)) (lNb_l (lA_t l1 (lA_t l2 l3))) (mC_k m3 f4) p4)
theorem M_readsForm {nm : Int32} (S : stX f T J n c) (m : mC J T c n t I L) (hB : mBn B I L) (ok : B.ok) (hr : B.ps < 6) (kB : ∀ k u, xFrm f J c B nm t = .error (k, u) → ∀ I' L', mG B.ps I I' → lNb L L' → mX I' k (J 8 u) → Q [] (I', L', g_R s, 306)) (kO : ∀ u P, xFrm f J c B nm t = .ok (u, P) → ∀ I' L', mG B.ps I I' → lNb L L' → mC J T c n u I' L' → mkP B.ps P I' → Q [] (I', L', g_R s, 306)) : pm_W (g_P ys) 290 0 [.ref 275, .retAddr 0, .retAddr 0, .retAddr 0] [] (I, L, g_R s, 306) (0, 0) Q := by
  have hn := hB.1
  have xf : xFrm f J c B nm t = xFrm f J c B nm t := rfl
  conv at xf => rhs; unfold xFrm
  refine ps_aload rfl rfl ?_
  refine pw_c rfl ?_
  refine pw_k rfl rfl rfl rfl ⟨Nat.zero_le _, Nat.zero_le _⟩ ?_
  refine M_isW (w := 1) (x := 1) S m (by decide) rfl rfl (fun h2 hk => ?_) (fun n1 => ?_)
  · rw [if_pos h2, if_pos hk] at xf
    exact rf_row S m hB ok hr h2 xf kB kO
  show pm_W _ _ _ _ [.int 0] _ _ _
  refine ps_ift rfl (rfl) ?_
  refine ps_aload rfl rfl ?_
  refine pw_c rfl ?_
  refine pw_k rfl rfl rfl rfl ⟨Nat.zero_le _, Nat.zero_le _⟩ ?_
  refine M_isW (w := 6) (x := 7) S m (by decide) rfl rfl (fun h2 hk => ?_) (fun n7 => ?_)
  · rw [if_pos h2, if_neg (fun z => n1 ⟨h2, z⟩), if_pos hk] at xf
    exact rf_sq S m hB ok hr h2 xf kB kO
  show pm_W _ _ _ _ [.int 0] _ _ _
  refine ps_ift rfl (rfl) ?_
  refine ps_aload rfl rfl ?_
  refine pw_c rfl ?_
  refine pw_k rfl rfl rfl rfl ⟨Nat.zero_le _, Nat.zero_le _⟩ ?_
  refine M_isW (w := 2) (x := 2) S m (by decide) rfl rfl (fun h2 hk => ?_) (fun n2 => ?_)
  · rw [if_pos h2, if_neg (fun z => n1 ⟨h2, z⟩), if_neg (fun z => n7 ⟨h2, z⟩), if_pos hk] at xf
    exact rf_bit S m hB ok hr h2 xf kB kO
  show pm_W _ _ _ _ [.int 0] _ _ _
  refine ps_ift rfl (rfl) ?_
  refine ps_aload rfl rfl ?_
  refine pw_c rfl ?_
  refine pw_k rfl rfl rfl rfl ⟨Nat.zero_le _, Nat.zero_le _⟩ ?_
  refine M_isW (w := 12) (x := 3) S m (by decide) rfl rfl (fun h2 hk => ?_) (fun n3 => ?_)
  · rw [if_pos h2, if_neg (fun z => n1 ⟨h2, z⟩), if_neg (fun z => n7 ⟨h2, z⟩), if_neg (fun z => n2 ⟨h2, z⟩), if_pos hk] at xf
    exact rf_set S m hB ok hr h2 xf kB kO
  show pm_W _ _ _ _ [.int 0] _ _ _
  refine ps_ift rfl (rfl) ?_
  refine ps_aload rfl rfl ?_
  refine pw_c rfl ?_
  refine pw_k rfl rfl rfl rfl ⟨Nat.zero_le _, Nat.zero_le _⟩ ?_
  refine M_isW (w := 3) (x := 4) S m (by decide) rfl rfl (fun h2 hk => ?_) (fun n4 => ?_)
  · rw [if_pos h2, if_neg (fun z => n1 ⟨h2, z⟩), if_neg (fun z => n7 ⟨h2, z⟩), if_neg (fun z => n2 ⟨h2, z⟩), if_neg (fun z => n3 ⟨h2, z⟩), if_pos hk] at xf
    exact rf_turn S m hB ok hr h2 xf kB kO
  show pm_W _ _ _ _ [.int 0] _ _ _
  refine ps_ift rfl (rfl) ?_
  refine ps_aload rfl rfl ?_
  refine pw_c rfl ?_
  refine pw_k rfl rfl rfl rfl ⟨Nat.zero_le _, Nat.zero_le _⟩ ?_
  refine M_isW (w := 4) (x := 5) S m (by decide) rfl rfl (fun h2 hk => ?_) (fun n5 => ?_)
  · rw [if_pos h2, if_neg (fun z => n1 ⟨h2, z⟩), if_neg (fun z => n7 ⟨h2, z⟩), if_neg (fun z => n2 ⟨h2, z⟩), if_neg (fun z => n3 ⟨h2, z⟩), if_neg (fun z => n4 ⟨h2, z⟩), if_pos hk] at xf
    exact rf_neg S m hB ok hr h2 xf kB kO
  show pm_W _ _ _ _ [.int 0] _ _ _
  refine ps_ift rfl (rfl) ?_
  refine ps_aload rfl rfl ?_
  refine ps_aload rfl rfl ?_
  refine pw_c rfl ?_
  refine pw_k rfl rfl rfl rfl ⟨Nat.zero_le _, Nat.zero_le _⟩ ?_
  refine M_isW (w := 5) (x := 6) S m (by decide) rfl rfl (fun h2 hk => ?_) (fun n6 => ?_)
  · rw [if_pos h2, if_neg (fun z => n1 ⟨h2, z⟩), if_neg (fun z => n7 ⟨h2, z⟩), if_neg (fun z => n2 ⟨h2, z⟩), if_neg (fun z => n3 ⟨h2, z⟩), if_neg (fun z => n4 ⟨h2, z⟩), if_neg (fun z => n5 ⟨h2, z⟩), if_pos hk] at xf
    exact rf_both S m hB ok hr h2 xf kB kO
  · have hw : 0 < (bdI I (eK J t) (J 8 t) 275 46).toInt := bd_wb eK_pos
    show pm_W _ _ _ _ [.int 0, .ref 275] _ _ _
    have xe : xFrm f J c B nm t = .error (eK J t, t) := by
      by_cases h2 : J 7 t = 2
      · rw [if_pos h2, if_neg (fun z => n1 ⟨h2, z⟩), if_neg (fun z => n7 ⟨h2, z⟩), if_neg (fun z => n2 ⟨h2, z⟩), if_neg (fun z => n3 ⟨h2, z⟩), if_neg (fun z => n4 ⟨h2, z⟩), if_neg (fun z => n5 ⟨h2, z⟩), if_neg (fun z => n6 ⟨h2, z⟩)] at xf
        rw [xf]
        unfold eK
        rw [if_neg (by rw [h2]; decide)]
      · rw [if_neg h2] at xf
        exact xf
    refine pw_c rfl ?_
    refine pw_k rfl rfl rfl rfl ⟨Nat.zero_le _, Nat.zero_le _⟩ ?_
    refine M_must2 S m ?_
    refine ps_aload rfl rfl ?_
    refine pw_k rfl rfl rfl rfl ⟨Nat.zero_le _, Nat.zero_le _⟩ ?_
    refine M_goesOnB (w_nz hw) ?_
    refine ps_aload rfl rfl ?_
    refine pw_c rfl ?_
    refine pw_c rfl ?_
    refine pw_k rfl rfl rfl rfl ⟨Nat.zero_le _, Nat.zero_le _⟩ ?_
    refine M_takesPlateB hw ?_
    refine ps_istore rfl rfl ?_
    refine ps_aload rfl rfl ?_
    refine pw_c rfl ?_
    refine ps_aload rfl rfl ?_
    refine ps_gfr 11 5 rfl rfl rfl rfl rfl (rfl) ?_
    refine pw_c rfl ?_
    refine ps_iload rfl rfl ?_
    refine ps_ar rfl rfl rfl rfl rfl ?_
    refine pw_c rfl ?_
    refine ps_ar rfl rfl rfl rfl rfl ?_
    refine ps_iald (0) rfl rfl rfl (rfl) (by omega) ?_
    refine pw_k rfl rfl rfl rfl ⟨Nat.zero_le _, Nat.zero_le _⟩ ?_
    refine M_takesPlateB hw ?_
    refine ps_istore rfl rfl ?_
    refine ps_aload rfl rfl ?_
    refine pw_k rfl rfl rfl rfl ⟨Nat.zero_le _, Nat.zero_le _⟩ ?_
    refine M_good ?_
    rw [decide_eq_false (w_nz hw)]
    refine ps_ift rfl (rfl) ?_
    exact rf_out (kB _ _ xe _ _ (mG_b mG_r) (fun _ _ _ => rfl) (mX_b eK_pos))
end KN
