/-! BY HAND: the model's sets, exactly -/
section KM
/-- places of a set, from the token u on -/
def xPlc (J : Nat → Nat → Int32) (w : Nat) : Nat → Nat → (Nat → Int32) → sR (Nat × (Nat → Int32))
  | 0, u, h => .ok (u, h)
  | d + 1, u, h => if J 7 u = 3 then (if (J 10 u).toInt < w ∧ h (J 10 u).toInt.toNat = 0 then xPlc J w d (u + 1) (fun i => if i = (J 10 u).toInt.toNat then 1 else h i) else .error (3, u)) else .ok (u, h)
def xSet (J : Nat → Nat → Int32) (c t : Nat) : sR (Nat × Nat × (Nat → Int32)) := match xNum J 1 47 t with
  | .error e => .error e
  | .ok x => match xPlc J x.toInt.toNat (c - (t + 1)) (t + 1) (fun _ => 0) with
    | .error e => .error e
    | .ok (u, h) => .ok (u, x.toInt.toNat, h)
/-- where a plate is made while its text is read -/
def mG (r : Nat) (I I' : Nat → Nat → Int32) : Prop := ∀ a j : Nat, ¬ ((a = 279 ∧ 7 * r ≤ j ∧ j < 7 * r + 7) ∨ ((a = 281 ∨ a = 283) ∧ 289 * r ≤ j ∧ j < 289 * r + 289) ∨ a = 277 ∨ (a = 275 ∧ (j = 46 ∨ j = 47 ∨ j = 48 ∨ j = 49 ∨ j = 50 ∨ j = 51 ∨ j = 53))) → I' a j = I a j
variable {f T : Nat → Int32} {J I I' I'' : Nat → Nat → Int32} {L L' L'' : Nat → Nat → Int64} {n c t r w : Nat} {s : Nat → Option Nat} {Q : List Value → pm_H → Prop} {ys : List Int32} {B : sB}
theorem mG_r : mG r I I := fun _ _ _ => rfl
theorem mG_t (h : mG r I I') (k : mG r I' I'') : mG r I I'' := fun a j q => (k a j q).trans (h a j q)
theorem mG_k (h : mkF r I I') : mG r I I' := fun a j q => h a j (fun z => q (by omega))
theorem mG_d (h : dAg I I') : mG r I I' := fun a j q => h a j (fun z => q (by omega))
theorem mG_F (h : mG r I I') : mF I I' := fun a j q => h a j (fun z => q (by omega))
theorem mG_b {k p : Int32} (h : mG r I I') : mG r I (bdI I' k p) := fun a j q => by
  unfold bdI
  rw [pu_x (fun z => q (by omega)), pu_x (fun z => q (by omega))]
  exact h a j q
theorem mG_o {k : Nat} {P : sPl} (h : mkP k P I) (z : szP P) (hk : k < r) (g : mG r I I') : mkP k P I' := by
  obtain ⟨h1, h2, h3⟩ := h
  refine ⟨(g _ _ (by omega)).trans h1, (g _ _ (by omega)).trans h2, fun i hi => ?_⟩
  have := z.2.2
  rw [g _ _ (by omega), g _ _ (by omega)]
  exact h3 i hi
theorem mG_np (g : mG r I I') : I' 275 15 = I 275 15 := g _ _ (by omega)
/-- the set as it stands -/
def stS (I : Nat → Nat → Int32) (r w : Nat) (h : Nat → Int32) : Prop := I 275 15 = nI r ∧ I 279 (7 * r) = nI w ∧ I 279 (7 * r + 1) = nI 1 ∧ I 279 (7 * r + 4) = nI (cn h w) ∧ ∀ i, i < w → I 281 (289 * r + i) = h i ∧ I 283 (289 * r + i) = if h i = 1 then 1 else -1
theorem stS_o {h : Nat → Int32} (k : stS I r w h) (np : I' 275 15 = I 275 15) (o : ∀ a j, ¬ a = 275 → I' a j = I a j) : stS I' r w h := by
  obtain ⟨k1, k2, k3, k4, k5⟩ := k
  exact ⟨np.trans k1, (o _ _ (by decide)).trans k2, (o _ _ (by decide)).trans k3, (o _ _ (by decide)).trans k4, fun i hi => ⟨(o _ _ (by decide)).trans (k5 i hi).1, (o _ _ (by decide)).trans (k5 i hi).2⟩⟩
theorem set_clr {I0 : Nat → Nat → Int32} {L0 : Nat → Nat → Int64} {u1 u2 : Value} (hr : r < 6) (hn : I0 275 15 = nI r) (w1 : 1 ≤ w) (w2 : w ≤ 47) (kk : ∀ I', hwI (tsI I0 r 6 (nI w) 0 0 (nI w) 1) I' r (fun _ => 0) (fun _ => -1) w → pm_W (g_P ys) 299 43 [.ref 275, .int (nI w), .int (nI w)] [] (I', L0, g_R s, 306) (0, 0) Q) : pm_W (g_P ys) 299 7 [.ref 275, u1, u2] [.int (nI w)] (I0, L0, g_R s, 306) (0, 0) Q := by
  have loop : ∀ d x I', x + d = w → hwI (tsI I0 r 6 (nI w) 0 0 (nI w) 1) I' r (fun _ => 0) (fun _ => -1) x → pm_W (g_P ys) 299 25 [.ref 275, .int (nI w), .int (nI x)] [] (I', L0, g_R s, 306) (0, 0) Q := by
    intro d
    induction d with
    | zero =>
      intro x I' hx h
      have hxp : x = w := by omega
      subst hxp
      refine ps_iload rfl rfl ?_
      refine ps_iload rfl rfl ?_
      refine ps_icmpt rfl (decide_eq_true (nI_le (by omega) (by omega))) ?_
      exact kk _ h
    | succ d ih =>
      intro x I' hx h
      have np : I' 275 15 = nI r := (hw_np h).trans (ts_np.trans hn)
      refine ps_iload rfl rfl ?_
      refine ps_iload rfl rfl ?_
      refine ps_icmpf rfl (decide_eq_false (nI_ge (by omega) (by omega))) ?_
      refine ps_aload rfl rfl ?_
      refine ps_iload rfl rfl ?_
      refine pw_c rfl ?_
      refine pw_c rfl ?_
      refine pw_k rfl rfl rfl rfl ⟨Nat.zero_le _, Nat.zero_le _⟩ ?_
      refine M_puts np hr (by omega) 0 (-1) ?_
      refine ps_iinc rfl rfl ?_
      refine ps_goto rfl ?_
      rw [show nI x + Int32.ofInt 1 = nI (x + 1) from nI_1 x]
      exact ih (x + 1) _ (by omega) (hw_s h (by omega) (if_pos rfl) rfl)
  refine ps_istore rfl rfl ?_
  refine ps_aload rfl rfl ?_
  refine pw_c rfl ?_
  refine ps_iload rfl rfl ?_
  refine pw_c rfl ?_
  refine pw_c rfl ?_
  refine pw_k rfl rfl rfl rfl ⟨Nat.zero_le _, Nat.zero_le _⟩ ?_
  refine M_tells hn hr 6 (nI w) 0 0 ?_
  refine ps_aload rfl rfl ?_
  refine ps_iload rfl rfl ?_
  refine pw_c rfl ?_
  refine pw_k rfl rfl rfl rfl ⟨Nat.zero_le _, Nat.zero_le _⟩ ?_
  refine M_sizes (by rw [pu_o (by decide), pu_o (by decide), pu_o (by decide), pu_o (by decide)]; exact hn) hr (nI w) 1 ?_
  refine pw_c rfl ?_
  refine ps_istore rfl rfl ?_
  exact loop w 0 _ (by omega) hw_0
theorem set_go (S : stX f T J n c) (hr : r < 6) (w1 : 1 ≤ w) (w2 : w ≤ 47) : ∀ d u h I' L' (v2 : Value), u + d = c → mC J T c n u I' L' → stS I' r w h → mG r I I' → lA L L' → (∀ k u', xPlc J w d u h = .error (k, u') → ∀ I2 L2, mG r I I2 → lA L L2 → mX I2 k (J 8 u') → Q [] (I2, L2, g_R s, 306)) → (∀ u' h', xPlc J w d u h = .ok (u', h') → ∀ I2 L2, mG r I I2 → lA L L2 → mC J T c n u' I2 L2 → stS I2 r w h' → Q [] (I2, L2, g_R s, 306)) → pm_W (g_P ys) 299 43 [.ref 275, .int (nI w), v2] [] (I', L', g_R s, 306) (0, 0) Q := by
  intro d
  induction d with
  | zero =>
    intro u h I' L' v2 hu m st g l kB kO
    have huc : u = c := by omega
    subst huc
    have so := (cu_so S m).2.2.2.1
    refine ps_aload rfl rfl ?_
    refine pw_k rfl rfl rfl rfl ⟨Nat.zero_le _, Nat.zero_le _⟩ ?_
    refine M_good ?_
    rw [decide_eq_true m.1]
    refine ps_iff rfl (rfl) ?_
    refine ps_aload rfl rfl ?_
    refine ps_gfi 11 50 rfl rfl rfl rfl rfl ?_
    refine pw_c rfl ?_
    refine ps_icmpt rfl (decide_eq_true (fun z => absurd (S.1.2.2.2.2.1.symm.trans (so.mp z)) (by decide))) ?_
    refine ps_vret rfl rfl ?_
    exact kO _ _ rfl _ _ g l m st
  | succ d ih =>
    intro u h I' L' v2 hu m st g l kB kO
    have so := (cu_so S m).2.2.2.1
    rw [xPlc] at kB kO
    refine ps_aload rfl rfl ?_
    refine pw_k rfl rfl rfl rfl ⟨Nat.zero_le _, Nat.zero_le _⟩ ?_
    refine M_good ?_
    rw [decide_eq_true m.1]
    by_cases h3 : J 7 u = 3
    · rw [if_pos h3] at kB kO
      have nu := mC_nu S m h3
      have nb := m.2.2.2.1
      rw [nu] at nb
      obtain ⟨v, hv⟩ : ∃ v, v = (J 10 u).toInt.toNat := ⟨_, rfl⟩
      have ev : J 10 u = nI v := (i_eq _ _).mpr (by rw [nI_toInt (by omega)]; omega)
      rw [ev] at nu
      rw [← hv] at kB kO
      obtain ⟨s1, s2, s3, s4, s5⟩ := st
      have bad : (((J 10 u).toInt < w ∧ h v = 0) → False) → pm_W (g_P ys) 299 92 [.ref 275, .int (nI w), v2] [.ref 275] (I', L', g_R s, 306) (0, 0) Q := by
        intro z
        rw [if_neg z] at kB
        have hw : 0 < (bdI I' 3 (J 8 u) 275 46).toInt := bd_wb (by decide)
        refine pw_c rfl ?_
        refine pw_c rfl ?_
        refine pw_k rfl rfl rfl rfl ⟨Nat.zero_le _, Nat.zero_le _⟩ ?_
        refine M_mustN m (by decide) ?_
        refine ps_aload rfl rfl ?_
        refine pw_k rfl rfl rfl rfl ⟨Nat.zero_le _, Nat.zero_le _⟩ ?_
        refine M_good ?_
        rw [decide_eq_false (w_nz hw)]
        refine ps_iff rfl (rfl) ?_
        refine ps_vret rfl rfl ?_
        exact kB _ _ rfl _ _ (mG_b g) l (mX_b (by decide))
      refine ps_iff rfl (rfl) ?_
      refine ps_aload rfl rfl ?_
      refine ps_gfi 11 50 rfl rfl rfl rfl rfl ?_
      rw [show ((I', L', g_R s, 306) : pm_H).1 275 50 = 2 from so.mpr h3]
      refine pw_c rfl ?_
      refine ps_icmpf rfl (rfl) ?_
      refine ps_aload rfl rfl ?_
      refine ps_aload rfl rfl ?_
      refine ps_gfi 11 51 rfl rfl rfl rfl rfl ?_
      rw [show ((I', L', g_R s, 306) : pm_H).1 275 51 = nI v from nu]
      by_cases hlt : v < w
      · refine ps_iload rfl rfl ?_
        refine ps_icmpf rfl (decide_eq_false (nI_ge (by omega) (by omega))) ?_
        refine ps_aload rfl rfl ?_
        refine ps_gfr 11 7 rfl rfl rfl rfl rfl (rfl) ?_
        refine pw_c rfl ?_
        refine ps_aload rfl rfl ?_
        refine ps_gfi 11 15 rfl rfl rfl rfl rfl ?_
        rw [show ((I', L', g_R s, 306) : pm_H).1 275 15 = nI r from s1]
        refine ps_ar rfl rfl rfl rfl rfl ?_
        refine ps_aload rfl rfl ?_
        refine ps_gfi 11 51 rfl rfl rfl rfl rfl ?_
        rw [show ((I', L', g_R s, 306) : pm_H).1 275 51 = nI v from nu]
        refine ps_ar rfl rfl rfl rfl rfl ?_
        refine ps_iald (289 * r + v) rfl rfl rfl (by simp only [ni_lit, ni_l0, pk_mul, nI_add, Nat.add_zero]) (by omega) ?_
        rw [show ((I', L', g_R s, 306) : pm_H).1 281 (289 * r + v) = h v from (s5 v hlt).1]
        by_cases hz : h v = 0
        · rw [hz]
          rw [if_pos ⟨by omega, hz⟩] at kB kO
          have hz1 : ¬ h v = 1 := fun q => by rw [hz] at q; exact absurd q (by decide)
          have ccl : cn h w < w := cn_lt hz1 hlt
          have cset : cn (fun i => if i = v then 1 else h i) w = cn h w + 1 := cn_set (i := v) hz1 (fun i hi => if_neg hi) (if_pos rfl) hlt
          obtain ⟨cc, hcc⟩ : ∃ cc, cc = cn h w := ⟨_, rfl⟩
          rw [← hcc] at ccl cset s4
          obtain ⟨I1, hI1⟩ : ∃ I1, I1 = pm_u (pm_u I' 281 (289 * r + v) 1) 283 (289 * r + v) 1 := ⟨_, rfl⟩
          obtain ⟨I2, hI2⟩ : ∃ I2, I2 = pm_u I1 277 (47 * r + cc) (nI v) := ⟨_, rfl⟩
          obtain ⟨I3, hI3⟩ : ∃ I3, I3 = pm_u I2 279 (7 * r + 4) (nI (cc + 1)) := ⟨_, rfl⟩
          have o1 : ∀ a j, ¬ a = 281 → ¬ a = 283 → I1 a j = I' a j := fun a j h1 h2 => by rw [hI1, pu_o h2, pu_o h1]
          have o2 : ∀ a j, ¬ a = 277 → I2 a j = I1 a j := fun a j h1 => by rw [hI2, pu_o h1]
          have o3 : ∀ a j, ¬ a = 279 → I3 a j = I2 a j := fun a j h1 => by rw [hI3, pu_o h1]
          have np1 : I1 275 15 = nI r := (o1 _ _ (by decide) (by decide)).trans s1
          have np2 : I2 275 15 = nI r := (o2 _ _ (by decide)).trans np1
          have p41 : I1 279 (7 * r + 4) = nI cc := (o1 _ _ (by decide) (by decide)).trans s4
          have p42 : I2 279 (7 * r + 4) = nI cc := (o2 _ _ (by decide)).trans p41
          refine ps_iff rfl (rfl) ?_
          refine pw_c rfl ?_
          refine ps_goto rfl ?_
          refine pw_c rfl ?_
          refine pw_k rfl rfl rfl rfl ⟨Nat.zero_le _, Nat.zero_le _⟩ ?_
          refine M_mustT (by decide) ?_
          refine ps_aload rfl rfl ?_
          refine pw_k rfl rfl rfl rfl ⟨Nat.zero_le _, Nat.zero_le _⟩ ?_
          refine M_good ?_
          rw [decide_eq_true m.1]
          refine ps_ift rfl (rfl) ?_
          refine ps_aload rfl rfl ?_
          refine ps_aload rfl rfl ?_
          refine ps_gfi 11 51 rfl rfl rfl rfl rfl ?_
          rw [show ((I', L', g_R s, 306) : pm_H).1 275 51 = nI v from nu]
          refine pw_c rfl ?_
          refine pw_c rfl ?_
          refine pw_k rfl rfl rfl rfl ⟨Nat.zero_le _, Nat.zero_le _⟩ ?_
          refine M_puts s1 hr (by omega) 1 1 ?_
          rw [if_neg (by decide), ← hI1]
          refine ps_aload rfl rfl ?_
          refine ps_gfr 11 3 rfl rfl rfl rfl rfl (rfl) ?_
          refine pw_c rfl ?_
          refine ps_aload rfl rfl ?_
          refine ps_gfi 11 15 rfl rfl rfl rfl rfl ?_
          rw [show ((I1, L', g_R s, 306) : pm_H).1 275 15 = nI r from np1]
          refine ps_ar rfl rfl rfl rfl rfl ?_
          refine ps_aload rfl rfl ?_
          refine ps_gfr 11 5 rfl rfl rfl rfl rfl (rfl) ?_
          refine pw_c rfl ?_
          refine ps_aload rfl rfl ?_
          refine ps_gfi 11 15 rfl rfl rfl rfl rfl ?_
          rw [show ((I1, L', g_R s, 306) : pm_H).1 275 15 = nI r from np1]
          refine ps_ar rfl rfl rfl rfl rfl ?_
          refine pw_c rfl ?_
          refine ps_ar rfl rfl rfl rfl rfl ?_
          refine ps_iald (7 * r + 4) rfl rfl rfl (by simp only [ni_lit, ni_l0, pk_mul, nI_add, Nat.add_zero]) (by omega) ?_
          rw [show ((I1, L', g_R s, 306) : pm_H).1 279 (7 * r + 4) = nI cc from p41]
          refine ps_ar rfl rfl rfl rfl rfl ?_
          refine ps_aload rfl rfl ?_
          refine ps_gfi 11 51 rfl rfl rfl rfl rfl ?_
          rw [show ((I1, L', g_R s, 306) : pm_H).1 275 51 = nI v from (o1 _ _ (by decide) (by decide)).trans nu]
          refine ps_iast (47 * r + cc) rfl rfl rfl (by simp only [ni_lit, ni_l0, pk_mul, nI_add, Nat.add_zero]) (by omega) ?_
          show pm_W _ _ _ _ _ (pm_u I1 277 (47 * r + cc) (nI v), L', g_R s, 306) _ _
          rw [← hI2]
          refine ps_aload rfl rfl ?_
          refine ps_gfr 11 5 rfl rfl rfl rfl rfl (rfl) ?_
          refine pw_c rfl ?_
          refine ps_aload rfl rfl ?_
          refine ps_gfi 11 15 rfl rfl rfl rfl rfl ?_
          rw [show ((I2, L', g_R s, 306) : pm_H).1 275 15 = nI r from np2]
          refine ps_ar rfl rfl rfl rfl rfl ?_
          refine pw_c rfl ?_
          refine ps_ar rfl rfl rfl rfl rfl ?_
          refine ps_ar rfl rfl rfl rfl rfl ?_
          refine ps_iald (7 * r + 4) rfl rfl rfl (by simp only [ni_lit, ni_l0, pk_mul, nI_add, Nat.add_zero]) (by omega) ?_
          rw [show ((I2, L', g_R s, 306) : pm_H).1 279 (7 * r + 4) = nI cc from p42]
          refine pw_c rfl ?_
          refine ps_ar rfl rfl rfl rfl rfl ?_
          rw [show nI cc + 1 = nI (cc + 1) from nI_1 cc]
          refine ps_iast (7 * r + 4) rfl rfl rfl (by simp only [ni_lit, ni_l0, pk_mul, nI_add, Nat.add_zero]) (by omega) ?_
          show pm_W _ _ _ _ _ (pm_u I2 279 (7 * r + 4) (nI (cc + 1)), L', g_R s, 306) _ _
          rw [← hI3]
          have m3 : mC J T c n u I3 L' := mC_of m (fun j _ => by rw [o3 _ _ (by decide), o2 _ _ (by decide), o1 _ _ (by decide) (by decide)]) (fun j => by rw [o3 _ _ (by decide), o2 _ _ (by decide), o1 _ _ (by decide) (by decide)]) (fun _ _ _ _ => rfl)
          have g3 : mG r I I3 := fun a j q => by
            rw [hI3, pu_x (fun z => q (by omega)), hI2, pu_x (fun z => q (by omega)), hI1, pu_x (fun z => q (by omega)), pu_x (fun z => q (by omega))]
            exact g a j q
          refine ps_aload rfl rfl ?_
          refine pw_k rfl rfl rfl rfl ⟨Nat.zero_le _, Nat.zero_le _⟩ ?_
          refine M_goesOn S m3 (by omega) ?_
          intro I4 L4 d4 l4 m4
          refine ps_goto rfl ?_
          refine ih (u + 1) _ _ _ _ (by omega) m4 (stS_o (I := I3) ?_ (d4 _ _ (by decide)) (fun a j ha => dAg_n d4 ha)) (mG_t g3 (mG_d d4)) (fun a j q => (l4 a j q).trans (l a j q)) kB kO
          refine ⟨(o3 _ _ (by decide)).trans np2, ?_, ?_, ?_, fun i hi => ?_⟩
          · rw [hI3, pu_n (by omega), o2 _ _ (by decide), o1 _ _ (by decide) (by decide)]
            exact s2
          · rw [hI3, pu_n (by omega), o2 _ _ (by decide), o1 _ _ (by decide) (by decide)]
            exact s3
          · rw [hI3, pu_s, cset]
          · rw [o3 _ _ (by decide), o2 _ _ (by decide), o3 _ _ (by decide), o2 _ _ (by decide), hI1]
            show _ = (if i = v then (1 : Int32) else h i) ∧ _ = if (if i = v then (1 : Int32) else h i) = 1 then (1 : Int32) else -1
            by_cases e : i = v
            · rw [if_pos e, if_pos rfl, e, pu_s, pu_o (by decide), pu_s]
              exact ⟨rfl, rfl⟩
            · rw [if_neg e, pu_o (by decide), pu_n (by omega), pu_n (by omega), pu_o (by decide)]
              exact s5 i hi
        · refine ps_ift rfl (decide_eq_true hz) ?_
          exact bad (fun z => hz z.2)
      · refine ps_iload rfl rfl ?_
        refine ps_icmpt rfl (decide_eq_true (nI_le (by omega) (by omega))) ?_
        exact bad (fun z => by omega)
    · rw [if_neg h3] at kB kO
      refine ps_iff rfl (rfl) ?_
      refine ps_aload rfl rfl ?_
      refine ps_gfi 11 50 rfl rfl rfl rfl rfl ?_
      refine pw_c rfl ?_
      refine ps_icmpt rfl (decide_eq_true (fun z => h3 (so.mp z))) ?_
      refine ps_vret rfl rfl ?_
      exact kO _ _ rfl _ _ g l m st
theorem M_makesSet {nm : Int32} (S : stX f T J n c) (m : mC J T c n t I L) (hn : I 275 15 = nI r) (hr : r < 6) (kB : ∀ k u, xSet J c t = .error (k, u) → ∀ I' L', mG r I I' → lA L L' → mX I' k (J 8 u) → Q [] (I', L', g_R s, 306)) (kO : ∀ u w h, xSet J c t = .ok (u, w, h) → ∀ I' L', mG r I I' → lA L L' → mC J T c n u I' L' → mkP r (pSet nm w h) I' → Q [] (I', L', g_R s, 306)) : pm_W (g_P ys) 299 0 [.ref 275, .retAddr 0, .retAddr 0] [] (I, L, g_R s, 306) (0, 0) Q := by
  refine ps_aload rfl rfl ?_
  refine pw_c rfl ?_
  refine pw_c rfl ?_
  refine pw_k rfl rfl rfl rfl ⟨Nat.zero_le _, Nat.zero_le _⟩ ?_
  refine M_takesNumber (lo := 1) (hi := 47) S m (fun k u ex kp => ?_) (fun x ex I1 L1 d1 l1 m1 => ?_)
  · refine set_clr (w := 1) hr (I0 := bdI I k (J 8 u)) (by unfold bdI; rw [pu_n (by decide), pu_n (by decide)]; exact hn) (by omega) (by omega) (fun I' h => ?_)
    have f1 : mkF r (bdI I k (J 8 u)) I' := hw_F (a := nI 1) h
    have hx : mX I' k (J 8 u) := ⟨(f1 _ _ (by omega)).trans bd_w, (f1 _ _ (by omega)).trans pu_s, kp⟩
    refine ps_aload rfl rfl ?_
    refine pw_k rfl rfl rfl rfl ⟨Nat.zero_le _, Nat.zero_le _⟩ ?_
    refine M_good ?_
    rw [decide_eq_false (w_nz (mX_w hx))]
    refine ps_ift rfl (rfl) ?_
    refine ps_vret rfl rfl ?_
    refine kB k u ?_ _ _ (mG_t (mG_b mG_r) (mG_k f1)) (fun _ _ _ => rfl) hx
    unfold xSet
    rw [show xNum J 1 47 t = _ from ex]
  · have hx : 1 ≤ x.toInt ∧ x.toInt ≤ 47 := by
      have e : xNum J 1 47 t = .ok x := ex
      unfold xNum at e
      split at e
      · split at e
        · cases e
          assumption
        · cases e
      · cases e
    obtain ⟨w, hw⟩ : ∃ w, w = x.toInt.toNat := ⟨_, rfl⟩
    have ew : x = nI w := (i_eq _ _).mpr (by rw [nI_toInt (by omega)]; omega)
    have xs : ∀ R, xPlc J w (c - (t + 1)) (t + 1) (fun _ => 0) = R → xSet J c t = match R with | .error e => .error e | .ok (u, h) => .ok (u, w, h) := by
      intro R hR
      unfold xSet
      rw [show xNum J 1 47 t = _ from ex, hw, ← hR, hw]
    rw [ew]
    have tc := (cu_so S m1).1
    refine set_clr (w := w) hr (I0 := I1) ((d1 _ _ (by decide)).trans hn) (by omega) (by omega) (fun I' h => ?_)
    have f1 : mkF r I1 I' := hw_F (a := nI w) h
    refine set_go (I := I) (L := L) S hr (w := w) (by omega) (by omega) (c - (t + 1)) (t + 1) (fun _ => 0) I' L1 _ (by omega) (mC_of m1 (fun j hj => f1 _ _ (by omega)) (fun j => f1 _ _ (by omega)) (fun _ _ _ _ => rfl)) ⟨(hw_np h).trans (ts_np.trans ((d1 _ _ (by decide)).trans hn)), (h.1 _ _ (by omega)).trans ts_w, (h.1 _ _ (by omega)).trans ts_v, ?_, fun i hi => ?_⟩ (mG_t (mG_d d1) (mG_k f1)) l1 (fun k u e => kB k u (xs _ e)) (fun u h e I2 L2 g2 l2 m2 st2 => kO u w h (xs _ e) I2 L2 g2 l2 m2 ?_)
    · rw [cn_0 (fun _ _ => rfl), h.1 _ _ (by omega)]
      unfold tsI
      rw [pu_n (by omega), pu_n (by omega), pu_n (by omega), pu_s]
      rfl
    · exact ⟨(h.2 i hi).1, (h.2 i hi).2.trans (if_neg (show ¬ (0 : Int32) = 1 by decide)).symm⟩
    · obtain ⟨_, z2, z3, _, z5⟩ := st2
      refine ⟨z2, z3, fun i hi => z5 i ?_⟩
      have hi : i < w * 1 := hi
      omega
end KM
