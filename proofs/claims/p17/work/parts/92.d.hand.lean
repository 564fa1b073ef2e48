/-! BY HAND: how a text is read, first: must, tells, sizes, plateNamed -/
section HI
variable {ys : List Int32} {I : Nat → Nat → Int32} {L : Nat → Nat → Int64} {s : Nat → Option Nat} {Q : List Value → pm_H → Prop}
theorem xK_wrong (hK : xK I) {x y : Int32} (hx : 1 ≤ x.toInt) : xK (pm_u (pm_u I 275 46 x) 275 47 y) := by
  obtain ⟨k1, k2, k3, k4, k5⟩ := hK
  refine ⟨xCp_u (xCp_u k1 (by decide)) (by decide), k2, k3, k4, fun q => ?_⟩
  have q' : x.toInt = 0 := q
  omega
theorem xV_wrong {x y : Int32} {l : Nat} {z : Int} (k : xVP (I, L, g_R s, 306) l z) : xVP (pm_u (pm_u I 275 46 x) 275 47 y, L, g_R s, 306) l z := by
  unfold xVP at k ⊢
  split at k
  · exact k
  · exact k
  · exact k
  · exact k
  · exact k
  · exact k
  · exact k
  · exact k
  · exact k
  · exact k
  · exact k
theorem M_must {b q : Int32} (k1 : ¬ b = 0 → Q [] (I, L, g_R s, 306)) (k2 : b = 0 → 0 < (I 275 46).toInt → Q [] (I, L, g_R s, 306)) (k3 : b = 0 → (I 275 46).toInt ≤ 0 → ∀ x, x = 1 ∨ x = q → Q [] (pm_u (pm_u I 275 46 x) 275 47 (I 275 48), L, g_R s, 306)) : pm_W (g_P ys) 286 0 [.ref 275, .int b, .int q] [] (I, L, g_R s, 306) (0, 0) Q := by
  refine ps_iload rfl rfl ?_
  refine ps_if rfl (fun hc => ?_) (fun hc => ?_)
  · refine ps_vret rfl rfl ?_
    exact k1 (by simpa [pm_cmp] using hc)
  · have hb : b = 0 := by simpa [pm_cmp] using hc
    refine ps_aload rfl rfl ?_
    refine ps_gfi 11 46 rfl rfl rfl rfl rfl ?_
    refine ps_if rfl (fun hd => ?_) (fun hd => ?_)
    · have hw : (I 275 46).toInt ≤ 0 := by
        have : I 275 46 ≤ 0 := by simpa [pm_cmp] using hd
        exact (i_le _ _).mp this
      have fin : ∀ x : Int32, x = 1 ∨ x = q → pm_W (g_P ys) 286 31 [.ref 275, .int b, .int q] [.int x, .ref 275] (I, L, g_R s, 306) (0, 0) Q := by
        intro x hx
        refine ps_pfi 11 46 rfl rfl rfl rfl rfl ?_
        refine ps_aload rfl rfl ?_
        refine ps_aload rfl rfl ?_
        refine ps_gfi 11 48 rfl rfl rfl rfl rfl ?_
        refine ps_pfi 11 47 rfl rfl rfl rfl rfl ?_
        refine ps_vret rfl rfl ?_
        exact k3 hb hw x hx
      refine ps_aload rfl rfl ?_
      refine ps_iload rfl rfl ?_
      refine pw_c rfl ?_
      refine ps_icmp rfl (fun he => ?_) (fun he => ?_)
      · refine ps_iload rfl rfl ?_
        exact fin q (Or.inr rfl)
      · refine ps_aload rfl rfl ?_
        refine ps_gfi 11 50 rfl rfl rfl rfl rfl ?_
        refine pw_c rfl ?_
        refine ps_icmp rfl (fun hf => ?_) (fun hf => ?_)
        · refine ps_iload rfl rfl ?_
          exact fin q (Or.inr rfl)
        · refine pw_c rfl ?_
          refine ps_goto rfl ?_
          exact fin 1 (Or.inl rfl)
    · refine ps_vret rfl rfl ?_
      refine k2 hb ?_
      have : ¬ I 275 46 ≤ 0 := by simpa [pm_cmp] using hd
      rw [i_le] at this
      have e : (0 : Int32).toInt = 0 := rfl
      omega
end HI
section HJ
variable {ys : List Int32}
theorem k_must1 : xk ys (286, [.inl (2, .ofNat 0, .ofNat 0, 50), .inl (0, .ofNat 1, .ofNat 1, 0), .inl (0, .ofNat 1, .ofNat 6, 0)], [], [], (false, false), [([], [], [], [])]) := by
  intro h vs Q iv va fa kk
  obtain ⟨I, L, s, rfl⟩ := x_form iv
  obtain ⟨_, c1, rfl, ⟨a, rfl, ha, _⟩, va1⟩ := vas_c va
  obtain ⟨_, c2, rfl, ⟨b, rfl, b1, b2, _⟩, va2⟩ := vas_c va1
  obtain ⟨_, c3, rfl, ⟨q, rfl, q1, q2, _⟩, va3⟩ := vas_c va2
  cases vas_n va3
  cases ref_M ha
  have b1' : (1 : Int) ≤ b.toInt := b1
  refine M_must (fun _ => kk _ _ iv (sx_fr_refl _ _ _ _ _) ⟨_, List.mem_cons_self, po_0⟩) (fun e => ?_) (fun e => ?_)
  · rw [e] at b1'
    exact absurd b1' (by decide)
  · rw [e] at b1'
    exact absurd b1' (by decide)
theorem must_iv {I : Nat → Nat → Int32} {L : Nat → Nat → Int64} {s : Nat → Option Nat} (iv : sx_IV xT xtg xPH (I, L, g_R s, 306)) {x : Int32} (h1 : 1 ≤ x.toInt) (h2 : x.toInt ≤ 6) : sx_IV xT xtg xPH (pm_u (pm_u I 275 46 x) 275 47 (I 275 48), L, g_R s, 306) ∧ sx_fr xtg xVP [(50, .ofNat 46, .ofNat 46), (50, .ofNat 47, .ofNat 47)] (false, false) (I, L, g_R s, 306) (pm_u (pm_u I 275 46 x) 275 47 (I 275 48), L, g_R s, 306) := by
  have pb := iv.1 275 48 (.ofNat 48, .ofNat 48, .ofNat 0, .ofNat 800) (by decide) (by decide) (by decide)
  refine ⟨iv_new iv (ib_u (lo := 0) (hi := 800) (ib_u (lo := 0) (hi := 6) iv.1 (by decide) (by omega) (by omega)) (by decide) pb.1 pb.2) (xK_wrong iv.2.2.2.2.2 h1), fr_u (fr_u (fun _ _ _ => rfl) (by decide)) (by decide), fun _ _ _ k => xV_wrong k, fun _ => rfl⟩
theorem k_must0 : xk ys (286, [.inl (2, .ofNat 0, .ofNat 0, 50), .inl (0, .ofNat 0, .ofNat 0, 0), .inl (0, .ofNat 1, .ofNat 6, 0)], [], [(50, .ofNat 46, .ofNat 46), (50, .ofNat 47, .ofNat 47)], (false, false), [([], [(0, 46, .ofNat 1, .ofNat 6, 0)], [], [])]) := by
  intro h vs Q iv va fa kk
  obtain ⟨I, L, s, rfl⟩ := x_form iv
  obtain ⟨_, c1, rfl, ⟨a, rfl, ha, _⟩, va1⟩ := vas_c va
  obtain ⟨_, c2, rfl, ⟨b, rfl, b1, b2, _⟩, va2⟩ := vas_c va1
  obtain ⟨_, c3, rfl, ⟨q, rfl, q1, q2, _⟩, va3⟩ := vas_c va2
  cases vas_n va3
  cases ref_M ha
  have b1' : (0 : Int) ≤ b.toInt := b1
  have b2' : b.toInt ≤ 0 := b2
  have q1' : (1 : Int) ≤ q.toInt := q1
  have q2' : q.toInt ≤ 6 := q2
  have wb := iv.1 275 46 (.ofNat 46, .ofNat 46, .ofNat 0, .ofNat 6) (by decide) (by decide) (by decide)
  refine M_must (fun e => absurd ((i_eq b 0).mpr (by show b.toInt = 0; omega)) e) (fun _ hw => ?_) (fun _ hw x hx => ?_)
  · refine kk _ _ iv (sx_fr_refl _ _ _ _ _) ⟨_, List.mem_cons_self, trivial, fun f hf => ?_, fun _ q => (by cases q), fun _ q => (by cases q)⟩
    rcases List.mem_cons.mp hf with rfl | hf
    · exact ⟨275, rfl, hw, wb.2, Or.inl rfl⟩
    · cases hf
  · have hxb : 1 ≤ x.toInt ∧ x.toInt ≤ 6 := by
      rcases hx with rfl | rfl
      · decide
      · exact ⟨q1', q2'⟩
    obtain ⟨g1, g2⟩ := must_iv iv hxb.1 hxb.2
    refine kk _ _ g1 g2 ⟨_, List.mem_cons_self, trivial, fun f hf => ?_, fun _ q => (by cases q), fun _ q => (by cases q)⟩
    rcases List.mem_cons.mp hf with rfl | hf
    · exact ⟨275, rfl, hxb.1, hxb.2, Or.inl rfl⟩
    · cases hf
theorem k_must01 : xk ys (286, [.inl (2, .ofNat 0, .ofNat 0, 50), .inl (0, .ofNat 0, .ofNat 1, 0), .inl (0, .ofNat 1, .ofNat 6, 0)], [], [(50, .ofNat 46, .ofNat 46), (50, .ofNat 47, .ofNat 47)], (false, false), [([], [], [(1, .ofNat 1, .ofNat 1, 0)], [(0, 46, .ofNat 0, .ofNat 0)]), ([], [(0, 46, .ofNat 1, .ofNat 6, 0)], [(1, .ofNat 0, .ofNat 0, 0)], [])]) := by
  intro h vs Q iv va fa kk
  obtain ⟨I, L, s, rfl⟩ := x_form iv
  obtain ⟨_, c1, rfl, ⟨a, rfl, ha, _⟩, va1⟩ := vas_c va
  obtain ⟨_, c2, rfl, ⟨b, rfl, b1, b2, _⟩, va2⟩ := vas_c va1
  obtain ⟨_, c3, rfl, ⟨q, rfl, q1, q2, _⟩, va3⟩ := vas_c va2
  cases vas_n va3
  cases ref_M ha
  have b1' : (0 : Int) ≤ b.toInt := b1
  have b2' : b.toInt ≤ 1 := b2
  have q1' : (1 : Int) ≤ q.toInt := q1
  have q2' : q.toInt ≤ 6 := q2
  have wb := iv.1 275 46 (.ofNat 46, .ofNat 46, .ofNat 0, .ofNat 6) (by decide) (by decide) (by decide)
  refine M_must (fun e => ?_) (fun eb hw => ?_) (fun eb hw x hx => ?_)
  · have e0 : ¬ b.toInt = 0 := fun q => e ((i_eq b 0).mpr q)
    refine kk _ _ iv (sx_fr_refl _ _ _ _ _) ⟨_, List.mem_cons_self, trivial, fun _ q => (by cases q), fun f hf => ?_, fun f hf => ?_⟩
    · rcases List.mem_cons.mp hf with rfl | hf
      · exact ⟨b, rfl, by show (1 : Int) ≤ _; omega, b2, Or.inl rfl⟩
      · cases hf
    · rcases List.mem_cons.mp hf with rfl | hf
      · exact ⟨275, rfl, by show (0 : Int) ≤ _ - _; omega, by show _ - _ ≤ (0 : Int); omega⟩
      · cases hf
  · refine kk _ _ iv (sx_fr_refl _ _ _ _ _) ⟨_, List.mem_cons_of_mem _ List.mem_cons_self, trivial, fun f hf => ?_, fun f hf => ?_, fun _ q => (by cases q)⟩
    · rcases List.mem_cons.mp hf with rfl | hf
      · exact ⟨275, rfl, hw, wb.2, Or.inl rfl⟩
      · cases hf
    · rcases List.mem_cons.mp hf with rfl | hf
      · exact ⟨b, rfl, b1, by rw [eb]; decide, Or.inl rfl⟩
      · cases hf
  · have hxb : 1 ≤ x.toInt ∧ x.toInt ≤ 6 := by
      rcases hx with rfl | rfl
      · decide
      · exact ⟨q1', q2'⟩
    obtain ⟨g1, g2⟩ := must_iv iv hxb.1 hxb.2
    refine kk _ _ g1 g2 ⟨_, List.mem_cons_of_mem _ List.mem_cons_self, trivial, fun f hf => ?_, fun f hf => ?_, fun _ q => (by cases q)⟩
    · rcases List.mem_cons.mp hf with rfl | hf
      · exact ⟨275, rfl, hxb.1, hxb.2, Or.inl rfl⟩
      · cases hf
    · rcases List.mem_cons.mp hf with rfl | hf
      · exact ⟨b, rfl, b1, by rw [eb]; decide, Or.inl rfl⟩
      · cases hf
end HJ
/-! what is written of the plate that is being made -/
section HK
variable {ys : List Int32} {I : Nat → Nat → Int32} {L : Nat → Nat → Int64} {s : Nat → Option Nat} {Q : List Value → pm_H → Prop} {n : Nat}
/-- alike but for the plate n of the new ones -/
def nAg (I I' : Nat → Nat → Int32) (n : Nat) : Prop := (∀ a j : Nat, ¬ a = 279 → I' a j = I a j) ∧ ∀ j : Nat, j < 7 * n ∨ 7 * n + 7 ≤ j → I' 279 j = I 279 j
theorem nAg_refl : nAg I I n := ⟨fun _ _ _ => rfl, fun _ _ => rfl⟩
theorem nAg_u {I' : Nat → Nat → Int32} (h : nAg I I' n) {i : Nat} {x : Int32} (hi : i < 7) : nAg I (pm_u I' 279 (7 * n + i) x) n :=
  ⟨fun a j ha => by rw [pu_o ha]; exact h.1 a j ha, fun j hj => by rw [pu_n (by omega)]; exact h.2 j hj⟩
theorem nAg_K {I' : Nat → Nat → Int32} (h : nAg I I' n) (hn : (I 275 15).toInt = (n : Int)) (hK : xK I) : xK I' := by
  obtain ⟨k1, k2, k3, k4, k5⟩ := hK
  refine ⟨fun a ha => ?_, fun j hj hk => ?_, fun m hm => ?_, fun hm => ?_, fun hw => ?_⟩
  · have ha' : ¬ a = 279 := fun q => by rw [q] at ha; exact absurd ha (by decide)
    rw [h.1 _ _ ha', h.1 _ _ ha', h.1 _ _ ha']
    exact k1 a ha
  · rw [h.1 _ _ (by decide)] at hk
    rw [h.1 _ _ (by decide), h.1 _ _ (by decide)]
    exact k2 j hj hk
  · rw [h.1 _ _ (by decide)] at hm
    have := k3 m hm
    unfold mPl mFm
    simp only [h.1 _ _ (show ¬ 278 = 279 by decide)]
    exact this
  · rw [h.1 _ _ (by decide)] at hm
    have := k4 hm
    rw [h.1 _ _ (by decide), h.1 _ _ (by decide)]
    refine ⟨this.1, fun j hj hj2 => ?_⟩
    rw [h.1 _ _ (by decide)] at hj2
    rw [h.1 _ _ (by decide)]
    exact this.2 j hj hj2
  · rw [h.1 _ _ (by decide)] at hw
    obtain ⟨q1, q2⟩ := k5 hw
    rw [h.1 _ _ (by decide), h.1 _ _ (by decide)]
    refine ⟨fun m hm => ?_, q2⟩
    rw [hn] at hm
    obtain ⟨⟨w, v, q3⟩, q4⟩ := q1 m (by rw [hn]; exact hm)
    refine ⟨⟨w, v, ?_⟩, ?_⟩
    · unfold nPl at q3 ⊢
      rw [h.2 _ (by omega), h.2 _ (by omega)]
      exact q3
    · unfold nFm at q4 ⊢
      rw [h.2 _ (by omega), h.2 _ (by omega), h.2 _ (by omega)]
      exact q4
/-- flags stay, if the plate that is being made stays good -/
theorem nAg_V {I' : Nat → Nat → Int32} (h : nAg I I' n) (hn : (I 275 15).toInt = (n : Int)) (h5 : ∀ w v, nPl I n w v → ∃ w v, nPl I' n w v) (h6 : nFm I n → nFm I' n) {l : Nat} {z : Int} (k : xVP (I, L, g_R s, 306) l z) : xVP (I', L, g_R s, 306) l z := by
  unfold xVP at k ⊢
  split at k
  · unfold xV1 mPl at k ⊢
    simp only [h.1 _ _ (show ¬ 278 = 279 by decide)]
    exact k
  · unfold xV2 mPl at k ⊢
    simp only [h.1 _ _ (show ¬ 278 = 279 by decide), h.1 _ _ (show ¬ 280 = 279 by decide), h.1 _ _ (show ¬ 294 = 279 by decide), h.1 _ _ (show ¬ 293 = 279 by decide), h.1 _ _ (show ¬ 291 = 279 by decide)]
    exact k
  · unfold xV3 mPl at k ⊢
    simp only [h.1 _ _ (show ¬ 278 = 279 by decide), h.1 _ _ (show ¬ 280 = 279 by decide)]
    exact k
  · obtain ⟨m, w, v, g1, g2, g3⟩ := k
    have g2' : z < (I 275 15).toInt := g2
    have hm : m < n := by omega
    refine ⟨m, w, v, g1, ?_, ?_⟩
    · show z < (I' 275 15).toInt
      rw [h.1 _ _ (by decide)]
      exact g2'
    · have g3 : nPl I m w v := g3
      show nPl I' m w v
      unfold nPl at g3 ⊢
      rw [h.2 _ (by omega), h.2 _ (by omega)]
      exact g3
  · obtain ⟨m, w, v, g1, g2, g3, g4⟩ := k
    have g2' : z ≤ (I 275 15).toInt := g2
    have g2s : z ≤ (I' 275 15).toInt := by
      rw [h.1 _ _ (by decide)]
      exact g2'
    by_cases hm : m = n
    · subst hm
      obtain ⟨w', v', g5⟩ := h5 w v g3
      exact ⟨m, w', v', g1, g2s, g5, h6 g4⟩
    · have hmn : m < n := by omega
      have g3 : nPl I m w v := g3
      have g4 : nFm I m := g4
      refine ⟨m, w, v, g1, g2s, ?_, ?_⟩
      · show nPl I' m w v
        unfold nPl at g3 ⊢
        rw [h.2 _ (by omega), h.2 _ (by omega)]
        exact g3
      · show nFm I' m
        unfold nFm at g4 ⊢
        rw [h.2 _ (by omega), h.2 _ (by omega), h.2 _ (by omega)]
        exact g4
  · obtain ⟨m, g1, g2, g3, g4⟩ := k
    have g2' : z ≤ (I 275 15).toInt := g2
    have g2s : z ≤ (I' 275 15).toInt := by
      rw [h.1 _ _ (by decide)]
      exact g2'
    by_cases hm : m = n
    · subst hm
      exact ⟨m, g1, g2s, g3, h6 g4⟩
    · have hmn : m < n := by omega
      have g4 : nFm I m := g4
      refine ⟨m, g1, g2s, g3, ?_⟩
      show nFm I' m
      unfold nFm at g4 ⊢
      rw [h.2 _ (by omega), h.2 _ (by omega), h.2 _ (by omega)]
      exact g4
  · show z ≤ (I' 275 49).toInt
    rw [h.1 _ _ (by decide)]
    exact k
  · exact k
  · exact k
  · exact k
  · exact k
theorem M_tells (hn : I 275 15 = nI n) (hn6 : n < 6) (f a b c : Int32) (kk : Q [] (pm_u (pm_u (pm_u (pm_u I 279 (7 * n + 2) f) 279 (7 * n + 3) a) 279 (7 * n + 4) b) 279 (7 * n + 5) c, L, g_R s, 306)) : pm_W (g_P ys) 293 0 [.ref 275, .int f, .int a, .int b, .int c, .retAddr 0] [] (I, L, g_R s, 306) (0, 0) Q := by
  refine pw_c rfl ?_
  refine ps_aload rfl rfl ?_
  refine ps_gfi 11 15 rfl rfl rfl rfl rfl ?_
  rw [show ((I, L, g_R s, 306) : pm_H).1 275 15 = nI n from hn]
  refine ps_ar rfl rfl rfl rfl rfl ?_
  refine ps_istore rfl rfl ?_
  refine ps_aload rfl rfl ?_
  refine ps_gfr 11 5 rfl rfl rfl rfl rfl (rfl) ?_
  refine ps_iload rfl rfl ?_
  refine pw_c rfl ?_
  refine ps_ar rfl rfl rfl rfl rfl ?_
  refine ps_iload rfl rfl ?_
  refine ps_iast (7 * n + 2) rfl rfl rfl (by simp only [ni_lit, ni_l0, pk_mul, nI_add, Nat.add_zero]) (by omega) ?_
  refine ps_aload rfl rfl ?_
  refine ps_gfr 11 5 rfl rfl rfl rfl rfl (rfl) ?_
  refine ps_iload rfl rfl ?_
  refine pw_c rfl ?_
  refine ps_ar rfl rfl rfl rfl rfl ?_
  refine ps_iload rfl rfl ?_
  refine ps_iast (7 * n + 3) rfl rfl rfl (by simp only [ni_lit, ni_l0, pk_mul, nI_add, Nat.add_zero]) (by omega) ?_
  refine ps_aload rfl rfl ?_
  refine ps_gfr 11 5 rfl rfl rfl rfl rfl (rfl) ?_
  refine ps_iload rfl rfl ?_
  refine pw_c rfl ?_
  refine ps_ar rfl rfl rfl rfl rfl ?_
  refine ps_iload rfl rfl ?_
  refine ps_iast (7 * n + 4) rfl rfl rfl (by simp only [ni_lit, ni_l0, pk_mul, nI_add, Nat.add_zero]) (by omega) ?_
  refine ps_aload rfl rfl ?_
  refine ps_gfr 11 5 rfl rfl rfl rfl rfl (rfl) ?_
  refine ps_iload rfl rfl ?_
  refine pw_c rfl ?_
  refine ps_ar rfl rfl rfl rfl rfl ?_
  refine ps_iload rfl rfl ?_
  refine ps_iast (7 * n + 5) rfl rfl rfl (by simp only [ni_lit, ni_l0, pk_mul, nI_add, Nat.add_zero]) (by omega) ?_
  refine ps_vret rfl rfl ?_
  exact kk
theorem M_sizes (hn : I 275 15 = nI n) (hn6 : n < 6) (w v : Int32) (kk : Q [] (pm_u (pm_u I 279 (7 * n) w) 279 (7 * n + 1) v, L, g_R s, 306)) : pm_W (g_P ys) 294 0 [.ref 275, .int w, .int v] [] (I, L, g_R s, 306) (0, 0) Q := by
  refine ps_aload rfl rfl ?_
  refine ps_gfr 11 5 rfl rfl rfl rfl rfl (rfl) ?_
  refine pw_c rfl ?_
  refine ps_aload rfl rfl ?_
  refine ps_gfi 11 15 rfl rfl rfl rfl rfl ?_
  rw [show ((I, L, g_R s, 306) : pm_H).1 275 15 = nI n from hn]
  refine ps_ar rfl rfl rfl rfl rfl ?_
  refine pw_c rfl ?_
  refine ps_ar rfl rfl rfl rfl rfl ?_
  refine ps_iload rfl rfl ?_
  refine ps_iast (7 * n) rfl rfl rfl (by simp only [ni_lit, ni_l0, pk_mul, nI_add, Nat.add_zero]) (by omega) ?_
  refine ps_aload rfl rfl ?_
  refine ps_gfr 11 5 rfl rfl rfl rfl rfl (rfl) ?_
  refine pw_c rfl ?_
  refine ps_aload rfl rfl ?_
  refine ps_gfi 11 15 rfl rfl rfl rfl rfl ?_
  rw [show ((pm_sI (I, L, g_R s, 306) 279 (7 * n) w) : pm_H).1 275 15 = nI n from hn]
  refine ps_ar rfl rfl rfl rfl rfl ?_
  refine pw_c rfl ?_
  refine ps_ar rfl rfl rfl rfl rfl ?_
  refine ps_iload rfl rfl ?_
  refine ps_iast (7 * n + 1) rfl rfl rfl (by simp only [ni_lit, ni_l0, pk_mul, nI_add, Nat.add_zero]) (by omega) ?_
  refine ps_vret rfl rfl ?_
  exact kk
end HK
section HL
variable {ys : List Int32}
theorem k_tells {f a0 a1 b0 b1 : Nat} (hf : f ≤ 6) (ha : a1 ≤ 289) (hb : b1 ≤ 289) (hOK : ∀ a b : Int, a0 ≤ a → a ≤ a1 → b0 ≤ b → b ≤ b1 → fOK f a b) : xk ys (293, [.inl (2, .ofNat 0, .ofNat 0, 50), .inl (0, .ofNat f, .ofNat f, 0), .inl (0, .ofNat a0, .ofNat a1, 0), .inl (0, .ofNat b0, .ofNat b1, 0), .inl (0, .ofNat 0, .ofNat 99, 0)], [(0, 15, .ofNat 0, .ofNat 5, 0)], [(54, .ofNat 0, .ofNat 41)], (false, false), [([], [(0, 15, .ofNat 0, .ofNat 5, 6)], [], [])]) := by
  intro h vs Q iv va fa kk
  obtain ⟨I, L, s, rfl⟩ := x_form iv
  obtain ⟨_, c1, rfl, ⟨a, rfl, haM, _⟩, va1⟩ := vas_c va
  obtain ⟨_, c2, rfl, ⟨x, rfl, x1, x2, _⟩, va2⟩ := vas_c va1
  obtain ⟨_, c3, rfl, ⟨y, rfl, y1, y2, _⟩, va3⟩ := vas_c va2
  obtain ⟨_, c4, rfl, ⟨z, rfl, z1, z2, _⟩, va4⟩ := vas_c va3
  obtain ⟨_, c5, rfl, ⟨u, rfl, u1, u2, _⟩, va5⟩ := vas_c va4
  cases vas_n va5
  cases ref_M haM
  obtain ⟨p1, p2, _⟩ := fas1 fa rfl
  have x1' : (f : Int) ≤ x.toInt := x1
  have x2' : x.toInt ≤ (f : Int) := x2
  have y1' : (a0 : Int) ≤ y.toInt := y1
  have y2' : y.toInt ≤ (a1 : Int) := y2
  have z1' : (b0 : Int) ≤ z.toInt := z1
  have z2' : z.toInt ≤ (b1 : Int) := z2
  have u1' : (0 : Int) ≤ u.toInt := u1
  have u2' : u.toInt ≤ 99 := u2
  have p1' : (0 : Int) ≤ (I 275 15).toInt := p1
  have p2' : (I 275 15).toInt ≤ 5 := p2
  obtain ⟨n, hz⟩ : ∃ n : Nat, (I 275 15).toInt = (n : Int) := ⟨(I 275 15).toInt.toNat, by omega⟩
  have hn := i_nat hz
  have hn6 : n < 6 := by omega
  have wr : ∀ j : Nat, j < 42 → sx_wr (xsb (xtg 279)) j j (0, 289) = true := by
    have q : (List.range 42).all (fun j => sx_wr (xsb (xtg 279)) j j (0, 289)) = true := by decide +kernel
    intro j hj
    exact List.all_eq_true.mp q j (List.mem_range.mpr hj)
  have wk : ∀ j : Nat, j < 42 → sx_wk [(54, .ofNat 0, .ofNat 41)] (xtg 279) j j = true := by
    have q : (List.range 42).all (fun j => sx_wk [(54, .ofNat 0, .ofNat 41)] (xtg 279) j j) = true := by decide +kernel
    intro j hj
    exact List.all_eq_true.mp q j (List.mem_range.mpr hj)
  have ag : nAg I (pm_u (pm_u (pm_u (pm_u I 279 (7 * n + 2) x) 279 (7 * n + 3) y) 279 (7 * n + 4) z) 279 (7 * n + 5) u) n := nAg_u (nAg_u (nAg_u (nAg_u nAg_refl (by omega)) (by omega)) (by omega)) (by omega)
  have fm : nFm (pm_u (pm_u (pm_u (pm_u I 279 (7 * n + 2) x) 279 (7 * n + 3) y) 279 (7 * n + 4) z) 279 (7 * n + 5) u) n := by
    unfold nFm
    rw [pu_n (by omega), pu_n (by omega), pu_n (by omega), pu_s, pu_n (by omega), pu_n (by omega), pu_s, pu_n (by omega), pu_s]
    rw [show x.toInt = (f : Int) by omega]
    exact hOK _ _ y1' y2' z1' z2'
  have sz : ∀ w v, nPl I n w v → ∃ w v, nPl (pm_u (pm_u (pm_u (pm_u I 279 (7 * n + 2) x) 279 (7 * n + 3) y) 279 (7 * n + 4) z) 279 (7 * n + 5) u) n w v := by
    intro w v k
    refine ⟨w, v, ?_⟩
    unfold nPl at k ⊢
    rw [pu_n (by omega), pu_n (by omega), pu_n (by omega), pu_n (by omega), pu_n (by omega), pu_n (by omega), pu_n (by omega), pu_n (by omega)]
    exact k
  refine M_tells hn hn6 x y z u (kk _ _ (iv_new iv (ib_u (lo := 0) (hi := 289) (ib_u (lo := 0) (hi := 289) (ib_u (lo := 0) (hi := 289) (ib_u (lo := 0) (hi := 289) iv.1 (wr _ (by omega)) (by omega) (by omega)) (wr _ (by omega)) (by omega) (by omega)) (wr _ (by omega)) (by omega) (by omega)) (wr _ (by omega)) (by omega) (by omega)) (nAg_K ag hz iv.2.2.2.2.2)) ⟨fr_u (fr_u (fr_u (fr_u (fun _ _ _ => rfl) (wk _ (by omega))) (wk _ (by omega))) (wk _ (by omega))) (wk _ (by omega)), fun _ _ _ k => nAg_V ag hz sz (fun _ => fm) k, fun _ => rfl⟩ ⟨_, List.mem_cons_self, trivial, fun g hg => ?_, fun _ q => (by cases q), fun _ q => (by cases q)⟩)
  rcases List.mem_cons.mp hg with rfl | hg
  · exact ⟨275, rfl, p1, p2, Or.inr ⟨n, hz, Int.le_refl _, hn6, fm⟩⟩
  · cases hg
theorem sizes_iv {I : Nat → Nat → Int32} {L : Nat → Nat → Int64} {s : Nat → Option Nat} (iv : sx_IV xT xtg xPH (I, L, g_R s, 306)) {n w v : Nat} (hz : (I 275 15).toInt = (n : Int)) (hn6 : n < 6) (hw : 0 < w) (hv : 0 < v) (hwv : w * v ≤ 289) : sx_IV xT xtg xPH (pm_u (pm_u I 279 (7 * n) (nI w)) 279 (7 * n + 1) (nI v), L, g_R s, 306) ∧ sx_fr xtg xVP [(54, .ofNat 0, .ofNat 41)] (false, false) (I, L, g_R s, 306) (pm_u (pm_u I 279 (7 * n) (nI w)) 279 (7 * n + 1) (nI v), L, g_R s, 306) ∧ nPl (pm_u (pm_u I 279 (7 * n) (nI w)) 279 (7 * n + 1) (nI v)) n w v ∧ (nFm I n → nFm (pm_u (pm_u I 279 (7 * n) (nI w)) 279 (7 * n + 1) (nI v)) n) := by
  have hwb := Nat.le_mul_of_pos_right w hv
  have hvb := Nat.le_mul_of_pos_left v hw
  have tw := nI_toInt (n := w) (by omega)
  have tv := nI_toInt (n := v) (by omega)
  have wr : ∀ j : Nat, j < 42 → sx_wr (xsb (xtg 279)) j j (0, 289) = true := by
    have q : (List.range 42).all (fun j => sx_wr (xsb (xtg 279)) j j (0, 289)) = true := by decide +kernel
    intro j hj
    exact List.all_eq_true.mp q j (List.mem_range.mpr hj)
  have wk : ∀ j : Nat, j < 42 → sx_wk [(54, .ofNat 0, .ofNat 41)] (xtg 279) j j = true := by
    have q : (List.range 42).all (fun j => sx_wk [(54, .ofNat 0, .ofNat 41)] (xtg 279) j j) = true := by decide +kernel
    intro j hj
    exact List.all_eq_true.mp q j (List.mem_range.mpr hj)
  have ag : nAg I (pm_u (pm_u I 279 (7 * n) (nI w)) 279 (7 * n + 1) (nI v)) n := nAg_u (nAg_u (i := 0) nAg_refl (by omega)) (by omega)
  have sz : nPl (pm_u (pm_u I 279 (7 * n) (nI w)) 279 (7 * n + 1) (nI v)) n w v := by
    unfold nPl
    rw [pu_n (by omega), pu_s, pu_s]
    exact ⟨hn6, rfl, rfl, hw, hv, hwv⟩
  have fm : nFm I n → nFm (pm_u (pm_u I 279 (7 * n) (nI w)) 279 (7 * n + 1) (nI v)) n := by
    intro k
    unfold nFm at k ⊢
    rw [pu_n (by omega), pu_n (by omega), pu_n (by omega), pu_n (by omega), pu_n (by omega), pu_n (by omega)]
    exact k
  exact ⟨iv_new iv (ib_u (lo := 0) (hi := 289) (ib_u (lo := 0) (hi := 289) iv.1 (wr _ (by omega)) (by omega) (by omega)) (wr _ (by omega)) (by omega) (by omega)) (nAg_K ag hz iv.2.2.2.2.2), ⟨fr_u (fr_u (fun _ _ _ => rfl) (wk _ (by omega))) (wk _ (by omega)), fun _ _ _ k => nAg_V ag hz (fun _ _ _ => ⟨w, v, sz⟩) fm k, fun _ => rfl⟩, sz, fm⟩
theorem k_sizes {w1 v1 : Nat} (hOK : ∀ w v : Nat, w ≤ w1 → v ≤ v1 → w * v ≤ 289) : xk ys (294, [.inl (2, .ofNat 0, .ofNat 0, 50), .inl (0, .ofNat 1, .ofNat w1, 0), .inl (0, .ofNat 1, .ofNat v1, 0)], [(0, 15, .ofNat 0, .ofNat 5, 6)], [(54, .ofNat 0, .ofNat 41)], (false, false), [([], [(0, 15, .ofNat 0, .ofNat 5, 5)], [], [])]) := by
  intro h vs Q iv va fa kk
  obtain ⟨I, L, s, rfl⟩ := x_form iv
  obtain ⟨_, c1, rfl, ⟨a, rfl, haM, _⟩, va1⟩ := vas_c va
  obtain ⟨_, c2, rfl, ⟨x, rfl, x1, x2, _⟩, va2⟩ := vas_c va1
  obtain ⟨_, c3, rfl, ⟨y, rfl, y1, y2, _⟩, va3⟩ := vas_c va2
  cases vas_n va3
  cases ref_M haM
  obtain ⟨p1, p2, p3⟩ := fas1 fa rfl
  have x1' : (1 : Int) ≤ x.toInt := x1
  have x2' : x.toInt ≤ (w1 : Int) := x2
  have y1' : (1 : Int) ≤ y.toInt := y1
  have y2' : y.toInt ≤ (v1 : Int) := y2
  obtain ⟨n, hz, _, hn6, fm⟩ := p3.resolve_left (by decide)
  have hz : (I 275 15).toInt = (n : Int) := hz
  have fm : nFm I n := fm
  have hn := i_nat hz
  obtain ⟨w, hw⟩ : ∃ w : Nat, x.toInt = (w : Int) := ⟨x.toInt.toNat, by omega⟩
  obtain ⟨v, hv⟩ : ∃ v : Nat, y.toInt = (v : Int) := ⟨y.toInt.toNat, by omega⟩
  cases i_nat hw
  cases i_nat hv
  obtain ⟨g1, g2, g3, g4⟩ := sizes_iv (L := L) (s := s) iv hz hn6 (w := w) (v := v) (by omega) (by omega) (hOK w v (by omega) (by omega))
  refine M_sizes hn hn6 _ _ (kk _ _ g1 g2 ⟨_, List.mem_cons_self, trivial, fun g hg => ?_, fun _ q => (by cases q), fun _ q => (by cases q)⟩)
  rcases List.mem_cons.mp hg with rfl | hg
  · exact ⟨275, rfl, p1, p2, Or.inr ⟨n, w, v, hz, Int.le_refl _, g3, g4 fm⟩⟩
  · cases hg
theorem k_plateNamed : xk ys (289, [.inl (2, .ofNat 0, .ofNat 0, 50)], [(0, 46, .ofNat 0, .ofNat 0, 0)], [], (false, false), [([.inl (0, .negSucc 0, .negSucc 0, 0)], [], [], []), ([.inl (0, .ofNat 0, .ofNat 5, 4)], [], [], [])]) := by
  intro h vs Q iv va fa kk
  obtain ⟨I, L, s, rfl⟩ := x_form iv
  obtain ⟨_, c1, rfl, ⟨a, rfl, haM, _⟩, va1⟩ := vas_c va
  cases vas_n va1
  cases ref_M haM
  obtain ⟨p1, p2, _⟩ := fas1 fa rfl
  have p1' : (0 : Int) ≤ (I 275 46).toInt := p1
  have p2' : (I 275 46).toInt ≤ 0 := p2
  have nb := iv.1 275 15 (.ofNat 15, .ofNat 15, .ofNat 0, .ofNat 6) (by decide) (by decide) (by decide)
  have nb1 : (0 : Int) ≤ (I 275 15).toInt := nb.1
  have nb2 : (I 275 15).toInt ≤ 6 := nb.2
  obtain ⟨n, hz⟩ : ∃ n : Nat, (I 275 15).toInt = (n : Int) := ⟨(I 275 15).toInt.toNat, by omega⟩
  have hn := i_nat hz
  have hN := (iv.2.2.2.2.2.2.2.2.2 (show (I 275 46).toInt = 0 by omega)).1
  have loop : ∀ d i, i + d = n → pm_W (g_P ys) 289 2 [.ref 275, .int (nI i)] [] (I, L, g_R s, 306) (0, 0) Q := by
    intro d
    induction d with
    | zero =>
      intro i hi
      refine ps_iload rfl rfl ?_
      refine ps_aload rfl rfl ?_
      refine ps_gfi 11 15 rfl rfl rfl rfl rfl ?_
      refine ps_icmpt rfl (by show decide _ = true; rw [show ((I, L, g_R s, 306) : pm_H).1 275 15 = nI n from hn]; exact decide_eq_true (nI_le (by omega) (by omega))) ?_
      refine pw_c rfl ?_
      refine ps_iret rfl rfl ?_
      exact kk _ _ iv (sx_fr_refl _ _ _ _ _) ⟨_, List.mem_cons_self, po_i (Int.le_refl _) (Int.le_refl _)⟩
    | succ d ih =>
      intro i hi
      refine ps_iload rfl rfl ?_
      refine ps_aload rfl rfl ?_
      refine ps_gfi 11 15 rfl rfl rfl rfl rfl ?_
      refine ps_icmpf rfl (by show decide _ = false; rw [show ((I, L, g_R s, 306) : pm_H).1 275 15 = nI n from hn]; exact decide_eq_false (nI_ge (by omega) (by omega))) ?_
      refine ps_aload rfl rfl ?_
      refine ps_gfr 11 13 rfl rfl rfl rfl rfl (rfl) ?_
      refine ps_iload rfl rfl ?_
      refine ps_lald (i) rfl rfl rfl (rfl) (by omega) ?_
      refine ps_aload rfl rfl ?_
      refine ps_gfl 11 54 rfl rfl rfl rfl rfl ?_
      refine ps_ar rfl rfl rfl rfl rfl ?_
      refine ps_if rfl (fun hc => ?_) (fun hc => ?_)
      · refine ps_iinc rfl rfl ?_
        refine ps_goto rfl ?_
        rw [show nI i + Int32.ofInt 1 = nI (i + 1) from nI_1 i]
        exact ih (i + 1) (by omega)
      · refine ps_iload rfl rfl ?_
        refine ps_iret rfl rfl ?_
        have hi' : (i : Int) < (I 275 15).toInt := by omega
        obtain ⟨⟨w, v, q⟩, _⟩ := hN i hi'
        have t := nI_toInt (n := i) (by omega)
        refine kk _ _ iv (sx_fr_refl _ _ _ _ _) ⟨_, List.mem_cons_of_mem _ List.mem_cons_self, ⟨⟨_, rfl, by rw [t]; show (0 : Int) ≤ _; omega, by rw [t]; show _ ≤ (5 : Int); omega, Or.inr ⟨i, w, v, t, by rw [t]; exact hi', q⟩⟩, trivial⟩, fun _ q => (by cases q), fun _ q => (by cases q), fun _ q => (by cases q)⟩
  refine pw_c rfl ?_
  refine ps_istore rfl rfl ?_
  exact loop n 0 (by omega)
end HL
