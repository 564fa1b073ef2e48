/-! BY HAND: rows that no relation speaks of -/
section HO
variable {I I' : Nat → Nat → Int32} {L : Nat → Nat → Int64} {s : Nat → Option Nat} {P : Nat → Prop}
theorem xK_ag (hP : ∀ a, P a → ¬ xtg a = 36 ∧ ¬ a = 7 ∧ ¬ a = 8 ∧ ¬ a = 10 ∧ ¬ a = 275 ∧ ¬ a = 278 ∧ ¬ a = 279 ∧ ¬ a = 288 ∧ ¬ a = 289 ∧ ¬ a = 290) (h : ∀ a j : Nat, ¬ P a → I' a j = I a j) (hK : xK I) : xK I' := by
  obtain ⟨k1, k2, k3, k4, k5⟩ := hK
  have e1 : ∀ j, I' 7 j = I 7 j := fun j => h _ _ (fun q => (hP _ q).2.1 rfl)
  have e2 : ∀ j, I' 8 j = I 8 j := fun j => h _ _ (fun q => (hP _ q).2.2.1 rfl)
  have e3 : ∀ j, I' 10 j = I 10 j := fun j => h _ _ (fun q => (hP _ q).2.2.2.1 rfl)
  have e4 : ∀ j, I' 275 j = I 275 j := fun j => h _ _ (fun q => (hP _ q).2.2.2.2.1 rfl)
  have e5 : ∀ j, I' 278 j = I 278 j := fun j => h _ _ (fun q => (hP _ q).2.2.2.2.2.1 rfl)
  have e6 : ∀ j, I' 279 j = I 279 j := fun j => h _ _ (fun q => (hP _ q).2.2.2.2.2.2.1 rfl)
  have e7 : ∀ j, I' 288 j = I 288 j := fun j => h _ _ (fun q => (hP _ q).2.2.2.2.2.2.2.1 rfl)
  have e8 : ∀ j, I' 289 j = I 289 j := fun j => h _ _ (fun q => (hP _ q).2.2.2.2.2.2.2.2.1 rfl)
  have e9 : ∀ j, I' 290 j = I 290 j := fun j => h _ _ (fun q => (hP _ q).2.2.2.2.2.2.2.2.2 rfl)
  refine ⟨fun a ha => ?_, fun j hj hk => ?_, fun m hm => ?_, fun hm => ?_, fun hw => ?_⟩
  · have hn : ¬ P a := fun q => (hP _ q).1 ha
    rw [h _ _ hn, h _ _ hn, h _ _ hn]
    exact k1 a ha
  · rw [e1] at hk
    rw [e2, e3]
    exact k2 j hj hk
  · rw [e4] at hm
    have := k3 m hm
    unfold mPl mFm
    simp only [e5]
    exact this
  · rw [e4] at hm
    have := k4 hm
    simp only [e4, e7, e9]
    exact this
  · rw [e4] at hw
    have := k5 hw
    unfold nPl nFm
    simp only [e4, e6, e8]
    exact this
theorem xV_ag (hP : ∀ a, P a → ¬ a = 275 ∧ ¬ a = 278 ∧ ¬ a = 279 ∧ ¬ a = 280 ∧ ¬ a = 294 ∧ ¬ a = 293 ∧ ¬ a = 291) (h : ∀ a j : Nat, ¬ P a → I' a j = I a j) {l : Nat} {z : Int} (k : xVP (I, L, g_R s, 306) l z) : xVP (I', L, g_R s, 306) l z := by
  have e4 : ∀ j, I' 275 j = I 275 j := fun j => h _ _ (fun q => (hP _ q).1 rfl)
  have e5 : ∀ j, I' 278 j = I 278 j := fun j => h _ _ (fun q => (hP _ q).2.1 rfl)
  have e6 : ∀ j, I' 279 j = I 279 j := fun j => h _ _ (fun q => (hP _ q).2.2.1 rfl)
  have e7 : ∀ j, I' 280 j = I 280 j := fun j => h _ _ (fun q => (hP _ q).2.2.2.1 rfl)
  have e8 : ∀ j, I' 294 j = I 294 j := fun j => h _ _ (fun q => (hP _ q).2.2.2.2.1 rfl)
  have e9 : ∀ j, I' 293 j = I 293 j := fun j => h _ _ (fun q => (hP _ q).2.2.2.2.2.1 rfl)
  have e10 : ∀ j, I' 291 j = I 291 j := fun j => h _ _ (fun q => (hP _ q).2.2.2.2.2.2 rfl)
  unfold xVP xV1 xV2 xV3 xV4 xV5 xV6 mPl nPl nFm at k ⊢
  simp only [e4, e5, e6, e7, e8, e9, e10]
  exact k
/-- a row of 289 without bounds -/
theorem iv_row {b : Nat} (hP : ¬ xtg b = 36 ∧ ¬ b = 7 ∧ ¬ b = 8 ∧ ¬ b = 10 ∧ ¬ b = 275 ∧ ¬ b = 278 ∧ ¬ b = 279 ∧ ¬ b = 288 ∧ ¬ b = 289 ∧ ¬ b = 290) (hV : ¬ b = 275 ∧ ¬ b = 278 ∧ ¬ b = 279 ∧ ¬ b = 280 ∧ ¬ b = 294 ∧ ¬ b = 293 ∧ ¬ b = 291) (hB : xsb (xtg b) = []) {W : sx_W} (hW : sx_wk W (xtg b) 0 288 = true) (D : Bool × Bool) (iv : sx_IV xT xtg xPH (I, L, g_R s, 306)) (ag : rAg b I I') : sx_IV xT xtg xPH (I', L, g_R s, 306) ∧ sx_fr xtg xVP W D (I, L, g_R s, 306) (I', L, g_R s, 306) := by
  have ag2 : ∀ a j : Nat, ¬ a = b → I' a j = I a j := fun a j ha => rAg_o ag ha
  refine ⟨iv_new iv (fun c j q hq k1 k2 => ?_) (xK_ag (P := fun a => a = b) (fun a e => by rw [e]; exact hP) ag2 iv.2.2.2.2.2), fun c j hn => ?_, fun _ l z k => xV_ag (P := fun a => a = b) (fun a e => by rw [e]; exact hV) ag2 k, fun _ => rfl⟩
  · by_cases e : c = b
    · rw [e] at hq
      have hq' : q ∈ xsb (xtg b) := hq
      rw [hB] at hq'
      cases hq'
    · rw [ag2 c j e]
      exact iv.1 c j q hq k1 k2
  · refine ag c j (fun q => hn ?_)
    rw [q.1]
    exact sx_wk_ok hW (by omega) (by omega)
end HO
section HP
variable {ys : List Int32} {I : Nat → Nat → Int32} {L : Nat → Nat → Int64} {s : Nat → Option Nat} {Q : List Value → pm_H → Prop} {k w v : Nat}
theorem sides_iv (iv : sx_IV xT xtg xPH (I, L, g_R s, 306)) (hk : k < 6) {I' : Nat → Nat → Int32} (h0 : I 294 k = 0) (ag : sAg k I I') (ha : I' 294 k = 1) : sx_IV xT xtg xPH (I', L, g_R s, 306) ∧ sx_fr xtg xVP [(69, .ofNat 0, .ofNat 5), (66, .ofNat 0, .ofNat 5), (67, .ofNat 0, .ofNat 5), (68, .ofNat 0, .ofNat 5)] (false, false) (I, L, g_R s, 306) (I', L, g_R s, 306) := by
  have ag2 : ∀ a j : Nat, ¬ (a = 291 ∨ a = 292 ∨ a = 293 ∨ a = 294) → I' a j = I a j := fun a j hn => ag a j (fun q => hn q.1)
  refine ⟨iv_new iv (fun c j q hq k1 k2 => ?_) (xK_ag (P := fun a => a = 291 ∨ a = 292 ∨ a = 293 ∨ a = 294) (fun a e => ?_) ag2 iv.2.2.2.2.2), fun c j hn => ?_, fun _ l z kv => ?_, fun _ => rfl⟩
  · by_cases e : (c = 291 ∨ c = 292 ∨ c = 293 ∨ c = 294) ∧ j = k
    · obtain ⟨e1, e2⟩ := e
      subst e2
      rcases e1 with rfl | rfl | rfl | rfl
      · exact absurd hq (by intro q; cases q)
      · exact absurd hq (by intro q; cases q)
      · exact absurd hq (by intro q; cases q)
      · have hq' : q ∈ [((.ofNat 0, .ofNat 5, .ofNat 0, .ofNat 1) : Int × Int × Int × Int)] := hq
        rcases List.mem_cons.mp hq' with rfl | hq'
        · rw [ha]; decide
        · cases hq'
    · rw [ag c j e]
      exact iv.1 c j q hq k1 k2
  · rcases e with rfl | rfl | rfl | rfl <;> decide
  · refine ag c j (fun q => hn ?_)
    obtain ⟨e1, e2⟩ := q
    subst e2
    rcases e1 with rfl | rfl | rfl | rfl
    · exact sx_wk_ok (lo := 0) (hi := 5) (by decide) (by omega) (by omega)
    · exact sx_wk_ok (lo := 0) (hi := 5) (by decide) (by omega) (by omega)
    · exact sx_wk_ok (lo := 0) (hi := 5) (by decide) (by omega) (by omega)
    · exact sx_wk_ok (lo := 0) (hi := 5) (by decide) (by omega) (by omega)
  · have e4 : ∀ j, I' 275 j = I 275 j := fun j => ag2 _ _ (by decide)
    have e5 : ∀ j, I' 278 j = I 278 j := fun j => ag2 _ _ (by decide)
    have e6 : ∀ j, I' 279 j = I 279 j := fun j => ag2 _ _ (by decide)
    have e7 : ∀ j, I' 280 j = I 280 j := fun j => ag2 _ _ (by decide)
    unfold xVP at kv ⊢
    split at kv
    · unfold xV1 mPl at kv ⊢
      simp only [e5]
      exact kv
    · obtain ⟨n, w, v, g1, g2, g3, g4, g5⟩ := kv
      have g4 : I 294 n = 1 := g4
      have hnk : ¬ n = k := fun q => by rw [q, h0] at g4; cases g4
      unfold xV2 mPl at *
      refine ⟨n, w, v, g1, ?_⟩
      simp only [e5, e7, ag 294 n (fun q => hnk q.2), ag 293 n (fun q => hnk q.2), ag 291 n (fun q => hnk q.2)]
      exact ⟨g2, g3, g4, g5⟩
    · unfold xV3 mPl at kv ⊢
      simp only [e5, e7]
      exact kv
    · unfold xV4 nPl at kv ⊢
      simp only [e4, e6]
      exact kv
    · unfold xV5 nPl nFm at kv ⊢
      simp only [e4, e6]
      exact kv
    · unfold xV6 nFm at kv ⊢
      simp only [e4, e6]
      exact kv
    · simp only [e4]
      exact kv
    · exact kv
    · exact kv
    · exact kv
    · exact kv
theorem areS_01 (iv : sx_IV xT xtg xPH (I, L, g_R s, 306)) (hk : k < 6) (h : ¬ I 294 k = 0) : I 294 k = 1 := by
  have b := iv.1 294 k (.ofNat 0, .ofNat 5, .ofNat 0, .ofNat 1) (by decide) (by show (0 : Int) ≤ _; omega) (by show _ ≤ (5 : Int); omega)
  have b1 : (0 : Int) ≤ (I 294 k).toInt := b.1
  have b2 : (I 294 k).toInt ≤ 1 := b.2
  have : ¬ (I 294 k).toInt = 0 := fun q => h ((i_eq _ _).mpr q)
  exact (i_eq _ _).mpr (by show _ = (1 : Int); omega)
/-- sides are known then -/
theorem M_sidesIV (iv : sx_IV xT xtg xPH (I, L, g_R s, 306)) (hp : mPl I k w v) (kk : ∀ I', sAg k I I' → I' 294 k = 1 → sx_IV xT xtg xPH (I', L, g_R s, 306) → sx_fr xtg xVP [(69, .ofNat 0, .ofNat 5), (66, .ofNat 0, .ofNat 5), (67, .ofNat 0, .ofNat 5), (68, .ofNat 0, .ofNat 5)] (false, false) (I, L, g_R s, 306) (I', L, g_R s, 306) → Q [] (I', L, g_R s, 306)) : pm_W (g_P ys) 198 0 [.ref 275, .int (nI k), .retAddr 0, .retAddr 0, .retAddr 0, .retAddr 0] [] (I, L, g_R s, 306) (0, 0) Q := by
  refine M_laysSides hp (fun h => kk I sAg_refl (areS_01 iv hp.1 h) iv (sx_fr_refl _ _ _ _ _)) (fun h0 I' ag ha => ?_)
  obtain ⟨g1, g2⟩ := sides_iv iv hp.1 h0 ag ha
  exact kk I' ag ha g1 g2
theorem M_flatIV (iv : sx_IV xT xtg xPH (I, L, g_R s, 306)) (hp : mPl I k w v) (kk : ∀ I' b, sAg k I I' → I' 294 k = 1 → sx_IV xT xtg xPH (I', L, g_R s, 306) → sx_fr xtg xVP [(69, .ofNat 0, .ofNat 5), (66, .ofNat 0, .ofNat 5), (67, .ofNat 0, .ofNat 5), (68, .ofNat 0, .ofNat 5)] (false, false) (I, L, g_R s, 306) (I', L, g_R s, 306) → Q [.int b] (I', L, g_R s, 306)) : pm_W (g_P ys) 206 0 [.ref 275, .int (nI k)] [] (I, L, g_R s, 306) (0, 0) Q := by
  have hk := hp.1
  refine ps_aload rfl rfl ?_
  refine ps_iload rfl rfl ?_
  refine pw_k rfl rfl rfl rfl ⟨Nat.zero_le _, Nat.zero_le _⟩ ?_
  refine M_sidesIV iv hp ?_
  intro I' ag ha g1 g2
  have f1 : ∀ x : Int32, x = 0 ∨ x = 1 → pm_W (g_P ys) 206 34 [.ref 275, .int (nI k)] [.int x] (I', L, g_R s, 306) (0, 0) Q := by
    intro x hx
    refine ps_zret rfl rfl (hx) ?_
    exact kk _ _ ag ha g1 g2
  refine ps_aload rfl rfl ?_
  refine ps_iload rfl rfl ?_
  refine pw_k rfl rfl rfl rfl ⟨Nat.zero_le _, Nat.zero_le _⟩ ?_
  refine M_cellsOf hk ?_
  refine pw_c rfl ?_
  refine ps_icmp rfl (fun hc => ?_) (fun hc => ?_)
  · refine pw_c rfl ?_
    refine ps_goto rfl ?_
    exact f1 _ (Or.inr rfl)
  · refine ps_aload rfl rfl ?_
    refine ps_gfr 11 20 rfl rfl rfl rfl rfl (rfl) ?_
    refine ps_iload rfl rfl ?_
    refine ps_iald (k) rfl rfl rfl (rfl) (by omega) ?_
    refine ps_aload rfl rfl ?_
    refine ps_gfr 11 21 rfl rfl rfl rfl rfl (rfl) ?_
    refine ps_iload rfl rfl ?_
    refine ps_iald (k) rfl rfl rfl (rfl) (by omega) ?_
    refine ps_icmp rfl (fun hc => ?_) (fun hc => ?_)
    · refine pw_c rfl ?_
      exact f1 _ (Or.inl rfl)
    · refine pw_c rfl ?_
      refine ps_goto rfl ?_
      exact f1 _ (Or.inr rfl)
/-- whether a plate can restore -/
theorem M_canIV (iv : sx_IV xT xtg xPH (I, L, g_R s, 306)) (hp : mPl I k w v) (k0 : ∀ I', sx_IV xT xtg xPH (I', L, g_R s, 306) → sx_fr xtg xVP [(69, .ofNat 0, .ofNat 5), (66, .ofNat 0, .ofNat 5), (67, .ofNat 0, .ofNat 5), (68, .ofNat 0, .ofNat 5)] (false, false) (I, L, g_R s, 306) (I', L, g_R s, 306) → Q [.int 0] (I', L, g_R s, 306)) (k1 : ∀ I', sAg k I I' → sx_IV xT xtg xPH (I', L, g_R s, 306) → sx_fr xtg xVP [(69, .ofNat 0, .ofNat 5), (66, .ofNat 0, .ofNat 5), (67, .ofNat 0, .ofNat 5), (68, .ofNat 0, .ofNat 5)] (false, false) (I, L, g_R s, 306) (I', L, g_R s, 306) → xV2 I' (k : Int) → Q [.int 1] (I', L, g_R s, 306)) : pm_W (g_P ys) 235 0 [.ref 275, .int (nI k)] [] (I, L, g_R s, 306) (0, 0) Q := by
  have hk := hp.1
  have f0 : ∀ I', sx_IV xT xtg xPH (I', L, g_R s, 306) → sx_fr xtg xVP [(69, .ofNat 0, .ofNat 5), (66, .ofNat 0, .ofNat 5), (67, .ofNat 0, .ofNat 5), (68, .ofNat 0, .ofNat 5)] (false, false) (I, L, g_R s, 306) (I', L, g_R s, 306) → pm_W (g_P ys) 235 44 [.ref 275, .int (nI k)] [] (I', L, g_R s, 306) (0, 0) Q := by
    intro I' g1 g2
    refine pw_c rfl ?_
    refine ps_zret rfl rfl (Or.inl rfl) ?_
    exact k0 _ g1 g2
  refine ps_aload rfl rfl ?_
  refine ps_iload rfl rfl ?_
  refine pw_k rfl rfl rfl rfl ⟨Nat.zero_le _, Nat.zero_le _⟩ ?_
  refine M_cellsOf hk ?_
  refine pw_c rfl ?_
  refine ps_icmp rfl (fun hc => ?_) (fun hc => ?_)
  · exact f0 _ iv (sx_fr_refl _ _ _ _ _)
  · refine ps_aload rfl rfl ?_
    refine ps_iload rfl rfl ?_
    refine pw_k rfl rfl rfl rfl ⟨Nat.zero_le _, Nat.zero_le _⟩ ?_
    refine M_flatIV iv hp ?_
    intro I' b ag ha g1 g2
    have hp' := sAg_mPl ag hp
    refine ps_if rfl (fun hc => ?_) (fun hc => ?_)
    · exact f0 _ g1 g2
    · refine ps_aload rfl rfl ?_
      refine ps_iload rfl rfl ?_
      refine pw_k rfl rfl rfl rfl ⟨Nat.zero_le _, Nat.zero_le _⟩ ?_
      refine M_holesOf hk hp'.2.1 hp'.2.2.1 hp'.2.2.2.2.2 ?_
      refine ps_if rfl (fun hd => ?_) (fun hd => ?_)
      · exact f0 _ g1 g2
      · have hne : ¬ suI (fun c => I' 280 (289 * k + c)) (w * v) = 0 := fun q => by
          rw [q] at hd
          exact absurd hd (by decide)
        refine ps_aload rfl rfl ?_
        refine ps_gfr 11 22 rfl rfl rfl rfl rfl (rfl) ?_
        refine ps_iload rfl rfl ?_
        refine ps_iald (k) rfl rfl rfl (rfl) (by omega) ?_
        refine ps_aload rfl rfl ?_
        refine ps_gfr 11 20 rfl rfl rfl rfl rfl (rfl) ?_
        refine ps_iload rfl rfl ?_
        refine ps_iald (k) rfl rfl rfl (rfl) (by omega) ?_
        refine ps_icmp rfl (fun he => ?_) (fun he => ?_)
        · exact f0 _ g1 g2
        · have hpl : ¬ I' 293 k = I' 291 k := by simpa [pm_cmp] using he
          refine pw_c rfl ?_
          refine ps_goto rfl ?_
          refine ps_zret rfl rfl (Or.inr rfl) ?_
          exact k1 _ ag g1 g2 ⟨k, w, v, rfl, hp', hne, ha, hpl⟩
end HP
section HQ
variable {ys : List Int32} {l : Nat}
theorem k_laysSides (hl : l = 1 ∨ l = 2 ∨ l = 3) : xk ys (198, [.inl (2, .ofNat 0, .ofNat 0, 50), .inl (0, .ofNat 0, .ofNat 5, l)], [], [(69, .ofNat 0, .ofNat 5), (66, .ofNat 0, .ofNat 5), (67, .ofNat 0, .ofNat 5), (68, .ofNat 0, .ofNat 5)], (false, false), [([], [], [], [])]) := by
  intro h vs Q iv va fa kk
  obtain ⟨I, L, s, rfl⟩ := x_form iv
  obtain ⟨_, c1, rfl, ⟨a, rfl, ha, _⟩, va1⟩ := vas_c va
  obtain ⟨_, c2, rfl, ⟨x, rfl, h1, h2, h3⟩, va2⟩ := vas_c va1
  cases vas_n va2
  cases ref_M ha
  obtain ⟨n, w, v, hz, hp⟩ := flag_pl hl h3
  have hp : mPl I n w v := hp
  cases i_nat hz
  exact M_sidesIV iv hp (fun I' _ _ g1 g2 => kk _ _ g1 g2 ⟨_, List.mem_cons_self, po_0⟩)
theorem k_canRestore : xk ys (235, [.inl (2, .ofNat 0, .ofNat 0, 50), .inl (0, .ofNat 0, .ofNat 5, 1)], [], [(69, .ofNat 0, .ofNat 5), (66, .ofNat 0, .ofNat 5), (67, .ofNat 0, .ofNat 5), (68, .ofNat 0, .ofNat 5)], (false, false), [([.inl (0, .ofNat 0, .ofNat 0, 0)], [], [], []), ([.inl (0, .ofNat 1, .ofNat 1, 0)], [], [(1, .ofNat 0, .ofNat 5, 2)], [])]) := by
  intro h vs Q iv va fa kk
  obtain ⟨I, L, s, rfl⟩ := x_form iv
  obtain ⟨_, c1, rfl, ⟨a, rfl, ha, _⟩, va1⟩ := vas_c va
  obtain ⟨_, c2, rfl, ⟨x, rfl, h1, h2, h3⟩, va2⟩ := vas_c va1
  cases vas_n va2
  cases ref_M ha
  obtain ⟨n, w, v, hz, hp⟩ := h3.resolve_left (by decide)
  have hp : mPl I n w v := hp
  cases i_nat hz
  refine M_canIV iv hp (fun I' g1 g2 => kk _ _ g1 g2 ⟨_, List.mem_cons_self, po_i (Int.le_refl _) (Int.le_refl _)⟩) (fun I' _ g1 g2 g3 => ?_)
  refine kk _ _ g1 g2 ⟨_, List.mem_cons_of_mem _ List.mem_cons_self, ⟨⟨_, rfl, Int.le_refl _, Int.le_refl _, Or.inl rfl⟩, trivial⟩, fun _ q => (by cases q), fun q hq => ?_, fun _ q => (by cases q)⟩
  rcases List.mem_cons.mp hq with rfl | hq
  · exact ⟨nI n, rfl, h1, h2, Or.inr (by rw [hz]; exact g3)⟩
  · cases hq
end HQ
/-! what is restored -/
section HR
variable {ys : List Int32} {I : Nat → Nat → Int32} {L : Nat → Nat → Int64} {s : Nat → Option Nat} {Q : List Value → pm_H → Prop} {k w v : Nat}
theorem i_sub0 {x y : Int32} (h : ¬ x = y) : ¬ x - y = 0 := fun q => h (by
  have := congrArg (fun z => z + y) q
  simpa using this)
theorem M_restoredAny (hu : I 275 24 = nI k) (hp : mPl I k w v) (hne : ¬ suI (fun c => I 280 (289 * k + c)) (w * v) = 0) (hpl : ¬ I 293 k = I 291 k) (x : Int32) (kk : ∀ r, Q [.int r] (I, L, g_R s, 306)) : pm_W (g_P ys) 246 0 [.ref 275, .int x, .retAddr 0] [] (I, L, g_R s, 306) (0, 0) Q := by
  have hk := hp.1
  refine ps_aload rfl rfl ?_
  refine ps_gfr 11 20 rfl rfl rfl rfl rfl (rfl) ?_
  refine ps_aload rfl rfl ?_
  refine ps_gfi 11 24 rfl rfl rfl rfl rfl ?_
  refine ps_iald (k) rfl rfl rfl (hu) (by omega) ?_
  refine ps_istore rfl rfl ?_
  refine ps_iload rfl rfl ?_
  refine ps_iload rfl rfl ?_
  refine ps_aload rfl rfl ?_
  refine pw_k rfl rfl rfl rfl ⟨Nat.zero_le _, Nat.zero_le _⟩ ?_
  refine M_lightAny hu hp ?_
  intro r1
  refine ps_aload rfl rfl ?_
  refine ps_aload rfl rfl ?_
  refine ps_gfi 11 24 rfl rfl rfl rfl rfl ?_
  rw [show ((I, L, g_R s, 306) : pm_H).1 275 24 = nI k from hu]
  refine pw_k rfl rfl rfl rfl ⟨Nat.zero_le _, Nat.zero_le _⟩ ?_
  refine M_holesOf hk hp.2.1 hp.2.2.1 hp.2.2.2.2.2 ?_
  refine pw_k rfl rfl rfl rfl ⟨Nat.zero_le _, Nat.zero_le _⟩ ?_
  refine M_downBy hne ?_
  intro r2
  refine ps_ar rfl rfl rfl rfl rfl ?_
  refine ps_ar rfl rfl rfl rfl rfl ?_
  refine ps_aload rfl rfl ?_
  refine ps_gfr 11 16 rfl rfl rfl rfl rfl (rfl) ?_
  refine pw_c rfl ?_
  refine ps_iald (3) rfl rfl rfl (rfl) (by omega) ?_
  refine ps_aload rfl rfl ?_
  refine ps_aload rfl rfl ?_
  refine ps_gfi 11 24 rfl rfl rfl rfl rfl ?_
  rw [show ((I, L, g_R s, 306) : pm_H).1 275 24 = nI k from hu]
  refine pw_k rfl rfl rfl rfl ⟨Nat.zero_le _, Nat.zero_le _⟩ ?_
  refine M_weightsOf hk hp.2.1 hp.2.2.1 hp.2.2.2.2.2 ?_
  refine ps_ar rfl rfl rfl rfl rfl ?_
  refine ps_ar rfl rfl rfl rfl rfl ?_
  refine ps_aload rfl rfl ?_
  refine ps_gfr 11 22 rfl rfl rfl rfl rfl (rfl) ?_
  refine ps_aload rfl rfl ?_
  refine ps_gfi 11 24 rfl rfl rfl rfl rfl ?_
  refine ps_iald (k) rfl rfl rfl (hu) (by omega) ?_
  refine ps_iload rfl rfl ?_
  refine ps_ar rfl rfl rfl rfl rfl ?_
  refine pw_k rfl rfl rfl rfl ⟨Nat.zero_le _, Nat.zero_le _⟩ ?_
  refine M_downBy (i_sub0 hpl) ?_
  intro r3
  refine ps_iret rfl rfl ?_
  exact kk _
theorem M_errorAny (hu : I 275 24 = nI k) (hp : mPl I k w v) (hne : ¬ suI (fun c => I 280 (289 * k + c)) (w * v) = 0) (hpl : ¬ I 293 k = I 291 k) {n : Nat} (hn : I 288 0 = nI n) (hn8 : n ≤ 8) (kk : ∀ r I', rAg 298 I I' → Q [.int r] (I', L, g_R s, 306)) : pm_W (g_P ys) 254 0 [.ref 275, .retAddr 0, .retAddr 0, .retAddr 0, .retAddr 0, .retAddr 0, .retAddr 0, .retAddr 0] [] (I, L, g_R s, 306) (0, 0) Q := by
  obtain ⟨hk, hw, hv, hw0, hv0, hwv⟩ := id hp
  obtain ⟨hwb, hvb⟩ := hp.b
  refine ps_aload rfl rfl ?_
  refine ps_aload rfl rfl ?_
  refine ps_gfr 11 29 rfl rfl rfl rfl rfl (rfl) ?_
  refine pw_k rfl rfl rfl rfl ⟨Nat.zero_le _, Nat.zero_le _⟩ ?_
  refine M_decodesAny (fun _ => rfl) hu hp ?_
  intro I' ag
  have hp' := rAg_mPl ag (by decide) hp
  have hu' : I' 275 24 = nI k := by rw [rAg_o ag (by decide)]; exact hu
  have hn' : I' 288 0 = nI n := by rw [rAg_o ag (by decide)]; exact hn
  have hpl' : ¬ I' 293 k = I' 291 k := by rw [rAg_o ag (by decide), rAg_o ag (by decide)]; exact hpl
  have hne' : ¬ suI (fun c => I' 280 (289 * k + c)) (w * v) = 0 := by
    rw [suI_congr (g := fun c => I 280 (289 * k + c)) (fun c _ => rAg_o ag (by decide))]
    exact hne
  have outer : ∀ d j, j + d = v → ∀ r o q u1 u2, pm_W (g_P ys) 254 49 [.ref 275, .int r, .int q, .int (I' 291 k), .int o, .int (nI j), u1, u2] [] (I', L, g_R s, 306) (0, 0) Q := by
    intro d
    induction d with
    | zero =>
      intro j hj r o q u1 u2
      refine ps_iload rfl rfl ?_
      refine ps_aload rfl rfl ?_
      refine pw_k rfl rfl rfl rfl ⟨Nat.zero_le _, Nat.zero_le _⟩ ?_
      refine M_high hu' hk ?_
      refine ps_icmpt rfl (by rw [hp'.2.2.1]; exact decide_eq_true (nI_le (by omega) (by omega))) ?_
      refine ps_iload rfl rfl ?_
      refine ps_iret rfl rfl ?_
      exact kk _ _ ag
    | succ d ih =>
      intro j hj r o q u1 u2
      have inner : ∀ e i, i + e = w → ∀ r u2, pm_W (g_P ys) 254 61 [.ref 275, .int r, .int q, .int (I' 291 k), .int o, .int (nI j), .int (nI i), u2] [] (I', L, g_R s, 306) (0, 0) Q := by
        intro e
        induction e with
        | zero =>
          intro i hi r u2
          refine ps_iload rfl rfl ?_
          refine ps_aload rfl rfl ?_
          refine pw_k rfl rfl rfl rfl ⟨Nat.zero_le _, Nat.zero_le _⟩ ?_
          refine M_wide hu' hk ?_
          refine ps_icmpt rfl (by rw [hp'.2.1]; exact decide_eq_true (nI_le (by omega) (by omega))) ?_
          refine ps_iinc rfl rfl ?_
          refine ps_goto rfl ?_
          rw [show nI j + Int32.ofInt 1 = nI (j + 1) from nI_1 j]
          exact ih (j + 1) (by omega) _ _ _ _ _
        | succ e ih2 =>
          intro i hi r u2
          have hc := cxy_lt hw0 hv0 (nI i).toInt (nI j).toInt
          refine ps_iload rfl rfl ?_
          refine ps_aload rfl rfl ?_
          refine pw_k rfl rfl rfl rfl ⟨Nat.zero_le _, Nat.zero_le _⟩ ?_
          refine M_wide hu' hk ?_
          refine ps_icmpf rfl (by rw [hp'.2.1]; exact decide_eq_false (nI_ge (by omega) (by omega))) ?_
          refine ps_aload rfl rfl ?_
          refine ps_gfr 11 30 rfl rfl rfl rfl rfl (rfl) ?_
          refine ps_aload rfl rfl ?_
          refine ps_iload rfl rfl ?_
          refine ps_iload rfl rfl ?_
          refine pw_k rfl rfl rfl rfl ⟨Nat.zero_le _, Nat.zero_le _⟩ ?_
          refine M_cellAt hu' hp' _ _ ?_
          refine ps_iald (cxy w v (nI i).toInt (nI j).toInt) rfl rfl rfl (rfl) (by omega) ?_
          refine ps_iload rfl rfl ?_
          refine ps_iload rfl rfl ?_
          refine ps_ar rfl rfl rfl rfl rfl ?_
          refine ps_ar rfl rfl rfl rfl rfl ?_
          refine ps_aload rfl rfl ?_
          refine ps_gfr 11 16 rfl rfl rfl rfl rfl (rfl) ?_
          refine pw_c rfl ?_
          refine ps_iald (3) rfl rfl rfl (rfl) (by omega) ?_
          refine ps_iload rfl rfl ?_
          refine ps_ar rfl rfl rfl rfl rfl ?_
          refine ps_ar rfl rfl rfl rfl rfl ?_
          refine ps_aload rfl rfl ?_
          refine ps_gfr 11 22 rfl rfl rfl rfl rfl (rfl) ?_
          refine ps_aload rfl rfl ?_
          refine ps_gfi 11 24 rfl rfl rfl rfl rfl ?_
          refine ps_iald (k) rfl rfl rfl (hu') (by omega) ?_
          refine ps_iload rfl rfl ?_
          refine ps_ar rfl rfl rfl rfl rfl ?_
          refine pw_k rfl rfl rfl rfl ⟨Nat.zero_le _, Nat.zero_le _⟩ ?_
          refine M_downBy (i_sub0 hpl') ?_
          intro r3
          refine ps_aload rfl rfl ?_
          refine ps_iload rfl rfl ?_
          refine ps_iload rfl rfl ?_
          refine pw_k rfl rfl rfl rfl ⟨Nat.zero_le _, Nat.zero_le _⟩ ?_
          refine M_trueAny hu' hp' hn' hn8 _ _ ?_
          intro r4
          have nx : ∀ x y : Int32, pm_W (g_P ys) 254 136 [.ref 275, .int r, .int q, .int (I' 291 k), .int o, .int (nI j), .int (nI i), .int y] [.int x, .int r] (I', L, g_R s, 306) (0, 0) Q := by
            intro x y
            refine ps_ar rfl rfl rfl rfl rfl ?_
            refine ps_istore rfl rfl ?_
            refine ps_iinc rfl rfl ?_
            refine ps_goto rfl ?_
            rw [show nI i + Int32.ofInt 1 = nI (i + 1) from nI_1 i]
            exact ih2 (i + 1) (by omega) _ _
          refine ps_ar rfl rfl rfl rfl rfl ?_
          refine ps_istore rfl rfl ?_
          refine ps_iload rfl rfl ?_
          refine ps_iload rfl rfl ?_
          refine ps_if rfl (fun hc => ?_) (fun hc => ?_)
          · refine ps_iload rfl rfl ?_
            exact nx _ _
          · refine ps_iload rfl rfl ?_
            refine ps_ar rfl rfl rfl rfl rfl ?_
            refine ps_goto rfl ?_
            exact nx _ _
      refine ps_iload rfl rfl ?_
      refine ps_aload rfl rfl ?_
      refine pw_k rfl rfl rfl rfl ⟨Nat.zero_le _, Nat.zero_le _⟩ ?_
      refine M_high hu' hk ?_
      refine ps_icmpf rfl (by rw [hp'.2.2.1]; exact decide_eq_false (nI_ge (by omega) (by omega))) ?_
      refine pw_c rfl ?_
      refine ps_istore rfl rfl ?_
      exact inner w 0 (by omega) _ _
  refine pw_c rfl ?_
  refine ps_istore rfl rfl ?_
  refine ps_aload rfl rfl ?_
  refine pw_k rfl rfl rfl rfl ⟨Nat.zero_le _, Nat.zero_le _⟩ ?_
  refine M_lightAny hu' hp' ?_
  intro r1
  refine ps_aload rfl rfl ?_
  refine ps_aload rfl rfl ?_
  refine ps_gfi 11 24 rfl rfl rfl rfl rfl ?_
  rw [show ((I', L, g_R s, 306) : pm_H).1 275 24 = nI k from hu']
  refine pw_k rfl rfl rfl rfl ⟨Nat.zero_le _, Nat.zero_le _⟩ ?_
  refine M_holesOf hk hp'.2.1 hp'.2.2.1 hp'.2.2.2.2.2 ?_
  refine pw_k rfl rfl rfl rfl ⟨Nat.zero_le _, Nat.zero_le _⟩ ?_
  refine M_downBy hne' ?_
  intro r2
  refine ps_istore rfl rfl ?_
  refine ps_aload rfl rfl ?_
  refine ps_gfr 11 20 rfl rfl rfl rfl rfl (rfl) ?_
  refine ps_aload rfl rfl ?_
  refine ps_gfi 11 24 rfl rfl rfl rfl rfl ?_
  refine ps_iald (k) rfl rfl rfl (hu') (by omega) ?_
  refine ps_istore rfl rfl ?_
  refine ps_aload rfl rfl ?_
  refine ps_aload rfl rfl ?_
  refine ps_gfi 11 24 rfl rfl rfl rfl rfl ?_
  rw [show ((I', L, g_R s, 306) : pm_H).1 275 24 = nI k from hu']
  refine pw_k rfl rfl rfl rfl ⟨Nat.zero_le _, Nat.zero_le _⟩ ?_
  refine M_weightsOf hk hp'.2.1 hp'.2.2.1 hp'.2.2.2.2.2 ?_
  refine ps_istore rfl rfl ?_
  refine pw_c rfl ?_
  refine ps_istore rfl rfl ?_
  exact outer v 0 (by omega) _ _ _ _ _
end HR
section HS
variable {ys : List Int32}
theorem now_bd {I : Nat → Nat → Int32} {L : Nat → Nat → Int64} {s : Nat → Option Nat} (iv : sx_IV xT xtg xPH (I, L, g_R s, 306)) : ∃ n : Nat, I 288 0 = nI n ∧ n ≤ 8 := by
  have b := iv.1 288 0 (.ofNat 0, .ofNat 0, .ofNat 0, .ofNat 8) (by decide) (by decide) (by decide)
  have b1 : (0 : Int) ≤ (I 288 0).toInt := b.1
  have b2 : (I 288 0).toInt ≤ 8 := b.2
  exact ⟨(I 288 0).toInt.toNat, i_nat (by omega), by omega⟩
theorem k_restoredFrom : xk ys (246, [.inl (2, .ofNat 0, .ofNat 0, 50), .inl (0, .negSucc 2147483647, .ofNat 2147483647, 0)], [(0, 24, .ofNat 0, .ofNat 5, 2)], [], (false, false), [([.inl (0, .negSucc 2147483647, .ofNat 2147483647, 0)], [], [], [])]) := by
  intro h vs Q iv va fa kk
  obtain ⟨I, L, s, rfl⟩ := x_form iv
  obtain ⟨_, c1, rfl, ⟨a, rfl, ha, _⟩, va1⟩ := vas_c va
  obtain ⟨_, c2, rfl, ⟨x, rfl, _⟩, va2⟩ := vas_c va1
  cases vas_n va2
  cases ref_M ha
  obtain ⟨_, _, q3⟩ := fas1 fa rfl
  obtain ⟨n, w, v, hz, hp, hne, _, hpl⟩ := q3.resolve_left (by decide)
  exact M_restoredAny (i_nat hz) hp hne hpl x (fun r => kk _ _ iv (sx_fr_refl _ _ _ _ _) ⟨_, List.mem_cons_self, po_f⟩)
theorem k_errorNow : xk ys (254, [.inl (2, .ofNat 0, .ofNat 0, 50)], [(0, 24, .ofNat 0, .ofNat 5, 2)], [(73, .ofNat 0, .ofNat 288)], (false, false), [([.inl (0, .negSucc 2147483647, .ofNat 2147483647, 0)], [], [], [])]) := by
  intro h vs Q iv va fa kk
  obtain ⟨I, L, s, rfl⟩ := x_form iv
  obtain ⟨_, c1, rfl, ⟨a, rfl, ha, _⟩, va1⟩ := vas_c va
  cases vas_n va1
  cases ref_M ha
  obtain ⟨_, _, q3⟩ := fas1 fa rfl
  obtain ⟨n, w, v, hz, hp, hne, _, hpl⟩ := q3.resolve_left (by decide)
  obtain ⟨m, hm, hm8⟩ := now_bd iv
  refine M_errorAny (i_nat hz) hp hne hpl hm hm8 (fun r I' ag => ?_)
  obtain ⟨g1, g2⟩ := iv_row (b := 298) (by decide) (by decide) rfl (W := [(73, .ofNat 0, .ofNat 288)]) (by decide) (false, false) iv ag
  exact kk _ _ g1 g2 ⟨_, List.mem_cons_self, po_f⟩
end HS
