/-! BY HAND: load beside load, with PLATES and scene; how it all begins -/
section SR
variable {I I' I1 I2 J : Nat → Nat → Int32} {L : Nat → Nat → Int64} {s : Nat → Option Nat} {Q : List Value → pm_H → Prop} {ys : List Int32} {h h' : pm_H} {B : sB} {H : Nat → sS} {m : Nat}
/-- behind the class's load -/
def LM6 (x r : Int32) (h1 : pm_H) : Prop := (R6 h1 ∧ ¬ (0 ≤ x.toInt ∧ x.toInt ≤ (h1.1 275 43).toInt) ∧ r = -1) ∨ (∃ tp n c J f b0 b1 R, x = nI n ∧ h1.1 275 43 = nI tp ∧ tp ≤ 800 ∧ n ≤ tp ∧ LX n c J f (h1.1 303) h1 b0 b1 R r ∧ ((∃ e, R = .error e ∧ RS h1) ∨ ∃ B H f', R = .ok B ∧ okW B H 0 ∧ KC b0 B H 0 f' h1.1))
theorem B0_us : okU B0.S B0.ps := ⟨0, rfl, Or.inr rfl⟩
theorem B_load7 (iv : sx_IV xT xtg xPH h) (re : R6 h) (x : Int32) (kk : ∀ r h1, sx_IV xT xtg xPH h1 → LM6 x r h1 → Q [.int r] h1) : pm_W (g_P ys) 17 0 [.ref 0, .int x, .retAddr 0, .retAddr 0] [] h (0, 0) Q := by
  have safe := ap_17 (ys := ys) h [.ref 0, .int x] (fun _ h' => sx_IV xT xtg xPH h') iv ⟨va_r rfl (by omega), va_f, trivial⟩ fas_n (fun _ _ iv' _ _ => iv')
  obtain ⟨I, L, s, rfl⟩ := x_form iv
  obtain ⟨re, rs⟩ := re
  have rs0 := rs
  have re0 := re
  obtain ⟨b0, b1, B, H, m, hf, rw_, ow, kc, km⟩ := rs
  obtain ⟨w1, w2, w3, w4, w5, w6⟩ := rw_
  obtain ⟨_, ⟨t, t1, t2, t3, t4⟩, f1, f2⟩ := re
  have t2 : I 1 1 = nI t := t2
  have t3 : I 275 43 = nI t := t3
  have bb := isB_b w3
  have bb0 := isB_b w2
  have dj : b0 + 40 < b1 ∨ b1 + 40 < b0 := by
    rcases w2 with rfl | rfl <;> rcases w3 with rfl | rfl
    · exact absurd rfl w4
    · omega
    · omega
    · exact absurd rfl w4
  by_cases hv : 0 ≤ x.toInt ∧ x.toInt ≤ (t : Int)
  · obtain ⟨n, hn⟩ : ∃ n, n = x.toInt.toNat := ⟨_, rfl⟩
    have ex := nI_oz hn hv.1
    subst ex
    have hnt : n ≤ t := by
      have z := hv.2
      rw [nI_toInt (by omega)] at z
      omega
    refine pw_imp (fun v h1 q => ?_) (pw_and safe (B_loadX (Q := fun v h1 => ∃ r, v = [.int r] ∧ LM6 (nI n) r h1) w3 w5 w6 t2 t1 hnt (fun j hj => t4 j (by omega)) (fun c J S k u e I1 o1 x1 x2 x3 => ⟨_, rfl, Or.inr ⟨t, n, c, J, (fun j => I 2 j), b0, b1, xTxt (fun j => I 2 j) J c c B0 0, rfl, (o1 _ _ (by omega) (by omega) (by omega) (by omega)).trans t3, t1, hnt, ?_, Or.inl ⟨_, e, ?_⟩⟩⟩) (fun c J S B' e ok I1 o1 x1 x2 x3 y1 _ _ _ p1 s1 => ⟨_, rfl, Or.inr ⟨t, n, c, J, (fun j => I 2 j), b1, b0, xTxt (fun j => I 2 j) J c c B0 0, rfl, (o1 _ _ (by omega) (by omega) (by omega) (by omega) (by omega) (by omega) (by omega)).trans t3, t1, hnt, ?_, Or.inr ⟨B', H, hf, e, ?_, ?_⟩⟩⟩)))
    · obtain ⟨iv1, r, rfl, q⟩ := q
      exact kk _ _ iv1 q
    · have et : I1 303 = fun j => I 303 j := by
        funext j
        exact o1 _ _ (by omega) (by omega) (by omega) (by omega)
      refine ⟨?_, rfl, ⟨w1, w2, w3, w4, w5, w6⟩, x1, Or.inl ⟨k, u, e, x2, x3, rfl⟩⟩
      show stX _ (I1 303) J n c
      rw [et]
      exact S
    · exact ⟨b0, b1, B, H, m, hf, ⟨w1, w2, w3, w4, w5, w6⟩, ow, KC_a kc ow.1 (fun a j z => o1 a j (by omega) (by omega) (by omega) (by omega)), KM_a km ow (fun a j z => o1 a j (by omega) (by omega) (by omega) (by omega))⟩
    · have et : I1 303 = fun j => I 303 j := by
        funext j
        exact o1 _ _ (by omega) (by omega) (by omega) (by omega) (by omega) (by omega) (by omega)
      refine ⟨?_, rfl, ⟨w1, w3, w2, fun z => w4 z.symm, rfl, rfl⟩, x1, Or.inr ⟨B', e, ok, x2, x3, rfl⟩⟩
      show stX _ (I1 303) J n c
      rw [et]
      exact S
    · exact ⟨ok, xTxt_us B0_us e, fun i hi => absurd hi (by omega)⟩
    · exact ⟨cBp_q p1, cBs_c.mp s1, kc.2.2.1, by omega, (o1 _ _ (by omega) (by omega) (by omega) (by omega) (by decide) (by omega) (by omega)).trans kc.2.2.2.2.1, y1, fun i hi => absurd hi (by omega)⟩
  · refine pw_imp (fun v h1 q => ?_) (pw_and safe (B_loadN (Q := fun v h1 => v = [.int (-1)] ∧ h1 = (pm_u I 0 10 1, L, g_R s, 306)) t2 t1 hv ⟨rfl, rfl⟩))
    obtain ⟨iv1, rfl, rfl⟩ := q
    have o : ∀ a j, ¬ (a = 0 ∧ j = 10) → pm_u I 0 10 1 a j = I a j := fun a j h => pu_x h
    refine kk _ _ iv1 (Or.inl ⟨⟨⟨⟨b0, b1, w1, w2, w3, w4, w5, w6⟩, ⟨t, t1, (o _ _ (by decide)).trans t2, (o _ _ (by decide)).trans t3, fun j hj => ?_⟩, ?_, ?_⟩, b0, b1, B, H, m, hf, ⟨w1, w2, w3, w4, w5, w6⟩, ow, KC_a kc ow.1 (fun a j z => o a j (by omega)), KM_a km ow (fun a j z => o a j (by omega))⟩, ?_, rfl⟩)
    · show (pm_u I 0 10 1 2 j).toInt = (pm_u I 0 10 1 303 j).toInt % 256 ∧ -128 ≤ (pm_u I 0 10 1 303 j).toInt ∧ (pm_u I 0 10 1 303 j).toInt ≤ 127
      rw [o _ _ (by omega), o _ _ (by omega)]
      exact t4 j hj
    · exact ((o _ _ (by decide)).trans f1).trans (o _ _ (by decide)).symm
    · exact ((o _ _ (by decide)).trans f2).trans (o _ _ (by decide)).symm
    · show ¬ (0 ≤ x.toInt ∧ x.toInt ≤ (pm_u I 0 10 1 275 43).toInt)
      rw [o _ _ (by decide), t3, nI_toInt (by omega)]
      exact hv
theorem ld_c (f : ldB I I') : ∀ a j, a < 275 → I' a j = I a j := fun a j h => f a j (by omega)
theorem ld_d (f : ldO I I') : ∀ a j, a < 275 → I' a j = I a j := fun a j h => f a j (by omega)
theorem ld_m (f : ldB I I') : ∀ a j, ((a = 275 ∧ (j = 14 ∨ j = 19)) ∨ a = 278 ∨ a = 280 ∨ a = 282 ∨ a = 288 ∨ a = 290) → I' a j = I a j := fun a j h => f a j (by omega)
theorem M_load7 {h1 : pm_H} {x r : Int32} (iv : sx_IV xT xtg xPH h1) (m : LM6 x r h1) (kk : ∀ h2, sx_IV xT xtg xPH h2 → R6 h2 → Q [.int r] h2) : pm_W (g_P ys) 278 0 [.ref 275, .int x, .retAddr 0] [] h1 (0, 0) Q := by
  have safe := ap_278 (ys := ys) h1 [.ref 275, .int x] (fun _ h' => sx_IV xT xtg xPH h') iv ⟨va_M, va_f, trivial⟩ fas_n (fun _ _ iv' _ _ => iv')
  rcases m with ⟨re, hv, rfl⟩ | ⟨tp, n, c, J, f, b0, b1, R, rfl, tt, t8, hn, ⟨S, hR, ⟨w1, w2, w3, w4, w5, w6⟩, l0, m⟩, m2⟩
  · obtain ⟨I, L, s, rfl⟩ := x_form iv
    obtain ⟨g1, g2⟩ := is_iv (a := 1) iv (by decide) (by decide)
    refine M_loadN hv (kk _ g1 (R6_fr (by decide) g2 re))
  · have nb := iv.1 275 51 (.ofNat 51, .ofNat 51, .ofNat 0, .ofNat 9999) (by decide) (by decide) (by decide)
    have bb := iv.1 275 53 (.ofNat 53, .ofNat 53, .ofNat 0, .ofNat 800) (by decide) (by decide) (by decide)
    have b0b := isB_b w2
    obtain ⟨I, L, s, rfl⟩ := x_form iv
    have fin : ∀ h2 : pm_H, sx_IV xT xtg xPH h2 → (∀ j, j < 13 → h2.2.1 304 j = wC j) → h2.2.2.1 0 6 = some b0 → h2.2.2.1 0 7 = some b1 → h2.1 1 1 = 0 → h2.1 275 43 = 0 → Rf h2 → RS h2 → Q [.int r] h2 := fun h2 iv2 a1 a2 a3 a4 a5 a6 a7 => kk h2 iv2 ⟨⟨⟨b0, b1, a1, w2, w3, w4, a2, a3⟩, ⟨0, by omega, a4, a5, fun j hj => absurd hj (by omega)⟩, a6⟩, a7⟩
    refine pw_imp (fun v h2 q => ?_) (pw_and safe (M_loadX (Q := fun v h2 => sx_IV xT xtg xPH h2 → v = [.int r] ∧ Q v h2) tt t8 hn S nb bb w1 (fun k u e I2 L2 o2 l2 y1 y2 y3 iv2 => ?_) (fun B e I2 L2 o2 l2 y1 y2 y3 y4 _ _ p1 s1 iv2 => ?_)))
    · exact (q.2 q.1).2
    · rcases m with ⟨k', u', e', z1, z2, rfl⟩ | ⟨B', e', ok, z1, z2, rfl⟩
      · have eq := e.symm.trans (hR.symm.trans e')
        cases eq
        have w1' : ∀ j, j < 13 → L2 304 j = wC j := fun j hj => (l2 _ _ (by omega)).trans (w1 j hj)
        rcases m2 with ⟨e2, _, rs⟩ | ⟨B2, H2, f2, e2, _⟩
        · obtain ⟨c0, c1, B, H, m, hf, ⟨v1, v2, v3, v4, v5, v6⟩, ow, kc, km⟩ := rs
          have cb := isB_b v2
          refine ⟨rfl, fin _ iv2 w1' w5 w6 ((o2 _ _ (by omega)).trans l0) y3 ⟨?_, ?_⟩ ⟨c0, c1, B, H, m, hf, ⟨w1', v2, v3, v4, v5, v6⟩, ow, KC_a kc ow.1 (fun a j z => ld_c o2 a j (by omega)), mBp_a km.1 (fun a j z => ld_m o2 a j (by omega)), mSc_f km.2.1 (okW_S ow) (fun j => ld_m o2 _ _ (by omega)), mHs_f km.2.2 (fun i hi => (ow.2.2 i hi).1) (fun j => ld_m o2 _ _ (by omega)) (ld_m o2 _ _ (by omega))⟩⟩
          · exact ((o2 _ _ (by omega)).trans z1).trans y1.symm
          · exact ((o2 _ _ (by omega)).trans z2).trans y2.symm
        · rw [e'] at e2
          cases e2
      · have eq := e.symm.trans (hR.symm.trans e')
        cases eq
    · rcases m with ⟨k', u', e', z1, z2, rfl⟩ | ⟨B', e', ok, z1, z2, rfl⟩
      · have eq := e.symm.trans (hR.symm.trans e')
        cases eq
      · have eq := e.symm.trans (hR.symm.trans e')
        cases eq
        rcases m2 with ⟨e2, e3, rs⟩ | ⟨B2, H2, f2, e2, ow, kc⟩
        · rw [e'] at e3
          cases e3
        · rw [e'] at e2
          cases e2
          refine ⟨rfl, fin _ iv2 l2 w5 w6 ((o2 _ _ (by omega)).trans l0) y3 ⟨?_, ?_⟩ ⟨b0, b1, B, H2, 0, f2, ⟨l2, w2, w3, w4, w5, w6⟩, ow, KC_a kc ow.1 (fun a j z => ld_d o2 a j (by omega)), p1, mBs_c.mp s1, by omega, y4, fun i hi => absurd hi (by omega)⟩⟩
          · exact ((o2 _ _ (by omega)).trans z1).trans y1.symm
          · exact ((o2 _ _ (by omega)).trans z2).trans y2.symm
theorem KC_0 (e : I = gi0) : KC 173 B0 (fun _ => B0.S) 0 0 I := by
  subst e
  refine ⟨⟨by decide +kernel, fun k hk => absurd hk (Nat.not_lt_zero k)⟩, ⟨fun q hq => ?_, by decide +kernel, by decide +kernel, fun q hq k hk => absurd hk (Nat.not_lt_zero k)⟩, by omega, by omega, by decide +kernel, by decide +kernel, fun i hi => absurd hi (by omega)⟩
  rcases q3 hq with rfl | rfl | rfl <;> decide +kernel
theorem KM_0 (e : I = gi0) : KM B0 (fun _ => B0.S) 0 I := by
  subst e
  refine ⟨⟨by decide +kernel, fun k hk => absurd hk (Nat.not_lt_zero k)⟩, ⟨fun q hq => ?_, by decide +kernel, by decide +kernel, fun q hq k hk => absurd hk (Nat.not_lt_zero k)⟩, by omega, by decide +kernel, fun i hi => absurd hi (by omega)⟩
  rcases q3 hq with rfl | rfl | rfl <;> decide +kernel
theorem R6_0 {ρ : Nat → Int32} (hr : se_hr ρ g_H1 h) (e : h.1 = gi0) : R6 h := by
  have r4 := R4_0 hr e
  refine ⟨r4, ?_⟩
  obtain ⟨_, h2, h3, _⟩ := hr
  refine ⟨173, 214, B0, (fun _ => B0.S), 0, 0, ⟨fun j hj => ?_, Or.inl rfl, Or.inr rfl, by decide, ?_, ?_⟩, ⟨B0_ok, B0_us, fun i hi => absurd hi (by omega)⟩, KC_0 e, KM_0 e⟩
  · rw [h2]
    rcases (show j = 0 ∨ j = 1 ∨ j = 2 ∨ j = 3 ∨ j = 4 ∨ j = 5 ∨ j = 6 ∨ j = 7 ∨ j = 8 ∨ j = 9 ∨ j = 10 ∨ j = 11 ∨ j = 12 by omega) with rfl | rfl | rfl | rfl | rfl | rfl | rfl | rfl | rfl | rfl | rfl | rfl | rfl <;> decide +kernel
  · rw [h3]
    decide +kernel
  · rw [h3]
    decide +kernel
end SR
