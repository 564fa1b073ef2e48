/-! A RUN OVER AN UNKNOWN HEAP, ninth: instructions of the heap are right -/
theorem sx_nar_byte (x : Int32) : (-128 : Int) ≤ (vp_nar .byte x).toInt ∧ (vp_nar .byte x).toInt ≤ 127 := by
  rw [vp_nar_byte, Int8.toInt_toInt32]
  have h2 := Int8.le_toInt x.toInt8
  have h3 := Int8.toInt_lt x.toInt8
  omega
theorem sx_nar_bool (x : Int32) : (0 : Int) ≤ (vp_nar .boolean x).toInt ∧ (vp_nar .boolean x).toInt ≤ 1 := by
  have e : vp_nar .boolean x = x &&& 1 := rfl
  rw [e]
  have := sx_and_ok (x := x) (y := 1) (by decide)
  exact ⟨this.1, by have h2 := this.2; have : (1 : Int32).toInt = 1 := rfl; omega⟩
section XM
variable {P : pm_P} {T : sx_T} {tg : Nat → Nat} {PH : pm_H → Prop} {VP : pm_H → Nat → Int → Prop} {ρ : List Int} {h : pm_H} {E E' : sx_E}
theorem sx_cpy_ok (hC : sx_C P T tg PH VP) (ok : sx_ok tg VP ρ h E) (iv : sx_IV T tg PH h) {W : sx_W} {D : Bool × Bool} {c dp sp : sx_V} {t u a b : Nat} (e : sx_cpy T W E c dp u sp t = some E') (hat : tg a = t) (hbt : tg b = u) {wc wd ws : Value} (hc : sx_ev tg ρ c = some wc) (hd : sx_ev tg ρ dp = some wd) (hs : sx_ev tg ρ sp = some ws) (r : List Value) (hr : (r.map Value.category).sum ≤ 8) :
    ∃ h', pm_he P (.invokestatic 9000) (wc :: wd :: .ref b :: ws :: .ref a :: r) h = some (r, h') ∧ sx_ok tg VP ρ h' E' ∧ sx_IV T tg PH h' ∧ sx_fr tg VP W D h h' := by
  unfold sx_cpy at e
  split at e
  · rename_i n0 n1 e0 e1
    split at e
    · rename_i bc bd bs ec ed es
      obtain ⟨h1, h2⟩ := sx_bif e
      subst h2
      simp only [Bool.and_eq_true, decide_eq_true_iff] at h1
      obtain ⟨⟨⟨⟨⟨q1, q2⟩, q3⟩, q4⟩, q5⟩, q6⟩ := h1
      obtain ⟨xc, rfl, c1, c2⟩ := sx_vi_ok ok.2.1 ec hc
      obtain ⟨xd, rfl, d1, d2⟩ := sx_vi_ok ok.2.1 ed hd
      obtain ⟨xs, rfl, s1, s2⟩ := sx_vi_ok ok.2.1 es hs
      have sa := hC.1 h a _ iv.2.2.2 (by rw [hat]; exact sx_len_ok e0)
      have sb := hC.1 h b _ iv.2.2.2 (by rw [hbt]; exact sx_len_ok e1)
      have nn : ∀ x : Int32, 0 ≤ x.toInt → ¬ x < 0 ∧ (x.toNatClampNeg : Int) = x.toInt := by
        intro x hx
        refine ⟨fun q => ?_, ?_⟩
        · have := Int32.lt_iff_toInt_lt.mp q
          have z : (0 : Int32).toInt = 0 := rfl
          omega
        · show ((x.toInt.toNat : Nat) : Int) = x.toInt
          omega
      obtain ⟨nc, kc⟩ := nn xc (by omega)
      obtain ⟨nd, kd⟩ := nn xd (by omega)
      obtain ⟨ns, ks⟩ := nn xs (by omega)
      have g : ¬ xs < 0 ∧ ¬ xd < 0 ∧ ¬ xc < 0 ∧ xs.toNatClampNeg + xc.toNatClampNeg ≤ n0 ∧ xd.toNatClampNeg + xc.toNatClampNeg ≤ n1 ∧ (r.map Value.category).sum ≤ 8 := ⟨ns, nd, nc, by omega, by omega, hr⟩
      obtain ⟨k1, k2, k3⟩ := sx_mw_row (D := (false, false)) hC iv q6 hbt (g := va_cpy (h.1 a) (h.1 b) xs.toNatClampNeg xd.toNatClampNeg xc.toNatClampNeg) (fun k hk => by
          unfold va_cpy
          rw [if_neg (fun q => hk ⟨by omega, by omega⟩)]) (fun k hk1 hk2 => by
          unfold va_cpy
          split
          · rename_i q
            refine Or.inr (sx_rd_ok (k := ((xs.toNatClampNeg + (k - xd.toNatClampNeg) : Nat) : Int)) (fun p hp p1 p2 => iv.1 a _ p (by rw [hat]; exact hp) p1 p2) (by omega) (by omega))
          · exact Or.inl rfl)
      refine ⟨_, ?_, sx_kw_ok ok k3 (k2.2.1 rfl) (k2.2.2 rfl), k1, k2.1, fun _ => k2.2.1 rfl, fun _ => k2.2.2 rfl⟩
      simp only [pm_he, if_true, sa, sb, if_pos g]
    · cases e
  · cases e
theorem sx_he_ok (hC : sx_C P T tg PH VP) {W : sx_W} {i : Instr} {st st' : List sx_V} (e : sx_he P T W i st E = some (st', E')) (ok : sx_ok tg VP ρ h E) (iv : sx_IV T tg PH h) {sc : List Value} (hs : sx_R tg ρ st sc) (D : Bool × Bool) (lv : List Value) (nx rt : Nat) :
    ∃ x sc' h', sx_ok tg VP (ρ ++ x) h' E' ∧ sx_IV T tg PH h' ∧ pm_he P i sc h = some (sc', h') ∧ sx_R tg (ρ ++ x) st' sc' ∧ sx_fr tg VP W D h h' ∧ pm_lo i lv sc = none ∧ pm_ar i sc = none ∧ pm_br i nx sc = none ∧ pm_re rt i sc = none ∧ pm_ca P i sc h = none := by
  have ok0 : ∀ {F : sx_E} {g : pm_H}, sx_ok tg VP ρ g F → sx_ok tg VP (ρ ++ []) g F := fun q => by rw [List.append_nil]; exact q
  have R0 : ∀ {l : List sx_V} {c : List Value}, sx_R tg ρ l c → sx_R tg (ρ ++ []) l c := fun q => by rw [List.append_nil]; exact q
  unfold sx_he at e
  split at e
  · rename_i n
    split at e
    · rename_i j t r
      obtain ⟨w, sc1, rfl, g1, g2⟩ := sx_R_cons hs
      obtain ⟨a, g3, g4, rfl⟩ := sx_evr g1
      cases q : sx_isO (sx_sh T t) (n / 64) with
      | false => rw [q] at e; cases e
      | true =>
        rw [q] at e
        simp only [cond_true] at e
        split at e
        · rename_i v E1 hv
          cases e
          have sa := hC.1 h a _ iv.2.2.2 (by rw [g4]; exact sx_isO_ok q)
          obtain ⟨x, k1, k2⟩ := sx_gf_ok hC ok iv g3 g4 hv
          exact ⟨x, pm_g (pm_fty P (n / 64) (n % 64)) h a (n % 64) :: sc1, h, k1, iv, by simp only [pm_he, sa, if_true], ⟨k2, sx_R_mono x g2⟩, sx_fr_refl _ _ _ _ _, rfl, rfl, rfl, rfl, rfl⟩
        · cases e
    · cases e
  · rename_i n
    split at e
    · rename_i v j t r
      obtain ⟨wv, sc1, rfl, g1, g2⟩ := sx_R_cons hs
      obtain ⟨w, sc2, rfl, g5, g6⟩ := sx_R_cons g2
      obtain ⟨a, g3, g4, rfl⟩ := sx_evr g5
      cases q : sx_isO (sx_sh T t) (n / 64) with
      | false => rw [q] at e; cases e
      | true =>
        rw [q] at e
        simp only [cond_true] at e
        split at e
        · rename_i E1 hv
          cases e
          have sa := hC.1 h a _ iv.2.2.2 (by rw [g4]; exact sx_isO_ok q)
          obtain ⟨h', k1, k2, k3, k4⟩ := sx_pf_ok (D := D) hC ok iv g3 g4 g1 hv
          exact ⟨[], sc2, h', ok0 k2, k3, by simp only [pm_he, sa, if_true, k1, Option.map_some], R0 g6, k4, rfl, rfl, rfl, rfl, rfl⟩
        · cases e
    · cases e
  · split at e
    · rename_i j t r
      obtain ⟨w, sc1, rfl, g1, g2⟩ := sx_R_cons hs
      obtain ⟨a, g3, g4, rfl⟩ := sx_evr g1
      split at e
      · rename_i kd n hn
        cases e
        have sa := hC.1 h a _ iv.2.2.2 (by rw [g4]; exact hn)
        exact ⟨[], .int (Int32.ofNat n) :: sc1, h, ok0 ok, iv, by simp only [pm_he, sa], R0 ⟨rfl, g2⟩, sx_fr_refl _ _ _ _ _, rfl, rfl, rfl, rfl, rfl⟩
      · cases e
    · cases e
  · split at e
    · rename_i v j t r
      obtain ⟨wv, sc1, rfl, g1, g2⟩ := sx_R_cons hs
      obtain ⟨w, sc2, rfl, g5, g6⟩ := sx_R_cons g2
      obtain ⟨a, g3, g4, rfl⟩ := sx_evr g5
      split at e
      · rename_i n hn
        split at e
        · rename_i b hb
          cases e
          have sa := hC.1 h a _ iv.2.2.2 (by rw [g4]; exact sx_len_ok hn)
          obtain ⟨x, rfl, p1, p2, p3, p4⟩ := sx_ix_ok ok.2.1 hb g1
          obtain ⟨y, k1, k2⟩ := sx_r2_ok hC ok iv p2 p3 g3 g4
          exact ⟨y, .int (h.1 a x.toNatClampNeg) :: sc2, h, k1, iv, by simp only [pm_he, sa, p1, if_true], ⟨k2, sx_R_mono y g6⟩, sx_fr_refl _ _ _ _ _, rfl, rfl, rfl, rfl, rfl⟩
        · cases e
      · cases e
    · cases e
  · split at e
    · rename_i v j t r
      obtain ⟨wv, sc1, rfl, g1, g2⟩ := sx_R_cons hs
      obtain ⟨w, sc2, rfl, g5, g6⟩ := sx_R_cons g2
      obtain ⟨a, g3, g4, rfl⟩ := sx_evr g5
      split at e
      · rename_i kd n hn
        cases q : Nat.beq kd 2 || Nat.beq kd 3 with
        | false => rw [q] at e; cases e
        | true =>
          rw [q] at e
          simp only [cond_true] at e
          split at e
          · rename_i b hb
            cases e
            have sa := hC.1 h a _ iv.2.2.2 (by rw [g4]; exact hn)
            obtain ⟨x, rfl, p1, p2, p3, p4⟩ := sx_ix_ok ok.2.1 hb g1
            obtain ⟨y, k1, k2⟩ := sx_r2_ok hC ok iv p2 p3 g3 g4
            rw [Bool.or_eq_true] at q
            rcases q with q | q
            · have q' := Nat.eq_of_beq_eq_true q
              subst q'
              exact ⟨y, .int (h.1 a x.toNatClampNeg) :: sc2, h, k1, iv, by simp only [pm_he, sa, p1, if_true], ⟨k2, sx_R_mono y g6⟩, sx_fr_refl _ _ _ _ _, rfl, rfl, rfl, rfl, rfl⟩
            · have q' := Nat.eq_of_beq_eq_true q
              subst q'
              exact ⟨y, .int (h.1 a x.toNatClampNeg) :: sc2, h, k1, iv, by simp only [pm_he, sa, p1, if_true], ⟨k2, sx_R_mono y g6⟩, sx_fr_refl _ _ _ _ _, rfl, rfl, rfl, rfl, rfl⟩
          · cases e
      · cases e
    · cases e
  · split at e
    · rename_i v j t r
      obtain ⟨wv, sc1, rfl, g1, g2⟩ := sx_R_cons hs
      obtain ⟨w, sc2, rfl, g5, g6⟩ := sx_R_cons g2
      obtain ⟨a, g3, g4, rfl⟩ := sx_evr g5
      split at e
      · rename_i n hn
        split at e
        · rename_i b hb
          obtain ⟨σ, m, φ, ν, KI, KR⟩ := E
          rw [sx_nw_eq] at e
          cases e
          have sa := hC.1 h a _ iv.2.2.2 (by rw [g4]; exact sx_len_ok hn)
          obtain ⟨x, rfl, p1, p2, p3, p4⟩ := sx_ix_ok ok.2.1 hb g1
          obtain ⟨k1, k2⟩ := sx_ok_newL ok (h.2.1 a x.toNatClampNeg) (lo := (sx_gl T t).1) (hi := (sx_gl T t).2) (by rw [← g4]; exact iv.2.1 a _)
          exact ⟨_, .long (h.2.1 a x.toNatClampNeg) :: sc2, h, k1, iv, by simp only [pm_he, sa, p1, if_true], ⟨k2, sx_R_mono _ g6⟩, sx_fr_refl _ _ _ _ _, rfl, rfl, rfl, rfl, rfl⟩
        · cases e
      · cases e
    · cases e
  · split at e
    · rename_i v j t r
      obtain ⟨wv, sc1, rfl, g1, g2⟩ := sx_R_cons hs
      obtain ⟨w, sc2, rfl, g5, g6⟩ := sx_R_cons g2
      obtain ⟨a, g3, g4, rfl⟩ := sx_evr g5
      split at e
      · rename_i kd n hn
        split at e
        · rename_i b hb
          split at e
          · rename_i u hu
            obtain ⟨q1, q2⟩ := sx_bif e
            obtain ⟨σ, m, φ, ν, KI, KR⟩ := E
            cases q2
            have sa := hC.1 h a _ iv.2.2.2 (by rw [g4]; exact hn)
            obtain ⟨x, rfl, p1, p2, p3, p4⟩ := sx_ix_ok ok.2.1 hb g1
            obtain ⟨c, m1, m2, m3⟩ := iv.2.2.1 a x.toNatClampNeg u (by rw [g4]; exact sx_ga_ok q1 p4)
            obtain ⟨k1, k2, k3⟩ := sx_ok_newR ok c u m2 (by omega)
            exact ⟨_, .ref c :: sc2, h, k1, iv, by simp only [pm_he, sa, p1, if_true, m1, va_rf], ⟨k2, sx_R_mono _ g6⟩, sx_fr_refl _ _ _ _ _, rfl, rfl, rfl, rfl, rfl⟩
          · cases e
        · cases e
      · cases e
    · cases e
  · split at e
    · rename_i x v j t r
      obtain ⟨wx, sc0, rfl, g0, g00⟩ := sx_R_cons hs
      obtain ⟨wv, sc1, rfl, g1, g2⟩ := sx_R_cons g00
      obtain ⟨w, sc2, rfl, g5, g6⟩ := sx_R_cons g2
      obtain ⟨a, g3, g4, rfl⟩ := sx_evr g5
      split at e
      · rename_i n hn
        split at e
        · rename_i b hb
          split at e
          · rename_i c hc
            obtain ⟨q1, q2⟩ := sx_bif e
            cases q2
            have sa := hC.1 h a _ iv.2.2.2 (by rw [g4]; exact sx_len_ok hn)
            obtain ⟨y, rfl, p1, p2, p3, p4⟩ := sx_ix_ok ok.2.1 hb g1
            obtain ⟨z, rfl, z1, z2⟩ := sx_vi_ok ok.2.1 hc g0
            obtain ⟨k1, k2, k3⟩ := sx_w2_ok (D := D) hC ok iv q1 g3 g4 p2 p3 g0 z1 z2
            exact ⟨[], sc2, _, ok0 k1, k2, by simp only [pm_he, sa, p1, if_true], R0 g6, k3, rfl, rfl, rfl, rfl, rfl⟩
          · cases e
        · cases e
      · cases e
    · cases e
  · split at e
    · rename_i x v j t r
      obtain ⟨wx, sc0, rfl, g0, g00⟩ := sx_R_cons hs
      obtain ⟨wv, sc1, rfl, g1, g2⟩ := sx_R_cons g00
      obtain ⟨w, sc2, rfl, g5, g6⟩ := sx_R_cons g2
      obtain ⟨a, g3, g4, rfl⟩ := sx_evr g5
      split at e
      · rename_i kd n hn
        split at e
        · rename_i b hb
          split at e
          · rename_i c hc
            have sa := hC.1 h a _ iv.2.2.2 (by rw [g4]; exact hn)
            obtain ⟨y, rfl, p1, p2, p3, p4⟩ := sx_ix_ok ok.2.1 hb g1
            obtain ⟨z, rfl, z1, z2⟩ := sx_vi_ok ok.2.1 hc g0
            cases q : Nat.beq kd 2 && sx_mw T W t b.1 b.2 (-128, 127) with
            | true =>
              rw [q] at e
              cases e
              rw [Bool.and_eq_true] at q
              have q' := Nat.eq_of_beq_eq_true q.1
              subst q'
              obtain ⟨k1, k2, k3⟩ := sx_mw_ok (D := (false, false)) hC iv q.2 g4 p2 p3 (sx_nar_byte z).1 (sx_nar_byte z).2
              exact ⟨[], sc2, _, ok0 (sx_kw_ok ok k3 (k2.2.1 rfl) (k2.2.2 rfl)), k1, by simp only [pm_he, sa, p1, if_true], R0 g6, ⟨k2.1, fun _ => k2.2.1 rfl, fun _ => k2.2.2 rfl⟩, rfl, rfl, rfl, rfl, rfl⟩
            | false =>
              rw [q] at e
              simp only [cond_false] at e
              obtain ⟨q1, q2⟩ := sx_bif e
              cases q2
              rw [Bool.and_eq_true] at q1
              have q' := Nat.eq_of_beq_eq_true q1.1
              subst q'
              obtain ⟨k1, k2, k3⟩ := sx_mw_ok (D := (false, false)) hC iv q1.2 g4 p2 p3 (sx_nar_bool z).1 (sx_nar_bool z).2
              exact ⟨[], sc2, _, ok0 (sx_kw_ok ok k3 (k2.2.1 rfl) (k2.2.2 rfl)), k1, by simp only [pm_he, sa, p1, if_true], R0 g6, ⟨k2.1, fun _ => k2.2.1 rfl, fun _ => k2.2.2 rfl⟩, rfl, rfl, rfl, rfl, rfl⟩
          · cases e
        · cases e
      · cases e
    · cases e
  · split at e
    · rename_i x v j t r
      obtain ⟨wx, sc0, rfl, g0, g00⟩ := sx_R_cons hs
      obtain ⟨wv, sc1, rfl, g1, g2⟩ := sx_R_cons g00
      obtain ⟨w, sc2, rfl, g5, g6⟩ := sx_R_cons g2
      obtain ⟨a, g3, g4, rfl⟩ := sx_evr g5
      split at e
      · rename_i n hn
        split at e
        · rename_i b hb
          split at e
          · rename_i c hc
            obtain ⟨q1, q2⟩ := sx_bif e
            cases q2
            have sa := hC.1 h a _ iv.2.2.2 (by rw [g4]; exact sx_len_ok hn)
            obtain ⟨y, rfl, p1, p2, p3, p4⟩ := sx_ix_ok ok.2.1 hb g1
            obtain ⟨z, rfl, z1, z2⟩ := sx_lvi_ok ok.2.1 hc g0
            obtain ⟨k1, k2, k3⟩ := sx_wL_ok (W := W) (D := D) (k := y.toNatClampNeg) hC ok iv q1 g4 z1 z2
            exact ⟨[], sc2, _, ok0 k1, k2, by simp only [pm_he, sa, p1, if_true], R0 g6, k3, rfl, rfl, rfl, rfl, rfl⟩
          · cases e
        · cases e
      · cases e
    · cases e
  · rename_i n
    cases q : Nat.beq n 9000 with
    | false => rw [q] at e; cases e
    | true =>
      rw [q] at e
      simp only [cond_true] at e
      have q' := Nat.eq_of_beq_eq_true q
      subst q'
      split at e
      · rename_i c dp j u sp j2 t r
        obtain ⟨wc, sc0, rfl, g0, g00⟩ := sx_R_cons hs
        obtain ⟨wd, sc1, rfl, g1, g2⟩ := sx_R_cons g00
        obtain ⟨wu, sc2, rfl, g3, g4⟩ := sx_R_cons g2
        obtain ⟨ws, sc3, rfl, g5, g6⟩ := sx_R_cons g4
        obtain ⟨wt, sc4, rfl, g7, g8⟩ := sx_R_cons g6
        obtain ⟨b, b1, b2, rfl⟩ := sx_evr g3
        obtain ⟨a, a1, a2, rfl⟩ := sx_evr g7
        cases q2 : Nat.ble (sx_sum r) 8 with
        | false => rw [q2] at e; cases e
        | true =>
          rw [q2] at e
          simp only [cond_true] at e
          split at e
          · rename_i E1 hE
            cases e
            obtain ⟨h', k1, k2, k3, k4⟩ := sx_cpy_ok (D := D) hC ok iv hE a2 b2 g0 g1 g5 sc4 (by rw [sx_sum_ok g8]; exact Nat.le_of_ble_eq_true q2)
            exact ⟨[], sc4, h', ok0 k2, k3, k1, R0 g8, k4, rfl, rfl, rfl, rfl, rfl⟩
          · cases e
      · cases e
  · rename_i n
    cases q : Nat.beq n 9001 with
    | true =>
      rw [q] at e
      simp only [cond_true] at e
      have q' := Nat.eq_of_beq_eq_true q
      subst q'
      split at e
      · rename_i a r
        obtain ⟨w, sc1, rfl, g1, g2⟩ := sx_R_cons hs
        obtain ⟨q1, q2⟩ := sx_bif e
        cases q2
        have g3 := sx_evl g1
        subst g3
        simp only [Bool.and_eq_true, Nat.ble_eq, Nat.blt_eq] at q1
        have g : (sc1.map Value.category).sum ≤ 8 ∧ 100000 ≤ a ∧ 0 < (pm_txt P (a - 100000)).length := ⟨by rw [sx_sum_ok g2]; exact q1.1.1, q1.1.2, q1.2⟩
        exact ⟨[], .int (Int32.ofNat (pm_txt P (a - 100000)).length) :: sc1, h, ok0 ok, iv, by simp only [pm_he, if_true, if_pos g], R0 ⟨rfl, g2⟩, sx_fr_refl _ _ _ _ _, rfl, rfl, rfl, rfl, rfl⟩
      · cases e
    | false =>
      rw [q] at e
      simp only [cond_false] at e
      cases q3 : Nat.beq n 9002 with
      | false => rw [q3] at e; cases e
      | true =>
        rw [q3] at e
        simp only [cond_true] at e
        have q' := Nat.eq_of_beq_eq_true q3
        subst q'
        split at e
        · rename_i j a r
          obtain ⟨wj, sc0, rfl, g0, g00⟩ := sx_R_cons hs
          obtain ⟨w, sc1, rfl, g1, g2⟩ := sx_R_cons g00
          obtain ⟨q1, q2⟩ := sx_bif e
          cases q2
          have g3 := sx_evl g1
          subst g3
          have g4 := sx_evl g0
          subst g4
          simp only [Bool.and_eq_true, Nat.ble_eq] at q1
          have g : (sc1.map Value.category).sum ≤ 8 ∧ 100000 ≤ a ∧ pm_in j (pm_txt P (a - 100000)).length = true := ⟨by rw [sx_sum_ok g2]; exact q1.1.1, q1.1.2, q1.2⟩
          have n12 : ¬ (9002 : Nat) = 9001 := by decide
          exact ⟨[], .int ((pm_txt P (a - 100000)).getD j.toNatClampNeg 0) :: sc1, h, ok0 ok, iv, by simp only [pm_he, if_neg n12, if_true, if_pos g], R0 ⟨rfl, g2⟩, sx_fr_refl _ _ _ _ _, rfl, rfl, rfl, rfl, rfl⟩
        · cases e
  · cases e
end XM
