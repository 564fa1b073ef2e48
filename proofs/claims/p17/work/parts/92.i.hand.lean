/-! BY HAND: the class, plates -/
theorem pv_k {P : pm_P} {m pc nx : Nat} {lv st : List Value} {h : pm_H} {cs : Nat × Nat} {Q : List Value → pm_H → Prop} {k a : Nat} {as r : List Value} (hc : pm_cod P m pc = some (.inr (.invokevirtual k), nx)) (hr : pm_re (pm_ret P m) (.invokevirtual k) st = none) (ht : (st.take (pm_nar P k)).reverse = .ref a :: as) (hd : st.drop (pm_nar P k) = r) (h1 : decide (k < 9000 ∧ (r.map Value.category).sum ≤ 8 ∧ as.length + 1 = pm_nar P k ∧ (pm_sl (.ref a :: as)).length ≤ pm_mxl P k) = true) (hs : pm_sh P h a = some (.inl (pm_rcv P k))) (hz : P.2.2.1 k = (0, 0)) (hm : cs.1 ≤ pm_mc P m ∧ cs.2 ≤ pm_ms P m)
    (kk : pm_W P k 0 (pm_en (.ref a :: as) (pm_mxl P k)) [] h (0, 0) (fun v h' => pm_W P m nx lv (v ++ r) h' cs Q)) : pm_W P m pc lv st h cs Q := by
  obtain ⟨g1, g2, g3, g4⟩ := of_decide_eq_true h1
  refine pw_k (as := .ref a :: as) (r := r) hc hr ?_ hz hm kk
  simp only [pm_ca]
  rw [hd, if_pos ⟨g1, g2⟩, ht]
  simp only
  rw [if_pos ⟨g3, hs, g4⟩]
section HV
variable {ys : List Int32} {h : pm_H} {Q : List Value → pm_H → Prop}
theorem neg_msb (z : Int32) : z.toBitVec.msb = true ↔ z.toInt < 0 := by
  rw [BitVec.msb_eq_toInt, decide_eq_true_iff]
  exact Iff.rfl
theorem xor_neg {x y : Int32} (hy : 0 ≤ y.toInt) : (x ^^^ y).toInt < 0 ↔ x.toInt < 0 := by
  have e : y.toBitVec.msb = false := by
    cases d : y.toBitVec.msb with
    | false => rfl
    | true => exact absurd ((neg_msb y).mp d) (by omega)
  rw [← neg_msb, ← neg_msb, Int32.toBitVec_xor, BitVec.msb_xor, e, Bool.xor_false]
theorem B_floorMod (x : Int32) {w : Nat} (hw : 0 < w) (hw2 : w < 1000000) (kk : ∀ r, r < w → Q [.int (nI r)] h) : pm_W (g_P ys) 66 0 [.int x, .int (nI w), .retAddr 0] [] h (0, 0) Q := by
  have bx := i_bd x
  have hwI := nI_toInt (n := w) (by omega)
  have e : x - x / nI w * nI w = iI (x.toInt.tmod w) := by
    rw [← iI_nat w]
    exact (congrArg (fun q => q - q / iI (w : Int) * iI (w : Int)) (iI_of x)).trans (iI_rem (by omega) (by omega) (by omega) (by omega))
  have d1 := Int.tmod_lt_of_pos x.toInt (show (0 : Int) < w by omega)
  have d2 : -(w : Int) < x.toInt.tmod w := by
    have := Int.lt_tmod_of_pos x.toInt (show (0 : Int) < w by omega)
    omega
  have d3 : 0 ≤ x.toInt → 0 ≤ x.toInt.tmod w := fun q => Int.tmod_nonneg _ q
  refine ps_iload rfl rfl ?_
  refine ps_iload rfl rfl ?_
  refine ps_rem rfl (nI_nz hw (by omega)) ?_
  rw [e]
  refine ps_istore rfl rfl ?_
  refine ps_iload rfl rfl ?_
  refine ps_iload rfl rfl ?_
  refine ps_ar rfl rfl rfl rfl rfl ?_
  refine ps_if rfl (fun hc => ?_) (fun hc => ?_)
  · have hx : 0 ≤ x.toInt := by
      have g : (0 : Int32) ≤ x ^^^ nI w := by simpa [pm_cmp] using hc
      have g2 := (i_le _ _).mp g
      have g3 : (0 : Int) ≤ (x ^^^ nI w).toInt := g2
      have g4 := (xor_neg (x := x) (y := nI w) (by omega))
      omega
    have := d3 hx
    refine ps_iload rfl rfl ?_
    refine ps_iret rfl rfl ?_
    have q := kk (x.toInt.tmod w).toNat (by omega)
    rw [← iI_nat, Int.toNat_of_nonneg (d3 hx)] at q
    exact q
  · refine ps_iload rfl rfl ?_
    refine ps_if rfl (fun hd => ?_) (fun hd => ?_)
    · have hz : iI (x.toInt.tmod w) = 0 := by simpa [pm_cmp] using hd
      refine ps_iload rfl rfl ?_
      refine ps_iret rfl rfl ?_
      rw [hz]
      exact kk 0 hw
    · have hz : ¬ iI (x.toInt.tmod w) = 0 := by simpa [pm_cmp] using hd
      have hx : x.toInt < 0 := by
        have g : ¬ (0 : Int32) ≤ x ^^^ nI w := by simpa [pm_cmp] using hc
        rw [i_le] at g
        have g3 : ¬ (0 : Int) ≤ (x ^^^ nI w).toInt := g
        have g4 := (xor_neg (x := x) (y := nI w) (by omega))
        omega
      have hne : ¬ x.toInt.tmod w = 0 := fun q => hz (by rw [q]; rfl)
      have hle : x.toInt.tmod w ≤ 0 := by
        have t : 0 ≤ (-x.toInt).tmod w := Int.tmod_nonneg _ (by omega)
        rw [Int.neg_tmod] at t
        omega
      refine ps_iload rfl rfl ?_
      refine ps_iload rfl rfl ?_
      refine ps_ar rfl rfl rfl rfl rfl ?_
      refine ps_iret rfl rfl ?_
      rw [← iI_nat w, iI_add]
      have q := kk (x.toInt.tmod w + w).toNat (by omega)
      rw [← iI_nat, Int.toNat_of_nonneg (by omega)] at q
      exact q
/-- a plate of the class -/
def cPl (h : pm_H) (a w v : Nat) : Prop := (h.1 a 4) = nI w ∧ (h.1 a 5) = nI v ∧ (h.1 a 6) = nI (w * v) ∧ 0 < w ∧ 0 < v ∧ w * v ≤ 289
theorem cPl_of (iv : sx_IV xT xtg xPH h) {a : Nat} (ha : xtg a = 36) : ∃ w v, cPl h a w v := by
  have bw := iv.1 a 4 (.ofNat 4, .ofNat 4, .ofNat 1, .ofNat 289) (by rw [ha]; decide) (by decide) (by decide)
  have bv := iv.1 a 5 (.ofNat 5, .ofNat 5, .ofNat 1, .ofNat 289) (by rw [ha]; decide) (by decide) (by decide)
  have bc := iv.1 a 6 (.ofNat 6, .ofNat 6, .ofNat 1, .ofNat 289) (by rw [ha]; decide) (by decide) (by decide)
  have bw1 : (1 : Int) ≤ (h.1 a 4).toInt := bw.1
  have bv1 : (1 : Int) ≤ (h.1 a 5).toInt := bv.1
  have bc2 : (h.1 a 6).toInt ≤ 289 := bc.2
  have hm := iv.2.2.2.2.2.1 a ha
  obtain ⟨w, hw⟩ : ∃ w : Nat, (h.1 a 4).toInt = (w : Int) := ⟨(h.1 a 4).toInt.toNat, by omega⟩
  obtain ⟨v, hv⟩ : ∃ v : Nat, (h.1 a 5).toInt = (v : Int) := ⟨(h.1 a 5).toInt.toNat, by omega⟩
  rw [hw, hv, ← Int.natCast_mul] at hm
  exact ⟨w, v, i_nat hw, i_nat hv, i_nat hm.symm, by omega, by omega, by omega⟩
theorem cPl.b {a w v : Nat} (k : cPl h a w v) : w ≤ 289 ∧ v ≤ 289 := by
  obtain ⟨-, -, -, h1, h2, h3⟩ := k
  have a := Nat.le_mul_of_pos_right w h2
  have b := Nat.le_mul_of_pos_left v h1
  omega
theorem shp_of (iv : sx_IV xT xtg xPH h) {a t : Nat} {q : pm_S} (ha : xtg a = t) (e : xsh t = some q) : pm_sh (g_P ys) h a = some q := (xC ys).1 _ _ _ iv.2.2.2 (by show xsh (xtg a) = _; rw [ha]; exact e)
theorem B_indexOf (iv : sx_IV xT xtg xPH h) {a w v : Nat} (ha : xtg a = 36) (hp : cPl h a w v) (x y : Int32) (kk : ∀ r, r < w * v → Q [.int (nI r)] h) : pm_W (g_P ys) 93 0 [.ref a, .int x, .int y] [] h (0, 0) Q := by
  have hs : pm_sh (g_P ys) h a = some (.inl 9) := shp_of iv ha rfl
  obtain ⟨hw, hv, hc, hw0, hv0, hwv⟩ := id hp
  obtain ⟨hwb, hvb⟩ := hp.b
  refine ps_iload rfl rfl ?_
  refine ps_aload rfl rfl ?_
  refine ps_gfi 9 5 rfl rfl rfl (by first | assumption | rfl) rfl ?_
  rw [hv]
  refine pw_k rfl rfl rfl rfl ⟨Nat.zero_le _, Nat.zero_le _⟩ ?_
  refine B_floorMod y hv0 (by omega) ?_
  intro r1 hr1
  refine ps_aload rfl rfl ?_
  refine ps_gfi 9 4 rfl rfl rfl (by first | assumption | rfl) rfl ?_
  rw [hw]
  refine ps_ar rfl rfl rfl rfl rfl ?_
  refine ps_iload rfl rfl ?_
  refine ps_aload rfl rfl ?_
  refine ps_gfi 9 4 rfl rfl rfl (by first | assumption | rfl) rfl ?_
  rw [hw]
  refine pw_k rfl rfl rfl rfl ⟨Nat.zero_le _, Nat.zero_le _⟩ ?_
  refine B_floorMod x hw0 (by omega) ?_
  intro r2 hr2
  refine ps_ar rfl rfl rfl rfl rfl ?_
  refine ps_iret rfl rfl ?_
  rw [pk_mul, nI_add]
  refine kk _ ?_
  have := Nat.mul_le_mul_right w (show r1 + 1 ≤ v by omega)
  rw [Nat.add_mul, Nat.one_mul, Nat.mul_comm v w] at this
  omega
theorem k_cIndexOf : xk ys (93, [.inl (2, .ofNat 0, .ofNat 0, 36), .inl (0, .negSucc 2147483647, .ofNat 2147483647, 0), .inl (0, .negSucc 2147483647, .ofNat 2147483647, 0)], [], [], (false, false), [([.inl (0, .ofNat 0, .ofNat 288, 0)], [], [], [])]) := by
  intro h vs Q iv va fa kk
  obtain ⟨_, c1, rfl, ⟨a, rfl, ha, _⟩, va1⟩ := vas_c va
  obtain ⟨_, c2, rfl, ⟨x, rfl, _⟩, va2⟩ := vas_c va1
  obtain ⟨_, c3, rfl, ⟨y, rfl, _⟩, va3⟩ := vas_c va2
  cases vas_n va3
  obtain ⟨w, v, hp⟩ := cPl_of iv ha
  have hwv := hp.2.2.2.2.2
  exact B_indexOf iv ha hp x y (fun r hr => kk _ _ iv (sx_fr_refl _ _ _ _ _) ⟨_, List.mem_cons_self, po_i (by rw [nI_toInt (by omega)]; show (0 : Int) ≤ _; omega) (by rw [nI_toInt (by omega)]; show _ ≤ (288 : Int); omega)⟩)
end HV
/-! rows that are added to -/
section HW
variable {ys : List Int32} {h h' : pm_H} {Q : List Value → pm_H → Prop} {t : Nat}
/-- only row t has changed, all is in order -/
def rOK (t : Nat) (h h' : pm_H) : Prop := sx_IV xT xtg xPH h' ∧ sx_fr xtg xVP [(t, .ofNat 0, .ofNat 288)] (false, false) h h'
theorem rOK_refl (iv : sx_IV xT xtg xPH h) : rOK t h h := ⟨iv, sx_fr_refl _ _ _ _ _⟩
theorem rOK_u (ht : sx_mw xT [(t, .ofNat 0, .ofNat 288)] t 0 288 (-2147483648, 2147483647) = true) (k : rOK t h h') {b i : Nat} (hb : xtg b = t) (hi : i ≤ 288) (x : Int32) : rOK t h (pm_sI h' b i x) := by
  have bx := i_bd x
  have g := sx_mw_ok (xC []) k.1 (D := (false, false)) ht hb (k := i) (by omega) (by omega) (x := x) (by show (-2147483648 : Int) ≤ _; omega) (by show _ ≤ (2147483647 : Int); omega)
  exact ⟨g.1, sx_fr_trans k.2 g.2.1⟩
theorem rOK_o (k : rOK t h h') {a j : Nat} (ha : ¬ xtg a = t) : h'.1 a j = h.1 a j := k.2.1 a j (fun q => by
  obtain ⟨q1, h1, h2, _⟩ := q
  rcases List.mem_cons.mp h1 with rfl | h1
  · exact ha h2.symm
  · cases h1)
theorem rOK_pl (k : rOK t h h') {a w v : Nat} (ha : xtg a = 36) (ht : ¬ t = 36) (hp : cPl h a w v) : cPl h' a w v := by
  have q : ¬ xtg a = t := fun e => ht (by rw [← e, ha])
  unfold cPl at hp ⊢
  rw [rOK_o k q, rOK_o k q, rOK_o k q]
  exact hp
theorem B_addShifted (ht : sx_mw xT [(t, .ofNat 0, .ofNat 288)] t 0 288 (-2147483648, 2147483647) = true) (ht36 : ¬ t = 36) (iv : sx_IV xT xtg xPH h) {a b c w v u : Nat} (ha : xtg a = 36) (hb : xtg b = t) (hbs : xsh t = some (.inr (0, 289))) (hc : xtg c = u) (hcs : xsh u = some (.inr (0, 289))) (hp : cPl h a w v) (dx dy tm : Int32) (kk : ∀ h', rOK t h h' → Q [] h') : pm_W (g_P ys) 65 0 [.ref a, .ref b, .ref c, .int dx, .int dy, .int tm, .retAddr 0, .retAddr 0, .retAddr 0, .retAddr 0, .retAddr 0, .retAddr 0] [] h (0, 0) Q := by
  obtain ⟨hwb, hvb⟩ := hp.b
  obtain ⟨-, -, -, hw0, hv0, hwv⟩ := id hp
  have outer : ∀ d y, y + d = v → ∀ fx p, fx < w → p < v → ∀ u1 u2 h', rOK t h h' → pm_W (g_P ys) 65 27 [.ref a, .ref b, .ref c, .int dx, .int dy, .int tm, .int (nI fx), .int (nI p), .int (nI (w * y)), .int (nI y), u1, u2] [] h' (0, 0) Q := by
    intro d
    induction d with
    | zero =>
      intro y hy fx p hfx hpv u1 u2 h' ok
      have hs : pm_sh (g_P ys) h' a = some (.inl 9) := shp_of ok.1 ha rfl
      have hp' := rOK_pl ok ha ht36 hp
      refine ps_iload rfl rfl ?_
      refine ps_aload rfl rfl ?_
      refine ps_gfi 9 5 rfl rfl rfl (by first | assumption | rfl) rfl ?_
      refine ps_icmpt rfl (by show decide _ = true; rw [hp'.2.1]; exact decide_eq_true (nI_le (by omega) (by omega))) ?_
      refine ps_vret rfl rfl ?_
      exact kk _ ok
    | succ d ih =>
      intro y hy fx p hfx hpv u1 u2 h' ok
      have h1 : w * (y + 1) ≤ w * v := Nat.mul_le_mul_left w (by omega)
      rw [Nat.mul_succ] at h1
      have h2 : w * (p + 1) ≤ w * v := Nat.mul_le_mul_left w (by omega)
      rw [Nat.mul_succ] at h2
      have inner : ∀ e x, x + e = w → ∀ q, q < w → ∀ h', rOK t h h' → pm_W (g_P ys) 65 43 [.ref a, .ref b, .ref c, .int dx, .int dy, .int tm, .int (nI fx), .int (nI p), .int (nI (w * y + x)), .int (nI y), .int (nI q), .int (nI x)] [] h' (0, 0) Q := by
        intro e
        induction e with
        | zero =>
          intro x hx q hq h' ok
          have hs : pm_sh (g_P ys) h' a = some (.inl 9) := shp_of ok.1 ha rfl
          have hp' := rOK_pl ok ha ht36 hp
          have nx : ∀ p', p' < v → pm_W (g_P ys) 65 123 [.ref a, .ref b, .ref c, .int dx, .int dy, .int tm, .int (nI fx), .int (nI p), .int (nI (w * y + x)), .int (nI y), .int (nI q), .int (nI x)] [.int (nI p')] h' (0, 0) Q := by
            intro p' hp'
            refine ps_istore rfl rfl ?_
            refine ps_iinc rfl rfl ?_
            refine ps_goto rfl ?_
            rw [show nI y + Int32.ofInt 1 = nI (y + 1) from nI_1 y, show w * y + x = w * (y + 1) by rw [Nat.mul_succ]; omega]
            exact ih (y + 1) (by omega) fx p' hfx hp' _ _ _ ok
          refine ps_iload rfl rfl ?_
          refine ps_aload rfl rfl ?_
          refine ps_gfi 9 4 rfl rfl rfl (by first | assumption | rfl) rfl ?_
          refine ps_icmpt rfl (by show decide _ = true; rw [hp'.1]; exact decide_eq_true (nI_le (by omega) (by omega))) ?_
          refine ps_iload rfl rfl ?_
          refine pw_c rfl ?_
          refine ps_ar rfl rfl rfl rfl rfl ?_
          refine ps_aload rfl rfl ?_
          refine ps_gfi 9 5 rfl rfl rfl (by first | assumption | rfl) rfl ?_
          rw [hp'.2.1]
          refine ps_icmp rfl (fun hc => ?_) (fun hc => ?_)
          · have hne : ¬ p + 1 = v := fun e => by rw [show nI p + 1 = nI (p + 1) from nI_1 p, e] at hc; simp [pm_cmp] at hc
            refine ps_iload rfl rfl ?_
            refine pw_c rfl ?_
            refine ps_ar rfl rfl rfl rfl rfl ?_
            rw [show nI p + 1 = nI (p + 1) from nI_1 p]
            exact nx (p + 1) (by omega)
          · refine pw_c rfl ?_
            refine ps_goto rfl ?_
            exact nx 0 hv0
        | succ e ih2 =>
          intro x hx q hq h' ok
          have hs : pm_sh (g_P ys) h' a = some (.inl 9) := shp_of ok.1 ha rfl
          have hsb : pm_sh (g_P ys) h' b = some (.inr (0, 289)) := shp_of ok.1 hb hbs
          have hsc : pm_sh (g_P ys) h' c = some (.inr (0, 289)) := shp_of ok.1 hc hcs
          have hp' := rOK_pl ok ha ht36 hp
          refine ps_iload rfl rfl ?_
          refine ps_aload rfl rfl ?_
          refine ps_gfi 9 4 rfl rfl rfl (by first | assumption | rfl) rfl ?_
          refine ps_icmpf rfl (by show decide _ = false; rw [hp'.1]; exact decide_eq_false (nI_ge (by omega) (by omega))) ?_
          refine ps_aload rfl rfl ?_
          refine ps_iload rfl rfl ?_
          refine ps_ar rfl rfl rfl rfl rfl ?_
          refine ps_iald (w * y + x) rfl (by first | assumption | rfl) rfl (rfl) (by omega) ?_
          refine ps_iload rfl rfl ?_
          refine ps_aload rfl rfl ?_
          refine ps_iload rfl rfl ?_
          refine ps_aload rfl rfl ?_
          refine ps_gfi 9 4 rfl rfl rfl (by first | assumption | rfl) rfl ?_
          rw [hp'.1]
          refine ps_ar rfl rfl rfl rfl rfl ?_
          refine ps_iload rfl rfl ?_
          refine ps_ar rfl rfl rfl rfl rfl ?_
          refine ps_iald (p * w + q) rfl (by first | assumption | rfl) rfl (by rw [pk_mul, nI_add]) (by rw [Nat.mul_comm p w]; omega) ?_
          refine ps_ar rfl rfl rfl rfl rfl ?_
          refine ps_ar rfl rfl rfl rfl rfl ?_
          refine ps_iast (w * y + x) rfl (by first | assumption | rfl) rfl (rfl) (by omega) ?_
          have ok2 := rOK_u ht ok hb (i := w * y + x) (by omega) (h'.1 b (w * y + x) + tm * h'.1 c (p * w + q))
          have hs2 : pm_sh (g_P ys) (pm_sI h' b (w * y + x) (h'.1 b (w * y + x) + tm * h'.1 c (p * w + q))) a = some (.inl 9) := shp_of ok2.1 ha rfl
          have hp2 := rOK_pl ok2 ha ht36 hp
          have nx : ∀ q', q' < w → pm_W (g_P ys) 65 96 [.ref a, .ref b, .ref c, .int dx, .int dy, .int tm, .int (nI fx), .int (nI p), .int (nI (w * y + (x + 1))), .int (nI y), .int (nI q), .int (nI x)] [.int (nI q')] (pm_sI h' b (w * y + x) (h'.1 b (w * y + x) + tm * h'.1 c (p * w + q))) (0, 0) Q := by
            intro q' hq'
            refine ps_istore rfl rfl ?_
            refine ps_iinc rfl rfl ?_
            refine ps_goto rfl ?_
            rw [show nI x + Int32.ofInt 1 = nI (x + 1) from nI_1 x]
            exact ih2 (x + 1) (by omega) q' hq' _ ok2
          refine ps_iinc rfl rfl ?_
          refine ps_iload rfl rfl ?_
          refine pw_c rfl ?_
          refine ps_ar rfl rfl rfl rfl rfl ?_
          refine ps_aload rfl rfl ?_
          refine ps_gfi 9 4 rfl rfl rfl (by first | assumption | rfl) rfl ?_
          rw [show nI (w * y + x) + Int32.ofInt 1 = nI (w * y + (x + 1)) from nI_1 _]
          rw [show ((pm_sI h' b (w * y + x) (h'.1 b (w * y + x) + tm * h'.1 c (p * w + q))) : pm_H).1 a 4 = nI w from hp2.1]
          refine ps_icmp rfl (fun hc => ?_) (fun hc => ?_)
          · have hne : ¬ q + 1 = w := fun e => by rw [show nI q + 1 = nI (q + 1) from nI_1 q, e] at hc; simp [pm_cmp] at hc
            refine ps_iload rfl rfl ?_
            refine pw_c rfl ?_
            refine ps_ar rfl rfl rfl rfl rfl ?_
            rw [show nI q + 1 = nI (q + 1) from nI_1 q]
            exact nx (q + 1) (by omega)
          · refine pw_c rfl ?_
            refine ps_goto rfl ?_
            exact nx 0 hw0
      have hs : pm_sh (g_P ys) h' a = some (.inl 9) := shp_of ok.1 ha rfl
      have hp' := rOK_pl ok ha ht36 hp
      refine ps_iload rfl rfl ?_
      refine ps_aload rfl rfl ?_
      refine ps_gfi 9 5 rfl rfl rfl (by first | assumption | rfl) rfl ?_
      refine ps_icmpf rfl (by show decide _ = false; rw [hp'.2.1]; exact decide_eq_false (nI_ge (by omega) (by omega))) ?_
      refine ps_iload rfl rfl ?_
      refine ps_istore rfl rfl ?_
      refine pw_c rfl ?_
      refine ps_istore rfl rfl ?_
      exact inner w 0 (by omega) fx hfx _ ok
  have hs : pm_sh (g_P ys) h a = some (.inl 9) := shp_of iv ha rfl
  refine ps_iload rfl rfl ?_
  refine ps_aload rfl rfl ?_
  refine ps_gfi 9 4 rfl rfl rfl (by first | assumption | rfl) rfl ?_
  rw [hp.1]
  refine pw_k rfl rfl rfl rfl ⟨Nat.zero_le _, Nat.zero_le _⟩ ?_
  refine B_floorMod dx hw0 (by omega) ?_
  intro fx hfx
  refine ps_istore rfl rfl ?_
  refine ps_iload rfl rfl ?_
  refine ps_aload rfl rfl ?_
  refine ps_gfi 9 5 rfl rfl rfl (by first | assumption | rfl) rfl ?_
  rw [hp.2.1]
  refine pw_k rfl rfl rfl rfl ⟨Nat.zero_le _, Nat.zero_le _⟩ ?_
  refine B_floorMod dy hv0 (by omega) ?_
  intro p hpv
  refine ps_istore rfl rfl ?_
  refine pw_c rfl ?_
  refine ps_istore rfl rfl ?_
  refine pw_c rfl ?_
  refine ps_istore rfl rfl ?_
  exact outer v 0 (by omega) fx p hfx hpv _ _ _ (rOK_refl iv)
theorem k_addShifted {t u : Nat} (ht : sx_mw xT [(t, .ofNat 0, .ofNat 288)] t 0 288 (-2147483648, 2147483647) = true) (ht36 : ¬ t = 36) (hbs : xsh t = some (.inr (0, 289))) (hcs : xsh u = some (.inr (0, 289))) : xk ys (65, [.inl (2, .ofNat 0, .ofNat 0, 36), .inl (2, .ofNat 0, .ofNat 0, t), .inl (2, .ofNat 0, .ofNat 0, u), .inl (0, .negSucc 2147483647, .ofNat 2147483647, 0), .inl (0, .negSucc 2147483647, .ofNat 2147483647, 0), .inl (0, .negSucc 2147483647, .ofNat 2147483647, 0)], [], [(t, .ofNat 0, .ofNat 288)], (false, false), [([], [], [], [])]) := by
  intro h vs Q iv va fa kk
  obtain ⟨_, c1, rfl, ⟨a, rfl, ha, _⟩, va1⟩ := vas_c va
  obtain ⟨_, c2, rfl, ⟨b, rfl, hb, _⟩, va2⟩ := vas_c va1
  obtain ⟨_, c3, rfl, ⟨c, rfl, hc, _⟩, va3⟩ := vas_c va2
  obtain ⟨_, c4, rfl, ⟨x, rfl, _⟩, va4⟩ := vas_c va3
  obtain ⟨_, c5, rfl, ⟨y, rfl, _⟩, va5⟩ := vas_c va4
  obtain ⟨_, c6, rfl, ⟨z, rfl, _⟩, va6⟩ := vas_c va5
  cases vas_n va6
  obtain ⟨w, v, hp⟩ := cPl_of iv ha
  exact B_addShifted ht ht36 iv ha hb hbs hc hcs hp x y z (fun h' ok => kk _ _ ok.1 ok.2 ⟨_, List.mem_cons_self, po_0⟩)
end HW
