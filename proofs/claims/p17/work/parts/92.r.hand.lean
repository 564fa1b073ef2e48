/-! BY HAND: how a text is read, third: plates are made -/
section IG
variable {ys : List Int32} {h h' : pm_H} {ws c : List Value} {Q : List Value → pm_H → Prop}
theorem mxs_c {s : sx_X} {l : List sx_X} (k : sx_mxs xtg xVP h ws (s :: l) c) : ∃ w c', c = w :: c' ∧ sx_mxv xtg xVP h ws s w ∧ sx_mxs xtg xVP h ws l c' := by
  cases c with
  | nil => exact k.elim
  | cons w c' => exact ⟨w, c', rfl, k.1, k.2⟩
theorem mxs_n (k : sx_mxs xtg xVP h ws [] c) : c = [] := by
  cases c with
  | nil => rfl
  | cons w c' => exact k.elim
theorem mx_0 {j : Nat} {w : Value} (k : sx_mxv xtg xVP h ws (.inr (j, .ofNat 0)) w) : ws[j]? = some w := by
  rcases k with ⟨_, q⟩ | ⟨q, _⟩
  · exact q
  · exact absurd rfl q
theorem mx_1 {j : Nat} {w : Value} (k : sx_mxv xtg xVP h ws (.inr (j, .ofNat 1)) w) : ∃ x : Int32, ws[j]? = some (.int x) ∧ w = .int (x + Int32.ofInt 1) := by
  rcases k with ⟨q, _⟩ | ⟨_, q⟩
  · exact absurd q (by decide)
  · exact q
theorem fr_t {W : sx_W} {D : Bool × Bool} (k : sx_fr xtg xVP W D h h') {a : Nat} (hw : W.all (fun q => !Nat.beq q.1 (xtg a)) = true) (j : Nat) : h'.1 a j = h.1 a j := k.1 a j (fun q => by
  obtain ⟨q, g1, g2, _⟩ := q
  have e := List.all_eq_true.mp hw q g1
  rw [g2, Nat.beq_refl] at e
  cases e)
theorem fr_p {W : sx_W} {D : Bool × Bool} (k : sx_fr xtg xVP W D h h') {a j : Nat} (hw : W.all (fun q => !(Nat.beq q.1 (xtg a) && decide (q.2.1 ≤ (j : Int)) && decide ((j : Int) ≤ q.2.2))) = true) : h'.1 a j = h.1 a j := k.1 a j (fun q => by
  obtain ⟨q, g1, g2, g3, g4⟩ := q
  have e := List.all_eq_true.mp hw q g1
  rw [g2, Nat.beq_refl, decide_eq_true g3, decide_eq_true g4] at e
  cases e)
end IG
section IH
variable {ys : List Int32} {I : Nat → Nat → Int32} {L : Nat → Nat → Int64} {s : Nat → Option Nat} {Q : List Value → pm_H → Prop} {n : Nat}
theorem M_tellsIV {f a b c : Nat} (iv : sx_IV xT xtg xPH (I, L, g_R s, 306)) (hn : I 275 15 = nI n) (hn6 : n < 6) (hf : f ≤ 6) (ha : a ≤ 289) (hb : b ≤ 289) (hc : c ≤ 99) (hOK : fOK f a b) (kk : ∀ h', sx_IV xT xtg xPH h' → sx_fr xtg xVP [(54, .ofNat 0, .ofNat 41)] (false, false) (I, L, g_R s, 306) h' → xVP h' 6 (n : Int) → Q [] h') : pm_W (g_P ys) 293 0 [.ref 275, .int (nI f), .int (nI a), .int (nI b), .int (nI c), .retAddr 0] [] (I, L, g_R s, 306) (0, 0) Q := by
  have tn : (I 275 15).toInt = (n : Int) := by rw [hn, nI_toInt (by omega)]
  have tf := nI_toInt (n := f) (by omega)
  have ta := nI_toInt (n := a) (by omega)
  have tb := nI_toInt (n := b) (by omega)
  have tc := nI_toInt (n := c) (by omega)
  refine k_tells (ys := ys) (f := f) (a0 := a) (a1 := a) (b0 := b) (b1 := b) hf ha hb (fun a' b' h1 h2 h3 h4 => by rw [show a' = (a : Int) by omega, show b' = (b : Int) by omega]; exact hOK) (I, L, g_R s, 306) [.ref 275, .int (nI f), .int (nI a), .int (nI b), .int (nI c)] Q iv ⟨⟨275, rfl, rfl, by omega⟩, ⟨_, rfl, by rw [tf]; exact Int.le_refl _, by rw [tf]; exact Int.le_refl _, Or.inl rfl⟩, ⟨_, rfl, by rw [ta]; exact Int.le_refl _, by rw [ta]; exact Int.le_refl _, Or.inl rfl⟩, ⟨_, rfl, by rw [tb]; exact Int.le_refl _, by rw [tb]; exact Int.le_refl _, Or.inl rfl⟩, ⟨_, rfl, by rw [tc]; show (0 : Int) ≤ _; omega, by rw [tc]; show _ ≤ (99 : Int); omega, Or.inl rfl⟩, trivial⟩ (fun g hg => ?_) (fun v h' g1 g2 po => ?_)
  · rcases List.mem_cons.mp hg with rfl | hg
    · exact ⟨275, rfl, by show (0 : Int) ≤ (I 275 15).toInt; omega, by show (I 275 15).toInt ≤ (5 : Int); omega, Or.inl rfl⟩
    · cases hg
  · have g2 : sx_fr xtg xVP [(54, .ofNat 0, .ofNat 41)] (false, false) (I, L, g_R s, 306) h' := g2
    obtain ⟨o, ho, po⟩ := po
    rcases List.mem_cons.mp ho with rfl | ho
    · cases vas_n po.1
      obtain ⟨a', e, _, _, q⟩ := po.2.1 _ List.mem_cons_self
      cases e
      have q := q.resolve_left (by decide)
      have e15 : (h'.1 275 15) = I 275 15 := fr_p g2 (by decide)
      have q : xVP h' 6 (h'.1 275 15).toInt := q
      rw [e15, tn] at q
      exact kk _ g1 g2 q
    · cases ho
theorem M_sizesIV (iv : sx_IV xT xtg xPH (I, L, g_R s, 306)) (hn : I 275 15 = nI n) (hn6 : n < 6) {w v : Nat} (hw : 0 < w) (hv : 0 < v) (hwv : w * v ≤ 289) (h6 : xVP (I, L, g_R s, 306) 6 (n : Int)) (kk : ∀ I', sx_IV xT xtg xPH (I', L, g_R s, 306) → sx_fr xtg xVP [(54, .ofNat 0, .ofNat 41)] (false, false) (I, L, g_R s, 306) (I', L, g_R s, 306) → nPl I' n w v → xVP (I', L, g_R s, 306) 5 (n : Int) → nAg I I' n → Q [] (I', L, g_R s, 306)) : pm_W (g_P ys) 294 0 [.ref 275, .int (nI w), .int (nI v)] [] (I, L, g_R s, 306) (0, 0) Q := by
  have tn : (I 275 15).toInt = (n : Int) := by rw [hn, nI_toInt (by omega)]
  obtain ⟨g1, g2, g3, g4⟩ := sizes_iv (L := L) (s := s) iv tn hn6 hw hv hwv
  obtain ⟨m, e1, _, _, fm⟩ := h6
  have : m = n := by omega
  subst this
  exact M_sizes hn hn6 _ _ (kk _ g1 g2 g3 ⟨m, w, v, rfl, by rw [← tn]; exact Int.le_refl _, g3, g4 fm⟩ (nAg_u (nAg_u (i := 0) nAg_refl (by omega)) (by omega)))
/-- where plates that are made are written -/
abbrev nwW : sx_W := [(52, .ofNat 0, .ofNat 281), (54, .ofNat 0, .ofNat 41), (56, .ofNat 0, .ofNat 1733), (58, .ofNat 0, .ofNat 1733)]
theorem v4_get {h : pm_H} {m : Nat} (k : xVP h 4 (m : Int)) : ∃ w v, (m : Int) < (h.1 275 15).toInt ∧ nPl h.1 m w v := by
  obtain ⟨m', w, v, e, h1, h2⟩ := k
  have : m' = m := by omega
  subst this
  exact ⟨w, v, h1, h2⟩
theorem nPl_b {I : Nat → Nat → Int32} {k w v : Nat} (h : nPl I k w v) : w ≤ 289 ∧ v ≤ 289 := by
  obtain ⟨-, -, -, h1, h2, h3⟩ := h
  have a := Nat.le_mul_of_pos_right w h2
  have b := Nat.le_mul_of_pos_left v h1
  omega
theorem k_makesNegative : xk ys (303, [.inl (2, .ofNat 0, .ofNat 0, 50), .inl (0, .ofNat 0, .ofNat 5, 4)], [(0, 15, .ofNat 0, .ofNat 5, 0)], nwW, (false, false), [([], [(0, 15, .ofNat 0, .ofNat 5, 5)], [], [])]) := by
  intro h vs Q iv va fa kk
  obtain ⟨I, L, s, rfl⟩ := x_form iv
  obtain ⟨_, c1, rfl, ⟨a, rfl, ha, _⟩, va1⟩ := vas_c va
  obtain ⟨_, c2, rfl, ⟨x, rfl, _, _, x3⟩, va2⟩ := vas_c va1
  cases vas_n va2
  cases ref_M ha
  obtain ⟨p1, p2, _⟩ := fas1 fa rfl
  obtain ⟨n, hn5, hn⟩ := nat_bd (b := 5) p1 p2
  have hn : I 275 15 = nI n := hn
  have tn : (I 275 15).toInt = (n : Int) := by rw [hn, nI_toInt (by omega)]
  have y4 : xVP (I, L, g_R s, 306) 4 x.toInt := x3.resolve_left (by decide)
  obtain ⟨m, hz⟩ : ∃ m : Nat, x.toInt = (m : Int) := by
    obtain ⟨m, _, _, e, _⟩ := y4
    exact ⟨m, e⟩
  rw [hz] at y4
  cases i_nat hz
  obtain ⟨_, _, m0, mp⟩ := v4_get y4
  have hm6 := mp.1
  refine ps_aload rfl rfl ?_
  refine pw_c rfl ?_
  refine ps_iload rfl rfl ?_
  refine pw_c rfl ?_
  refine pw_c rfl ?_
  refine pw_k rfl rfl rfl rfl ⟨Nat.zero_le _, Nat.zero_le _⟩ ?_
  refine M_tellsIV (f := 3) (a := m) (b := 0) (c := 0) iv hn (by omega) (by omega) (by omega) (by omega) (by omega) ⟨by omega, fun q => by omega, fun _ => by omega, fun q => by omega, fun q => by omega⟩ ?_
  intro h1 g1 g2 k6
  obtain ⟨I1, L1, s1, rfl⟩ := x_form g1
  have n1 : I1 275 15 = nI n := (fr_p g2 (by decide)).trans hn
  have x41 := g2.2.1 rfl 4 _ y4
  obtain ⟨w, v, hlt, hp⟩ := v4_get x41
  have hlt : (m : Int) < (I1 275 15).toInt := hlt
  rw [n1, nI_toInt (by omega)] at hlt
  have hp : nPl I1 m w v := hp
  obtain ⟨_, hw, hv, hw0, hv0, hwv⟩ := id hp
  have hb := nPl_b hp
  refine ps_aload rfl rfl ?_
  refine ps_aload rfl rfl ?_
  refine ps_gfr 11 5 rfl rfl rfl rfl rfl (rfl) ?_
  refine pw_c rfl ?_
  refine ps_iload rfl rfl ?_
  refine ps_ar rfl rfl rfl rfl rfl ?_
  refine pw_c rfl ?_
  refine ps_ar rfl rfl rfl rfl rfl ?_
  refine ps_iald (7 * m) rfl rfl rfl (by simp only [ni_lit, ni_l0, pk_mul, nI_add, Nat.add_zero]) (by omega) ?_
  refine ps_aload rfl rfl ?_
  refine ps_gfr 11 5 rfl rfl rfl rfl rfl (rfl) ?_
  refine pw_c rfl ?_
  refine ps_iload rfl rfl ?_
  refine ps_ar rfl rfl rfl rfl rfl ?_
  refine pw_c rfl ?_
  refine ps_ar rfl rfl rfl rfl rfl ?_
  refine ps_iald (7 * m + 1) rfl rfl rfl (by simp only [ni_lit, ni_l0, pk_mul, nI_add, Nat.add_zero]) (by omega) ?_
  rw [show ((I1, L1, g_R s1, 306) : pm_H).1 279 (7 * m) = nI w from hw, show ((I1, L1, g_R s1, 306) : pm_H).1 279 (7 * m + 1) = nI v from hv]
  refine pw_k rfl rfl rfl rfl ⟨Nat.zero_le _, Nat.zero_le _⟩ ?_
  refine M_sizesIV g1 n1 (by omega) hw0 hv0 hwv k6 ?_
  intro I2 g3 g4 pl2 k5 ag2
  have hw2 : I2 279 (7 * m) = nI w := (ag2.2 _ (by omega)).trans hw
  have hv2 : I2 279 (7 * m + 1) = nI v := (ag2.2 _ (by omega)).trans hv
  have n2 : I2 275 15 = nI n := (ag2.1 _ _ (by decide)).trans n1
  have loop : ∀ d c, c + d = w * v → ∀ h', sx_IV xT xtg xPH h' → sx_fr xtg xVP [(56, .ofNat 0, .ofNat 1733), (58, .ofNat 0, .ofNat 1733)] (false, false) (I2, L1, g_R s1, 306) h' → pm_W (g_P ys) 303 36 [.ref 275, .int (nI m), .int (nI c)] [] h' (0, 0) Q := by
    intro d
    induction d with
    | zero =>
      intro c hc h' iv' fr'
      obtain ⟨I', L', s', rfl⟩ := x_form iv'
      refine ps_iload rfl rfl ?_
      refine ps_aload rfl rfl ?_
      refine ps_gfr 11 5 rfl rfl rfl rfl rfl (rfl) ?_
      refine pw_c rfl ?_
      refine ps_iload rfl rfl ?_
      refine ps_ar rfl rfl rfl rfl rfl ?_
      refine pw_c rfl ?_
      refine ps_ar rfl rfl rfl rfl rfl ?_
      refine ps_iald (7 * m) rfl rfl rfl (by simp only [ni_lit, ni_l0, pk_mul, nI_add, Nat.add_zero]) (by omega) ?_
      refine ps_aload rfl rfl ?_
      refine ps_gfr 11 5 rfl rfl rfl rfl rfl (rfl) ?_
      refine pw_c rfl ?_
      refine ps_iload rfl rfl ?_
      refine ps_ar rfl rfl rfl rfl rfl ?_
      refine pw_c rfl ?_
      refine ps_ar rfl rfl rfl rfl rfl ?_
      refine ps_iald (7 * m + 1) rfl rfl rfl (by simp only [ni_lit, ni_l0, pk_mul, nI_add, Nat.add_zero]) (by omega) ?_
      refine ps_ar rfl rfl rfl rfl rfl ?_
      rw [show ((I', L', g_R s', 306) : pm_H).1 279 (7 * m) = nI w from (fr_t fr' (by decide) _).trans hw2, show ((I', L', g_R s', 306) : pm_H).1 279 (7 * m + 1) = nI v from (fr_t fr' (by decide) _).trans hv2]
      refine ps_icmpt rfl (by rw [pk_mul]; exact decide_eq_true (nI_le (by omega) (by omega))) ?_
      refine ps_vret rfl rfl ?_
      refine kk _ _ iv' (sx_fr_trans (fr_wk (by decide) g2) (sx_fr_trans (fr_wk (by decide) g4) (fr_wk (by decide) fr'))) ⟨_, List.mem_cons_self, trivial, fun f hf => ?_, fun _ q => (by cases q), fun _ q => (by cases q)⟩
      rcases List.mem_cons.mp hf with rfl | hf
      · have e15 : (I' 275 15) = nI n := (fr_p fr' (by decide)).trans n2
        have t15 : (I' 275 15).toInt = (n : Int) := by rw [e15, nI_toInt (by omega)]
        refine ⟨275, rfl, by show (0 : Int) ≤ (I' 275 15).toInt; omega, by show (I' 275 15).toInt ≤ (5 : Int); omega, Or.inr ?_⟩
        show xVP (I', L', g_R s', 306) 5 (I' 275 15).toInt
        rw [t15]
        exact fr'.2.1 rfl 5 _ k5
      · cases hf
    | succ d ih =>
      intro c hc h' iv' fr'
      obtain ⟨I', L', s', rfl⟩ := x_form iv'
      have tm := nI_toInt (n := m) (by omega)
      have tc := nI_toInt (n := c) (by omega)
      have e15 : (I' 275 15) = nI n := (fr_p fr' (by decide)).trans n2
      have t15 : (I' 275 15).toInt = (n : Int) := by rw [e15, nI_toInt (by omega)]
      refine ps_iload rfl rfl ?_
      refine ps_aload rfl rfl ?_
      refine ps_gfr 11 5 rfl rfl rfl rfl rfl (rfl) ?_
      refine pw_c rfl ?_
      refine ps_iload rfl rfl ?_
      refine ps_ar rfl rfl rfl rfl rfl ?_
      refine pw_c rfl ?_
      refine ps_ar rfl rfl rfl rfl rfl ?_
      refine ps_iald (7 * m) rfl rfl rfl (by simp only [ni_lit, ni_l0, pk_mul, nI_add, Nat.add_zero]) (by omega) ?_
      refine ps_aload rfl rfl ?_
      refine ps_gfr 11 5 rfl rfl rfl rfl rfl (rfl) ?_
      refine pw_c rfl ?_
      refine ps_iload rfl rfl ?_
      refine ps_ar rfl rfl rfl rfl rfl ?_
      refine pw_c rfl ?_
      refine ps_ar rfl rfl rfl rfl rfl ?_
      refine ps_iald (7 * m + 1) rfl rfl rfl (by simp only [ni_lit, ni_l0, pk_mul, nI_add, Nat.add_zero]) (by omega) ?_
      refine ps_ar rfl rfl rfl rfl rfl ?_
      rw [show ((I', L', g_R s', 306) : pm_H).1 279 (7 * m) = nI w from (fr_t fr' (by decide) _).trans hw2, show ((I', L', g_R s', 306) : pm_H).1 279 (7 * m + 1) = nI v from (fr_t fr' (by decide) _).trans hv2]
      refine ps_icmpf rfl (by rw [pk_mul]; exact decide_eq_false (nI_ge (by omega) (by omega))) ?_
      refine sg_by (sg_neg_t ys) sg_neg_b iv' (gc := []) ⟨⟨275, rfl, rfl, by omega⟩, ⟨_, rfl, by rw [tm]; show (0 : Int) ≤ _; omega, by rw [tm]; show _ ≤ (5 : Int); omega, Or.inl rfl⟩, ⟨_, rfl, by rw [tc]; show (0 : Int) ≤ _; omega, by rw [tc]; show _ ≤ (288 : Int); omega, Or.inl rfl⟩, trivial⟩ trivial trivial (fun f hf => ?_) (fun v h'' _ _ q => ?_) (fun st hst lc' sc' h'' iv'' fr'' ps => ?_)
      · rcases List.mem_cons.mp hf with rfl | hf
        · exact ⟨275, rfl, by show (0 : Int) ≤ (I' 275 15).toInt; omega, by show (I' 275 15).toInt ≤ (5 : Int); omega, Or.inl rfl⟩
        · cases hf
      · obtain ⟨o, ho, _⟩ := q
        cases ho
      · rcases List.mem_cons.mp hst with rfl | hst
        · obtain ⟨w0, l1, rfl, m0, ps1⟩ := mxs_c ps.1
          obtain ⟨w1, l2, rfl, m1, ps2⟩ := mxs_c ps1
          obtain ⟨w2, l3, rfl, m2, ps3⟩ := mxs_c ps2
          cases mxs_n ps3
          cases mxs_n ps.2.1
          cases mx_0 m0
          cases mx_0 m1
          obtain ⟨x, ex, rfl⟩ := mx_1 m2
          cases ex
          show pm_W (g_P ys) 303 36 _ _ _ _ _
          rw [show nI c + Int32.ofInt 1 = nI (c + 1) from nI_1 c]
          exact ih (c + 1) (by omega) _ iv'' (sx_fr_trans fr' fr'')
        · cases hst
  refine pw_c rfl ?_
  refine ps_istore rfl rfl ?_
  exact loop (w * v) 0 (by omega) _ g3 (sx_fr_refl _ _ _ _ _)
end IH
