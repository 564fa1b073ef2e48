/-! BY HAND: the class, plates, third: sizes -/
section HZ
variable {ys : List Int32} {h : pm_H} {Q : List Value → pm_H → Prop}
def rsz (h : pm_H) (a w v : Nat) : pm_H := pm_sI (pm_sI (pm_sI (pm_sI h a 4 (nI w)) a 5 (nI v)) a 6 (nI (w * v))) a 9 0
theorem ne_tag {a b t : Nat} (ha : xtg a = t) (hb : ¬ xtg b = t) : ¬ b = a := fun e => hb (by rw [e]; exact ha)
theorem rsz_iv (iv : sx_IV xT xtg xPH h) {a w v : Nat} (ha : xtg a = 36) (hw : 0 < w) (hv : 0 < v) (hwv : w * v ≤ 289) : sx_IV xT xtg xPH (rsz h a w v) ∧ sx_fr xtg xVP [(36, .ofNat 4, .ofNat 4), (36, .ofNat 5, .ofNat 5), (36, .ofNat 6, .ofNat 6), (36, .ofNat 9, .ofNat 9)] (false, false) h (rsz h a w v) ∧ cPl (rsz h a w v) a w v := by
  obtain ⟨I, L, s, rfl⟩ := x_form iv
  have hwb := Nat.le_mul_of_pos_right w hv
  have hvb := Nat.le_mul_of_pos_left v hw
  have hm : 0 < w * v := Nat.mul_pos hw hv
  have tw := nI_toInt (n := w) (by omega)
  have tv := nI_toInt (n := v) (by omega)
  have tc := nI_toInt (n := w * v) (by omega)
  have e : rsz (I, L, g_R s, 306) a w v = (pm_u (pm_u (pm_u (pm_u I a 4 (nI w)) a 5 (nI v)) a 6 (nI (w * v))) a 9 0, L, g_R s, 306) := rfl
  rw [e]
  have pl : cPl ((pm_u (pm_u (pm_u (pm_u I a 4 (nI w)) a 5 (nI v)) a 6 (nI (w * v))) a 9 0, L, g_R s, 306) : pm_H) a w v := by
    refine ⟨?_, ?_, ?_, hw, hv, hwv⟩
    · show pm_u _ a _ _ a _ = _
      rw [pu_n (by decide), pu_n (by decide), pu_n (by decide), pu_s]
    · show pm_u _ a _ _ a _ = _
      rw [pu_n (by decide), pu_n (by decide), pu_s]
    · show pm_u _ a _ _ a _ = _
      rw [pu_n (by decide), pu_s]
  have ro : ∀ b, ¬ b = a → ∀ j, (pm_u (pm_u (pm_u (pm_u I a 4 (nI w)) a 5 (nI v)) a 6 (nI (w * v))) a 9 0) b j = I b j := by
    intro b hb j
    rw [pu_o hb, pu_o hb, pu_o hb, pu_o hb]
  have na : ∀ b, ¬ xtg b = 36 → ¬ b = a := fun b hb => ne_tag ha hb
  have w1 : ∀ (k : Nat) (lo hi : Int), sx_wr (xsb 36) k k (lo, hi) = true → sx_wr (xsb (xtg a)) k k (lo, hi) = true := fun k lo hi q => by rw [ha]; exact q
  have w2 : ∀ (k : Nat), sx_wk [(36, .ofNat 4, .ofNat 4), (36, .ofNat 5, .ofNat 5), (36, .ofNat 6, .ofNat 6), (36, .ofNat 9, .ofNat 9)] 36 k k = true → sx_wk [(36, .ofNat 4, .ofNat 4), (36, .ofNat 5, .ofNat 5), (36, .ofNat 6, .ofNat 6), (36, .ofNat 9, .ofNat 9)] (xtg a) k k = true := fun k q => by rw [ha]; exact q
  obtain ⟨k1, k2, k3, k4, k5⟩ := iv.2.2.2.2.2
  refine ⟨iv_new iv (ib_u (ib_u (ib_u (ib_u iv.1 (w1 _ 1 289 (by decide)) (by omega) (by omega)) (w1 _ 1 289 (by decide)) (by omega) (by omega)) (w1 _ 1 289 (by decide)) (by omega) (by omega)) (w1 _ 0 1 (by decide)) (by decide) (by decide)) ⟨fun b hb => ?_, ?_, ?_, ?_, ?_⟩, ⟨fr_u (fr_u (fr_u (fr_u (fun _ _ _ => rfl) (w2 _ (by decide))) (w2 _ (by decide))) (w2 _ (by decide))) (w2 _ (by decide)), fun _ l z k => xV_ag (P := fun b => b = a) (fun b e => ?_) (fun b j hb => ro b hb j) k, fun _ => rfl⟩, pl⟩
  · by_cases e2 : b = a
    · subst e2
      have p1 := pl.1
      have p2 := pl.2.1
      have p3 := pl.2.2.1
      dsimp only at p1 p2 p3
      rw [p1, p2, p3, tw, tv, tc, Int.natCast_mul]
    · rw [ro b e2, ro b e2, ro b e2]
      exact k1 b hb
  · intro j hj hk
    rw [ro 7 (na 7 (by decide))] at hk
    rw [ro 8 (na 8 (by decide)), ro 10 (na 10 (by decide))]
    exact k2 j hj hk
  · intro m hm2
    rw [ro 275 (na 275 (by decide))] at hm2
    have := k3 m hm2
    unfold mPl mFm
    simp only [ro 278 (na _ (by decide))]
    exact this
  · intro hm2
    rw [ro 275 (na 275 (by decide))] at hm2
    have := k4 hm2
    simp only [ro 275 (na _ (by decide)), ro 288 (na _ (by decide)), ro 290 (na _ (by decide))]
    exact this
  · intro hw2
    rw [ro 275 (na 275 (by decide))] at hw2
    have := k5 hw2
    unfold nPl nFm
    simp only [ro 275 (na _ (by decide)), ro 279 (na _ (by decide)), ro 289 (na _ (by decide))]
    exact this
  · subst e
    exact ⟨fun q => by rw [q] at ha; exact absurd ha (by decide), fun q => by rw [q] at ha; exact absurd ha (by decide), fun q => by rw [q] at ha; exact absurd ha (by decide), fun q => by rw [q] at ha; exact absurd ha (by decide), fun q => by rw [q] at ha; exact absurd ha (by decide), fun q => by rw [q] at ha; exact absurd ha (by decide), fun q => by rw [q] at ha; exact absurd ha (by decide)⟩
theorem B_resize (iv : sx_IV xT xtg xPH h) {a : Nat} (ha : xtg a = 36) (x y : Int32) (kk : ∀ w v, 0 < w → 0 < v → w * v ≤ 289 → ((x = nI w ∧ y = nI v) ∨ (w = 1 ∧ v = 1)) → Q [] (rsz h a w v)) : pm_W (g_P ys) 49 0 [.ref a, .int x, .int y, .retAddr 0] [] h (0, 0) Q := by
  have hs : pm_sh (g_P ys) h a = some (.inl 9) := shp_of iv ha rfl
  have bx := i_bd x
  have by' := i_bd y
  have fin : ∀ (w v : Nat), 0 < w → 0 < v → w * v ≤ 289 → ((x = nI w ∧ y = nI v) ∨ (w = 1 ∧ v = 1)) → ∀ u, pm_W (g_P ys) 49 55 [.ref a, .int x, .int y, .int u] [.int (nI v), .ref a] (pm_sI h a 4 (nI w)) (0, 0) Q := by
    intro w v hw hv hwv hx u
    have hs1 : pm_sh (g_P ys) (pm_sI h a 4 (nI w)) a = some (.inl 9) := hs
    have hs2 : pm_sh (g_P ys) (pm_sI (pm_sI h a 4 (nI w)) a 5 (nI v)) a = some (.inl 9) := hs
    have hs3 : pm_sh (g_P ys) (pm_sI (pm_sI (pm_sI h a 4 (nI w)) a 5 (nI v)) a 6 (nI (w * v))) a = some (.inl 9) := hs
    refine ps_pfi 9 5 rfl rfl rfl (by first | assumption | rfl) rfl ?_
    refine ps_aload rfl rfl ?_
    refine ps_aload rfl rfl ?_
    refine ps_gfi 9 4 rfl rfl rfl (by first | assumption | rfl) rfl ?_
    rw [show ((pm_sI (pm_sI h a 4 (nI w)) a 5 (nI v)) : pm_H).1 a 4 = nI w from (pu_n (by decide)).trans pu_s]
    refine ps_aload rfl rfl ?_
    refine ps_gfi 9 5 rfl rfl rfl (by first | assumption | rfl) rfl ?_
    rw [show ((pm_sI (pm_sI h a 4 (nI w)) a 5 (nI v)) : pm_H).1 a 5 = nI v from pu_s]
    refine ps_ar rfl rfl rfl rfl rfl ?_
    rw [show nI w * nI v = nI (w * v) from pk_mul w v]
    refine ps_pfi 9 6 rfl rfl rfl (by first | assumption | rfl) rfl ?_
    refine ps_aload rfl rfl ?_
    refine pw_c rfl ?_
    refine ps_pfz 9 9 rfl rfl rfl (by first | assumption | rfl) rfl (Or.inl rfl) ?_
    refine ps_vret rfl rfl ?_
    exact kk w v hw hv hwv hx
  have no : ∀ u : Value, pm_W (g_P ys) 49 30 [.ref a, .int x, .int y, u] [] h (0, 0) Q := by
    intro u
    refine pw_c rfl ?_
    refine ps_istore rfl rfl ?_
    refine ps_aload rfl rfl ?_
    refine ps_iload rfl rfl ?_
    refine ps_ift rfl (rfl) ?_
    refine pw_c rfl ?_
    refine ps_pfi 9 4 rfl rfl rfl (by first | assumption | rfl) rfl ?_
    have hs1 : pm_sh (g_P ys) (pm_sI h a 4 (nI 1)) a = some (.inl 9) := hs
    refine ps_aload rfl rfl ?_
    refine ps_iload rfl rfl ?_
    refine ps_ift rfl (rfl) ?_
    refine pw_c rfl ?_
    exact fin 1 1 (by omega) (by omega) (by omega) (Or.inr ⟨rfl, rfl⟩) _
  refine ps_iload rfl rfl ?_
  refine pw_c rfl ?_
  refine ps_icmp rfl (fun hc => ?_) (fun hc => ?_)
  · exact no _
  · have h1 : 1 ≤ x.toInt := by
      have g : ¬ x < 1 := by simpa [pm_cmp] using hc
      rw [i_lt] at g
      have e : (1 : Int32).toInt = 1 := rfl
      omega
    refine ps_iload rfl rfl ?_
    refine pw_c rfl ?_
    refine ps_icmp rfl (fun hd => ?_) (fun hd => ?_)
    · exact no _
    · have h2 : 1 ≤ y.toInt := by
        have g : ¬ y < 1 := by simpa [pm_cmp] using hd
        rw [i_lt] at g
        have e : (1 : Int32).toInt = 1 := rfl
        omega
      refine ps_iload rfl rfl ?_
      refine pw_c rfl ?_
      refine ps_icmp rfl (fun he => ?_) (fun he => ?_)
      · exact no _
      · have h3 : x.toInt ≤ 289 := by
          have g : ¬ (289 : Int32) < x := by simpa [pm_cmp] using he
          rw [i_lt] at g
          have e : (289 : Int32).toInt = 289 := rfl
          omega
        obtain ⟨w, hw⟩ : ∃ w : Nat, x.toInt = (w : Int) := ⟨x.toInt.toNat, by omega⟩
        obtain ⟨v, hv⟩ : ∃ v : Nat, y.toInt = (v : Int) := ⟨y.toInt.toNat, by omega⟩
        cases i_nat hw
        cases i_nat hv
        refine ps_iload rfl rfl ?_
        refine pw_c rfl ?_
        refine ps_iload rfl rfl ?_
        rw [show (289 : Int32) = nI 289 from rfl]
        refine ps_div rfl (nI_nz (by omega) (by omega)) ?_
        rw [nI_div (by omega) (by omega)]
        refine ps_icmp rfl (fun hf => ?_) (fun hf => ?_)
        · exact no _
        · have h4 : v ≤ 289 / w := by
            have g : ¬ nI (289 / w) < nI v := by simpa [pm_cmp] using hf
            rw [i_lt, nI_toInt (Nat.lt_of_le_of_lt (Nat.div_le_self _ _) (by omega)), hv] at g
            omega
          have hwv : w * v ≤ 289 := by
            have := Nat.mul_le_mul_left w h4
            have := Nat.mul_div_le 289 w
            omega
          refine pw_c rfl ?_
          refine ps_goto rfl ?_
          refine ps_istore rfl rfl ?_
          refine ps_aload rfl rfl ?_
          refine ps_iload rfl rfl ?_
          refine ps_iff rfl (rfl) ?_
          refine ps_iload rfl rfl ?_
          refine ps_goto rfl ?_
          refine ps_pfi 9 4 rfl rfl rfl (by first | assumption | rfl) rfl ?_
          have hs1 : pm_sh (g_P ys) (pm_sI h a 4 (nI w)) a = some (.inl 9) := hs
          refine ps_aload rfl rfl ?_
          refine ps_iload rfl rfl ?_
          refine ps_iff rfl (rfl) ?_
          refine ps_iload rfl rfl ?_
          refine ps_goto rfl ?_
          exact fin w v (by omega) (by omega) hwv (Or.inl ⟨rfl, rfl⟩) _
theorem k_resize : xk ys (49, [.inl (2, .ofNat 0, .ofNat 0, 36), .inl (0, .negSucc 2147483647, .ofNat 2147483647, 0), .inl (0, .negSucc 2147483647, .ofNat 2147483647, 0)], [], [(36, .ofNat 4, .ofNat 4), (36, .ofNat 5, .ofNat 5), (36, .ofNat 6, .ofNat 6), (36, .ofNat 9, .ofNat 9)], (false, false), [([], [], [], [])]) := by
  intro h vs Q iv va fa kk
  obtain ⟨_, c1, rfl, ⟨a, rfl, ha, _⟩, va1⟩ := vas_c va
  obtain ⟨_, c2, rfl, ⟨x, rfl, _⟩, va2⟩ := vas_c va1
  obtain ⟨_, c3, rfl, ⟨y, rfl, _⟩, va3⟩ := vas_c va2
  cases vas_n va3
  refine B_resize iv ha x y (fun w v hw hv hwv _ => ?_)
  obtain ⟨g1, g2, _⟩ := rsz_iv iv ha hw hv hwv
  exact kk _ _ g1 g2 ⟨_, List.mem_cons_self, po_0⟩
theorem B_sumAny (iv : sx_IV xT xtg xPH h) {b t f n : Nat} (hb : xtg b = t) (hbs : xsh t = some (.inr (0, 289))) (hn : f + n ≤ 289) (kk : ∀ r, Q [.int r] h) : pm_W (g_P ys) 72 0 [.ref b, .int (nI f), .int (nI n), .retAddr 0, .retAddr 0] [] h (0, 0) Q := by
  have hs : pm_sh (g_P ys) h b = some (.inr (0, 289)) := shp_of iv hb hbs
  have loop : ∀ d i, i + d = f + n → ∀ r, pm_W (g_P ys) 72 5 [.ref b, .int (nI f), .int (nI n), .int r, .int (nI i)] [] h (0, 0) Q := by
    intro d
    induction d with
    | zero =>
      intro i hi r
      refine ps_iload rfl rfl ?_
      refine ps_iload rfl rfl ?_
      refine ps_iload rfl rfl ?_
      refine ps_ar rfl rfl rfl rfl rfl ?_
      refine ps_icmpt rfl (by show decide _ = true; rw [nI_add]; exact decide_eq_true (nI_le (by omega) (by omega))) ?_
      refine ps_iload rfl rfl ?_
      refine ps_iret rfl rfl ?_
      exact kk _
    | succ d ih =>
      intro i hi r
      refine ps_iload rfl rfl ?_
      refine ps_iload rfl rfl ?_
      refine ps_iload rfl rfl ?_
      refine ps_ar rfl rfl rfl rfl rfl ?_
      refine ps_icmpf rfl (by show decide _ = false; rw [nI_add]; exact decide_eq_false (nI_ge (by omega) (by omega))) ?_
      refine ps_iload rfl rfl ?_
      refine ps_aload rfl rfl ?_
      refine ps_iload rfl rfl ?_
      refine ps_iald (i) rfl (by first | assumption | rfl) rfl (rfl) (by omega) ?_
      refine ps_ar rfl rfl rfl rfl rfl ?_
      refine ps_istore rfl rfl ?_
      refine ps_iinc rfl rfl ?_
      refine ps_goto rfl ?_
      rw [show nI i + Int32.ofInt 1 = nI (i + 1) from nI_1 i]
      exact ih (i + 1) (by omega) _
  refine pw_c rfl ?_
  refine ps_istore rfl rfl ?_
  refine ps_iload rfl rfl ?_
  refine ps_istore rfl rfl ?_
  exact loop n f rfl _
theorem B_has (iv : sx_IV xT xtg xPH h) {a w v : Nat} (ha : xtg a = 36) (hp : cPl h a w v) (x y : Int32) (k0 : Q [.int 0] h) (k1 : ∀ i j, x = nI i → y = nI j → i < w → j < v → Q [.int 1] h) : pm_W (g_P ys) 54 0 [.ref a, .int x, .int y] [] h (0, 0) Q := by
  have hs : pm_sh (g_P ys) h a = some (.inl 9) := shp_of iv ha rfl
  obtain ⟨hwb, hvb⟩ := hp.b
  have tw := nI_toInt (n := w) (by omega)
  have tv := nI_toInt (n := v) (by omega)
  have no : pm_W (g_P ys) 54 28 [.ref a, .int x, .int y] [] h (0, 0) Q := by
    refine pw_c rfl ?_
    refine ps_zret rfl rfl (Or.inl rfl) ?_
    exact k0
  refine ps_iload rfl rfl ?_
  refine ps_if rfl (fun hc => ?_) (fun hc => ?_)
  · exact no
  · have h1 : 0 ≤ x.toInt := by
      have g : ¬ x < 0 := by simpa [pm_cmp] using hc
      rw [i_lt] at g
      have e : (0 : Int32).toInt = 0 := rfl
      omega
    refine ps_iload rfl rfl ?_
    refine ps_aload rfl rfl ?_
    refine ps_gfi 9 4 rfl rfl rfl (by first | assumption | rfl) rfl ?_
    rw [hp.1]
    refine ps_icmp rfl (fun hd => ?_) (fun hd => ?_)
    · exact no
    · have h2 : x.toInt < w := by
        have g : ¬ nI w ≤ x := by simpa [pm_cmp] using hd
        rw [i_le] at g
        omega
      refine ps_iload rfl rfl ?_
      refine ps_if rfl (fun he => ?_) (fun he => ?_)
      · exact no
      · have h3 : 0 ≤ y.toInt := by
          have g : ¬ y < 0 := by simpa [pm_cmp] using he
          rw [i_lt] at g
          have e : (0 : Int32).toInt = 0 := rfl
          omega
        refine ps_iload rfl rfl ?_
        refine ps_aload rfl rfl ?_
        refine ps_gfi 9 5 rfl rfl rfl (by first | assumption | rfl) rfl ?_
        rw [hp.2.1]
        refine ps_icmp rfl (fun hf => ?_) (fun hf => ?_)
        · exact no
        · have h4 : y.toInt < v := by
            have g : ¬ nI v ≤ y := by simpa [pm_cmp] using hf
            rw [i_le] at g
            omega
          refine pw_c rfl ?_
          refine ps_goto rfl ?_
          refine ps_zret rfl rfl (Or.inr rfl) ?_
          exact k1 x.toInt.toNat y.toInt.toNat (i_nat (by omega)) (i_nat (by omega)) (by omega) (by omega)
end HZ
