/-! BY HAND: the model's calls about shadows, first (printed by wip/src/gen97zzz.py) -/
section UB
variable {I I' I1 I2 J : Nat → Nat → Int32} {L : Nat → Nat → Int64} {s : Nat → Option Nat} {Q : List Value → pm_H → Prop} {ys : List Int32} {k sh u : Nat} {ng : Bool} {P : sPl} {S : sS} {B : sB} {pc : sPc} {f g : Nat → Int32} {h : pm_H} {o : Nat}
/-- the model's bench with its scene, whatever it knows of SIDES -/
def mFF (B : sB) (I : Nat → Nat → Int32) : Prop := mBp B I ∧ mSc 288 0 B.S I ∧ (∀ k, k < B.ps → mSd I k (B.pl k)) ∧ okN B.S
/-- where the model's questions write -/
def mQg (I I' : Nat → Nat → Int32) : Prop := ∀ a j : Nat, ¬ (a = 295 ∨ a = 296 ∨ a = 297 ∨ a = 298 ∨ a = 301 ∨ a = 300 ∨ a = 294 ∨ a = 293 ∨ a = 291 ∨ a = 292) → ¬ (a = 275 ∧ (j = 1 ∨ j = 0 ∨ j = 24 ∨ j = 25 ∨ j = 26 ∨ j = 32 ∨ j = 33 ∨ j = 34 ∨ j = 36)) → I' a j = I a j
theorem mQg_r : mQg I I := fun _ _ _ _ => rfl
theorem mQg_t (h1 : mQg I I1) (h2 : mQg I1 I2) : mQg I I2 := fun a j z1 z2 => (h2 a j z1 z2).trans (h1 a j z1 z2)
theorem mQg_s {e : Int32} : mQg I (stI I e) := fun a j _ z2 => stI_o (by omega)
theorem mQg_u {e : Int32} : mQg I (pm_u I 275 0 e) := fun a j _ z2 => pu_x (by omega)
theorem mQg_us : mQg I (usI u I) := fun a j _ z2 => usI_o (by omega)
theorem mQg_sg (h : mSg k I I') : mQg I I' := fun a j z1 _ => h a j (by omega)
theorem mQg_fd (h : mFd I I') : mQg I I' := fun a j z1 z2 => h a j (by omega) (by omega)
theorem mQg_fl (h : mFl I I') : mQg I I' := fun a j z1 z2 => h a j (by omega) (by omega)
theorem mSd_o (h : mSd I k P) (c : ∀ a j, (a = 294 ∨ a = 293 ∨ a = 291 ∨ a = 292) → I' a j = I a j) : mSd I' k P := h.imp (fun z => (c _ _ (by omega)).trans z) (fun z => mSk_o z c)
theorem mFF_o (h : mFF B I) (ok : B.ok) (c : ∀ a j, (a = 278 ∨ a = 280 ∨ a = 282 ∨ a = 288 ∨ a = 294 ∨ a = 293 ∨ a = 291 ∨ a = 292 ∨ (a = 275 ∧ j = 14)) → I' a j = I a j) : mFF B I' :=
  ⟨mBp_a h.1 (fun a j z => c a j (by omega)), mSc_f h.2.1 (okB ok) (fun j => c _ _ (by omega)), fun k hk => mSd_o (h.2.2.1 k hk) (fun a j z => c a j (by omega)), h.2.2.2⟩
theorem mFF_st (h : mFF B I) (ok : B.ok) {e : Int32} : mFF B (stI I e) := mFF_o h ok (fun a j z => stI_o (by omega))
theorem mFF_su (h : mFF B I) (ok : B.ok) {e : Int32} : mFF B (pm_u I 275 0 e) := mFF_o h ok (fun a j z => pu_x (by omega))
theorem mFF_P1 (h : mFF B I) (ok : B.ok) (hk : k < B.ps) : mP1 k (B.pl k) I := ⟨mBp_P h.1 ok hk, (h.1.2 k hk).2.2⟩
theorem mFF_sg (h : mFF B I) (ok : B.ok) (hk : k < B.ps) (c : mSg k I I') (s : mSd I' k (B.pl k)) : mFF B I' :=
  ⟨mBp_a h.1 (fun a j z => c a j (by omega)), mSc_f h.2.1 (okB ok) (fun j => c _ _ (by omega)), fun l hl => by
    by_cases e : l = k
    · rw [e]
      exact s
    · refine (h.2.2.1 l hl).imp (fun z => (c _ _ (by omega)).trans z) (fun z => ⟨(c _ _ (by omega)).trans z.1, (c _ _ (by omega)).trans z.2.1, fun y => ⟨(c _ _ (by omega)).trans (z.2.2 y).1, (c _ _ (by omega)).trans (z.2.2 y).2⟩⟩), h.2.2.2⟩
theorem mFF_u (h : mFF B I) (eu : B.S.us = nI u) : I 288 4 = nI u := h.2.1.2.2.1.trans eu
theorem M_begU (hm : mFF B J) (ok : B.ok) (hu : u < B.ps) : mV u (B.pl u) B.S 0 false (usI u J) := usI_V (mFF_P1 hm ok hu) (ok_P1 ok hu).2.2.2 hm.2.1 (okB ok) hm.2.2.2
/-- behind uses and laysShadows -/
def mBg (B : sB) (u : Nat) (J I2 : Nat → Nat → Int32) : Prop := mV u (B.pl u) B.S 0 false I2 ∧ mLd (B.pl u) B.S 0 false I2 ∧ (∀ i, i < (B.pl u).w * (B.pl u).v → I2 295 i = lostF (B.pl u) B.S i) ∧ (∀ i, i < (B.pl u).w * (B.pl u).v → I2 296 i = wholF (B.pl u) B.S 0 i) ∧ (∀ i, i < (B.pl u).w * (B.pl u).v → I2 297 i = shadF (B.pl u) B.S i) ∧ mQg J I2 ∧ mFF B I2 ∧ (∀ a j, (a = 294 ∨ a = 293 ∨ a = 291 ∨ a = 292) → I2 a j = J a j)
theorem mBg_mk (hm : mFF B J) (ok : B.ok) (hu : u < B.ps) (c2 : ∀ a j, ¬ a = 295 → ¬ a = 296 → ¬ a = 297 → I2 a j = usI u J a j) (L2 : mLd (B.pl u) B.S 0 false I2) : mBg B u J I2 := by
  have V := M_begU hm ok hu
  obtain ⟨wb, vb, w0, v0, n9⟩ := mV_b V
  have h01 := V.2.2.1
  have on := hm.2.2.2
  have q : mQg J I2 := fun a j z1 z2 => (c2 a j (by omega) (by omega) (by omega)).trans (usI_o (by omega))
  refine ⟨mV_o V (mCg_r (fun a j z => c2 a j (fun e => z (by unfold mRow; omega)) (fun e => z (by unfold mRow; omega)) (fun e => z (by unfold mRow; omega)))), L2, fun i hi => (L2 i hi).1, fun i hi => (L2 i hi).2.1.trans (whM_0 h01 on w0 v0 hi), fun i hi => (L2 i hi).2.2.trans (shMM_0 h01 on w0 v0 hi), q, mFF_o hm ok (fun a j z => (c2 a j (by omega) (by omega) (by omega)).trans (usI_o (by omega))), fun a j z => (c2 a j (by omega) (by omega) (by omega)).trans (usI_o (by omega))⟩
theorem M_refuseX (e : Int32) (kk : Q [.int (-1)] (pm_u I 275 0 e, L, g_R s, 306)) : pm_W (g_P ys) 261 0 [.ref 275, .int e] [] (I, L, g_R s, 306) (0, 0) Q := by
  refine ps_aload rfl rfl ?_
  refine ps_iload rfl rfl ?_
  refine ps_pfi 11 0 rfl rfl rfl rfl rfl ?_
  refine pw_c rfl ?_
  refine ps_iret rfl rfl ?_
  exact kk
theorem hSh : ∀ I L, pm_sh (g_P ys) (I, L, g_R s, 306) 297 = some (.inr (0, 289)) := fun _ _ => rfl
theorem hWh : ∀ I L, pm_sh (g_P ys) (I, L, g_R s, 306) 296 = some (.inr (0, 289)) := fun _ _ => rfl
theorem hAs : ∀ I L, pm_sh (g_P ys) (I, L, g_R s, 306) 301 = some (.inr (0, 289)) := fun _ _ => rfl
theorem ps_u (ku : okU B.S B.ps) (hp : ¬ B.ps = 0) : ∃ u, u < B.ps ∧ B.S.us = nI u := by
  obtain ⟨u, e, h⟩ := ku
  exact ⟨u, by omega, e⟩
theorem wt_c {x y : Nat} (hx : x < P.w) : wtF P f x y = decF P f (P.w * y + x) := by
  obtain ⟨q1, q2⟩ := sq_ix (p := P.w) (x := x) (y := y) hx
  have z := wtF_dec (P := P) (f := f) (P.w * y + x)
  rw [q1, q2] at z
  exact z
theorem ce_c {x y : Nat} (hx : x < P.w) (hy : y < P.v) (hw : P.w ≤ 289) (hv : P.v ≤ 289) : cellF P (nI x) (nI y) = P.w * y + x := by
  unfold cellF
  rw [nI_toInt (by omega), nI_toInt (by omega), cxy_inn hx hy]
/-- why not, at a place -/
def wyF (B : sB) (g : Bool) (x y : Int32) : Int32 := if g = false then 1 else match plU B with
  | none => 2
  | some u => if onQ (B.pl u) x y then 0 else 2
theorem wy_1 (x y : Int32) : wyF B false x y = 1 := rfl
theorem wy_n (hp : B.ps = 0) (x y : Int32) : wyF B true x y = 2 := by
  unfold wyF
  rw [if_neg (by decide), plU_n hp]
theorem wy_u (ok : B.ok) (hu : u < B.ps) (eu : B.S.us = nI u) (x y : Int32) : wyF B true x y = if onQ (B.pl u) x y then 0 else 2 := by
  unfold wyF
  rw [if_neg (by decide), plU_s hu eu ok.1]
theorem M_whyAtX (hm : mFF B I) (ok : B.ok) (ku : okU B.S B.ps) (g : Bool) (x y : Int32) (kk : Q [.int (wyF B g x y)] (I, L, g_R s, 306)) : pm_W (g_P ys) 234 0 [.ref 275, .int (bI g), .int x, .int y] [] (I, L, g_R s, 306) (0, 0) Q := by
  have e0 : (0 : Int32).toInt = 0 := rfl
  have p6 := ok.1
  cases g with
  | false =>
    rw [wy_1] at kk
    refine ps_iload rfl rfl ?_
    refine ps_iff rfl (by decide) ?_
    refine pw_c rfl ?_
    refine ps_goto rfl ?_
    refine ps_iret rfl rfl ?_
    exact kk
  | true =>
    by_cases hp : B.ps = 0
    · rw [wy_n hp] at kk
      refine ps_iload rfl rfl ?_
      refine ps_ift rfl (by decide) ?_
      refine ps_aload rfl rfl ?_
      refine ps_gfi 11 14 rfl rfl rfl rfl rfl ?_
      rw [show ((I, L, g_R s, 306) : pm_H).1 275 14 = nI B.ps from hm.1.1]
      rw [hp]
      refine ps_ift rfl (by decide) ?_
      refine pw_c rfl ?_
      refine ps_iret rfl rfl ?_
      exact kk
    · obtain ⟨u, hu, eu⟩ := ps_u ku hp
      rw [wy_u ok hu eu] at kk
      have hP := mBp_P hm.1 ok hu
      obtain ⟨wb, vb⟩ := hP.b
      refine ps_iload rfl rfl ?_
      refine ps_ift rfl (by decide) ?_
      refine ps_aload rfl rfl ?_
      refine ps_gfi 11 14 rfl rfl rfl rfl rfl ?_
      rw [show ((I, L, g_R s, 306) : pm_H).1 275 14 = nI B.ps from hm.1.1]
      refine ps_iff rfl (decide_eq_false (fun z => by have z := (i_le _ _).mp z; rw [nI_toInt (by omega)] at z; omega)) ?_
      refine ps_aload rfl rfl ?_
      refine ps_aload rfl rfl ?_
      refine ps_gfr 11 16 rfl rfl rfl rfl rfl (rfl) ?_
      refine pw_c rfl ?_
      refine ps_iald (4) rfl rfl rfl (rfl) (by omega) ?_
      rw [show ((I, L, g_R s, 306) : pm_H).1 288 4 = nI u from mFF_u hm eu]
      refine ps_iload rfl rfl ?_
      refine ps_iload rfl rfl ?_
      refine pw_k rfl rfl rfl rfl ⟨Nat.zero_le _, Nat.zero_le _⟩ ?_
      refine M_isOn hP.1 (A := decide (0 ≤ x.toInt ∧ x.toInt < (B.pl u).w)) (B := decide (0 ≤ y.toInt ∧ y.toInt < (B.pl u).v)) (by rw [hP.2.1]; exact isOn_k (by omega) x) (by rw [hP.2.2.1]; exact isOn_k (by omega) y) ?_
      rw [← Bool.decide_and]
      by_cases on : onQ (B.pl u) x y
      · rw [if_pos on] at kk
        rw [decide_eq_true on]
        refine ps_iff rfl (by decide) ?_
        refine pw_c rfl ?_
        refine ps_goto rfl ?_
        refine ps_iret rfl rfl ?_
        exact kk
      · rw [if_neg on] at kk
        rw [decide_eq_false on]
        refine ps_ift rfl (by decide) ?_
        refine pw_c rfl ?_
        refine ps_iret rfl rfl ?_
        exact kk
theorem M_at9 (hm : mFF B I) (ok : B.ok) (ku : okU B.S B.ps) (x y w : Int32) (kk : ∀ r I', r = exv (qAt B x y w) → mQg I I' → mFF B I' → Q [.int r] (I', L, g_R s, 306)) : pm_W (g_P ys) 233 0 [.ref 275, .int x, .int y, .int w, .retAddr 0] [] (I, L, g_R s, 306) (0, 0) Q := by
  have e0 : (0 : Int32).toInt = 0 := rfl
  have p6 := ok.1
  have fin : ∀ I1 e (v : Value), mQg I I1 → mFF B I1 → ¬ e = 0 → qAt B x y w = .error e → pm_W (g_P ys) 233 47 [.ref 275, .int x, .int y, .int w, v] [.int e, .ref 275] (I1, L, g_R s, 306) (0, 0) Q := by
    intro I1 e v q1 m1 he ea
    refine pw_k rfl rfl rfl rfl ⟨Nat.zero_le _, Nat.zero_le _⟩ ?_
    refine M_is ?_
    rw [decide_eq_false he]
    refine ps_iff rfl (by decide) ?_
    refine pw_c rfl ?_
    refine ps_iret rfl rfl ?_
    exact kk _ _ (by rw [ea]; rfl) (mQg_t q1 mQg_s) (mFF_st m1 ok)
  refine ps_aload rfl rfl ?_
  refine ps_iload rfl rfl ?_
  refine ps_ar rfl rfl rfl rfl rfl ?_
  refine pw_c rfl ?_
  refine pw_c rfl ?_
  refine pw_k rfl rfl rfl rfl ⟨Nat.zero_le _, Nat.zero_le _⟩ ?_
  refine M_isIn ?_
  rw [isIn_k w 0 5 0 5 rfl rfl]
  refine ps_iload rfl rfl ?_
  refine ps_iload rfl rfl ?_
  refine pw_k rfl rfl rfl rfl ⟨Nat.zero_le _, Nat.zero_le _⟩ ?_
  refine M_whyAtX hm ok ku _ x y ?_
  by_cases hw : 0 ≤ w.toInt ∧ w.toInt ≤ 5
  · rw [decide_eq_true hw]
    by_cases hp : B.ps = 0
    · rw [wy_n hp]
      refine ps_istore rfl rfl ?_
      refine ps_aload rfl rfl ?_
      refine ps_iload rfl rfl ?_
      refine ps_ift rfl (by decide) ?_
      refine ps_iload rfl rfl ?_
      exact fin I 2 _ mQg_r hm (by decide) (by unfold qAt; rw [if_neg (fun z => z hw), plU_n hp])
    · obtain ⟨u, hu, eu⟩ := ps_u ku hp
      have ea : qAt B x y w = if ¬ onQ (B.pl u) x y then .error 2 else if w = 4 ∧ ¬ crP (B.pl u) then .error 5 else .ok (figF (B.pl u) B.S (cellF (B.pl u) x y) w) := by
        unfold qAt
        rw [if_neg (fun z => z hw), plU_s hu eu p6]
      rw [wy_u ok hu eu]
      by_cases on : onQ (B.pl u) x y
      · rw [if_neg (fun z => z on)] at ea
        rw [if_pos on]
        have go : ∀ I1, mQg I I1 → mFF B I1 → (w = 4 → crP (B.pl u) ∧ mSk I1 u (B.pl u)) → pm_W (g_P ys) 233 47 [.ref 275, .int x, .int y, .int w, .int 0] [.int 0, .ref 275] (I1, L, g_R s, 306) (0, 0) Q := by
          intro I1 q1 m1 c1
          rw [if_neg (fun z => z.2 (c1 z.1).1)] at ea
          have hm := mFF_st (e := 0) m1 ok
          have q3 : mQg I (stI I1 0) := mQg_t q1 mQg_s
          have k3 : w = 4 → mSk (stI I1 0) u (B.pl u) := fun z => mSk_o (c1 z).2 (fun a j z => stI_o (by omega))
          refine pw_k rfl rfl rfl rfl ⟨Nat.zero_le _, Nat.zero_le _⟩ ?_
          refine M_is ?_
          refine ps_ift rfl (by decide) ?_
          show pm_W _ _ _ _ _ (stI I1 0, L, g_R s, 306) _ _
          generalize stI I1 0 = J at hm q3 k3 ⊢
          refine ps_aload rfl rfl ?_
          refine ps_aload rfl rfl ?_
          refine ps_gfr 11 16 rfl rfl rfl rfl rfl (rfl) ?_
          refine pw_c rfl ?_
          refine ps_iald (4) rfl rfl rfl (rfl) (by omega) ?_
          rw [show ((J, L, g_R s, 306) : pm_H).1 288 4 = nI u from mFF_u hm eu]
          refine pw_k rfl rfl rfl rfl ⟨Nat.zero_le _, Nat.zero_le _⟩ ?_
          refine M_usesX ?_
          show pm_W _ _ _ _ _ (usI u J, L, g_R s, 306) _ _
          refine ps_aload rfl rfl ?_
          refine pw_k rfl rfl rfl rfl ⟨Nat.zero_le _, Nat.zero_le _⟩ ?_
          refine M_laysShadowsX (M_begU hm ok hu) (fun I2 c2 L2 => ?_)
          have G := mBg_mk hm ok hu c2 L2
          obtain ⟨V, Ld, lo, wh, shd, q4, m4, s4⟩ := G
          obtain ⟨wb, vb, w0, v0, n9⟩ := mV_b V
          obtain ⟨x0, hx0⟩ : ∃ z, z = x.toInt.toNat := ⟨_, rfl⟩
          obtain ⟨y0, hy0⟩ : ∃ z, z = y.toInt.toNat := ⟨_, rfl⟩
          have ex := nI_oz hx0 on.1.1
          have ey := nI_oz hy0 on.2.1
          have xl : x0 < (B.pl u).w := by omega
          have yl : y0 < (B.pl u).v := by omega
          clear hx0 hy0 on
          subst ex ey
          rw [ce_c xl yl wb vb] at ea
          have cl : (B.pl u).w * y0 + x0 < (B.pl u).w * (B.pl u).v := (row_in yl xl).1
          obtain ⟨c, hc⟩ : ∃ c, c = (B.pl u).w * y0 + x0 := ⟨_, rfl⟩
          have wc : ∀ f, wtF (B.pl u) f (x0 + 0) y0 = decF (B.pl u) f c := fun f => by rw [hc]; exact wt_c xl
          have ci : cxy (B.pl u).w (B.pl u).v (x0 : Int) (y0 : Int) = c := by rw [hc]; exact cxy_inn xl yl
          have cq1 : c % (B.pl u).w = x0 := by rw [hc]; exact (sq_ix xl).1
          have cq2 : c / (B.pl u).w = y0 := by rw [hc]; exact (sq_ix xl).2
          rw [← hc] at ea cl
          have qq := mQg_t q3 q4
          have ew : ∀ y : Int32, w.toInt = y.toInt → w = y := fun y q => (i_eq _ _).mpr q
          rcases (show w.toInt = 0 ∨ w.toInt = 1 ∨ w.toInt = 2 ∨ w.toInt = 3 ∨ w.toInt = 4 ∨ w.toInt = 5 by omega) with q | q | q | q | q | q
          · have q := ew 0 q
            subst q
            refine ps_iload rfl rfl ?_
            refine ps_brr rfl rfl rfl rfl rfl rfl ?_
            refine ps_aload rfl rfl ?_
            refine ps_gfr 11 29 rfl rfl rfl rfl rfl (rfl) ?_
            refine ps_aload rfl rfl ?_
            refine ps_iload rfl rfl ?_
            refine ps_iload rfl rfl ?_
            refine pw_k rfl rfl rfl rfl ⟨Nat.zero_le _, Nat.zero_le _⟩ ?_
            refine M_cellAtN V (by omega) (by omega) ?_
            rw [ci]
            refine ps_iald (c) rfl rfl rfl (rfl) (by omega) ?_
            rw [show ((I2, L, g_R s, 306) : pm_H).1 297 c = shadF (B.pl u) B.S c from shd c cl]
            refine ps_iret rfl rfl ?_
            exact kk _ _ (by rw [ea]; rfl) qq m4
          · have q := ew 1 q
            subst q
            refine ps_iload rfl rfl ?_
            refine ps_brr rfl rfl rfl rfl rfl rfl ?_
            refine ps_aload rfl rfl ?_
            refine ps_gfr 11 28 rfl rfl rfl rfl rfl (rfl) ?_
            refine ps_aload rfl rfl ?_
            refine ps_iload rfl rfl ?_
            refine ps_iload rfl rfl ?_
            refine pw_k rfl rfl rfl rfl ⟨Nat.zero_le _, Nat.zero_le _⟩ ?_
            refine M_cellAtN V (by omega) (by omega) ?_
            rw [ci]
            refine ps_iald (c) rfl rfl rfl (rfl) (by omega) ?_
            rw [show ((I2, L, g_R s, 306) : pm_H).1 296 c = wholF (B.pl u) B.S 0 c from wh c cl]
            refine ps_iret rfl rfl ?_
            exact kk _ _ (by rw [ea]; rfl) qq m4
          · have q := ew 2 q
            subst q
            refine ps_iload rfl rfl ?_
            refine ps_brr rfl rfl rfl rfl rfl rfl ?_
            refine ps_aload rfl rfl ?_
            refine ps_aload rfl rfl ?_
            refine ps_gfr 11 29 rfl rfl rfl rfl rfl (rfl) ?_
            refine ps_iload rfl rfl ?_
            refine ps_iload rfl rfl ?_
            refine pw_k rfl rfl rfl rfl ⟨Nat.zero_le _, Nat.zero_le _⟩ ?_
            refine M_decodedAtX V hSh shd (by omega) (by omega) ?_
            rw [wc]
            refine ps_iret rfl rfl ?_
            exact kk _ _ (by rw [ea]; rfl) qq m4
          · have q := ew 3 q
            subst q
            refine ps_iload rfl rfl ?_
            refine ps_brr rfl rfl rfl rfl rfl rfl ?_
            refine ps_aload rfl rfl ?_
            refine ps_aload rfl rfl ?_
            refine ps_gfr 11 28 rfl rfl rfl rfl rfl (rfl) ?_
            refine ps_iload rfl rfl ?_
            refine ps_iload rfl rfl ?_
            refine pw_k rfl rfl rfl rfl ⟨Nat.zero_le _, Nat.zero_le _⟩ ?_
            refine M_decodedAtX V hWh wh (by omega) (by omega) ?_
            refine ps_aload rfl rfl ?_
            refine ps_aload rfl rfl ?_
            refine ps_gfr 11 29 rfl rfl rfl rfl rfl (rfl) ?_
            refine ps_iload rfl rfl ?_
            refine ps_iload rfl rfl ?_
            refine pw_k rfl rfl rfl rfl ⟨Nat.zero_le _, Nat.zero_le _⟩ ?_
            refine M_decodedAtX V hSh shd (by omega) (by omega) ?_
            have mv := mov_eq (P := B.pl u) (S := B.S) (i := c)
            rw [cq1, cq2] at mv
            rw [show wtF (B.pl u) (shadF (B.pl u) B.S) (x0 + 0) y0 = wtF (B.pl u) (shadF (B.pl u) B.S) x0 y0 from rfl, show wtF (B.pl u) (wholF (B.pl u) B.S 0) (x0 + 0) y0 = wtF (B.pl u) (wholF (B.pl u) B.S 0) x0 y0 from rfl]
            refine ps_ar rfl rfl rfl rfl rfl ?_
            rw [mv]
            refine ps_iret rfl rfl ?_
            exact kk _ _ (by rw [ea]; rfl) qq m4
          · have q := ew 4 q
            subst q
            obtain ⟨cr, _⟩ := c1 rfl
            have k2 : mSk I2 u (B.pl u) := mSk_o (k3 rfl) s4
            refine ps_iload rfl rfl ?_
            refine ps_brr rfl rfl rfl rfl rfl rfl ?_
            refine ps_aload rfl rfl ?_
            refine ps_aload rfl rfl ?_
            refine ps_aload rfl rfl ?_
            refine ps_gfr 11 29 rfl rfl rfl rfl rfl (rfl) ?_
            refine ps_iload rfl rfl ?_
            refine ps_iload rfl rfl ?_
            refine pw_k rfl rfl rfl rfl ⟨Nat.zero_le _, Nat.zero_le _⟩ ?_
            refine M_decodedAtX V hSh shd (by omega) (by omega) ?_
            rw [wc]
            refine pw_k rfl rfl rfl rfl ⟨Nat.zero_le _, Nat.zero_le _⟩ ?_
            refine M_restoredFromX V cr k2 shd lo lost_01 _ ?_
            refine ps_iret rfl rfl ?_
            exact kk _ _ (by rw [ea]; rfl) qq m4
          · have q := ew 5 q
            subst q
            refine ps_iload rfl rfl ?_
            refine ps_brr rfl rfl rfl rfl rfl rfl ?_
            refine ps_aload rfl rfl ?_
            refine ps_iload rfl rfl ?_
            refine ps_iload rfl rfl ?_
            refine pw_k rfl rfl rfl rfl ⟨Nat.zero_le _, Nat.zero_le _⟩ ?_
            refine M_trueAtX V xl yl ?_
            rw [← hc]
            refine ps_iret rfl rfl ?_
            exact kk _ _ (by rw [ea]; rfl) qq m4
        by_cases w4 : w = 4
        · subst w4
          refine ps_istore rfl rfl ?_
          refine ps_aload rfl rfl ?_
          refine ps_iload rfl rfl ?_
          refine ps_iff rfl (by decide) ?_
          refine ps_iload rfl rfl ?_
          refine pw_c rfl ?_
          refine ps_icmpf rfl (by decide) ?_
          refine ps_aload rfl rfl ?_
          refine ps_aload rfl rfl ?_
          refine ps_gfr 11 16 rfl rfl rfl rfl rfl (rfl) ?_
          refine pw_c rfl ?_
          refine ps_iald 4 rfl rfl rfl rfl (by omega) ?_
          rw [show ((I, L, g_R s, 306) : pm_H).1 288 4 = nI u from mFF_u hm eu]
          refine pw_k rfl rfl rfl rfl ⟨Nat.zero_le _, Nat.zero_le _⟩ ?_
          refine M_canRestoreX (mFF_P1 hm ok hu) (hm.2.2.1 u hu) (fun I1 g1 s1 k1 => ?_)
          by_cases cr : crP (B.pl u)
          · rw [decide_eq_true cr]
            refine ps_ift rfl (by decide) ?_
            refine ps_iload rfl rfl ?_
            exact go I1 (mQg_sg g1) (mFF_sg hm ok hu g1 s1) (fun _ => ⟨cr, k1 cr⟩)
          · rw [decide_eq_false cr]
            refine ps_iff rfl (by decide) ?_
            refine pw_c rfl ?_
            refine ps_goto rfl ?_
            exact fin I1 5 _ (mQg_sg g1) (mFF_sg hm ok hu g1 s1) (by decide) (by rw [ea, if_pos ⟨rfl, cr⟩])
        · refine ps_istore rfl rfl ?_
          refine ps_aload rfl rfl ?_
          refine ps_iload rfl rfl ?_
          refine ps_iff rfl (by decide) ?_
          refine ps_iload rfl rfl ?_
          refine pw_c rfl ?_
          refine ps_icmpt rfl (decide_eq_true w4) ?_
          refine ps_iload rfl rfl ?_
          exact go I mQg_r hm (fun z => absurd z w4)
      · rw [if_pos on] at ea
        rw [if_neg on]
        refine ps_istore rfl rfl ?_
        refine ps_aload rfl rfl ?_
        refine ps_iload rfl rfl ?_
        refine ps_ift rfl (by decide) ?_
        refine ps_iload rfl rfl ?_
        exact fin I 2 _ mQg_r hm (by decide) ea
  · rw [decide_eq_false hw, wy_1]
    refine ps_istore rfl rfl ?_
    refine ps_aload rfl rfl ?_
    refine ps_iload rfl rfl ?_
    refine ps_ift rfl (by decide) ?_
    refine ps_iload rfl rfl ?_
    exact fin I 1 _ mQg_r hm (by decide) (by unfold qAt; rw [if_pos hw])
theorem M_whyAllX (hm : mFF B I) (ok : B.ok) (ku : okU B.S B.ps) (w : Int32) (kE : ∀ I' e, ¬ e = 0 → qAll B w = .error e → mQg I I' → mFF B I' → Q [.int e] (I', L, g_R s, 306)) (kO : ∀ I' u, u < B.ps → B.S.us = nI u → (0 ≤ w.toInt ∧ w.toInt ≤ 7) → (w = 3 → crP (B.pl u) ∧ mSk I' u (B.pl u)) → (w = 2 → ¬ hoP (B.pl u) = 0) → mQg I I' → mFF B I' → Q [.int 0] (I', L, g_R s, 306)) : pm_W (g_P ys) 252 0 [.ref 275, .int w] [] (I, L, g_R s, 306) (0, 0) Q := by
  have p6 := ok.1
  refine ps_iload rfl rfl ?_
  refine ps_ar rfl rfl rfl rfl rfl ?_
  refine pw_c rfl ?_
  refine pw_c rfl ?_
  refine pw_k rfl rfl rfl rfl ⟨Nat.zero_le _, Nat.zero_le _⟩ ?_
  refine M_isIn ?_
  rw [isIn_k w 0 7 0 7 rfl rfl]
  by_cases hw : 0 ≤ w.toInt ∧ w.toInt ≤ 7
  · rw [decide_eq_true hw]
    refine ps_ift rfl (by decide) ?_
    refine ps_aload rfl rfl ?_
    refine ps_gfi 11 14 rfl rfl rfl rfl rfl ?_
    rw [show ((I, L, g_R s, 306) : pm_H).1 275 14 = nI B.ps from hm.1.1]
    by_cases hp : B.ps = 0
    · rw [hp]
      refine ps_iff rfl (by decide) ?_
      refine pw_c rfl ?_
      refine ps_iret rfl rfl ?_
      exact kE I 2 (by decide) (by unfold qAll; rw [if_neg (fun z => z hw), plU_n hp]) mQg_r hm
    · obtain ⟨u, hu, eu⟩ := ps_u ku hp
      have hP := mBp_P hm.1 ok hu
      have P1 := mFF_P1 hm ok hu
      have ea : qAll B w = if w = 3 ∧ ¬ crP (B.pl u) then .error 5 else if w = 2 ∧ hoP (B.pl u) = 0 then .error 5 else .ok (figA (B.pl u) B.S w) := by
        unfold qAll
        rw [if_neg (fun z => z hw), plU_s hu eu p6]
      refine ps_ift rfl (decide_eq_true (nI_nz (by omega) (by omega))) ?_
      by_cases w2 : w = 2
      · subst w2
        have hh : suI (fun c => I 280 (289 * u + c)) ((B.pl u).w * (B.pl u).v) = hoP (B.pl u) := suI_congr (fun c hc => (P1.2 c hc).1)
        refine ps_iload rfl rfl ?_
        refine pw_c rfl ?_
        refine ps_icmpf rfl (by decide) ?_
        refine ps_aload rfl rfl ?_
        refine ps_aload rfl rfl ?_
        refine ps_gfr 11 16 rfl rfl rfl rfl rfl (rfl) ?_
        refine pw_c rfl ?_
        refine ps_iald 4 rfl rfl rfl rfl (by omega) ?_
        rw [show ((I, L, g_R s, 306) : pm_H).1 288 4 = nI u from mFF_u hm eu]
        refine pw_k rfl rfl rfl rfl ⟨Nat.zero_le _, Nat.zero_le _⟩ ?_
        refine M_holesOf hP.1 hP.2.1 hP.2.2.1 hP.2.2.2.2.2 ?_
        rw [hh]
        by_cases h0 : hoP (B.pl u) = 0
        · refine ps_ift rfl (decide_eq_true h0) ?_
          refine pw_c rfl ?_
          refine ps_goto rfl ?_
          refine ps_iret rfl rfl ?_
          exact kE I 5 (by decide) (by rw [ea, if_neg (fun z => absurd z.1 (by decide)), if_pos ⟨rfl, h0⟩]) mQg_r hm
        · refine ps_iff rfl (decide_eq_false h0) ?_
          refine ps_iload rfl rfl ?_
          refine pw_c rfl ?_
          refine ps_icmpt rfl (by decide) ?_
          refine pw_c rfl ?_
          refine ps_iret rfl rfl ?_
          exact kO I u hu eu hw (fun z => absurd z (by decide)) (fun _ => h0) mQg_r hm
      · by_cases w3 : w = 3
        · subst w3
          refine ps_iload rfl rfl ?_
          refine pw_c rfl ?_
          refine ps_icmpt rfl (by decide) ?_
          refine ps_iload rfl rfl ?_
          refine pw_c rfl ?_
          refine ps_icmpf rfl (by decide) ?_
          refine ps_aload rfl rfl ?_
          refine ps_aload rfl rfl ?_
          refine ps_gfr 11 16 rfl rfl rfl rfl rfl (rfl) ?_
          refine pw_c rfl ?_
          refine ps_iald 4 rfl rfl rfl rfl (by omega) ?_
          rw [show ((I, L, g_R s, 306) : pm_H).1 288 4 = nI u from mFF_u hm eu]
          refine pw_k rfl rfl rfl rfl ⟨Nat.zero_le _, Nat.zero_le _⟩ ?_
          refine M_canRestoreX P1 (hm.2.2.1 u hu) (fun I1 g1 s1 k1 => ?_)
          by_cases cr : crP (B.pl u)
          · rw [decide_eq_true cr]
            refine ps_ift rfl (by decide) ?_
            refine pw_c rfl ?_
            refine ps_iret rfl rfl ?_
            exact kO I1 u hu eu hw (fun _ => ⟨cr, k1 cr⟩) (fun z => absurd z (by decide)) (mQg_sg g1) (mFF_sg hm ok hu g1 s1)
          · rw [decide_eq_false cr]
            refine ps_iff rfl (by decide) ?_
            refine pw_c rfl ?_
            refine ps_goto rfl ?_
            refine ps_iret rfl rfl ?_
            exact kE I1 5 (by decide) (by rw [ea, if_pos ⟨rfl, cr⟩]) (mQg_sg g1) (mFF_sg hm ok hu g1 s1)
        · refine ps_iload rfl rfl ?_
          refine pw_c rfl ?_
          refine ps_icmpt rfl (decide_eq_true w2) ?_
          refine ps_iload rfl rfl ?_
          refine pw_c rfl ?_
          refine ps_icmpt rfl (decide_eq_true w3) ?_
          refine pw_c rfl ?_
          refine ps_iret rfl rfl ?_
          exact kO I u hu eu hw (fun z => absurd z w3) (fun z => absurd z w2) mQg_r hm
  · rw [decide_eq_false hw]
    refine ps_iff rfl (by decide) ?_
    refine pw_c rfl ?_
    refine ps_iret rfl rfl ?_
    exact kE I 1 (by decide) (by unfold qAll; rw [if_pos hw]) mQg_r hm
theorem M_movedX (hV : mV k P S 0 false I) (wh : ∀ i, i < P.w * P.v → I 296 i = wholF P S 0 i) (shd : ∀ i, i < P.w * P.v → I 297 i = shadF P S i) (g : Bool) (kk : Q [.int (if g = true then fxF (movF P S) (P.w * P.v) else nzF (movF P S) (P.w * P.v))] (I, L, g_R s, 306)) : pm_W (g_P ys) 256 0 [.ref 275, .int (bI g), .retAddr 0, .retAddr 0, .retAddr 0, .retAddr 0] [] (I, L, g_R s, 306) (0, 0) Q := by
  obtain ⟨wb, vb, w0, v0, n9⟩ := mV_b hV
  have main : ∀ d c, c + d = P.w * P.v → ∀ u5 : Value, pm_W (g_P ys) 256 7 [.ref 275, .int (bI g), .int (nzF (movF P S) c), .int (fxF (movF P S) c), .int (nI c), u5] [] (I, L, g_R s, 306) (0, 0) Q := by
    intro d
    induction d with
    | zero =>
      intro c hc u5
      have ec : c = P.w * P.v := by omega
      subst ec
      refine ps_iload rfl rfl ?_
      refine ps_aload rfl rfl ?_
      refine pw_k rfl rfl rfl rfl ⟨Nat.zero_le _, Nat.zero_le _⟩ ?_
      refine M_cells0X hV ?_
      refine ps_icmpt rfl (decide_eq_true (nI_le (by omega) (by omega))) ?_
      refine ps_iload rfl rfl ?_
      cases g with
      | false =>
        rw [if_neg (by decide)] at kk
        refine ps_ift rfl (by decide) ?_
        refine ps_iload rfl rfl ?_
        refine ps_iret rfl rfl ?_
        exact kk
      | true =>
        rw [if_pos rfl] at kk
        refine ps_iff rfl (by decide) ?_
        refine ps_iload rfl rfl ?_
        refine ps_goto rfl ?_
        refine ps_iret rfl rfl ?_
        exact kk
    | succ d ih =>
      intro c hc u5
      have l1 : c % P.w ≤ c := Nat.mod_le _ _
      have l2 : c / P.w ≤ c := Nat.div_le_self _ _
      refine ps_iload rfl rfl ?_
      refine ps_aload rfl rfl ?_
      refine pw_k rfl rfl rfl rfl ⟨Nat.zero_le _, Nat.zero_le _⟩ ?_
      refine M_cells0X hV ?_
      refine ps_icmpf rfl (decide_eq_false (nI_ge (by omega) (by omega))) ?_
      refine ps_aload rfl rfl ?_
      refine ps_aload rfl rfl ?_
      refine ps_gfr 11 28 rfl rfl rfl rfl rfl (rfl) ?_
      refine ps_iload rfl rfl ?_
      refine ps_aload rfl rfl ?_
      refine pw_k rfl rfl rfl rfl ⟨Nat.zero_le _, Nat.zero_le _⟩ ?_
      refine M_wideX hV ?_
      refine ps_rem rfl (nI_nz w0 (by omega)) ?_
      rw [nI_rem (by omega) w0 (by omega)]
      refine ps_iload rfl rfl ?_
      refine ps_aload rfl rfl ?_
      refine pw_k rfl rfl rfl rfl ⟨Nat.zero_le _, Nat.zero_le _⟩ ?_
      refine M_wideX hV ?_
      refine ps_div rfl (nI_nz w0 (by omega)) ?_
      rw [nI_div (by omega) (by omega)]
      refine pw_k rfl rfl rfl rfl ⟨Nat.zero_le _, Nat.zero_le _⟩ ?_
      refine M_decodedAtX hV hWh wh (by omega) (by omega) ?_
      refine ps_aload rfl rfl ?_
      refine ps_aload rfl rfl ?_
      refine ps_gfr 11 29 rfl rfl rfl rfl rfl (rfl) ?_
      refine ps_iload rfl rfl ?_
      refine ps_aload rfl rfl ?_
      refine pw_k rfl rfl rfl rfl ⟨Nat.zero_le _, Nat.zero_le _⟩ ?_
      refine M_wideX hV ?_
      refine ps_rem rfl (nI_nz w0 (by omega)) ?_
      rw [nI_rem (by omega) w0 (by omega)]
      refine ps_iload rfl rfl ?_
      refine ps_aload rfl rfl ?_
      refine pw_k rfl rfl rfl rfl ⟨Nat.zero_le _, Nat.zero_le _⟩ ?_
      refine M_wideX hV ?_
      refine ps_div rfl (nI_nz w0 (by omega)) ?_
      rw [nI_div (by omega) (by omega)]
      refine pw_k rfl rfl rfl rfl ⟨Nat.zero_le _, Nat.zero_le _⟩ ?_
      refine M_decodedAtX hV hSh shd (by omega) (by omega) ?_
      show pm_W _ _ _ _ (.int (wtF P (shadF P S) (c % P.w) (c / P.w)) :: .int (wtF P (wholF P S 0) (c % P.w) (c / P.w)) :: _) _ _ _
      refine ps_ar rfl rfl rfl rfl rfl ?_
      rw [mov_eq]
      have z1 : ∀ u5, pm_W (g_P ys) 256 7 [.ref 275, .int (bI g), .int (nzF (movF P S) c + (if movF P S c = 0 then 0 else 1)), .int (if fxF (movF P S) c < absI (movF P S c) then absI (movF P S c) else fxF (movF P S) c), .int (nI (c + 1)), u5] [] (I, L, g_R s, 306) (0, 0) Q := ih (c + 1) (by omega)
      rw [← fx_m (fxF_nn c)] at z1
      generalize movF P S c = x at z1 ⊢
      have nx : ∀ y m : Int32, y = nzF (movF P S) c + (if x = 0 then 0 else 1) → m = (if fxF (movF P S) c < x then x else if fxF (movF P S) c < -x then -x else fxF (movF P S) c) → pm_W (g_P ys) 256 101 [.ref 275, .int (bI g), .int y, .int (fxF (movF P S) c), .int (nI c), .int x] [.int m] (I, L, g_R s, 306) (0, 0) Q := by
        intro y m hy hm
        subst hy hm
        refine ps_istore rfl rfl ?_
        refine ps_iinc rfl rfl ?_
        refine ps_goto rfl ?_
        rw [show nI c + Int32.ofInt 1 = nI (c + 1) from nI_1 c]
        exact z1 _
      have n2 : ∀ y : Int32, y = nzF (movF P S) c + (if x = 0 then 0 else 1) → pm_W (g_P ys) 256 76 [.ref 275, .int (bI g), .int y, .int (fxF (movF P S) c), .int (nI c), .int x] [] (I, L, g_R s, 306) (0, 0) Q := by
        intro y hy
        by_cases b1 : fxF (movF P S) c < x
        · refine ps_iload rfl rfl ?_
          refine ps_iload rfl rfl ?_
          refine ps_icmpf rfl (decide_eq_false (fun z => by have z := (i_le _ _).mp z; have y := (i_lt _ _).mp b1; omega)) ?_
          refine ps_iload rfl rfl ?_
          refine ps_goto rfl ?_
          exact nx _ _ hy (by rw [if_pos b1])
        · by_cases b2 : fxF (movF P S) c < -x
          · refine ps_iload rfl rfl ?_
            refine ps_iload rfl rfl ?_
            refine ps_icmpt rfl (decide_eq_true ((i_le _ _).mpr (by have : ¬ (fxF (movF P S) c).toInt < x.toInt := fun q => b1 ((i_lt _ _).mpr q); omega))) ?_
            refine ps_iload rfl rfl ?_
            refine ps_ar rfl rfl rfl rfl rfl ?_
            refine ps_iload rfl rfl ?_
            refine ps_icmpf rfl (decide_eq_false (fun z => by have z := (i_le _ _).mp z; have y := (i_lt _ _).mp b2; omega)) ?_
            refine ps_iload rfl rfl ?_
            refine ps_ar rfl rfl rfl rfl rfl ?_
            refine ps_goto rfl ?_
            exact nx _ _ hy (by rw [if_neg b1, if_pos b2])
          · refine ps_iload rfl rfl ?_
            refine ps_iload rfl rfl ?_
            refine ps_icmpt rfl (decide_eq_true ((i_le _ _).mpr (by have : ¬ (fxF (movF P S) c).toInt < x.toInt := fun q => b1 ((i_lt _ _).mpr q); omega))) ?_
            refine ps_iload rfl rfl ?_
            refine ps_ar rfl rfl rfl rfl rfl ?_
            refine ps_iload rfl rfl ?_
            refine ps_icmpt rfl (decide_eq_true ((i_le _ _).mpr (by have : ¬ (fxF (movF P S) c).toInt < (-x).toInt := fun q => b2 ((i_lt _ _).mpr q); omega))) ?_
            refine ps_iload rfl rfl ?_
            exact nx _ _ hy (by rw [if_neg b1, if_neg b2])
      by_cases x0 : x = 0
      · refine ps_istore rfl rfl ?_
        refine ps_iload rfl rfl ?_
        refine ps_iload rfl rfl ?_
        refine ps_iff rfl (decide_eq_false (fun z => z x0)) ?_
        refine pw_c rfl ?_
        refine ps_goto rfl ?_
        refine ps_ar rfl rfl rfl rfl rfl ?_
        refine ps_istore rfl rfl ?_
        exact n2 _ (by rw [if_pos x0])
      · refine ps_istore rfl rfl ?_
        refine ps_iload rfl rfl ?_
        refine ps_iload rfl rfl ?_
        refine ps_ift rfl (decide_eq_true x0) ?_
        refine pw_c rfl ?_
        refine ps_ar rfl rfl rfl rfl rfl ?_
        refine ps_istore rfl rfl ?_
        exact n2 _ (by rw [if_neg x0])
  refine pw_c rfl ?_
  refine ps_istore rfl rfl ?_
  refine pw_c rfl ?_
  refine ps_istore rfl rfl ?_
  refine pw_c rfl ?_
  refine ps_istore rfl rfl ?_
  exact main (P.w * P.v) 0 (by omega) _
theorem ho_nn (h01 : p01 P) (n9 : P.w * P.v ≤ 289) : 0 ≤ (hoP P).toInt := (suI_bd (f := P.ho) (fun c hc => by rcases h01 c hc with e | e <;> rw [e] <;> decide) (by omega)).1
theorem M_all9 (hm : mFF B I) (ok : B.ok) (ku : okU B.S B.ps) (w : Int32) (kk : ∀ r I', r = exv (qAll B w) → mQg I I' → mFF B I' → Q [.int r] (I', L, g_R s, 306)) : pm_W (g_P ys) 251 0 [.ref 275, .int w] [] (I, L, g_R s, 306) (0, 0) Q := by
  have e0 : (0 : Int32).toInt = 0 := rfl
  have p6 := ok.1
  refine ps_aload rfl rfl ?_
  refine ps_aload rfl rfl ?_
  refine ps_iload rfl rfl ?_
  refine pw_k rfl rfl rfl rfl ⟨Nat.zero_le _, Nat.zero_le _⟩ ?_
  refine M_whyAllX hm ok ku w (fun I1 e he ea q1 m1 => ?_) (fun I1 u hu eu hw c3 c2' q1 m1 => ?_)
  · refine pw_k rfl rfl rfl rfl ⟨Nat.zero_le _, Nat.zero_le _⟩ ?_
    refine M_is ?_
    rw [decide_eq_false he]
    refine ps_iff rfl (by decide) ?_
    refine pw_c rfl ?_
    refine ps_iret rfl rfl ?_
    exact kk _ _ (by rw [ea]; rfl) (mQg_t q1 mQg_s) (mFF_st m1 ok)
  · have ea : qAll B w = .ok (figA (B.pl u) B.S w) := by
      unfold qAll
      rw [if_neg (fun z => z hw), plU_s hu eu p6]
      show (if w = 3 ∧ ¬ crP (B.pl u) then (.error 5 : Except Int32 Int32) else if w = 2 ∧ hoP (B.pl u) = 0 then .error 5 else .ok (figA (B.pl u) B.S w)) = _
      rw [if_neg (fun z => z.2 (c3 z.1).1), if_neg (fun z => c2' z.1 z.2)]
    have hm := mFF_st (e := 0) m1 ok
    have q3 : mQg I (stI I1 0) := mQg_t q1 mQg_s
    have k3 : w = 3 → mSk (stI I1 0) u (B.pl u) := fun z => mSk_o (c3 z).2 (fun a j z => stI_o (by omega))
    refine pw_k rfl rfl rfl rfl ⟨Nat.zero_le _, Nat.zero_le _⟩ ?_
    refine M_is ?_
    refine ps_ift rfl (by decide) ?_
    show pm_W _ _ _ _ _ (stI I1 0, L, g_R s, 306) _ _
    generalize stI I1 0 = J at hm q3 k3 ⊢
    refine ps_aload rfl rfl ?_
    refine ps_aload rfl rfl ?_
    refine ps_gfr 11 16 rfl rfl rfl rfl rfl (rfl) ?_
    refine pw_c rfl ?_
    refine ps_iald (4) rfl rfl rfl (rfl) (by omega) ?_
    rw [show ((J, L, g_R s, 306) : pm_H).1 288 4 = nI u from mFF_u hm eu]
    refine pw_k rfl rfl rfl rfl ⟨Nat.zero_le _, Nat.zero_le _⟩ ?_
    refine M_usesX ?_
    show pm_W _ _ _ _ _ (usI u J, L, g_R s, 306) _ _
    refine ps_aload rfl rfl ?_
    refine pw_k rfl rfl rfl rfl ⟨Nat.zero_le _, Nat.zero_le _⟩ ?_
    refine M_laysShadowsX (M_begU hm ok hu) (fun I2 c2 L2 => ?_)
    have G := mBg_mk hm ok hu c2 L2
    obtain ⟨V, Ld, lo, wh, shd, q4, m4, s4⟩ := G
    obtain ⟨wb, vb, w0, v0, n9⟩ := mV_b V
    have qq := mQg_t q3 q4
    have ew : ∀ y : Int32, w.toInt = y.toInt → w = y := fun y q => (i_eq _ _).mpr q
    have pf : ∀ f : Nat → Int32, suI (fun i => if false = false ∨ lostF (B.pl u) B.S i = 1 then f i else 0) ((B.pl u).w * (B.pl u).v) = suI f ((B.pl u).w * (B.pl u).v) := fun f => suI_congr (fun i _ => if_pos (Or.inl rfl))
    rcases (show w.toInt = 0 ∨ w.toInt = 1 ∨ w.toInt = 2 ∨ w.toInt = 3 ∨ w.toInt = 4 ∨ w.toInt = 5 ∨ w.toInt = 6 ∨ w.toInt = 7 by omega) with q | q | q | q | q | q | q | q
    · have q := ew 0 q
      subst q
      refine ps_iload rfl rfl ?_
      refine ps_brr rfl rfl rfl rfl rfl rfl ?_
      refine ps_aload rfl rfl ?_
      refine ps_aload rfl rfl ?_
      refine ps_gfr 11 29 rfl rfl rfl rfl rfl (rfl) ?_
      refine pw_c rfl ?_
      refine pw_k rfl rfl rfl rfl ⟨Nat.zero_le _, Nat.zero_le _⟩ ?_
      refine M_sumOfX V hSh shd lo lost_01 false ?_
      rw [pf]
      refine ps_iret rfl rfl ?_
      exact kk _ _ (by rw [ea]; rfl) qq m4
    · have q := ew 1 q
      subst q
      refine ps_iload rfl rfl ?_
      refine ps_brr rfl rfl rfl rfl rfl rfl ?_
      refine ps_aload rfl rfl ?_
      refine pw_k rfl rfl rfl rfl ⟨Nat.zero_le _, Nat.zero_le _⟩ ?_
      refine M_lightX V shd lo lost_01 ?_
      refine ps_iret rfl rfl ?_
      exact kk _ _ (by rw [ea]; rfl) qq m4
    · have q := ew 2 q
      subst q
      have h0 := c2' rfl
      have hn := ho_nn (P := B.pl u) V.2.2.1 n9
      have hp : 0 < (hoP (B.pl u)).toInt := by
        have : ¬ (hoP (B.pl u)).toInt = (0 : Int32).toInt := fun z => h0 ((i_eq _ _).mpr z)
        omega
      refine ps_iload rfl rfl ?_
      refine ps_brr rfl rfl rfl rfl rfl rfl ?_
      refine ps_aload rfl rfl ?_
      refine pw_k rfl rfl rfl rfl ⟨Nat.zero_le _, Nat.zero_le _⟩ ?_
      refine M_lightX V shd lo lost_01 ?_
      refine ps_aload rfl rfl ?_
      refine ps_aload rfl rfl ?_
      refine ps_gfi 11 24 rfl rfl rfl rfl rfl ?_
      rw [show ((I2, L, g_R s, 306) : pm_H).1 275 24 = nI u from V.2.2.2.2.2.2.1]
      refine pw_k rfl rfl rfl rfl ⟨Nat.zero_le _, Nat.zero_le _⟩ ?_
      refine M_holesOf V.1.1 V.1.2.1 V.1.2.2.1 n9 ?_
      rw [hoP_m V]
      refine pw_k rfl rfl rfl rfl ⟨Nat.zero_le _, Nat.zero_le _⟩ ?_
      refine M_downByX _ _ h0 ?_
      refine ps_iret rfl rfl ?_
      refine kk _ _ ?_ qq m4
      rw [ea]
      show fdI (liS (B.pl u) B.S) (hoP (B.pl u)) = lbF (B.pl u) (liS (B.pl u) B.S)
      unfold lbF
      rw [if_pos hp]
    · have q := ew 3 q
      subst q
      have k2 : mSk I2 u (B.pl u) := mSk_o (k3 rfl) s4
      refine ps_iload rfl rfl ?_
      refine ps_brr rfl rfl rfl rfl rfl rfl ?_
      refine ps_aload rfl rfl ?_
      refine pw_k rfl rfl rfl rfl ⟨Nat.zero_le _, Nat.zero_le _⟩ ?_
      refine M_errorNowX V (c3 rfl).1 k2 shd lo lost_01 (fun I3 c5 => ?_)
      refine ps_iret rfl rfl ?_
      exact kk _ _ (by rw [ea]; rfl) (mQg_t qq (fun a j z1 _ => c5 a j (by omega))) (mFF_o m4 ok (fun a j z => c5 a j (by omega)))
    · have q := ew 4 q
      subst q
      refine ps_iload rfl rfl ?_
      refine ps_brr rfl rfl rfl rfl rfl rfl ?_
      refine ps_aload rfl rfl ?_
      refine pw_k rfl rfl rfl rfl ⟨Nat.zero_le _, Nat.zero_le _⟩ ?_
      refine M_lostCellsX V lo lost_01 ?_
      refine ps_iret rfl rfl ?_
      exact kk _ _ (by rw [ea]; rfl) qq m4
    · have q := ew 5 q
      subst q
      refine ps_iload rfl rfl ?_
      refine ps_brr rfl rfl rfl rfl rfl rfl ?_
      refine ps_aload rfl rfl ?_
      refine pw_c rfl ?_
      refine pw_k rfl rfl rfl rfl ⟨Nat.zero_le _, Nat.zero_le _⟩ ?_
      refine M_movedX V wh shd false ?_
      refine ps_iret rfl rfl ?_
      exact kk _ _ (by rw [ea]; rfl) qq m4
    · have q := ew 6 q
      subst q
      refine ps_iload rfl rfl ?_
      refine ps_brr rfl rfl rfl rfl rfl rfl ?_
      refine ps_aload rfl rfl ?_
      refine pw_c rfl ?_
      refine pw_k rfl rfl rfl rfl ⟨Nat.zero_le _, Nat.zero_le _⟩ ?_
      refine M_movedX V wh shd true ?_
      refine ps_iret rfl rfl ?_
      exact kk _ _ (by rw [ea]; rfl) qq m4
    · have q := ew 7 q
      subst q
      refine ps_iload rfl rfl ?_
      refine ps_brr rfl rfl rfl rfl rfl rfl ?_
      refine ps_aload rfl rfl ?_
      refine ps_aload rfl rfl ?_
      refine ps_gfr 11 28 rfl rfl rfl rfl rfl (rfl) ?_
      refine pw_c rfl ?_
      refine pw_k rfl rfl rfl rfl ⟨Nat.zero_le _, Nat.zero_le _⟩ ?_
      refine M_sumOfX V hWh wh lo lost_01 true ?_
      rw [show suI (fun i => if true = false ∨ lostF (B.pl u) B.S i = 1 then wholF (B.pl u) B.S 0 i else 0) ((B.pl u).w * (B.pl u).v) = suI (wholF (B.pl u) B.S 0) ((B.pl u).w * (B.pl u).v) - suI (shadF (B.pl u) B.S) ((B.pl u).w * (B.pl u).v) from by
        rw [← suI_sub]
        refine suI_congr (fun i _ => ?_)
        unfold shadF
        by_cases e1 : lostF (B.pl u) B.S i = 1
        · rw [if_pos (Or.inr e1), if_pos e1, Int32.sub_zero]
        · rw [if_neg (fun z => z.elim (by decide) e1), if_neg e1, Int32.sub_self]]
      refine ps_iret rfl rfl ?_
      exact kk _ _ (by rw [ea]; rfl) qq m4
end UB
