/-! BY HAND: class and model beside each other, with the camera, SIDES and THE PICTURE -/
section UG
variable {I I' I1 I2 J : Nat → Nat → Int32} {L L' : Nat → Nat → Int64} {s s' : Nat → Option Nat} {Q : List Value → pm_H → Prop} {ys : List Int32} {ps m n q b b0 b1 f : Nat} {S S' : sS} {H H' : Nat → sS} {B : sB} {h h' : pm_H} {pc : sPc}
def kgF : List Nat := [22, 23, 39, 40, 41, 42, 43, 44, 45, 46, 47, 48, 49, 66, 67, 68, 69, 77]
def kgP : List (Nat × Nat × Nat) := [(36, 9, 11), (50, 39, 41)]
def kpg (a j : Nat) : Bool := kgF.elem (xtg a) || kgP.any fun k => Nat.beq k.1 (xtg a) && (Nat.ble k.2.1 j && Nat.ble j k.2.2)
def relT (W : sx_W) : Bool := W.all fun q => (!kgF.elem q.1 || decide (q.2.2 < 0)) && kgP.all fun k => !Nat.beq q.1 k.1 || (decide ((k.2.2 : Int) < q.2.1) || decide (q.2.2 < (k.2.1 : Int)))
theorem relT_o {W : sx_W} {D : Bool × Bool} (hW : relT W = true) (fr : sx_fr xtg xVP W D h h') (a j : Nat) (k : kpg a j = true) : h'.1 a j = h.1 a j := by
  refine fr.1 a j (fun z => ?_)
  obtain ⟨q, hm, e, l1, l2⟩ := z
  have w := List.all_eq_true.mp hW q hm
  rw [Bool.and_eq_true] at w
  obtain ⟨w1, w2⟩ := w
  unfold kpg at k
  rw [Bool.or_eq_true] at k
  rcases k with k | k
  · rw [e, k, decide_eq_false (by omega)] at w1
    cases w1
  · obtain ⟨p, hp, kp⟩ := List.any_eq_true.mp k
    rw [Bool.and_eq_true, Bool.and_eq_true] at kp
    have w3 := List.all_eq_true.mp w2 p hp
    have e1 : p.1 = xtg a := Nat.eq_of_beq_eq_true kp.1
    have k1 := Nat.le_of_ble_eq_true kp.2.1
    have k2 := Nat.le_of_ble_eq_true kp.2.2
    rw [e, e1, Nat.beq_refl, decide_eq_false (by omega), decide_eq_false (by omega)] at w3
    cases w3
theorem kpg_f {a t j : Nat} (e : xtg a = t) (h : kgF.elem t = true) : kpg a j = true := by
  unfold kpg
  rw [e, h]
  rfl
theorem kpg_pl (hb : isB b) {k : Nat} (hk : k < 6) : (∀ j, 9 ≤ j → j ≤ 11 → kpg (b + 17 + 4 * k) j = true) ∧ ∀ j, kpg (b + 17 + 4 * k + 3) j = true := by
  have e : xtg (b + 17 + 4 * k) = 36 ∧ xtg (b + 17 + 4 * k + 3) = 39 := by
    rcases hb with rfl | rfl <;> rcases (show k = 0 ∨ k = 1 ∨ k = 2 ∨ k = 3 ∨ k = 4 ∨ k = 5 by omega) with rfl | rfl | rfl | rfl | rfl | rfl <;> exact ⟨rfl, rfl⟩
  obtain ⟨e1, e2⟩ := e
  refine ⟨fun j h1 h2 => ?_, fun j => kpg_f e2 rfl⟩
  unfold kpg
  rw [e1]
  rcases (show j = 9 ∨ j = 10 ∨ j = 11 by omega) with rfl | rfl | rfl <;> rfl
theorem kpg_ca {a j : Nat} (h1 : 255 ≤ a) (h2 : a ≤ 264) : kpg a j = true := by
  rcases (show a = 255 ∨ a = 256 ∨ a = 257 ∨ a = 258 ∨ a = 259 ∨ a = 260 ∨ a = 261 ∨ a = 262 ∨ a = 263 ∨ a = 264 by omega) with rfl | rfl | rfl | rfl | rfl | rfl | rfl | rfl | rfl | rfl <;> exact kpg_f rfl rfl
/-- what holds between calls -/
def RX (h : pm_H) (b0 b1 : Nat) (B : sB) (H : Nat → sS) (m f : Nat) (pc : sPc) : Prop := Rw h b0 b1 ∧ okW B H m ∧ KC b0 B H m f h.1 ∧ cSds b0 B h.1 ∧ (∀ s, h.2.2.1 = g_R s → cCm b0 B s h.1) ∧ cPc pc h.1 ∧ KM B H m h.1 ∧ (∀ k, k < B.ps → mSd h.1 k (B.pl k)) ∧ mPc pc h.1
def RT (h : pm_H) : Prop := ∃ b0 b1 B H m f pc, RX h b0 b1 B H m f pc
def R8 (h : pm_H) : Prop := R4 h ∧ RT h
theorem gRx2 (e : g_R s = g_R s') : s' 2 = s 2 ∧ s' 3 = s 3 := by
  obtain ⟨_, _, _, _, _, _, _, _, _, a1, a2⟩ := cam_R (s := s) (Or.inl ⟨rfl, rfl⟩ : isC 255 2)
  obtain ⟨_, _, _, _, _, _, _, _, _, c1, c2⟩ := cam_R (s := s') (Or.inl ⟨rfl, rfl⟩ : isC 255 2)
  rw [e] at a1 a2
  exact ⟨c1.symm.trans a1, c2.symm.trans a2⟩
theorem cCm_R (h : cCm b B s I) (e : g_R s = g_R s') : cCm b B s' I := by
  obtain ⟨e2, e3⟩ := gRx2 e
  exact h.imp id (fun ⟨u, z1, z2, z3, z4, z5, z6⟩ => ⟨u, z1, z2, z3, e2.trans z4, e3.trans z5, z6⟩)
theorem RT_fr {W : sx_W} {D : Bool × Bool} (hW : (relS W = true ∧ relT W = true) ∧ D.1 = false ∧ D.2 = false) (fr : sx_fr xtg xVP W D h h') (r : RT h) : RT h' := by
  obtain ⟨b0, b1, B, H, m, f, pc, rw_, o, kc, sd, cm, cp, km, ms, mp⟩ := r
  have k := relS_o hW.1.1 fr
  have g := relT_o hW.1.2 fr
  have hb := rw_.2.1
  have eR := fr.2.2 hW.2.2
  have p6 := o.1.1
  have g7 : ∀ t a j, xtg a = t → kgF.elem t = true → h'.1 a j = h.1 a j := fun t a j e z => g a j (kpg_f e z)
  have g5 : ∀ j, 39 ≤ j → j ≤ 41 → h'.1 275 j = h.1 275 j := fun j h1 h2 => g 275 j (by rcases (show j = 39 ∨ j = 40 ∨ j = 41 by omega) with rfl | rfl | rfl <;> rfl)
  refine ⟨b0, b1, B, H, m, f, pc, Rw_fr hW.2.1 fr rw_, o, KC_k hb kc o k, fun i hi => ?_, fun s e => ?_, ?_, KM_k km o k, fun i hi => ?_, ?_⟩
  · obtain ⟨k1, k2⟩ := kpg_pl hb (k := i) (by omega)
    exact (sd i hi).imp (fun z => (g _ _ (k1 _ (by decide) (by decide))).trans z) (fun z => ⟨(g _ _ (k1 _ (by decide) (by decide))).trans z.1, fun x hx => (g _ _ (k2 x)).trans (z.2.1 x hx), (g _ _ (k1 _ (by decide) (by decide))).trans z.2.2.1, (g _ _ (k1 _ (by decide) (by decide))).trans z.2.2.2⟩)
  · exact cCm_c (cm s (eR.symm.trans e)) (fun a j z1 z2 => g a j (kpg_ca z1 z2))
  · exact ⟨(g7 22 _ _ rfl rfl).trans cp.1, (g7 22 _ _ rfl rfl).trans cp.2.1, cp.2.2.1, fun i hi => (g7 23 _ _ rfl rfl).trans (cp.2.2.2 i hi)⟩
  · refine mSd_o (ms i hi) (fun a j z => ?_)
    rcases z with rfl | rfl | rfl | rfl
    · exact g7 69 _ _ rfl rfl
    · exact g7 68 _ _ rfl rfl
    · exact g7 66 _ _ rfl rfl
    · exact g7 67 _ _ rfl rfl
  · refine mPc_o mp (fun a j z => ?_)
    rcases z with rfl | ⟨rfl, rfl | rfl | rfl⟩
    · exact g7 77 _ _ rfl rfl
    · exact g5 _ (by decide) (by decide)
    · exact g5 _ (by decide) (by decide)
    · exact g5 _ (by decide) (by decide)
theorem R8_fr {W : sx_W} {D : Bool × Bool} (hW : (rel4 W = true ∧ relS W = true ∧ relT W = true) ∧ D.1 = false ∧ D.2 = false) (fr : sx_fr xtg xVP W D h h') (r : R8 h) : R8 h' := ⟨R4_fr ⟨hW.1.1, hW.2.1⟩ fr r.1, RT_fr ⟨hW.1.2, hW.2⟩ fr r.2⟩
/-- numbers of the model's scene lie within -/
theorem iv_N (iv : sx_IV xT xtg xPH (I, L, g_R s, 306)) (hS : mSc 288 0 S I) (ok : S.ok) : okN S ∧ bkN S := by
  have nw : ∀ j : Nat, j ≤ 88 → 0 ≤ (I 288 j).toInt ∧ (I 288 j).toInt ≤ 999 := fun j hj => iv.1 288 j (.ofNat 0, .ofNat 88, .ofNat 0, .ofNat 999) (by decide) (by show (0 : Int) ≤ (j : Int); omega) (by show (j : Int) ≤ 88; omega)
  have nb : 0 ≤ (I 288 3).toInt ∧ (I 288 3).toInt ≤ 99 := iv.1 288 3 (.ofNat 3, .ofNat 3, .ofNat 0, .ofNat 99) (by decide) (by decide) (by decide)
  refine ⟨fun q hq k hk j hj => ?_, ?_⟩
  · have z := mSc_r hS hq hk hj
    have o := ok q hq
    have e : rwK q + 3 * k + j ≤ 88 := by
      rcases q3 hq with rfl | rfl | rfl
      · have o : S.n 0 ≤ 8 := o
        show 5 + 3 * k + j ≤ 88
        omega
      · have o : S.n 1 ≤ 12 := o
        show 29 + 3 * k + j ≤ 88
        omega
      · have o : S.n 2 ≤ 8 := o
        show 65 + 3 * k + j ≤ 88
        omega
    rw [← z]
    exact nw _ e
  · unfold bkN
    rw [← hS.2.1]
    exact nb
/-! questions -/
def FT (a : sB → sPc → Except Int32 Int32) (r : Int32) (h : pm_H) : Prop := ∃ b0 b1 B H m f pc, RX h b0 b1 B H m f pc ∧ r = exv (a B pc)
/-- behind a question of the class -/
theorem RX_B (x : RX (I, L, g_R s, 306) b0 b1 B H m f pc) (q : qS b0 I I') (l : lkS s s') (F : cFF b0 B s' I') (hL : ∀ j, L' 304 j = L 304 j) : RX (I', L', g_R s', 306) b0 b1 B H m f pc := by
  obtain ⟨rw_, o, kc, sd, cm, cp, km, ms, mp⟩ := x
  have hb := rw_.2.1
  have bb := isB_b hb
  have e0 : g_R s 0 6 = s 0 := rfl
  have k12 : ∀ a j, 12 ≤ a → a ≤ 171 → I' a j = I a j := fun a j z1 z2 => q a j (by omega) (by omega) (fun k _ => by omega)
  have k27 : ∀ a j, 275 ≤ a → I' a j = I a j := fun a j z1 => q a j (by omega) (by omega) (fun k hk => by omega)
  have q0 : g_R s' 0 6 = some b0 := (l 0 (by decide) (by decide) (by decide) (by decide)).trans rw_.2.2.2.2.1
  have q1 : g_R s' 0 7 = some b1 := (l 1 (by decide) (by decide) (by decide) (by decide)).trans rw_.2.2.2.2.2
  refine ⟨⟨fun j hj => (hL j).trans (rw_.1 j hj), rw_.2.1, rw_.2.2.1, rw_.2.2.2.1, q0, q1⟩, o, ⟨F.1, F.2.1, ?_⟩, F.2.2.1, fun t e => cCm_R F.2.2.2 e, ?_, KM_a km o k27, fun i hi => mSd_o (ms i hi) (fun a j z => k27 a j (by omega)), mPc_o mp (fun a j z => k27 a j (by omega))⟩
  · obtain ⟨g1, g2, g3, g4, g5⟩ := kc.2.2
    exact ⟨g1, g2, (k12 _ _ (by omega) (by omega)).trans g3, (k12 _ _ (by omega) (by omega)).trans g4, fun i hi => cSc_t (g5 i hi) (fun a j z1 z2 => k12 a j (by omega) (by omega))⟩
  · exact ⟨(k12 _ _ (by omega) (by omega)).trans cp.1, (k12 _ _ (by omega) (by omega)).trans cp.2.1, cp.2.2.1, fun i hi => (k12 _ _ (by omega) (by omega)).trans (cp.2.2.2 i hi)⟩
theorem RX_FF (x : RX (I, L, g_R s, 306) b0 b1 B H m f pc) : cFF b0 B s I := by
  obtain ⟨rw_, o, kc, sd, cm, cp, km, ms, mp⟩ := x
  exact ⟨kc.1, kc.2.1, sd, cm s rfl⟩
theorem RX_MF (iv : sx_IV xT xtg xPH (I, L, g_R s, 306)) (x : RX (I, L, g_R s, 306) b0 b1 B H m f pc) : mFF B I ∧ bkN B.S := by
  obtain ⟨rw_, o, kc, sd, cm, cp, km, ms, mp⟩ := x
  obtain ⟨n1, n2⟩ := iv_N iv km.2.1 (okW_S o)
  exact ⟨⟨km.1, km.2.1, ms, n1⟩, n2⟩
/-- behind a question of the model -/
theorem RX_M (x : RX (I, L, g_R s, 306) b0 b1 B H m f pc) (k : ∀ a j, a < 275 → I' a j = I a j) (kp : ∀ j, I' 290 j = I 290 j) (kq : I' 275 19 = I 275 19) (F : mFF B I') (mp' : mPc pc I') : RX (I', L, g_R s, 306) b0 b1 B H m f pc := by
  obtain ⟨rw_, o, kc, sd, cm, cp, km, ms, mp⟩ := x
  have hb := rw_.2.1
  have bb := isB_b hb
  refine ⟨rw_, o, KC_a kc o.1 (fun a j z => k a j (by omega)), cSds_c hb sd o.1 (fun a j z1 z2 => k a j (by omega)), fun t e => cCm_c (cm t e) (fun a j z1 z2 => k a j (by omega)), ?_, ⟨F.1, F.2.1, mHs_f km.2.2 (fun i hi => (o.2.2 i hi).1) kp kq⟩, F.2.2.1, mp'⟩
  exact ⟨(k _ _ (by decide)).trans cp.1, (k _ _ (by decide)).trans cp.2.1, cp.2.2.1, fun i hi => (k _ _ (by decide)).trans (cp.2.2.2 i hi)⟩
theorem B_gqT {k : Nat} {lv : List Value} {a : sB → sPc → Except Int32 Int32} (iv : sx_IV xT xtg xPH h) (re : RT h) (safe : pm_W (g_P ys) k 0 lv [] h (0, 0) (fun _ h' => sx_IV xT xtg xPH h' ∧ R4 h'))
    (ex : ∀ (Q : List Value → pm_H → Prop) (I : Nat → Nat → Int32) (L : Nat → Nat → Int64) (s : Nat → Option Nat) (b : Nat) (B : sB) (pc : sPc), isB b → s 0 = some b → cFF b B s I → cPc pc I → B.ok → okU B.S B.ps → (∀ r I' s', r = exv (a B pc) → qS b I I' → lkS s s' → cFF b B s' I' → Q [.int r] (I', L, g_R s', 306)) → pm_W (g_P ys) k 0 lv [] (I, L, g_R s, 306) (0, 0) Q)
    (kk : ∀ r h1, sx_IV xT xtg xPH h1 → R4 h1 ∧ FT a r h1 → Q [.int r] h1) : pm_W (g_P ys) k 0 lv [] h (0, 0) Q := by
  obtain ⟨I, L, s, rfl⟩ := x_form iv
  obtain ⟨b0, b1, B, H, m, f, pc, x⟩ := re
  have F := RX_FF x
  refine pw_imp (fun v h1 q => ?_) (pw_and safe (ex (fun v h1 => ∃ r, v = [.int r] ∧ FT a r h1) I L s b0 B pc x.1.2.1 x.1.2.2.2.2.1 F x.2.2.2.2.2.1 x.2.1.1 x.2.1.2.1 (fun r I' s' he q l f' => ⟨_, rfl, b0, b1, B, H, m, f, pc, RX_B x q l f' (fun _ => rfl), he⟩)))
  obtain ⟨⟨iv1, r4⟩, r, rfl, fa⟩ := q
  exact kk r h1 iv1 ⟨r4, fa⟩
theorem M_gqT {k : Nat} {lv : List Value} {a : sB → sPc → Except Int32 Int32} {r : Int32} {h1 : pm_H} (iv : sx_IV xT xtg xPH h1) (fa : R4 h1 ∧ FT a r h1) (safe : pm_W (g_P ys) k 0 lv [] h1 (0, 0) (fun _ h' => sx_IV xT xtg xPH h' ∧ R4 h'))
    (ex : ∀ (Q : List Value → pm_H → Prop) (I : Nat → Nat → Int32) (L : Nat → Nat → Int64) (s : Nat → Option Nat) (B : sB) (pc : sPc), mFF B I → bkN B.S → mPc pc I → sPc.ok pc → B.ok → okU B.S B.ps → (∀ r I', r = exv (a B pc) → mQg I I' → mFF B I' → Q [.int r] (I', L, g_R s, 306)) → pm_W (g_P ys) k 0 lv [] (I, L, g_R s, 306) (0, 0) Q)
    (kk : ∀ h2, sx_IV xT xtg xPH h2 → R8 h2 → Q [.int r] h2) : pm_W (g_P ys) k 0 lv [] h1 (0, 0) Q := by
  obtain ⟨I, L, s, rfl⟩ := x_form iv
  obtain ⟨r4, b0, b1, B, H, m, f, pc, x, hr⟩ := fa
  obtain ⟨F, bk⟩ := RX_MF iv x
  have mp : mPc pc I := x.2.2.2.2.2.2.2.2
  refine pw_imp (fun v h1 q => ?_) (pw_and safe (ex (fun v h1 => v = [.int r] ∧ RT h1) I L s B pc F bk mp x.2.2.2.2.2.1.2.2.1 x.2.1.1 x.2.1.2.1 (fun r' I' he q f' => ⟨by rw [he, hr], b0, b1, B, H, m, f, pc, RX_M x (fun a j z => q a j (by omega) (by omega)) (fun j => q _ _ (by decide) (by omega)) (q _ _ (by decide) (by decide)) f' (mPc_q mp q)⟩)))
  obtain ⟨⟨iv1, r4⟩, rfl, rs⟩ := q
  exact kk h1 iv1 ⟨r4, rs⟩
end UG
