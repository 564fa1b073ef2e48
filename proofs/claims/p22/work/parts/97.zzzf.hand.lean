/-! BY HAND: ACTS, load, THE PICTURE beside each other, with the camera -/
section UH
variable {I I' I1 I2 J : Nat → Nat → Int32} {L L' : Nat → Nat → Int64} {s s' : Nat → Option Nat} {Q : List Value → pm_H → Prop} {ys : List Int32} {ps m n q b b0 b1 f : Nat} {S S' : sS} {H H' : Nat → sS} {B : sB} {h h' : pm_H} {pc : sPc}
/-- what the class's part of the relation says, its camera apart -/
def CX (h : pm_H) (b0 b1 : Nat) (B : sB) (H : Nat → sS) (m f : Nat) : Prop := KC b0 B H m f h.1 ∧ cSds b0 B h.1 ∧ ∀ s, h.2.2.1 = g_R s → cCm b0 B s h.1
def MX (h : pm_H) (B : sB) (H : Nat → sS) (m : Nat) (pc : sPc) : Prop := KM B H m h.1 ∧ (∀ k, k < B.ps → mSd h.1 k (B.pl k)) ∧ mPc pc h.1
theorem RX_i (r : Rw h b0 b1) (o : okW B H m) (c : CX h b0 b1 B H m f) (p : cPc pc h.1) (x : MX h B H m pc) : RX h b0 b1 B H m f pc := ⟨r, o, c.1, c.2.1, c.2.2, p, x.1, x.2.1, x.2.2⟩
theorem CX_k (hb : isB b0) (c : CX (I, L, g_R s, 306) b0 b1 B H m f) (ok : B.ok) (k : ∀ a j, (b0 ≤ a ∧ a ≤ b0 + 40) ∨ (12 ≤ a ∧ a ≤ 169) ∨ (255 ≤ a ∧ a ≤ 264) → I' a j = I a j) : CX (I', L', g_R s, 306) b0 b1 B H m f :=
  ⟨KC_a c.1 ok (fun a j z => k a j (by omega)), cSds_c hb c.2.1 ok (fun a j z1 z2 => k a j (by omega)), fun t e => cCm_c (c.2.2 t e) (fun a j z1 z2 => k a j (by omega))⟩
theorem MX_k (x : MX (I, L, g_R s, 306) B H m pc) (o : okW B H m) (k : ∀ a j, 275 ≤ a → I' a j = I a j) : MX (I', L', g_R s', 306) B H m pc := ⟨KM_a x.1 o k, fun i hi => mSd_o (x.2.1 i hi) (fun a j z => k a j (by omega)), mPc_o x.2.2 (fun a j z => k a j (by omega))⟩
theorem MX_s (x : MX (I, L, g_R s, 306) B H m pc) (o : okW B H m) {e : Int32} : MX (stI I e, L, g_R s, 306) B H m pc := ⟨⟨mBp_st x.1.1, st_S x.1.2.1 (okW_S o), st_H x.1.2.2 (fun i hi => (o.2.2 i hi).1)⟩, fun i hi => mSd_o (x.2.1 i hi) (fun a j z => stI_o (by omega)), mPc_o x.2.2 (fun a j z => stI_o (by omega))⟩
theorem cPc_k (c : cPc pc I) (k : ∀ a j, 170 ≤ a → a ≤ 171 → I' a j = I a j) : cPc pc I' := ⟨(k _ _ (by omega) (by omega)).trans c.1, (k _ _ (by omega) (by omega)).trans c.2.1, c.2.2.1, fun i hi => (k _ _ (by omega) (by omega)).trans (c.2.2.2 i hi)⟩
theorem RX_C (x : RX h b0 b1 B H m f pc) : CX h b0 b1 B H m f := ⟨x.2.2.1, x.2.2.2.1, x.2.2.2.2.1⟩
theorem RX_X (x : RX h b0 b1 B H m f pc) : MX h B H m pc := ⟨x.2.2.2.2.2.2.1, x.2.2.2.2.2.2.2.1, x.2.2.2.2.2.2.2.2⟩
/-- the camera is not aimed: the class behind an ACT -/
theorem CX_a (hb : isB b0) (c : cBq b0 B I) (ok : B.ok) (sd : cSds b0 B I) {B' : sB} (e1 : B'.ps = B.ps) (e2 : B'.pl = B.pl) (kc : cBq b0 B' I' ∧ cSc (b0 + 2) B'.S I' ∧ cHs H' n f I') (k : ∀ a j, b0 ≤ a → a ≤ b0 + 40 → ¬ (b0 + 2 ≤ a ∧ a ≤ b0 + 14) → I' a j = I a j) (na : I' 255 15 = 0) : CX (I', L', g_R s', 306) b0 b1 B' H' n f := by
  refine ⟨kc, fun i hi => ?_, fun t _ => Or.inl na⟩
  have p6 := ok.1
  rw [e1] at hi
  rw [e2]
  exact cSd_o (sd i hi) (fun j => k _ _ (by omega) (by omega) (by omega)) (fun j => k _ _ (by omega) (by omega) (by omega))
/-- behind the class's ACT -/
def FA8 (a : sS → Nat → Except Int32 (Int32 × sS)) (r : Int32) (h1 : pm_H) : Prop := ∃ b0 b1 B H m f pc, Rw h1 b0 b1 ∧ okW B H m ∧ cPc pc h1.1 ∧ MX h1 B H m pc ∧ ((∃ e, a B.S B.ps = .error e ∧ r = -1 ∧ CX h1 b0 b1 B H m f) ∨ ∃ S', a B.S B.ps = .ok (r, S') ∧ okW (B.wS S') (psh H m B.S) (rmM m) ∧ CX h1 b0 b1 (B.wS S') (psh H m B.S) (rmM m) f)
theorem B_gen8 {k : Nat} {lv : List Value} {a : sS → Nat → Except Int32 (Int32 × sS)} (iv : sx_IV xT xtg xPH h) (re : RT h) (safe : pm_W (g_P ys) k 0 lv [] h (0, 0) (fun _ h' => sx_IV xT xtg xPH h' ∧ R4 h')) (aok : ∀ S S' ps r, S.ok → okU S ps → a S ps = .ok (r, S') → S'.ok ∧ okU S' ps)
    (ex : ∀ (Q : List Value → pm_H → Prop) (I : Nat → Nat → Int32) (L : Nat → Nat → Int64) (s : Nat → Option Nat) (b : Nat) (B : sB) (H : Nat → sS) (m f : Nat), isB b → s 0 = some b → I b 3 = nI B.ps → B.ok → cHs H m f I → cSc (b + 2) B.S I → (∀ e, a B.S B.ps = .error e → Q [.int (-1)] (pm_u I 0 10 e, L, g_R s, 306)) → (∀ r S', a B.S B.ps = .ok (r, S') → ∀ I', aftB b S' (psh H m B.S) (rmM m) I I' → Q [.int r] (I', L, g_R s, 306)) → pm_W (g_P ys) k 0 lv [] (I, L, g_R s, 306) (0, 0) Q)
    (kk : ∀ r h1, sx_IV xT xtg xPH h1 → R4 h1 ∧ FA8 a r h1 → Q [.int r] h1) : pm_W (g_P ys) k 0 lv [] h (0, 0) Q := by
  obtain ⟨I, L, s, rfl⟩ := x_form iv
  obtain ⟨b0, b1, B, H, m, f, pc, x⟩ := re
  have c := RX_C x
  have mx := RX_X x
  obtain ⟨rw_, o, kc, sd, cm, cp, _⟩ := x
  have hb := rw_.2.1
  have bb := isB_b hb
  refine pw_imp (fun v h1 q => ?_) (pw_and safe (ex (fun v h1 => ∃ r, v = [.int r] ∧ FA8 a r h1) I L s b0 B H m f hb rw_.2.2.2.2.1 kc.1.1 o.1 kc.2.2 kc.2.1 (fun e he => ⟨_, rfl, b0, b1, B, H, m, f, pc, rw_, o, ?_, ?_, Or.inl ⟨e, he, rfl, ?_⟩⟩) (fun r S' he I' af => ⟨_, rfl, b0, b1, B, H, m, ?_⟩)))
  · obtain ⟨⟨iv1, r4⟩, r, rfl, fa⟩ := q
    exact kk r h1 iv1 ⟨r4, fa⟩
  · exact cPc_k cp (fun a j z1 z2 => pu_o (by omega))
  · exact MX_k mx o (fun a j z => pu_o (by omega))
  · exact CX_k hb c o.1 (fun a j z => pu_o (by omega))
  · obtain ⟨fs, _, na, c1, f', c2⟩ := af
    have kb : cBq b0 B I' := cBq_a kc.1 (fun a j z1 z2 => fs a j (by omega) (by omega) (by omega) z2) o.1
    exact ⟨f', pc, rw_, o, cPc_k cp (fun a j z1 z2 => fs a j (by omega) (by omega) (by omega) (by omega)), MX_k mx o (fun a j z => fs a j (by omega) (by omega) (by omega) (by omega)), Or.inr ⟨S', he, okW_act aok o kc.2.2.2.1 he, CX_a hb kc.1 o.1 sd rfl rfl ⟨kb, c1, c2⟩ (fun a j z1 z2 z3 => fs a j (by omega) (by omega) (by omega) z3) na⟩⟩
theorem M_gen8 {k : Nat} {lv : List Value} {a : sS → Nat → Except Int32 (Int32 × sS)} {r : Int32} {h1 : pm_H} (iv : sx_IV xT xtg xPH h1) (fa : R4 h1 ∧ FA8 a r h1) (safe : pm_W (g_P ys) k 0 lv [] h1 (0, 0) (fun _ h' => sx_IV xT xtg xPH h' ∧ R4 h'))
    (ex : ∀ (Q : List Value → pm_H → Prop) (I : Nat → Nat → Int32) (L : Nat → Nat → Int64) (s : Nat → Option Nat) (B : sB) (H : Nat → sS) (m : Nat), mSc 288 0 B.S I → okW B H m → mHs H m I → I 275 14 = nI B.ps → (∀ e, a B.S B.ps = .error e → Q [.int (-1)] (stI I e, L, g_R s, 306)) → (∀ r S', a B.S B.ps = .ok (r, S') → ∀ I', aftM S' (psh H m B.S) (rmM m) (stI I 0) I' → Q [.int r] (I', L, g_R s, 306)) → pm_W (g_P ys) k 0 lv [] (I, L, g_R s, 306) (0, 0) Q)
    (kk : ∀ h2, sx_IV xT xtg xPH h2 → R8 h2 → Q [.int r] h2) : pm_W (g_P ys) k 0 lv [] h1 (0, 0) Q := by
  obtain ⟨I, L, s, rfl⟩ := x_form iv
  obtain ⟨r4, b0, b1, B, H, m, f, pc, rw_, o, cp, mx, fa⟩ := fa
  have hb := rw_.2.1
  have bb := isB_b hb
  refine pw_imp (fun v h1 q => ?_) (pw_and safe (ex (fun v h1 => v = [.int r] ∧ RT h1) I L s B H m mx.1.2.1 o mx.1.2.2 mx.1.1.1 (fun e he => ?_) (fun r' S' he I' af => ?_)))
  · obtain ⟨⟨iv1, r4⟩, rfl, rs⟩ := q
    exact kk h1 iv1 ⟨r4, rs⟩
  · rcases fa with ⟨e', he', rfl, c⟩ | ⟨S', he', _⟩
    · exact ⟨rfl, b0, b1, B, H, m, f, pc, RX_i rw_ o (CX_k hb c o.1 (fun a j z => stI_o (by omega))) (cPc_k cp (fun a j z1 z2 => stI_o (by omega))) (MX_s mx o)⟩
    · rw [he] at he'
      cases he'
  · rcases fa with ⟨e', he', _⟩ | ⟨S1, he', o', c⟩
    · rw [he] at he'
      cases he'
    · rw [he] at he'
      cases he'
      obtain ⟨na, s1, g1⟩ := af
      have nn : ∀ a j, ¬ a = 290 → ¬ a = 288 → ¬ (a = 275 ∧ (j = 1 ∨ j = 0 ∨ j = 19)) → I' a j = I a j := fun a j z1 z2 z3 => (na a j z1 z2 z3).trans (stI_o (by omega))
      have kp : mBp B I' := mBp_a mx.1.1 (fun a j z => nn a j (by omega) (by omega) (by omega))
      exact ⟨rfl, b0, b1, B.wS S', psh H m B.S, rmM m, f, pc, RX_i rw_ o' (CX_k hb c o'.1 (fun a j z => nn a j (by omega) (by omega) (by omega))) (cPc_k cp (fun a j z1 z2 => nn a j (by omega) (by omega) (by omega))) ⟨⟨kp, s1, g1⟩, fun i hi => mSd_o (mx.2.1 i hi) (fun a j z => nn a j (by omega) (by omega) (by omega)), mPc_o mx.2.2 (fun a j z => nn a j (by omega) (by omega) (by omega))⟩⟩
/-- behind the class's undo -/
def FU8 (r : Int32) (h1 : pm_H) : Prop := ∃ b0 b1 B H m f pc, Rw h1 b0 b1 ∧ okW B H m ∧ cPc pc h1.1 ∧ MX h1 B H m pc ∧ ((m = 0 ∧ r = -1 ∧ CX h1 b0 b1 B H m f) ∨ ∃ m', m = m' + 1 ∧ r = nI m' ∧ CX h1 b0 b1 (B.wS (H m')) H m' f)
theorem B_undo8 (iv : sx_IV xT xtg xPH h) (re : R8 h) (kk : ∀ r h1, sx_IV xT xtg xPH h1 → R4 h1 ∧ FU8 r h1 → Q [.int r] h1) : pm_W (g_P ys) 118 0 [.ref 0] [] h (0, 0) Q := by
  have safe := ap_118 (ys := ys) h [.ref 0] (fun _ h' => sx_IV xT xtg xPH h' ∧ R4 h') iv ⟨va_r rfl (by omega), trivial⟩ fas_n (fun _ _ iv' fr _ => ⟨iv', R4_fr (by decide) fr re.1⟩)
  obtain ⟨I, L, s, rfl⟩ := x_form iv
  obtain ⟨b0, b1, B, H, m, f, pc, x⟩ := re.2
  have c := RX_C x
  have mx := RX_X x
  obtain ⟨rw_, o, kc, sd, cm, cp, _⟩ := x
  have hb := rw_.2.1
  have bb := isB_b hb
  refine pw_imp (fun v h1 q => ?_) (pw_and safe (B_undo6 (Q := fun v h1 => ∃ r, v = [.int r] ∧ FU8 r h1) hb rw_.2.2.2.2.1 kc.2.2 (fun i hi => (o.2.2 i hi).1) (fun e => ⟨_, rfl, b0, b1, B, H, m, f, pc, rw_, o, cPc_k cp (fun a j z1 z2 => pu_o (by omega)), MX_k mx o (fun a j z => pu_o (by omega)), Or.inl ⟨e, rfl, CX_k hb c o.1 (fun a j z => pu_o (by omega))⟩⟩) (fun m' e I' af => ⟨_, rfl, b0, b1, B, H, m, ?_⟩)))
  · obtain ⟨⟨iv1, r4⟩, r, rfl, fa⟩ := q
    exact kk r h1 iv1 ⟨r4, fa⟩
  · obtain ⟨fs, _, na, c1, f', c2⟩ := af
    have kb : cBq b0 B I' := cBq_a kc.1 (fun a j z1 z2 => fs a j (by omega) (by omega) (by omega) z2) o.1
    exact ⟨f', pc, rw_, o, cPc_k cp (fun a j z1 z2 => fs a j (by omega) (by omega) (by omega) (by omega)), MX_k mx o (fun a j z => fs a j (by omega) (by omega) (by omega) (by omega)), Or.inr ⟨m', e, rfl, CX_a hb kc.1 o.1 sd rfl rfl ⟨kb, c1, c2⟩ (fun a j z1 z2 z3 => fs a j (by omega) (by omega) (by omega) z3) na⟩⟩
theorem M_undo8 {h1 : pm_H} {r : Int32} (iv : sx_IV xT xtg xPH h1) (fa : R4 h1 ∧ FU8 r h1) (kk : ∀ h2, sx_IV xT xtg xPH h2 → R8 h2 → Q [.int r] h2) : pm_W (g_P ys) 232 0 [.ref 275, .retAddr 0] [] h1 (0, 0) Q := by
  have safe := ap_232 (ys := ys) h1 [.ref 275] (fun _ h' => sx_IV xT xtg xPH h' ∧ R4 h') iv ⟨va_M, trivial⟩ fas_n (fun _ _ iv' fr _ => ⟨iv', R4_fr (by decide) fr fa.1⟩)
  obtain ⟨I, L, s, rfl⟩ := x_form iv
  obtain ⟨r4, b0, b1, B, H, m, f, pc, rw_, o, cp, mx, fa⟩ := fa
  have hb := rw_.2.1
  have bb := isB_b hb
  refine pw_imp (fun v h1 q => ?_) (pw_and safe (M_undo6 (Q := fun v h1 => v = [.int r] ∧ RT h1) mx.1.2.2 (fun i hi => (o.2.2 i hi).1) (fun e => ?_) (fun m' e I' af => ?_)))
  · obtain ⟨⟨iv1, r4⟩, rfl, rs⟩ := q
    exact kk h1 iv1 ⟨r4, rs⟩
  · rcases fa with ⟨_, rfl, c⟩ | ⟨m', e', _⟩
    · exact ⟨rfl, b0, b1, B, H, m, f, pc, RX_i rw_ o (CX_k hb c o.1 (fun a j z => stI_o (by omega))) (cPc_k cp (fun a j z1 z2 => stI_o (by omega))) (MX_s mx o)⟩
    · omega
  · rcases fa with ⟨e', _⟩ | ⟨m1, e', rfl, c⟩
    · omega
    · have em : m1 = m' := by omega
      subst em
      obtain ⟨na, s1, g1⟩ := af
      have nn : ∀ a j, ¬ a = 290 → ¬ a = 288 → ¬ (a = 275 ∧ (j = 1 ∨ j = 0 ∨ j = 19)) → I' a j = I a j := fun a j z1 z2 z3 => (na a j z1 z2 z3).trans (stI_o (by omega))
      have oH := o.2.2 m1 (by omega)
      have o' : okW (B.wS (H m1)) H m1 := ⟨⟨o.1.1, o.1.2.1, oH.1 0 (by omega), oH.1 1 (by omega), oH.1 2 (by omega)⟩, oH.2, fun i hi => o.2.2 i (by omega)⟩
      have kp : mBp B I' := mBp_a mx.1.1 (fun a j z => nn a j (by omega) (by omega) (by omega))
      exact ⟨rfl, b0, b1, B.wS (H m1), H, m1, f, pc, RX_i rw_ o' (CX_k hb c o'.1 (fun a j z => nn a j (by omega) (by omega) (by omega))) (cPc_k cp (fun a j z1 z2 => nn a j (by omega) (by omega) (by omega))) ⟨⟨kp, s1, g1⟩, fun i hi => mSd_o (mx.2.1 i hi) (fun a j z => nn a j (by omega) (by omega) (by omega)), mPc_o mx.2.2 (fun a j z => nn a j (by omega) (by omega) (by omega))⟩⟩
theorem B_feed8 (iv : sx_IV xT xtg xPH h) (re : R8 h) (a b c d e : Int32) (kk : ∀ r h1, sx_IV xT xtg xPH h1 → FM a b c d e r h1 ∧ RT h1 → Q [.int r] h1) : pm_W (g_P ys) 14 0 [.ref 0, .int a, .int b, .int c, .int d, .int e] [] h (0, 0) Q := by
  have safe := ap_14 (ys := ys) h [.ref 0, .int a, .int b, .int c, .int d, .int e] (fun _ h' => RT h') iv ⟨va_r rfl (by omega), va_f, va_f, va_f, va_f, va_f, trivial⟩ fas_n (fun _ _ _ fr _ => RT_fr (by decide) fr re.2)
  refine pw_imp (fun v h1 q => ?_) (pw_and safe (B_feed4 (Q := fun v h1 => ∃ r, v = [.int r] ∧ sx_IV xT xtg xPH h1 ∧ FM a b c d e r h1) iv re.1 a b c d e (fun r h1 iv1 m1 => ⟨r, rfl, iv1, m1⟩)))
  obtain ⟨rs, r, rfl, iv1, m1⟩ := q
  exact kk r h1 iv1 ⟨m1, rs⟩
theorem M_feed8 {h1 : pm_H} {r : Int32} {a b c d e : Int32} (iv : sx_IV xT xtg xPH h1) (m : FM a b c d e r h1 ∧ RT h1) (kk : ∀ h2, sx_IV xT xtg xPH h2 → R8 h2 → Q [.int r] h2) : pm_W (g_P ys) 276 0 [.ref 275, .int a, .int b, .int c, .int d, .int e] [] h1 (0, 0) Q := by
  have safe := ap_276 (ys := ys) h1 [.ref 275, .int a, .int b, .int c, .int d, .int e] (fun _ h' => RT h') iv ⟨va_M, va_f, va_f, va_f, va_f, va_f, trivial⟩ fas_n (fun _ _ _ fr _ => RT_fr (by decide) fr m.2)
  refine pw_imp (fun v h2 q => ?_) (pw_and safe (M_feed4 (Q := fun v h2 => v = [.int r] ∧ sx_IV xT xtg xPH h2 ∧ R4 h2) iv m.1 (fun h2 iv2 re2 => ⟨rfl, iv2, re2⟩)))
  obtain ⟨rs, rfl, iv2, re2⟩ := q
  exact kk h2 iv2 ⟨re2, rs⟩
/-- behind the class's load -/
def LM8 (x r : Int32) (h1 : pm_H) : Prop := (R8 h1 ∧ ¬ (0 ≤ x.toInt ∧ x.toInt ≤ (h1.1 275 43).toInt) ∧ r = -1) ∨ (∃ tp n c J f b0 b1 R, x = nI n ∧ h1.1 275 43 = nI tp ∧ tp ≤ 800 ∧ n ≤ tp ∧ LX n c J f (h1.1 303) h1 b0 b1 R r ∧ ((∃ e, R = .error e ∧ RT h1) ∨ ∃ B H f', R = .ok B ∧ okW B H 0 ∧ CX h1 b0 b1 B H 0 f' ∧ cPc (0, 0, fun _ => 0) h1.1))
theorem B_load8 (iv : sx_IV xT xtg xPH h) (re : R8 h) (x : Int32) (kk : ∀ r h1, sx_IV xT xtg xPH h1 → LM8 x r h1 → Q [.int r] h1) : pm_W (g_P ys) 17 0 [.ref 0, .int x, .retAddr 0, .retAddr 0] [] h (0, 0) Q := by
  have safe := ap_17 (ys := ys) h [.ref 0, .int x] (fun _ h' => sx_IV xT xtg xPH h') iv ⟨va_r rfl (by omega), va_f, trivial⟩ fas_n (fun _ _ iv' _ _ => iv')
  obtain ⟨I, L, s, rfl⟩ := x_form iv
  obtain ⟨re, b0, b1, B, H, m, hf, pc, rx⟩ := re
  have cx := RX_C rx
  have mx := RX_X rx
  obtain ⟨rw_, ow, kc, sd, cm, cp, _⟩ := rx
  obtain ⟨w1, w2, w3, w4, w5, w6⟩ := rw_
  obtain ⟨_, ⟨t, t1, t2, t3, t4⟩, f1, f2⟩ := re
  have t2 : I 1 1 = nI t := t2
  have t3 : I 275 43 = nI t := t3
  have bb := isB_b w3
  have bb0 := isB_b w2
  have dj : b0 + 40 < b1 ∨ b1 + 40 < b0 := by
    rcases w2 with rfl | rfl <;> rcases w3 with rfl | rfl
    · exact absurd rfl w4
    · omega
    · omega
    · exact absurd rfl w4
  by_cases hv : 0 ≤ x.toInt ∧ x.toInt ≤ (t : Int)
  · obtain ⟨n, hn⟩ : ∃ n, n = x.toInt.toNat := ⟨_, rfl⟩
    have ex := nI_oz hn hv.1
    subst ex
    have hnt : n ≤ t := by
      have z := hv.2
      rw [nI_toInt (by omega)] at z
      omega
    refine pw_imp (fun v h1 q => ?_) (pw_and safe (B_loadX (Q := fun v h1 => ∃ r, v = [.int r] ∧ LM8 (nI n) r h1) w3 w5 w6 t2 t1 hnt (fun j hj => t4 j (by omega)) (fun c J S k u e I1 o1 x1 x2 x3 => ⟨_, rfl, Or.inr ⟨t, n, c, J, (fun j => I 2 j), b0, b1, xTxt (fun j => I 2 j) J c c B0 0, rfl, (o1 _ _ (by omega) (by omega) (by omega) (by omega)).trans t3, t1, hnt, ?_, Or.inl ⟨_, e, ?_⟩⟩⟩) (fun c J S B' e ok I1 o1 x1 x2 x3 y1 y2 y3 y4 p1 s1 => ⟨_, rfl, Or.inr ⟨t, n, c, J, (fun j => I 2 j), b1, b0, xTxt (fun j => I 2 j) J c c B0 0, rfl, (o1 _ _ (by omega) (by omega) (by omega) (by omega) (by omega) (by omega) (by omega)).trans t3, t1, hnt, ?_, Or.inr ⟨B', H, hf, e, ?_, ?_, ?_⟩⟩⟩)))
    · obtain ⟨iv1, r, rfl, q⟩ := q
      exact kk _ _ iv1 q
    · have et : I1 303 = fun j => I 303 j := by
        funext j
        exact o1 _ _ (by omega) (by omega) (by omega) (by omega)
      refine ⟨?_, rfl, ⟨w1, w2, w3, w4, w5, w6⟩, x1, Or.inl ⟨k, u, e, x2, x3, rfl⟩⟩
      show stX _ (I1 303) J n c
      rw [et]
      exact S
    · exact ⟨b0, b1, B, H, m, hf, pc, RX_i ⟨w1, w2, w3, w4, w5, w6⟩ ow (CX_k w2 cx ow.1 (fun a j z => o1 a j (by omega) (by omega) (by omega) (by omega))) (cPc_k cp (fun a j z1 z2 => o1 a j (by omega) (by omega) (by omega) (by omega))) (MX_k mx ow (fun a j z => o1 a j (by omega) (by omega) (by omega) (by omega)))⟩
    · have et : I1 303 = fun j => I 303 j := by
        funext j
        exact o1 _ _ (by omega) (by omega) (by omega) (by omega) (by omega) (by omega) (by omega)
      refine ⟨?_, rfl, ⟨w1, w3, w2, fun z => w4 z.symm, rfl, rfl⟩, x1, Or.inr ⟨B', e, ok, x2, x3, rfl⟩⟩
      show stX _ (I1 303) J n c
      rw [et]
      exact S
    · exact ⟨ok, xTxt_us B0_us e, fun i hi => absurd hi (by omega)⟩
    · exact ⟨⟨cBp_q p1, cBs_c.mp s1, kc.2.2.1, by omega, (o1 _ _ (by omega) (by omega) (by omega) (by omega) (by decide) (by omega) (by omega)).trans kc.2.2.2.2.1, y1, fun i hi => absurd hi (by omega)⟩, fun k hk => Or.inl (p1.2 k hk).1.2.1, fun _ _ => Or.inl y4⟩
    · exact ⟨y2, y3, ⟨by decide, by decide, by decide⟩, fun i hi => absurd hi (by show ¬ i < 0 * 0; omega)⟩
  · refine pw_imp (fun v h1 q => ?_) (pw_and safe (B_loadN (Q := fun v h1 => v = [.int (-1)] ∧ h1 = (pm_u I 0 10 1, L, g_R s, 306)) t2 t1 hv ⟨rfl, rfl⟩))
    obtain ⟨iv1, rfl, rfl⟩ := q
    have o : ∀ a j, ¬ (a = 0 ∧ j = 10) → pm_u I 0 10 1 a j = I a j := fun a j h => pu_x h
    refine kk _ _ iv1 (Or.inl ⟨⟨⟨⟨b0, b1, w1, w2, w3, w4, w5, w6⟩, ⟨t, t1, (o _ _ (by decide)).trans t2, (o _ _ (by decide)).trans t3, fun j hj => ?_⟩, ?_, ?_⟩, b0, b1, B, H, m, hf, pc, RX_i ⟨w1, w2, w3, w4, w5, w6⟩ ow (CX_k w2 cx ow.1 (fun a j z => o a j (by omega))) (cPc_k cp (fun a j z1 z2 => o a j (by omega))) (MX_k mx ow (fun a j z => o a j (by omega)))⟩, ?_, rfl⟩)
    · show (pm_u I 0 10 1 2 j).toInt = (pm_u I 0 10 1 303 j).toInt % 256 ∧ -128 ≤ (pm_u I 0 10 1 303 j).toInt ∧ (pm_u I 0 10 1 303 j).toInt ≤ 127
      rw [o _ _ (by omega), o _ _ (by omega)]
      exact t4 j hj
    · exact ((o _ _ (by decide)).trans f1).trans (o _ _ (by decide)).symm
    · exact ((o _ _ (by decide)).trans f2).trans (o _ _ (by decide)).symm
    · show ¬ (0 ≤ x.toInt ∧ x.toInt ≤ (pm_u I 0 10 1 275 43).toInt)
      rw [o _ _ (by decide), t3, nI_toInt (by omega)]
      exact hv
theorem ld_s (f : ldB I I') : ∀ a j, (a = 294 ∨ a = 293 ∨ a = 291 ∨ a = 292 ∨ a = 302 ∨ (a = 275 ∧ (j = 41 ∨ j = 39 ∨ j = 40))) → I' a j = I a j := fun a j h => f a j (by omega)
theorem M_load8 {h1 : pm_H} {x r : Int32} (iv : sx_IV xT xtg xPH h1) (m : LM8 x r h1) (kk : ∀ h2, sx_IV xT xtg xPH h2 → R8 h2 → Q [.int r] h2) : pm_W (g_P ys) 278 0 [.ref 275, .int x, .retAddr 0] [] h1 (0, 0) Q := by
  have safe := ap_278 (ys := ys) h1 [.ref 275, .int x] (fun _ h' => sx_IV xT xtg xPH h') iv ⟨va_M, va_f, trivial⟩ fas_n (fun _ _ iv' _ _ => iv')
  rcases m with ⟨re, hv, rfl⟩ | ⟨tp, n, c, J, f, b0, b1, R, rfl, tt, t8, hn, ⟨S, hR, ⟨w1, w2, w3, w4, w5, w6⟩, l0, m⟩, m2⟩
  · obtain ⟨I, L, s, rfl⟩ := x_form iv
    obtain ⟨g1, g2⟩ := is_iv (a := 1) iv (by decide) (by decide)
    refine M_loadN hv (kk _ g1 (R8_fr (by decide) g2 re))
  · have nb := iv.1 275 51 (.ofNat 51, .ofNat 51, .ofNat 0, .ofNat 9999) (by decide) (by decide) (by decide)
    have bb := iv.1 275 53 (.ofNat 53, .ofNat 53, .ofNat 0, .ofNat 800) (by decide) (by decide) (by decide)
    have b0b := isB_b w2
    obtain ⟨I, L, s, rfl⟩ := x_form iv
    have fin : ∀ h2 : pm_H, sx_IV xT xtg xPH h2 → (∀ j, j < 13 → h2.2.1 304 j = wC j) → h2.2.2.1 0 6 = some b0 → h2.2.2.1 0 7 = some b1 → h2.1 1 1 = 0 → h2.1 275 43 = 0 → Rf h2 → RT h2 → Q [.int r] h2 := fun h2 iv2 a1 a2 a3 a4 a5 a6 a7 => kk h2 iv2 ⟨⟨⟨b0, b1, a1, w2, w3, w4, a2, a3⟩, ⟨0, by omega, a4, a5, fun j hj => absurd hj (by omega)⟩, a6⟩, a7⟩
    refine pw_imp (fun v h2 q => ?_) (pw_and safe (M_loadX (Q := fun v h2 => sx_IV xT xtg xPH h2 → v = [.int r] ∧ Q v h2) tt t8 hn S nb bb w1 (fun k u e I2 L2 o2 l2 y1 y2 y3 iv2 => ?_) (fun B e I2 L2 o2 l2 y1 y2 y3 y4 y5 y6 p1 s1 iv2 => ?_)))
    · exact (q.2 q.1).2
    · rcases m with ⟨k', u', e', z1, z2, rfl⟩ | ⟨B', e', ok, z1, z2, rfl⟩
      · have eq := e.symm.trans (hR.symm.trans e')
        cases eq
        have w1' : ∀ j, j < 13 → L2 304 j = wC j := fun j hj => (l2 _ _ (by omega)).trans (w1 j hj)
        rcases m2 with ⟨e2, _, rs⟩ | ⟨B2, H2, f2, e2, _⟩
        · obtain ⟨c0, c1, B, H, m, hf, pc, rx⟩ := rs
          have cx := RX_C rx
          have mx := RX_X rx
          obtain ⟨⟨v1, v2, v3, v4, v5, v6⟩, ow, kc, sd, cm, cp, _⟩ := rx
          have cb := isB_b v2
          refine ⟨rfl, fin _ iv2 w1' w5 w6 ((o2 _ _ (by omega)).trans l0) y3 ⟨?_, ?_⟩ ⟨c0, c1, B, H, m, hf, pc, RX_i ⟨w1', v2, v3, v4, v5, v6⟩ ow (CX_k v2 cx ow.1 (fun a j z => ld_c o2 a j (by omega))) (cPc_k cp (fun a j z1 z2 => ld_c o2 a j (by omega))) ⟨⟨mBp_a mx.1.1 (fun a j z => ld_m o2 a j (by omega)), mSc_f mx.1.2.1 (okW_S ow) (fun j => ld_m o2 _ _ (by omega)), mHs_f mx.1.2.2 (fun i hi => (ow.2.2 i hi).1) (fun j => ld_m o2 _ _ (by omega)) (ld_m o2 _ _ (by omega))⟩, fun i hi => mSd_o (mx.2.1 i hi) (fun a j z => ld_s o2 a j (by omega)), mPc_o mx.2.2 (fun a j z => ld_s o2 a j (by omega))⟩⟩⟩
          · exact ((o2 _ _ (by omega)).trans z1).trans y1.symm
          · exact ((o2 _ _ (by omega)).trans z2).trans y2.symm
        · rw [e'] at e2
          cases e2
      · have eq := e.symm.trans (hR.symm.trans e')
        cases eq
    · rcases m with ⟨k', u', e', z1, z2, rfl⟩ | ⟨B', e', ok, z1, z2, rfl⟩
      · have eq := e.symm.trans (hR.symm.trans e')
        cases eq
      · have eq := e.symm.trans (hR.symm.trans e')
        cases eq
        rcases m2 with ⟨e2, e3, rs⟩ | ⟨B2, H2, f2, e2, ow, cx, cp⟩
        · rw [e'] at e3
          cases e3
        · rw [e'] at e2
          cases e2
          have p6 := ow.1.1
          refine ⟨rfl, fin _ iv2 l2 w5 w6 ((o2 _ _ (by omega)).trans l0) y3 ⟨?_, ?_⟩ ⟨b0, b1, B, H2, 0, f2, (0, 0, fun _ => 0), RX_i ⟨l2, w2, w3, w4, w5, w6⟩ ow (CX_k w2 cx ow.1 (fun a j z => ld_d o2 a j (by omega))) (cPc_k cp (fun a j z1 z2 => ld_d o2 a j (by omega))) ⟨⟨p1, mBs_c.mp s1, by omega, y4, fun i hi => absurd hi (by omega)⟩, fun k hk => Or.inl (y6 k (by omega)), Or.inl ⟨rfl, y5⟩⟩⟩⟩
          · exact ((o2 _ _ (by omega)).trans z1).trans y1.symm
          · exact ((o2 _ _ (by omega)).trans z2).trans y2.symm
theorem R8_0 {ρ : Nat → Int32} (hr : se_hr ρ g_H1 h) (e : h.1 = gi0) : R8 h := by
  have r4 := R4_0 hr e
  refine ⟨r4, ?_⟩
  obtain ⟨_, h2, h3, _⟩ := hr
  refine ⟨173, 214, B0, (fun _ => B0.S), 0, 0, (0, 0, fun _ => 0), ⟨fun j hj => ?_, Or.inl rfl, Or.inr rfl, by decide, ?_, ?_⟩, ⟨B0_ok, B0_us, fun i hi => absurd hi (by omega)⟩, KC_0 e, fun k hk => absurd hk (Nat.not_lt_zero k), fun t _ => Or.inl ?_, ⟨?_, ?_, ⟨by decide, by decide, by decide⟩, fun i hi => absurd hi (by show ¬ i < 0 * 0; omega)⟩, KM_0 e, fun k hk => absurd hk (Nat.not_lt_zero k), Or.inl ⟨rfl, ?_⟩⟩
  · rw [h2]
    rcases (show j = 0 ∨ j = 1 ∨ j = 2 ∨ j = 3 ∨ j = 4 ∨ j = 5 ∨ j = 6 ∨ j = 7 ∨ j = 8 ∨ j = 9 ∨ j = 10 ∨ j = 11 ∨ j = 12 by omega) with rfl | rfl | rfl | rfl | rfl | rfl | rfl | rfl | rfl | rfl | rfl | rfl | rfl <;> decide +kernel
  · rw [h3]
    decide +kernel
  · rw [h3]
    decide +kernel
  · rw [e]
    decide +kernel
  · rw [e]
    decide +kernel
  · rw [e]
    decide +kernel
  · rw [e]
    decide +kernel
end UH
