/-! BY HAND: the scene's calls beside each other, one by one (printed by wip/src/gen97zx.py) -/
section SQ
variable {I I' I1 I2 J : Nat → Nat → Int32} {L : Nat → Nat → Int64} {s : Nat → Option Nat} {Q : List Value → pm_H → Prop} {ys : List Int32} {h h' : pm_H} {B : sB}
theorem okB (ok : B.ok) : B.S.ok := fun q hq => sB.ok_n ok hq
theorem okU_s {S S' : sS} {ps : Nat} (z : S.ok ∧ S.us = S'.us) (us : okU S' ps) : S.ok ∧ okU S ps := ⟨z.1, by unfold okU; rw [z.2]; exact us⟩
theorem B_add7 (iv : sx_IV xT xtg xPH h) (re : R6 h) (a1 a2 a3 a4 : Int32) (kk : ∀ r h1, sx_IV xT xtg xPH h1 → R4 h1 ∧ FA (fun S _ => aAdd S a1 a2 a3 a4) r h1 → Q [.int r] h1) : pm_W (g_P ys) 101 0 [.ref 0, .int a1, .int a2, .int a3, .int a4, .retAddr 0] [] h (0, 0) Q :=
  B_gen6 iv re.2 (ap_101 (ys := ys) h [.ref 0, .int a1, .int a2, .int a3, .int a4] (fun _ h' => sx_IV xT xtg xPH h' ∧ R4 h') iv ⟨va_r rfl (by omega), va_f, va_f, va_f, va_f, trivial⟩ fas_n (fun _ _ iv' fr _ => ⟨iv', R4_fr (by decide) fr re.1⟩)) (fun S S' ps r ok us e => okU_s (aAdd_ok ok e) us) (fun Q I L s b B H m f hb h0 hP ok hH hS kE kO => B_add6 hb h0 hH hS (okB ok) a1 a2 a3 a4 kE kO) kk
theorem M_add7 {h1 : pm_H} {r a1 a2 a3 a4 : Int32} (iv : sx_IV xT xtg xPH h1) (fa : R4 h1 ∧ FA (fun S _ => aAdd S a1 a2 a3 a4) r h1) (kk : ∀ h2, sx_IV xT xtg xPH h2 → R6 h2 → Q [.int r] h2) : pm_W (g_P ys) 221 0 [.ref 275, .int a1, .int a2, .int a3, .int a4, .retAddr 0] [] h1 (0, 0) Q :=
  M_gen6 iv fa (ap_221 (ys := ys) h1 [.ref 275, .int a1, .int a2, .int a3, .int a4] (fun _ h' => sx_IV xT xtg xPH h' ∧ R4 h') iv ⟨va_M, va_f, va_f, va_f, va_f, trivial⟩ fas_n (fun _ _ iv' fr _ => ⟨iv', R4_fr (by decide) fr fa.1⟩)) (fun Q I L s B H m hS o hH hP kE kO => M_add6 hS (okW_S o) hH (fun i hi => (o.2.2 i hi).1) a1 a2 a3 a4 kE kO) kk
theorem B_drop7 (iv : sx_IV xT xtg xPH h) (re : R6 h) (a1 a2 : Int32) (kk : ∀ r h1, sx_IV xT xtg xPH h1 → R4 h1 ∧ FA (fun S _ => aDrop S a1 a2) r h1 → Q [.int r] h1) : pm_W (g_P ys) 108 0 [.ref 0, .int a1, .int a2] [] h (0, 0) Q :=
  B_gen6 iv re.2 (ap_108 (ys := ys) h [.ref 0, .int a1, .int a2] (fun _ h' => sx_IV xT xtg xPH h' ∧ R4 h') iv ⟨va_r rfl (by omega), va_f, va_f, trivial⟩ fas_n (fun _ _ iv' fr _ => ⟨iv', R4_fr (by decide) fr re.1⟩)) (fun S S' ps r ok us e => okU_s (aDrop_ok ok e) us) (fun Q I L s b B H m f hb h0 hP ok hH hS kE kO => B_drop6 hb h0 hH hS (okB ok) a1 a2 kE kO) kk
theorem M_drop7 {h1 : pm_H} {r a1 a2 : Int32} (iv : sx_IV xT xtg xPH h1) (fa : R4 h1 ∧ FA (fun S _ => aDrop S a1 a2) r h1) (kk : ∀ h2, sx_IV xT xtg xPH h2 → R6 h2 → Q [.int r] h2) : pm_W (g_P ys) 224 0 [.ref 275, .int a1, .int a2] [] h1 (0, 0) Q :=
  M_gen6 iv fa (ap_224 (ys := ys) h1 [.ref 275, .int a1, .int a2] (fun _ h' => sx_IV xT xtg xPH h' ∧ R4 h') iv ⟨va_M, va_f, va_f, trivial⟩ fas_n (fun _ _ iv' fr _ => ⟨iv', R4_fr (by decide) fr fa.1⟩)) (fun Q I L s B H m hS o hH hP kE kO => M_drop6 hS (okW_S o) hH (fun i hi => (o.2.2 i hi).1) a1 a2 kE kO) kk
theorem B_lose7 (iv : sx_IV xT xtg xPH h) (re : R6 h) (a1 a2 : Int32) (kk : ∀ r h1, sx_IV xT xtg xPH h1 → R4 h1 ∧ FA (fun S _ => aLose S a1 a2) r h1 → Q [.int r] h1) : pm_W (g_P ys) 111 0 [.ref 0, .int a1, .int a2, .retAddr 0] [] h (0, 0) Q :=
  B_gen6 iv re.2 (ap_111 (ys := ys) h [.ref 0, .int a1, .int a2] (fun _ h' => sx_IV xT xtg xPH h' ∧ R4 h') iv ⟨va_r rfl (by omega), va_f, va_f, trivial⟩ fas_n (fun _ _ iv' fr _ => ⟨iv', R4_fr (by decide) fr re.1⟩)) (fun S S' ps r ok us e => okU_s (aLose_ok ok e) us) (fun Q I L s b B H m f hb h0 hP ok hH hS kE kO => B_lose6 hb h0 hH hS (okB ok) a1 a2 kE kO) kk
theorem M_lose7 {h1 : pm_H} {r a1 a2 : Int32} (iv : sx_IV xT xtg xPH h1) (fa : R4 h1 ∧ FA (fun S _ => aLose S a1 a2) r h1) (kk : ∀ h2, sx_IV xT xtg xPH h2 → R6 h2 → Q [.int r] h2) : pm_W (g_P ys) 226 0 [.ref 275, .int a1, .int a2, .retAddr 0, .retAddr 0] [] h1 (0, 0) Q :=
  M_gen6 iv fa (ap_226 (ys := ys) h1 [.ref 275, .int a1, .int a2] (fun _ h' => sx_IV xT xtg xPH h' ∧ R4 h') iv ⟨va_M, va_f, va_f, trivial⟩ fas_n (fun _ _ iv' fr _ => ⟨iv', R4_fr (by decide) fr fa.1⟩)) (fun Q I L s B H m hS o hH hP kE kO => M_lose6 hS (okW_S o) hH (fun i hi => (o.2.2 i hi).1) a1 a2 kE kO) kk
theorem B_heal7 (iv : sx_IV xT xtg xPH h) (re : R6 h) (a1 : Int32) (kk : ∀ r h1, sx_IV xT xtg xPH h1 → R4 h1 ∧ FA (fun S _ => aOut S 1 a1) r h1 → Q [.int r] h1) : pm_W (g_P ys) 113 0 [.ref 0, .int a1] [] h (0, 0) Q :=
  B_gen6 iv re.2 (ap_113 (ys := ys) h [.ref 0, .int a1] (fun _ h' => sx_IV xT xtg xPH h' ∧ R4 h') iv ⟨va_r rfl (by omega), va_f, trivial⟩ fas_n (fun _ _ iv' fr _ => ⟨iv', R4_fr (by decide) fr re.1⟩)) (fun S S' ps r ok us e => okU_s (aOut_ok ok e) us) (fun Q I L s b B H m f hb h0 hP ok hH hS kE kO => B_heal6 hb h0 hH hS (okB ok) a1 kE kO) kk
theorem M_heal7 {h1 : pm_H} {r a1 : Int32} (iv : sx_IV xT xtg xPH h1) (fa : R4 h1 ∧ FA (fun S _ => aOut S 1 a1) r h1) (kk : ∀ h2, sx_IV xT xtg xPH h2 → R6 h2 → Q [.int r] h2) : pm_W (g_P ys) 227 0 [.ref 275, .int a1] [] h1 (0, 0) Q :=
  M_gen6 iv fa (ap_227 (ys := ys) h1 [.ref 275, .int a1] (fun _ h' => sx_IV xT xtg xPH h' ∧ R4 h') iv ⟨va_M, va_f, trivial⟩ fas_n (fun _ _ iv' fr _ => ⟨iv', R4_fr (by decide) fr fa.1⟩)) (fun Q I L s B H m hS o hH hP kE kO => M_heal6 hS (okW_S o) hH (fun i hi => (o.2.2 i hi).1) a1 kE kO) kk
theorem B_light7 (iv : sx_IV xT xtg xPH h) (re : R6 h) (a1 : Int32) (kk : ∀ r h1, sx_IV xT xtg xPH h1 → R4 h1 ∧ FA (fun S _ => aLight S a1) r h1 → Q [.int r] h1) : pm_W (g_P ys) 114 0 [.ref 0, .int a1, .retAddr 0] [] h (0, 0) Q :=
  B_gen6 iv re.2 (ap_114 (ys := ys) h [.ref 0, .int a1] (fun _ h' => sx_IV xT xtg xPH h' ∧ R4 h') iv ⟨va_r rfl (by omega), va_f, trivial⟩ fas_n (fun _ _ iv' fr _ => ⟨iv', R4_fr (by decide) fr re.1⟩)) (fun S S' ps r ok us e => okU_s (aLight_ok ok e) us) (fun Q I L s b B H m f hb h0 hP ok hH hS kE kO => B_light6 hb h0 hH hS (okB ok) a1 kE kO) kk
theorem M_light7 {h1 : pm_H} {r a1 : Int32} (iv : sx_IV xT xtg xPH h1) (fa : R4 h1 ∧ FA (fun S _ => aLight S a1) r h1) (kk : ∀ h2, sx_IV xT xtg xPH h2 → R6 h2 → Q [.int r] h2) : pm_W (g_P ys) 228 0 [.ref 275, .int a1] [] h1 (0, 0) Q :=
  M_gen6 iv fa (ap_228 (ys := ys) h1 [.ref 275, .int a1] (fun _ h' => sx_IV xT xtg xPH h' ∧ R4 h') iv ⟨va_M, va_f, trivial⟩ fas_n (fun _ _ iv' fr _ => ⟨iv', R4_fr (by decide) fr fa.1⟩)) (fun Q I L s B H m hS o hH hP kE kO => M_light6 hS (okW_S o) hH (fun i hi => (o.2.2 i hi).1) a1 kE kO) kk
theorem B_use7 (iv : sx_IV xT xtg xPH h) (re : R6 h) (a1 : Int32) (kk : ∀ r h1, sx_IV xT xtg xPH h1 → R4 h1 ∧ FA (fun S ps => aUse S ps a1) r h1 → Q [.int r] h1) : pm_W (g_P ys) 115 0 [.ref 0, .int a1, .retAddr 0] [] h (0, 0) Q :=
  B_gen6 iv re.2 (ap_115 (ys := ys) h [.ref 0, .int a1] (fun _ h' => sx_IV xT xtg xPH h' ∧ R4 h') iv ⟨va_r rfl (by omega), va_f, trivial⟩ fas_n (fun _ _ iv' fr _ => ⟨iv', R4_fr (by decide) fr re.1⟩)) (fun S S' ps r ok us e => by
    obtain ⟨z1, z2, z3⟩ := aUse_ok ok e
    exact ⟨z1, _, z2, Or.inl z3⟩) (fun Q I L s b B H m f hb h0 hP ok hH hS kE kO => B_use6 hb h0 hP ok.1 hH hS (okB ok) a1 kE kO) kk
theorem M_use7 {h1 : pm_H} {r a1 : Int32} (iv : sx_IV xT xtg xPH h1) (fa : R4 h1 ∧ FA (fun S ps => aUse S ps a1) r h1) (kk : ∀ h2, sx_IV xT xtg xPH h2 → R6 h2 → Q [.int r] h2) : pm_W (g_P ys) 230 0 [.ref 275, .int a1] [] h1 (0, 0) Q :=
  M_gen6 iv fa (ap_230 (ys := ys) h1 [.ref 275, .int a1] (fun _ h' => sx_IV xT xtg xPH h' ∧ R4 h') iv ⟨va_M, va_f, trivial⟩ fas_n (fun _ _ iv' fr _ => ⟨iv', R4_fr (by decide) fr fa.1⟩)) (fun Q I L s B H m hS o hH hP kE kO => M_use6 hS (okW_S o) hH (fun i hi => (o.2.2 i hi).1) hP o.1.1 a1 kE kO) kk
theorem B_slide7 (iv : sx_IV xT xtg xPH h) (re : R6 h) (a1 a2 : Int32) (kk : ∀ r h1, sx_IV xT xtg xPH h1 → R4 h1 ∧ FA (fun S _ => aSlide S a1 a2) r h1 → Q [.int r] h1) : pm_W (g_P ys) 116 0 [.ref 0, .int a1, .int a2, .retAddr 0] [] h (0, 0) Q :=
  B_gen6 iv re.2 (ap_116 (ys := ys) h [.ref 0, .int a1, .int a2] (fun _ h' => sx_IV xT xtg xPH h' ∧ R4 h') iv ⟨va_r rfl (by omega), va_f, va_f, trivial⟩ fas_n (fun _ _ iv' fr _ => ⟨iv', R4_fr (by decide) fr re.1⟩)) (fun S S' ps r ok us e => okU_s (aSlide_ok ok e) us) (fun Q I L s b B H m f hb h0 hP ok hH hS kE kO => B_slide6 hb h0 hH hS (okB ok) a1 a2 kE kO) kk
theorem M_slide7 {h1 : pm_H} {r a1 a2 : Int32} (iv : sx_IV xT xtg xPH h1) (fa : R4 h1 ∧ FA (fun S _ => aSlide S a1 a2) r h1) (kk : ∀ h2, sx_IV xT xtg xPH h2 → R6 h2 → Q [.int r] h2) : pm_W (g_P ys) 231 0 [.ref 275, .int a1, .int a2, .retAddr 0, .retAddr 0] [] h1 (0, 0) Q :=
  M_gen6 iv fa (ap_231 (ys := ys) h1 [.ref 275, .int a1, .int a2] (fun _ h' => sx_IV xT xtg xPH h' ∧ R4 h') iv ⟨va_M, va_f, va_f, trivial⟩ fas_n (fun _ _ iv' fr _ => ⟨iv', R4_fr (by decide) fr fa.1⟩)) (fun Q I L s B H m hS o hH hP kE kO => M_slide6 hS (okW_S o) hH (fun i hi => (o.2.2 i hi).1) a1 a2 kE kO) kk
theorem B_many7 (iv : sx_IV xT xtg xPH h) (re : R6 h) (a1 : Int32) (kk : ∀ r h1, sx_IV xT xtg xPH h1 → R4 h1 ∧ FQ (fun S ps m => aMany S ps m a1) r h1 → Q [.int r] h1) : pm_W (g_P ys) 82 0 [.ref 0, .int a1] [] h (0, 0) Q :=
  B_gqn6 iv re.2 (ap_82 (ys := ys) h [.ref 0, .int a1] (fun _ h' => sx_IV xT xtg xPH h' ∧ R4 h') iv ⟨va_r rfl (by omega), va_f, trivial⟩ fas_n (fun _ _ iv' fr _ => ⟨iv', R4_fr (by decide) fr re.1⟩)) (fun Q I L s b B H m f hb h0 hP ok hH hS kE kO => B_many6 hb h0 hP ok.1 hH hS a1 kE kO) kk
theorem M_many7 {h1 : pm_H} {r a1 : Int32} (iv : sx_IV xT xtg xPH h1) (fa : R4 h1 ∧ FQ (fun S ps m => aMany S ps m a1) r h1) (kk : ∀ h2, sx_IV xT xtg xPH h2 → R6 h2 → Q [.int r] h2) : pm_W (g_P ys) 190 0 [.ref 275, .int a1] [] h1 (0, 0) Q :=
  M_gqn6 iv fa (ap_190 (ys := ys) h1 [.ref 275, .int a1] (fun _ h' => sx_IV xT xtg xPH h' ∧ R4 h') iv ⟨va_M, va_f, trivial⟩ fas_n (fun _ _ iv' fr _ => ⟨iv', R4_fr (by decide) fr fa.1⟩)) (fun Q I L s B H m hS o hH hP kE kO => M_many6 hS hH hP o.1.1 a1 kE kO) kk
theorem B_thing7 (iv : sx_IV xT xtg xPH h) (re : R6 h) (a1 a2 a3 : Int32) (kk : ∀ r h1, sx_IV xT xtg xPH h1 → R4 h1 ∧ FQ (fun S _ _ => aThing S a1 a2 a3) r h1 → Q [.int r] h1) : pm_W (g_P ys) 98 0 [.ref 0, .int a1, .int a2, .int a3, .retAddr 0] [] h (0, 0) Q :=
  B_gqn6 iv re.2 (ap_98 (ys := ys) h [.ref 0, .int a1, .int a2, .int a3] (fun _ h' => sx_IV xT xtg xPH h' ∧ R4 h') iv ⟨va_r rfl (by omega), va_f, va_f, va_f, trivial⟩ fas_n (fun _ _ iv' fr _ => ⟨iv', R4_fr (by decide) fr re.1⟩)) (fun Q I L s b B H m f hb h0 hP ok hH hS kE kO => B_thing6 hb h0 hS (okB ok) a1 a2 a3 kE kO) kk
theorem M_thing7 {h1 : pm_H} {r a1 a2 a3 : Int32} (iv : sx_IV xT xtg xPH h1) (fa : R4 h1 ∧ FQ (fun S _ _ => aThing S a1 a2 a3) r h1) (kk : ∀ h2, sx_IV xT xtg xPH h2 → R6 h2 → Q [.int r] h2) : pm_W (g_P ys) 217 0 [.ref 275, .int a1, .int a2, .int a3, .retAddr 0] [] h1 (0, 0) Q :=
  M_gqn6 iv fa (ap_217 (ys := ys) h1 [.ref 275, .int a1, .int a2, .int a3] (fun _ h' => sx_IV xT xtg xPH h' ∧ R4 h') iv ⟨va_M, va_f, va_f, va_f, trivial⟩ fas_n (fun _ _ iv' fr _ => ⟨iv', R4_fr (by decide) fr fa.1⟩)) (fun Q I L s B H m hS o hH hP kE kO => M_thing6 hS (okW_S o) a1 a2 a3 kE kO) kk
/-- behind the class's undo -/
def FU (r : Int32) (h1 : pm_H) : Prop := ∃ b0 b1 B H m f, Rw h1 b0 b1 ∧ okW B H m ∧ KM B H m h1.1 ∧ ((m = 0 ∧ r = -1 ∧ KC b0 B H m f h1.1) ∨ ∃ m', m = m' + 1 ∧ r = nI m' ∧ KC b0 (B.wS (H m')) H m' f h1.1)
theorem B_undo7 (iv : sx_IV xT xtg xPH h) (re : R6 h) (kk : ∀ r h1, sx_IV xT xtg xPH h1 → R4 h1 ∧ FU r h1 → Q [.int r] h1) : pm_W (g_P ys) 118 0 [.ref 0] [] h (0, 0) Q := by
  have safe := ap_118 (ys := ys) h [.ref 0] (fun _ h' => sx_IV xT xtg xPH h' ∧ R4 h') iv ⟨va_r rfl (by omega), trivial⟩ fas_n (fun _ _ iv' fr _ => ⟨iv', R4_fr (by decide) fr re.1⟩)
  obtain ⟨I, L, s, rfl⟩ := x_form iv
  obtain ⟨b0, b1, B, H, m, f, rw_, o, kc, km⟩ := re.2
  have hb := rw_.2.1
  have bb := isB_b hb
  refine pw_imp (fun v h1 q => ?_) (pw_and safe (B_undo6 (Q := fun v h1 => ∃ r, v = [.int r] ∧ FU r h1) hb rw_.2.2.2.2.1 kc.2.2 (fun i hi => (o.2.2 i hi).1) (fun e => ⟨_, rfl, b0, b1, B, H, m, f, rw_, o, KM_a km o (fun a j z => pu_o (by omega)), Or.inl ⟨e, rfl, KC_a kc o.1 (fun a j z => pu_o (by omega))⟩⟩) (fun m' e I' af => ⟨_, rfl, b0, b1, B, H, m, ?_⟩)))
  · obtain ⟨⟨iv1, r4⟩, r, rfl, fa⟩ := q
    exact kk r h1 iv1 ⟨r4, fa⟩
  · obtain ⟨fs, _, _, c1, f', c2⟩ := af
    refine ⟨f', rw_, o, KM_a km o (fun a j z => fs a j (by omega) (by omega) (by omega) (by omega)), Or.inr ⟨m', e, rfl, ?_, c1, c2⟩⟩
    have kb : cBq b0 B I' := cBq_a kc.1 (fun a j z1 z2 => fs a j (by omega) (by omega) (by omega) z2) o.1
    exact kb
theorem M_undo7 {h1 : pm_H} {r : Int32} (iv : sx_IV xT xtg xPH h1) (fa : R4 h1 ∧ FU r h1) (kk : ∀ h2, sx_IV xT xtg xPH h2 → R6 h2 → Q [.int r] h2) : pm_W (g_P ys) 232 0 [.ref 275, .retAddr 0] [] h1 (0, 0) Q := by
  have safe := ap_232 (ys := ys) h1 [.ref 275] (fun _ h' => sx_IV xT xtg xPH h' ∧ R4 h') iv ⟨va_M, trivial⟩ fas_n (fun _ _ iv' fr _ => ⟨iv', R4_fr (by decide) fr fa.1⟩)
  obtain ⟨I, L, s, rfl⟩ := x_form iv
  obtain ⟨r4, b0, b1, B, H, m, f, rw_, o, km, fa⟩ := fa
  have hb := rw_.2.1
  have bb := isB_b hb
  refine pw_imp (fun v h1 q => ?_) (pw_and safe (M_undo6 (Q := fun v h1 => v = [.int r] ∧ RS h1) km.2.2 (fun i hi => (o.2.2 i hi).1) (fun e => ?_) (fun m' e I' af => ?_)))
  · obtain ⟨⟨iv1, r4⟩, rfl, rs⟩ := q
    exact kk h1 iv1 ⟨r4, rs⟩
  · rcases fa with ⟨_, rfl, kc⟩ | ⟨m', e', _⟩
    · refine ⟨rfl, b0, b1, B, H, m, f, rw_, o, KC_a kc o.1 (fun a j z => stI_o (by omega)), mBp_a km.1 (fun a j z => stI_o (fun y => ?_)), st_S km.2.1 (okW_S o), st_H km.2.2 (fun i hi => (o.2.2 i hi).1)⟩
      rcases z with z | z | z | z
      · have : j = 14 := z.2
        omega
      · omega
      · omega
      · omega
    · omega
  · rcases fa with ⟨e', _⟩ | ⟨m1, e', rfl, kc⟩
    · omega
    · have em : m1 = m' := by omega
      subst em
      obtain ⟨na, s1, g1⟩ := af
      have nn : ∀ a j, ¬ a = 290 → ¬ a = 288 → ¬ (a = 275 ∧ (j = 1 ∨ j = 0 ∨ j = 19)) → I' a j = I a j := fun a j z1 z2 z3 => (na a j z1 z2 z3).trans (stI_o (by omega))
      have oH := o.2.2 m1 (by omega)
      have o' : okW (B.wS (H m1)) H m1 := ⟨⟨o.1.1, o.1.2.1, oH.1 0 (by omega), oH.1 1 (by omega), oH.1 2 (by omega)⟩, oH.2, fun i hi => o.2.2 i (by omega)⟩
      refine ⟨rfl, b0, b1, B.wS (H m1), H, m1, f, rw_, o', KC_a kc o'.1 (fun a j z => nn a j (by omega) (by omega) (by omega)), ?_, s1, g1⟩
      have kp : mBp B I' := mBp_a km.1 (fun a j z => nn a j (by omega) (by omega) (by omega))
      exact kp
theorem B_feed7 (iv : sx_IV xT xtg xPH h) (re : R6 h) (a b c d e : Int32) (kk : ∀ r h1, sx_IV xT xtg xPH h1 → FM a b c d e r h1 ∧ RS h1 → Q [.int r] h1) : pm_W (g_P ys) 14 0 [.ref 0, .int a, .int b, .int c, .int d, .int e] [] h (0, 0) Q := by
  have safe := ap_14 (ys := ys) h [.ref 0, .int a, .int b, .int c, .int d, .int e] (fun _ h' => RS h') iv ⟨va_r rfl (by omega), va_f, va_f, va_f, va_f, va_f, trivial⟩ fas_n (fun _ _ _ fr _ => RS_fr (by decide) fr re.2)
  refine pw_imp (fun v h1 q => ?_) (pw_and safe (B_feed4 (Q := fun v h1 => ∃ r, v = [.int r] ∧ sx_IV xT xtg xPH h1 ∧ FM a b c d e r h1) iv re.1 a b c d e (fun r h1 iv1 m1 => ⟨r, rfl, iv1, m1⟩)))
  obtain ⟨rs, r, rfl, iv1, m1⟩ := q
  exact kk r h1 iv1 ⟨m1, rs⟩
theorem M_feed7 {h1 : pm_H} {r : Int32} {a b c d e : Int32} (iv : sx_IV xT xtg xPH h1) (m : FM a b c d e r h1 ∧ RS h1) (kk : ∀ h2, sx_IV xT xtg xPH h2 → R6 h2 → Q [.int r] h2) : pm_W (g_P ys) 276 0 [.ref 275, .int a, .int b, .int c, .int d, .int e] [] h1 (0, 0) Q := by
  have safe := ap_276 (ys := ys) h1 [.ref 275, .int a, .int b, .int c, .int d, .int e] (fun _ h' => RS h') iv ⟨va_M, va_f, va_f, va_f, va_f, va_f, trivial⟩ fas_n (fun _ _ _ fr _ => RS_fr (by decide) fr m.2)
  refine pw_imp (fun v h2 q => ?_) (pw_and safe (M_feed4 (Q := fun v h2 => v = [.int r] ∧ sx_IV xT xtg xPH h2 ∧ R4 h2) iv m.1 (fun h2 iv2 re2 => ⟨rfl, iv2, re2⟩)))
  obtain ⟨rs, rfl, iv2, re2⟩ := q
  exact kk h2 iv2 ⟨re2, rs⟩
end SQ
