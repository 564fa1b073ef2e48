/-! BY HAND: differences, window, alike beside each other (printed by wip/src/gen97zzf.py) -/
section TH
variable {I I' I1 I2 J : Nat → Nat → Int32} {L : Nat → Nat → Int64} {s : Nat → Option Nat} {Q : List Value → pm_H → Prop} {ys : List Int32} {h h' : pm_H} {B : sB}
/-- behind the class's answer about PLATES -/
def FB (a : sB → Except Int32 Int32) (r : Int32) (h1 : pm_H) : Prop := ∃ b0 b1 B H m f, Rw h1 b0 b1 ∧ okW B H m ∧ KC b0 B H m f h1.1 ∧ KM B H m h1.1 ∧ r = exv (a B)
theorem B_gq9 {k : Nat} {lv : List Value} {a : sB → Except Int32 Int32} (iv : sx_IV xT xtg xPH h) (re : RS h) (safe : pm_W (g_P ys) k 0 lv [] h (0, 0) (fun _ h' => sx_IV xT xtg xPH h' ∧ R4 h'))
    (ex : ∀ (Q : List Value → pm_H → Prop) (I : Nat → Nat → Int32) (L : Nat → Nat → Int64) (s : Nat → Option Nat) (b : Nat) (B : sB), isB b → s 0 = some b → cBq b B I → B.ok → (∀ r I', r = exv (a B) → qAg I I' → Q [.int r] (I', L, g_R s, 306)) → pm_W (g_P ys) k 0 lv [] (I, L, g_R s, 306) (0, 0) Q)
    (kk : ∀ r h1, sx_IV xT xtg xPH h1 → R4 h1 ∧ FB a r h1 → Q [.int r] h1) : pm_W (g_P ys) k 0 lv [] h (0, 0) Q := by
  obtain ⟨I, L, s, rfl⟩ := x_form iv
  obtain ⟨b0, b1, B, H, m, f, rw_, o, kc, km⟩ := re
  have hb := rw_.2.1
  have bb := isB_b hb
  refine pw_imp (fun v h1 q => ?_) (pw_and safe (ex (fun v h1 => ∃ r, v = [.int r] ∧ FB a r h1) I L s b0 B hb rw_.2.2.2.2.1 kc.1 o.1 (fun r I' he ag => ⟨_, rfl, b0, b1, B, H, m, f, rw_, o, KC_a kc o.1 (fun a j z => ag a j (by omega) (by omega)), KM_a km o (fun a j z => ag a j (by omega) (by omega)), he⟩)))
  obtain ⟨⟨iv1, r4⟩, r, rfl, fa⟩ := q
  exact kk r h1 iv1 ⟨r4, fa⟩
theorem M_gq9 {k : Nat} {lv : List Value} {a : sB → Except Int32 Int32} {r : Int32} {h1 : pm_H} (iv : sx_IV xT xtg xPH h1) (fa : R4 h1 ∧ FB a r h1) (safe : pm_W (g_P ys) k 0 lv [] h1 (0, 0) (fun _ h' => sx_IV xT xtg xPH h' ∧ R4 h'))
    (ex : ∀ (Q : List Value → pm_H → Prop) (I : Nat → Nat → Int32) (L : Nat → Nat → Int64) (s : Nat → Option Nat) (B : sB), mBp B I → B.ok → (∀ r e, r = exv (a B) → Q [.int r] (stI I e, L, g_R s, 306)) → pm_W (g_P ys) k 0 lv [] (I, L, g_R s, 306) (0, 0) Q)
    (kk : ∀ h2, sx_IV xT xtg xPH h2 → R6 h2 → Q [.int r] h2) : pm_W (g_P ys) k 0 lv [] h1 (0, 0) Q := by
  obtain ⟨I, L, s, rfl⟩ := x_form iv
  obtain ⟨r4, b0, b1, B, H, m, f, rw_, o, kc, km, hr⟩ := fa
  have hb := rw_.2.1
  have bb := isB_b hb
  refine pw_imp (fun v h1 q => ?_) (pw_and safe (ex (fun v h1 => v = [.int r] ∧ RS h1) I L s B km.1 o.1 (fun r' e he => ⟨by rw [he, hr], b0, b1, B, H, m, f, rw_, o, KC_a kc o.1 (fun a j z => stI_o (by omega)), mBp_st km.1, st_S km.2.1 (okW_S o), st_H km.2.2 (fun i hi => (o.2.2 i hi).1)⟩)))
  obtain ⟨⟨iv1, r4⟩, rfl, rs⟩ := q
  exact kk h1 iv1 ⟨r4, rs⟩
theorem B_differences7 (iv : sx_IV xT xtg xPH h) (re : R6 h) (a1 a2 : Int32) (kk : ∀ r h1, sx_IV xT xtg xPH h1 → R4 h1 ∧ FB (fun B => qDif B a1 a2) r h1 → Q [.int r] h1) : pm_W (g_P ys) 90 0 [.ref 0, .int a1, .int a2, .retAddr 0, .retAddr 0] [] h (0, 0) Q :=
  B_gq9 iv re.2 (ap_90 (ys := ys) h [.ref 0, .int a1, .int a2] (fun _ h' => sx_IV xT xtg xPH h' ∧ R4 h') iv ⟨va_r rfl (by omega), va_f, va_f, trivial⟩ fas_n (fun _ _ iv' fr _ => ⟨iv', R4_fr (by decide) fr re.1⟩)) (fun Q I L s b B hb h0 hB ok kk => B_differences6 hb h0 hB ok a1 a2 kk) kk
theorem M_differences7 {h1 : pm_H} {r a1 a2 : Int32} (iv : sx_IV xT xtg xPH h1) (fa : R4 h1 ∧ FB (fun B => qDif B a1 a2) r h1) (kk : ∀ h2, sx_IV xT xtg xPH h2 → R6 h2 → Q [.int r] h2) : pm_W (g_P ys) 214 0 [.ref 275, .int a1, .int a2, .retAddr 0, .retAddr 0, .retAddr 0, .retAddr 0, .retAddr 0] [] h1 (0, 0) Q :=
  M_gq9 iv fa (ap_214 (ys := ys) h1 [.ref 275, .int a1, .int a2] (fun _ h' => sx_IV xT xtg xPH h' ∧ R4 h') iv ⟨va_M, va_f, va_f, trivial⟩ fas_n (fun _ _ iv' fr _ => ⟨iv', R4_fr (by decide) fr fa.1⟩)) (fun Q I L s B hm ok kk => M_differences9 hm ok a1 a2 kk) kk
theorem B_window7 (iv : sx_IV xT xtg xPH h) (re : R6 h) (a1 a2 a3 a4 a5 : Int32) (kk : ∀ r h1, sx_IV xT xtg xPH h1 → R4 h1 ∧ FB (fun B => qWin B a1 a2 a3 a4 a5) r h1 → Q [.int r] h1) : pm_W (g_P ys) 92 0 [.ref 0, .int a1, .int a2, .int a3, .int a4, .int a5, .retAddr 0, .retAddr 0, .retAddr 0, .retAddr 0] [] h (0, 0) Q :=
  B_gq9 iv re.2 (ap_92 (ys := ys) h [.ref 0, .int a1, .int a2, .int a3, .int a4, .int a5] (fun _ h' => sx_IV xT xtg xPH h' ∧ R4 h') iv ⟨va_r rfl (by omega), va_f, va_f, va_f, va_f, va_f, trivial⟩ fas_n (fun _ _ iv' fr _ => ⟨iv', R4_fr (by decide) fr re.1⟩)) (fun Q I L s b B hb h0 hB ok kk => B_window6 hb h0 hB ok a1 a2 a3 a4 a5 kk) kk
theorem M_window7 {h1 : pm_H} {r a1 a2 a3 a4 a5 : Int32} (iv : sx_IV xT xtg xPH h1) (fa : R4 h1 ∧ FB (fun B => qWin B a1 a2 a3 a4 a5) r h1) (kk : ∀ h2, sx_IV xT xtg xPH h2 → R6 h2 → Q [.int r] h2) : pm_W (g_P ys) 216 0 [.ref 275, .int a1, .int a2, .int a3, .int a4, .int a5, .retAddr 0, .retAddr 0, .retAddr 0] [] h1 (0, 0) Q :=
  M_gq9 iv fa (ap_216 (ys := ys) h1 [.ref 275, .int a1, .int a2, .int a3, .int a4, .int a5] (fun _ h' => sx_IV xT xtg xPH h' ∧ R4 h') iv ⟨va_M, va_f, va_f, va_f, va_f, va_f, trivial⟩ fas_n (fun _ _ iv' fr _ => ⟨iv', R4_fr (by decide) fr fa.1⟩)) (fun Q I L s B hm ok kk => M_window9 hm ok a1 a2 a3 a4 a5 kk) kk
theorem B_alike7 (iv : sx_IV xT xtg xPH h) (re : R6 h) (a1 a2 : Int32) (kk : ∀ r h1, sx_IV xT xtg xPH h1 → R4 h1 ∧ FB (fun B => qAlk B a1 a2) r h1 → Q [.int r] h1) : pm_W (g_P ys) 94 0 [.ref 0, .int a1, .int a2, .retAddr 0, .retAddr 0] [] h (0, 0) Q :=
  B_gq9 iv re.2 (ap_94 (ys := ys) h [.ref 0, .int a1, .int a2] (fun _ h' => sx_IV xT xtg xPH h' ∧ R4 h') iv ⟨va_r rfl (by omega), va_f, va_f, trivial⟩ fas_n (fun _ _ iv' fr _ => ⟨iv', R4_fr (by decide) fr re.1⟩)) (fun Q I L s b B hb h0 hB ok kk => B_alike6 hb h0 hB ok a1 a2 kk) kk
theorem M_alike7 {h1 : pm_H} {r a1 a2 : Int32} (iv : sx_IV xT xtg xPH h1) (fa : R4 h1 ∧ FB (fun B => qAlk B a1 a2) r h1) (kk : ∀ h2, sx_IV xT xtg xPH h2 → R6 h2 → Q [.int r] h2) : pm_W (g_P ys) 209 0 [.ref 275, .int a1, .int a2, .retAddr 0, .retAddr 0] [] h1 (0, 0) Q :=
  M_gq9 iv fa (ap_209 (ys := ys) h1 [.ref 275, .int a1, .int a2] (fun _ h' => sx_IV xT xtg xPH h' ∧ R4 h') iv ⟨va_M, va_f, va_f, trivial⟩ fas_n (fun _ _ iv' fr _ => ⟨iv', R4_fr (by decide) fr fa.1⟩)) (fun Q I L s B hm ok kk => M_alike9 hm ok a1 a2 kk) kk
end TH
