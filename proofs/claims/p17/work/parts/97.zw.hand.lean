/-! BY HAND: the scene's calls beside each other -/
section SO
variable {I I' I1 I2 J : Nat → Nat → Int32} {L : Nat → Nat → Int64} {s : Nat → Option Nat} {Q : List Value → pm_H → Prop} {ys : List Int32} {ps m n q b f : Nat} {S S' : sS} {H H' : Nat → sS} {B : sB} {h h' : pm_H}
def R6 (h : pm_H) : Prop := R4 h ∧ RS h
theorem R6_fr {W : sx_W} {D : Bool × Bool} (hW : (rel4 W = true ∧ relS W = true) ∧ D.1 = false) (fr : sx_fr xtg xVP W D h h') (r : R6 h) : R6 h' := ⟨R4_fr ⟨hW.1.1, hW.2⟩ fr r.1, RS_fr ⟨hW.1.2, hW.2⟩ fr r.2⟩
theorem cBq_a (h : cBq b B I) (k : ∀ a j, (b ≤ a ∧ a ≤ b + 40) → ¬ (b + 2 ≤ a ∧ a ≤ b + 14) → I' a j = I a j) (ok : B.ok) : cBq b B I' := by
  obtain ⟨h1, h2⟩ := h
  refine ⟨(k _ _ (by omega) (by omega)).trans h1, fun i hi => ?_⟩
  have p6 := ok.1
  obtain ⟨⟨g1, g2, g3, g4⟩, g5, g6, g7, g8⟩ := h2 i hi
  have kk : ∀ a j, b + 17 + 4 * i ≤ a → a ≤ b + 17 + 4 * i + 2 → I' a j = I a j := fun a j z1 z2 => k a j (by omega) (by omega)
  exact ⟨⟨(kk _ _ (by omega) (by omega)).trans g1, (kk _ _ (by omega) (by omega)).trans g2, (kk _ _ (by omega) (by omega)).trans g3, g4⟩, (kk _ _ (by omega) (by omega)).trans g5, (kk _ _ (by omega) (by omega)).trans g6, (kk _ _ (by omega) (by omega)).trans g7, fun x hx => ⟨(kk _ _ (by omega) (by omega)).trans (g8 x hx).1, (kk _ _ (by omega) (by omega)).trans (g8 x hx).2⟩⟩
theorem KC_a (h : KC b B H m f I) (ok : B.ok) (k : ∀ a j, (b ≤ a ∧ a ≤ b + 40) ∨ (12 ≤ a ∧ a ≤ 169) → I' a j = I a j) : KC b B H m f I' := by
  obtain ⟨h1, h2, g1, g2, g3, g4, g5⟩ := h
  exact ⟨cBq_a h1 (fun a j z _ => k a j (Or.inl z)) ok, cSc_t h2 (fun a j z1 z2 => k a j (Or.inl (by omega))), g1, g2, (k _ _ (by omega)).trans g3, (k _ _ (by omega)).trans g4, fun i hi => cSc_t (g5 i hi) (fun a j z1 z2 => k a j (Or.inr (by omega)))⟩
theorem mBp_a (h : mBp B I) (k : ∀ a j, (a = 275 ∧ j = 14) ∨ a = 278 ∨ a = 280 ∨ a = 282 → I' a j = I a j) : mBp B I' := by
  obtain ⟨h1, h2⟩ := h
  refine ⟨(k _ _ (by omega)).trans h1, fun i hi => ?_⟩
  obtain ⟨g1, g2, g3⟩ := h2 i hi
  exact ⟨(k _ _ (by omega)).trans g1, (k _ _ (by omega)).trans g2, fun x hx => ⟨(k _ _ (by omega)).trans (g3 x hx).1, (k _ _ (by omega)).trans (g3 x hx).2⟩⟩
theorem KM_a (h : KM B H m I) (o : okW B H m) (k : ∀ a j, 275 ≤ a → I' a j = I a j) : KM B H m I' := ⟨mBp_a h.1 (fun a j z => k a j (by omega)), mSc_f h.2.1 (okW_S o) (fun j => k _ _ (by decide)), mHs_f h.2.2 (fun i hi => (o.2.2 i hi).1) (fun j => k _ _ (by decide)) (k _ _ (by decide))⟩
/-- behind the class's ACT -/
def FA (a : sS → Nat → Except Int32 (Int32 × sS)) (r : Int32) (h1 : pm_H) : Prop := ∃ b0 b1 B H m f, Rw h1 b0 b1 ∧ okW B H m ∧ KM B H m h1.1 ∧ ((∃ e, a B.S B.ps = .error e ∧ r = -1 ∧ KC b0 B H m f h1.1) ∨ ∃ S', a B.S B.ps = .ok (r, S') ∧ okW (B.wS S') (psh H m B.S) (rmM m) ∧ KC b0 (B.wS S') (psh H m B.S) (rmM m) f h1.1)
theorem okW_act {r : Int32} {a : sS → Nat → Except Int32 (Int32 × sS)} (aok : ∀ S S' ps r, S.ok → okU S ps → a S ps = .ok (r, S') → S'.ok ∧ okU S' ps) (o : okW B H m) (h12 : m ≤ 12) (e : a B.S B.ps = .ok (r, S')) : okW (B.wS S') (psh H m B.S) (rmM m) := by
  obtain ⟨z1, z2⟩ := aok _ _ _ _ (okW_S o) o.2.1 e
  refine ⟨⟨o.1.1, o.1.2.1, z1 0 (by omega), z1 1 (by omega), z1 2 (by omega)⟩, z2, fun i hi => ?_⟩
  unfold psh
  unfold rmM at hi
  split
  · split
    · exact ⟨okW_S o, o.2.1⟩
    · rename_i e1 e2
      rw [if_pos e1] at hi
      exact o.2.2 i (by omega)
  · split
    · exact ⟨okW_S o, o.2.1⟩
    · rename_i e1 e2
      rw [if_neg e1] at hi
      exact o.2.2 (i + 1) (by omega)
theorem B_gen6 {k : Nat} {lv : List Value} {a : sS → Nat → Except Int32 (Int32 × sS)} (iv : sx_IV xT xtg xPH h) (re : RS h) (safe : pm_W (g_P ys) k 0 lv [] h (0, 0) (fun _ h' => sx_IV xT xtg xPH h' ∧ R4 h')) (aok : ∀ S S' ps r, S.ok → okU S ps → a S ps = .ok (r, S') → S'.ok ∧ okU S' ps)
    (ex : ∀ (Q : List Value → pm_H → Prop) (I : Nat → Nat → Int32) (L : Nat → Nat → Int64) (s : Nat → Option Nat) (b : Nat) (B : sB) (H : Nat → sS) (m f : Nat), isB b → s 0 = some b → I b 3 = nI B.ps → B.ok → cHs H m f I → cSc (b + 2) B.S I → (∀ e, a B.S B.ps = .error e → Q [.int (-1)] (pm_u I 0 10 e, L, g_R s, 306)) → (∀ r S', a B.S B.ps = .ok (r, S') → ∀ I', aftB b S' (psh H m B.S) (rmM m) I I' → Q [.int r] (I', L, g_R s, 306)) → pm_W (g_P ys) k 0 lv [] (I, L, g_R s, 306) (0, 0) Q)
    (kk : ∀ r h1, sx_IV xT xtg xPH h1 → R4 h1 ∧ FA a r h1 → Q [.int r] h1) : pm_W (g_P ys) k 0 lv [] h (0, 0) Q := by
  obtain ⟨I, L, s, rfl⟩ := x_form iv
  obtain ⟨b0, b1, B, H, m, f, rw_, o, kc, km⟩ := re
  have hb := rw_.2.1
  have bb := isB_b hb
  refine pw_imp (fun v h1 q => ?_) (pw_and safe (ex (fun v h1 => ∃ r, v = [.int r] ∧ FA a r h1) I L s b0 B H m f hb rw_.2.2.2.2.1 kc.1.1 o.1 kc.2.2 kc.2.1 (fun e he => ⟨_, rfl, b0, b1, B, H, m, f, rw_, o, ?_, Or.inl ⟨e, he, rfl, ?_⟩⟩) (fun r S' he I' af => ⟨_, rfl, b0, b1, B, H, m, ?_⟩)))
  · obtain ⟨⟨iv1, r4⟩, r, rfl, fa⟩ := q
    exact kk r h1 iv1 ⟨r4, fa⟩
  · exact KM_a km o (fun a j z => pu_o (by omega))
  · exact KC_a kc o.1 (fun a j z => pu_o (by omega))
  · obtain ⟨fs, _, _, c1, f', c2⟩ := af
    refine ⟨f', rw_, o, KM_a km o (fun a j z => fs a j (by omega) (by omega) (by omega) (by omega)), Or.inr ⟨S', he, okW_act aok o kc.2.2.2.1 he, ?_, c1, c2⟩⟩
    have kb : cBq b0 B I' := cBq_a kc.1 (fun a j z1 z2 => fs a j (by omega) (by omega) (by omega) z2) o.1
    exact kb
theorem M_gen6 {k : Nat} {lv : List Value} {a : sS → Nat → Except Int32 (Int32 × sS)} {r : Int32} {h1 : pm_H} (iv : sx_IV xT xtg xPH h1) (fa : R4 h1 ∧ FA a r h1) (safe : pm_W (g_P ys) k 0 lv [] h1 (0, 0) (fun _ h' => sx_IV xT xtg xPH h' ∧ R4 h'))
    (ex : ∀ (Q : List Value → pm_H → Prop) (I : Nat → Nat → Int32) (L : Nat → Nat → Int64) (s : Nat → Option Nat) (B : sB) (H : Nat → sS) (m : Nat), mSc 288 0 B.S I → okW B H m → mHs H m I → I 275 14 = nI B.ps → (∀ e, a B.S B.ps = .error e → Q [.int (-1)] (stI I e, L, g_R s, 306)) → (∀ r S', a B.S B.ps = .ok (r, S') → ∀ I', aftM S' (psh H m B.S) (rmM m) (stI I 0) I' → Q [.int r] (I', L, g_R s, 306)) → pm_W (g_P ys) k 0 lv [] (I, L, g_R s, 306) (0, 0) Q)
    (kk : ∀ h2, sx_IV xT xtg xPH h2 → R6 h2 → Q [.int r] h2) : pm_W (g_P ys) k 0 lv [] h1 (0, 0) Q := by
  obtain ⟨I, L, s, rfl⟩ := x_form iv
  obtain ⟨r4, b0, b1, B, H, m, f, rw_, o, km, fa⟩ := fa
  have hb := rw_.2.1
  have bb := isB_b hb
  refine pw_imp (fun v h1 q => ?_) (pw_and safe (ex (fun v h1 => v = [.int r] ∧ RS h1) I L s B H m km.2.1 o km.2.2 km.1.1 (fun e he => ?_) (fun r' S' he I' af => ?_)))
  · obtain ⟨⟨iv1, r4⟩, rfl, rs⟩ := q
    exact kk h1 iv1 ⟨r4, rs⟩
  · rcases fa with ⟨e', he', rfl, kc⟩ | ⟨S', he', _⟩
    · refine ⟨rfl, b0, b1, B, H, m, f, rw_, o, KC_a kc o.1 (fun a j z => stI_o (by omega)), mBp_a km.1 (fun a j z => stI_o (fun y => ?_)), st_S km.2.1 (okW_S o), st_H km.2.2 (fun i hi => (o.2.2 i hi).1)⟩
      rcases z with z | z | z | z
      · have : j = 14 := z.2
        omega
      · omega
      · omega
      · omega
    · rw [he] at he'
      cases he'
  · rcases fa with ⟨e', he', _⟩ | ⟨S1, he', o', kc⟩
    · rw [he] at he'
      cases he'
    · rw [he] at he'
      cases he'
      obtain ⟨na, s1, g1⟩ := af
      have nn : ∀ a j, ¬ a = 290 → ¬ a = 288 → ¬ (a = 275 ∧ (j = 1 ∨ j = 0 ∨ j = 19)) → I' a j = I a j := fun a j z1 z2 z3 => (na a j z1 z2 z3).trans (stI_o (by omega))
      refine ⟨rfl, b0, b1, B.wS S', psh H m B.S, rmM m, f, rw_, o', KC_a kc o'.1 (fun a j z => nn a j (by omega) (by omega) (by omega)), ?_, s1, g1⟩
      have kp : mBp B I' := mBp_a km.1 (fun a j z => nn a j (by omega) (by omega) (by omega))
      exact kp
def exv : Except Int32 Int32 → Int32
  | .error _ => -1
  | .ok v => v
/-- behind the class's answer -/
def FQ (a : sS → Nat → Nat → Except Int32 Int32) (r : Int32) (h1 : pm_H) : Prop := ∃ b0 b1 B H m f, Rw h1 b0 b1 ∧ okW B H m ∧ KC b0 B H m f h1.1 ∧ KM B H m h1.1 ∧ r = exv (a B.S B.ps m)
theorem B_gqn6 {k : Nat} {lv : List Value} {a : sS → Nat → Nat → Except Int32 Int32} (iv : sx_IV xT xtg xPH h) (re : RS h) (safe : pm_W (g_P ys) k 0 lv [] h (0, 0) (fun _ h' => sx_IV xT xtg xPH h' ∧ R4 h'))
    (ex : ∀ (Q : List Value → pm_H → Prop) (I : Nat → Nat → Int32) (L : Nat → Nat → Int64) (s : Nat → Option Nat) (b : Nat) (B : sB) (H : Nat → sS) (m f : Nat), isB b → s 0 = some b → I b 3 = nI B.ps → B.ok → cHs H m f I → cSc (b + 2) B.S I → (∀ e, a B.S B.ps m = .error e → Q [.int (-1)] (pm_u I 0 10 e, L, g_R s, 306)) → (∀ r, a B.S B.ps m = .ok r → Q [.int r] (pm_u I 0 10 0, L, g_R s, 306)) → pm_W (g_P ys) k 0 lv [] (I, L, g_R s, 306) (0, 0) Q)
    (kk : ∀ r h1, sx_IV xT xtg xPH h1 → R4 h1 ∧ FQ a r h1 → Q [.int r] h1) : pm_W (g_P ys) k 0 lv [] h (0, 0) Q := by
  obtain ⟨I, L, s, rfl⟩ := x_form iv
  obtain ⟨b0, b1, B, H, m, f, rw_, o, kc, km⟩ := re
  have hb := rw_.2.1
  have bb := isB_b hb
  have go : ∀ e r, r = exv (a B.S B.ps m) → FQ a r (pm_u I 0 10 e, L, g_R s, 306) := fun e r he => ⟨b0, b1, B, H, m, f, rw_, o, KC_a kc o.1 (fun a j z => pu_o (by omega)), KM_a km o (fun a j z => pu_o (by omega)), he⟩
  refine pw_imp (fun v h1 q => ?_) (pw_and safe (ex (fun v h1 => ∃ r, v = [.int r] ∧ FQ a r h1) I L s b0 B H m f hb rw_.2.2.2.2.1 kc.1.1 o.1 kc.2.2 kc.2.1 (fun e he => ⟨_, rfl, go _ _ (by rw [he]; rfl)⟩) (fun r he => ⟨_, rfl, go _ _ (by rw [he]; rfl)⟩)))
  obtain ⟨⟨iv1, r4⟩, r, rfl, fa⟩ := q
  exact kk r h1 iv1 ⟨r4, fa⟩
theorem M_gqn6 {k : Nat} {lv : List Value} {a : sS → Nat → Nat → Except Int32 Int32} {r : Int32} {h1 : pm_H} (iv : sx_IV xT xtg xPH h1) (fa : R4 h1 ∧ FQ a r h1) (safe : pm_W (g_P ys) k 0 lv [] h1 (0, 0) (fun _ h' => sx_IV xT xtg xPH h' ∧ R4 h'))
    (ex : ∀ (Q : List Value → pm_H → Prop) (I : Nat → Nat → Int32) (L : Nat → Nat → Int64) (s : Nat → Option Nat) (B : sB) (H : Nat → sS) (m : Nat), mSc 288 0 B.S I → okW B H m → mHs H m I → I 275 14 = nI B.ps → (∀ e, a B.S B.ps m = .error e → Q [.int (-1)] (stI I e, L, g_R s, 306)) → (∀ r, a B.S B.ps m = .ok r → Q [.int r] (stI I 0, L, g_R s, 306)) → pm_W (g_P ys) k 0 lv [] (I, L, g_R s, 306) (0, 0) Q)
    (kk : ∀ h2, sx_IV xT xtg xPH h2 → R6 h2 → Q [.int r] h2) : pm_W (g_P ys) k 0 lv [] h1 (0, 0) Q := by
  obtain ⟨I, L, s, rfl⟩ := x_form iv
  obtain ⟨r4, b0, b1, B, H, m, f, rw_, o, kc, km, hr⟩ := fa
  have hb := rw_.2.1
  have bb := isB_b hb
  have go : ∀ e, RS (stI I e, L, g_R s, 306) := by
    intro e
    refine ⟨b0, b1, B, H, m, f, rw_, o, KC_a kc o.1 (fun a j z => stI_o (by omega)), mBp_a km.1 (fun a j z => stI_o (fun y => ?_)), st_S km.2.1 (okW_S o), st_H km.2.2 (fun i hi => (o.2.2 i hi).1)⟩
    rcases z with z | z | z | z
    · have : j = 14 := z.2
      omega
    · omega
    · omega
    · omega
  refine pw_imp (fun v h1 q => ?_) (pw_and safe (ex (fun v h1 => v = [.int r] ∧ RS h1) I L s B H m km.2.1 o km.2.2 km.1.1 (fun e he => ⟨by rw [hr, he]; rfl, go e⟩) (fun r' he => ⟨by rw [hr, he]; rfl, go 0⟩)))
  obtain ⟨⟨iv1, r4⟩, rfl, rs⟩ := q
  exact kk h1 iv1 ⟨r4, rs⟩
end SO
