/-! THE LAW of p17, call by call (printed by wip/p3/gen98b.py) -/
abbrev lwR (h : pm_H) : Prop := R6 h
theorem lwR_fr {W : sx_W} {D : Bool × Bool} {h h' : pm_H} (hW : (rel4 W = true ∧ relS W = true) ∧ D.1 = false) (fr : sx_fr xtg xVP W D h h') (r : lwR h) : lwR h' := R6_fr hW fr r
theorem lwR_0 {ρ : Nat → Int32} {h : pm_H} (hr : se_hr ρ g_H1 h) (e : h.1 = gi0) : lwR h := R6_0 hr e
section LA
variable {ys : List Int32} {Q : List Value → pm_H → Prop} {i : Nat} {h : pm_H}
theorem lw_cs : g_c1.1 ≤ pm_mc (g_P ys) 0 ∧ g_c1.2 ≤ pm_ms (g_P ys) 0 := ⟨Nat.le_of_ble_eq_true rfl, Nat.le_of_ble_eq_true rfl⟩
theorem lw_rd {c : Nat} {d : Int32} {pc p1 p2 p3 p4 p5 : Nat} {st : List Value} {cs : Nat × Nat} (h1 : pm_cod (g_P ys) 0 pc = some (.inr (.aload 0), p1)) (h2 : pm_cod (g_P ys) 0 p1 = some (.inr (.iload 3), p2)) (h3 : pm_cod (g_P ys) 0 p2 = some (.inl (.int d), p3)) (h4 : pm_cod (g_P ys) 0 p3 = some (.inr .iadd, p4)) (h5 : pm_cod (g_P ys) 0 p4 = some (.inr .saload, p5)) (hd : d = nI c) (hi : i + c < ys.length) (hl : ys.length ≤ 3072) (kk : pm_W (g_P ys) 0 p5 [.ref 99999, .ref 0, .ref 275, .int (nI i)] (.int (ys.getD (i + c) 0) :: st) h cs Q) : pm_W (g_P ys) 0 pc [.ref 99999, .ref 0, .ref 275, .int (nI i)] st h cs Q := by
  subst hd
  refine ps_aload h1 rfl ?_
  refine ps_iload h2 rfl ?_
  refine pw_c h3 ?_
  refine ps_ar h4 rfl rfl rfl (show _ = some (.int (nI i + nI c) :: .ref 99999 :: st) from rfl) ?_
  rw [nI_add]
  have e : pm_in (nI (i + c)) ys.length = true := by rw [pm_in_nI hi (by omega)]
  refine ps_he h5 rfl rfl rfl rfl rfl (show pm_he (g_P ys) .saload (.int (nI (i + c)) :: .ref 99999 :: st) h = some (.int (ys.getD (i + c) 0) :: st, h) from ?_) kk
  simp only [pm_he]
  rw [if_pos ⟨trivial, e⟩, nI_clamp (show i + c < 2 ^ 31 by omega)]
  rfl
theorem lw_status (hi : i + 5 < ys.length) (hl : ys.length ≤ 3072) (iv : sx_IV xT xtg xPH h) (re : lwR h) (kk : ∀ h', sx_IV xT xtg xPH h' → lwR h' → pm_W (g_P ys) 0 1320 [.ref 99999, .ref 0, .ref 275, .int (nI i)] [] h' g_c1 Q) : pm_W (g_P ys) 0 192 [.ref 99999, .ref 0, .ref 275, .int (nI i)] [] h g_c1 Q := by
  refine ps_aload rfl rfl ?_
  refine pv_k (m := 0) rfl rfl rfl rfl rfl (shp_of iv (a := 0) (t := 1) rfl rfl) rfl lw_cs ?_
  refine ap_13 h [.ref 0] _ iv ⟨va_r rfl (by omega), trivial⟩ fas_n (fun v1 h1 iv1 fr1 q1 => ?_)
  obtain ⟨x1, rfl⟩ := out_1 q1
  have re1 := lwR_fr (h := h) (h' := h1) (by decide) fr1 re
  refine ps_ar rfl rfl rfl rfl rfl ?_
  refine ps_aload rfl rfl ?_
  refine pv_k (m := 0) rfl rfl rfl rfl rfl (shp_of iv1 (a := 275) (t := 50) rfl rfl) rfl lw_cs ?_
  refine ap_189 h1 [.ref 275] _ iv1 ⟨va_M, trivial⟩ fas_n (fun v2 h2 iv2 fr2 q2 => ?_)
  obtain ⟨x2, rfl⟩ := out_1 q2
  have re2 := lwR_fr (h := h1) (h' := h2) (by decide) fr2 re1
  refine ps_ar rfl rfl rfl rfl rfl ?_
  refine ps_goto rfl ?_
  exact kk _ iv2 re2
theorem lw_feed (hi : i + 5 < ys.length) (hl : ys.length ≤ 3072) (iv : sx_IV xT xtg xPH h) (re : lwR h) (kk : ∀ h', sx_IV xT xtg xPH h' → lwR h' → pm_W (g_P ys) 0 1320 [.ref 99999, .ref 0, .ref 275, .int (nI i)] [] h' g_c1 Q) : pm_W (g_P ys) 0 205 [.ref 99999, .ref 0, .ref 275, .int (nI i)] [] h g_c1 Q := by
  refine ps_aload rfl rfl ?_
  refine lw_rd (c := 1) rfl rfl rfl rfl rfl rfl (by omega) hl ?_
  refine lw_rd (c := 2) rfl rfl rfl rfl rfl rfl (by omega) hl ?_
  refine lw_rd (c := 3) rfl rfl rfl rfl rfl rfl (by omega) hl ?_
  refine lw_rd (c := 4) rfl rfl rfl rfl rfl rfl (by omega) hl ?_
  refine lw_rd (c := 5) rfl rfl rfl rfl rfl rfl (by omega) hl ?_
  refine pv_k (m := 0) rfl rfl rfl rfl rfl (shp_of iv (a := 0) (t := 1) rfl rfl) rfl lw_cs ?_
  refine B_feed7 iv re _ _ _ _ _ (fun r1 h1 iv1 m1 => ?_)
  refine ps_ar rfl rfl rfl rfl rfl ?_
  refine ps_aload rfl rfl ?_
  refine lw_rd (c := 1) rfl rfl rfl rfl rfl rfl (by omega) hl ?_
  refine lw_rd (c := 2) rfl rfl rfl rfl rfl rfl (by omega) hl ?_
  refine lw_rd (c := 3) rfl rfl rfl rfl rfl rfl (by omega) hl ?_
  refine lw_rd (c := 4) rfl rfl rfl rfl rfl rfl (by omega) hl ?_
  refine lw_rd (c := 5) rfl rfl rfl rfl rfl rfl (by omega) hl ?_
  refine pv_k (m := 0) rfl rfl rfl rfl rfl (shp_of iv1 (a := 275) (t := 50) rfl rfl) rfl lw_cs ?_
  refine M_feed7 iv1 m1 (fun h2 iv2 re2 => ?_)
  refine ps_ar rfl rfl rfl rfl rfl ?_
  refine ps_goto rfl ?_
  exact kk _ iv2 re2
theorem lw_load (hi : i + 5 < ys.length) (hl : ys.length ≤ 3072) (iv : sx_IV xT xtg xPH h) (re : lwR h) (kk : ∀ h', sx_IV xT xtg xPH h' → lwR h' → pm_W (g_P ys) 0 1320 [.ref 99999, .ref 0, .ref 275, .int (nI i)] [] h' g_c1 Q) : pm_W (g_P ys) 0 268 [.ref 99999, .ref 0, .ref 275, .int (nI i)] [] h g_c1 Q := by
  refine ps_aload rfl rfl ?_
  refine lw_rd (c := 1) rfl rfl rfl rfl rfl rfl (by omega) hl ?_
  refine pv_k (m := 0) rfl rfl rfl rfl rfl (shp_of iv (a := 0) (t := 1) rfl rfl) rfl lw_cs ?_
  refine B_load7 iv re _ (fun r1 h1 iv1 m1 => ?_)
  refine ps_ar rfl rfl rfl rfl rfl ?_
  refine ps_aload rfl rfl ?_
  refine lw_rd (c := 1) rfl rfl rfl rfl rfl rfl (by omega) hl ?_
  refine pv_k (m := 0) rfl rfl rfl rfl rfl (shp_of iv1 (a := 275) (t := 50) rfl rfl) rfl lw_cs ?_
  refine M_load7 iv1 m1 (fun h2 iv2 re2 => ?_)
  refine ps_ar rfl rfl rfl rfl rfl ?_
  refine ps_goto rfl ?_
  exact kk _ iv2 re2
theorem lw_fault (hi : i + 5 < ys.length) (hl : ys.length ≤ 3072) (iv : sx_IV xT xtg xPH h) (re : lwR h) (kk : ∀ h', sx_IV xT xtg xPH h' → lwR h' → pm_W (g_P ys) 0 1320 [.ref 99999, .ref 0, .ref 275, .int (nI i)] [] h' g_c1 Q) : pm_W (g_P ys) 0 291 [.ref 99999, .ref 0, .ref 275, .int (nI i)] [] h g_c1 Q := by
  refine ps_aload rfl rfl ?_
  refine lw_rd (c := 1) rfl rfl rfl rfl rfl rfl (by omega) hl ?_
  refine pv_k (m := 0) rfl rfl rfl rfl rfl (shp_of iv (a := 0) (t := 1) rfl rfl) rfl lw_cs ?_
  refine ap_81 h [.ref 0, .int (ys.getD (i + 1) 0)] _ iv ⟨va_r rfl (by omega), va_f, trivial⟩ fas_n (fun v1 h1 iv1 fr1 q1 => ?_)
  obtain ⟨x1, rfl⟩ := out_1 q1
  have re1 := lwR_fr (h := h) (h' := h1) (by decide) fr1 re
  refine ps_ar rfl rfl rfl rfl rfl ?_
  refine ps_aload rfl rfl ?_
  refine lw_rd (c := 1) rfl rfl rfl rfl rfl rfl (by omega) hl ?_
  refine pv_k (m := 0) rfl rfl rfl rfl rfl (shp_of iv1 (a := 275) (t := 50) rfl rfl) rfl lw_cs ?_
  refine ap_306 h1 [.ref 275, .int (ys.getD (i + 1) 0)] _ iv1 ⟨va_M, va_f, trivial⟩ fas_n (fun v2 h2 iv2 fr2 q2 => ?_)
  obtain ⟨x2, rfl⟩ := out_1 q2
  have re2 := lwR_fr (h := h1) (h' := h2) (by decide) fr2 re1
  refine ps_ar rfl rfl rfl rfl rfl ?_
  refine ps_goto rfl ?_
  exact kk _ iv2 re2
theorem lw_many (hi : i + 5 < ys.length) (hl : ys.length ≤ 3072) (iv : sx_IV xT xtg xPH h) (re : lwR h) (kk : ∀ h', sx_IV xT xtg xPH h' → lwR h' → pm_W (g_P ys) 0 1320 [.ref 99999, .ref 0, .ref 275, .int (nI i)] [] h' g_c1 Q) : pm_W (g_P ys) 0 314 [.ref 99999, .ref 0, .ref 275, .int (nI i)] [] h g_c1 Q := by
  refine ps_aload rfl rfl ?_
  refine lw_rd (c := 1) rfl rfl rfl rfl rfl rfl (by omega) hl ?_
  refine pv_k (m := 0) rfl rfl rfl rfl rfl (shp_of iv (a := 0) (t := 1) rfl rfl) rfl lw_cs ?_
  refine B_many7 iv re _ (fun r1 h1 iv1 m1 => ?_)
  refine ps_ar rfl rfl rfl rfl rfl ?_
  refine ps_aload rfl rfl ?_
  refine lw_rd (c := 1) rfl rfl rfl rfl rfl rfl (by omega) hl ?_
  refine pv_k (m := 0) rfl rfl rfl rfl rfl (shp_of iv1 (a := 275) (t := 50) rfl rfl) rfl lw_cs ?_
  refine M_many7 iv1 m1 (fun h2 iv2 re2 => ?_)
  refine ps_ar rfl rfl rfl rfl rfl ?_
  refine ps_goto rfl ?_
  exact kk _ iv2 re2
theorem lw_plate (hi : i + 5 < ys.length) (hl : ys.length ≤ 3072) (iv : sx_IV xT xtg xPH h) (re : lwR h) (kk : ∀ h', sx_IV xT xtg xPH h' → lwR h' → pm_W (g_P ys) 0 1320 [.ref 99999, .ref 0, .ref 275, .int (nI i)] [] h' g_c1 Q) : pm_W (g_P ys) 0 337 [.ref 99999, .ref 0, .ref 275, .int (nI i)] [] h g_c1 Q := by
  refine ps_aload rfl rfl ?_
  refine lw_rd (c := 1) rfl rfl rfl rfl rfl rfl (by omega) hl ?_
  refine lw_rd (c := 2) rfl rfl rfl rfl rfl rfl (by omega) hl ?_
  refine pv_k (m := 0) rfl rfl rfl rfl rfl (shp_of iv (a := 0) (t := 1) rfl rfl) rfl lw_cs ?_
  refine ap_83 h [.ref 0, .int (ys.getD (i + 1) 0), .int (ys.getD (i + 2) 0)] _ iv ⟨va_r rfl (by omega), va_f, va_f, trivial⟩ fas_n (fun v1 h1 iv1 fr1 q1 => ?_)
  obtain ⟨x1, rfl⟩ := out_1 q1
  have re1 := lwR_fr (h := h) (h' := h1) (by decide) fr1 re
  refine ps_ar rfl rfl rfl rfl rfl ?_
  refine ps_aload rfl rfl ?_
  refine lw_rd (c := 1) rfl rfl rfl rfl rfl rfl (by omega) hl ?_
  refine lw_rd (c := 2) rfl rfl rfl rfl rfl rfl (by omega) hl ?_
  refine pv_k (m := 0) rfl rfl rfl rfl rfl (shp_of iv1 (a := 275) (t := 50) rfl rfl) rfl lw_cs ?_
  refine ap_193 h1 [.ref 275, .int (ys.getD (i + 1) 0), .int (ys.getD (i + 2) 0)] _ iv1 ⟨va_M, va_f, va_f, trivial⟩ fas_n (fun v2 h2 iv2 fr2 q2 => ?_)
  obtain ⟨x2, rfl⟩ := out_1 q2
  have re2 := lwR_fr (h := h1) (h' := h2) (by decide) fr2 re1
  refine ps_ar rfl rfl rfl rfl rfl ?_
  refine ps_goto rfl ?_
  exact kk _ iv2 re2
theorem lw_cell (hi : i + 5 < ys.length) (hl : ys.length ≤ 3072) (iv : sx_IV xT xtg xPH h) (re : lwR h) (kk : ∀ h', sx_IV xT xtg xPH h' → lwR h' → pm_W (g_P ys) 0 1320 [.ref 99999, .ref 0, .ref 275, .int (nI i)] [] h' g_c1 Q) : pm_W (g_P ys) 0 370 [.ref 99999, .ref 0, .ref 275, .int (nI i)] [] h g_c1 Q := by
  refine ps_aload rfl rfl ?_
  refine lw_rd (c := 1) rfl rfl rfl rfl rfl rfl (by omega) hl ?_
  refine lw_rd (c := 2) rfl rfl rfl rfl rfl rfl (by omega) hl ?_
  refine lw_rd (c := 3) rfl rfl rfl rfl rfl rfl (by omega) hl ?_
  refine lw_rd (c := 4) rfl rfl rfl rfl rfl rfl (by omega) hl ?_
  refine pv_k (m := 0) rfl rfl rfl rfl rfl (shp_of iv (a := 0) (t := 1) rfl rfl) rfl lw_cs ?_
  refine ap_89 h [.ref 0, .int (ys.getD (i + 1) 0), .int (ys.getD (i + 2) 0), .int (ys.getD (i + 3) 0), .int (ys.getD (i + 4) 0)] _ iv ⟨va_r rfl (by omega), va_f, va_f, va_f, va_f, trivial⟩ fas_n (fun v1 h1 iv1 fr1 q1 => ?_)
  obtain ⟨x1, rfl⟩ := out_1 q1
  have re1 := lwR_fr (h := h) (h' := h1) (by decide) fr1 re
  refine ps_ar rfl rfl rfl rfl rfl ?_
  refine ps_aload rfl rfl ?_
  refine lw_rd (c := 1) rfl rfl rfl rfl rfl rfl (by omega) hl ?_
  refine lw_rd (c := 2) rfl rfl rfl rfl rfl rfl (by omega) hl ?_
  refine lw_rd (c := 3) rfl rfl rfl rfl rfl rfl (by omega) hl ?_
  refine lw_rd (c := 4) rfl rfl rfl rfl rfl rfl (by omega) hl ?_
  refine pv_k (m := 0) rfl rfl rfl rfl rfl (shp_of iv1 (a := 275) (t := 50) rfl rfl) rfl lw_cs ?_
  refine ap_207 h1 [.ref 275, .int (ys.getD (i + 1) 0), .int (ys.getD (i + 2) 0), .int (ys.getD (i + 3) 0), .int (ys.getD (i + 4) 0)] _ iv1 ⟨va_M, va_f, va_f, va_f, va_f, trivial⟩ fas_n (fun v2 h2 iv2 fr2 q2 => ?_)
  obtain ⟨x2, rfl⟩ := out_1 q2
  have re2 := lwR_fr (h := h1) (h' := h2) (by decide) fr2 re1
  refine ps_ar rfl rfl rfl rfl rfl ?_
  refine ps_goto rfl ?_
  exact kk _ iv2 re2
theorem lw_differences (hi : i + 5 < ys.length) (hl : ys.length ≤ 3072) (iv : sx_IV xT xtg xPH h) (re : lwR h) (kk : ∀ h', sx_IV xT xtg xPH h' → lwR h' → pm_W (g_P ys) 0 1320 [.ref 99999, .ref 0, .ref 275, .int (nI i)] [] h' g_c1 Q) : pm_W (g_P ys) 0 423 [.ref 99999, .ref 0, .ref 275, .int (nI i)] [] h g_c1 Q := by
  refine ps_aload rfl rfl ?_
  refine lw_rd (c := 1) rfl rfl rfl rfl rfl rfl (by omega) hl ?_
  refine lw_rd (c := 2) rfl rfl rfl rfl rfl rfl (by omega) hl ?_
  refine pv_k (m := 0) rfl rfl rfl rfl rfl (shp_of iv (a := 0) (t := 1) rfl rfl) rfl lw_cs ?_
  refine ap_90 h [.ref 0, .int (ys.getD (i + 1) 0), .int (ys.getD (i + 2) 0)] _ iv ⟨va_r rfl (by omega), va_f, va_f, trivial⟩ fas_n (fun v1 h1 iv1 fr1 q1 => ?_)
  obtain ⟨x1, rfl⟩ := out_1 q1
  have re1 := lwR_fr (h := h) (h' := h1) (by decide) fr1 re
  refine ps_ar rfl rfl rfl rfl rfl ?_
  refine ps_aload rfl rfl ?_
  refine lw_rd (c := 1) rfl rfl rfl rfl rfl rfl (by omega) hl ?_
  refine lw_rd (c := 2) rfl rfl rfl rfl rfl rfl (by omega) hl ?_
  refine pv_k (m := 0) rfl rfl rfl rfl rfl (shp_of iv1 (a := 275) (t := 50) rfl rfl) rfl lw_cs ?_
  refine ap_214 h1 [.ref 275, .int (ys.getD (i + 1) 0), .int (ys.getD (i + 2) 0)] _ iv1 ⟨va_M, va_f, va_f, trivial⟩ fas_n (fun v2 h2 iv2 fr2 q2 => ?_)
  obtain ⟨x2, rfl⟩ := out_1 q2
  have re2 := lwR_fr (h := h1) (h' := h2) (by decide) fr2 re1
  refine ps_ar rfl rfl rfl rfl rfl ?_
  refine ps_goto rfl ?_
  exact kk _ iv2 re2
theorem lw_window (hi : i + 5 < ys.length) (hl : ys.length ≤ 3072) (iv : sx_IV xT xtg xPH h) (re : lwR h) (kk : ∀ h', sx_IV xT xtg xPH h' → lwR h' → pm_W (g_P ys) 0 1320 [.ref 99999, .ref 0, .ref 275, .int (nI i)] [] h' g_c1 Q) : pm_W (g_P ys) 0 456 [.ref 99999, .ref 0, .ref 275, .int (nI i)] [] h g_c1 Q := by
  refine ps_aload rfl rfl ?_
  refine lw_rd (c := 1) rfl rfl rfl rfl rfl rfl (by omega) hl ?_
  refine lw_rd (c := 2) rfl rfl rfl rfl rfl rfl (by omega) hl ?_
  refine lw_rd (c := 3) rfl rfl rfl rfl rfl rfl (by omega) hl ?_
  refine lw_rd (c := 4) rfl rfl rfl rfl rfl rfl (by omega) hl ?_
  refine lw_rd (c := 5) rfl rfl rfl rfl rfl rfl (by omega) hl ?_
  refine pv_k (m := 0) rfl rfl rfl rfl rfl (shp_of iv (a := 0) (t := 1) rfl rfl) rfl lw_cs ?_
  refine ap_92 h [.ref 0, .int (ys.getD (i + 1) 0), .int (ys.getD (i + 2) 0), .int (ys.getD (i + 3) 0), .int (ys.getD (i + 4) 0), .int (ys.getD (i + 5) 0)] _ iv ⟨va_r rfl (by omega), va_f, va_f, va_f, va_f, va_f, trivial⟩ fas_n (fun v1 h1 iv1 fr1 q1 => ?_)
  obtain ⟨x1, rfl⟩ := out_1 q1
  have re1 := lwR_fr (h := h) (h' := h1) (by decide) fr1 re
  refine ps_ar rfl rfl rfl rfl rfl ?_
  refine ps_aload rfl rfl ?_
  refine lw_rd (c := 1) rfl rfl rfl rfl rfl rfl (by omega) hl ?_
  refine lw_rd (c := 2) rfl rfl rfl rfl rfl rfl (by omega) hl ?_
  refine lw_rd (c := 3) rfl rfl rfl rfl rfl rfl (by omega) hl ?_
  refine lw_rd (c := 4) rfl rfl rfl rfl rfl rfl (by omega) hl ?_
  refine lw_rd (c := 5) rfl rfl rfl rfl rfl rfl (by omega) hl ?_
  refine pv_k (m := 0) rfl rfl rfl rfl rfl (shp_of iv1 (a := 275) (t := 50) rfl rfl) rfl lw_cs ?_
  refine ap_216 h1 [.ref 275, .int (ys.getD (i + 1) 0), .int (ys.getD (i + 2) 0), .int (ys.getD (i + 3) 0), .int (ys.getD (i + 4) 0), .int (ys.getD (i + 5) 0)] _ iv1 ⟨va_M, va_f, va_f, va_f, va_f, va_f, trivial⟩ fas_n (fun v2 h2 iv2 fr2 q2 => ?_)
  obtain ⟨x2, rfl⟩ := out_1 q2
  have re2 := lwR_fr (h := h1) (h' := h2) (by decide) fr2 re1
  refine ps_ar rfl rfl rfl rfl rfl ?_
  refine ps_goto rfl ?_
  exact kk _ iv2 re2
theorem lw_alike (hi : i + 5 < ys.length) (hl : ys.length ≤ 3072) (iv : sx_IV xT xtg xPH h) (re : lwR h) (kk : ∀ h', sx_IV xT xtg xPH h' → lwR h' → pm_W (g_P ys) 0 1320 [.ref 99999, .ref 0, .ref 275, .int (nI i)] [] h' g_c1 Q) : pm_W (g_P ys) 0 519 [.ref 99999, .ref 0, .ref 275, .int (nI i)] [] h g_c1 Q := by
  refine ps_aload rfl rfl ?_
  refine lw_rd (c := 1) rfl rfl rfl rfl rfl rfl (by omega) hl ?_
  refine lw_rd (c := 2) rfl rfl rfl rfl rfl rfl (by omega) hl ?_
  refine pv_k (m := 0) rfl rfl rfl rfl rfl (shp_of iv (a := 0) (t := 1) rfl rfl) rfl lw_cs ?_
  refine ap_94 h [.ref 0, .int (ys.getD (i + 1) 0), .int (ys.getD (i + 2) 0)] _ iv ⟨va_r rfl (by omega), va_f, va_f, trivial⟩ fas_n (fun v1 h1 iv1 fr1 q1 => ?_)
  obtain ⟨x1, rfl⟩ := out_1 q1
  have re1 := lwR_fr (h := h) (h' := h1) (by decide) fr1 re
  refine ps_ar rfl rfl rfl rfl rfl ?_
  refine ps_aload rfl rfl ?_
  refine lw_rd (c := 1) rfl rfl rfl rfl rfl rfl (by omega) hl ?_
  refine lw_rd (c := 2) rfl rfl rfl rfl rfl rfl (by omega) hl ?_
  refine pv_k (m := 0) rfl rfl rfl rfl rfl (shp_of iv1 (a := 275) (t := 50) rfl rfl) rfl lw_cs ?_
  refine ap_209 h1 [.ref 275, .int (ys.getD (i + 1) 0), .int (ys.getD (i + 2) 0)] _ iv1 ⟨va_M, va_f, va_f, trivial⟩ fas_n (fun v2 h2 iv2 fr2 q2 => ?_)
  obtain ⟨x2, rfl⟩ := out_1 q2
  have re2 := lwR_fr (h := h1) (h' := h2) (by decide) fr2 re1
  refine ps_ar rfl rfl rfl rfl rfl ?_
  refine ps_goto rfl ?_
  exact kk _ iv2 re2
theorem lw_root (hi : i + 5 < ys.length) (hl : ys.length ≤ 3072) (iv : sx_IV xT xtg xPH h) (re : lwR h) (kk : ∀ h', sx_IV xT xtg xPH h' → lwR h' → pm_W (g_P ys) 0 1320 [.ref 99999, .ref 0, .ref 275, .int (nI i)] [] h' g_c1 Q) : pm_W (g_P ys) 0 552 [.ref 99999, .ref 0, .ref 275, .int (nI i)] [] h g_c1 Q := by
  refine ps_aload rfl rfl ?_
  refine lw_rd (c := 1) rfl rfl rfl rfl rfl rfl (by omega) hl ?_
  refine lw_rd (c := 2) rfl rfl rfl rfl rfl rfl (by omega) hl ?_
  refine pv_k (m := 0) rfl rfl rfl rfl rfl (shp_of iv (a := 0) (t := 1) rfl rfl) rfl lw_cs ?_
  refine ap_97 h [.ref 0, .int (ys.getD (i + 1) 0), .int (ys.getD (i + 2) 0)] _ iv ⟨va_r rfl (by omega), va_f, va_f, trivial⟩ fas_n (fun v1 h1 iv1 fr1 q1 => ?_)
  obtain ⟨x1, rfl⟩ := out_1 q1
  have re1 := lwR_fr (h := h) (h' := h1) (by decide) fr1 re
  refine ps_ar rfl rfl rfl rfl rfl ?_
  refine ps_aload rfl rfl ?_
  refine lw_rd (c := 1) rfl rfl rfl rfl rfl rfl (by omega) hl ?_
  refine lw_rd (c := 2) rfl rfl rfl rfl rfl rfl (by omega) hl ?_
  refine pv_k (m := 0) rfl rfl rfl rfl rfl (shp_of iv1 (a := 275) (t := 50) rfl rfl) rfl lw_cs ?_
  refine ap_211 h1 [.ref 275, .int (ys.getD (i + 1) 0), .int (ys.getD (i + 2) 0)] _ iv1 ⟨va_M, va_f, va_f, trivial⟩ fas_n (fun v2 h2 iv2 fr2 q2 => ?_)
  obtain ⟨x2, rfl⟩ := out_1 q2
  have re2 := lwR_fr (h := h1) (h' := h2) (by decide) fr2 re1
  refine ps_ar rfl rfl rfl rfl rfl ?_
  refine ps_goto rfl ?_
  exact kk _ iv2 re2
theorem lw_thing (hi : i + 5 < ys.length) (hl : ys.length ≤ 3072) (iv : sx_IV xT xtg xPH h) (re : lwR h) (kk : ∀ h', sx_IV xT xtg xPH h' → lwR h' → pm_W (g_P ys) 0 1320 [.ref 99999, .ref 0, .ref 275, .int (nI i)] [] h' g_c1 Q) : pm_W (g_P ys) 0 585 [.ref 99999, .ref 0, .ref 275, .int (nI i)] [] h g_c1 Q := by
  refine ps_aload rfl rfl ?_
  refine lw_rd (c := 1) rfl rfl rfl rfl rfl rfl (by omega) hl ?_
  refine lw_rd (c := 2) rfl rfl rfl rfl rfl rfl (by omega) hl ?_
  refine lw_rd (c := 3) rfl rfl rfl rfl rfl rfl (by omega) hl ?_
  refine pv_k (m := 0) rfl rfl rfl rfl rfl (shp_of iv (a := 0) (t := 1) rfl rfl) rfl lw_cs ?_
  refine B_thing7 iv re _ _ _ (fun r1 h1 iv1 m1 => ?_)
  refine ps_ar rfl rfl rfl rfl rfl ?_
  refine ps_aload rfl rfl ?_
  refine lw_rd (c := 1) rfl rfl rfl rfl rfl rfl (by omega) hl ?_
  refine lw_rd (c := 2) rfl rfl rfl rfl rfl rfl (by omega) hl ?_
  refine lw_rd (c := 3) rfl rfl rfl rfl rfl rfl (by omega) hl ?_
  refine pv_k (m := 0) rfl rfl rfl rfl rfl (shp_of iv1 (a := 275) (t := 50) rfl rfl) rfl lw_cs ?_
  refine M_thing7 iv1 m1 (fun h2 iv2 re2 => ?_)
  refine ps_ar rfl rfl rfl rfl rfl ?_
  refine ps_goto rfl ?_
  exact kk _ iv2 re2
theorem lw_add (hi : i + 5 < ys.length) (hl : ys.length ≤ 3072) (iv : sx_IV xT xtg xPH h) (re : lwR h) (kk : ∀ h', sx_IV xT xtg xPH h' → lwR h' → pm_W (g_P ys) 0 1320 [.ref 99999, .ref 0, .ref 275, .int (nI i)] [] h' g_c1 Q) : pm_W (g_P ys) 0 628 [.ref 99999, .ref 0, .ref 275, .int (nI i)] [] h g_c1 Q := by
  refine ps_aload rfl rfl ?_
  refine lw_rd (c := 1) rfl rfl rfl rfl rfl rfl (by omega) hl ?_
  refine lw_rd (c := 2) rfl rfl rfl rfl rfl rfl (by omega) hl ?_
  refine lw_rd (c := 3) rfl rfl rfl rfl rfl rfl (by omega) hl ?_
  refine lw_rd (c := 4) rfl rfl rfl rfl rfl rfl (by omega) hl ?_
  refine pv_k (m := 0) rfl rfl rfl rfl rfl (shp_of iv (a := 0) (t := 1) rfl rfl) rfl lw_cs ?_
  refine B_add7 iv re _ _ _ _ (fun r1 h1 iv1 m1 => ?_)
  refine ps_ar rfl rfl rfl rfl rfl ?_
  refine ps_aload rfl rfl ?_
  refine lw_rd (c := 1) rfl rfl rfl rfl rfl rfl (by omega) hl ?_
  refine lw_rd (c := 2) rfl rfl rfl rfl rfl rfl (by omega) hl ?_
  refine lw_rd (c := 3) rfl rfl rfl rfl rfl rfl (by omega) hl ?_
  refine lw_rd (c := 4) rfl rfl rfl rfl rfl rfl (by omega) hl ?_
  refine pv_k (m := 0) rfl rfl rfl rfl rfl (shp_of iv1 (a := 275) (t := 50) rfl rfl) rfl lw_cs ?_
  refine M_add7 iv1 m1 (fun h2 iv2 re2 => ?_)
  refine ps_ar rfl rfl rfl rfl rfl ?_
  refine ps_goto rfl ?_
  exact kk _ iv2 re2
theorem lw_drop (hi : i + 5 < ys.length) (hl : ys.length ≤ 3072) (iv : sx_IV xT xtg xPH h) (re : lwR h) (kk : ∀ h', sx_IV xT xtg xPH h' → lwR h' → pm_W (g_P ys) 0 1320 [.ref 99999, .ref 0, .ref 275, .int (nI i)] [] h' g_c1 Q) : pm_W (g_P ys) 0 681 [.ref 99999, .ref 0, .ref 275, .int (nI i)] [] h g_c1 Q := by
  refine ps_aload rfl rfl ?_
  refine lw_rd (c := 1) rfl rfl rfl rfl rfl rfl (by omega) hl ?_
  refine lw_rd (c := 2) rfl rfl rfl rfl rfl rfl (by omega) hl ?_
  refine pv_k (m := 0) rfl rfl rfl rfl rfl (shp_of iv (a := 0) (t := 1) rfl rfl) rfl lw_cs ?_
  refine B_drop7 iv re _ _ (fun r1 h1 iv1 m1 => ?_)
  refine ps_ar rfl rfl rfl rfl rfl ?_
  refine ps_aload rfl rfl ?_
  refine lw_rd (c := 1) rfl rfl rfl rfl rfl rfl (by omega) hl ?_
  refine lw_rd (c := 2) rfl rfl rfl rfl rfl rfl (by omega) hl ?_
  refine pv_k (m := 0) rfl rfl rfl rfl rfl (shp_of iv1 (a := 275) (t := 50) rfl rfl) rfl lw_cs ?_
  refine M_drop7 iv1 m1 (fun h2 iv2 re2 => ?_)
  refine ps_ar rfl rfl rfl rfl rfl ?_
  refine ps_goto rfl ?_
  exact kk _ iv2 re2
theorem lw_lose (hi : i + 5 < ys.length) (hl : ys.length ≤ 3072) (iv : sx_IV xT xtg xPH h) (re : lwR h) (kk : ∀ h', sx_IV xT xtg xPH h' → lwR h' → pm_W (g_P ys) 0 1320 [.ref 99999, .ref 0, .ref 275, .int (nI i)] [] h' g_c1 Q) : pm_W (g_P ys) 0 714 [.ref 99999, .ref 0, .ref 275, .int (nI i)] [] h g_c1 Q := by
  refine ps_aload rfl rfl ?_
  refine lw_rd (c := 1) rfl rfl rfl rfl rfl rfl (by omega) hl ?_
  refine lw_rd (c := 2) rfl rfl rfl rfl rfl rfl (by omega) hl ?_
  refine pv_k (m := 0) rfl rfl rfl rfl rfl (shp_of iv (a := 0) (t := 1) rfl rfl) rfl lw_cs ?_
  refine B_lose7 iv re _ _ (fun r1 h1 iv1 m1 => ?_)
  refine ps_ar rfl rfl rfl rfl rfl ?_
  refine ps_aload rfl rfl ?_
  refine lw_rd (c := 1) rfl rfl rfl rfl rfl rfl (by omega) hl ?_
  refine lw_rd (c := 2) rfl rfl rfl rfl rfl rfl (by omega) hl ?_
  refine pv_k (m := 0) rfl rfl rfl rfl rfl (shp_of iv1 (a := 275) (t := 50) rfl rfl) rfl lw_cs ?_
  refine M_lose7 iv1 m1 (fun h2 iv2 re2 => ?_)
  refine ps_ar rfl rfl rfl rfl rfl ?_
  refine ps_goto rfl ?_
  exact kk _ iv2 re2
theorem lw_heal (hi : i + 5 < ys.length) (hl : ys.length ≤ 3072) (iv : sx_IV xT xtg xPH h) (re : lwR h) (kk : ∀ h', sx_IV xT xtg xPH h' → lwR h' → pm_W (g_P ys) 0 1320 [.ref 99999, .ref 0, .ref 275, .int (nI i)] [] h' g_c1 Q) : pm_W (g_P ys) 0 747 [.ref 99999, .ref 0, .ref 275, .int (nI i)] [] h g_c1 Q := by
  refine ps_aload rfl rfl ?_
  refine lw_rd (c := 1) rfl rfl rfl rfl rfl rfl (by omega) hl ?_
  refine pv_k (m := 0) rfl rfl rfl rfl rfl (shp_of iv (a := 0) (t := 1) rfl rfl) rfl lw_cs ?_
  refine B_heal7 iv re _ (fun r1 h1 iv1 m1 => ?_)
  refine ps_aload rfl rfl ?_
  refine lw_rd (c := 1) rfl rfl rfl rfl rfl rfl (by omega) hl ?_
  refine pv_k (m := 0) rfl rfl rfl rfl rfl (shp_of iv1 (a := 275) (t := 50) rfl rfl) rfl lw_cs ?_
  refine M_heal7 iv1 m1 (fun h2 iv2 re2 => ?_)
  refine ps_icmpt rfl (decide_eq_true rfl) ?_
  exact kk _ iv2 re2
theorem lw_light (hi : i + 5 < ys.length) (hl : ys.length ≤ 3072) (iv : sx_IV xT xtg xPH h) (re : lwR h) (kk : ∀ h', sx_IV xT xtg xPH h' → lwR h' → pm_W (g_P ys) 0 1320 [.ref 99999, .ref 0, .ref 275, .int (nI i)] [] h' g_c1 Q) : pm_W (g_P ys) 0 770 [.ref 99999, .ref 0, .ref 275, .int (nI i)] [] h g_c1 Q := by
  refine ps_aload rfl rfl ?_
  refine lw_rd (c := 1) rfl rfl rfl rfl rfl rfl (by omega) hl ?_
  refine pv_k (m := 0) rfl rfl rfl rfl rfl (shp_of iv (a := 0) (t := 1) rfl rfl) rfl lw_cs ?_
  refine B_light7 iv re _ (fun r1 h1 iv1 m1 => ?_)
  refine ps_ar rfl rfl rfl rfl rfl ?_
  refine ps_aload rfl rfl ?_
  refine lw_rd (c := 1) rfl rfl rfl rfl rfl rfl (by omega) hl ?_
  refine pv_k (m := 0) rfl rfl rfl rfl rfl (shp_of iv1 (a := 275) (t := 50) rfl rfl) rfl lw_cs ?_
  refine M_light7 iv1 m1 (fun h2 iv2 re2 => ?_)
  refine ps_ar rfl rfl rfl rfl rfl ?_
  refine ps_goto rfl ?_
  exact kk _ iv2 re2
theorem lw_use (hi : i + 5 < ys.length) (hl : ys.length ≤ 3072) (iv : sx_IV xT xtg xPH h) (re : lwR h) (kk : ∀ h', sx_IV xT xtg xPH h' → lwR h' → pm_W (g_P ys) 0 1320 [.ref 99999, .ref 0, .ref 275, .int (nI i)] [] h' g_c1 Q) : pm_W (g_P ys) 0 793 [.ref 99999, .ref 0, .ref 275, .int (nI i)] [] h g_c1 Q := by
  refine ps_aload rfl rfl ?_
  refine lw_rd (c := 1) rfl rfl rfl rfl rfl rfl (by omega) hl ?_
  refine pv_k (m := 0) rfl rfl rfl rfl rfl (shp_of iv (a := 0) (t := 1) rfl rfl) rfl lw_cs ?_
  refine B_use7 iv re _ (fun r1 h1 iv1 m1 => ?_)
  refine ps_ar rfl rfl rfl rfl rfl ?_
  refine ps_aload rfl rfl ?_
  refine lw_rd (c := 1) rfl rfl rfl rfl rfl rfl (by omega) hl ?_
  refine pv_k (m := 0) rfl rfl rfl rfl rfl (shp_of iv1 (a := 275) (t := 50) rfl rfl) rfl lw_cs ?_
  refine M_use7 iv1 m1 (fun h2 iv2 re2 => ?_)
  refine ps_ar rfl rfl rfl rfl rfl ?_
  refine ps_goto rfl ?_
  exact kk _ iv2 re2
theorem lw_slide (hi : i + 5 < ys.length) (hl : ys.length ≤ 3072) (iv : sx_IV xT xtg xPH h) (re : lwR h) (kk : ∀ h', sx_IV xT xtg xPH h' → lwR h' → pm_W (g_P ys) 0 1320 [.ref 99999, .ref 0, .ref 275, .int (nI i)] [] h' g_c1 Q) : pm_W (g_P ys) 0 816 [.ref 99999, .ref 0, .ref 275, .int (nI i)] [] h g_c1 Q := by
  refine ps_aload rfl rfl ?_
  refine lw_rd (c := 1) rfl rfl rfl rfl rfl rfl (by omega) hl ?_
  refine lw_rd (c := 2) rfl rfl rfl rfl rfl rfl (by omega) hl ?_
  refine pv_k (m := 0) rfl rfl rfl rfl rfl (shp_of iv (a := 0) (t := 1) rfl rfl) rfl lw_cs ?_
  refine B_slide7 iv re _ _ (fun r1 h1 iv1 m1 => ?_)
  refine ps_ar rfl rfl rfl rfl rfl ?_
  refine ps_aload rfl rfl ?_
  refine lw_rd (c := 1) rfl rfl rfl rfl rfl rfl (by omega) hl ?_
  refine lw_rd (c := 2) rfl rfl rfl rfl rfl rfl (by omega) hl ?_
  refine pv_k (m := 0) rfl rfl rfl rfl rfl (shp_of iv1 (a := 275) (t := 50) rfl rfl) rfl lw_cs ?_
  refine M_slide7 iv1 m1 (fun h2 iv2 re2 => ?_)
  refine ps_ar rfl rfl rfl rfl rfl ?_
  refine ps_goto rfl ?_
  exact kk _ iv2 re2
theorem lw_undo (hi : i + 5 < ys.length) (hl : ys.length ≤ 3072) (iv : sx_IV xT xtg xPH h) (re : lwR h) (kk : ∀ h', sx_IV xT xtg xPH h' → lwR h' → pm_W (g_P ys) 0 1320 [.ref 99999, .ref 0, .ref 275, .int (nI i)] [] h' g_c1 Q) : pm_W (g_P ys) 0 849 [.ref 99999, .ref 0, .ref 275, .int (nI i)] [] h g_c1 Q := by
  refine ps_aload rfl rfl ?_
  refine pv_k (m := 0) rfl rfl rfl rfl rfl (shp_of iv (a := 0) (t := 1) rfl rfl) rfl lw_cs ?_
  refine B_undo7 iv re (fun r1 h1 iv1 m1 => ?_)
  refine ps_ar rfl rfl rfl rfl rfl ?_
  refine ps_aload rfl rfl ?_
  refine pv_k (m := 0) rfl rfl rfl rfl rfl (shp_of iv1 (a := 275) (t := 50) rfl rfl) rfl lw_cs ?_
  refine M_undo7 iv1 m1 (fun h2 iv2 re2 => ?_)
  refine ps_ar rfl rfl rfl rfl rfl ?_
  refine ps_goto rfl ?_
  exact kk _ iv2 re2
theorem lw_at (hi : i + 5 < ys.length) (hl : ys.length ≤ 3072) (iv : sx_IV xT xtg xPH h) (re : lwR h) (kk : ∀ h', sx_IV xT xtg xPH h' → lwR h' → pm_W (g_P ys) 0 1320 [.ref 99999, .ref 0, .ref 275, .int (nI i)] [] h' g_c1 Q) : pm_W (g_P ys) 0 862 [.ref 99999, .ref 0, .ref 275, .int (nI i)] [] h g_c1 Q := by
  refine ps_aload rfl rfl ?_
  refine lw_rd (c := 1) rfl rfl rfl rfl rfl rfl (by omega) hl ?_
  refine lw_rd (c := 2) rfl rfl rfl rfl rfl rfl (by omega) hl ?_
  refine lw_rd (c := 3) rfl rfl rfl rfl rfl rfl (by omega) hl ?_
  refine pv_k (m := 0) rfl rfl rfl rfl rfl (shp_of iv (a := 0) (t := 1) rfl rfl) rfl lw_cs ?_
  refine ap_120 h [.ref 0, .int (ys.getD (i + 1) 0), .int (ys.getD (i + 2) 0), .int (ys.getD (i + 3) 0)] _ iv ⟨va_r rfl (by omega), va_f, va_f, va_f, trivial⟩ fas_n (fun v1 h1 iv1 fr1 q1 => ?_)
  obtain ⟨x1, rfl⟩ := out_1 q1
  have re1 := lwR_fr (h := h) (h' := h1) (by decide) fr1 re
  refine ps_ar rfl rfl rfl rfl rfl ?_
  refine ps_aload rfl rfl ?_
  refine lw_rd (c := 1) rfl rfl rfl rfl rfl rfl (by omega) hl ?_
  refine lw_rd (c := 2) rfl rfl rfl rfl rfl rfl (by omega) hl ?_
  refine lw_rd (c := 3) rfl rfl rfl rfl rfl rfl (by omega) hl ?_
  refine pv_k (m := 0) rfl rfl rfl rfl rfl (shp_of iv1 (a := 275) (t := 50) rfl rfl) rfl lw_cs ?_
  refine ap_233 h1 [.ref 275, .int (ys.getD (i + 1) 0), .int (ys.getD (i + 2) 0), .int (ys.getD (i + 3) 0)] _ iv1 ⟨va_M, va_f, va_f, va_f, trivial⟩ fas_n (fun v2 h2 iv2 fr2 q2 => ?_)
  obtain ⟨x2, rfl⟩ := out_1 q2
  have re2 := lwR_fr (h := h1) (h' := h2) (by decide) fr2 re1
  refine ps_ar rfl rfl rfl rfl rfl ?_
  refine ps_goto rfl ?_
  exact kk _ iv2 re2
theorem lw_all (hi : i + 5 < ys.length) (hl : ys.length ≤ 3072) (iv : sx_IV xT xtg xPH h) (re : lwR h) (kk : ∀ h', sx_IV xT xtg xPH h' → lwR h' → pm_W (g_P ys) 0 1320 [.ref 99999, .ref 0, .ref 275, .int (nI i)] [] h' g_c1 Q) : pm_W (g_P ys) 0 905 [.ref 99999, .ref 0, .ref 275, .int (nI i)] [] h g_c1 Q := by
  refine ps_aload rfl rfl ?_
  refine lw_rd (c := 1) rfl rfl rfl rfl rfl rfl (by omega) hl ?_
  refine pv_k (m := 0) rfl rfl rfl rfl rfl (shp_of iv (a := 0) (t := 1) rfl rfl) rfl lw_cs ?_
  refine ap_140 h [.ref 0, .int (ys.getD (i + 1) 0)] _ iv ⟨va_r rfl (by omega), va_f, trivial⟩ fas_n (fun v1 h1 iv1 fr1 q1 => ?_)
  obtain ⟨x1, rfl⟩ := out_1 q1
  have re1 := lwR_fr (h := h) (h' := h1) (by decide) fr1 re
  refine ps_ar rfl rfl rfl rfl rfl ?_
  refine ps_aload rfl rfl ?_
  refine lw_rd (c := 1) rfl rfl rfl rfl rfl rfl (by omega) hl ?_
  refine pv_k (m := 0) rfl rfl rfl rfl rfl (shp_of iv1 (a := 275) (t := 50) rfl rfl) rfl lw_cs ?_
  refine ap_251 h1 [.ref 275, .int (ys.getD (i + 1) 0)] _ iv1 ⟨va_M, va_f, trivial⟩ fas_n (fun v2 h2 iv2 fr2 q2 => ?_)
  obtain ⟨x2, rfl⟩ := out_1 q2
  have re2 := lwR_fr (h := h1) (h' := h2) (by decide) fr2 re1
  refine ps_ar rfl rfl rfl rfl rfl ?_
  refine ps_goto rfl ?_
  exact kk _ iv2 re2
theorem lw_peak (hi : i + 5 < ys.length) (hl : ys.length ≤ 3072) (iv : sx_IV xT xtg xPH h) (re : lwR h) (kk : ∀ h', sx_IV xT xtg xPH h' → lwR h' → pm_W (g_P ys) 0 1320 [.ref 99999, .ref 0, .ref 275, .int (nI i)] [] h' g_c1 Q) : pm_W (g_P ys) 0 928 [.ref 99999, .ref 0, .ref 275, .int (nI i)] [] h g_c1 Q := by
  refine ps_aload rfl rfl ?_
  refine lw_rd (c := 1) rfl rfl rfl rfl rfl rfl (by omega) hl ?_
  refine pv_k (m := 0) rfl rfl rfl rfl rfl (shp_of iv (a := 0) (t := 1) rfl rfl) rfl lw_cs ?_
  refine ap_146 h [.ref 0, .int (ys.getD (i + 1) 0)] _ iv ⟨va_r rfl (by omega), va_f, trivial⟩ fas_n (fun v1 h1 iv1 fr1 q1 => ?_)
  obtain ⟨x1, rfl⟩ := out_1 q1
  have re1 := lwR_fr (h := h) (h' := h1) (by decide) fr1 re
  refine ps_ar rfl rfl rfl rfl rfl ?_
  refine ps_aload rfl rfl ?_
  refine lw_rd (c := 1) rfl rfl rfl rfl rfl rfl (by omega) hl ?_
  refine pv_k (m := 0) rfl rfl rfl rfl rfl (shp_of iv1 (a := 275) (t := 50) rfl rfl) rfl lw_cs ?_
  refine ap_257 h1 [.ref 275, .int (ys.getD (i + 1) 0)] _ iv1 ⟨va_M, va_f, trivial⟩ fas_n (fun v2 h2 iv2 fr2 q2 => ?_)
  obtain ⟨x2, rfl⟩ := out_1 q2
  have re2 := lwR_fr (h := h1) (h' := h2) (by decide) fr2 re1
  refine ps_ar rfl rfl rfl rfl rfl ?_
  refine ps_goto rfl ?_
  exact kk _ iv2 re2
theorem lw_found (hi : i + 5 < ys.length) (hl : ys.length ≤ 3072) (iv : sx_IV xT xtg xPH h) (re : lwR h) (kk : ∀ h', sx_IV xT xtg xPH h' → lwR h' → pm_W (g_P ys) 0 1320 [.ref 99999, .ref 0, .ref 275, .int (nI i)] [] h' g_c1 Q) : pm_W (g_P ys) 0 951 [.ref 99999, .ref 0, .ref 275, .int (nI i)] [] h g_c1 Q := by
  refine ps_aload rfl rfl ?_
  refine lw_rd (c := 1) rfl rfl rfl rfl rfl rfl (by omega) hl ?_
  refine lw_rd (c := 2) rfl rfl rfl rfl rfl rfl (by omega) hl ?_
  refine pv_k (m := 0) rfl rfl rfl rfl rfl (shp_of iv (a := 0) (t := 1) rfl rfl) rfl lw_cs ?_
  refine ap_151 h [.ref 0, .int (ys.getD (i + 1) 0), .int (ys.getD (i + 2) 0)] _ iv ⟨va_r rfl (by omega), va_f, va_f, trivial⟩ fas_n (fun v1 h1 iv1 fr1 q1 => ?_)
  obtain ⟨x1, rfl⟩ := out_1 q1
  have re1 := lwR_fr (h := h) (h' := h1) (by decide) fr1 re
  refine ps_ar rfl rfl rfl rfl rfl ?_
  refine ps_aload rfl rfl ?_
  refine lw_rd (c := 1) rfl rfl rfl rfl rfl rfl (by omega) hl ?_
  refine lw_rd (c := 2) rfl rfl rfl rfl rfl rfl (by omega) hl ?_
  refine pv_k (m := 0) rfl rfl rfl rfl rfl (shp_of iv1 (a := 275) (t := 50) rfl rfl) rfl lw_cs ?_
  refine ap_259 h1 [.ref 275, .int (ys.getD (i + 1) 0), .int (ys.getD (i + 2) 0)] _ iv1 ⟨va_M, va_f, va_f, trivial⟩ fas_n (fun v2 h2 iv2 fr2 q2 => ?_)
  obtain ⟨x2, rfl⟩ := out_1 q2
  have re2 := lwR_fr (h := h1) (h' := h2) (by decide) fr2 re1
  refine ps_ar rfl rfl rfl rfl rfl ?_
  refine ps_goto rfl ?_
  exact kk _ iv2 re2
theorem lw_frames (hi : i + 5 < ys.length) (hl : ys.length ≤ 3072) (iv : sx_IV xT xtg xPH h) (re : lwR h) (kk : ∀ h', sx_IV xT xtg xPH h' → lwR h' → pm_W (g_P ys) 0 1320 [.ref 99999, .ref 0, .ref 275, .int (nI i)] [] h' g_c1 Q) : pm_W (g_P ys) 0 984 [.ref 99999, .ref 0, .ref 275, .int (nI i)] [] h g_c1 Q := by
  refine ps_aload rfl rfl ?_
  refine lw_rd (c := 1) rfl rfl rfl rfl rfl rfl (by omega) hl ?_
  refine lw_rd (c := 2) rfl rfl rfl rfl rfl rfl (by omega) hl ?_
  refine lw_rd (c := 3) rfl rfl rfl rfl rfl rfl (by omega) hl ?_
  refine lw_rd (c := 4) rfl rfl rfl rfl rfl rfl (by omega) hl ?_
  refine pv_k (m := 0) rfl rfl rfl rfl rfl (shp_of iv (a := 0) (t := 1) rfl rfl) rfl lw_cs ?_
  refine ap_155 h [.ref 0, .int (ys.getD (i + 1) 0), .int (ys.getD (i + 2) 0), .int (ys.getD (i + 3) 0), .int (ys.getD (i + 4) 0)] _ iv ⟨va_r rfl (by omega), va_f, va_f, va_f, va_f, trivial⟩ fas_n (fun v1 h1 iv1 fr1 q1 => ?_)
  obtain ⟨x1, rfl⟩ := out_1 q1
  have re1 := lwR_fr (h := h) (h' := h1) (by decide) fr1 re
  refine ps_ar rfl rfl rfl rfl rfl ?_
  refine ps_aload rfl rfl ?_
  refine lw_rd (c := 1) rfl rfl rfl rfl rfl rfl (by omega) hl ?_
  refine lw_rd (c := 2) rfl rfl rfl rfl rfl rfl (by omega) hl ?_
  refine lw_rd (c := 3) rfl rfl rfl rfl rfl rfl (by omega) hl ?_
  refine lw_rd (c := 4) rfl rfl rfl rfl rfl rfl (by omega) hl ?_
  refine pv_k (m := 0) rfl rfl rfl rfl rfl (shp_of iv1 (a := 275) (t := 50) rfl rfl) rfl lw_cs ?_
  refine ap_265 h1 [.ref 275, .int (ys.getD (i + 1) 0), .int (ys.getD (i + 2) 0), .int (ys.getD (i + 3) 0), .int (ys.getD (i + 4) 0)] _ iv1 ⟨va_M, va_f, va_f, va_f, va_f, trivial⟩ fas_n (fun v2 h2 iv2 fr2 q2 => ?_)
  obtain ⟨x2, rfl⟩ := out_1 q2
  have re2 := lwR_fr (h := h1) (h' := h2) (by decide) fr2 re1
  refine ps_ar rfl rfl rfl rfl rfl ?_
  refine ps_goto rfl ?_
  exact kk _ iv2 re2
theorem lw_filled (hi : i + 5 < ys.length) (hl : ys.length ≤ 3072) (iv : sx_IV xT xtg xPH h) (re : lwR h) (kk : ∀ h', sx_IV xT xtg xPH h' → lwR h' → pm_W (g_P ys) 0 1320 [.ref 99999, .ref 0, .ref 275, .int (nI i)] [] h' g_c1 Q) : pm_W (g_P ys) 0 1037 [.ref 99999, .ref 0, .ref 275, .int (nI i)] [] h g_c1 Q := by
  refine ps_aload rfl rfl ?_
  refine lw_rd (c := 1) rfl rfl rfl rfl rfl rfl (by omega) hl ?_
  refine pv_k (m := 0) rfl rfl rfl rfl rfl (shp_of iv (a := 0) (t := 1) rfl rfl) rfl lw_cs ?_
  refine ap_159 h [.ref 0, .int (ys.getD (i + 1) 0)] _ iv ⟨va_r rfl (by omega), va_f, trivial⟩ fas_n (fun v1 h1 iv1 fr1 q1 => ?_)
  obtain ⟨x1, rfl⟩ := out_1 q1
  have re1 := lwR_fr (h := h) (h' := h1) (by decide) fr1 re
  refine ps_ar rfl rfl rfl rfl rfl ?_
  refine ps_aload rfl rfl ?_
  refine lw_rd (c := 1) rfl rfl rfl rfl rfl rfl (by omega) hl ?_
  refine pv_k (m := 0) rfl rfl rfl rfl rfl (shp_of iv1 (a := 275) (t := 50) rfl rfl) rfl lw_cs ?_
  refine ap_262 h1 [.ref 275, .int (ys.getD (i + 1) 0)] _ iv1 ⟨va_M, va_f, trivial⟩ fas_n (fun v2 h2 iv2 fr2 q2 => ?_)
  obtain ⟨x2, rfl⟩ := out_1 q2
  have re2 := lwR_fr (h := h1) (h' := h2) (by decide) fr2 re1
  refine ps_ar rfl rfl rfl rfl rfl ?_
  refine ps_goto rfl ?_
  exact kk _ iv2 re2
theorem lw_coarse (hi : i + 5 < ys.length) (hl : ys.length ≤ 3072) (iv : sx_IV xT xtg xPH h) (re : lwR h) (kk : ∀ h', sx_IV xT xtg xPH h' → lwR h' → pm_W (g_P ys) 0 1320 [.ref 99999, .ref 0, .ref 275, .int (nI i)] [] h' g_c1 Q) : pm_W (g_P ys) 0 1060 [.ref 99999, .ref 0, .ref 275, .int (nI i)] [] h g_c1 Q := by
  refine ps_aload rfl rfl ?_
  refine lw_rd (c := 1) rfl rfl rfl rfl rfl rfl (by omega) hl ?_
  refine lw_rd (c := 2) rfl rfl rfl rfl rfl rfl (by omega) hl ?_
  refine pv_k (m := 0) rfl rfl rfl rfl rfl (shp_of iv (a := 0) (t := 1) rfl rfl) rfl lw_cs ?_
  refine ap_164 h [.ref 0, .int (ys.getD (i + 1) 0), .int (ys.getD (i + 2) 0)] _ iv ⟨va_r rfl (by omega), va_f, va_f, trivial⟩ fas_n (fun v1 h1 iv1 fr1 q1 => ?_)
  obtain ⟨x1, rfl⟩ := out_1 q1
  have re1 := lwR_fr (h := h) (h' := h1) (by decide) fr1 re
  refine ps_ar rfl rfl rfl rfl rfl ?_
  refine ps_aload rfl rfl ?_
  refine lw_rd (c := 1) rfl rfl rfl rfl rfl rfl (by omega) hl ?_
  refine lw_rd (c := 2) rfl rfl rfl rfl rfl rfl (by omega) hl ?_
  refine pv_k (m := 0) rfl rfl rfl rfl rfl (shp_of iv1 (a := 275) (t := 50) rfl rfl) rfl lw_cs ?_
  refine ap_264 h1 [.ref 275, .int (ys.getD (i + 1) 0), .int (ys.getD (i + 2) 0)] _ iv1 ⟨va_M, va_f, va_f, trivial⟩ fas_n (fun v2 h2 iv2 fr2 q2 => ?_)
  obtain ⟨x2, rfl⟩ := out_1 q2
  have re2 := lwR_fr (h := h1) (h' := h2) (by decide) fr2 re1
  refine ps_ar rfl rfl rfl rfl rfl ?_
  refine ps_goto rfl ?_
  exact kk _ iv2 re2
theorem lw_anti (hi : i + 5 < ys.length) (hl : ys.length ≤ 3072) (iv : sx_IV xT xtg xPH h) (re : lwR h) (kk : ∀ h', sx_IV xT xtg xPH h' → lwR h' → pm_W (g_P ys) 0 1320 [.ref 99999, .ref 0, .ref 275, .int (nI i)] [] h' g_c1 Q) : pm_W (g_P ys) 0 1093 [.ref 99999, .ref 0, .ref 275, .int (nI i)] [] h g_c1 Q := by
  refine ps_aload rfl rfl ?_
  refine lw_rd (c := 1) rfl rfl rfl rfl rfl rfl (by omega) hl ?_
  refine lw_rd (c := 2) rfl rfl rfl rfl rfl rfl (by omega) hl ?_
  refine pv_k (m := 0) rfl rfl rfl rfl rfl (shp_of iv (a := 0) (t := 1) rfl rfl) rfl lw_cs ?_
  refine ap_165 h [.ref 0, .int (ys.getD (i + 1) 0), .int (ys.getD (i + 2) 0)] _ iv ⟨va_r rfl (by omega), va_f, va_f, trivial⟩ fas_n (fun v1 h1 iv1 fr1 q1 => ?_)
  obtain ⟨x1, rfl⟩ := out_1 q1
  have re1 := lwR_fr (h := h) (h' := h1) (by decide) fr1 re
  refine ps_ar rfl rfl rfl rfl rfl ?_
  refine ps_aload rfl rfl ?_
  refine lw_rd (c := 1) rfl rfl rfl rfl rfl rfl (by omega) hl ?_
  refine lw_rd (c := 2) rfl rfl rfl rfl rfl rfl (by omega) hl ?_
  refine pv_k (m := 0) rfl rfl rfl rfl rfl (shp_of iv1 (a := 275) (t := 50) rfl rfl) rfl lw_cs ?_
  refine ap_266 h1 [.ref 275, .int (ys.getD (i + 1) 0), .int (ys.getD (i + 2) 0)] _ iv1 ⟨va_M, va_f, va_f, trivial⟩ fas_n (fun v2 h2 iv2 fr2 q2 => ?_)
  obtain ⟨x2, rfl⟩ := out_1 q2
  have re2 := lwR_fr (h := h1) (h' := h2) (by decide) fr2 re1
  refine ps_ar rfl rfl rfl rfl rfl ?_
  refine ps_goto rfl ?_
  exact kk _ iv2 re2
theorem lw_keep (hi : i + 5 < ys.length) (hl : ys.length ≤ 3072) (iv : sx_IV xT xtg xPH h) (re : lwR h) (kk : ∀ h', sx_IV xT xtg xPH h' → lwR h' → pm_W (g_P ys) 0 1320 [.ref 99999, .ref 0, .ref 275, .int (nI i)] [] h' g_c1 Q) : pm_W (g_P ys) 0 1126 [.ref 99999, .ref 0, .ref 275, .int (nI i)] [] h g_c1 Q := by
  refine ps_aload rfl rfl ?_
  refine pv_k (m := 0) rfl rfl rfl rfl rfl (shp_of iv (a := 0) (t := 1) rfl rfl) rfl lw_cs ?_
  refine ap_167 h [.ref 0] _ iv ⟨va_r rfl (by omega), trivial⟩ fas_n (fun v1 h1 iv1 fr1 q1 => ?_)
  obtain ⟨x1, rfl⟩ := out_1 q1
  have re1 := lwR_fr (h := h) (h' := h1) (by decide) fr1 re
  refine ps_ar rfl rfl rfl rfl rfl ?_
  refine ps_aload rfl rfl ?_
  refine pv_k (m := 0) rfl rfl rfl rfl rfl (shp_of iv1 (a := 275) (t := 50) rfl rfl) rfl lw_cs ?_
  refine ap_267 h1 [.ref 275] _ iv1 ⟨va_M, trivial⟩ fas_n (fun v2 h2 iv2 fr2 q2 => ?_)
  obtain ⟨x2, rfl⟩ := out_1 q2
  have re2 := lwR_fr (h := h1) (h' := h2) (by decide) fr2 re1
  refine ps_ar rfl rfl rfl rfl rfl ?_
  refine ps_goto rfl ?_
  exact kk _ iv2 re2
theorem lw_match (hi : i + 5 < ys.length) (hl : ys.length ≤ 3072) (iv : sx_IV xT xtg xPH h) (re : lwR h) (kk : ∀ h', sx_IV xT xtg xPH h' → lwR h' → pm_W (g_P ys) 0 1320 [.ref 99999, .ref 0, .ref 275, .int (nI i)] [] h' g_c1 Q) : pm_W (g_P ys) 0 1139 [.ref 99999, .ref 0, .ref 275, .int (nI i)] [] h g_c1 Q := by
  refine ps_aload rfl rfl ?_
  refine lw_rd (c := 1) rfl rfl rfl rfl rfl rfl (by omega) hl ?_
  refine pv_k (m := 0) rfl rfl rfl rfl rfl (shp_of iv (a := 0) (t := 1) rfl rfl) rfl lw_cs ?_
  refine ap_169 h [.ref 0, .int (ys.getD (i + 1) 0)] _ iv ⟨va_r rfl (by omega), va_f, trivial⟩ fas_n (fun v1 h1 iv1 fr1 q1 => ?_)
  obtain ⟨x1, rfl⟩ := out_l q1
  have re1 := lwR_fr (h := h) (h' := h1) (by decide) fr1 re
  refine ps_ar rfl rfl rfl rfl rfl ?_
  refine ps_aload rfl rfl ?_
  refine lw_rd (c := 1) rfl rfl rfl rfl rfl rfl (by omega) hl ?_
  refine pv_k (m := 0) rfl rfl rfl rfl rfl (shp_of iv1 (a := 275) (t := 50) rfl rfl) rfl lw_cs ?_
  refine ap_268 h1 [.ref 275, .int (ys.getD (i + 1) 0)] _ iv1 ⟨va_M, va_f, trivial⟩ fas_n (fun v2 h2 iv2 fr2 q2 => ?_)
  obtain ⟨x2, rfl⟩ := out_l q2
  have re2 := lwR_fr (h := h1) (h' := h2) (by decide) fr2 re1
  refine ps_ar rfl rfl rfl rfl rfl ?_
  refine ps_goto rfl ?_
  exact kk _ iv2 re2
theorem lw_minus (hi : i + 5 < ys.length) (hl : ys.length ≤ 3072) (iv : sx_IV xT xtg xPH h) (re : lwR h) (kk : ∀ h', sx_IV xT xtg xPH h' → lwR h' → pm_W (g_P ys) 0 1320 [.ref 99999, .ref 0, .ref 275, .int (nI i)] [] h' g_c1 Q) : pm_W (g_P ys) 0 1162 [.ref 99999, .ref 0, .ref 275, .int (nI i)] [] h g_c1 Q := by
  refine ps_aload rfl rfl ?_
  refine lw_rd (c := 1) rfl rfl rfl rfl rfl rfl (by omega) hl ?_
  refine lw_rd (c := 2) rfl rfl rfl rfl rfl rfl (by omega) hl ?_
  refine pv_k (m := 0) rfl rfl rfl rfl rfl (shp_of iv (a := 0) (t := 1) rfl rfl) rfl lw_cs ?_
  refine ap_173 h [.ref 0, .int (ys.getD (i + 1) 0), .int (ys.getD (i + 2) 0)] _ iv ⟨va_r rfl (by omega), va_f, va_f, trivial⟩ fas_n (fun v1 h1 iv1 fr1 q1 => ?_)
  obtain ⟨x1, rfl⟩ := out_1 q1
  have re1 := lwR_fr (h := h) (h' := h1) (by decide) fr1 re
  refine ps_ar rfl rfl rfl rfl rfl ?_
  refine ps_aload rfl rfl ?_
  refine lw_rd (c := 1) rfl rfl rfl rfl rfl rfl (by omega) hl ?_
  refine lw_rd (c := 2) rfl rfl rfl rfl rfl rfl (by omega) hl ?_
  refine pv_k (m := 0) rfl rfl rfl rfl rfl (shp_of iv1 (a := 275) (t := 50) rfl rfl) rfl lw_cs ?_
  refine ap_271 h1 [.ref 275, .int (ys.getD (i + 1) 0), .int (ys.getD (i + 2) 0)] _ iv1 ⟨va_M, va_f, va_f, trivial⟩ fas_n (fun v2 h2 iv2 fr2 q2 => ?_)
  obtain ⟨x2, rfl⟩ := out_1 q2
  have re2 := lwR_fr (h := h1) (h' := h2) (by decide) fr2 re1
  refine ps_ar rfl rfl rfl rfl rfl ?_
  refine ps_goto rfl ?_
  exact kk _ iv2 re2
theorem lw_shots (hi : i + 5 < ys.length) (hl : ys.length ≤ 3072) (iv : sx_IV xT xtg xPH h) (re : lwR h) (kk : ∀ h', sx_IV xT xtg xPH h' → lwR h' → pm_W (g_P ys) 0 1320 [.ref 99999, .ref 0, .ref 275, .int (nI i)] [] h' g_c1 Q) : pm_W (g_P ys) 0 1195 [.ref 99999, .ref 0, .ref 275, .int (nI i)] [] h g_c1 Q := by
  refine ps_aload rfl rfl ?_
  refine lw_rd (c := 1) rfl rfl rfl rfl rfl rfl (by omega) hl ?_
  refine lw_rd (c := 2) rfl rfl rfl rfl rfl rfl (by omega) hl ?_
  refine lw_rd (c := 3) rfl rfl rfl rfl rfl rfl (by omega) hl ?_
  refine pv_k (m := 0) rfl rfl rfl rfl rfl (shp_of iv (a := 0) (t := 1) rfl rfl) rfl lw_cs ?_
  refine ap_174 h [.ref 0, .int (ys.getD (i + 1) 0), .int (ys.getD (i + 2) 0), .int (ys.getD (i + 3) 0)] _ iv ⟨va_r rfl (by omega), va_f, va_f, va_f, trivial⟩ fas_n (fun v1 h1 iv1 fr1 q1 => ?_)
  obtain ⟨x1, rfl⟩ := out_1 q1
  have re1 := lwR_fr (h := h) (h' := h1) (by decide) fr1 re
  refine ps_ar rfl rfl rfl rfl rfl ?_
  refine ps_aload rfl rfl ?_
  refine lw_rd (c := 1) rfl rfl rfl rfl rfl rfl (by omega) hl ?_
  refine lw_rd (c := 2) rfl rfl rfl rfl rfl rfl (by omega) hl ?_
  refine lw_rd (c := 3) rfl rfl rfl rfl rfl rfl (by omega) hl ?_
  refine pv_k (m := 0) rfl rfl rfl rfl rfl (shp_of iv1 (a := 275) (t := 50) rfl rfl) rfl lw_cs ?_
  refine ap_272 h1 [.ref 275, .int (ys.getD (i + 1) 0), .int (ys.getD (i + 2) 0), .int (ys.getD (i + 3) 0)] _ iv1 ⟨va_M, va_f, va_f, va_f, trivial⟩ fas_n (fun v2 h2 iv2 fr2 q2 => ?_)
  obtain ⟨x2, rfl⟩ := out_1 q2
  have re2 := lwR_fr (h := h1) (h' := h2) (by decide) fr2 re1
  refine ps_ar rfl rfl rfl rfl rfl ?_
  refine ps_goto rfl ?_
  exact kk _ iv2 re2
theorem lw_best (hi : i + 5 < ys.length) (hl : ys.length ≤ 3072) (iv : sx_IV xT xtg xPH h) (re : lwR h) (kk : ∀ h', sx_IV xT xtg xPH h' → lwR h' → pm_W (g_P ys) 0 1320 [.ref 99999, .ref 0, .ref 275, .int (nI i)] [] h' g_c1 Q) : pm_W (g_P ys) 0 1238 [.ref 99999, .ref 0, .ref 275, .int (nI i)] [] h g_c1 Q := by
  refine ps_aload rfl rfl ?_
  refine lw_rd (c := 1) rfl rfl rfl rfl rfl rfl (by omega) hl ?_
  refine pv_k (m := 0) rfl rfl rfl rfl rfl (shp_of iv (a := 0) (t := 1) rfl rfl) rfl lw_cs ?_
  refine ap_178 h [.ref 0, .int (ys.getD (i + 1) 0)] _ iv ⟨va_r rfl (by omega), va_f, trivial⟩ fas_n (fun v1 h1 iv1 fr1 q1 => ?_)
  obtain ⟨x1, rfl⟩ := out_1 q1
  have re1 := lwR_fr (h := h) (h' := h1) (by decide) fr1 re
  refine ps_ar rfl rfl rfl rfl rfl ?_
  refine ps_aload rfl rfl ?_
  refine lw_rd (c := 1) rfl rfl rfl rfl rfl rfl (by omega) hl ?_
  refine pv_k (m := 0) rfl rfl rfl rfl rfl (shp_of iv1 (a := 275) (t := 50) rfl rfl) rfl lw_cs ?_
  refine ap_274 h1 [.ref 275, .int (ys.getD (i + 1) 0)] _ iv1 ⟨va_M, va_f, trivial⟩ fas_n (fun v2 h2 iv2 fr2 q2 => ?_)
  obtain ⟨x2, rfl⟩ := out_1 q2
  have re2 := lwR_fr (h := h1) (h' := h2) (by decide) fr2 re1
  refine ps_ar rfl rfl rfl rfl rfl ?_
  refine ps_goto rfl ?_
  exact kk _ iv2 re2
theorem lw_worst (hi : i + 5 < ys.length) (hl : ys.length ≤ 3072) (iv : sx_IV xT xtg xPH h) (re : lwR h) (kk : ∀ h', sx_IV xT xtg xPH h' → lwR h' → pm_W (g_P ys) 0 1320 [.ref 99999, .ref 0, .ref 275, .int (nI i)] [] h' g_c1 Q) : pm_W (g_P ys) 0 1261 [.ref 99999, .ref 0, .ref 275, .int (nI i)] [] h g_c1 Q := by
  refine ps_aload rfl rfl ?_
  refine lw_rd (c := 1) rfl rfl rfl rfl rfl rfl (by omega) hl ?_
  refine pv_k (m := 0) rfl rfl rfl rfl rfl (shp_of iv (a := 0) (t := 1) rfl rfl) rfl lw_cs ?_
  refine ap_179 h [.ref 0, .int (ys.getD (i + 1) 0)] _ iv ⟨va_r rfl (by omega), va_f, trivial⟩ fas_n (fun v1 h1 iv1 fr1 q1 => ?_)
  obtain ⟨x1, rfl⟩ := out_1 q1
  have re1 := lwR_fr (h := h) (h' := h1) (by decide) fr1 re
  refine ps_ar rfl rfl rfl rfl rfl ?_
  refine ps_aload rfl rfl ?_
  refine lw_rd (c := 1) rfl rfl rfl rfl rfl rfl (by omega) hl ?_
  refine pv_k (m := 0) rfl rfl rfl rfl rfl (shp_of iv1 (a := 275) (t := 50) rfl rfl) rfl lw_cs ?_
  refine ap_275 h1 [.ref 275, .int (ys.getD (i + 1) 0)] _ iv1 ⟨va_M, va_f, trivial⟩ fas_n (fun v2 h2 iv2 fr2 q2 => ?_)
  obtain ⟨x2, rfl⟩ := out_1 q2
  have re2 := lwR_fr (h := h1) (h' := h2) (by decide) fr2 re1
  refine ps_ar rfl rfl rfl rfl rfl ?_
  refine ps_goto rfl ?_
  exact kk _ iv2 re2
theorem lw_print (hi : i + 5 < ys.length) (hl : ys.length ≤ 3072) (iv : sx_IV xT xtg xPH h) (re : lwR h) (kk : ∀ h', sx_IV xT xtg xPH h' → lwR h' → pm_W (g_P ys) 0 1320 [.ref 99999, .ref 0, .ref 275, .int (nI i)] [] h' g_c1 Q) : pm_W (g_P ys) 0 1284 [.ref 99999, .ref 0, .ref 275, .int (nI i)] [] h g_c1 Q := by
  refine ps_aload rfl rfl ?_
  refine pv_k (m := 0) rfl rfl rfl rfl rfl (shp_of iv (a := 0) (t := 1) rfl rfl) rfl lw_cs ?_
  refine ap_181 h [.ref 0] _ iv ⟨va_r rfl (by omega), trivial⟩ fas_n (fun v1 h1 iv1 fr1 q1 => ?_)
  obtain ⟨x1, rfl⟩ := out_1 q1
  have re1 := lwR_fr (h := h) (h' := h1) (by decide) fr1 re
  refine ps_ar rfl rfl rfl rfl rfl ?_
  refine ps_aload rfl rfl ?_
  refine pv_k (m := 0) rfl rfl rfl rfl rfl (shp_of iv1 (a := 275) (t := 50) rfl rfl) rfl lw_cs ?_
  refine ap_307 h1 [.ref 275] _ iv1 ⟨va_M, trivial⟩ fas_n (fun v2 h2 iv2 fr2 q2 => ?_)
  obtain ⟨x2, rfl⟩ := out_1 q2
  have re2 := lwR_fr (h := h1) (h' := h2) (by decide) fr2 re1
  refine ps_ar rfl rfl rfl rfl rfl ?_
  refine ps_goto rfl ?_
  exact kk _ iv2 re2
theorem lw_out (hi : i + 5 < ys.length) (hl : ys.length ≤ 3072) (iv : sx_IV xT xtg xPH h) (re : lwR h) (kk : ∀ h', sx_IV xT xtg xPH h' → lwR h' → pm_W (g_P ys) 0 1320 [.ref 99999, .ref 0, .ref 275, .int (nI i)] [] h' g_c1 Q) : pm_W (g_P ys) 0 1297 [.ref 99999, .ref 0, .ref 275, .int (nI i)] [] h g_c1 Q := by
  refine ps_aload rfl rfl ?_
  refine lw_rd (c := 1) rfl rfl rfl rfl rfl rfl (by omega) hl ?_
  refine pv_k (m := 0) rfl rfl rfl rfl rfl (shp_of iv (a := 0) (t := 1) rfl rfl) rfl lw_cs ?_
  refine ap_187 h [.ref 0, .int (ys.getD (i + 1) 0)] _ iv ⟨va_r rfl (by omega), va_f, trivial⟩ fas_n (fun v1 h1 iv1 fr1 q1 => ?_)
  obtain ⟨x1, rfl⟩ := out_1 q1
  have re1 := lwR_fr (h := h) (h' := h1) (by decide) fr1 re
  refine ps_ar rfl rfl rfl rfl rfl ?_
  refine ps_aload rfl rfl ?_
  refine lw_rd (c := 1) rfl rfl rfl rfl rfl rfl (by omega) hl ?_
  refine pv_k (m := 0) rfl rfl rfl rfl rfl (shp_of iv1 (a := 275) (t := 50) rfl rfl) rfl lw_cs ?_
  refine ap_314 h1 [.ref 275, .int (ys.getD (i + 1) 0)] _ iv1 ⟨va_M, va_f, trivial⟩ fas_n (fun v2 h2 iv2 fr2 q2 => ?_)
  obtain ⟨x2, rfl⟩ := out_1 q2
  have re2 := lwR_fr (h := h1) (h' := h2) (by decide) fr2 re1
  refine ps_ar rfl rfl rfl rfl rfl ?_
  refine ps_goto rfl ?_
  exact kk _ iv2 re2
abbrev lw_ts : Array Int := #[192, 205, 268, 291, 314, 337, 370, 423, 456, 519, 552, 585, 628, 681, 714, 747, 770, 793, 816, 849, 862, 905, 928, 951, 984, 1037, 1060, 1093, 1126, 1139, 1162, 1195, 1238, 1261, 1284, 1297]
theorem lw_to (hi : i + 5 < ys.length) (hl : ys.length ≤ 3072) (iv : sx_IV xT xtg xPH h) (re : lwR h) (kk : ∀ h', sx_IV xT xtg xPH h' → lwR h' → pm_W (g_P ys) 0 1320 [.ref 99999, .ref 0, .ref 275, .int (nI i)] [] h' g_c1 Q) : ∀ n : Nat, n < 36 → ∃ t : Int, lw_ts[n]? = some t ∧ pm_W (g_P ys) 0 t.toNat [.ref 99999, .ref 0, .ref 275, .int (nI i)] [] h g_c1 Q := by
  intro n hn
  match n, hn with
  | 0, _ => exact ⟨_, rfl, lw_status hi hl iv re kk⟩
  | 1, _ => exact ⟨_, rfl, lw_feed hi hl iv re kk⟩
  | 2, _ => exact ⟨_, rfl, lw_load hi hl iv re kk⟩
  | 3, _ => exact ⟨_, rfl, lw_fault hi hl iv re kk⟩
  | 4, _ => exact ⟨_, rfl, lw_many hi hl iv re kk⟩
  | 5, _ => exact ⟨_, rfl, lw_plate hi hl iv re kk⟩
  | 6, _ => exact ⟨_, rfl, lw_cell hi hl iv re kk⟩
  | 7, _ => exact ⟨_, rfl, lw_differences hi hl iv re kk⟩
  | 8, _ => exact ⟨_, rfl, lw_window hi hl iv re kk⟩
  | 9, _ => exact ⟨_, rfl, lw_alike hi hl iv re kk⟩
  | 10, _ => exact ⟨_, rfl, lw_root hi hl iv re kk⟩
  | 11, _ => exact ⟨_, rfl, lw_thing hi hl iv re kk⟩
  | 12, _ => exact ⟨_, rfl, lw_add hi hl iv re kk⟩
  | 13, _ => exact ⟨_, rfl, lw_drop hi hl iv re kk⟩
  | 14, _ => exact ⟨_, rfl, lw_lose hi hl iv re kk⟩
  | 15, _ => exact ⟨_, rfl, lw_heal hi hl iv re kk⟩
  | 16, _ => exact ⟨_, rfl, lw_light hi hl iv re kk⟩
  | 17, _ => exact ⟨_, rfl, lw_use hi hl iv re kk⟩
  | 18, _ => exact ⟨_, rfl, lw_slide hi hl iv re kk⟩
  | 19, _ => exact ⟨_, rfl, lw_undo hi hl iv re kk⟩
  | 20, _ => exact ⟨_, rfl, lw_at hi hl iv re kk⟩
  | 21, _ => exact ⟨_, rfl, lw_all hi hl iv re kk⟩
  | 22, _ => exact ⟨_, rfl, lw_peak hi hl iv re kk⟩
  | 23, _ => exact ⟨_, rfl, lw_found hi hl iv re kk⟩
  | 24, _ => exact ⟨_, rfl, lw_frames hi hl iv re kk⟩
  | 25, _ => exact ⟨_, rfl, lw_filled hi hl iv re kk⟩
  | 26, _ => exact ⟨_, rfl, lw_coarse hi hl iv re kk⟩
  | 27, _ => exact ⟨_, rfl, lw_anti hi hl iv re kk⟩
  | 28, _ => exact ⟨_, rfl, lw_keep hi hl iv re kk⟩
  | 29, _ => exact ⟨_, rfl, lw_match hi hl iv re kk⟩
  | 30, _ => exact ⟨_, rfl, lw_minus hi hl iv re kk⟩
  | 31, _ => exact ⟨_, rfl, lw_shots hi hl iv re kk⟩
  | 32, _ => exact ⟨_, rfl, lw_best hi hl iv re kk⟩
  | 33, _ => exact ⟨_, rfl, lw_worst hi hl iv re kk⟩
  | 34, _ => exact ⟨_, rfl, lw_print hi hl iv re kk⟩
  | 35, _ => exact ⟨_, rfl, lw_out hi hl iv re kk⟩
  | n + 36, hn => omega
abbrev lw_Q1 (v : List Value) (_ : pm_H) : Prop := v = [.int 1]
theorem lw_exit {n : Nat} (hl : ys.length ≤ 3072) (hn : 6 * n ≤ 3078) (hi : ys.length < 6 * n + 6) : pm_W (g_P ys) 0 18 [.ref 99999, .ref 0, .ref 275, .int (nI (6 * n))] [] h g_c1 lw_Q1 := by
  refine ps_iload rfl rfl ?_
  refine ps_aload rfl rfl ?_
  refine ps_he rfl rfl rfl rfl rfl rfl (show pm_he (g_P ys) .caload (.ref 99999 :: [.int (nI (6 * n))]) h = some (.int (nI ys.length) :: [.int (nI (6 * n))], h) from by simp only [pm_he, if_true]; rfl) ?_
  refine pw_c rfl ?_
  refine ps_ar rfl rfl rfl rfl rfl ?_
  have e : (nI ys.length - 6).toInt = (ys.length : Int) - 6 := by
    rw [show nI ys.length - 6 = iI ((ys.length : Int) - 6) from by rw [← iI_sub, iI_nat]; rfl, iI_toInt (by omega) (by omega)]
  refine ps_icmpt rfl (decide_eq_true ((i_lt _ _).mpr (by rw [e, nI_toInt (by omega)]; omega))) ?_
  refine pw_c rfl ?_
  exact ps_zret rfl rfl (Or.inr rfl) rfl
/-- out of the loop, or on by six -/
theorem lw_loop (hl : ys.length ≤ 3072) : ∀ (d n : Nat) (h : pm_H), ys.length < 6 * n + 6 * d → 6 * n ≤ 3078 → sx_IV xT xtg xPH h → lwR h → pm_W (g_P ys) 0 18 [.ref 99999, .ref 0, .ref 275, .int (nI (6 * n))] [] h g_c1 lw_Q1 := by
  intro d
  induction d with
  | zero =>
    intro n h hd hn iv re
    exact lw_exit hl hn (by omega)
  | succ d ih =>
    intro n h hd hn iv re
    by_cases hi : 6 * n + 5 < ys.length
    · refine ps_iload rfl rfl ?_
      refine ps_aload rfl rfl ?_
      refine ps_he rfl rfl rfl rfl rfl rfl (show pm_he (g_P ys) .caload (.ref 99999 :: [.int (nI (6 * n))]) h = some (.int (nI ys.length) :: [.int (nI (6 * n))], h) from by simp only [pm_he, if_true]; rfl) ?_
      refine pw_c rfl ?_
      refine ps_ar rfl rfl rfl rfl rfl ?_
      rw [show nI ys.length - 6 = nI (ys.length - 6) from nI_sub (b := 6) (by omega)]
      refine ps_icmpf rfl (decide_eq_false (fun q => absurd ((nI_ltI (by omega) (by omega)).mp q) (by omega))) ?_
      refine ps_aload rfl rfl ?_
      refine ps_iload rfl rfl ?_
      have e : pm_in (nI (6 * n)) ys.length = true := by rw [pm_in_nI (by omega) (by omega)]
      refine ps_he rfl rfl rfl rfl rfl rfl (show pm_he (g_P ys) .saload (.int (nI (6 * n)) :: .ref 99999 :: []) h = some (.int (ys.getD (6 * n) 0) :: [], h) from by
        simp only [pm_he]
        rw [if_pos ⟨trivial, e⟩, nI_clamp (show 6 * n < 2 ^ 31 by omega)]
        rfl) ?_
      refine pw_c rfl ?_
      refine ps_ar rfl rfl rfl rfl rfl ?_
      have nx : ∀ h', sx_IV xT xtg xPH h' → lwR h' → pm_W (g_P ys) 0 1320 [.ref 99999, .ref 0, .ref 275, .int (nI (6 * n))] [] h' g_c1 lw_Q1 := by
        intro h' iv' re'
        refine ps_iinc rfl rfl ?_
        refine ps_goto rfl ?_
        show pm_W (g_P ys) 0 18 [.ref 99999, .ref 0, .ref 275, .int (nI (6 * n) + nI 6)] [] h' g_c1 lw_Q1
        rw [nI_add, show 6 * n + 6 = 6 * (n + 1) by omega]
        exact ih (n + 1) h' (by omega) (by omega) iv' re'
      generalize ys.getD (6 * n) 0 &&& 63 = c
      have hb : ∃ t : Nat, pm_br (.tableswitch 1320 0 35 lw_ts) 192 [.int c] = some (t, []) ∧ pm_W (g_P ys) 0 t [.ref 99999, .ref 0, .ref 275, .int (nI (6 * n))] [] h g_c1 lw_Q1 := by
        by_cases hc : c.toInt < 0 ∨ 35 < c.toInt
        · exact ⟨1320, by simp only [pm_br, if_pos hc]; rfl, nx h iv re⟩
        · obtain ⟨m, hm⟩ : ∃ m : Nat, c.toInt = m := ⟨c.toInt.toNat, by omega⟩
          obtain ⟨t, ht, hw⟩ := lw_to hi hl iv re nx m (by omega)
          refine ⟨t.toNat, ?_, hw⟩
          have e : (c.toInt - 0).toNat = m := by omega
          simp only [pm_br, if_neg hc, e, ht]
      obtain ⟨t, ht, hw⟩ := hb
      exact pw_s (i := .tableswitch 1320 0 35 lw_ts) rfl rfl rfl (by simp only [pm_s, pm_lo, pm_ar, ht]) hw
    · exact lw_exit hl hn (by omega)
theorem law_pure : ∀ ys : List Int32, ys.length ≤ 3072 → ∃ (f : Nat) (h' : pm_H), pm_run (g_P ys) f 0 0 [.ref 99999, .retAddr 0, .retAddr 0, .retAddr 0] [] g_h0 (0, 0) = some ([.int 1], h') := by
  intro ys hy
  have W : pm_W (g_P ys) 0 0 [.ref 99999, .retAddr 0, .retAddr 0, .retAddr 0] [] g_h0 (0, 0) lw_Q1 := by
    refine ctor_W (fun h hr => ?_)
    obtain ⟨iv, e⟩ := start_iv hr
    exact lw_loop hy 513 0 h (by omega) (by omega) iv (lwR_0 hr e)
  obtain ⟨f, v, h', a, b⟩ := W
  exact ⟨f, h', by rw [a, b]⟩
end LA
