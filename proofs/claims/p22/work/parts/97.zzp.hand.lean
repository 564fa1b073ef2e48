/-! BY HAND: the class looks: what it knows of its bench, its camera, its picture -/
section TR
variable {I I' I1 I2 J : Nat → Nat → Int32} {L : Nat → Nat → Int64} {s s' s1 s2 : Nat → Option Nat} {Q : List Value → pm_H → Prop} {ys : List Int32} {p e m t b u r : Nat} {P : sPl} {S : sS} {B : sB} {g : Nat → Int32} {h : pm_H}
/-- SIDES of each PLATE -/
def cSds (b : Nat) (B : sB) (I : Nat → Nat → Int32) : Prop := ∀ k, k < B.ps → cSd I (b + 17 + 4 * k) (B.pl k)
/-- the camera, aimed at the PLATE u -/
def cCk (b : Nat) (B : sB) (u : Nat) (s : Nat → Option Nat) (I : Nat → Nat → Int32) : Prop := I 255 15 = 1 ∧ s 2 = some (b + 17 + 4 * u) ∧ s 3 = some (b + 2) ∧ cKn 255 (B.pl u) B.S I
def cCm (b : Nat) (B : sB) (s : Nat → Option Nat) (I : Nat → Nat → Int32) : Prop := I 255 15 = 0 ∨ ∃ u, u < B.ps ∧ B.S.us = nI u ∧ cCk b B u s I
def cFF (b : Nat) (B : sB) (s : Nat → Option Nat) (I : Nat → Nat → Int32) : Prop := cBq b B I ∧ cSc (b + 2) B.S I ∧ cSds b B I ∧ cCm b B s I
def cFk (b : Nat) (B : sB) (u : Nat) (s : Nat → Option Nat) (I : Nat → Nat → Int32) : Prop := cBq b B I ∧ cSc (b + 2) B.S I ∧ cSds b B I ∧ cCk b B u s I
/-- where questions of the class write -/
def qS (b : Nat) (I I' : Nat → Nat → Int32) : Prop := ∀ a j : Nat, ¬ (a = 0 ∧ j = 10) → ¬ (255 ≤ a ∧ a ≤ 274) → (∀ k, k < 6 → ¬ a = b + 17 + 4 * k + 3 ∧ ¬ (a = b + 17 + 4 * k ∧ 9 ≤ j ∧ j ≤ 11)) → I' a j = I a j
def lkS (s s' : Nat → Option Nat) : Prop := ∀ i, ¬ i = 2 → ¬ i = 3 → ¬ i = 4 → ¬ i = 5 → s' i = s i
theorem qS_r : qS b I I := fun _ _ _ _ _ => rfl
theorem qS_t (h1 : qS b I I1) (h2 : qS b I1 I2) : qS b I I2 := fun a j z1 z2 z3 => (h2 a j z1 z2 z3).trans (h1 a j z1 z2 z3)
theorem qS_u {x : Int32} : qS b I (pm_u I 0 10 x) := fun a j z1 _ _ => pu_x z1
theorem lkS_r : lkS s s := fun _ _ _ _ _ => rfl
theorem lkS_t (h1 : lkS s s1) (h2 : lkS s1 s2) : lkS s s2 := fun i z1 z2 z3 z4 => (h2 i z1 z2 z3 z4).trans (h1 i z1 z2 z3 z4)
theorem qS_sk (hb : isB b) {k : Nat} (hk : k < 6) (h : skA (b + 17 + 4 * k) I I') : qS b I I' := fun a j z1 z2 z3 => h a j (z3 k hk).2 (z3 k hk).1
theorem qS_c (h : ∀ a j, ¬ (255 ≤ a ∧ a ≤ 274) → I' a j = I a j) : qS b I I' := fun a j _ z2 _ => h a j z2
theorem cBq_q (hb : isB b) (h : cBq b B I) (ok : B.ok) (k : qS b I I') : cBq b B I' := by
  have bb := isB_b hb
  obtain ⟨h1, h2⟩ := h
  refine ⟨(k _ _ (by omega) (by omega) (fun k _ => by omega)).trans h1, fun i hi => ?_⟩
  have p6 := ok.1
  obtain ⟨⟨g1, g2, g3, g4⟩, g5, g6, g7, g8⟩ := h2 i hi
  have kk : ∀ j, ¬ (9 ≤ j ∧ j ≤ 11) → I' (b + 17 + 4 * i) j = I (b + 17 + 4 * i) j := fun j z => k _ _ (by omega) (by omega) (fun k _ => by omega)
  exact ⟨⟨(kk _ (by decide)).trans g1, (kk _ (by decide)).trans g2, (kk _ (by decide)).trans g3, g4⟩, (kk _ (by decide)).trans g5, (kk _ (by decide)).trans g6, (kk _ (by decide)).trans g7, fun x hx => ⟨(k _ _ (by omega) (by omega) (fun k _ => by omega)).trans (g8 x hx).1, (k _ _ (by omega) (by omega) (fun k _ => by omega)).trans (g8 x hx).2⟩⟩
theorem cSc_q (hb : isB b) (h : cSc (b + 2) S I) (k : qS b I I') : cSc (b + 2) S I' := by
  have bb := isB_b hb
  exact cSc_t h (fun a j z1 z2 => k a j (by omega) (by omega) (fun k _ => by omega))
theorem cSd_o (h : cSd I p P) (k : ∀ j, I' p j = I p j) (k3 : ∀ j, I' (p + 3) j = I (p + 3) j) : cSd I' p P := h.imp (fun z => (k _).trans z) (fun z => ⟨(k _).trans z.1, fun i hi => (k3 _).trans (z.2.1 i hi), (k _).trans z.2.2.1, (k _).trans z.2.2.2⟩)
theorem cSds_c (hb : isB b) (h : cSds b B I) (ok : B.ok) (k : ∀ a j, b ≤ a → a ≤ b + 40 → I' a j = I a j) : cSds b B I' := fun i hi => by
  have p6 := ok.1
  exact cSd_o (h i hi) (fun j => k _ _ (by omega) (by omega)) (fun j => k _ _ (by omega) (by omega))
theorem cSds_k (hb : isB b) (h : cSds b B I) (ok : B.ok) (hu : u < B.ps) (k : skA (b + 17 + 4 * u) I I') (s : cSk I' (b + 17 + 4 * u) (B.pl u)) : cSds b B I' := fun i hi => by
  have p6 := ok.1
  by_cases e : i = u
  · rw [e]
    exact Or.inr s
  · exact cSd_o (h i hi) (fun j => k _ _ (by omega) (by omega)) (fun j => k _ _ (by omega) (by omega))
theorem cKn_c (h : cKn 255 P S I) (k : ∀ a j, 255 ≤ a → a ≤ 264 → I' a j = I a j) : cKn 255 P S I' := by
  obtain ⟨a, d, s, w⟩ := h
  have kc : ∀ j, I' 255 j = I 255 j := fun j => k _ _ (by omega) (by omega)
  have kd : cDk 255 P S I → cDk 255 P S I' := fun d => cDk_o d kc (fun j => k _ _ (by omega) (by omega))
  exact ⟨cAm_o a (kc _) (fun a j z1 z2 => k a j (by omega) (by omega)), d.imp (fun z => (kc _).trans z) kd, s.imp (fun z => (kc _).trans z) (fun z => ⟨cSg_o z.1 kc (fun j => k _ _ (by omega) (by omega)) (fun j => k _ _ (by omega) (by omega)), kd z.2⟩), w.imp (fun z => (kc _).trans z) (fun z => ⟨(kc _).trans z.1, (kc _).trans z.2.1, (kc _).trans z.2.2⟩)⟩
theorem cCk_c (h : cCk b B u s I) (k : ∀ a j, 255 ≤ a → a ≤ 264 → I' a j = I a j) : cCk b B u s I' := ⟨(k _ _ (by omega) (by omega)).trans h.1, h.2.1, h.2.2.1, cKn_c h.2.2.2 k⟩
theorem cCm_c (h : cCm b B s I) (k : ∀ a j, 255 ≤ a → a ≤ 264 → I' a j = I a j) : cCm b B s I' := h.imp (fun z => (k _ _ (by omega) (by omega)).trans z) (fun ⟨u, z1, z2, z3⟩ => ⟨u, z1, z2, cCk_c z3 k⟩)
theorem cFk_m (h : cFk b B u s I) (hu : u < B.ps) (e : B.S.us = nI u) : cFF b B s I := ⟨h.1, h.2.1, h.2.2.1, Or.inr ⟨u, hu, e, h.2.2.2⟩⟩
theorem cF_st (hb : isB b) (h : cFF b B s I) (ok : B.ok) {x : Int32} : cFF b B s (pm_u I 0 10 x) := by
  have bb := isB_b hb
  exact ⟨cBq_q hb h.1 ok qS_u, cSc_q hb h.2.1 qS_u, cSds_c hb h.2.2.1 ok (fun a j z1 z2 => pu_o (by omega)), cCm_c h.2.2.2 (fun a j z1 z2 => pu_o (by omega))⟩
/-- behind a step of the camera -/
theorem cFk_o (hb : isB b) (h : cFk b B u s I) (ok : B.ok) (k : cOk 255 (B.pl u) B.S I I') : cFk b B u s I' ∧ qS b I I' := by
  have bb := isB_b hb
  have q : qS b I I' := qS_c (fun a j z => k.1 a j (by omega))
  exact ⟨⟨cBq_q hb h.1 ok q, cSc_q hb h.2.1 q, cSds_c hb h.2.2.1 ok (fun a j z1 z2 => k.1 a j (by omega)), k.2.1.trans h.2.2.2.1, h.2.2.2.2.1, h.2.2.2.2.2.1, k.2.2⟩, q⟩
theorem cFk_V (hb : isB b) (h : cFk b B u s I) (ok : B.ok) (hu : u < B.ps) : cV 255 2 (b + 17 + 4 * u) (b + 2) s (B.pl u) B.S I := ⟨Or.inl ⟨rfl, rfl⟩, isP_6 hb ok hu, isE_b hb, h.2.2.2.2.1, h.2.2.2.2.2.1, cBq_p h.1 hu, h.2.1, okB ok⟩
theorem B_inUseX (hb : isB b) (hB : cBq b B I) (p6 : B.ps ≤ 6) (hS : cSc (b + 2) B.S I) (kY : ∀ k, k < B.ps → B.S.us = nI k → Q [.ref (b + 17 + 4 * k)] (I, L, g_R s, 306)) (kN : ¬ (0 ≤ B.S.us.toInt ∧ B.S.us.toInt < B.ps) → Q [.null] (I, L, g_R s, 306)) : pm_W (g_P ys) 123 0 [.ref b] [] (I, L, g_R s, 306) (0, 0) Q := by
  obtain ⟨hS0, hS1, hS2, hS3, hS4, hR0, hR1, hR2, hR3, hR4, hR5, hR6, hR7⟩ := bn_F (ys := ys) (s := s) hb
  refine ps_aload rfl rfl ?_
  refine ps_aload rfl rfl ?_
  refine ps_gfr 8 1 rfl rfl rfl (by first | exact hS0 _ _ | exact hS1 _ _ | exact hS2 _ _ | exact hS3 _ _ | exact hS4 _ _ | exact hS5 _ _ | exact hS6 _ _ | exact hS7 _ _ | exact hS8 _ _ | exact hS9 _ _ | exact hS10 _ _ | exact hS11 _ _ | exact hS12 _ _ | exact hS13 _ _ | exact hS14 _ _ | exact hS15 _ _ | exact hS16 _ _ | exact hS17 _ _ | exact hS18 _ _ | exact hS19 _ _ | exact hS20 _ _ | exact hS21 _ _ | exact hS22 _ _ | exact hS23 _ _ | assumption | rfl) rfl (by first | assumption | rfl) ?_
  refine ps_gfi 5 4 rfl rfl rfl (by first | exact hS0 _ _ | exact hS1 _ _ | exact hS2 _ _ | exact hS3 _ _ | exact hS4 _ _ | exact hS5 _ _ | exact hS6 _ _ | exact hS7 _ _ | exact hS8 _ _ | exact hS9 _ _ | exact hS10 _ _ | exact hS11 _ _ | exact hS12 _ _ | exact hS13 _ _ | exact hS14 _ _ | exact hS15 _ _ | exact hS16 _ _ | exact hS17 _ _ | exact hS18 _ _ | exact hS19 _ _ | exact hS20 _ _ | exact hS21 _ _ | exact hS22 _ _ | exact hS23 _ _ | assumption | rfl) rfl ?_
  rw [show ((I, L, g_R s, 306) : pm_H).1 (b + 2) 4 = B.S.us from hS.2.2.1]
  refine pv_k rfl rfl rfl rfl rfl (hS0 _ _) rfl ⟨Nat.zero_le _, Nat.zero_le _⟩ ?_
  refine B_plate6 hb hB p6 _ (fun k hk ek => ?_) (fun hn => ?_)
  · refine ps_aret rfl rfl ?_
    exact kY k hk ek
  · refine ps_aretN rfl rfl ?_
    exact kN hn
theorem B_lookX (hb : isB b) (h0 : s 0 = some b) (hF : cFF b B s I) (ok : B.ok) (ku : okU B.S B.ps) (kN : B.ps = 0 → Q [.int 2] (I, L, g_R s, 306)) (kY : ∀ u I' s', u < B.ps → B.S.us = nI u → qS b I I' → lkS s s' → cFk b B u s' I' → Q [.int 0] (I', L, g_R s', 306)) : pm_W (g_P ys) 122 0 [.ref 0, .retAddr 0] [] (I, L, g_R s, 306) (0, 0) Q := by
  obtain ⟨hS0, hS1, hS2, hS3, hS4, hR0, hR1, hR2, hR3, hR4, hR5, hR6, hR7⟩ := bn_F (ys := ys) (s := s) hb
  have bb := isB_b hb
  obtain ⟨hB, hS, hD, hC⟩ := hF
  have hS5 : ∀ I L, pm_sh (g_P ys) (I, L, g_R s, 306) 255 = some (.inl 10) := fun _ _ => rfl
  refine ps_aload rfl rfl ?_
  refine ps_gfr 0 6 rfl rfl rfl (by first | exact hS0 _ _ | exact hS1 _ _ | exact hS2 _ _ | exact hS3 _ _ | exact hS4 _ _ | exact hS5 _ _ | exact hS6 _ _ | exact hS7 _ _ | exact hS8 _ _ | exact hS9 _ _ | exact hS10 _ _ | exact hS11 _ _ | exact hS12 _ _ | exact hS13 _ _ | exact hS14 _ _ | exact hS15 _ _ | exact hS16 _ _ | exact hS17 _ _ | exact hS18 _ _ | exact hS19 _ _ | exact hS20 _ _ | exact hS21 _ _ | exact hS22 _ _ | exact hS23 _ _ | assumption | rfl) rfl ( h0) ?_
  refine pv_k rfl rfl rfl rfl rfl (hS0 _ _) rfl ⟨Nat.zero_le _, Nat.zero_le _⟩ ?_
  refine B_inUseX hb hB ok.1 hS (fun k hk ek => ?_) (fun hn => ?_)
  · refine ps_astore rfl rfl ?_
    refine ps_aload rfl rfl ?_
    refine ps_brr rfl rfl rfl rfl rfl rfl ?_
    refine ps_aload rfl rfl ?_
    refine ps_gfr 0 8 rfl rfl rfl (by first | exact hS0 _ _ | exact hS1 _ _ | exact hS2 _ _ | exact hS3 _ _ | exact hS4 _ _ | exact hS5 _ _ | exact hS6 _ _ | exact hS7 _ _ | exact hS8 _ _ | exact hS9 _ _ | exact hS10 _ _ | exact hS11 _ _ | exact hS12 _ _ | exact hS13 _ _ | exact hS14 _ _ | exact hS15 _ _ | exact hS16 _ _ | exact hS17 _ _ | exact hS18 _ _ | exact hS19 _ _ | exact hS20 _ _ | exact hS21 _ _ | exact hS22 _ _ | exact hS23 _ _ | assumption | rfl) rfl ( rfl) ?_
    refine ps_aload rfl rfl ?_
    refine ps_aload rfl rfl ?_
    refine ps_gfr 0 6 rfl rfl rfl (by first | exact hS0 _ _ | exact hS1 _ _ | exact hS2 _ _ | exact hS3 _ _ | exact hS4 _ _ | exact hS5 _ _ | exact hS6 _ _ | exact hS7 _ _ | exact hS8 _ _ | exact hS9 _ _ | exact hS10 _ _ | exact hS11 _ _ | exact hS12 _ _ | exact hS13 _ _ | exact hS14 _ _ | exact hS15 _ _ | exact hS16 _ _ | exact hS17 _ _ | exact hS18 _ _ | exact hS19 _ _ | exact hS20 _ _ | exact hS21 _ _ | exact hS22 _ _ | exact hS23 _ _ | assumption | rfl) rfl ( h0) ?_
    refine ps_gfr 8 1 rfl rfl rfl (by first | exact hS0 _ _ | exact hS1 _ _ | exact hS2 _ _ | exact hS3 _ _ | exact hS4 _ _ | exact hS5 _ _ | exact hS6 _ _ | exact hS7 _ _ | exact hS8 _ _ | exact hS9 _ _ | exact hS10 _ _ | exact hS11 _ _ | exact hS12 _ _ | exact hS13 _ _ | exact hS14 _ _ | exact hS15 _ _ | exact hS16 _ _ | exact hS17 _ _ | exact hS18 _ _ | exact hS19 _ _ | exact hS20 _ _ | exact hS21 _ _ | exact hS22 _ _ | exact hS23 _ _ | assumption | rfl) rfl (by first | assumption | rfl) ?_
    refine pv_k rfl rfl rfl rfl rfl (hS5 _ _) rfl ⟨Nat.zero_le _, Nat.zero_le _⟩ ?_
    rcases hC with hC | ⟨u, hu, eu, hC⟩
    · refine B_aimX (cm := 255) (ci := 2) (Or.inl ⟨rfl, rfl⟩) (isP_6 hb ok hk) (isE_b hb) (cBq_p hB hk) hS (okB ok) hC (fun I1 a1 m1 f1 f2 f3 f4 => ?_)
      refine pw_c rfl ?_
      refine ps_iret rfl rfl ?_
      have q : qS b I I1 := qS_c (fun a j z => a1 a j (by omega) (by omega))
      exact kY k I1 _ hk ek q (fun i z1 z2 _ _ => aimS_o z1 z2) ⟨cBq_q hb hB ok q, cSc_q hb hS q, cSds_c hb hD ok (fun a j z1 z2 => a1 a j (by omega) (by omega)), f1, aimS_p (cm := 255) (Or.inl ⟨rfl, rfl⟩), aimS_e (cm := 255) (Or.inl ⟨rfl, rfl⟩), m1, Or.inl f2, Or.inl f3, Or.inl f4⟩
    · refine B_aimN (cm := 255) (ci := 2) (Or.inl ⟨rfl, rfl⟩) hC.1 ?_
      refine pw_c rfl ?_
      refine ps_iret rfl rfl ?_
      exact kY u I s hu eu qS_r lkS_r ⟨hB, hS, hD, hC⟩
  · refine ps_astoreN rfl rfl ?_
    refine ps_aloadN rfl rfl ?_
    refine ps_brr rfl rfl rfl rfl rfl rfl ?_
    refine pw_c rfl ?_
    refine ps_iret rfl rfl ?_
    refine kN ?_
    obtain ⟨u, e1, e2⟩ := ku
    have p6 := ok.1
    rw [e1, nI_toInt (by omega)] at hn
    omega
/-- a place on a PLATE -/
abbrev onQ (P : sPl) (x y : Int32) : Prop := (0 ≤ x.toInt ∧ x.toInt < P.w) ∧ (0 ≤ y.toInt ∧ y.toInt < P.v)
theorem B_lookAtX (hb : isB b) (h0 : s 0 = some b) (hF : cFF b B s I) (ok : B.ok) (ku : okU B.S B.ps) (x y : Int32) (kN : ∀ I' s', (∀ u, u < B.ps → B.S.us = nI u → ¬ onQ (B.pl u) x y) → qS b I I' → lkS s s' → cFF b B s' I' → Q [.int 2] (I', L, g_R s', 306)) (kY : ∀ u I' s', u < B.ps → B.S.us = nI u → onQ (B.pl u) x y → qS b I I' → lkS s s' → cFk b B u s' I' → Q [.int 0] (I', L, g_R s', 306)) : pm_W (g_P ys) 121 0 [.ref 0, .int x, .int y, .retAddr 0] [] (I, L, g_R s, 306) (0, 0) Q := by
  have bb := isB_b hb
  have e0 : (0 : Int32).toInt = 0 := rfl
  refine ps_aload rfl rfl ?_
  refine pv_k rfl rfl rfl rfl rfl rfl rfl ⟨Nat.zero_le _, Nat.zero_le _⟩ ?_
  refine B_lookX hb h0 hF ok ku (fun hn => ?_) (fun u I1 s1 hu eu q l k => ?_)
  · refine ps_istore rfl rfl ?_
    refine ps_iload rfl rfl ?_
    refine ps_ift rfl (by decide) ?_
    refine ps_iload rfl rfl ?_
    refine ps_iret rfl rfl ?_
    exact kN I s (fun u hu => absurd hu (by omega)) qS_r lkS_r hF
  · have p6 := ok.1
    have hp := isP_6 hb ok hu
    obtain ⟨hS0, _⟩ := pl_F (ys := ys) (s := s1) hp
    have hP := cBq_p k.1 hu
    have h13 : g_R s1 255 13 = some (b + 17 + 4 * u) := k.2.2.2.2.1
    refine ps_istore rfl rfl ?_
    refine ps_iload rfl rfl ?_
    refine ps_iff rfl (by decide) ?_
    refine ps_aload rfl rfl ?_
    refine ps_gfr 0 8 rfl rfl rfl (by first | exact hS0 _ _ | exact hS1 _ _ | exact hS2 _ _ | exact hS3 _ _ | exact hS4 _ _ | exact hS5 _ _ | exact hS6 _ _ | exact hS7 _ _ | exact hS8 _ _ | exact hS9 _ _ | exact hS10 _ _ | exact hS11 _ _ | exact hS12 _ _ | exact hS13 _ _ | exact hS14 _ _ | exact hS15 _ _ | exact hS16 _ _ | exact hS17 _ _ | exact hS18 _ _ | exact hS19 _ _ | exact hS20 _ _ | exact hS21 _ _ | exact hS22 _ _ | exact hS23 _ _ | assumption | rfl) rfl ( rfl) ?_
    refine ps_gfr 10 13 rfl rfl rfl (by first | exact hS0 _ _ | exact hS1 _ _ | exact hS2 _ _ | exact hS3 _ _ | exact hS4 _ _ | exact hS5 _ _ | exact hS6 _ _ | exact hS7 _ _ | exact hS8 _ _ | exact hS9 _ _ | exact hS10 _ _ | exact hS11 _ _ | exact hS12 _ _ | exact hS13 _ _ | exact hS14 _ _ | exact hS15 _ _ | exact hS16 _ _ | exact hS17 _ _ | exact hS18 _ _ | exact hS19 _ _ | exact hS20 _ _ | exact hS21 _ _ | exact hS22 _ _ | exact hS23 _ _ | assumption | rfl) rfl ( h13) ?_
    refine ps_iload rfl rfl ?_
    refine ps_iload rfl rfl ?_
    refine pv_k rfl rfl rfl rfl rfl (hS0 _ _) rfl ⟨Nat.zero_le _, Nat.zero_le _⟩ ?_
    refine B_hasX hp hP.1 x y ?_
    by_cases on : onQ (B.pl u) x y
    · rw [decide_eq_true on]
      refine ps_ift rfl (rfl) ?_
      refine ps_iload rfl rfl ?_
      refine ps_iret rfl rfl ?_
      exact kY u I1 s1 hu eu on q l k
    · rw [decide_eq_false on]
      refine ps_iff rfl (rfl) ?_
      refine pw_c rfl ?_
      refine ps_goto rfl ?_
      refine ps_iret rfl rfl ?_
      refine kN I1 s1 (fun v hv ev => ?_) q l (cFk_m k hu eu)
      have : v = u := nI_eqv (by omega) (by omega) (ev.symm.trans eu)
      rw [this]
      exact on
theorem B_lookResX (hb : isB b) (h0 : s 0 = some b) (hF : cFF b B s I) (ok : B.ok) (ku : okU B.S B.ps) (kN : B.ps = 0 → Q [.int 2] (I, L, g_R s, 306)) (kC : ∀ u I' s', u < B.ps → B.S.us = nI u → ¬ crP (B.pl u) → qS b I I' → lkS s s' → cFk b B u s' I' → Q [.int 5] (I', L, g_R s', 306)) (kY : ∀ u I' s', u < B.ps → B.S.us = nI u → crP (B.pl u) → qS b I I' → lkS s s' → cFk b B u s' I' → cSk I' (b + 17 + 4 * u) (B.pl u) → Q [.int 0] (I', L, g_R s', 306)) : pm_W (g_P ys) 128 0 [.ref 0, .retAddr 0] [] (I, L, g_R s, 306) (0, 0) Q := by
  have bb := isB_b hb
  have e0 : (0 : Int32).toInt = 0 := rfl
  refine ps_aload rfl rfl ?_
  refine pv_k rfl rfl rfl rfl rfl rfl rfl ⟨Nat.zero_le _, Nat.zero_le _⟩ ?_
  refine B_lookX hb h0 hF ok ku (fun hn => ?_) (fun u I1 s1 hu eu q l k => ?_)
  · refine ps_istore rfl rfl ?_
    refine ps_iload rfl rfl ?_
    refine ps_ift rfl (by decide) ?_
    refine ps_iload rfl rfl ?_
    refine ps_iret rfl rfl ?_
    exact kN hn
  · have p6 := ok.1
    have hp := isP_6 hb ok hu
    obtain ⟨hS0, _⟩ := pl_F (ys := ys) (s := s1) hp
    have hP := cBq_p k.1 hu
    have h13 : g_R s1 255 13 = some (b + 17 + 4 * u) := k.2.2.2.2.1
    have kk : ∀ I2, skA (b + 17 + 4 * u) I1 I2 → cSk I2 (b + 17 + 4 * u) (B.pl u) → qS b I I2 ∧ cFk b B u s1 I2 := fun I2 a s2 => by
      have q2 := qS_sk hb (show u < 6 by omega) a
      exact ⟨qS_t q q2, cBq_q hb k.1 ok q2, cSc_q hb k.2.1 q2, cSds_k hb k.2.2.1 ok hu a s2, cCk_c k.2.2.2 (fun x j z1 z2 => a x j (by omega) (by omega))⟩
    refine ps_istore rfl rfl ?_
    refine ps_iload rfl rfl ?_
    refine ps_iff rfl (by decide) ?_
    refine ps_aload rfl rfl ?_
    refine ps_gfr 0 8 rfl rfl rfl (by first | exact hS0 _ _ | exact hS1 _ _ | exact hS2 _ _ | exact hS3 _ _ | exact hS4 _ _ | exact hS5 _ _ | exact hS6 _ _ | exact hS7 _ _ | exact hS8 _ _ | exact hS9 _ _ | exact hS10 _ _ | exact hS11 _ _ | exact hS12 _ _ | exact hS13 _ _ | exact hS14 _ _ | exact hS15 _ _ | exact hS16 _ _ | exact hS17 _ _ | exact hS18 _ _ | exact hS19 _ _ | exact hS20 _ _ | exact hS21 _ _ | exact hS22 _ _ | exact hS23 _ _ | assumption | rfl) rfl ( rfl) ?_
    refine ps_gfr 10 13 rfl rfl rfl (by first | exact hS0 _ _ | exact hS1 _ _ | exact hS2 _ _ | exact hS3 _ _ | exact hS4 _ _ | exact hS5 _ _ | exact hS6 _ _ | exact hS7 _ _ | exact hS8 _ _ | exact hS9 _ _ | exact hS10 _ _ | exact hS11 _ _ | exact hS12 _ _ | exact hS13 _ _ | exact hS14 _ _ | exact hS15 _ _ | exact hS16 _ _ | exact hS17 _ _ | exact hS18 _ _ | exact hS19 _ _ | exact hS20 _ _ | exact hS21 _ _ | exact hS22 _ _ | exact hS23 _ _ | assumption | rfl) rfl ( h13) ?_
    refine pv_k rfl rfl rfl rfl rfl (hS0 _ _) rfl ⟨Nat.zero_le _, Nat.zero_le _⟩ ?_
    refine B_canRestoreX hp hP (k.2.2.1 u hu) (fun c I2 a s2 => ?_) (fun c I2 a s2 => ?_)
    · refine ps_ift rfl (rfl) ?_
      refine ps_iload rfl rfl ?_
      refine ps_iret rfl rfl ?_
      obtain ⟨z1, z2⟩ := kk I2 a s2
      exact kY u I2 s1 hu eu c z1 l z2 s2
    · refine ps_iff rfl (rfl) ?_
      refine pw_c rfl ?_
      refine ps_goto rfl ?_
      refine ps_iret rfl rfl ?_
      obtain ⟨z1, z2⟩ := kk I2 a s2
      exact kC u I2 s1 hu eu c z1 l z2
end TR
