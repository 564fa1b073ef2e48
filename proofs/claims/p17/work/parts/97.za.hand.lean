/-! BY HAND: how the class reads a text, exactly, fourth: what a LINE leaves behind -/
section LA
variable {I I' J : Nat → Nat → Int32} {L : Nat → Nat → Int64} {s : Nat → Option Nat} {Q : List Value → pm_H → Prop} {ys : List Int32} {B : sB} {b n c t p : Nat} {T : Nat → Int32} {nm : Int32}
theorem cF_M (h : cF p I I') : cM p I I' := fun a j h1 h2 h3 => h a j (fun z => h3 (by omega))
theorem cBp_M (hb : isB b) (hp : p = b + 17 + 4 * B.ps) (h : cBp b B I) (f : cM p I I') : cBp b B I' := by
  have bb := isB_b hb
  obtain ⟨h1, h2⟩ := h
  refine ⟨(f _ _ (by omega) (by omega) (by omega)).trans h1, fun k hk => ?_⟩
  obtain ⟨⟨c1, c2, c3⟩, d1, d2, d3⟩ := h2 k hk
  have o : ∀ i, i ≤ 3 → ∀ j, I' (b + 17 + 4 * k + i) j = I (b + 17 + 4 * k + i) j := fun i hi j => f _ _ (by omega) (by omega) (by omega)
  exact ⟨⟨cP_o c1 (o 0 (by omega)), (o 0 (by omega) _).trans c2, fun i hi => ⟨(o 1 (by omega) _).trans (c3 i hi).1, (o 2 (by omega) _).trans (c3 i hi).2⟩⟩, (o 0 (by omega) _).trans d1, (o 0 (by omega) _).trans d2, (o 0 (by omega) _).trans d3⟩
theorem cBs_o (hb : isB b) (h : cBs b B I) (f : ∀ a j, b + 2 ≤ a → a ≤ b + 14 → I' a j = I a j) : cBs b B I' := by
  obtain ⟨h1, h2, h3, h4⟩ := h
  have mo : ∀ q, q < 3 → 3 ≤ mkO q ∧ mkO q ≤ 11 := fun q hq => by rcases q3 hq with rfl | rfl | rfl <;> decide
  refine ⟨fun q hq => ?_, (f _ _ (by omega) (by omega)).trans h2, (f _ _ (by omega) (by omega)).trans h3, fun q hq k hk j hj => ?_⟩
  · have := mo q hq
    exact (f _ _ (by omega) (by omega)).trans (h1 q hq)
  · have := mo q hq
    exact (f _ _ (by omega) (by omega)).trans (h4 q hq k hk j hj)
theorem cBp_o (h : cBp b B I) (f : ∀ a j, (a = b ∨ (b + 17 ≤ a ∧ a ≤ b + 40)) → I' a j = I a j) (ok : B.ok) : cBp b B I' := by
  obtain ⟨h1, h2⟩ := h
  have p6 := ok.1
  refine ⟨(f _ _ (by omega)).trans h1, fun k hk => ?_⟩
  obtain ⟨⟨c1, c2, c3⟩, d1, d2, d3⟩ := h2 k hk
  have o : ∀ i, i ≤ 3 → ∀ j, I' (b + 17 + 4 * k + i) j = I (b + 17 + 4 * k + i) j := fun i hi j => f _ _ (by omega)
  exact ⟨⟨cP_o c1 (o 0 (by omega)), (o 0 (by omega) _).trans c2, fun i hi => ⟨(o 1 (by omega) _).trans (c3 i hi).1, (o 2 (by omega) _).trans (c3 i hi).2⟩⟩, (o 0 (by omega) _).trans d1, (o 0 (by omega) _).trans d2, (o 0 (by omega) _).trans d3⟩
theorem fin_151 {P : sPl} {w : Int32} (hb : isB b) (p6 : B.ps < 6) (hp : p = b + 17 + 4 * B.ps) (hB : cBp b B I) (hP : cPP I p P) (hN : I p 3 = P.nm) (kk : ∀ I', (∀ a j, ¬ a = p → ¬ a = b → I' a j = I a j) → cBp b (B.adP P) I' → Q [] (I', L, g_R s, 306)) : pm_W (g_P ys) 59 151 [.ref 5, .int w, .ref b, .ref p] [] (I, L, g_R s, 306) (0, 0) Q := by
  have bb := isB_b hb
  have hP' : isP p := by rw [hp]; exact isP_of hb p6
  obtain ⟨hS0, hS1, hS2, hS3, hS4, hR0, hR1, hR2, hR3, hR4, hR5, hR6, hR7⟩ := bn_F (ys := ys) (s := s) hb
  obtain ⟨hS5, hS6, hS7, hS8, hR8, hR9, hR10⟩ := pl_F (ys := ys) (s := s) hP'
  obtain ⟨c1, c2, c3⟩ := hP
  have eh : suI (fun i => I (p + 1) i) (P.w * P.v) = suI P.ho (P.w * P.v) := suI_congr (fun i hi => (c3 i hi).1)
  have ew : suI (fun i => I (p + 2) i) (P.w * P.v) = suI P.we (P.w * P.v) := suI_congr (fun i hi => (c3 i hi).2)
  refine ps_aload rfl rfl ?_
  refine pv_k rfl rfl rfl rfl rfl (by first | exact hS0 _ _ | exact hS1 _ _ | exact hS2 _ _ | exact hS3 _ _ | exact hS4 _ _ | exact hS5 _ _ | exact hS6 _ _ | exact hS7 _ _ | exact hS8 _ _ | exact hS9 _ _ | exact hS10 _ _ | exact hS11 _ _ | exact hS12 _ _ | exact hS13 _ _ | assumption | rfl) rfl ⟨Nat.zero_le _, Nat.zero_le _⟩ ?_
  refine B_countUpX hP' c1 ?_
  rw [eh, ew]
  obtain ⟨I1, hI1⟩ : ∃ I1, I1 = pm_u (pm_u I p 7 (suI P.ho (P.w * P.v))) p 8 (suI P.we (P.w * P.v)) := ⟨_, rfl⟩
  rw [← hI1]
  have o1 : ∀ a j, ¬ (a = p ∧ (j = 7 ∨ j = 8)) → I1 a j = I a j := fun a j n => by rw [hI1, pu_x (fun z => n (by omega)), pu_x (fun z => n (by omega))]
  have b1 : I1 b 3 = nI B.ps := (o1 _ _ (by omega)).trans hB.1
  refine ps_aload rfl rfl ?_
  refine ps_ar rfl rfl rfl rfl rfl ?_
  refine ps_gfi 8 3 rfl rfl rfl (by first | exact hS0 _ _ | exact hS1 _ _ | exact hS2 _ _ | exact hS3 _ _ | exact hS4 _ _ | exact hS5 _ _ | exact hS6 _ _ | exact hS7 _ _ | exact hS8 _ _ | exact hS9 _ _ | exact hS10 _ _ | exact hS11 _ _ | exact hS12 _ _ | exact hS13 _ _ | assumption | rfl) rfl ?_
  rw [show ((I1, L, g_R s, 306) : pm_H).1 b 3 = nI B.ps from b1]
  refine pw_c rfl ?_
  refine ps_ar rfl rfl rfl rfl rfl ?_
  rw [show nI B.ps + (1 : Int32) = nI (B.ps + 1) from nI_1 B.ps]
  refine ps_pfi 8 3 rfl rfl rfl (by first | exact hS0 _ _ | exact hS1 _ _ | exact hS2 _ _ | exact hS3 _ _ | exact hS4 _ _ | exact hS5 _ _ | exact hS6 _ _ | exact hS7 _ _ | exact hS8 _ _ | exact hS9 _ _ | exact hS10 _ _ | exact hS11 _ _ | exact hS12 _ _ | exact hS13 _ _ | assumption | rfl) rfl ?_
  refine ps_vret rfl rfl ?_
  refine kk _ (fun a j n1 n2 => (pu_o n2).trans (o1 a j (fun z => n1 z.1))) ⟨pu_s, fun k hk => ?_⟩
  have o2 : ∀ a j, ¬ a = b → pm_u I1 b 3 (nI (B.ps + 1)) a j = I1 a j := fun a j h => pu_o h
  have hk : k < B.ps + 1 := hk
  by_cases e : k = B.ps
  · have eP : (B.adP P).pl k = P := if_pos e
    rw [eP, e, ← hp]
    have oo : ∀ a j, ¬ a = b → ¬ (a = p ∧ (j = 7 ∨ j = 8)) → pm_u I1 b 3 (nI (B.ps + 1)) a j = I a j := fun a j h1 h2 => (o2 a j h1).trans (o1 a j h2)
    refine ⟨⟨⟨(oo _ _ (by omega) (by omega)).trans c1.1, (oo _ _ (by omega) (by omega)).trans c1.2.1, (oo _ _ (by omega) (by omega)).trans c1.2.2.1, c1.2.2.2⟩, (oo _ _ (by omega) (by omega)).trans c2, fun i hi => ⟨(oo _ _ (by omega) (by omega)).trans (c3 i hi).1, (oo _ _ (by omega) (by omega)).trans (c3 i hi).2⟩⟩, (oo _ _ (by omega) (by omega)).trans hN, ?_, ?_⟩
    · rw [o2 _ _ (by omega), hI1, pu_n (by decide), pu_s]
    · rw [o2 _ _ (by omega), hI1, pu_s]
  · have eP : (B.adP P).pl k = B.pl k := if_neg e
    have hk2 : k < B.ps := by omega
    rw [eP]
    have z := cBp_M (I' := I1) hb hp hB (fun a j h1 h2 h3 => o1 a j (by omega))
    obtain ⟨⟨d1, d2, d3⟩, e1, e2, e3⟩ := z.2 k hk2
    exact ⟨⟨cP_o d1 (fun j => o2 _ _ (by omega)), (o2 _ _ (by omega)).trans d2, fun i hi => ⟨(o2 _ _ (by omega)).trans (d3 i hi).1, (o2 _ _ (by omega)).trans (d3 i hi).2⟩⟩, (o2 _ _ (by omega)).trans e1, (o2 _ _ (by omega)).trans e2, (o2 _ _ (by omega)).trans e3⟩
/-- what finishPlate leaves: all but the bench's plates as it was -/
def fpF (b p : Nat) (I I' : Nat → Nat → Int32) : Prop := ∀ a j, ¬ a = b → ¬ (p ≤ a ∧ a ≤ p + 3) → I' a j = I a j
theorem cPb (hb : isB b) (p6 : B.ps < 6) (hp : p = b + 17 + 4 * B.ps) {k : Nat} (hk : k < B.ps) : ¬ p = b + 17 + 4 * k := by omega
theorem B_finRowX {q : Nat} (hb : isB b) (p6 : B.ps < 6) (hp : p = b + 17 + 4 * B.ps) (hB : cBp b B I) (hN : I p 3 = nm) (g0 : I 11 0 = nI q) (q1 : 2 ≤ q) (q2 : q ≤ 47) (kk : ∀ I', fpF b p I I' → cBp b (B.adP (pRow nm q)) I' → Q [] (I', L, g_R s, 306)) : pm_W (g_P ys) 59 0 [.ref 5, .int 1, .ref b, .retAddr 0] [] (I, L, g_R s, 306) (0, 0) Q := by
  obtain ⟨hS0, hS1, hS2, hS3, hS4, hR0, hR1, hR2, hR3, hR4, hR5, hR6, hR7⟩ := bn_F (ys := ys) (s := s) hb
  have bb := isB_b hb
  have hP' : isP p := by rw [hp]; exact isP_of hb p6
  obtain ⟨hS5, hS6, hS7, hS8, hR8, hR9, hR10⟩ := pl_F (ys := ys) (s := s) hP'
  refine ps_aload rfl rfl ?_
  refine pv_k rfl rfl rfl rfl rfl (by first | exact hS0 _ _ | exact hS1 _ _ | exact hS2 _ _ | exact hS3 _ _ | exact hS4 _ _ | exact hS5 _ _ | exact hS6 _ _ | exact hS7 _ _ | exact hS8 _ _ | exact hS9 _ _ | exact hS10 _ _ | exact hS11 _ _ | exact hS12 _ _ | exact hS13 _ _ | assumption | rfl) rfl ⟨Nat.zero_le _, Nat.zero_le _⟩ ?_
  refine B_nextX hb hB.1 p6 ?_
  rw [← hp]
  refine ps_astore rfl rfl ?_
  refine ps_iload rfl rfl ?_
  refine ps_brr rfl rfl rfl rfl rfl rfl ?_
  refine ps_aload rfl rfl ?_
  refine ps_aload rfl rfl ?_
  refine ps_gfr 2 1 rfl rfl rfl (by first | exact hS0 _ _ | exact hS1 _ _ | exact hS2 _ _ | exact hS3 _ _ | exact hS4 _ _ | exact hS5 _ _ | exact hS6 _ _ | exact hS7 _ _ | exact hS8 _ _ | exact hS9 _ _ | exact hS10 _ _ | exact hS11 _ _ | exact hS12 _ _ | exact hS13 _ _ | assumption | rfl) rfl (by first | assumption | rfl) ?_
  refine pw_c rfl ?_
  refine ps_iald (0) rfl (by first | exact hS0 _ _ | exact hS1 _ _ | exact hS2 _ _ | exact hS3 _ _ | exact hS4 _ _ | exact hS5 _ _ | exact hS6 _ _ | exact hS7 _ _ | exact hS8 _ _ | exact hS9 _ _ | exact hS10 _ _ | exact hS11 _ _ | exact hS12 _ _ | exact hS13 _ _ | assumption | rfl) rfl (rfl) (by omega) ?_
  rw [show ((I, L, g_R s, 306) : pm_H).1 11 0 = nI q from g0]
  refine pv_k rfl rfl rfl rfl rfl (by first | exact hS0 _ _ | exact hS1 _ _ | exact hS2 _ _ | exact hS3 _ _ | exact hS4 _ _ | exact hS5 _ _ | exact hS6 _ _ | exact hS7 _ _ | exact hS8 _ _ | exact hS9 _ _ | exact hS10 _ _ | exact hS11 _ _ | exact hS12 _ _ | exact hS13 _ _ | assumption | rfl) rfl ⟨Nat.zero_le _, Nat.zero_le _⟩ ?_
  refine B_makeRowX (nm := nm) hP' q1 q2 ?_
  intro I1 f1 p1
  refine ps_goto rfl ?_
  refine fin_151 hb p6 hp (cBp_M hb hp hB (cF_M f1)) p1 ((f1 _ _ (by omega)).trans hN) (fun I' f2 hB' => kk I' (fun a j n1 n2 => ?_) hB')
  rw [f2 a j (by omega) n1]
  exact f1 a j (by omega)
theorem B_finSqX {q : Nat} (hb : isB b) (p6 : B.ps < 6) (hp : p = b + 17 + 4 * B.ps) (hB : cBp b B I) (hN : I p 3 = nm) (g0 : I 11 0 = nI q) (q1 : 2 ≤ q) (q2 : q ≤ 17) (kk : ∀ I', fpF b p I I' → cBp b (B.adP (pSq nm q)) I' → Q [] (I', L, g_R s, 306)) : pm_W (g_P ys) 59 0 [.ref 5, .int 7, .ref b, .retAddr 0] [] (I, L, g_R s, 306) (0, 0) Q := by
  obtain ⟨hS0, hS1, hS2, hS3, hS4, hR0, hR1, hR2, hR3, hR4, hR5, hR6, hR7⟩ := bn_F (ys := ys) (s := s) hb
  have bb := isB_b hb
  have hP' : isP p := by rw [hp]; exact isP_of hb p6
  obtain ⟨hS5, hS6, hS7, hS8, hR8, hR9, hR10⟩ := pl_F (ys := ys) (s := s) hP'
  refine ps_aload rfl rfl ?_
  refine pv_k rfl rfl rfl rfl rfl (by first | exact hS0 _ _ | exact hS1 _ _ | exact hS2 _ _ | exact hS3 _ _ | exact hS4 _ _ | exact hS5 _ _ | exact hS6 _ _ | exact hS7 _ _ | exact hS8 _ _ | exact hS9 _ _ | exact hS10 _ _ | exact hS11 _ _ | exact hS12 _ _ | exact hS13 _ _ | assumption | rfl) rfl ⟨Nat.zero_le _, Nat.zero_le _⟩ ?_
  refine B_nextX hb hB.1 p6 ?_
  rw [← hp]
  refine ps_astore rfl rfl ?_
  refine ps_iload rfl rfl ?_
  refine ps_brr rfl rfl rfl rfl rfl rfl ?_
  refine ps_aload rfl rfl ?_
  refine ps_aload rfl rfl ?_
  refine ps_gfr 2 1 rfl rfl rfl (by first | exact hS0 _ _ | exact hS1 _ _ | exact hS2 _ _ | exact hS3 _ _ | exact hS4 _ _ | exact hS5 _ _ | exact hS6 _ _ | exact hS7 _ _ | exact hS8 _ _ | exact hS9 _ _ | exact hS10 _ _ | exact hS11 _ _ | exact hS12 _ _ | exact hS13 _ _ | assumption | rfl) rfl (by first | assumption | rfl) ?_
  refine pw_c rfl ?_
  refine ps_iald (0) rfl (by first | exact hS0 _ _ | exact hS1 _ _ | exact hS2 _ _ | exact hS3 _ _ | exact hS4 _ _ | exact hS5 _ _ | exact hS6 _ _ | exact hS7 _ _ | exact hS8 _ _ | exact hS9 _ _ | exact hS10 _ _ | exact hS11 _ _ | exact hS12 _ _ | exact hS13 _ _ | assumption | rfl) rfl (rfl) (by omega) ?_
  rw [show ((I, L, g_R s, 306) : pm_H).1 11 0 = nI q from g0]
  refine pv_k rfl rfl rfl rfl rfl (by first | exact hS0 _ _ | exact hS1 _ _ | exact hS2 _ _ | exact hS3 _ _ | exact hS4 _ _ | exact hS5 _ _ | exact hS6 _ _ | exact hS7 _ _ | exact hS8 _ _ | exact hS9 _ _ | exact hS10 _ _ | exact hS11 _ _ | exact hS12 _ _ | exact hS13 _ _ | assumption | rfl) rfl ⟨Nat.zero_le _, Nat.zero_le _⟩ ?_
  refine B_makeSquareX (nm := nm) hP' q1 q2 ?_
  intro I1 f1 p1
  refine ps_goto rfl ?_
  refine fin_151 hb p6 hp (cBp_M hb hp hB (cF_M f1)) p1 ((f1 _ _ (by omega)).trans hN) (fun I' f2 hB' => kk I' (fun a j n1 n2 => ?_) hB')
  rw [f2 a j (by omega) n1]
  exact f1 a j (by omega)
theorem B_finTurnX {k x y : Nat} (hb : isB b) (p6 : B.ps < 6) (hp : p = b + 17 + 4 * B.ps) (hB : cBp b B I) (hN : I p 3 = nm) (hk : k < B.ps) (g0 : I 11 0 = nI k) (g1 : I 11 1 = nI x) (g2 : I 11 2 = nI y) (hx : x ≤ 99) (hy : y ≤ 99) (kk : ∀ I', fpF b p I I' → cBp b (B.adP (pTurn nm (B.pl k) x y)) I' → Q [] (I', L, g_R s, 306)) : pm_W (g_P ys) 59 0 [.ref 5, .int 4, .ref b, .retAddr 0] [] (I, L, g_R s, 306) (0, 0) Q := by
  obtain ⟨hS0, hS1, hS2, hS3, hS4, hR0, hR1, hR2, hR3, hR4, hR5, hR6, hR7⟩ := bn_F (ys := ys) (s := s) hb
  have bb := isB_b hb
  have hP' : isP p := by rw [hp]; exact isP_of hb p6
  obtain ⟨hS5, hS6, hS7, hS8, hR8, hR9, hR10⟩ := pl_F (ys := ys) (s := s) hP'
  refine ps_aload rfl rfl ?_
  refine pv_k rfl rfl rfl rfl rfl (by first | exact hS0 _ _ | exact hS1 _ _ | exact hS2 _ _ | exact hS3 _ _ | exact hS4 _ _ | exact hS5 _ _ | exact hS6 _ _ | exact hS7 _ _ | exact hS8 _ _ | exact hS9 _ _ | exact hS10 _ _ | exact hS11 _ _ | exact hS12 _ _ | exact hS13 _ _ | assumption | rfl) rfl ⟨Nat.zero_le _, Nat.zero_le _⟩ ?_
  refine B_nextX hb hB.1 p6 ?_
  rw [← hp]
  refine ps_astore rfl rfl ?_
  refine ps_iload rfl rfl ?_
  refine ps_brr rfl rfl rfl rfl rfl rfl ?_
  refine ps_aload rfl rfl ?_
  refine ps_aload rfl rfl ?_
  refine ps_aload rfl rfl ?_
  refine ps_gfr 2 1 rfl rfl rfl (by first | exact hS0 _ _ | exact hS1 _ _ | exact hS2 _ _ | exact hS3 _ _ | exact hS4 _ _ | exact hS5 _ _ | exact hS6 _ _ | exact hS7 _ _ | exact hS8 _ _ | exact hS9 _ _ | exact hS10 _ _ | exact hS11 _ _ | exact hS12 _ _ | exact hS13 _ _ | assumption | rfl) rfl (by first | assumption | rfl) ?_
  refine pw_c rfl ?_
  refine ps_iald (0) rfl (by first | exact hS0 _ _ | exact hS1 _ _ | exact hS2 _ _ | exact hS3 _ _ | exact hS4 _ _ | exact hS5 _ _ | exact hS6 _ _ | exact hS7 _ _ | exact hS8 _ _ | exact hS9 _ _ | exact hS10 _ _ | exact hS11 _ _ | exact hS12 _ _ | exact hS13 _ _ | assumption | rfl) rfl (rfl) (by omega) ?_
  rw [show ((I, L, g_R s, 306) : pm_H).1 11 0 = nI k from g0]
  refine pv_k rfl rfl rfl rfl rfl (by first | exact hS0 _ _ | exact hS1 _ _ | exact hS2 _ _ | exact hS3 _ _ | exact hS4 _ _ | exact hS5 _ _ | exact hS6 _ _ | exact hS7 _ _ | exact hS8 _ _ | exact hS9 _ _ | exact hS10 _ _ | exact hS11 _ _ | exact hS12 _ _ | exact hS13 _ _ | assumption | rfl) rfl ⟨Nat.zero_le _, Nat.zero_le _⟩ ?_
  refine B_namedX hb hB.1 (by omega) hk ?_
  refine ps_aload rfl rfl ?_
  refine ps_gfr 2 1 rfl rfl rfl (by first | exact hS0 _ _ | exact hS1 _ _ | exact hS2 _ _ | exact hS3 _ _ | exact hS4 _ _ | exact hS5 _ _ | exact hS6 _ _ | exact hS7 _ _ | exact hS8 _ _ | exact hS9 _ _ | exact hS10 _ _ | exact hS11 _ _ | exact hS12 _ _ | exact hS13 _ _ | assumption | rfl) rfl (by first | assumption | rfl) ?_
  refine pw_c rfl ?_
  refine ps_iald (1) rfl (by first | exact hS0 _ _ | exact hS1 _ _ | exact hS2 _ _ | exact hS3 _ _ | exact hS4 _ _ | exact hS5 _ _ | exact hS6 _ _ | exact hS7 _ _ | exact hS8 _ _ | exact hS9 _ _ | exact hS10 _ _ | exact hS11 _ _ | exact hS12 _ _ | exact hS13 _ _ | assumption | rfl) rfl (rfl) (by omega) ?_
  rw [show ((I, L, g_R s, 306) : pm_H).1 11 1 = nI x from g1]
  refine ps_aload rfl rfl ?_
  refine ps_gfr 2 1 rfl rfl rfl (by first | exact hS0 _ _ | exact hS1 _ _ | exact hS2 _ _ | exact hS3 _ _ | exact hS4 _ _ | exact hS5 _ _ | exact hS6 _ _ | exact hS7 _ _ | exact hS8 _ _ | exact hS9 _ _ | exact hS10 _ _ | exact hS11 _ _ | exact hS12 _ _ | exact hS13 _ _ | assumption | rfl) rfl (by first | assumption | rfl) ?_
  refine pw_c rfl ?_
  refine ps_iald (2) rfl (by first | exact hS0 _ _ | exact hS1 _ _ | exact hS2 _ _ | exact hS3 _ _ | exact hS4 _ _ | exact hS5 _ _ | exact hS6 _ _ | exact hS7 _ _ | exact hS8 _ _ | exact hS9 _ _ | exact hS10 _ _ | exact hS11 _ _ | exact hS12 _ _ | exact hS13 _ _ | assumption | rfl) rfl (rfl) (by omega) ?_
  rw [show ((I, L, g_R s, 306) : pm_H).1 11 2 = nI y from g2]
  refine pv_k rfl rfl rfl rfl rfl (by first | exact hS0 _ _ | exact hS1 _ _ | exact hS2 _ _ | exact hS3 _ _ | exact hS4 _ _ | exact hS5 _ _ | exact hS6 _ _ | exact hS7 _ _ | exact hS8 _ _ | exact hS9 _ _ | exact hS10 _ _ | exact hS11 _ _ | exact hS12 _ _ | exact hS13 _ _ | assumption | rfl) rfl ⟨Nat.zero_le _, Nat.zero_le _⟩ ?_
  refine B_makeTurnedX (nm := nm) hP' (isP_of hb (show k < 6 by omega)) (cPb hb p6 hp hk) (hB.2 k hk).1 hx hy ?_
  intro I1 f1 p1
  refine ps_goto rfl ?_
  refine fin_151 hb p6 hp (cBp_M hb hp hB (cF_M f1)) p1 ((f1 _ _ (by omega)).trans hN) (fun I' f2 hB' => kk I' (fun a j n1 n2 => ?_) hB')
  rw [f2 a j (by omega) n1]
  exact f1 a j (by omega)
theorem B_finNegX {k : Nat} (hb : isB b) (p6 : B.ps < 6) (hp : p = b + 17 + 4 * B.ps) (hB : cBp b B I) (ok : B.ok) (hN : I p 3 = nm) (hk : k < B.ps) (g0 : I 11 0 = nI k) (kk : ∀ I', fpF b p I I' → cBp b (B.adP (pNeg nm (B.pl k))) I' → Q [] (I', L, g_R s, 306)) : pm_W (g_P ys) 59 0 [.ref 5, .int 5, .ref b, .retAddr 0] [] (I, L, g_R s, 306) (0, 0) Q := by
  obtain ⟨hS0, hS1, hS2, hS3, hS4, hR0, hR1, hR2, hR3, hR4, hR5, hR6, hR7⟩ := bn_F (ys := ys) (s := s) hb
  have bb := isB_b hb
  have hP' : isP p := by rw [hp]; exact isP_of hb p6
  obtain ⟨hS5, hS6, hS7, hS8, hR8, hR9, hR10⟩ := pl_F (ys := ys) (s := s) hP'
  refine ps_aload rfl rfl ?_
  refine pv_k rfl rfl rfl rfl rfl (by first | exact hS0 _ _ | exact hS1 _ _ | exact hS2 _ _ | exact hS3 _ _ | exact hS4 _ _ | exact hS5 _ _ | exact hS6 _ _ | exact hS7 _ _ | exact hS8 _ _ | exact hS9 _ _ | exact hS10 _ _ | exact hS11 _ _ | exact hS12 _ _ | exact hS13 _ _ | assumption | rfl) rfl ⟨Nat.zero_le _, Nat.zero_le _⟩ ?_
  refine B_nextX hb hB.1 p6 ?_
  rw [← hp]
  refine ps_astore rfl rfl ?_
  refine ps_iload rfl rfl ?_
  refine ps_brr rfl rfl rfl rfl rfl rfl ?_
  refine ps_aload rfl rfl ?_
  refine ps_aload rfl rfl ?_
  refine ps_aload rfl rfl ?_
  refine ps_gfr 2 1 rfl rfl rfl (by first | exact hS0 _ _ | exact hS1 _ _ | exact hS2 _ _ | exact hS3 _ _ | exact hS4 _ _ | exact hS5 _ _ | exact hS6 _ _ | exact hS7 _ _ | exact hS8 _ _ | exact hS9 _ _ | exact hS10 _ _ | exact hS11 _ _ | exact hS12 _ _ | exact hS13 _ _ | assumption | rfl) rfl (by first | assumption | rfl) ?_
  refine pw_c rfl ?_
  refine ps_iald (0) rfl (by first | exact hS0 _ _ | exact hS1 _ _ | exact hS2 _ _ | exact hS3 _ _ | exact hS4 _ _ | exact hS5 _ _ | exact hS6 _ _ | exact hS7 _ _ | exact hS8 _ _ | exact hS9 _ _ | exact hS10 _ _ | exact hS11 _ _ | exact hS12 _ _ | exact hS13 _ _ | assumption | rfl) rfl (rfl) (by omega) ?_
  rw [show ((I, L, g_R s, 306) : pm_H).1 11 0 = nI k from g0]
  refine pv_k rfl rfl rfl rfl rfl (by first | exact hS0 _ _ | exact hS1 _ _ | exact hS2 _ _ | exact hS3 _ _ | exact hS4 _ _ | exact hS5 _ _ | exact hS6 _ _ | exact hS7 _ _ | exact hS8 _ _ | exact hS9 _ _ | exact hS10 _ _ | exact hS11 _ _ | exact hS12 _ _ | exact hS13 _ _ | assumption | rfl) rfl ⟨Nat.zero_le _, Nat.zero_le _⟩ ?_
  refine B_namedX hb hB.1 (by omega) hk ?_
  refine pv_k rfl rfl rfl rfl rfl (by first | exact hS0 _ _ | exact hS1 _ _ | exact hS2 _ _ | exact hS3 _ _ | exact hS4 _ _ | exact hS5 _ _ | exact hS6 _ _ | exact hS7 _ _ | exact hS8 _ _ | exact hS9 _ _ | exact hS10 _ _ | exact hS11 _ _ | exact hS12 _ _ | exact hS13 _ _ | assumption | rfl) rfl ⟨Nat.zero_le _, Nat.zero_le _⟩ ?_
  refine B_makeNegX (nm := nm) hP' (isP_of hb (show k < 6 by omega)) (cPb hb p6 hp hk) (hB.2 k hk).1 (ok_P ok hk).2 ?_
  intro I1 f1 p1
  refine ps_goto rfl ?_
  refine fin_151 hb p6 hp (cBp_M hb hp hB (cF_M f1)) p1 ((f1 _ _ (by omega)).trans hN) (fun I' f2 hB' => kk I' (fun a j n1 n2 => ?_) hB')
  rw [f2 a j (by omega) n1]
  exact f1 a j (by omega)
theorem B_finBothX {k l : Nat} (hb : isB b) (p6 : B.ps < 6) (hp : p = b + 17 + 4 * B.ps) (hB : cBp b B I) (hN : I p 3 = nm) (hk : k < B.ps) (hl : l < B.ps) (g0 : I 11 0 = nI k) (g1 : I 11 1 = nI l) (kv : (B.pl k).v = 1) (lv : (B.pl l).v = 1) (wh : (B.pl k).w * (B.pl l).w ≤ 289) (kk : ∀ I', fpF b p I I' → cBp b (B.adP (pBoth nm (B.pl k) (B.pl l))) I' → Q [] (I', L, g_R s, 306)) : pm_W (g_P ys) 59 0 [.ref 5, .int 6, .ref b, .retAddr 0] [] (I, L, g_R s, 306) (0, 0) Q := by
  obtain ⟨hS0, hS1, hS2, hS3, hS4, hR0, hR1, hR2, hR3, hR4, hR5, hR6, hR7⟩ := bn_F (ys := ys) (s := s) hb
  have bb := isB_b hb
  have hP' : isP p := by rw [hp]; exact isP_of hb p6
  obtain ⟨hS5, hS6, hS7, hS8, hR8, hR9, hR10⟩ := pl_F (ys := ys) (s := s) hP'
  refine ps_aload rfl rfl ?_
  refine pv_k rfl rfl rfl rfl rfl (by first | exact hS0 _ _ | exact hS1 _ _ | exact hS2 _ _ | exact hS3 _ _ | exact hS4 _ _ | exact hS5 _ _ | exact hS6 _ _ | exact hS7 _ _ | exact hS8 _ _ | exact hS9 _ _ | exact hS10 _ _ | exact hS11 _ _ | exact hS12 _ _ | exact hS13 _ _ | assumption | rfl) rfl ⟨Nat.zero_le _, Nat.zero_le _⟩ ?_
  refine B_nextX hb hB.1 p6 ?_
  rw [← hp]
  refine ps_astore rfl rfl ?_
  refine ps_iload rfl rfl ?_
  refine ps_brr rfl rfl rfl rfl rfl rfl ?_
  refine ps_aload rfl rfl ?_
  refine ps_aload rfl rfl ?_
  refine ps_aload rfl rfl ?_
  refine ps_gfr 2 1 rfl rfl rfl (by first | exact hS0 _ _ | exact hS1 _ _ | exact hS2 _ _ | exact hS3 _ _ | exact hS4 _ _ | exact hS5 _ _ | exact hS6 _ _ | exact hS7 _ _ | exact hS8 _ _ | exact hS9 _ _ | exact hS10 _ _ | exact hS11 _ _ | exact hS12 _ _ | exact hS13 _ _ | assumption | rfl) rfl (by first | assumption | rfl) ?_
  refine pw_c rfl ?_
  refine ps_iald (0) rfl (by first | exact hS0 _ _ | exact hS1 _ _ | exact hS2 _ _ | exact hS3 _ _ | exact hS4 _ _ | exact hS5 _ _ | exact hS6 _ _ | exact hS7 _ _ | exact hS8 _ _ | exact hS9 _ _ | exact hS10 _ _ | exact hS11 _ _ | exact hS12 _ _ | exact hS13 _ _ | assumption | rfl) rfl (rfl) (by omega) ?_
  rw [show ((I, L, g_R s, 306) : pm_H).1 11 0 = nI k from g0]
  refine pv_k rfl rfl rfl rfl rfl (by first | exact hS0 _ _ | exact hS1 _ _ | exact hS2 _ _ | exact hS3 _ _ | exact hS4 _ _ | exact hS5 _ _ | exact hS6 _ _ | exact hS7 _ _ | exact hS8 _ _ | exact hS9 _ _ | exact hS10 _ _ | exact hS11 _ _ | exact hS12 _ _ | exact hS13 _ _ | assumption | rfl) rfl ⟨Nat.zero_le _, Nat.zero_le _⟩ ?_
  refine B_namedX hb hB.1 (by omega) hk ?_
  refine ps_aload rfl rfl ?_
  refine ps_aload rfl rfl ?_
  refine ps_gfr 2 1 rfl rfl rfl (by first | exact hS0 _ _ | exact hS1 _ _ | exact hS2 _ _ | exact hS3 _ _ | exact hS4 _ _ | exact hS5 _ _ | exact hS6 _ _ | exact hS7 _ _ | exact hS8 _ _ | exact hS9 _ _ | exact hS10 _ _ | exact hS11 _ _ | exact hS12 _ _ | exact hS13 _ _ | assumption | rfl) rfl (by first | assumption | rfl) ?_
  refine pw_c rfl ?_
  refine ps_iald (1) rfl (by first | exact hS0 _ _ | exact hS1 _ _ | exact hS2 _ _ | exact hS3 _ _ | exact hS4 _ _ | exact hS5 _ _ | exact hS6 _ _ | exact hS7 _ _ | exact hS8 _ _ | exact hS9 _ _ | exact hS10 _ _ | exact hS11 _ _ | exact hS12 _ _ | exact hS13 _ _ | assumption | rfl) rfl (rfl) (by omega) ?_
  rw [show ((I, L, g_R s, 306) : pm_H).1 11 1 = nI l from g1]
  refine pv_k rfl rfl rfl rfl rfl (by first | exact hS0 _ _ | exact hS1 _ _ | exact hS2 _ _ | exact hS3 _ _ | exact hS4 _ _ | exact hS5 _ _ | exact hS6 _ _ | exact hS7 _ _ | exact hS8 _ _ | exact hS9 _ _ | exact hS10 _ _ | exact hS11 _ _ | exact hS12 _ _ | exact hS13 _ _ | assumption | rfl) rfl ⟨Nat.zero_le _, Nat.zero_le _⟩ ?_
  refine B_namedX hb hB.1 (by omega) hl ?_
  refine pv_k rfl rfl rfl rfl rfl (by first | exact hS0 _ _ | exact hS1 _ _ | exact hS2 _ _ | exact hS3 _ _ | exact hS4 _ _ | exact hS5 _ _ | exact hS6 _ _ | exact hS7 _ _ | exact hS8 _ _ | exact hS9 _ _ | exact hS10 _ _ | exact hS11 _ _ | exact hS12 _ _ | exact hS13 _ _ | assumption | rfl) rfl ⟨Nat.zero_le _, Nat.zero_le _⟩ ?_
  refine B_makeBothX (nm := nm) hP' (isP_of hb (show k < 6 by omega)) (isP_of hb (show l < 6 by omega)) (cPb hb p6 hp hk) (cPb hb p6 hp hl) (hB.2 k hk).1 (hB.2 l hl).1 kv lv wh ?_
  intro I1 f1 p1
  refine ps_goto rfl ?_
  refine fin_151 hb p6 hp (cBp_M hb hp hB (cF_M f1)) p1 ((f1 _ _ (by omega)).trans hN) (fun I' f2 hB' => kk I' (fun a j n1 n2 => ?_) hB')
  rw [f2 a j (by omega) n1]
  exact f1 a j (by omega)
/-- BITS, sets: the holes are there -/
theorem B_finHoX {P : sPl} {w : Int32} (hw : w = 2 ∨ w = 3) (hb : isB b) (p6 : B.ps < 6) (hp : p = b + 17 + 4 * B.ps) (hB : cBp b B I) (hN : I p 3 = P.nm) (cP0 : cP I p P.w P.v) (sk : I p 9 = 0) (ho : ∀ i, i < P.w * P.v → I (p + 1) i = P.ho i) (we : ∀ i, i < P.w * P.v → P.we i = if P.ho i = 1 then 1 else -1) (kk : ∀ I', fpF b p I I' → cBp b (B.adP P) I' → Q [] (I', L, g_R s, 306)) : pm_W (g_P ys) 59 0 [.ref 5, .int w, .ref b, .retAddr 0] [] (I, L, g_R s, 306) (0, 0) Q := by
  obtain ⟨hS0, hS1, hS2, hS3, hS4, hR0, hR1, hR2, hR3, hR4, hR5, hR6, hR7⟩ := bn_F (ys := ys) (s := s) hb
  have bb := isB_b hb
  have hP' : isP p := by rw [hp]; exact isP_of hb p6
  obtain ⟨hS5, hS6, hS7, hS8, hR8, hR9, hR10⟩ := pl_F (ys := ys) (s := s) hP'
  have go : ∀ w : Int32, pm_W (g_P ys) 59 147 [.ref 5, .int w, .ref b, .ref p] [] (I, L, g_R s, 306) (0, 0) Q := by
    intro w
    refine ps_aload rfl rfl ?_
    refine pv_k rfl rfl rfl rfl rfl (by first | exact hS0 _ _ | exact hS1 _ _ | exact hS2 _ _ | exact hS3 _ _ | exact hS4 _ _ | exact hS5 _ _ | exact hS6 _ _ | exact hS7 _ _ | exact hS8 _ _ | exact hS9 _ _ | exact hS10 _ _ | exact hS11 _ _ | exact hS12 _ _ | exact hS13 _ _ | assumption | rfl) rfl ⟨Nat.zero_le _, Nat.zero_le _⟩ ?_
    refine B_weighX hP' cP0 ?_
    intro I1 f1 w1
    have fM : cM p I I1 := fun a j h1 h2 h3 => f1 a j (by omega)
    refine fin_151 (P := P) hb p6 hp (cBp_M hb hp hB fM) ⟨cP_o cP0 (fun j => f1 _ _ (by omega)), (f1 _ _ (by omega)).trans sk, fun i hi => ⟨(f1 _ _ (by omega)).trans (ho i hi), ?_⟩⟩ ((f1 _ _ (by omega)).trans hN) (fun I' f2 hB' => kk I' (fun a j n1 n2 => ?_) hB')
    · rw [w1 i hi, ho i hi, we i hi]
    · rw [f2 a j (by omega) n1]
      exact f1 a j (by omega)
  refine ps_aload rfl rfl ?_
  refine pv_k rfl rfl rfl rfl rfl (by first | exact hS0 _ _ | exact hS1 _ _ | exact hS2 _ _ | exact hS3 _ _ | exact hS4 _ _ | exact hS5 _ _ | exact hS6 _ _ | exact hS7 _ _ | exact hS8 _ _ | exact hS9 _ _ | exact hS10 _ _ | exact hS11 _ _ | exact hS12 _ _ | exact hS13 _ _ | assumption | rfl) rfl ⟨Nat.zero_le _, Nat.zero_le _⟩ ?_
  refine B_nextX hb hB.1 p6 ?_
  rw [← hp]
  refine ps_astore rfl rfl ?_
  refine ps_iload rfl rfl ?_
  rcases hw with rfl | rfl
  · refine ps_brr rfl rfl rfl rfl rfl rfl ?_
    exact go 2
  · refine ps_brr rfl rfl rfl rfl rfl rfl ?_
    exact go 3
end LA
