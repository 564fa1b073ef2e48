/-! BY HAND: the class's camera, exactly, sixth: shots, worst (printed by wip/src/gen97zzn.py) -/
section TP
variable {I I' J : Nat → Nat → Int32} {L : Nat → Nat → Int64} {s s' : Nat → Option Nat} {Q : List Value → pm_H → Prop} {ys : List Int32} {p e m t cm ci r : Nat} {P : sPl} {S : sS} {g : Nat → Int32} {h : pm_H}
theorem lsR_01 : ∀ (k i : Nat), lsR P S k i = 0 ∨ lsR P S k i = 1
  | 0, _ => Or.inl rfl
  | k + 1, i => by
    unfold lsR
    split
    · exact Or.inr rfl
    · exact lsR_01 k i
theorem lost_01 (i : Nat) : lostF P S i = 0 ∨ lostF P S i = 1 := lsR_01 _ _
/-- the place on which a number falls -/
def pnG (P : sPl) (S : sS) : Nat → Nat → Int32 → Nat
  | 0, k, _ => k
  | d + 1, k, r => if r < wholF P S 0 k then k else pnG P S d (k + 1) (r - wholF P S 0 k)
def pnF (P : sPl) (S : sS) (r : Int32) : Nat := pnG P S (P.w * P.v - 1) 0 r
theorem pnG_le : ∀ {d k : Nat} {r : Int32}, pnG P S d k r ≤ k + d
  | 0, k, r => Nat.le_refl _
  | d + 1, k, r => by
    rw [pnG]
    have := pnG_le (d := d) (k := k + 1) (r := r - wholF P S 0 k)
    split <;> omega
theorem pnF_lt {x : Int32} (n0 : 0 < P.w * P.v) : pnF P S x < P.w * P.v := by
  have := pnG_le (P := P) (S := S) (d := P.w * P.v - 1) (k := 0) (r := x)
  unfold pnF
  omega
theorem B_placeOfNumberX {x : Int32} (hV : cV cm ci p e s P S I) (ha : ∀ i, i < P.w * P.v → I (cm + 2) i = wholF P S 0 i) (kk : Q [.int (nI (pnF P S x))] (I, L, g_R s, 306)) : pm_W (g_P ys) 176 0 [.ref cm, .int x, .retAddr 0, .retAddr 0] [] (I, L, g_R s, 306) (0, 0) Q := by
  have hV0 := hV
  obtain ⟨hc, hp, he, h1, h2, hP, hS, ok⟩ := hV
  have cg := isC_ge hc
  have el := isE_lt he
  have pl := isP_lt hp
  have w0 := hP.1.2.2.2.1
  have v0 := hP.1.2.2.2.2.1
  have n9 := hP.1.2.2.2.2.2
  have n0 : 0 < P.w * P.v := Nat.mul_pos w0 v0
  obtain ⟨hS0, hS1, hS2, hS3, hS4, hS5, hS6, hS7, hS8, hS9⟩ := cam_F (ys := ys) (s := s) hc
  obtain ⟨hR0, hR1, hR2, hR3, hR4, hR5, hR6, hR7, hR8, hR13, hR14⟩ := cam_R (s := s) hc
  rw [h1] at hR13
  rw [h2] at hR14
  obtain ⟨hS10, hS11, hS12, hS13, hR15, hR16, hR17⟩ := pl_F (ys := ys) (s := s) hp
  obtain ⟨hS14, hR18, hR19, hR20⟩ := en_F (ys := ys) (s := s) he
  have e1 : nI (P.w * P.v) - (1 : Int32) = nI (P.w * P.v - 1) := by
    have z := nI_p (P.w * P.v - 1)
    rw [show P.w * P.v - 1 + 1 = P.w * P.v by omega] at z
    exact z
  have loop : ∀ d k, k + d + 1 = P.w * P.v → ∀ r : Int32, Q [.int (nI (pnG P S d k r))] (I, L, g_R s, 306) → pm_W (g_P ys) 176 4 [.ref cm, .int x, .int r, .int (nI k)] [] (I, L, g_R s, 306) (0, 0) Q := by
    intro d
    induction d with
    | zero =>
      intro k hk r kk
      refine ps_iload rfl rfl ?_
      refine ps_aload rfl rfl ?_
      refine ps_gfr 10 13 rfl rfl rfl (by first | exact hS0 _ _ | exact hS1 _ _ | exact hS2 _ _ | exact hS3 _ _ | exact hS4 _ _ | exact hS5 _ _ | exact hS6 _ _ | exact hS7 _ _ | exact hS8 _ _ | exact hS9 _ _ | exact hS10 _ _ | exact hS11 _ _ | exact hS12 _ _ | exact hS13 _ _ | exact hS14 _ _ | exact hS15 _ _ | exact hS16 _ _ | exact hS17 _ _ | exact hS18 _ _ | exact hS19 _ _ | exact hS20 _ _ | exact hS21 _ _ | exact hS22 _ _ | exact hS23 _ _ | assumption | rfl) rfl (by first | assumption | rfl) ?_
      refine ps_gfi 9 6 rfl rfl rfl (by first | exact hS0 _ _ | exact hS1 _ _ | exact hS2 _ _ | exact hS3 _ _ | exact hS4 _ _ | exact hS5 _ _ | exact hS6 _ _ | exact hS7 _ _ | exact hS8 _ _ | exact hS9 _ _ | exact hS10 _ _ | exact hS11 _ _ | exact hS12 _ _ | exact hS13 _ _ | exact hS14 _ _ | exact hS15 _ _ | exact hS16 _ _ | exact hS17 _ _ | exact hS18 _ _ | exact hS19 _ _ | exact hS20 _ _ | exact hS21 _ _ | exact hS22 _ _ | exact hS23 _ _ | assumption | rfl) rfl ?_
      rw [show ((I, L, g_R s, 306) : pm_H).1 p 6 = nI (P.w * P.v) from hP.1.2.2.1]
      refine pw_c rfl ?_
      refine ps_ar rfl rfl rfl rfl rfl ?_
      rw [e1]
      refine ps_icmpt rfl (decide_eq_true (nI_le (by omega) (by omega))) ?_
      refine ps_iload rfl rfl ?_
      refine ps_iret rfl rfl ?_
      exact kk
    | succ d ih =>
      intro k hk r kk
      rw [pnG] at kk
      refine ps_iload rfl rfl ?_
      refine ps_aload rfl rfl ?_
      refine ps_gfr 10 13 rfl rfl rfl (by first | exact hS0 _ _ | exact hS1 _ _ | exact hS2 _ _ | exact hS3 _ _ | exact hS4 _ _ | exact hS5 _ _ | exact hS6 _ _ | exact hS7 _ _ | exact hS8 _ _ | exact hS9 _ _ | exact hS10 _ _ | exact hS11 _ _ | exact hS12 _ _ | exact hS13 _ _ | exact hS14 _ _ | exact hS15 _ _ | exact hS16 _ _ | exact hS17 _ _ | exact hS18 _ _ | exact hS19 _ _ | exact hS20 _ _ | exact hS21 _ _ | exact hS22 _ _ | exact hS23 _ _ | assumption | rfl) rfl (by first | assumption | rfl) ?_
      refine ps_gfi 9 6 rfl rfl rfl (by first | exact hS0 _ _ | exact hS1 _ _ | exact hS2 _ _ | exact hS3 _ _ | exact hS4 _ _ | exact hS5 _ _ | exact hS6 _ _ | exact hS7 _ _ | exact hS8 _ _ | exact hS9 _ _ | exact hS10 _ _ | exact hS11 _ _ | exact hS12 _ _ | exact hS13 _ _ | exact hS14 _ _ | exact hS15 _ _ | exact hS16 _ _ | exact hS17 _ _ | exact hS18 _ _ | exact hS19 _ _ | exact hS20 _ _ | exact hS21 _ _ | exact hS22 _ _ | exact hS23 _ _ | assumption | rfl) rfl ?_
      rw [show ((I, L, g_R s, 306) : pm_H).1 p 6 = nI (P.w * P.v) from hP.1.2.2.1]
      refine pw_c rfl ?_
      refine ps_ar rfl rfl rfl rfl rfl ?_
      rw [e1]
      refine ps_icmpf rfl (decide_eq_false (nI_ge (by omega) (by omega))) ?_
      refine ps_iload rfl rfl ?_
      refine ps_aload rfl rfl ?_
      refine ps_gfr 10 1 rfl rfl rfl (by first | exact hS0 _ _ | exact hS1 _ _ | exact hS2 _ _ | exact hS3 _ _ | exact hS4 _ _ | exact hS5 _ _ | exact hS6 _ _ | exact hS7 _ _ | exact hS8 _ _ | exact hS9 _ _ | exact hS10 _ _ | exact hS11 _ _ | exact hS12 _ _ | exact hS13 _ _ | exact hS14 _ _ | exact hS15 _ _ | exact hS16 _ _ | exact hS17 _ _ | exact hS18 _ _ | exact hS19 _ _ | exact hS20 _ _ | exact hS21 _ _ | exact hS22 _ _ | exact hS23 _ _ | assumption | rfl) rfl (by first | assumption | rfl) ?_
      refine ps_iload rfl rfl ?_
      refine ps_iald (k) rfl (by first | exact hS0 _ _ | exact hS1 _ _ | exact hS2 _ _ | exact hS3 _ _ | exact hS4 _ _ | exact hS5 _ _ | exact hS6 _ _ | exact hS7 _ _ | exact hS8 _ _ | exact hS9 _ _ | exact hS10 _ _ | exact hS11 _ _ | exact hS12 _ _ | exact hS13 _ _ | exact hS14 _ _ | exact hS15 _ _ | exact hS16 _ _ | exact hS17 _ _ | exact hS18 _ _ | exact hS19 _ _ | exact hS20 _ _ | exact hS21 _ _ | exact hS22 _ _ | exact hS23 _ _ | assumption | rfl) rfl (rfl) (by omega) ?_
      rw [show ((I, L, g_R s, 306) : pm_H).1 (cm + 2) k = wholF P S 0 k from ha k (by omega)]
      by_cases hr : r < wholF P S 0 k
      · rw [if_pos hr] at kk
        refine ps_icmpt rfl (decide_eq_true hr) ?_
        refine ps_iload rfl rfl ?_
        refine ps_iret rfl rfl ?_
        exact kk
      · rw [if_neg hr] at kk
        refine ps_icmpf rfl (decide_eq_false hr) ?_
        refine ps_iload rfl rfl ?_
        refine ps_aload rfl rfl ?_
        refine ps_gfr 10 1 rfl rfl rfl (by first | exact hS0 _ _ | exact hS1 _ _ | exact hS2 _ _ | exact hS3 _ _ | exact hS4 _ _ | exact hS5 _ _ | exact hS6 _ _ | exact hS7 _ _ | exact hS8 _ _ | exact hS9 _ _ | exact hS10 _ _ | exact hS11 _ _ | exact hS12 _ _ | exact hS13 _ _ | exact hS14 _ _ | exact hS15 _ _ | exact hS16 _ _ | exact hS17 _ _ | exact hS18 _ _ | exact hS19 _ _ | exact hS20 _ _ | exact hS21 _ _ | exact hS22 _ _ | exact hS23 _ _ | assumption | rfl) rfl (by first | assumption | rfl) ?_
        refine ps_iload rfl rfl ?_
        refine ps_iald (k) rfl (by first | exact hS0 _ _ | exact hS1 _ _ | exact hS2 _ _ | exact hS3 _ _ | exact hS4 _ _ | exact hS5 _ _ | exact hS6 _ _ | exact hS7 _ _ | exact hS8 _ _ | exact hS9 _ _ | exact hS10 _ _ | exact hS11 _ _ | exact hS12 _ _ | exact hS13 _ _ | exact hS14 _ _ | exact hS15 _ _ | exact hS16 _ _ | exact hS17 _ _ | exact hS18 _ _ | exact hS19 _ _ | exact hS20 _ _ | exact hS21 _ _ | exact hS22 _ _ | exact hS23 _ _ | assumption | rfl) rfl (rfl) (by omega) ?_
        rw [show ((I, L, g_R s, 306) : pm_H).1 (cm + 2) k = wholF P S 0 k from ha k (by omega)]
        refine ps_ar rfl rfl rfl rfl rfl ?_
        refine ps_istore rfl rfl ?_
        refine ps_iinc rfl rfl ?_
        refine ps_goto rfl ?_
        rw [show nI k + Int32.ofInt 1 = nI (k + 1) from nI_1 k]
        exact ih (k + 1) (by omega) _ kk
  refine ps_iload rfl rfl ?_
  refine ps_istore rfl rfl ?_
  refine pw_c rfl ?_
  refine ps_istore rfl rfl ?_
  exact loop (P.w * P.v - 1) 0 (by omega) x kk
/-- the next number; the CELL that it falls on -/
def lcG (x : Int64) : Int64 := 48271 * x - 48271 * x / 2147483647 * 2147483647
def shP (P : sPl) (S : sS) (nm : Int32) (x : Int64) : Nat := pnF P S (lcG x - lcG x / nm.toInt64 * nm.toInt64).toInt32
/-- so many shots: the number, hits, counts -/
def shS (P : sPl) (S : sS) (nm sd : Int32) : Nat → Int64 × Int32 × (Nat → Int32)
  | 0 => (sd.toInt64, 0, fun _ => 0)
  | k + 1 => (lcG (shS P S nm sd k).1, if lostF P S (shP P S nm (shS P S nm sd k).1) = 0 then (shS P S nm sd k).2.1 + 1 else (shS P S nm sd k).2.1, fun i => if lostF P S (shP P S nm (shS P S nm sd k).1) = 0 ∧ i = shP P S nm (shS P S nm sd k).1 then (shS P S nm sd k).2.2 i + 1 else (shS P S nm sd k).2.2 i)
theorem t64_nz {x : Int32} (h : 0 < x.toInt) : ¬ x.toInt64 = 0 := fun z => by
  have e := congrArg Int64.toInt z
  rw [Int32.toInt_toInt64] at e
  have : (0 : Int64).toInt = 0 := rfl
  omega
theorem B_shootX {n : Nat} {sd nm : Int32} (hV : cV cm ci p e s P S I) (ha : cAm cm P S I) (hn : n ≤ 500) (hm : 0 < nm.toInt) (kk : ∀ I', (∀ a j, ¬ a = cm + 7 → I' a j = I a j) → (∀ i, i < P.w * P.v → I' (cm + 7) i = (shS P S nm sd n).2.2 i) → Q [.int (shS P S nm sd n).2.1] (I', L, g_R s, 306)) : pm_W (g_P ys) 175 0 [.ref cm, .int (nI n), .int sd, .int nm, .retAddr 0, .retAddr 0, .retAddr 0, .retAddr 0, .retAddr 0] [] (I, L, g_R s, 306) (0, 0) Q := by
  have hV0 := hV
  obtain ⟨hc, hp, he, h1, h2, hP, hS, ok⟩ := hV
  have cg := isC_ge hc
  have el := isE_lt he
  have pl := isP_lt hp
  have w0 := hP.1.2.2.2.1
  have v0 := hP.1.2.2.2.2.1
  have n9 := hP.1.2.2.2.2.2
  have n0 : 0 < P.w * P.v := Nat.mul_pos w0 v0
  obtain ⟨hS0, hS1, hS2, hS3, hS4, hS5, hS6, hS7, hS8, hS9⟩ := cam_F (ys := ys) (s := s) hc
  obtain ⟨hR0, hR1, hR2, hR3, hR4, hR5, hR6, hR7, hR8, hR13, hR14⟩ := cam_R (s := s) hc
  rw [h1] at hR13
  rw [h2] at hR14
  obtain ⟨hS10, hS11, hS12, hS13, hR15, hR16, hR17⟩ := pl_F (ys := ys) (s := s) hp
  obtain ⟨hS14, hR18, hR19, hR20⟩ := en_F (ys := ys) (s := s) he
  have e0 : (0 : Int32).toInt = 0 := rfl
  have loop : ∀ d k, k + d = n → ∀ I', (∀ a j, ¬ a = cm + 7 → I' a j = I a j) → (∀ i, i < P.w * P.v → I' (cm + 7) i = (shS P S nm sd k).2.2 i) → ∀ u : Value, pm_W (g_P ys) 175 32 [.ref cm, .int (nI n), .int sd, .int nm, .long (shS P S nm sd k).1, .retAddr 0, .int (shS P S nm sd k).2.1, .int (nI k), u] [] (I', L, g_R s, 306) (0, 0) Q := by
    intro d
    induction d with
    | zero =>
      intro k hk I' k1 k2 u
      have ek : k = n := by omega
      subst ek
      refine ps_iload rfl rfl ?_
      refine ps_iload rfl rfl ?_
      refine ps_icmpt rfl (decide_eq_true (nI_le (by omega) (by omega))) ?_
      refine ps_iload rfl rfl ?_
      refine ps_iret rfl rfl ?_
      exact kk I' k1 k2
    | succ d ih =>
      intro k hk I' k1 k2 u
      have V' : cV cm ci p e s P S I' := cV_o hV0 (fun a j z => k1 a j (by omega))
      obtain ⟨x, hx⟩ : ∃ x, x = (shS P S nm sd k).1 := ⟨_, rfl⟩
      obtain ⟨hi, hhi⟩ : ∃ x, x = (shS P S nm sd k).2.1 := ⟨_, rfl⟩
      obtain ⟨W, hW⟩ : ∃ x, x = (shS P S nm sd k).2.2 := ⟨_, rfl⟩
      have s1 : (shS P S nm sd (k + 1)).1 = lcG x := by rw [shS, ← hx]
      have s2 : (shS P S nm sd (k + 1)).2.1 = if lostF P S (shP P S nm x) = 0 then hi + 1 else hi := by rw [shS, ← hx, ← hhi]
      have s3 : (shS P S nm sd (k + 1)).2.2 = fun i => if lostF P S (shP P S nm x) = 0 ∧ i = shP P S nm x then W i + 1 else W i := by rw [shS, ← hx, ← hW]
      rw [← hW] at k2
      rw [← hx, ← hhi]
      have pl9 : shP P S nm x < P.w * P.v := pnF_lt n0
      have next := ih (k + 1) (by omega)
      rw [s1, s2, s3] at next
      refine ps_iload rfl rfl ?_
      refine ps_iload rfl rfl ?_
      refine ps_icmpf rfl (decide_eq_false (nI_ge (by omega) (by omega))) ?_
      refine pw_c rfl ?_
      refine ps_lload rfl rfl ?_
      refine ps_ar rfl rfl rfl rfl rfl ?_
      refine pw_c rfl ?_
      refine ps_lrem rfl ((by decide)) ?_
      refine ps_lstore rfl rfl ?_
      refine ps_aload rfl rfl ?_
      refine ps_lload rfl rfl ?_
      refine ps_iload rfl rfl ?_
      refine ps_ar rfl rfl rfl rfl rfl ?_
      refine ps_lrem rfl (t64_nz hm) ?_
      refine ps_ar rfl rfl rfl rfl rfl ?_
      refine pv_k rfl rfl rfl rfl rfl (hS0 _ _) rfl ⟨Nat.zero_le _, Nat.zero_le _⟩ ?_
      refine B_placeOfNumberX V' (fun i hi => (k1 _ _ (by omega)).trans (ha.1 i hi).2.1) ?_
      show pm_W _ _ _ _ [.int (nI (shP P S nm x))] _ _ _
      refine ps_istore rfl rfl ?_
      refine ps_aload rfl rfl ?_
      refine ps_gfr 10 0 rfl rfl rfl (by first | exact hS0 _ _ | exact hS1 _ _ | exact hS2 _ _ | exact hS3 _ _ | exact hS4 _ _ | exact hS5 _ _ | exact hS6 _ _ | exact hS7 _ _ | exact hS8 _ _ | exact hS9 _ _ | exact hS10 _ _ | exact hS11 _ _ | exact hS12 _ _ | exact hS13 _ _ | exact hS14 _ _ | exact hS15 _ _ | exact hS16 _ _ | exact hS17 _ _ | exact hS18 _ _ | exact hS19 _ _ | exact hS20 _ _ | exact hS21 _ _ | exact hS22 _ _ | exact hS23 _ _ | assumption | rfl) rfl (by first | assumption | rfl) ?_
      refine ps_iload rfl rfl ?_
      refine ps_iald (shP P S nm x) rfl (by first | exact hS0 _ _ | exact hS1 _ _ | exact hS2 _ _ | exact hS3 _ _ | exact hS4 _ _ | exact hS5 _ _ | exact hS6 _ _ | exact hS7 _ _ | exact hS8 _ _ | exact hS9 _ _ | exact hS10 _ _ | exact hS11 _ _ | exact hS12 _ _ | exact hS13 _ _ | exact hS14 _ _ | exact hS15 _ _ | exact hS16 _ _ | exact hS17 _ _ | exact hS18 _ _ | exact hS19 _ _ | exact hS20 _ _ | exact hS21 _ _ | exact hS22 _ _ | exact hS23 _ _ | assumption | rfl) rfl (rfl) (by omega) ?_
      rw [show ((I', L, g_R s, 306) : pm_H).1 (cm + 1) (shP P S nm x) = lostF P S (shP P S nm x) from (k1 _ _ (by omega)).trans (ha.1 _ pl9).1]
      by_cases el : lostF P S (shP P S nm x) = 0
      · refine ps_iff rfl (decide_eq_false (fun z => z el)) ?_
        refine ps_aload rfl rfl ?_
        refine ps_gfr 10 6 rfl rfl rfl (by first | exact hS0 _ _ | exact hS1 _ _ | exact hS2 _ _ | exact hS3 _ _ | exact hS4 _ _ | exact hS5 _ _ | exact hS6 _ _ | exact hS7 _ _ | exact hS8 _ _ | exact hS9 _ _ | exact hS10 _ _ | exact hS11 _ _ | exact hS12 _ _ | exact hS13 _ _ | exact hS14 _ _ | exact hS15 _ _ | exact hS16 _ _ | exact hS17 _ _ | exact hS18 _ _ | exact hS19 _ _ | exact hS20 _ _ | exact hS21 _ _ | exact hS22 _ _ | exact hS23 _ _ | assumption | rfl) rfl (by first | assumption | rfl) ?_
        refine ps_iload rfl rfl ?_
        refine ps_ar rfl rfl rfl rfl rfl ?_
        refine ps_iald (shP P S nm x) rfl (by first | exact hS0 _ _ | exact hS1 _ _ | exact hS2 _ _ | exact hS3 _ _ | exact hS4 _ _ | exact hS5 _ _ | exact hS6 _ _ | exact hS7 _ _ | exact hS8 _ _ | exact hS9 _ _ | exact hS10 _ _ | exact hS11 _ _ | exact hS12 _ _ | exact hS13 _ _ | exact hS14 _ _ | exact hS15 _ _ | exact hS16 _ _ | exact hS17 _ _ | exact hS18 _ _ | exact hS19 _ _ | exact hS20 _ _ | exact hS21 _ _ | exact hS22 _ _ | exact hS23 _ _ | assumption | rfl) rfl (rfl) (by omega) ?_
        rw [show ((I', L, g_R s, 306) : pm_H).1 (cm + 7) (shP P S nm x) = W (shP P S nm x) from k2 _ pl9]
        refine pw_c rfl ?_
        refine ps_ar rfl rfl rfl rfl rfl ?_
        refine ps_iast (shP P S nm x) rfl (by first | exact hS0 _ _ | exact hS1 _ _ | exact hS2 _ _ | exact hS3 _ _ | exact hS4 _ _ | exact hS5 _ _ | exact hS6 _ _ | exact hS7 _ _ | exact hS8 _ _ | exact hS9 _ _ | exact hS10 _ _ | exact hS11 _ _ | exact hS12 _ _ | exact hS13 _ _ | exact hS14 _ _ | exact hS15 _ _ | exact hS16 _ _ | exact hS17 _ _ | exact hS18 _ _ | exact hS19 _ _ | exact hS20 _ _ | exact hS21 _ _ | exact hS22 _ _ | exact hS23 _ _ | assumption | rfl) rfl (rfl) (by omega) ?_
        refine ps_iinc rfl rfl ?_
        refine ps_iinc rfl rfl ?_
        refine ps_goto rfl ?_
        rw [show nI k + Int32.ofInt 1 = nI (k + 1) from nI_1 k]
        have nx := next (pm_u I' (cm + 7) (shP P S nm x) (W (shP P S nm x) + 1)) (fun a j z => (pu_o z).trans (k1 a j z)) (fun i hi' => ?_) (.int (nI (shP P S nm x)))
        · rw [if_pos el] at nx
          exact nx
        · show _ = if lostF P S (shP P S nm x) = 0 ∧ i = shP P S nm x then W i + 1 else W i
          by_cases ei : i = shP P S nm x
          · rw [if_pos ⟨el, ei⟩, ei, pu_s]
          · rw [if_neg (fun z => ei z.2), pu_n ei]
            exact k2 i hi'
      · refine ps_ift rfl (decide_eq_true el) ?_
        refine ps_iinc rfl rfl ?_
        refine ps_goto rfl ?_
        rw [show nI k + Int32.ofInt 1 = nI (k + 1) from nI_1 k]
        have nx := next I' k1 (fun i hi' => by
          show _ = if lostF P S (shP P S nm x) = 0 ∧ i = shP P S nm x then W i + 1 else W i
          rw [if_neg (fun z => el z.1)]
          exact k2 i hi') (.int (nI (shP P S nm x)))
        rw [if_neg el] at nx
        exact nx
  refine ps_aload rfl rfl ?_
  refine ps_gfr 10 6 rfl rfl rfl (by first | exact hS0 _ _ | exact hS1 _ _ | exact hS2 _ _ | exact hS3 _ _ | exact hS4 _ _ | exact hS5 _ _ | exact hS6 _ _ | exact hS7 _ _ | exact hS8 _ _ | exact hS9 _ _ | exact hS10 _ _ | exact hS11 _ _ | exact hS12 _ _ | exact hS13 _ _ | exact hS14 _ _ | exact hS15 _ _ | exact hS16 _ _ | exact hS17 _ _ | exact hS18 _ _ | exact hS19 _ _ | exact hS20 _ _ | exact hS21 _ _ | exact hS22 _ _ | exact hS23 _ _ | assumption | rfl) rfl (by first | assumption | rfl) ?_
  refine pw_c rfl ?_
  refine ps_aload rfl rfl ?_
  refine ps_gfr 10 13 rfl rfl rfl (by first | exact hS0 _ _ | exact hS1 _ _ | exact hS2 _ _ | exact hS3 _ _ | exact hS4 _ _ | exact hS5 _ _ | exact hS6 _ _ | exact hS7 _ _ | exact hS8 _ _ | exact hS9 _ _ | exact hS10 _ _ | exact hS11 _ _ | exact hS12 _ _ | exact hS13 _ _ | exact hS14 _ _ | exact hS15 _ _ | exact hS16 _ _ | exact hS17 _ _ | exact hS18 _ _ | exact hS19 _ _ | exact hS20 _ _ | exact hS21 _ _ | exact hS22 _ _ | exact hS23 _ _ | assumption | rfl) rfl (by first | assumption | rfl) ?_
  refine ps_gfi 9 6 rfl rfl rfl (by first | exact hS0 _ _ | exact hS1 _ _ | exact hS2 _ _ | exact hS3 _ _ | exact hS4 _ _ | exact hS5 _ _ | exact hS6 _ _ | exact hS7 _ _ | exact hS8 _ _ | exact hS9 _ _ | exact hS10 _ _ | exact hS11 _ _ | exact hS12 _ _ | exact hS13 _ _ | exact hS14 _ _ | exact hS15 _ _ | exact hS16 _ _ | exact hS17 _ _ | exact hS18 _ _ | exact hS19 _ _ | exact hS20 _ _ | exact hS21 _ _ | exact hS22 _ _ | exact hS23 _ _ | assumption | rfl) rfl ?_
  rw [show ((I, L, g_R s, 306) : pm_H).1 p 6 = nI (P.w * P.v) from hP.1.2.2.1]
  refine pw_c rfl ?_
  refine pw_k rfl rfl rfl rfl ⟨Nat.zero_le _, Nat.zero_le _⟩ ?_
  refine B_fillX (N := 289) hS7 (by omega) n9 0 (fun I1 f1 f2 => ?_)
  refine ps_iload rfl rfl ?_
  refine ps_ift rfl (decide_eq_true ((i_lt _ _).mpr (by omega))) ?_
  refine ps_iload rfl rfl ?_
  refine ps_ar rfl rfl rfl rfl rfl ?_
  refine ps_lstore rfl rfl ?_
  refine pw_c rfl ?_
  refine ps_istore rfl rfl ?_
  refine pw_c rfl ?_
  refine ps_istore rfl rfl ?_
  exact loop n 0 (by omega) I1 (fun a j z => f1 a j (by omega)) f2 _
theorem B_figureOfShotsX (hV : cV cm ci p e s P S I) (hg : ∀ i, i < P.w * P.v → I (cm + 7) i = g i) (w : Int32) (kk : ∀ I', (∀ a j, ¬ a = cm + 6 → I' a j = I a j) → Q [.int (fgF P (decF P g) w)] (I', L, g_R s, 306)) : pm_W (g_P ys) 177 0 [.ref cm, .int w] [] (I, L, g_R s, 306) (0, 0) Q := by
  have hV0 := hV
  obtain ⟨hc, hp, he, h1, h2, hP, hS, ok⟩ := hV
  have cg := isC_ge hc
  have el := isE_lt he
  have pl := isP_lt hp
  have w0 := hP.1.2.2.2.1
  have v0 := hP.1.2.2.2.2.1
  have n9 := hP.1.2.2.2.2.2
  have n0 : 0 < P.w * P.v := Nat.mul_pos w0 v0
  obtain ⟨hS0, hS1, hS2, hS3, hS4, hS5, hS6, hS7, hS8, hS9⟩ := cam_F (ys := ys) (s := s) hc
  obtain ⟨hR0, hR1, hR2, hR3, hR4, hR5, hR6, hR7, hR8, hR13, hR14⟩ := cam_R (s := s) hc
  rw [h1] at hR13
  rw [h2] at hR14
  obtain ⟨hS10, hS11, hS12, hS13, hR15, hR16, hR17⟩ := pl_F (ys := ys) (s := s) hp
  obtain ⟨hS14, hR18, hR19, hR20⟩ := en_F (ys := ys) (s := s) he
  refine ps_aload rfl rfl ?_
  refine ps_gfr 10 13 rfl rfl rfl (by first | exact hS0 _ _ | exact hS1 _ _ | exact hS2 _ _ | exact hS3 _ _ | exact hS4 _ _ | exact hS5 _ _ | exact hS6 _ _ | exact hS7 _ _ | exact hS8 _ _ | exact hS9 _ _ | exact hS10 _ _ | exact hS11 _ _ | exact hS12 _ _ | exact hS13 _ _ | exact hS14 _ _ | exact hS15 _ _ | exact hS16 _ _ | exact hS17 _ _ | exact hS18 _ _ | exact hS19 _ _ | exact hS20 _ _ | exact hS21 _ _ | exact hS22 _ _ | exact hS23 _ _ | assumption | rfl) rfl (by first | assumption | rfl) ?_
  refine ps_aload rfl rfl ?_
  refine ps_gfr 10 6 rfl rfl rfl (by first | exact hS0 _ _ | exact hS1 _ _ | exact hS2 _ _ | exact hS3 _ _ | exact hS4 _ _ | exact hS5 _ _ | exact hS6 _ _ | exact hS7 _ _ | exact hS8 _ _ | exact hS9 _ _ | exact hS10 _ _ | exact hS11 _ _ | exact hS12 _ _ | exact hS13 _ _ | exact hS14 _ _ | exact hS15 _ _ | exact hS16 _ _ | exact hS17 _ _ | exact hS18 _ _ | exact hS19 _ _ | exact hS20 _ _ | exact hS21 _ _ | exact hS22 _ _ | exact hS23 _ _ | assumption | rfl) rfl (by first | assumption | rfl) ?_
  refine ps_aload rfl rfl ?_
  refine ps_gfr 10 5 rfl rfl rfl (by first | exact hS0 _ _ | exact hS1 _ _ | exact hS2 _ _ | exact hS3 _ _ | exact hS4 _ _ | exact hS5 _ _ | exact hS6 _ _ | exact hS7 _ _ | exact hS8 _ _ | exact hS9 _ _ | exact hS10 _ _ | exact hS11 _ _ | exact hS12 _ _ | exact hS13 _ _ | exact hS14 _ _ | exact hS15 _ _ | exact hS16 _ _ | exact hS17 _ _ | exact hS18 _ _ | exact hS19 _ _ | exact hS20 _ _ | exact hS21 _ _ | exact hS22 _ _ | exact hS23 _ _ | assumption | rfl) rfl (by first | assumption | rfl) ?_
  refine pv_k rfl rfl rfl rfl rfl (hS10 _ _) rfl ⟨Nat.zero_le _, Nat.zero_le _⟩ ?_
  refine B_decodeAllX hp hP.1 hS6 hS7 (by omega) (by omega) (by omega) (fun I1 k1 k2 => ?_)
  have o1 : ∀ a j, ¬ a = cm + 6 → I1 a j = I a j := fun a j z => k1 a j (by omega)
  have V1 : cV cm ci p e s P S I1 := cV_o hV0 (fun a j z => o1 a j (by omega))
  have e1 : ∀ i, i < P.w * P.v → I1 (cm + 6) i = decF P g i := fun i hi => (k2 i hi).trans (dcF_c w0 v0 hg (fun i hi => (hP.2.2.2.2 i hi).2) i)
  refine ps_aload rfl rfl ?_
  refine ps_aload rfl rfl ?_
  refine ps_gfr 10 5 rfl rfl rfl (by first | exact hS0 _ _ | exact hS1 _ _ | exact hS2 _ _ | exact hS3 _ _ | exact hS4 _ _ | exact hS5 _ _ | exact hS6 _ _ | exact hS7 _ _ | exact hS8 _ _ | exact hS9 _ _ | exact hS10 _ _ | exact hS11 _ _ | exact hS12 _ _ | exact hS13 _ _ | exact hS14 _ _ | exact hS15 _ _ | exact hS16 _ _ | exact hS17 _ _ | exact hS18 _ _ | exact hS19 _ _ | exact hS20 _ _ | exact hS21 _ _ | exact hS22 _ _ | exact hS23 _ _ | assumption | rfl) rfl (by first | assumption | rfl) ?_
  refine ps_iload rfl rfl ?_
  refine pv_k rfl rfl rfl rfl rfl (hS0 _ _) rfl ⟨Nat.zero_le _, Nat.zero_le _⟩ ?_
  refine B_figureOfGreatestX (r := 5) V1 (by omega) e1 w ?_
  refine ps_iret rfl rfl ?_
  exact kk I1 o1
/-- ERROR, if the CELL i was LOST too -/
def wsR (P : sPl) (S : sS) (i j : Nat) : Int32 := decF P (shadF P S) j + -shadF P S i * P.we (mrF P.w P.v i j)
def wsE (P : sPl) (S : sS) (i : Nat) : Int32 := erF P S (wsR P S i) (liS P S - (shadF P S i - S.bk))
def wrS (P : sPl) (S : sS) : Nat → Int32 × Int32
  | 0 => (-1, 0)
  | k + 1 => if lostF P S k = 0 then (if (wrS P S k).1 = -1 ∨ (wrS P S k).2 < wsE P S k then (nI k, wsE P S k) else wrS P S k) else wrS P S k
def cWk (cm : Nat) (P : sPl) (S : sS) (I : Nat → Nat → Int32) : Prop := I cm 18 = 1 ∧ I cm 10 = (wrS P S (P.w * P.v)).1 ∧ I cm 11 = (wrS P S (P.w * P.v)).2
def cWd (cm : Nat) (P : sPl) (S : sS) (I : Nat → Nat → Int32) : Prop := I cm 18 = 0 ∨ cWk cm P S I
/-- where seeking the worst writes -/
def wkW (cm : Nat) (I I' : Nat → Nat → Int32) : Prop := ∀ a j : Nat, ¬ a = cm + 5 → ¬ a = cm + 6 → ¬ (a = cm ∧ (j = 10 ∨ j = 11 ∨ j = 16 ∨ j = 18)) → I' a j = I a j
theorem B_seekWorstX (hV : cV cm ci p e s P S I) (hk : cSk I p P) (ha : cAm cm P S I) (hd : cDd cm P S I) (hw : cWd cm P S I) (kk : ∀ I', wkW cm I I' → cWk cm P S I' → (cDk cm P S I' ∨ I' = I) → Q [] (I', L, g_R s, 306)) : pm_W (g_P ys) 180 0 [.ref cm, .retAddr 0, .retAddr 0, .retAddr 0] [] (I, L, g_R s, 306) (0, 0) Q := by
  have hV0 := hV
  obtain ⟨hc, hp, he, h1, h2, hP, hS, ok⟩ := hV
  have cg := isC_ge hc
  have el := isE_lt he
  have pl := isP_lt hp
  have w0 := hP.1.2.2.2.1
  have v0 := hP.1.2.2.2.2.1
  have n9 := hP.1.2.2.2.2.2
  have n0 : 0 < P.w * P.v := Nat.mul_pos w0 v0
  obtain ⟨hS0, hS1, hS2, hS3, hS4, hS5, hS6, hS7, hS8, hS9⟩ := cam_F (ys := ys) (s := s) hc
  obtain ⟨hR0, hR1, hR2, hR3, hR4, hR5, hR6, hR7, hR8, hR13, hR14⟩ := cam_R (s := s) hc
  rw [h1] at hR13
  rw [h2] at hR14
  obtain ⟨hS10, hS11, hS12, hS13, hR15, hR16, hR17⟩ := pl_F (ys := ys) (s := s) hp
  obtain ⟨hS14, hR18, hR19, hR20⟩ := en_F (ys := ys) (s := s) he
  rcases hw with hw | hw
  · refine ps_aload rfl rfl ?_
    refine ps_gfi 10 18 rfl rfl rfl (by first | exact hS0 _ _ | exact hS1 _ _ | exact hS2 _ _ | exact hS3 _ _ | exact hS4 _ _ | exact hS5 _ _ | exact hS6 _ _ | exact hS7 _ _ | exact hS8 _ _ | exact hS9 _ _ | exact hS10 _ _ | exact hS11 _ _ | exact hS12 _ _ | exact hS13 _ _ | exact hS14 _ _ | exact hS15 _ _ | exact hS16 _ _ | exact hS17 _ _ | exact hS18 _ _ | exact hS19 _ _ | exact hS20 _ _ | exact hS21 _ _ | exact hS22 _ _ | exact hS23 _ _ | assumption | rfl) rfl ?_
    rw [show ((I, L, g_R s, 306) : pm_H).1 cm 18 = 0 from hw]
    refine ps_ift rfl (rfl) ?_
    refine ps_aload rfl rfl ?_
    refine pw_c rfl ?_
    refine ps_pfz 10 18 rfl rfl rfl (by first | exact hS0 _ _ | exact hS1 _ _ | exact hS2 _ _ | exact hS3 _ _ | exact hS4 _ _ | exact hS5 _ _ | exact hS6 _ _ | exact hS7 _ _ | exact hS8 _ _ | exact hS9 _ _ | exact hS10 _ _ | exact hS11 _ _ | exact hS12 _ _ | exact hS13 _ _ | exact hS14 _ _ | exact hS15 _ _ | exact hS16 _ _ | exact hS17 _ _ | exact hS18 _ _ | exact hS19 _ _ | exact hS20 _ _ | exact hS21 _ _ | exact hS22 _ _ | exact hS23 _ _ | assumption | rfl) rfl (Or.inr rfl) ?_
    refine ps_aload rfl rfl ?_
    have o1 : ∀ a j, ¬ (a = cm ∧ j = 18) → pm_u I cm 18 1 a j = I a j := fun a j z => pu_x z
    have i1 : pm_u I cm 18 1 cm 18 = 1 := pu_s
    show pm_W _ _ _ _ _ (pm_u I cm 18 1, L, g_R s, 306) _ _
    generalize pm_u I cm 18 1 = I1 at o1 i1 ⊢
    have V1 : cV cm ci p e s P S I1 := cV_o hV0 (fun a j z => o1 a j (by omega))
    have a1 : cAm cm P S I1 := cAm_o ha (o1 _ _ (by simp only [not_and]; intro _; decide)) (fun a j z1 z2 => o1 a j (by omega))
    have d1 : cDd cm P S I1 := hd.imp (fun z => (o1 _ _ (by simp only [not_and]; intro _; decide)).trans z) (fun z => ⟨(o1 _ _ (by simp only [not_and]; intro _; decide)).trans z.1, fun i hi => (o1 _ _ (by omega)).trans (z.2 i hi)⟩)
    refine pv_k rfl rfl rfl rfl rfl (hS0 _ _) rfl ⟨Nat.zero_le _, Nat.zero_le _⟩ ?_
    refine B_decodeX hc hp h1 V1.2.2.2.2.2.1 a1 d1 (fun I2 o2 d2 => ?_)
    have V2 : cV cm ci p e s P S I2 := cV_o V1 (fun a j z => o2 a j (by omega) (by omega))
    have a2 : cAm cm P S I2 := cAm_o a1 (o2 _ _ (by omega) (by simp only [not_and]; intro _; decide)) (fun a j z1 z2 => o2 a j (by omega) (by omega))
    refine ps_aload rfl rfl ?_
    refine pw_c rfl ?_
    refine ps_pfi 10 10 rfl rfl rfl (by first | exact hS0 _ _ | exact hS1 _ _ | exact hS2 _ _ | exact hS3 _ _ | exact hS4 _ _ | exact hS5 _ _ | exact hS6 _ _ | exact hS7 _ _ | exact hS8 _ _ | exact hS9 _ _ | exact hS10 _ _ | exact hS11 _ _ | exact hS12 _ _ | exact hS13 _ _ | exact hS14 _ _ | exact hS15 _ _ | exact hS16 _ _ | exact hS17 _ _ | exact hS18 _ _ | exact hS19 _ _ | exact hS20 _ _ | exact hS21 _ _ | exact hS22 _ _ | exact hS23 _ _ | assumption | rfl) rfl ?_
    refine ps_aload rfl rfl ?_
    refine pw_c rfl ?_
    refine ps_pfi 10 11 rfl rfl rfl (by first | exact hS0 _ _ | exact hS1 _ _ | exact hS2 _ _ | exact hS3 _ _ | exact hS4 _ _ | exact hS5 _ _ | exact hS6 _ _ | exact hS7 _ _ | exact hS8 _ _ | exact hS9 _ _ | exact hS10 _ _ | exact hS11 _ _ | exact hS12 _ _ | exact hS13 _ _ | exact hS14 _ _ | exact hS15 _ _ | exact hS16 _ _ | exact hS17 _ _ | exact hS18 _ _ | exact hS19 _ _ | exact hS20 _ _ | exact hS21 _ _ | exact hS22 _ _ | exact hS23 _ _ | assumption | rfl) rfl ?_
    refine ps_aload rfl rfl ?_
    obtain ⟨I3, hI3⟩ : ∃ I3, I3 = pm_u (pm_u I2 cm 10 (-1)) cm 11 0 := ⟨_, rfl⟩
    show pm_W _ _ _ _ _ (pm_u (pm_u I2 cm 10 (-1)) cm 11 0, L, g_R s, 306) _ _
    rw [← hI3]
    have o3 : ∀ a j, ¬ (a = cm ∧ (j = 10 ∨ j = 11)) → I3 a j = I2 a j := fun a j z => by
      rw [hI3]
      exact (pu_x (by omega)).trans (pu_x (by omega))
    have w3 : I3 cm 10 = (wrS P S 0).1 ∧ I3 cm 11 = (wrS P S 0).2 := by
      rw [hI3]
      exact ⟨(pu_n (by decide)).trans pu_s, pu_s⟩
    clear hI3
    have V3 : cV cm ci p e s P S I3 := cV_o V2 (fun a j z => o3 a j (by omega))
    have a3 : cAm cm P S I3 := cAm_o a2 (o3 _ _ (by simp only [not_and]; intro _; decide)) (fun a j z1 z2 => o3 a j (by omega))
    have d3 : cDk cm P S I3 := ⟨(o3 _ _ (by simp only [not_and]; intro _; decide)).trans d2.1, fun i hi => (o3 _ _ (by omega)).trans (d2.2 i hi)⟩
    have i3 : I3 cm 18 = 1 := (o3 _ _ (by simp only [not_and]; intro _; decide)).trans ((o2 _ _ (by omega) (by simp only [not_and]; intro _; decide)).trans i1)
    have k3 : cSk I3 p P := cSk_o hk hp (fun a j z => (o3 a j (by omega)).trans ((o2 a j (by omega) (by omega)).trans (o1 a j (by omega))))
    have r3 : wkW cm I I3 := fun a j z1 z2 z3 => (o3 a j (by omega)).trans ((o2 a j z1 (by omega)).trans (o1 a j (by omega)))
    refine pv_k rfl rfl rfl rfl rfl (hS0 _ _) rfl ⟨Nat.zero_le _, Nat.zero_le _⟩ ?_
    refine B_lightSeenX V3 a3 ?_
    have loop : ∀ d i, i + d = P.w * P.v → ∀ I', (∀ a j, ¬ a = cm + 6 → ¬ (a = cm ∧ (j = 10 ∨ j = 11)) → I' a j = I3 a j) → I' cm 10 = (wrS P S i).1 → I' cm 11 = (wrS P S i).2 → ∀ u3 : Value, pm_W (g_P ys) 180 34 [.ref cm, .int (liS P S), .int (nI i), u3] [] (I', L, g_R s, 306) (0, 0) Q := by
      intro d
      induction d with
      | zero =>
        intro i hi I' q1 q2 q3 u3
        have ei : i = P.w * P.v := by omega
        subst ei
        refine ps_iload rfl rfl ?_
        refine ps_aload rfl rfl ?_
        refine ps_gfr 10 13 rfl rfl rfl (by first | exact hS0 _ _ | exact hS1 _ _ | exact hS2 _ _ | exact hS3 _ _ | exact hS4 _ _ | exact hS5 _ _ | exact hS6 _ _ | exact hS7 _ _ | exact hS8 _ _ | exact hS9 _ _ | exact hS10 _ _ | exact hS11 _ _ | exact hS12 _ _ | exact hS13 _ _ | exact hS14 _ _ | exact hS15 _ _ | exact hS16 _ _ | exact hS17 _ _ | exact hS18 _ _ | exact hS19 _ _ | exact hS20 _ _ | exact hS21 _ _ | exact hS22 _ _ | exact hS23 _ _ | assumption | rfl) rfl (by first | assumption | rfl) ?_
        refine ps_gfi 9 6 rfl rfl rfl (by first | exact hS0 _ _ | exact hS1 _ _ | exact hS2 _ _ | exact hS3 _ _ | exact hS4 _ _ | exact hS5 _ _ | exact hS6 _ _ | exact hS7 _ _ | exact hS8 _ _ | exact hS9 _ _ | exact hS10 _ _ | exact hS11 _ _ | exact hS12 _ _ | exact hS13 _ _ | exact hS14 _ _ | exact hS15 _ _ | exact hS16 _ _ | exact hS17 _ _ | exact hS18 _ _ | exact hS19 _ _ | exact hS20 _ _ | exact hS21 _ _ | exact hS22 _ _ | exact hS23 _ _ | assumption | rfl) rfl ?_
        rw [show ((I', L, g_R s, 306) : pm_H).1 p 6 = nI (P.w * P.v) from (q1 _ _ (by omega) (by omega)).trans V3.2.2.2.2.2.1.1.2.2.1]
        refine ps_icmpt rfl (decide_eq_true (nI_le (by omega) (by omega))) ?_
        refine ps_vret rfl rfl ?_
        exact kk I' (fun a j z1 z2 z3 => (q1 a j z2 (by omega)).trans (r3 a j z1 z2 z3)) ⟨(q1 _ _ (by omega) (by simp only [not_and]; intro _; decide)).trans i3, q2, q3⟩ (Or.inl ⟨(q1 _ _ (by omega) (by simp only [not_and]; intro _; decide)).trans d3.1, fun j hj => (q1 _ _ (by omega) (by omega)).trans (d3.2 j hj)⟩)
      | succ d ih =>
        intro i hi I' q1 q2 q3 u3
        have V' : cV cm ci p e s P S I' := cV_o V3 (fun a j z => q1 a j (by omega) (by omega))
        have next := ih (i + 1) (by omega)
        rw [wrS] at next
        refine ps_iload rfl rfl ?_
        refine ps_aload rfl rfl ?_
        refine ps_gfr 10 13 rfl rfl rfl (by first | exact hS0 _ _ | exact hS1 _ _ | exact hS2 _ _ | exact hS3 _ _ | exact hS4 _ _ | exact hS5 _ _ | exact hS6 _ _ | exact hS7 _ _ | exact hS8 _ _ | exact hS9 _ _ | exact hS10 _ _ | exact hS11 _ _ | exact hS12 _ _ | exact hS13 _ _ | exact hS14 _ _ | exact hS15 _ _ | exact hS16 _ _ | exact hS17 _ _ | exact hS18 _ _ | exact hS19 _ _ | exact hS20 _ _ | exact hS21 _ _ | exact hS22 _ _ | exact hS23 _ _ | assumption | rfl) rfl (by first | assumption | rfl) ?_
        refine ps_gfi 9 6 rfl rfl rfl (by first | exact hS0 _ _ | exact hS1 _ _ | exact hS2 _ _ | exact hS3 _ _ | exact hS4 _ _ | exact hS5 _ _ | exact hS6 _ _ | exact hS7 _ _ | exact hS8 _ _ | exact hS9 _ _ | exact hS10 _ _ | exact hS11 _ _ | exact hS12 _ _ | exact hS13 _ _ | exact hS14 _ _ | exact hS15 _ _ | exact hS16 _ _ | exact hS17 _ _ | exact hS18 _ _ | exact hS19 _ _ | exact hS20 _ _ | exact hS21 _ _ | exact hS22 _ _ | exact hS23 _ _ | assumption | rfl) rfl ?_
        rw [show ((I', L, g_R s, 306) : pm_H).1 p 6 = nI (P.w * P.v) from V'.2.2.2.2.2.1.1.2.2.1]
        refine ps_icmpf rfl (decide_eq_false (nI_ge (by omega) (by omega))) ?_
        refine ps_aload rfl rfl ?_
        refine ps_gfr 10 0 rfl rfl rfl (by first | exact hS0 _ _ | exact hS1 _ _ | exact hS2 _ _ | exact hS3 _ _ | exact hS4 _ _ | exact hS5 _ _ | exact hS6 _ _ | exact hS7 _ _ | exact hS8 _ _ | exact hS9 _ _ | exact hS10 _ _ | exact hS11 _ _ | exact hS12 _ _ | exact hS13 _ _ | exact hS14 _ _ | exact hS15 _ _ | exact hS16 _ _ | exact hS17 _ _ | exact hS18 _ _ | exact hS19 _ _ | exact hS20 _ _ | exact hS21 _ _ | exact hS22 _ _ | exact hS23 _ _ | assumption | rfl) rfl (by first | assumption | rfl) ?_
        refine ps_iload rfl rfl ?_
        refine ps_iald (i) rfl (by first | exact hS0 _ _ | exact hS1 _ _ | exact hS2 _ _ | exact hS3 _ _ | exact hS4 _ _ | exact hS5 _ _ | exact hS6 _ _ | exact hS7 _ _ | exact hS8 _ _ | exact hS9 _ _ | exact hS10 _ _ | exact hS11 _ _ | exact hS12 _ _ | exact hS13 _ _ | exact hS14 _ _ | exact hS15 _ _ | exact hS16 _ _ | exact hS17 _ _ | exact hS18 _ _ | exact hS19 _ _ | exact hS20 _ _ | exact hS21 _ _ | exact hS22 _ _ | exact hS23 _ _ | assumption | rfl) rfl (rfl) (by omega) ?_
        rw [show ((I', L, g_R s, 306) : pm_H).1 (cm + 1) i = lostF P S i from (q1 _ _ (by omega) (by omega)).trans (a3.1 i (by omega)).1]
        by_cases el : lostF P S i = 0
        · rw [if_pos el] at next
          refine ps_iff rfl (decide_eq_false (fun z => z el)) ?_
          refine ps_aload rfl rfl ?_
          refine ps_gfr 10 4 rfl rfl rfl (by first | exact hS0 _ _ | exact hS1 _ _ | exact hS2 _ _ | exact hS3 _ _ | exact hS4 _ _ | exact hS5 _ _ | exact hS6 _ _ | exact hS7 _ _ | exact hS8 _ _ | exact hS9 _ _ | exact hS10 _ _ | exact hS11 _ _ | exact hS12 _ _ | exact hS13 _ _ | exact hS14 _ _ | exact hS15 _ _ | exact hS16 _ _ | exact hS17 _ _ | exact hS18 _ _ | exact hS19 _ _ | exact hS20 _ _ | exact hS21 _ _ | exact hS22 _ _ | exact hS23 _ _ | assumption | rfl) rfl (by first | assumption | rfl) ?_
          refine pw_c rfl ?_
          refine ps_aload rfl rfl ?_
          refine ps_gfr 10 5 rfl rfl rfl (by first | exact hS0 _ _ | exact hS1 _ _ | exact hS2 _ _ | exact hS3 _ _ | exact hS4 _ _ | exact hS5 _ _ | exact hS6 _ _ | exact hS7 _ _ | exact hS8 _ _ | exact hS9 _ _ | exact hS10 _ _ | exact hS11 _ _ | exact hS12 _ _ | exact hS13 _ _ | exact hS14 _ _ | exact hS15 _ _ | exact hS16 _ _ | exact hS17 _ _ | exact hS18 _ _ | exact hS19 _ _ | exact hS20 _ _ | exact hS21 _ _ | exact hS22 _ _ | exact hS23 _ _ | assumption | rfl) rfl (by first | assumption | rfl) ?_
          refine pw_c rfl ?_
          refine ps_aload rfl rfl ?_
          refine ps_gfr 10 13 rfl rfl rfl (by first | exact hS0 _ _ | exact hS1 _ _ | exact hS2 _ _ | exact hS3 _ _ | exact hS4 _ _ | exact hS5 _ _ | exact hS6 _ _ | exact hS7 _ _ | exact hS8 _ _ | exact hS9 _ _ | exact hS10 _ _ | exact hS11 _ _ | exact hS12 _ _ | exact hS13 _ _ | exact hS14 _ _ | exact hS15 _ _ | exact hS16 _ _ | exact hS17 _ _ | exact hS18 _ _ | exact hS19 _ _ | exact hS20 _ _ | exact hS21 _ _ | exact hS22 _ _ | exact hS23 _ _ | assumption | rfl) rfl (by first | assumption | rfl) ?_
          refine ps_gfi 9 6 rfl rfl rfl (by first | exact hS0 _ _ | exact hS1 _ _ | exact hS2 _ _ | exact hS3 _ _ | exact hS4 _ _ | exact hS5 _ _ | exact hS6 _ _ | exact hS7 _ _ | exact hS8 _ _ | exact hS9 _ _ | exact hS10 _ _ | exact hS11 _ _ | exact hS12 _ _ | exact hS13 _ _ | exact hS14 _ _ | exact hS15 _ _ | exact hS16 _ _ | exact hS17 _ _ | exact hS18 _ _ | exact hS19 _ _ | exact hS20 _ _ | exact hS21 _ _ | exact hS22 _ _ | exact hS23 _ _ | assumption | rfl) rfl ?_
          rw [show ((I', L, g_R s, 306) : pm_H).1 p 6 = nI (P.w * P.v) from V'.2.2.2.2.2.1.1.2.2.1]
          refine ps_acpy (n0 := 289) (n1 := 289) rfl (hS5 _ _) (hS6 _ _) n9 n9 (by omega) (Nat.zero_le _) ?_
          have o4 : ∀ a j, ¬ a = cm + 6 → pm_r I' (cm + 6) (va_cpy (I' (cm + 5)) (I' (cm + 6)) 0 0 (P.w * P.v)) a j = I' a j := fun a j z => sA_o z
          have m4 : ∀ j, j < P.w * P.v → pm_r I' (cm + 6) (va_cpy (I' (cm + 5)) (I' (cm + 6)) 0 0 (P.w * P.v)) (cm + 6) j = decF P (shadF P S) j := fun j hj => (sA_s hj).trans ((q1 _ _ (by omega) (by omega)).trans (d3.2 j hj))
          show pm_W _ _ _ _ _ (pm_r I' (cm + 6) (va_cpy (I' (cm + 5)) (I' (cm + 6)) 0 0 (P.w * P.v)), L, g_R s, 306) _ _
          generalize pm_r I' (cm + 6) (va_cpy (I' (cm + 5)) (I' (cm + 6)) 0 0 (P.w * P.v)) = I4 at o4 m4 ⊢
          have V4 : cV cm ci p e s P S I4 := cV_o V' (fun a j z => o4 a j (by omega))
          have sh : I' (cm + 3) i = shadF P S i := (q1 _ _ (by omega) (by omega)).trans (a3.1 i (by omega)).2.2.1
          refine ps_aload rfl rfl ?_
          refine ps_gfr 10 13 rfl rfl rfl (by first | exact hS0 _ _ | exact hS1 _ _ | exact hS2 _ _ | exact hS3 _ _ | exact hS4 _ _ | exact hS5 _ _ | exact hS6 _ _ | exact hS7 _ _ | exact hS8 _ _ | exact hS9 _ _ | exact hS10 _ _ | exact hS11 _ _ | exact hS12 _ _ | exact hS13 _ _ | exact hS14 _ _ | exact hS15 _ _ | exact hS16 _ _ | exact hS17 _ _ | exact hS18 _ _ | exact hS19 _ _ | exact hS20 _ _ | exact hS21 _ _ | exact hS22 _ _ | exact hS23 _ _ | assumption | rfl) rfl (by first | assumption | rfl) ?_
          refine ps_aload rfl rfl ?_
          refine ps_gfr 10 5 rfl rfl rfl (by first | exact hS0 _ _ | exact hS1 _ _ | exact hS2 _ _ | exact hS3 _ _ | exact hS4 _ _ | exact hS5 _ _ | exact hS6 _ _ | exact hS7 _ _ | exact hS8 _ _ | exact hS9 _ _ | exact hS10 _ _ | exact hS11 _ _ | exact hS12 _ _ | exact hS13 _ _ | exact hS14 _ _ | exact hS15 _ _ | exact hS16 _ _ | exact hS17 _ _ | exact hS18 _ _ | exact hS19 _ _ | exact hS20 _ _ | exact hS21 _ _ | exact hS22 _ _ | exact hS23 _ _ | assumption | rfl) rfl (by first | assumption | rfl) ?_
          refine ps_aload rfl rfl ?_
          refine ps_gfr 10 13 rfl rfl rfl (by first | exact hS0 _ _ | exact hS1 _ _ | exact hS2 _ _ | exact hS3 _ _ | exact hS4 _ _ | exact hS5 _ _ | exact hS6 _ _ | exact hS7 _ _ | exact hS8 _ _ | exact hS9 _ _ | exact hS10 _ _ | exact hS11 _ _ | exact hS12 _ _ | exact hS13 _ _ | exact hS14 _ _ | exact hS15 _ _ | exact hS16 _ _ | exact hS17 _ _ | exact hS18 _ _ | exact hS19 _ _ | exact hS20 _ _ | exact hS21 _ _ | exact hS22 _ _ | exact hS23 _ _ | assumption | rfl) rfl (by first | assumption | rfl) ?_
          refine ps_gfr 9 1 rfl rfl rfl (by first | exact hS0 _ _ | exact hS1 _ _ | exact hS2 _ _ | exact hS3 _ _ | exact hS4 _ _ | exact hS5 _ _ | exact hS6 _ _ | exact hS7 _ _ | exact hS8 _ _ | exact hS9 _ _ | exact hS10 _ _ | exact hS11 _ _ | exact hS12 _ _ | exact hS13 _ _ | exact hS14 _ _ | exact hS15 _ _ | exact hS16 _ _ | exact hS17 _ _ | exact hS18 _ _ | exact hS19 _ _ | exact hS20 _ _ | exact hS21 _ _ | exact hS22 _ _ | exact hS23 _ _ | assumption | rfl) rfl (by first | assumption | rfl) ?_
          refine ps_iload rfl rfl ?_
          refine ps_aload rfl rfl ?_
          refine ps_gfr 10 2 rfl rfl rfl (by first | exact hS0 _ _ | exact hS1 _ _ | exact hS2 _ _ | exact hS3 _ _ | exact hS4 _ _ | exact hS5 _ _ | exact hS6 _ _ | exact hS7 _ _ | exact hS8 _ _ | exact hS9 _ _ | exact hS10 _ _ | exact hS11 _ _ | exact hS12 _ _ | exact hS13 _ _ | exact hS14 _ _ | exact hS15 _ _ | exact hS16 _ _ | exact hS17 _ _ | exact hS18 _ _ | exact hS19 _ _ | exact hS20 _ _ | exact hS21 _ _ | exact hS22 _ _ | exact hS23 _ _ | assumption | rfl) rfl (by first | assumption | rfl) ?_
          refine ps_iload rfl rfl ?_
          refine ps_iald (i) rfl (by first | exact hS0 _ _ | exact hS1 _ _ | exact hS2 _ _ | exact hS3 _ _ | exact hS4 _ _ | exact hS5 _ _ | exact hS6 _ _ | exact hS7 _ _ | exact hS8 _ _ | exact hS9 _ _ | exact hS10 _ _ | exact hS11 _ _ | exact hS12 _ _ | exact hS13 _ _ | exact hS14 _ _ | exact hS15 _ _ | exact hS16 _ _ | exact hS17 _ _ | exact hS18 _ _ | exact hS19 _ _ | exact hS20 _ _ | exact hS21 _ _ | exact hS22 _ _ | exact hS23 _ _ | assumption | rfl) rfl (rfl) (by omega) ?_
          rw [show ((I4, L, g_R s, 306) : pm_H).1 (cm + 3) i = shadF P S i from (o4 _ _ (by omega)).trans sh]
          refine ps_ar rfl rfl rfl rfl rfl ?_
          refine pv_k rfl rfl rfl rfl rfl (hS10 _ _) rfl ⟨Nat.zero_le _, Nat.zero_le _⟩ ?_
          refine B_addMirroredX hp V4.2.2.2.2.2.1.1 hS6 hS12 (by omega) (by omega) (by omega) (-shadF P S i) (fun I5 f1 f2 => ?_)
          have o5 : ∀ a j, ¬ a = cm + 6 → I5 a j = I' a j := fun a j z => (f1 a j (by omega)).trans (o4 a j z)
          have V5 : cV cm ci p e s P S I5 := cV_o V' (fun a j z => o5 a j (by omega))
          have m5 : ∀ j, j < P.w * P.v → I5 (cm + 6) j = wsR P S i j := fun j hj => by
            have ml : mrF P.w P.v i j < P.w * P.v := cxy_lt w0 v0 _ _
            rw [f2 j hj, m4 j hj, (V4.2.2.2.2.2.1.2.2.2.2 _ ml).2]
            rfl
          refine ps_aload rfl rfl ?_
          refine ps_aload rfl rfl ?_
          refine ps_gfr 10 5 rfl rfl rfl (by first | exact hS0 _ _ | exact hS1 _ _ | exact hS2 _ _ | exact hS3 _ _ | exact hS4 _ _ | exact hS5 _ _ | exact hS6 _ _ | exact hS7 _ _ | exact hS8 _ _ | exact hS9 _ _ | exact hS10 _ _ | exact hS11 _ _ | exact hS12 _ _ | exact hS13 _ _ | exact hS14 _ _ | exact hS15 _ _ | exact hS16 _ _ | exact hS17 _ _ | exact hS18 _ _ | exact hS19 _ _ | exact hS20 _ _ | exact hS21 _ _ | exact hS22 _ _ | exact hS23 _ _ | assumption | rfl) rfl (by first | assumption | rfl) ?_
          refine ps_iload rfl rfl ?_
          refine ps_aload rfl rfl ?_
          refine ps_gfr 10 2 rfl rfl rfl (by first | exact hS0 _ _ | exact hS1 _ _ | exact hS2 _ _ | exact hS3 _ _ | exact hS4 _ _ | exact hS5 _ _ | exact hS6 _ _ | exact hS7 _ _ | exact hS8 _ _ | exact hS9 _ _ | exact hS10 _ _ | exact hS11 _ _ | exact hS12 _ _ | exact hS13 _ _ | exact hS14 _ _ | exact hS15 _ _ | exact hS16 _ _ | exact hS17 _ _ | exact hS18 _ _ | exact hS19 _ _ | exact hS20 _ _ | exact hS21 _ _ | exact hS22 _ _ | exact hS23 _ _ | assumption | rfl) rfl (by first | assumption | rfl) ?_
          refine ps_iload rfl rfl ?_
          refine ps_iald (i) rfl (by first | exact hS0 _ _ | exact hS1 _ _ | exact hS2 _ _ | exact hS3 _ _ | exact hS4 _ _ | exact hS5 _ _ | exact hS6 _ _ | exact hS7 _ _ | exact hS8 _ _ | exact hS9 _ _ | exact hS10 _ _ | exact hS11 _ _ | exact hS12 _ _ | exact hS13 _ _ | exact hS14 _ _ | exact hS15 _ _ | exact hS16 _ _ | exact hS17 _ _ | exact hS18 _ _ | exact hS19 _ _ | exact hS20 _ _ | exact hS21 _ _ | exact hS22 _ _ | exact hS23 _ _ | assumption | rfl) rfl (rfl) (by omega) ?_
          rw [show ((I5, L, g_R s, 306) : pm_H).1 (cm + 3) i = shadF P S i from (o5 _ _ (by omega)).trans sh]
          refine ps_aload rfl rfl ?_
          refine ps_gfr 10 14 rfl rfl rfl (by first | exact hS0 _ _ | exact hS1 _ _ | exact hS2 _ _ | exact hS3 _ _ | exact hS4 _ _ | exact hS5 _ _ | exact hS6 _ _ | exact hS7 _ _ | exact hS8 _ _ | exact hS9 _ _ | exact hS10 _ _ | exact hS11 _ _ | exact hS12 _ _ | exact hS13 _ _ | exact hS14 _ _ | exact hS15 _ _ | exact hS16 _ _ | exact hS17 _ _ | exact hS18 _ _ | exact hS19 _ _ | exact hS20 _ _ | exact hS21 _ _ | exact hS22 _ _ | exact hS23 _ _ | assumption | rfl) rfl (by first | assumption | rfl) ?_
          refine ps_gfi 5 3 rfl rfl rfl (by first | exact hS0 _ _ | exact hS1 _ _ | exact hS2 _ _ | exact hS3 _ _ | exact hS4 _ _ | exact hS5 _ _ | exact hS6 _ _ | exact hS7 _ _ | exact hS8 _ _ | exact hS9 _ _ | exact hS10 _ _ | exact hS11 _ _ | exact hS12 _ _ | exact hS13 _ _ | exact hS14 _ _ | exact hS15 _ _ | exact hS16 _ _ | exact hS17 _ _ | exact hS18 _ _ | exact hS19 _ _ | exact hS20 _ _ | exact hS21 _ _ | exact hS22 _ _ | exact hS23 _ _ | assumption | rfl) rfl ?_
          rw [show ((I5, L, g_R s, 306) : pm_H).1 e 3 = S.bk from V5.2.2.2.2.2.2.1.2.1]
          refine ps_ar rfl rfl rfl rfl rfl ?_
          refine ps_ar rfl rfl rfl rfl rfl ?_
          refine pv_k rfl rfl rfl rfl rfl (hS0 _ _) rfl ⟨Nat.zero_le _, Nat.zero_le _⟩ ?_
          refine B_errorOfX (r := 5) V5 (cSk_o k3 hp (fun a j z => (o5 a j (by omega)).trans (q1 a j (by omega) (by omega)))) (fun j hj => (o5 _ _ (by omega)).trans ((q1 _ _ (by omega) (by omega)).trans (a3.1 j hj).2.2.2)) (by omega) m5 _ ?_
          show pm_W _ _ _ _ [.int (wsE P S i)] _ _ _
          have take : ((wrS P S i).1 = -1 ∨ (wrS P S i).2 < wsE P S i) → pm_W (g_P ys) 180 141 [.ref cm, .int (liS P S), .int (nI i), .int (wsE P S i)] [] (I5, L, g_R s, 306) (0, 0) Q := by
            intro z
            rw [if_pos z] at next
            refine ps_aload rfl rfl ?_
            refine ps_iload rfl rfl ?_
            refine ps_pfi 10 10 rfl rfl rfl (by first | exact hS0 _ _ | exact hS1 _ _ | exact hS2 _ _ | exact hS3 _ _ | exact hS4 _ _ | exact hS5 _ _ | exact hS6 _ _ | exact hS7 _ _ | exact hS8 _ _ | exact hS9 _ _ | exact hS10 _ _ | exact hS11 _ _ | exact hS12 _ _ | exact hS13 _ _ | exact hS14 _ _ | exact hS15 _ _ | exact hS16 _ _ | exact hS17 _ _ | exact hS18 _ _ | exact hS19 _ _ | exact hS20 _ _ | exact hS21 _ _ | exact hS22 _ _ | exact hS23 _ _ | assumption | rfl) rfl ?_
            refine ps_aload rfl rfl ?_
            refine ps_iload rfl rfl ?_
            refine ps_pfi 10 11 rfl rfl rfl (by first | exact hS0 _ _ | exact hS1 _ _ | exact hS2 _ _ | exact hS3 _ _ | exact hS4 _ _ | exact hS5 _ _ | exact hS6 _ _ | exact hS7 _ _ | exact hS8 _ _ | exact hS9 _ _ | exact hS10 _ _ | exact hS11 _ _ | exact hS12 _ _ | exact hS13 _ _ | exact hS14 _ _ | exact hS15 _ _ | exact hS16 _ _ | exact hS17 _ _ | exact hS18 _ _ | exact hS19 _ _ | exact hS20 _ _ | exact hS21 _ _ | exact hS22 _ _ | exact hS23 _ _ | assumption | rfl) rfl ?_
            refine ps_iinc rfl rfl ?_
            refine ps_goto rfl ?_
            rw [show nI i + Int32.ofInt 1 = nI (i + 1) from nI_1 i]
            refine next _ (fun a j z1 z2 => (pu_x (by omega)).trans ((pu_x (by omega)).trans ((o5 a j z1).trans (q1 a j z1 z2)))) ?_ ?_ _
            · show pm_u (pm_u I5 cm 10 (nI i)) cm 11 (wsE P S i) cm 10 = nI i
              rw [pu_n (by decide), pu_s]
            · exact pu_s
          have skip : ¬ ((wrS P S i).1 = -1 ∨ (wrS P S i).2 < wsE P S i) → pm_W (g_P ys) 180 151 [.ref cm, .int (liS P S), .int (nI i), .int (wsE P S i)] [] (I5, L, g_R s, 306) (0, 0) Q := by
            intro z
            rw [if_neg z] at next
            refine ps_iinc rfl rfl ?_
            refine ps_goto rfl ?_
            rw [show nI i + Int32.ofInt 1 = nI (i + 1) from nI_1 i]
            exact next _ (fun a j z1 z2 => (o5 a j z1).trans (q1 a j z1 z2)) ((o5 _ _ (by omega)).trans q2) ((o5 _ _ (by omega)).trans q3) _
          refine ps_istore rfl rfl ?_
          refine ps_aload rfl rfl ?_
          refine ps_gfi 10 10 rfl rfl rfl (by first | exact hS0 _ _ | exact hS1 _ _ | exact hS2 _ _ | exact hS3 _ _ | exact hS4 _ _ | exact hS5 _ _ | exact hS6 _ _ | exact hS7 _ _ | exact hS8 _ _ | exact hS9 _ _ | exact hS10 _ _ | exact hS11 _ _ | exact hS12 _ _ | exact hS13 _ _ | exact hS14 _ _ | exact hS15 _ _ | exact hS16 _ _ | exact hS17 _ _ | exact hS18 _ _ | exact hS19 _ _ | exact hS20 _ _ | exact hS21 _ _ | exact hS22 _ _ | exact hS23 _ _ | assumption | rfl) rfl ?_
          rw [show ((I5, L, g_R s, 306) : pm_H).1 cm 10 = (wrS P S i).1 from (o5 _ _ (by omega)).trans q2]
          by_cases c1 : (wrS P S i).1 = -1
          · refine pw_c rfl ?_
            refine ps_icmpt rfl (decide_eq_true c1) ?_
            exact take (Or.inl c1)
          · refine pw_c rfl ?_
            refine ps_icmpf rfl (decide_eq_false c1) ?_
            refine ps_iload rfl rfl ?_
            refine ps_aload rfl rfl ?_
            refine ps_gfi 10 11 rfl rfl rfl (by first | exact hS0 _ _ | exact hS1 _ _ | exact hS2 _ _ | exact hS3 _ _ | exact hS4 _ _ | exact hS5 _ _ | exact hS6 _ _ | exact hS7 _ _ | exact hS8 _ _ | exact hS9 _ _ | exact hS10 _ _ | exact hS11 _ _ | exact hS12 _ _ | exact hS13 _ _ | exact hS14 _ _ | exact hS15 _ _ | exact hS16 _ _ | exact hS17 _ _ | exact hS18 _ _ | exact hS19 _ _ | exact hS20 _ _ | exact hS21 _ _ | exact hS22 _ _ | exact hS23 _ _ | assumption | rfl) rfl ?_
            rw [show ((I5, L, g_R s, 306) : pm_H).1 cm 11 = (wrS P S i).2 from (o5 _ _ (by omega)).trans q3]
            by_cases c2 : (wrS P S i).2 < wsE P S i
            · refine ps_icmpf rfl (decide_eq_false (fun z => by have z := (i_le _ _).mp z; have y := (i_lt _ _).mp c2; omega)) ?_
              exact take (Or.inr c2)
            · refine ps_icmpt rfl (decide_eq_true ((i_le _ _).mpr (by have : ¬ ((wrS P S i).2).toInt < (wsE P S i).toInt := fun z => c2 ((i_lt _ _).mpr z); omega))) ?_
              exact skip (fun z => z.elim c1 c2)
        · rw [if_neg el] at next
          refine ps_ift rfl (decide_eq_true el) ?_
          refine ps_iinc rfl rfl ?_
          refine ps_goto rfl ?_
          rw [show nI i + Int32.ofInt 1 = nI (i + 1) from nI_1 i]
          exact next I' q1 q2 q3 _
    refine ps_istore rfl rfl ?_
    refine pw_c rfl ?_
    refine ps_istore rfl rfl ?_
    exact loop (P.w * P.v) 0 (by omega) I3 (fun _ _ _ _ => rfl) w3.1 w3.2 _
  · refine ps_aload rfl rfl ?_
    refine ps_gfi 10 18 rfl rfl rfl (by first | exact hS0 _ _ | exact hS1 _ _ | exact hS2 _ _ | exact hS3 _ _ | exact hS4 _ _ | exact hS5 _ _ | exact hS6 _ _ | exact hS7 _ _ | exact hS8 _ _ | exact hS9 _ _ | exact hS10 _ _ | exact hS11 _ _ | exact hS12 _ _ | exact hS13 _ _ | exact hS14 _ _ | exact hS15 _ _ | exact hS16 _ _ | exact hS17 _ _ | exact hS18 _ _ | exact hS19 _ _ | exact hS20 _ _ | exact hS21 _ _ | exact hS22 _ _ | exact hS23 _ _ | assumption | rfl) rfl ?_
    rw [show ((I, L, g_R s, 306) : pm_H).1 cm 18 = 1 from hw.1]
    refine ps_iff rfl (rfl) ?_
    refine ps_vret rfl rfl ?_
    exact kk I (fun _ _ _ _ _ => rfl) hw (Or.inr rfl)
end TP
