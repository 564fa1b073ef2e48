/-! BY HAND: the class's differences, window, alike, as functions of the bench -/
section TD
variable {I I' J : Nat → Nat → Int32} {L : Nat → Nat → Int64} {s : Nat → Option Nat} {Q : List Value → pm_H → Prop} {ys : List Int32} {p b c w v n r : Nat} {B : sB}
def dfF (P : sPl) : Nat → Int32 := ovF P.w P.v P.ho P.ho
def qDif (B : sB) (k w : Int32) : Except Int32 Int32 := if ¬ (0 ≤ w.toInt ∧ w.toInt ≤ 2) then .error 1 else match plN B k with
  | none => .error 2
  | some i => if (B.pl i).w * (B.pl i).v = 1 then .error 5 else .ok (if w = 0 then mnF (dfF (B.pl i)) ((B.pl i).w * (B.pl i).v) else if w = 1 then mxF (dfF (B.pl i)) ((B.pl i).w * (B.pl i).v) else cnF (dfF (B.pl i)) (mxF (dfF (B.pl i)) ((B.pl i).w * (B.pl i).v)) ((B.pl i).w * (B.pl i).v))
def wnF (P : sPl) (x y w h : Nat) : Int32 := suI (fun v => suI (fun u => P.ho (cxy P.w P.v (((x + u : Nat)) : Int) ((y + v : Nat) : Int))) w) h
def qWin (B : sB) (k x y w h : Int32) : Except Int32 Int32 := if ¬ ((1 ≤ w.toInt ∧ w.toInt ≤ 99) ∧ 1 ≤ h.toInt ∧ h.toInt ≤ 99) then .error 1 else match plN B k with
  | none => .error 2
  | some i => if ¬ ((0 ≤ x.toInt ∧ x.toInt < (B.pl i).w) ∧ 0 ≤ y.toInt ∧ y.toInt < (B.pl i).v) then .error 2 else .ok (wnF (B.pl i) x.toInt.toNat y.toInt.toNat w.toInt.toNat h.toInt.toNat)
def alkB (P R : sPl) : Bool := decide (P.w = R.w ∧ P.v = R.v) && (List.range (P.w * P.v)).any fun i => (List.range (P.w * P.v)).all fun j => decide (P.ho j = R.ho (cxy P.w P.v (((j % P.w : Nat) : Int) + ((i % P.w : Nat) : Int)) (((j / P.w : Nat) : Int) + ((i / P.w : Nat) : Int))))
theorem alkB_iff {P R : sPl} : alkB P R = true ↔ alkP P R := by
  unfold alkB alkP
  rw [Bool.and_eq_true, decide_eq_true_iff, List.any_eq_true]
  constructor
  · rintro ⟨⟨e1, e2⟩, i, hi, hj⟩
    refine ⟨e1, e2, i, List.mem_range.mp hi, fun j hj' => ?_⟩
    exact of_decide_eq_true (List.all_eq_true.mp hj j (List.mem_range.mpr hj'))
  · rintro ⟨e1, e2, i, hi, hj⟩
    exact ⟨⟨e1, e2⟩, i, List.mem_range.mpr hi, List.all_eq_true.mpr (fun j hj' => decide_eq_true (hj j (List.mem_range.mp hj')))⟩
def qAlk (B : sB) (k o : Int32) : Except Int32 Int32 := match plN B k, plN B o with
  | some i, some j => .ok (bI (alkB (B.pl i) (B.pl j)))
  | _, _ => .error 2
/-- where the class's questions write -/
def qAg (I I' : Nat → Nat → Int32) : Prop := ∀ a j : Nat, ¬ (a = 0 ∧ j = 10) → ¬ a = 172 → I' a j = I a j
theorem qAg_u {e : Int32} : qAg I (pm_u I 0 10 e) := fun a j h _ => pu_x h
theorem qAg_t {e : Int32} {I1 : Nat → Nat → Int32} (h : ∀ a j, ¬ (a = 172 ∧ j < n) → I1 a j = I a j) : qAg I (pm_u I1 0 10 e) := fun a j h1 h2 => (pu_x h1).trans (h a j (fun z => h2 z.1))
theorem ovF_c {ho ho' pat pat' : Nat → Int32} (w0 : 0 < w) (v0 : 0 < v) (h1 : ∀ i, i < w * v → ho i = ho' i) (h2 : ∀ i, i < w * v → pat i = pat' i) (i : Nat) : ovF w v ho pat i = ovF w v ho' pat' i := by
  unfold ovF
  refine suI_congr (fun c hc => ?_)
  rw [h1 c hc, h2 _ (cxy_lt w0 v0 _ _)]
theorem isP_6 (hb : isB b) {k : Nat} (ok : B.ok) (hk : k < B.ps) : isP (b + 17 + 4 * k) := isP_of hb (by have := ok.1; omega)
theorem cnF_c {f g : Nat → Int32} {x : Int32} (h : ∀ i, i < n → f i = g i) : cnF f x n = cnF g x n := by
  unfold cnF
  refine suI_congr (fun i hi => ?_)
  rw [h (i + 1) (by omega)]
theorem B_differences6 (hb : isB b) (h0 : s 0 = some b) (hB : cBq b B I) (ok : B.ok) (k w : Int32) (kk : ∀ r I', r = exv (qDif B k w) → qAg I I' → Q [.int r] (I', L, g_R s, 306)) : pm_W (g_P ys) 90 0 [.ref 0, .int k, .int w, .retAddr 0, .retAddr 0] [] (I, L, g_R s, 306) (0, 0) Q := by
  obtain ⟨hS0, hS1, hS2, hS3, hS4, hR0, hR1, hR2, hR3, hR4, hR5, hR6, hR7⟩ := bn_F (ys := ys) (s := s) hb
  have e0 : (0 : Int32).toInt = 0 := rfl
  have e2 : (2 : Int32).toInt = 2 := rfl
  have bb := isB_b hb
  have no : ¬ (0 ≤ w.toInt ∧ w.toInt ≤ 2) → pm_W (g_P ys) 90 9 [.ref 0, .int k, .int w, .retAddr 0, .retAddr 0] [] (I, L, g_R s, 306) (0, 0) Q := by
    intro z
    refine ps_aload rfl rfl ?_
    refine pw_c rfl ?_
    refine pw_k rfl rfl rfl rfl ⟨Nat.zero_le _, Nat.zero_le _⟩ ?_
    refine B_refuse ?_
    refine ps_iret rfl rfl ?_
    exact kk _ _ (by unfold qDif; rw [if_pos z]; rfl) qAg_u
  by_cases hw1 : w.toInt < 0
  · refine ps_iload rfl rfl ?_
    refine ps_ift rfl (decide_eq_true ((i_lt _ _).mpr (by omega))) ?_
    exact no (by omega)
  · by_cases hw2 : 2 < w.toInt
    · refine ps_iload rfl rfl ?_
      refine ps_iff rfl (decide_eq_false (fun z => hw1 (by have := (i_lt _ _).mp z; omega))) ?_
      refine ps_iload rfl rfl ?_
      refine pw_c rfl ?_
      refine ps_icmpf rfl (decide_eq_false (fun z => by have := (i_le _ _).mp z; omega)) ?_
      exact no (by omega)
    · have hw : 0 ≤ w.toInt ∧ w.toInt ≤ 2 := by omega
      refine ps_iload rfl rfl ?_
      refine ps_iff rfl (decide_eq_false (fun z => hw1 (by have := (i_lt _ _).mp z; omega))) ?_
      refine ps_iload rfl rfl ?_
      refine pw_c rfl ?_
      refine ps_icmpt rfl (decide_eq_true ((i_le _ _).mpr (by omega))) ?_
      refine ps_aload rfl rfl ?_
      refine ps_gfr 0 6 rfl rfl rfl (by first | exact hS0 _ _ | exact hS1 _ _ | exact hS2 _ _ | exact hS3 _ _ | exact hS4 _ _ | exact hS5 _ _ | exact hS6 _ _ | exact hS7 _ _ | exact hS8 _ _ | exact hS9 _ _ | exact hS10 _ _ | exact hS11 _ _ | exact hS12 _ _ | exact hS13 _ _ | exact hS14 _ _ | exact hS15 _ _ | exact hS16 _ _ | exact hS17 _ _ | exact hS18 _ _ | exact hS19 _ _ | exact hS20 _ _ | exact hS21 _ _ | exact hS22 _ _ | exact hS23 _ _ | assumption | rfl) rfl ( h0) ?_
      refine ps_iload rfl rfl ?_
      refine pv_k rfl rfl rfl rfl rfl (hS0 _ _) rfl ⟨Nat.zero_le _, Nat.zero_le _⟩ ?_
      refine B_plate6 hb hB ok.1 k (fun i hi ei => ?_) (fun hn => ?_)
      · have ea : qDif B k w = if (B.pl i).w * (B.pl i).v = 1 then .error 5 else .ok (if w = 0 then mnF (dfF (B.pl i)) ((B.pl i).w * (B.pl i).v) else if w = 1 then mxF (dfF (B.pl i)) ((B.pl i).w * (B.pl i).v) else cnF (dfF (B.pl i)) (mxF (dfF (B.pl i)) ((B.pl i).w * (B.pl i).v)) ((B.pl i).w * (B.pl i).v)) := by
          unfold qDif
          rw [if_neg (fun z => z hw), plN_y hi ok.1 ei]
        have hp := isP_6 hb ok hi
        have hP := cBq_p hB hi
        obtain ⟨hS5, hS6, hS7, hS8, hR8, hR9, hR10⟩ := pl_F (ys := ys) (s := s) hp
        obtain ⟨p, hpe⟩ : ∃ p, p = b + 17 + 4 * i := ⟨_, rfl⟩
        obtain ⟨P, hPe⟩ : ∃ P, P = B.pl i := ⟨_, rfl⟩
        have p173 : 173 < p := by omega
        rw [← hpe] at hp hP hS5 hS6 hS7 hS8 hR8 hR9 hR10 ⊢
        rw [← hPe] at hP ea
        have w0 := hP.1.2.2.2.1
        have v0 := hP.1.2.2.2.2.1
        have n289 := hP.1.2.2.2.2.2
        refine ps_astore rfl rfl ?_
        refine ps_aload rfl rfl ?_
        refine ps_brr rfl rfl rfl rfl rfl rfl ?_
        refine ps_aload rfl rfl ?_
        refine ps_gfi 9 6 rfl rfl rfl (by first | exact hS0 _ _ | exact hS1 _ _ | exact hS2 _ _ | exact hS3 _ _ | exact hS4 _ _ | exact hS5 _ _ | exact hS6 _ _ | exact hS7 _ _ | exact hS8 _ _ | exact hS9 _ _ | exact hS10 _ _ | exact hS11 _ _ | exact hS12 _ _ | exact hS13 _ _ | exact hS14 _ _ | exact hS15 _ _ | exact hS16 _ _ | exact hS17 _ _ | exact hS18 _ _ | exact hS19 _ _ | exact hS20 _ _ | exact hS21 _ _ | exact hS22 _ _ | exact hS23 _ _ | assumption | rfl) rfl ?_
        rw [show ((I, L, g_R s, 306) : pm_H).1 p 6 = nI (P.w * P.v) from hP.1.2.2.1]
        by_cases e1 : P.w * P.v = 1
        · rw [if_pos e1] at ea
          refine pw_c rfl ?_
          refine ps_icmpf rfl (decide_eq_false (fun z => z (by rw [e1]; rfl))) ?_
          refine ps_aload rfl rfl ?_
          refine pw_c rfl ?_
          refine pv_k rfl rfl rfl rfl rfl (by first | exact hS0 _ _ | exact hS1 _ _ | exact hS2 _ _ | exact hS3 _ _ | exact hS4 _ _ | exact hS5 _ _ | exact hS6 _ _ | exact hS7 _ _ | exact hS8 _ _ | exact hS9 _ _ | exact hS10 _ _ | exact hS11 _ _ | exact hS12 _ _ | exact hS13 _ _ | exact hS14 _ _ | exact hS15 _ _ | exact hS16 _ _ | exact hS17 _ _ | exact hS18 _ _ | exact hS19 _ _ | exact hS20 _ _ | exact hS21 _ _ | exact hS22 _ _ | exact hS23 _ _ | assumption | rfl) rfl ⟨Nat.zero_le _, Nat.zero_le _⟩ ?_
          refine B_refuse ?_
          refine ps_iret rfl rfl ?_
          exact kk _ _ (by rw [ea]; rfl) qAg_u
        · rw [if_neg e1] at ea
          refine pw_c rfl ?_
          refine ps_icmpt rfl (decide_eq_true (fun z => e1 (nI_eqv (b := 1) (by omega) (by omega) z))) ?_
          refine ps_aload rfl rfl ?_
          refine ps_aload rfl rfl ?_
          refine ps_gfr 0 5 rfl rfl rfl (by first | exact hS0 _ _ | exact hS1 _ _ | exact hS2 _ _ | exact hS3 _ _ | exact hS4 _ _ | exact hS5 _ _ | exact hS6 _ _ | exact hS7 _ _ | exact hS8 _ _ | exact hS9 _ _ | exact hS10 _ _ | exact hS11 _ _ | exact hS12 _ _ | exact hS13 _ _ | exact hS14 _ _ | exact hS15 _ _ | exact hS16 _ _ | exact hS17 _ _ | exact hS18 _ _ | exact hS19 _ _ | exact hS20 _ _ | exact hS21 _ _ | exact hS22 _ _ | exact hS23 _ _ | assumption | rfl) rfl ( rfl) ?_
          refine ps_aload rfl rfl ?_
          refine ps_gfr 9 0 rfl rfl rfl (by first | exact hS0 _ _ | exact hS1 _ _ | exact hS2 _ _ | exact hS3 _ _ | exact hS4 _ _ | exact hS5 _ _ | exact hS6 _ _ | exact hS7 _ _ | exact hS8 _ _ | exact hS9 _ _ | exact hS10 _ _ | exact hS11 _ _ | exact hS12 _ _ | exact hS13 _ _ | exact hS14 _ _ | exact hS15 _ _ | exact hS16 _ _ | exact hS17 _ _ | exact hS18 _ _ | exact hS19 _ _ | exact hS20 _ _ | exact hS21 _ _ | exact hS22 _ _ | exact hS23 _ _ | assumption | rfl) rfl ( by assumption) ?_
          refine pv_k rfl rfl rfl rfl rfl (hS5 _ _) rfl ⟨Nat.zero_le _, Nat.zero_le _⟩ ?_
          refine B_overX (b := 172) (c := p + 1) hp hP.1 (fun _ _ => rfl) hS6 (by omega) (by omega) (by omega) (fun I1 g1 g2 => ?_)
          have c1 : cP I1 p P.w P.v := cP_o hP.1 (fun j => g1 p j (by omega))
          have ev : ∀ j, j < P.w * P.v → I1 172 j = dfF P j := fun j hj => (g2 j hj).trans (ovF_c w0 v0 (fun i hi => (hP.2.2.2.2 i hi).1) (fun i hi => (hP.2.2.2.2 i hi).1) j)
          by_cases w0' : w = 0
          · rw [if_pos w0'] at ea
            refine ps_iload rfl rfl ?_
            refine ps_iff rfl (decide_eq_false (fun z => z w0')) ?_
            refine ps_aload rfl rfl ?_
            refine ps_aload rfl rfl ?_
            refine ps_aload rfl rfl ?_
            refine ps_gfr 0 5 rfl rfl rfl (by first | exact hS0 _ _ | exact hS1 _ _ | exact hS2 _ _ | exact hS3 _ _ | exact hS4 _ _ | exact hS5 _ _ | exact hS6 _ _ | exact hS7 _ _ | exact hS8 _ _ | exact hS9 _ _ | exact hS10 _ _ | exact hS11 _ _ | exact hS12 _ _ | exact hS13 _ _ | exact hS14 _ _ | exact hS15 _ _ | exact hS16 _ _ | exact hS17 _ _ | exact hS18 _ _ | exact hS19 _ _ | exact hS20 _ _ | exact hS21 _ _ | exact hS22 _ _ | exact hS23 _ _ | assumption | rfl) rfl ( rfl) ?_
            refine pv_k rfl rfl rfl rfl rfl (hS5 _ _) rfl ⟨Nat.zero_le _, Nat.zero_le _⟩ ?_
            refine B_leastX (b := 172) hp c1 (fun _ _ => rfl) ?_
            refine pv_k rfl rfl rfl rfl rfl (by first | exact hS0 _ _ | exact hS1 _ _ | exact hS2 _ _ | exact hS3 _ _ | exact hS4 _ _ | exact hS5 _ _ | exact hS6 _ _ | exact hS7 _ _ | exact hS8 _ _ | exact hS9 _ _ | exact hS10 _ _ | exact hS11 _ _ | exact hS12 _ _ | exact hS13 _ _ | exact hS14 _ _ | exact hS15 _ _ | exact hS16 _ _ | exact hS17 _ _ | exact hS18 _ _ | exact hS19 _ _ | exact hS20 _ _ | exact hS21 _ _ | exact hS22 _ _ | exact hS23 _ _ | assumption | rfl) rfl ⟨Nat.zero_le _, Nat.zero_le _⟩ ?_
            refine B_answer ?_
            refine ps_iret rfl rfl ?_
            exact kk _ _ (by rw [ea, mnF_c ev]; rfl) (qAg_t g1)
          · rw [if_neg w0'] at ea
            refine ps_iload rfl rfl ?_
            refine ps_ift rfl (decide_eq_true w0') ?_
            refine ps_aload rfl rfl ?_
            refine ps_aload rfl rfl ?_
            refine ps_gfr 0 5 rfl rfl rfl (by first | exact hS0 _ _ | exact hS1 _ _ | exact hS2 _ _ | exact hS3 _ _ | exact hS4 _ _ | exact hS5 _ _ | exact hS6 _ _ | exact hS7 _ _ | exact hS8 _ _ | exact hS9 _ _ | exact hS10 _ _ | exact hS11 _ _ | exact hS12 _ _ | exact hS13 _ _ | exact hS14 _ _ | exact hS15 _ _ | exact hS16 _ _ | exact hS17 _ _ | exact hS18 _ _ | exact hS19 _ _ | exact hS20 _ _ | exact hS21 _ _ | exact hS22 _ _ | exact hS23 _ _ | assumption | rfl) rfl ( rfl) ?_
            refine pv_k rfl rfl rfl rfl rfl (hS5 _ _) rfl ⟨Nat.zero_le _, Nat.zero_le _⟩ ?_
            refine B_greatX (b := 172) hp c1 (fun _ _ => rfl) ?_
            by_cases w1' : w = 1
            · rw [if_pos w1'] at ea
              refine ps_istore rfl rfl ?_
              refine ps_aload rfl rfl ?_
              refine ps_iload rfl rfl ?_
              refine pw_c rfl ?_
              refine ps_icmpf rfl (decide_eq_false (fun z => z w1')) ?_
              refine ps_iload rfl rfl ?_
              refine ps_goto rfl ?_
              refine pv_k rfl rfl rfl rfl rfl (by first | exact hS0 _ _ | exact hS1 _ _ | exact hS2 _ _ | exact hS3 _ _ | exact hS4 _ _ | exact hS5 _ _ | exact hS6 _ _ | exact hS7 _ _ | exact hS8 _ _ | exact hS9 _ _ | exact hS10 _ _ | exact hS11 _ _ | exact hS12 _ _ | exact hS13 _ _ | exact hS14 _ _ | exact hS15 _ _ | exact hS16 _ _ | exact hS17 _ _ | exact hS18 _ _ | exact hS19 _ _ | exact hS20 _ _ | exact hS21 _ _ | exact hS22 _ _ | exact hS23 _ _ | assumption | rfl) rfl ⟨Nat.zero_le _, Nat.zero_le _⟩ ?_
              refine B_answer ?_
              refine ps_iret rfl rfl ?_
              exact kk _ _ (by rw [ea, mxF_c ev]; rfl) (qAg_t g1)
            · rw [if_neg w1'] at ea
              refine ps_istore rfl rfl ?_
              refine ps_aload rfl rfl ?_
              refine ps_iload rfl rfl ?_
              refine pw_c rfl ?_
              refine ps_icmpt rfl (decide_eq_true w1') ?_
              refine ps_aload rfl rfl ?_
              refine ps_aload rfl rfl ?_
              refine ps_gfr 0 5 rfl rfl rfl (by first | exact hS0 _ _ | exact hS1 _ _ | exact hS2 _ _ | exact hS3 _ _ | exact hS4 _ _ | exact hS5 _ _ | exact hS6 _ _ | exact hS7 _ _ | exact hS8 _ _ | exact hS9 _ _ | exact hS10 _ _ | exact hS11 _ _ | exact hS12 _ _ | exact hS13 _ _ | exact hS14 _ _ | exact hS15 _ _ | exact hS16 _ _ | exact hS17 _ _ | exact hS18 _ _ | exact hS19 _ _ | exact hS20 _ _ | exact hS21 _ _ | exact hS22 _ _ | exact hS23 _ _ | assumption | rfl) rfl ( rfl) ?_
              refine ps_iload rfl rfl ?_
              refine pv_k rfl rfl rfl rfl rfl (hS5 _ _) rfl ⟨Nat.zero_le _, Nat.zero_le _⟩ ?_
              refine B_timesX (b := 172) hp c1 (fun _ _ => rfl) _ ?_
              refine pv_k rfl rfl rfl rfl rfl (by first | exact hS0 _ _ | exact hS1 _ _ | exact hS2 _ _ | exact hS3 _ _ | exact hS4 _ _ | exact hS5 _ _ | exact hS6 _ _ | exact hS7 _ _ | exact hS8 _ _ | exact hS9 _ _ | exact hS10 _ _ | exact hS11 _ _ | exact hS12 _ _ | exact hS13 _ _ | exact hS14 _ _ | exact hS15 _ _ | exact hS16 _ _ | exact hS17 _ _ | exact hS18 _ _ | exact hS19 _ _ | exact hS20 _ _ | exact hS21 _ _ | exact hS22 _ _ | exact hS23 _ _ | assumption | rfl) rfl ⟨Nat.zero_le _, Nat.zero_le _⟩ ?_
              refine B_answer ?_
              refine ps_iret rfl rfl ?_
              exact kk _ _ (by rw [ea, mxF_c ev, cnF_c ev]; rfl) (qAg_t g1)
      · have ea : qDif B k w = .error 2 := by
          unfold qDif
          rw [if_neg (fun z => z hw), plN_n hn]
        refine ps_astoreN rfl rfl ?_
        refine ps_aloadN rfl rfl ?_
        refine ps_brr rfl rfl rfl rfl rfl rfl ?_
        refine ps_aload rfl rfl ?_
        refine pw_c rfl ?_
        refine pw_k rfl rfl rfl rfl ⟨Nat.zero_le _, Nat.zero_le _⟩ ?_
        refine B_refuse ?_
        refine ps_iret rfl rfl ?_
        exact kk _ _ (by rw [ea]; rfl) qAg_u
theorem B_alike6 (hb : isB b) (h0 : s 0 = some b) (hB : cBq b B I) (ok : B.ok) (k o : Int32) (kk : ∀ r I', r = exv (qAlk B k o) → qAg I I' → Q [.int r] (I', L, g_R s, 306)) : pm_W (g_P ys) 94 0 [.ref 0, .int k, .int o, .retAddr 0, .retAddr 0] [] (I, L, g_R s, 306) (0, 0) Q := by
  obtain ⟨hS0, hS1, hS2, hS3, hS4, hR0, hR1, hR2, hR3, hR4, hR5, hR6, hR7⟩ := bn_F (ys := ys) (s := s) hb
  have bb := isB_b hb
  refine ps_aload rfl rfl ?_
  refine ps_gfr 0 6 rfl rfl rfl (by first | exact hS0 _ _ | exact hS1 _ _ | exact hS2 _ _ | exact hS3 _ _ | exact hS4 _ _ | exact hS5 _ _ | exact hS6 _ _ | exact hS7 _ _ | exact hS8 _ _ | exact hS9 _ _ | exact hS10 _ _ | exact hS11 _ _ | exact hS12 _ _ | exact hS13 _ _ | exact hS14 _ _ | exact hS15 _ _ | exact hS16 _ _ | exact hS17 _ _ | exact hS18 _ _ | exact hS19 _ _ | exact hS20 _ _ | exact hS21 _ _ | exact hS22 _ _ | exact hS23 _ _ | assumption | rfl) rfl ( h0) ?_
  refine ps_iload rfl rfl ?_
  refine pv_k rfl rfl rfl rfl rfl (hS0 _ _) rfl ⟨Nat.zero_le _, Nat.zero_le _⟩ ?_
  refine B_plate6 hb hB ok.1 k (fun i hi ei => ?_) (fun hn => ?_)
  · refine ps_astore rfl rfl ?_
    refine ps_aload rfl rfl ?_
    refine ps_gfr 0 6 rfl rfl rfl (by first | exact hS0 _ _ | exact hS1 _ _ | exact hS2 _ _ | exact hS3 _ _ | exact hS4 _ _ | exact hS5 _ _ | exact hS6 _ _ | exact hS7 _ _ | exact hS8 _ _ | exact hS9 _ _ | exact hS10 _ _ | exact hS11 _ _ | exact hS12 _ _ | exact hS13 _ _ | exact hS14 _ _ | exact hS15 _ _ | exact hS16 _ _ | exact hS17 _ _ | exact hS18 _ _ | exact hS19 _ _ | exact hS20 _ _ | exact hS21 _ _ | exact hS22 _ _ | exact hS23 _ _ | assumption | rfl) rfl ( h0) ?_
    refine ps_iload rfl rfl ?_
    refine pv_k rfl rfl rfl rfl rfl (hS0 _ _) rfl ⟨Nat.zero_le _, Nat.zero_le _⟩ ?_
    refine B_plate6 hb hB ok.1 o (fun j hj ej => ?_) (fun hn => ?_)
    · have ea : qAlk B k o = .ok (bI (alkB (B.pl i) (B.pl j))) := by
        unfold qAlk
        rw [plN_y hi ok.1 ei, plN_y hj ok.1 ej]
      have hp := isP_6 hb ok hi
      have hr := isP_6 hb ok hj
      obtain ⟨hS5, _⟩ := pl_F (ys := ys) (s := s) hp
      refine ps_astore rfl rfl ?_
      refine ps_aload rfl rfl ?_
      refine ps_brr rfl rfl rfl rfl rfl rfl ?_
      refine ps_aload rfl rfl ?_
      refine ps_brr rfl rfl rfl rfl rfl rfl ?_
      refine ps_aload rfl rfl ?_
      refine ps_aload rfl rfl ?_
      refine ps_aload rfl rfl ?_
      refine pv_k rfl rfl rfl rfl rfl (hS5 _ _) rfl ⟨Nat.zero_le _, Nat.zero_le _⟩ ?_
      refine B_isTurnedX hp hr (cBq_p hB hi) (cBq_p hB hj) (fun z => ?_) (fun z => ?_)
      · refine ps_iff rfl (rfl) ?_
        refine pw_c rfl ?_
        refine ps_goto rfl ?_
        refine pv_k rfl rfl rfl rfl rfl (by first | exact hS0 _ _ | exact hS1 _ _ | exact hS2 _ _ | exact hS3 _ _ | exact hS4 _ _ | exact hS5 _ _ | exact hS6 _ _ | exact hS7 _ _ | exact hS8 _ _ | exact hS9 _ _ | exact hS10 _ _ | exact hS11 _ _ | exact hS12 _ _ | exact hS13 _ _ | exact hS14 _ _ | exact hS15 _ _ | exact hS16 _ _ | exact hS17 _ _ | exact hS18 _ _ | exact hS19 _ _ | exact hS20 _ _ | exact hS21 _ _ | exact hS22 _ _ | exact hS23 _ _ | assumption | rfl) rfl ⟨Nat.zero_le _, Nat.zero_le _⟩ ?_
        refine B_answer ?_
        refine ps_iret rfl rfl ?_
        exact kk _ _ (by rw [ea, alkB_iff.mpr z]; rfl) qAg_u
      · refine ps_ift rfl (rfl) ?_
        refine pw_c rfl ?_
        refine pv_k rfl rfl rfl rfl rfl (by first | exact hS0 _ _ | exact hS1 _ _ | exact hS2 _ _ | exact hS3 _ _ | exact hS4 _ _ | exact hS5 _ _ | exact hS6 _ _ | exact hS7 _ _ | exact hS8 _ _ | exact hS9 _ _ | exact hS10 _ _ | exact hS11 _ _ | exact hS12 _ _ | exact hS13 _ _ | exact hS14 _ _ | exact hS15 _ _ | exact hS16 _ _ | exact hS17 _ _ | exact hS18 _ _ | exact hS19 _ _ | exact hS20 _ _ | exact hS21 _ _ | exact hS22 _ _ | exact hS23 _ _ | assumption | rfl) rfl ⟨Nat.zero_le _, Nat.zero_le _⟩ ?_
        refine B_answer ?_
        refine ps_iret rfl rfl ?_
        exact kk _ _ (by rw [ea, show alkB (B.pl i) (B.pl j) = false from Bool.eq_false_iff.mpr (fun y => z (alkB_iff.mp y))]; rfl) qAg_u
    · have ea : qAlk B k o = .error 2 := by
        unfold qAlk
        rw [plN_y hi ok.1 ei, plN_n hn]
      refine ps_astoreN rfl rfl ?_
      refine ps_aload rfl rfl ?_
      refine ps_brr rfl rfl rfl rfl rfl rfl ?_
      refine ps_aloadN rfl rfl ?_
      refine ps_brr rfl rfl rfl rfl rfl rfl ?_
      refine ps_aload rfl rfl ?_
      refine pw_c rfl ?_
      refine pw_k rfl rfl rfl rfl ⟨Nat.zero_le _, Nat.zero_le _⟩ ?_
      refine B_refuse ?_
      refine ps_iret rfl rfl ?_
      exact kk _ _ (by rw [ea]; rfl) qAg_u
  · have ea : qAlk B k o = .error 2 := by
      unfold qAlk
      rw [plN_n hn]
    refine ps_astoreN rfl rfl ?_
    refine ps_aload rfl rfl ?_
    refine ps_gfr 0 6 rfl rfl rfl (by first | exact hS0 _ _ | exact hS1 _ _ | exact hS2 _ _ | exact hS3 _ _ | exact hS4 _ _ | exact hS5 _ _ | exact hS6 _ _ | exact hS7 _ _ | exact hS8 _ _ | exact hS9 _ _ | exact hS10 _ _ | exact hS11 _ _ | exact hS12 _ _ | exact hS13 _ _ | exact hS14 _ _ | exact hS15 _ _ | exact hS16 _ _ | exact hS17 _ _ | exact hS18 _ _ | exact hS19 _ _ | exact hS20 _ _ | exact hS21 _ _ | exact hS22 _ _ | exact hS23 _ _ | assumption | rfl) rfl ( h0) ?_
    refine ps_iload rfl rfl ?_
    refine pv_k rfl rfl rfl rfl rfl (hS0 _ _) rfl ⟨Nat.zero_le _, Nat.zero_le _⟩ ?_
    have fin : ∀ v : Value, pm_W (g_P ys) 94 28 [.ref 0, .int k, .int o, .null, v] [] (I, L, g_R s, 306) (0, 0) Q := by
      intro v
      refine ps_aload rfl rfl ?_
      refine pw_c rfl ?_
      refine pw_k rfl rfl rfl rfl ⟨Nat.zero_le _, Nat.zero_le _⟩ ?_
      refine B_refuse ?_
      refine ps_iret rfl rfl ?_
      exact kk _ _ (by rw [ea]; rfl) qAg_u
    refine B_plate6 hb hB ok.1 o (fun j hj ej => ?_) (fun hn => ?_)
    · refine ps_astore rfl rfl ?_
      refine ps_aloadN rfl rfl ?_
      refine ps_brr rfl rfl rfl rfl rfl rfl ?_
      exact fin _
    · refine ps_astoreN rfl rfl ?_
      refine ps_aloadN rfl rfl ?_
      refine ps_brr rfl rfl rfl rfl rfl rfl ?_
      exact fin _
theorem B_window6 (hb : isB b) (h0 : s 0 = some b) (hB : cBq b B I) (ok : B.ok) (k x y w h : Int32) (kk : ∀ r I', r = exv (qWin B k x y w h) → qAg I I' → Q [.int r] (I', L, g_R s, 306)) : pm_W (g_P ys) 92 0 [.ref 0, .int k, .int x, .int y, .int w, .int h, .retAddr 0, .retAddr 0, .retAddr 0, .retAddr 0] [] (I, L, g_R s, 306) (0, 0) Q := by
  obtain ⟨hS0, hS1, hS2, hS3, hS4, hR0, hR1, hR2, hR3, hR4, hR5, hR6, hR7⟩ := bn_F (ys := ys) (s := s) hb
  have e1 : (1 : Int32).toInt = 1 := rfl
  have e99 : (99 : Int32).toInt = 99 := rfl
  have bb := isB_b hb
  have no : ¬ ((1 ≤ w.toInt ∧ w.toInt ≤ 99) ∧ 1 ≤ h.toInt ∧ h.toInt ≤ 99) → pm_W (g_P ys) 92 26 [.ref 0, .int k, .int x, .int y, .int w, .int h, .retAddr 0, .retAddr 0, .retAddr 0, .retAddr 0] [] (I, L, g_R s, 306) (0, 0) Q := by
    intro z
    refine ps_aload rfl rfl ?_
    refine pw_c rfl ?_
    refine pw_k rfl rfl rfl rfl ⟨Nat.zero_le _, Nat.zero_le _⟩ ?_
    refine B_refuse ?_
    refine ps_iret rfl rfl ?_
    exact kk _ _ (by unfold qWin; rw [if_pos z]; rfl) qAg_u
  have go : ((1 ≤ w.toInt ∧ w.toInt ≤ 99) ∧ 1 ≤ h.toInt ∧ h.toInt ≤ 99) → pm_W (g_P ys) 92 32 [.ref 0, .int k, .int x, .int y, .int w, .int h, .retAddr 0, .retAddr 0, .retAddr 0, .retAddr 0] [] (I, L, g_R s, 306) (0, 0) Q := by
    intro hw
    have bad : qWin B k x y w h = .error 2 → ∀ v : Value, pm_W (g_P ys) 92 57 [.ref 0, .int k, .int x, .int y, .int w, .int h, v, .retAddr 0, .retAddr 0, .retAddr 0] [] (I, L, g_R s, 306) (0, 0) Q := by
      intro ea v
      refine ps_aload rfl rfl ?_
      refine pw_c rfl ?_
      refine pw_k rfl rfl rfl rfl ⟨Nat.zero_le _, Nat.zero_le _⟩ ?_
      refine B_refuse ?_
      refine ps_iret rfl rfl ?_
      exact kk _ _ (by rw [ea]; rfl) qAg_u
    refine ps_aload rfl rfl ?_
    refine ps_gfr 0 6 rfl rfl rfl (by first | exact hS0 _ _ | exact hS1 _ _ | exact hS2 _ _ | exact hS3 _ _ | exact hS4 _ _ | exact hS5 _ _ | exact hS6 _ _ | exact hS7 _ _ | exact hS8 _ _ | exact hS9 _ _ | exact hS10 _ _ | exact hS11 _ _ | exact hS12 _ _ | exact hS13 _ _ | exact hS14 _ _ | exact hS15 _ _ | exact hS16 _ _ | exact hS17 _ _ | exact hS18 _ _ | exact hS19 _ _ | exact hS20 _ _ | exact hS21 _ _ | exact hS22 _ _ | exact hS23 _ _ | assumption | rfl) rfl ( h0) ?_
    refine ps_iload rfl rfl ?_
    refine pv_k rfl rfl rfl rfl rfl (hS0 _ _) rfl ⟨Nat.zero_le _, Nat.zero_le _⟩ ?_
    refine B_plate6 hb hB ok.1 k (fun i hi ei => ?_) (fun hn => ?_)
    · have hp := isP_6 hb ok hi
      have hP := cBq_p hB hi
      obtain ⟨hS5, hS6, hS7, hS8, hR8, hR9, hR10⟩ := pl_F (ys := ys) (s := s) hp
      obtain ⟨p, hpe⟩ : ∃ p, p = b + 17 + 4 * i := ⟨_, rfl⟩
      obtain ⟨P, hPe⟩ : ∃ P, P = B.pl i := ⟨_, rfl⟩
      have ea : qWin B k x y w h = if ¬ ((0 ≤ x.toInt ∧ x.toInt < P.w) ∧ 0 ≤ y.toInt ∧ y.toInt < P.v) then .error 2 else .ok (wnF P x.toInt.toNat y.toInt.toNat w.toInt.toNat h.toInt.toNat) := by
        unfold qWin
        rw [if_neg (fun z => z hw), plN_y hi ok.1 ei, hPe]
      rw [← hpe] at hp hP hS5 hS6 hS7 hS8 hR8 hR9 hR10 ⊢
      rw [← hPe] at hP
      have w0 := hP.1.2.2.2.1
      have v0 := hP.1.2.2.2.2.1
      have n289 := hP.1.2.2.2.2.2
      obtain ⟨wb, vb⟩ := cP_b hP.1
      refine ps_astore rfl rfl ?_
      refine ps_aload rfl rfl ?_
      refine ps_brr rfl rfl rfl rfl rfl rfl ?_
      refine ps_aload rfl rfl ?_
      refine ps_iload rfl rfl ?_
      refine ps_iload rfl rfl ?_
      refine pv_k rfl rfl rfl rfl rfl (hS5 _ _) rfl ⟨Nat.zero_le _, Nat.zero_le _⟩ ?_
      refine B_hasX hp hP.1 x y ?_
      by_cases hxy : (0 ≤ x.toInt ∧ x.toInt < P.w) ∧ 0 ≤ y.toInt ∧ y.toInt < P.v
      · rw [if_neg (fun z => z hxy)] at ea
        rw [decide_eq_true hxy]
        obtain ⟨x0, hx0⟩ : ∃ z, z = x.toInt.toNat := ⟨_, rfl⟩
        obtain ⟨y0, hy0⟩ : ∃ z, z = y.toInt.toNat := ⟨_, rfl⟩
        obtain ⟨w1, hw1⟩ : ∃ z, z = w.toInt.toNat := ⟨_, rfl⟩
        obtain ⟨h1, hh1⟩ : ∃ z, z = h.toInt.toNat := ⟨_, rfl⟩
        have x9 : x0 < 289 := by omega
        have y9 : y0 < 289 := by omega
        have w9 : w1 ≤ 99 := by omega
        have h9 : h1 ≤ 99 := by omega
        have ex := nI_oz hx0 (by omega)
        have ey := nI_oz hy0 (by omega)
        have ew := nI_oz hw1 (by omega)
        have eh := nI_oz hh1 (by omega)
        rw [← hx0, ← hy0, ← hw1, ← hh1] at ea
        clear hx0 hy0 hw1 hh1 hxy hw bad
        rw [ea] at kk
        clear no ea
        subst ex ey ew eh
        obtain ⟨F, hF⟩ : ∃ F : Nat → Nat → Int32, F = fun v u => P.ho (cxy P.w P.v (((x0 + u : Nat)) : Int) ((y0 + v : Nat) : Int)) := ⟨_, rfl⟩
        have outer : ∀ d j, j + d = h1 → ∀ u, pm_W (g_P ys) 92 69 [.ref 0, .int k, .int (nI x0), .int (nI y0), .int (nI w1), .int (nI h1), .ref p, .int (suI (fun v => suI (F v) w1) j), .int (nI (y0 + j)), u] [] (I, L, g_R s, 306) (0, 0) Q := by
          intro d
          induction d with
          | zero =>
            intro j hj u
            refine ps_iload rfl rfl ?_
            refine ps_iload rfl rfl ?_
            refine ps_iload rfl rfl ?_
            refine ps_ar rfl rfl rfl rfl rfl ?_
            rw [nI_add]
            refine ps_icmpt rfl (decide_eq_true (nI_le (by omega) (by omega))) ?_
            refine ps_aload rfl rfl ?_
            refine ps_iload rfl rfl ?_
            refine pv_k rfl rfl rfl rfl rfl (by first | exact hS0 _ _ | exact hS1 _ _ | exact hS2 _ _ | exact hS3 _ _ | exact hS4 _ _ | exact hS5 _ _ | exact hS6 _ _ | exact hS7 _ _ | exact hS8 _ _ | exact hS9 _ _ | exact hS10 _ _ | exact hS11 _ _ | exact hS12 _ _ | exact hS13 _ _ | exact hS14 _ _ | exact hS15 _ _ | exact hS16 _ _ | exact hS17 _ _ | exact hS18 _ _ | exact hS19 _ _ | exact hS20 _ _ | exact hS21 _ _ | exact hS22 _ _ | exact hS23 _ _ | assumption | rfl) rfl ⟨Nat.zero_le _, Nat.zero_le _⟩ ?_
            refine B_answer ?_
            refine ps_iret rfl rfl ?_
            refine kk _ _ ?_ qAg_u
            rw [show j = h1 by omega, hF]
            rfl
          | succ d ih =>
            intro j hj u
            have inner : ∀ e i, i + e = w1 → pm_W (g_P ys) 92 81 [.ref 0, .int k, .int (nI x0), .int (nI y0), .int (nI w1), .int (nI h1), .ref p, .int (suI (fun v => suI (F v) w1) j + suI (F j) i), .int (nI (y0 + j)), .int (nI (x0 + i))] [] (I, L, g_R s, 306) (0, 0) Q := by
              intro e
              induction e with
              | zero =>
                intro i hi
                refine ps_iload rfl rfl ?_
                refine ps_iload rfl rfl ?_
                refine ps_iload rfl rfl ?_
                refine ps_ar rfl rfl rfl rfl rfl ?_
                rw [nI_add]
                refine ps_icmpt rfl (decide_eq_true (nI_le (by omega) (by omega))) ?_
                refine ps_iinc rfl rfl ?_
                refine ps_goto rfl ?_
                rw [show nI (y0 + j) + Int32.ofInt 1 = nI ((y0 + j) + 1) from nI_1 (y0 + j)]
                rw [show i = w1 by omega]
                exact ih (j + 1) (by omega) _
              | succ e ihe =>
                intro i hi
                have cl := cxy_lt w0 v0 (((x0 + i : Nat)) : Int) ((y0 + j : Nat) : Int)
                refine ps_iload rfl rfl ?_
                refine ps_iload rfl rfl ?_
                refine ps_iload rfl rfl ?_
                refine ps_ar rfl rfl rfl rfl rfl ?_
                rw [nI_add]
                refine ps_icmpf rfl (decide_eq_false (nI_ge (by omega) (by omega))) ?_
                refine ps_iload rfl rfl ?_
                refine ps_aload rfl rfl ?_
                refine ps_gfr 9 0 rfl rfl rfl (by first | exact hS0 _ _ | exact hS1 _ _ | exact hS2 _ _ | exact hS3 _ _ | exact hS4 _ _ | exact hS5 _ _ | exact hS6 _ _ | exact hS7 _ _ | exact hS8 _ _ | exact hS9 _ _ | exact hS10 _ _ | exact hS11 _ _ | exact hS12 _ _ | exact hS13 _ _ | exact hS14 _ _ | exact hS15 _ _ | exact hS16 _ _ | exact hS17 _ _ | exact hS18 _ _ | exact hS19 _ _ | exact hS20 _ _ | exact hS21 _ _ | exact hS22 _ _ | exact hS23 _ _ | assumption | rfl) rfl (by first | assumption | rfl) ?_
                refine ps_aload rfl rfl ?_
                refine ps_iload rfl rfl ?_
                refine ps_iload rfl rfl ?_
                refine pv_k rfl rfl rfl rfl rfl (hS5 _ _) rfl ⟨Nat.zero_le _, Nat.zero_le _⟩ ?_
                refine B_indexOfX hp hP.1 _ _ ?_
                rw [nI_toInt (by omega), nI_toInt (by omega)]
                refine ps_iald (cxy P.w P.v (((x0 + i : Nat)) : Int) ((y0 + j : Nat) : Int)) rfl (by first | exact hS0 _ _ | exact hS1 _ _ | exact hS2 _ _ | exact hS3 _ _ | exact hS4 _ _ | exact hS5 _ _ | exact hS6 _ _ | exact hS7 _ _ | exact hS8 _ _ | exact hS9 _ _ | exact hS10 _ _ | exact hS11 _ _ | exact hS12 _ _ | exact hS13 _ _ | exact hS14 _ _ | exact hS15 _ _ | exact hS16 _ _ | exact hS17 _ _ | exact hS18 _ _ | exact hS19 _ _ | exact hS20 _ _ | exact hS21 _ _ | exact hS22 _ _ | exact hS23 _ _ | assumption | rfl) rfl (rfl) (by omega) ?_
                rw [show ((I, L, g_R s, 306) : pm_H).1 (p + 1) (cxy P.w P.v (((x0 + i : Nat)) : Int) ((y0 + j : Nat) : Int)) = F j i from by rw [hF]; exact (hP.2.2.2.2 _ cl).1]
                refine ps_ar rfl rfl rfl rfl rfl ?_
                refine ps_istore rfl rfl ?_
                refine ps_iinc rfl rfl ?_
                refine ps_goto rfl ?_
                rw [show nI (x0 + i) + Int32.ofInt 1 = nI ((x0 + i) + 1) from nI_1 (x0 + i)]
                have z := ihe (i + 1) (by omega)
                rw [suI_s, ← Int32.add_assoc] at z
                exact z
            refine ps_iload rfl rfl ?_
            refine ps_iload rfl rfl ?_
            refine ps_iload rfl rfl ?_
            refine ps_ar rfl rfl rfl rfl rfl ?_
            rw [nI_add]
            refine ps_icmpf rfl (decide_eq_false (nI_ge (by omega) (by omega))) ?_
            refine ps_iload rfl rfl ?_
            refine ps_istore rfl rfl ?_
            have z := inner w1 0 (by omega)
            rw [show suI (F j) 0 = 0 from rfl, Int32.add_zero] at z
            exact z
        refine ps_ift rfl (rfl) ?_
        refine pw_c rfl ?_
        refine ps_istore rfl rfl ?_
        refine ps_iload rfl rfl ?_
        refine ps_istore rfl rfl ?_
        exact outer h1 0 (by omega) _
      · rw [if_pos hxy] at ea
        rw [decide_eq_false hxy]
        refine ps_iff rfl (rfl) ?_
        exact bad ea _
    · refine ps_astoreN rfl rfl ?_
      refine ps_aloadN rfl rfl ?_
      refine ps_brr rfl rfl rfl rfl rfl rfl ?_
      exact bad (by unfold qWin; rw [if_neg (fun z => z hw), plN_n hn]) _
  by_cases c1 : w.toInt < 1
  · refine ps_iload rfl rfl ?_
    refine pw_c rfl ?_
    refine ps_icmpt rfl (decide_eq_true ((i_lt _ _).mpr (by omega))) ?_
    exact no (by omega)
  · by_cases c2 : 99 < w.toInt
    · refine ps_iload rfl rfl ?_
      refine pw_c rfl ?_
      refine ps_icmpf rfl (decide_eq_false (fun z => c1 (by have := (i_lt _ _).mp z; omega))) ?_
      refine ps_iload rfl rfl ?_
      refine pw_c rfl ?_
      refine ps_icmpt rfl (decide_eq_true ((i_lt _ _).mpr (by omega))) ?_
      exact no (by omega)
    · by_cases c3 : h.toInt < 1
      · refine ps_iload rfl rfl ?_
        refine pw_c rfl ?_
        refine ps_icmpf rfl (decide_eq_false (fun z => c1 (by have := (i_lt _ _).mp z; omega))) ?_
        refine ps_iload rfl rfl ?_
        refine pw_c rfl ?_
        refine ps_icmpf rfl (decide_eq_false (fun z => c2 (by have := (i_lt _ _).mp z; omega))) ?_
        refine ps_iload rfl rfl ?_
        refine pw_c rfl ?_
        refine ps_icmpt rfl (decide_eq_true ((i_lt _ _).mpr (by omega))) ?_
        exact no (by omega)
      · by_cases c4 : 99 < h.toInt
        · refine ps_iload rfl rfl ?_
          refine pw_c rfl ?_
          refine ps_icmpf rfl (decide_eq_false (fun z => c1 (by have := (i_lt _ _).mp z; omega))) ?_
          refine ps_iload rfl rfl ?_
          refine pw_c rfl ?_
          refine ps_icmpf rfl (decide_eq_false (fun z => c2 (by have := (i_lt _ _).mp z; omega))) ?_
          refine ps_iload rfl rfl ?_
          refine pw_c rfl ?_
          refine ps_icmpf rfl (decide_eq_false (fun z => c3 (by have := (i_lt _ _).mp z; omega))) ?_
          refine ps_iload rfl rfl ?_
          refine pw_c rfl ?_
          refine ps_icmpf rfl (decide_eq_false (fun z => by have := (i_le _ _).mp z; omega)) ?_
          exact no (by omega)
        · refine ps_iload rfl rfl ?_
          refine pw_c rfl ?_
          refine ps_icmpf rfl (decide_eq_false (fun z => c1 (by have := (i_lt _ _).mp z; omega))) ?_
          refine ps_iload rfl rfl ?_
          refine pw_c rfl ?_
          refine ps_icmpf rfl (decide_eq_false (fun z => c2 (by have := (i_lt _ _).mp z; omega))) ?_
          refine ps_iload rfl rfl ?_
          refine pw_c rfl ?_
          refine ps_icmpf rfl (decide_eq_false (fun z => c3 (by have := (i_lt _ _).mp z; omega))) ?_
          refine ps_iload rfl rfl ?_
          refine pw_c rfl ?_
          refine ps_icmpt rfl (decide_eq_true ((i_le _ _).mpr (by omega))) ?_
          exact go (by omega)
end TD
