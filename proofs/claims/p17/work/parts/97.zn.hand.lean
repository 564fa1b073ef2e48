/-! BY HAND: the scene's calls as functions; the class's first ones -/
section SD
def sS.add (S : sS) (q : Nat) (x y z : Int32) : sS := (fun r => if r = q then S.n r + 1 else S.n r, fun r k j => if r = q ∧ k = S.n r then (if j = 0 then x else if j = 1 then y else z) else S.sc r k j, S.bk, S.us)
def sS.out (S : sS) (q k : Nat) : sS := (fun r => if r = q then S.n r - 1 else S.n r, fun r i j => if r = q ∧ k ≤ i then S.sc r (i + 1) j else S.sc r i j, S.bk, S.us)
def md100 (x : Int32) : Int32 := x - x / 100 * 100
def sS.slide (S : sS) (a b : Int32) : sS := (S.n, fun r i j => if r = 0 ∧ j = 0 then md100 (S.sc 0 i 0 + a) else if r = 0 ∧ j = 1 then md100 (S.sc 0 i 1 + b) else S.sc r i j, S.bk, S.us)
def sS.light (S : sS) (v : Int32) : sS := (S.n, S.sc, v, S.us)
def sS.use (S : sS) (v : Int32) : sS := (S.n, S.sc, S.bk, v)
theorem adT_S {B : sB} {q : Nat} {x y z : Int32} : (B.adT q x y z).S = B.S.add q x y z := rfl
/-- a refused call's STATUS; or an answer -/
def aMany (S : sS) (ps m : Nat) (w : Int32) : Except Int32 Int32 := if ¬ (0 ≤ w.toInt ∧ w.toInt ≤ 6) then .error 1 else if w = 0 then .ok (nI ps) else if w = 4 then .ok S.bk else if w = 5 then (if ps = 0 then .error 5 else .ok S.us) else if w = 6 then .ok (nI m) else .ok (nI (S.n (w.toInt.toNat - 1)))
def aThing (S : sS) (kd k w : Int32) : Except Int32 Int32 := if ¬ ((0 ≤ kd.toInt ∧ kd.toInt ≤ 2) ∧ 0 ≤ w.toInt ∧ w.toInt ≤ (if kd.toInt = 1 then 1 else 2)) then .error 1 else if ¬ (0 ≤ k.toInt ∧ k.toInt < S.n kd.toInt.toNat) then .error 2 else .ok (S.sc kd.toInt.toNat k.toInt.toNat w.toInt.toNat)
/-- a refused ACT's STATUS; or an answer and the scene as it is then -/
def aAdd (S : sS) (kd x y c : Int32) : Except Int32 (Int32 × sS) := if ¬ ((kd = 0 ∨ kd = 2) ∧ plcB x y ∧ 1 ≤ c.toInt ∧ c.toInt ≤ 999) then .error 1 else if S.n kd.toInt.toNat = 8 then .error 3 else .ok (nI (S.n kd.toInt.toNat), S.add kd.toInt.toNat x y c)
def aOut (S : sS) (q : Nat) (k : Int32) : Except Int32 (Int32 × sS) := if ¬ (0 ≤ k.toInt ∧ k.toInt < S.n q) then .error 2 else .ok (nI (S.n q - 1), S.out q k.toInt.toNat)
def aDrop (S : sS) (kd k : Int32) : Except Int32 (Int32 × sS) := if ¬ (kd = 0 ∨ kd = 2) then .error 1 else aOut S kd.toInt.toNat k
def tldB (S : sS) (x y : Int32) : Bool := (List.range (S.n 1)).any fun k => decide (S.sc 1 k 0 = x ∧ S.sc 1 k 1 = y)
def aLose (S : sS) (x y : Int32) : Except Int32 (Int32 × sS) := if ¬ plcB x y then .error 1 else if S.n 1 = 12 then .error 3 else if tldB S x y = true then .error 4 else .ok (nI (S.n 1 + 1), S.add 1 x y 0)
def aLight (S : sS) (v : Int32) : Except Int32 (Int32 × sS) := if ¬ (0 ≤ v.toInt ∧ v.toInt ≤ 99) then .error 1 else if S.bk = v then .error 4 else .ok (S.bk, S.light v)
def aUse (S : sS) (ps : Nat) (k : Int32) : Except Int32 (Int32 × sS) := if ¬ (0 ≤ k.toInt ∧ k.toInt < ps) then .error 2 else if S.us = k then .error 4 else .ok (S.us, S.use k)
def aSlide (S : sS) (a b : Int32) : Except Int32 (Int32 × sS) := if ¬ plcB a b then .error 1 else if a = 0 ∧ b = 0 then .error 4 else if S.n 0 = 0 then .error 5 else .ok (nI (S.n 0), S.slide a b)
theorem tld_y {S : sS} {x y : Int32} (h : ∃ k, k < S.n 1 ∧ S.sc 1 k 0 = x ∧ S.sc 1 k 1 = y) : tldB S x y = true := by
  obtain ⟨k, hk, h1, h2⟩ := h
  exact List.any_eq_true.mpr ⟨k, List.mem_range.mpr hk, decide_eq_true ⟨h1, h2⟩⟩
theorem tld_n {S : sS} {x y : Int32} (h : ∀ k, k < S.n 1 → ¬ (S.sc 1 k 0 = x ∧ S.sc 1 k 1 = y)) : ¬ tldB S x y = true := by
  intro z
  obtain ⟨k, hk, h1⟩ := List.any_eq_true.mp z
  exact h k (List.mem_range.mp hk) (of_decide_eq_true h1)
theorem add_ok {S : sS} {q : Nat} {x y z : Int32} (ok : S.ok) (lt : S.n q < mst q) : (S.add q x y z).ok := by
  intro r hr
  show (if r = q then S.n r + 1 else S.n r) ≤ mst r
  have := ok r hr
  split
  · rename_i e
    rw [e]
    omega
  · exact this
theorem out_ok {S : sS} {q k : Nat} (ok : S.ok) : (S.out q k).ok := by
  intro r hr
  show (if r = q then S.n r - 1 else S.n r) ≤ mst r
  have := ok r hr
  split <;> omega
theorem aAdd_ok {S S' : sS} {kd x y c r : Int32} (ok : S.ok) (h : aAdd S kd x y c = .ok (r, S')) : S'.ok ∧ S'.us = S.us := by
  unfold aAdd at h
  split at h
  · cases h
  · rename_i h1
    split at h
    · cases h
    · rename_i h2
      cases h
      refine ⟨add_ok ok ?_, rfl⟩
      have h1 := Classical.not_not.mp h1
      rcases h1.1 with rfl | rfl
      · have := ok 0 (by omega)
        have h2 : ¬ S.n 0 = 8 := h2
        show S.n 0 < 8
        have : S.n 0 ≤ 8 := this
        omega
      · have := ok 2 (by omega)
        have h2 : ¬ S.n 2 = 8 := h2
        show S.n 2 < 8
        have : S.n 2 ≤ 8 := this
        omega
theorem aOut_ok {S S' : sS} {q : Nat} {k r : Int32} (ok : S.ok) (h : aOut S q k = .ok (r, S')) : S'.ok ∧ S'.us = S.us := by
  unfold aOut at h
  split at h
  · cases h
  · cases h
    exact ⟨out_ok ok, rfl⟩
theorem aDrop_ok {S S' : sS} {kd k r : Int32} (ok : S.ok) (h : aDrop S kd k = .ok (r, S')) : S'.ok ∧ S'.us = S.us := by
  unfold aDrop at h
  split at h
  · cases h
  · exact aOut_ok ok h
theorem aLose_ok {S S' : sS} {x y r : Int32} (ok : S.ok) (h : aLose S x y = .ok (r, S')) : S'.ok ∧ S'.us = S.us := by
  unfold aLose at h
  split at h
  · cases h
  · split at h
    · cases h
    · rename_i h2
      split at h
      · cases h
      · cases h
        refine ⟨add_ok ok ?_, rfl⟩
        have := ok 1 (by omega)
        show S.n 1 < 12
        have : S.n 1 ≤ 12 := this
        omega
theorem aLight_ok {S S' : sS} {v r : Int32} (ok : S.ok) (h : aLight S v = .ok (r, S')) : S'.ok ∧ S'.us = S.us := by
  unfold aLight at h
  split at h
  · cases h
  · split at h
    · cases h
    · cases h
      exact ⟨ok, rfl⟩
theorem aUse_ok {S S' : sS} {ps : Nat} {k r : Int32} (ok : S.ok) (h : aUse S ps k = .ok (r, S')) : S'.ok ∧ S'.us = nI k.toInt.toNat ∧ k.toInt.toNat < ps := by
  unfold aUse at h
  split at h
  · cases h
  · rename_i h1
    have h1 := Classical.not_not.mp h1
    split at h
    · cases h
    · cases h
      exact ⟨ok, nI_oz rfl h1.1, by omega⟩
theorem aSlide_ok {S S' : sS} {a b r : Int32} (ok : S.ok) (h : aSlide S a b = .ok (r, S')) : S'.ok ∧ S'.us = S.us := by
  unfold aSlide at h
  split at h
  · cases h
  · split at h
    · cases h
    · split at h
      · cases h
      · cases h
        exact ⟨ok, rfl⟩
variable {I I' J : Nat → Nat → Int32} {L : Nat → Nat → Int64} {s : Nat → Option Nat} {Q : List Value → pm_H → Prop} {ys : List Int32} {ps m b f : Nat} {S : sS} {H : Nat → sS}
/-- where the class's ACTS write -/
def fsB (b : Nat) (I I' : Nat → Nat → Int32) : Prop := ∀ a j : Nat, ¬ (a = 0 ∧ j = 10) → ¬ (12 ≤ a ∧ a ≤ 169) → ¬ (a = 255 ∧ j = 15) → ¬ (b + 2 ≤ a ∧ a ≤ b + 14) → I' a j = I a j
/-- the class behind an ACT -/
def aftB (b : Nat) (S' : sS) (H' : Nat → sS) (m' : Nat) (I I' : Nat → Nat → Int32) : Prop := fsB b I I' ∧ I' 0 10 = 0 ∧ I' 255 15 = 0 ∧ cSc (b + 2) S' I' ∧ ∃ f', cHs H' m' f' I'
theorem B_many6 (hb : isB b) (h0 : s 0 = some b) (hP : I b 3 = nI ps) (p6 : ps ≤ 6) (hH : cHs H m f I) (h : cSc (b + 2) S I) (w : Int32) (kE : ∀ e, aMany S ps m w = .error e → Q [.int (-1)] (pm_u I 0 10 e, L, g_R s, 306)) (kO : ∀ r, aMany S ps m w = .ok r → Q [.int r] (pm_u I 0 10 0, L, g_R s, 306)) : pm_W (g_P ys) 82 0 [.ref 0, .int w] [] (I, L, g_R s, 306) (0, 0) Q := by
  obtain ⟨hS0, hS1, hS2, hS3, hS4, hR0, hR1, hR2, hR3, hR4, hR5, hR6, hR7⟩ := bn_F (ys := ys) (s := s) hb
  have hS5 := (mm_F (ys := ys) (s := s) (isM_of (isE_b hb) (q := 0) (by omega))).1
  have hS6 := (mm_F (ys := ys) (s := s) (isM_of (isE_b hb) (q := 1) (by omega))).1
  have hS7 := (mm_F (ys := ys) (s := s) (isM_of (isE_b hb) (q := 2) (by omega))).1
  obtain ⟨h1, h2, h3, h4⟩ := h
  have e0 : (0 : Int32).toInt = 0 := rfl
  have e6 : (6 : Int32).toInt = 6 := rfl
  have no : ¬ (0 ≤ w.toInt ∧ w.toInt ≤ 6) → pm_W (g_P ys) 82 10 [.ref 0, .int w] [] (I, L, g_R s, 306) (0, 0) Q := by
    intro z
    refine ps_aload rfl rfl ?_
    refine pw_c rfl ?_
    refine pw_k rfl rfl rfl rfl ⟨Nat.zero_le _, Nat.zero_le _⟩ ?_
    refine B_refuse ?_
    refine ps_iret rfl rfl ?_
    exact kE 1 (by unfold aMany; rw [if_pos z])
  by_cases hw1 : w.toInt < 0
  · refine ps_iload rfl rfl ?_
    refine ps_ift rfl (decide_eq_true ((i_lt _ _).mpr (by omega))) ?_
    exact no (by omega)
  · by_cases hw2 : 6 < w.toInt
    · refine ps_iload rfl rfl ?_
      refine ps_iff rfl (decide_eq_false (fun z => hw1 (by have := (i_lt _ _).mp z; omega))) ?_
      refine ps_iload rfl rfl ?_
      refine pw_c rfl ?_
      refine ps_icmpf rfl (decide_eq_false (fun z => by have := (i_le _ _).mp z; omega)) ?_
      exact no (by omega)
    · refine ps_iload rfl rfl ?_
      refine ps_iff rfl (decide_eq_false (fun z => hw1 (by have := (i_lt _ _).mp z; omega))) ?_
      refine ps_iload rfl rfl ?_
      refine pw_c rfl ?_
      refine ps_icmpt rfl (decide_eq_true ((i_le _ _).mpr (by omega))) ?_
      refine ps_iload rfl rfl ?_
      have ew : ∀ y : Int32, w.toInt = y.toInt → w = y := fun y q => (i_eq _ _).mpr q
      rcases (show w.toInt = 0 ∨ w.toInt = 1 ∨ w.toInt = 2 ∨ w.toInt = 3 ∨ w.toInt = 4 ∨ w.toInt = 5 ∨ w.toInt = 6 by omega) with q | q | q | q | q | q | q
      · have q := ew 0 q
        subst q
        refine ps_brr rfl rfl rfl rfl rfl rfl ?_
        refine ps_aload rfl rfl ?_
        refine ps_aload rfl rfl ?_
        refine ps_gfr 0 6 rfl rfl rfl (by first | exact hS0 _ _ | exact hS1 _ _ | exact hS2 _ _ | exact hS3 _ _ | exact hS4 _ _ | exact hS5 _ _ | exact hS6 _ _ | exact hS7 _ _ | exact hS8 _ _ | exact hS9 _ _ | exact hS10 _ _ | exact hS11 _ _ | exact hS12 _ _ | exact hS13 _ _ | assumption | rfl) rfl ( h0) ?_
        refine ps_gfi 8 3 rfl rfl rfl (by first | exact hS0 _ _ | exact hS1 _ _ | exact hS2 _ _ | exact hS3 _ _ | exact hS4 _ _ | exact hS5 _ _ | exact hS6 _ _ | exact hS7 _ _ | exact hS8 _ _ | exact hS9 _ _ | exact hS10 _ _ | exact hS11 _ _ | exact hS12 _ _ | exact hS13 _ _ | assumption | rfl) rfl ?_
        rw [show ((I, L, g_R s, 306) : pm_H).1 b 3 = nI ps from hP]
        refine pv_k rfl rfl rfl rfl rfl (by first | exact hS0 _ _ | exact hS1 _ _ | exact hS2 _ _ | exact hS3 _ _ | exact hS4 _ _ | exact hS5 _ _ | exact hS6 _ _ | exact hS7 _ _ | exact hS8 _ _ | exact hS9 _ _ | exact hS10 _ _ | exact hS11 _ _ | exact hS12 _ _ | exact hS13 _ _ | assumption | rfl) rfl ⟨Nat.zero_le _, Nat.zero_le _⟩ ?_
        refine B_answer ?_
        refine ps_iret rfl rfl ?_
        exact kO _ rfl
      · have q := ew 1 q
        subst q
        refine ps_brr rfl rfl rfl rfl rfl rfl ?_
        refine ps_aload rfl rfl ?_
        refine ps_aload rfl rfl ?_
        refine ps_gfr 0 6 rfl rfl rfl (by first | exact hS0 _ _ | exact hS1 _ _ | exact hS2 _ _ | exact hS3 _ _ | exact hS4 _ _ | exact hS5 _ _ | exact hS6 _ _ | exact hS7 _ _ | exact hS8 _ _ | exact hS9 _ _ | exact hS10 _ _ | exact hS11 _ _ | exact hS12 _ _ | exact hS13 _ _ | assumption | rfl) rfl ( h0) ?_
        refine ps_gfr 8 1 rfl rfl rfl (by first | exact hS0 _ _ | exact hS1 _ _ | exact hS2 _ _ | exact hS3 _ _ | exact hS4 _ _ | exact hS5 _ _ | exact hS6 _ _ | exact hS7 _ _ | exact hS8 _ _ | exact hS9 _ _ | exact hS10 _ _ | exact hS11 _ _ | exact hS12 _ _ | exact hS13 _ _ | assumption | rfl) rfl (by first | assumption | rfl) ?_
        refine ps_gfr 5 0 rfl rfl rfl (by first | exact hS0 _ _ | exact hS1 _ _ | exact hS2 _ _ | exact hS3 _ _ | exact hS4 _ _ | exact hS5 _ _ | exact hS6 _ _ | exact hS7 _ _ | exact hS8 _ _ | exact hS9 _ _ | exact hS10 _ _ | exact hS11 _ _ | exact hS12 _ _ | exact hS13 _ _ | assumption | rfl) rfl (by first | assumption | rfl) ?_
        refine ps_gfi 6 3 rfl rfl rfl (by first | exact hS0 _ _ | exact hS1 _ _ | exact hS2 _ _ | exact hS3 _ _ | exact hS4 _ _ | exact hS5 _ _ | exact hS6 _ _ | exact hS7 _ _ | exact hS8 _ _ | exact hS9 _ _ | exact hS10 _ _ | exact hS11 _ _ | exact hS12 _ _ | exact hS13 _ _ | assumption | rfl) rfl ?_
        rw [show ((I, L, g_R s, 306) : pm_H).1 (b + 2 + 1 + 4 * 0) 3 = nI (S.n 0) from h1 0 (by omega)]
        refine pv_k rfl rfl rfl rfl rfl (by first | exact hS0 _ _ | exact hS1 _ _ | exact hS2 _ _ | exact hS3 _ _ | exact hS4 _ _ | exact hS5 _ _ | exact hS6 _ _ | exact hS7 _ _ | exact hS8 _ _ | exact hS9 _ _ | exact hS10 _ _ | exact hS11 _ _ | exact hS12 _ _ | exact hS13 _ _ | assumption | rfl) rfl ⟨Nat.zero_le _, Nat.zero_le _⟩ ?_
        refine B_answer ?_
        refine ps_iret rfl rfl ?_
        exact kO _ rfl
      · have q := ew 2 q
        subst q
        refine ps_brr rfl rfl rfl rfl rfl rfl ?_
        refine ps_aload rfl rfl ?_
        refine ps_aload rfl rfl ?_
        refine ps_gfr 0 6 rfl rfl rfl (by first | exact hS0 _ _ | exact hS1 _ _ | exact hS2 _ _ | exact hS3 _ _ | exact hS4 _ _ | exact hS5 _ _ | exact hS6 _ _ | exact hS7 _ _ | exact hS8 _ _ | exact hS9 _ _ | exact hS10 _ _ | exact hS11 _ _ | exact hS12 _ _ | exact hS13 _ _ | assumption | rfl) rfl ( h0) ?_
        refine ps_gfr 8 1 rfl rfl rfl (by first | exact hS0 _ _ | exact hS1 _ _ | exact hS2 _ _ | exact hS3 _ _ | exact hS4 _ _ | exact hS5 _ _ | exact hS6 _ _ | exact hS7 _ _ | exact hS8 _ _ | exact hS9 _ _ | exact hS10 _ _ | exact hS11 _ _ | exact hS12 _ _ | exact hS13 _ _ | assumption | rfl) rfl (by first | assumption | rfl) ?_
        refine ps_gfr 5 1 rfl rfl rfl (by first | exact hS0 _ _ | exact hS1 _ _ | exact hS2 _ _ | exact hS3 _ _ | exact hS4 _ _ | exact hS5 _ _ | exact hS6 _ _ | exact hS7 _ _ | exact hS8 _ _ | exact hS9 _ _ | exact hS10 _ _ | exact hS11 _ _ | exact hS12 _ _ | exact hS13 _ _ | assumption | rfl) rfl (by first | assumption | rfl) ?_
        refine ps_gfi 6 3 rfl rfl rfl (by first | exact hS0 _ _ | exact hS1 _ _ | exact hS2 _ _ | exact hS3 _ _ | exact hS4 _ _ | exact hS5 _ _ | exact hS6 _ _ | exact hS7 _ _ | exact hS8 _ _ | exact hS9 _ _ | exact hS10 _ _ | exact hS11 _ _ | exact hS12 _ _ | exact hS13 _ _ | assumption | rfl) rfl ?_
        rw [show ((I, L, g_R s, 306) : pm_H).1 (b + 2 + 1 + 4 * 1) 3 = nI (S.n 1) from h1 1 (by omega)]
        refine pv_k rfl rfl rfl rfl rfl (by first | exact hS0 _ _ | exact hS1 _ _ | exact hS2 _ _ | exact hS3 _ _ | exact hS4 _ _ | exact hS5 _ _ | exact hS6 _ _ | exact hS7 _ _ | exact hS8 _ _ | exact hS9 _ _ | exact hS10 _ _ | exact hS11 _ _ | exact hS12 _ _ | exact hS13 _ _ | assumption | rfl) rfl ⟨Nat.zero_le _, Nat.zero_le _⟩ ?_
        refine B_answer ?_
        refine ps_iret rfl rfl ?_
        exact kO _ rfl
      · have q := ew 3 q
        subst q
        refine ps_brr rfl rfl rfl rfl rfl rfl ?_
        refine ps_aload rfl rfl ?_
        refine ps_aload rfl rfl ?_
        refine ps_gfr 0 6 rfl rfl rfl (by first | exact hS0 _ _ | exact hS1 _ _ | exact hS2 _ _ | exact hS3 _ _ | exact hS4 _ _ | exact hS5 _ _ | exact hS6 _ _ | exact hS7 _ _ | exact hS8 _ _ | exact hS9 _ _ | exact hS10 _ _ | exact hS11 _ _ | exact hS12 _ _ | exact hS13 _ _ | assumption | rfl) rfl ( h0) ?_
        refine ps_gfr 8 1 rfl rfl rfl (by first | exact hS0 _ _ | exact hS1 _ _ | exact hS2 _ _ | exact hS3 _ _ | exact hS4 _ _ | exact hS5 _ _ | exact hS6 _ _ | exact hS7 _ _ | exact hS8 _ _ | exact hS9 _ _ | exact hS10 _ _ | exact hS11 _ _ | exact hS12 _ _ | exact hS13 _ _ | assumption | rfl) rfl (by first | assumption | rfl) ?_
        refine ps_gfr 5 2 rfl rfl rfl (by first | exact hS0 _ _ | exact hS1 _ _ | exact hS2 _ _ | exact hS3 _ _ | exact hS4 _ _ | exact hS5 _ _ | exact hS6 _ _ | exact hS7 _ _ | exact hS8 _ _ | exact hS9 _ _ | exact hS10 _ _ | exact hS11 _ _ | exact hS12 _ _ | exact hS13 _ _ | assumption | rfl) rfl (by first | assumption | rfl) ?_
        refine ps_gfi 6 3 rfl rfl rfl (by first | exact hS0 _ _ | exact hS1 _ _ | exact hS2 _ _ | exact hS3 _ _ | exact hS4 _ _ | exact hS5 _ _ | exact hS6 _ _ | exact hS7 _ _ | exact hS8 _ _ | exact hS9 _ _ | exact hS10 _ _ | exact hS11 _ _ | exact hS12 _ _ | exact hS13 _ _ | assumption | rfl) rfl ?_
        rw [show ((I, L, g_R s, 306) : pm_H).1 (b + 2 + 1 + 4 * 2) 3 = nI (S.n 2) from h1 2 (by omega)]
        refine pv_k rfl rfl rfl rfl rfl (by first | exact hS0 _ _ | exact hS1 _ _ | exact hS2 _ _ | exact hS3 _ _ | exact hS4 _ _ | exact hS5 _ _ | exact hS6 _ _ | exact hS7 _ _ | exact hS8 _ _ | exact hS9 _ _ | exact hS10 _ _ | exact hS11 _ _ | exact hS12 _ _ | exact hS13 _ _ | assumption | rfl) rfl ⟨Nat.zero_le _, Nat.zero_le _⟩ ?_
        refine B_answer ?_
        refine ps_iret rfl rfl ?_
        exact kO _ rfl
      · have q := ew 4 q
        subst q
        refine ps_brr rfl rfl rfl rfl rfl rfl ?_
        refine ps_aload rfl rfl ?_
        refine ps_aload rfl rfl ?_
        refine ps_gfr 0 6 rfl rfl rfl (by first | exact hS0 _ _ | exact hS1 _ _ | exact hS2 _ _ | exact hS3 _ _ | exact hS4 _ _ | exact hS5 _ _ | exact hS6 _ _ | exact hS7 _ _ | exact hS8 _ _ | exact hS9 _ _ | exact hS10 _ _ | exact hS11 _ _ | exact hS12 _ _ | exact hS13 _ _ | assumption | rfl) rfl ( h0) ?_
        refine ps_gfr 8 1 rfl rfl rfl (by first | exact hS0 _ _ | exact hS1 _ _ | exact hS2 _ _ | exact hS3 _ _ | exact hS4 _ _ | exact hS5 _ _ | exact hS6 _ _ | exact hS7 _ _ | exact hS8 _ _ | exact hS9 _ _ | exact hS10 _ _ | exact hS11 _ _ | exact hS12 _ _ | exact hS13 _ _ | assumption | rfl) rfl (by first | assumption | rfl) ?_
        refine ps_gfi 5 3 rfl rfl rfl (by first | exact hS0 _ _ | exact hS1 _ _ | exact hS2 _ _ | exact hS3 _ _ | exact hS4 _ _ | exact hS5 _ _ | exact hS6 _ _ | exact hS7 _ _ | exact hS8 _ _ | exact hS9 _ _ | exact hS10 _ _ | exact hS11 _ _ | exact hS12 _ _ | exact hS13 _ _ | assumption | rfl) rfl ?_
        rw [show ((I, L, g_R s, 306) : pm_H).1 (b + 2) 3 = S.bk from h2]
        refine pv_k rfl rfl rfl rfl rfl (by first | exact hS0 _ _ | exact hS1 _ _ | exact hS2 _ _ | exact hS3 _ _ | exact hS4 _ _ | exact hS5 _ _ | exact hS6 _ _ | exact hS7 _ _ | exact hS8 _ _ | exact hS9 _ _ | exact hS10 _ _ | exact hS11 _ _ | exact hS12 _ _ | exact hS13 _ _ | assumption | rfl) rfl ⟨Nat.zero_le _, Nat.zero_le _⟩ ?_
        refine B_answer ?_
        refine ps_iret rfl rfl ?_
        exact kO _ rfl
      · have q := ew 5 q
        subst q
        refine ps_brr rfl rfl rfl rfl rfl rfl ?_
        refine ps_aload rfl rfl ?_
        refine ps_gfr 0 6 rfl rfl rfl (by first | exact hS0 _ _ | exact hS1 _ _ | exact hS2 _ _ | exact hS3 _ _ | exact hS4 _ _ | exact hS5 _ _ | exact hS6 _ _ | exact hS7 _ _ | exact hS8 _ _ | exact hS9 _ _ | exact hS10 _ _ | exact hS11 _ _ | exact hS12 _ _ | exact hS13 _ _ | assumption | rfl) rfl ( h0) ?_
        refine ps_gfi 8 3 rfl rfl rfl (by first | exact hS0 _ _ | exact hS1 _ _ | exact hS2 _ _ | exact hS3 _ _ | exact hS4 _ _ | exact hS5 _ _ | exact hS6 _ _ | exact hS7 _ _ | exact hS8 _ _ | exact hS9 _ _ | exact hS10 _ _ | exact hS11 _ _ | exact hS12 _ _ | exact hS13 _ _ | assumption | rfl) rfl ?_
        rw [show ((I, L, g_R s, 306) : pm_H).1 b 3 = nI ps from hP]
        have ea : aMany S ps m 5 = if ps = 0 then .error 5 else .ok S.us := rfl
        by_cases hp : ps = 0
        · rw [if_pos hp] at ea
          refine ps_iff rfl (decide_eq_false (fun z => z (by rw [hp]; rfl))) ?_
          refine ps_aload rfl rfl ?_
          refine pw_c rfl ?_
          refine pv_k rfl rfl rfl rfl rfl (by first | exact hS0 _ _ | exact hS1 _ _ | exact hS2 _ _ | exact hS3 _ _ | exact hS4 _ _ | exact hS5 _ _ | exact hS6 _ _ | exact hS7 _ _ | exact hS8 _ _ | exact hS9 _ _ | exact hS10 _ _ | exact hS11 _ _ | exact hS12 _ _ | exact hS13 _ _ | assumption | rfl) rfl ⟨Nat.zero_le _, Nat.zero_le _⟩ ?_
          refine B_refuse ?_
          refine ps_goto rfl ?_
          refine ps_iret rfl rfl ?_
          exact kE _ ea
        · rw [if_neg hp] at ea
          refine ps_ift rfl (decide_eq_true (nI_nz (by omega) (by omega))) ?_
          refine ps_aload rfl rfl ?_
          refine ps_aload rfl rfl ?_
          refine ps_gfr 0 6 rfl rfl rfl (by first | exact hS0 _ _ | exact hS1 _ _ | exact hS2 _ _ | exact hS3 _ _ | exact hS4 _ _ | exact hS5 _ _ | exact hS6 _ _ | exact hS7 _ _ | exact hS8 _ _ | exact hS9 _ _ | exact hS10 _ _ | exact hS11 _ _ | exact hS12 _ _ | exact hS13 _ _ | assumption | rfl) rfl ( h0) ?_
          refine ps_gfr 8 1 rfl rfl rfl (by first | exact hS0 _ _ | exact hS1 _ _ | exact hS2 _ _ | exact hS3 _ _ | exact hS4 _ _ | exact hS5 _ _ | exact hS6 _ _ | exact hS7 _ _ | exact hS8 _ _ | exact hS9 _ _ | exact hS10 _ _ | exact hS11 _ _ | exact hS12 _ _ | exact hS13 _ _ | assumption | rfl) rfl (by first | assumption | rfl) ?_
          refine ps_gfi 5 4 rfl rfl rfl (by first | exact hS0 _ _ | exact hS1 _ _ | exact hS2 _ _ | exact hS3 _ _ | exact hS4 _ _ | exact hS5 _ _ | exact hS6 _ _ | exact hS7 _ _ | exact hS8 _ _ | exact hS9 _ _ | exact hS10 _ _ | exact hS11 _ _ | exact hS12 _ _ | exact hS13 _ _ | assumption | rfl) rfl ?_
          rw [show ((I, L, g_R s, 306) : pm_H).1 (b + 2) 4 = S.us from h3]
          refine pv_k rfl rfl rfl rfl rfl (by first | exact hS0 _ _ | exact hS1 _ _ | exact hS2 _ _ | exact hS3 _ _ | exact hS4 _ _ | exact hS5 _ _ | exact hS6 _ _ | exact hS7 _ _ | exact hS8 _ _ | exact hS9 _ _ | exact hS10 _ _ | exact hS11 _ _ | exact hS12 _ _ | exact hS13 _ _ | assumption | rfl) rfl ⟨Nat.zero_le _, Nat.zero_le _⟩ ?_
          refine B_answer ?_
          refine ps_iret rfl rfl ?_
          exact kO _ ea
      · have q := ew 6 q
        subst q
        refine ps_brr rfl rfl rfl rfl rfl rfl ?_
        refine ps_aload rfl rfl ?_
        refine ps_aload rfl rfl ?_
        refine ps_gfr 0 3 rfl rfl rfl (by first | exact hS0 _ _ | exact hS1 _ _ | exact hS2 _ _ | exact hS3 _ _ | exact hS4 _ _ | exact hS5 _ _ | exact hS6 _ _ | exact hS7 _ _ | exact hS8 _ _ | exact hS9 _ _ | exact hS10 _ _ | exact hS11 _ _ | exact hS12 _ _ | exact hS13 _ _ | assumption | rfl) rfl ( rfl) ?_
        refine ps_gfi 4 2 rfl rfl rfl (by first | exact hS0 _ _ | exact hS1 _ _ | exact hS2 _ _ | exact hS3 _ _ | exact hS4 _ _ | exact hS5 _ _ | exact hS6 _ _ | exact hS7 _ _ | exact hS8 _ _ | exact hS9 _ _ | exact hS10 _ _ | exact hS11 _ _ | exact hS12 _ _ | exact hS13 _ _ | assumption | rfl) rfl ?_
        rw [show ((I, L, g_R s, 306) : pm_H).1 12 2 = nI m from hH.2.2.2.1]
        refine pv_k rfl rfl rfl rfl rfl (by first | exact hS0 _ _ | exact hS1 _ _ | exact hS2 _ _ | exact hS3 _ _ | exact hS4 _ _ | exact hS5 _ _ | exact hS6 _ _ | exact hS7 _ _ | exact hS8 _ _ | exact hS9 _ _ | exact hS10 _ _ | exact hS11 _ _ | exact hS12 _ _ | exact hS13 _ _ | assumption | rfl) rfl ⟨Nat.zero_le _, Nat.zero_le _⟩ ?_
        refine B_answer ?_
        refine ps_iret rfl rfl ?_
        exact kO _ rfl
theorem B_thing6 (hb : isB b) (h0 : s 0 = some b) (h : cSc (b + 2) S I) (ok : S.ok) (kd k w : Int32) (kE : ∀ e, aThing S kd k w = .error e → Q [.int (-1)] (pm_u I 0 10 e, L, g_R s, 306)) (kO : ∀ r, aThing S kd k w = .ok r → Q [.int r] (pm_u I 0 10 0, L, g_R s, 306)) : pm_W (g_P ys) 98 0 [.ref 0, .int kd, .int k, .int w, .retAddr 0] [] (I, L, g_R s, 306) (0, 0) Q := by
  obtain ⟨hS0, hS1, hS2, hS3, hS4, hR0, hR1, hR2, hR3, hR4, hR5, hR6, hR7⟩ := bn_F (ys := ys) (s := s) hb
  obtain ⟨h1, h2, h3, h4⟩ := h
  have e0 : (0 : Int32).toInt = 0 := rfl
  have e1 : (1 : Int32).toInt = 1 := rfl
  have e2 : (2 : Int32).toInt = 2 := rfl
  have no : ∀ v, ¬ ((0 ≤ kd.toInt ∧ kd.toInt ≤ 2) ∧ 0 ≤ w.toInt ∧ w.toInt ≤ (if kd.toInt = 1 then 1 else 2)) → pm_W (g_P ys) 98 37 [.ref 0, .int kd, .int k, .int w, v] [] (I, L, g_R s, 306) (0, 0) Q := by
    intro v z
    refine ps_aload rfl rfl ?_
    refine pw_c rfl ?_
    refine pw_k rfl rfl rfl rfl ⟨Nat.zero_le _, Nat.zero_le _⟩ ?_
    refine B_refuse ?_
    refine ps_iret rfl rfl ?_
    exact kE 1 (by unfold aThing; rw [if_pos z])
  refine ps_aload rfl rfl ?_
  refine ps_gfr 0 6 rfl rfl rfl (by first | exact hS0 _ _ | exact hS1 _ _ | exact hS2 _ _ | exact hS3 _ _ | exact hS4 _ _ | exact hS5 _ _ | exact hS6 _ _ | exact hS7 _ _ | exact hS8 _ _ | exact hS9 _ _ | exact hS10 _ _ | exact hS11 _ _ | exact hS12 _ _ | exact hS13 _ _ | assumption | rfl) rfl ( h0) ?_
  refine ps_gfr 8 1 rfl rfl rfl (by first | exact hS0 _ _ | exact hS1 _ _ | exact hS2 _ _ | exact hS3 _ _ | exact hS4 _ _ | exact hS5 _ _ | exact hS6 _ _ | exact hS7 _ _ | exact hS8 _ _ | exact hS9 _ _ | exact hS10 _ _ | exact hS11 _ _ | exact hS12 _ _ | exact hS13 _ _ | assumption | rfl) rfl (by first | assumption | rfl) ?_
  refine ps_iload rfl rfl ?_
  refine pv_k rfl rfl rfl rfl rfl (hS2 _ _) rfl ⟨Nat.zero_le _, Nat.zero_le _⟩ ?_
  by_cases hk : 0 ≤ kd.toInt ∧ kd.toInt < 3
  · obtain ⟨q, hq⟩ : ∃ q, q = kd.toInt.toNat := ⟨_, rfl⟩
    have q3 : q < 3 := by omega
    have ekd := nI_oz hq hk.1
    subst ekd
    have tq : (nI q).toInt = q := nI_toInt (by omega)
    have tn : (nI q).toInt.toNat = q := by omega
    refine B_marksOfX (isE_b hb) q3 ?_
    have hm := isM_of (isE_b hb) q3
    obtain ⟨hS5, hS6, hS7, hS8, hR8, hR9, hR10, l12⟩ := mm_F (ys := ys) (s := s) hm
    have nb : Nat.blt (mst q) 2147483648 = true := Nat.blt_eq.mpr (by omega)
    refine ps_astore rfl rfl ?_
    refine ps_aload rfl rfl ?_
    refine ps_brr rfl rfl rfl rfl rfl rfl ?_
    by_cases hw1 : w.toInt < 0
    · refine ps_iload rfl rfl ?_
      refine ps_ift rfl (decide_eq_true ((i_lt _ _).mpr (by omega))) ?_
      exact no _ (by omega)
    · by_cases hw2 : 2 < w.toInt
      · refine ps_iload rfl rfl ?_
        refine ps_iff rfl (decide_eq_false (fun z => hw1 (by have := (i_lt _ _).mp z; omega))) ?_
        refine ps_iload rfl rfl ?_
        refine pw_c rfl ?_
        refine ps_icmpt rfl (decide_eq_true ((i_lt _ _).mpr (by omega))) ?_
        exact no _ (by intro z; have z := z.2.2; split at z <;> omega)
      · refine ps_iload rfl rfl ?_
        refine ps_iff rfl (decide_eq_false (fun z => hw1 (by have := (i_lt _ _).mp z; omega))) ?_
        refine ps_iload rfl rfl ?_
        refine pw_c rfl ?_
        refine ps_icmpf rfl (decide_eq_false (fun z => hw2 (by have := (i_lt _ _).mp z; omega))) ?_
        have go : ((0 ≤ (nI q).toInt ∧ (nI q).toInt ≤ 2) ∧ 0 ≤ w.toInt ∧ w.toInt ≤ (if (nI q).toInt = 1 then 1 else 2)) → pm_W (g_P ys) 98 43 [.ref 0, .int (nI q), .int k, .int w, .ref (b + 2 + 1 + 4 * q)] [] (I, L, g_R s, 306) (0, 0) Q := by
          intro gd
          have ea : aThing S (nI q) k w = if ¬ (0 ≤ k.toInt ∧ k.toInt < S.n q) then .error 2 else .ok (S.sc q k.toInt.toNat w.toInt.toNat) := by
            unfold aThing
            rw [if_neg (fun z => z gd), tn]
          refine ps_aload rfl rfl ?_
          refine ps_iload rfl rfl ?_
          refine pv_k rfl rfl rfl rfl rfl (hS5 _ _) rfl ⟨Nat.zero_le _, Nat.zero_le _⟩ ?_
          refine B_mHas hm (h1 q q3) (ok q q3) k ?_
          by_cases hkk : 0 ≤ k.toInt ∧ k.toInt < S.n q
          · rw [if_neg (fun z => z hkk)] at ea
            rw [decide_eq_true hkk]
            obtain ⟨i, hi⟩ : ∃ i, i = k.toInt.toNat := ⟨_, rfl⟩
            have ek := nI_oz hi hkk.1
            subst ek
            have ti : (nI i).toInt = i := by omega
            have il : i < S.n q := by omega
            have ol := ok q q3
            rw [← hi] at ea
            rcases (show w.toInt = 0 ∨ w.toInt = 1 ∨ w.toInt = 2 by omega) with z | z | z
            · have ew : w = 0 := (i_eq _ _).mpr z
              subst ew
              refine ps_ift rfl (rfl) ?_
              refine ps_iload rfl rfl ?_
              refine ps_iff rfl (by decide) ?_
              refine ps_aload rfl rfl ?_
              refine ps_aload rfl rfl ?_
              refine ps_gfr 6 0 rfl rfl rfl (by first | exact hS0 _ _ | exact hS1 _ _ | exact hS2 _ _ | exact hS3 _ _ | exact hS4 _ _ | exact hS5 _ _ | exact hS6 _ _ | exact hS7 _ _ | exact hS8 _ _ | exact hS9 _ _ | exact hS10 _ _ | exact hS11 _ _ | exact hS12 _ _ | exact hS13 _ _ | assumption | rfl) rfl (by first | assumption | rfl) ?_
              refine ps_iload rfl rfl ?_
              refine ps_iald (i) rfl (by first | exact hS0 _ _ | exact hS1 _ _ | exact hS2 _ _ | exact hS3 _ _ | exact hS4 _ _ | exact hS5 _ _ | exact hS6 _ _ | exact hS7 _ _ | exact hS8 _ _ | exact hS9 _ _ | exact hS10 _ _ | exact hS11 _ _ | exact hS12 _ _ | exact hS13 _ _ | assumption | rfl) nb (rfl) (by omega) ?_
              rw [show ((I, L, g_R s, 306) : pm_H).1 (b + 2 + 1 + 4 * q + 1) i = S.sc q i 0 from h4 q q3 i il 0 (by omega)]
              refine pv_k rfl rfl rfl rfl rfl (by first | exact hS0 _ _ | exact hS1 _ _ | exact hS2 _ _ | exact hS3 _ _ | exact hS4 _ _ | exact hS5 _ _ | exact hS6 _ _ | exact hS7 _ _ | exact hS8 _ _ | exact hS9 _ _ | exact hS10 _ _ | exact hS11 _ _ | exact hS12 _ _ | exact hS13 _ _ | assumption | rfl) rfl ⟨Nat.zero_le _, Nat.zero_le _⟩ ?_
              refine B_answer ?_
              refine ps_iret rfl rfl ?_
              exact kO _ ea
            · have ew : w = 1 := (i_eq _ _).mpr z
              subst ew
              refine ps_ift rfl (rfl) ?_
              refine ps_iload rfl rfl ?_
              refine ps_ift rfl (by decide) ?_
              refine ps_aload rfl rfl ?_
              refine ps_iload rfl rfl ?_
              refine pw_c rfl ?_
              refine ps_icmpf rfl (by decide) ?_
              refine ps_aload rfl rfl ?_
              refine ps_gfr 6 1 rfl rfl rfl (by first | exact hS0 _ _ | exact hS1 _ _ | exact hS2 _ _ | exact hS3 _ _ | exact hS4 _ _ | exact hS5 _ _ | exact hS6 _ _ | exact hS7 _ _ | exact hS8 _ _ | exact hS9 _ _ | exact hS10 _ _ | exact hS11 _ _ | exact hS12 _ _ | exact hS13 _ _ | assumption | rfl) rfl (by first | assumption | rfl) ?_
              refine ps_iload rfl rfl ?_
              refine ps_iald (i) rfl (by first | exact hS0 _ _ | exact hS1 _ _ | exact hS2 _ _ | exact hS3 _ _ | exact hS4 _ _ | exact hS5 _ _ | exact hS6 _ _ | exact hS7 _ _ | exact hS8 _ _ | exact hS9 _ _ | exact hS10 _ _ | exact hS11 _ _ | exact hS12 _ _ | exact hS13 _ _ | assumption | rfl) nb (rfl) (by omega) ?_
              refine ps_goto rfl ?_
              rw [show ((I, L, g_R s, 306) : pm_H).1 (b + 2 + 1 + 4 * q + 2) i = S.sc q i 1 from h4 q q3 i il 1 (by omega)]
              refine pv_k rfl rfl rfl rfl rfl (by first | exact hS0 _ _ | exact hS1 _ _ | exact hS2 _ _ | exact hS3 _ _ | exact hS4 _ _ | exact hS5 _ _ | exact hS6 _ _ | exact hS7 _ _ | exact hS8 _ _ | exact hS9 _ _ | exact hS10 _ _ | exact hS11 _ _ | exact hS12 _ _ | exact hS13 _ _ | assumption | rfl) rfl ⟨Nat.zero_le _, Nat.zero_le _⟩ ?_
              refine B_answer ?_
              refine ps_iret rfl rfl ?_
              exact kO _ ea
            · have ew : w = 2 := (i_eq _ _).mpr z
              subst ew
              refine ps_ift rfl (rfl) ?_
              refine ps_iload rfl rfl ?_
              refine ps_ift rfl (by decide) ?_
              refine ps_aload rfl rfl ?_
              refine ps_iload rfl rfl ?_
              refine pw_c rfl ?_
              refine ps_icmpt rfl (by decide) ?_
              refine ps_aload rfl rfl ?_
              refine ps_gfr 6 2 rfl rfl rfl (by first | exact hS0 _ _ | exact hS1 _ _ | exact hS2 _ _ | exact hS3 _ _ | exact hS4 _ _ | exact hS5 _ _ | exact hS6 _ _ | exact hS7 _ _ | exact hS8 _ _ | exact hS9 _ _ | exact hS10 _ _ | exact hS11 _ _ | exact hS12 _ _ | exact hS13 _ _ | assumption | rfl) rfl (by first | assumption | rfl) ?_
              refine ps_iload rfl rfl ?_
              refine ps_iald (i) rfl (by first | exact hS0 _ _ | exact hS1 _ _ | exact hS2 _ _ | exact hS3 _ _ | exact hS4 _ _ | exact hS5 _ _ | exact hS6 _ _ | exact hS7 _ _ | exact hS8 _ _ | exact hS9 _ _ | exact hS10 _ _ | exact hS11 _ _ | exact hS12 _ _ | exact hS13 _ _ | assumption | rfl) nb (rfl) (by omega) ?_
              rw [show ((I, L, g_R s, 306) : pm_H).1 (b + 2 + 1 + 4 * q + 3) i = S.sc q i 2 from h4 q q3 i il 2 (by omega)]
              refine pv_k rfl rfl rfl rfl rfl (by first | exact hS0 _ _ | exact hS1 _ _ | exact hS2 _ _ | exact hS3 _ _ | exact hS4 _ _ | exact hS5 _ _ | exact hS6 _ _ | exact hS7 _ _ | exact hS8 _ _ | exact hS9 _ _ | exact hS10 _ _ | exact hS11 _ _ | exact hS12 _ _ | exact hS13 _ _ | assumption | rfl) rfl ⟨Nat.zero_le _, Nat.zero_le _⟩ ?_
              refine B_answer ?_
              refine ps_iret rfl rfl ?_
              exact kO _ ea
          · rw [if_pos hkk] at ea
            rw [decide_eq_false hkk]
            refine ps_iff rfl (rfl) ?_
            refine ps_aload rfl rfl ?_
            refine pw_c rfl ?_
            refine pv_k rfl rfl rfl rfl rfl (by first | exact hS0 _ _ | exact hS1 _ _ | exact hS2 _ _ | exact hS3 _ _ | exact hS4 _ _ | exact hS5 _ _ | exact hS6 _ _ | exact hS7 _ _ | exact hS8 _ _ | exact hS9 _ _ | exact hS10 _ _ | exact hS11 _ _ | exact hS12 _ _ | exact hS13 _ _ | assumption | rfl) rfl ⟨Nat.zero_le _, Nat.zero_le _⟩ ?_
            refine B_refuse ?_
            refine ps_iret rfl rfl ?_
            exact kE _ ea
        by_cases q1 : q = 1
        · subst q1
          by_cases w2 : w.toInt = 2
          · refine ps_iload rfl rfl ?_
            refine pw_c rfl ?_
            refine ps_icmpf rfl (by decide) ?_
            refine ps_iload rfl rfl ?_
            refine pw_c rfl ?_
            refine ps_icmpf rfl (decide_eq_false (fun z => z ((i_eq _ _).mpr (by omega)))) ?_
            exact no _ (by intro z; have z := z.2.2; rw [if_pos (by omega)] at z; omega)
          · refine ps_iload rfl rfl ?_
            refine pw_c rfl ?_
            refine ps_icmpf rfl (by decide) ?_
            refine ps_iload rfl rfl ?_
            refine pw_c rfl ?_
            refine ps_icmpt rfl (decide_eq_true (fun z => w2 ((i_eq _ _).mp z))) ?_
            exact go (by rw [if_pos (by omega)]; omega)
        · refine ps_iload rfl rfl ?_
          refine pw_c rfl ?_
          refine ps_icmpt rfl (decide_eq_true (fun z => q1 (nI_eqv (b := 1) (by omega) (by omega) z))) ?_
          exact go (by rw [if_neg (by omega)]; omega)
  · refine B_marksOfN (isE_b hb) (by omega) ?_
    refine ps_astoreN rfl rfl ?_
    refine ps_aloadN rfl rfl ?_
    refine ps_brr rfl rfl rfl rfl rfl rfl ?_
    exact no _ (by omega)
end SD
