/-! BY HAND: how a text is read, second: reads -/
/-! the bytes of a text -/
def inR (lo hi : Int) (x : Int32) : Prop := lo ≤ x.toInt ∧ x.toInt ≤ hi
def blk (x : Int32) : Prop := x.toInt = 10 ∨ x.toInt = 32
def eoR (f : Nat → Int32) (lo hi : Int) (i e n : Nat) : Prop := i ≤ e ∧ e ≤ n ∧ (∀ j, i ≤ j → j < e → inR lo hi (f j)) ∧ (e < n → ¬ inR lo hi (f e))
def wF (f : Nat → Int32) (i : Nat) : Nat → Int32
  | 0 => 0
  | d + 1 => wF f i d * 32 + (f (i + d) - 97 + 1)
def nF (f : Nat → Int32) (i : Nat) : Nat → Int32
  | 0 => 0
  | d + 1 => nF f i d * 10 + (f (i + d) - 48)
/-- what the token from i to e is -/
def tokR (f : Nat → Int32) (n i e : Nat) (k v : Int32) : Prop :=
  (inR 97 122 (f i) ∧ eoR f 97 122 i e n ∧ k = (if e - i ≤ 6 then 2 else 1) ∧ v = wF f i (e - i)) ∨
  (inR 48 57 (f i) ∧ eoR f 48 57 i e n ∧ k = (if e - i ≤ 4 then 3 else 1) ∧ v = nF f i (e - i)) ∨
  ((f i).toInt = 35 ∧ eoR f 48 49 (i + 1) e n ∧ k = (if 1 ≤ e - i - 1 ∧ e - i - 1 ≤ 40 then 4 else 1) ∧ v = nI (e - i - 1)) ∨
  (¬ inR 97 122 (f i) ∧ ¬ inR 48 57 (f i) ∧ ¬ (f i).toInt = 35 ∧ e = i + 1 ∧ k = (if (f i).toInt = 59 then 5 else 1) ∧ v = 0)
/-- a word as the model packs it; its bits -/
def W27 (T : Nat → Int32) (p : Nat) : Nat → Int64
  | 0 => 0
  | d + 1 => 27 * W27 T p d + (T (p + d)).toInt64 - 96
def wB (T : Nat → Int32) (p : Nat) : Nat → Int64
  | 0 => 0
  | d + 1 => 2 * wB T p d + (T (p + 1 + d)).toInt64 - 48
/-- the model's sort of a kind -/
def sO (k : Int32) : Int32 := if k = 2 then 1 else if k = 3 then 2 else if k = 5 then 3 else if k = 4 then 4 else 5
section IA
variable {ys : List Int32} {I : Nat → Nat → Int32} {L : Nat → Nat → Int64} {s : Nat → Option Nat} {Q : List Value → pm_H → Prop}
def oB (T : Nat → Int32) (e i : Nat) (lo hi : Int64) : Bool := decide (i < e) && (decide (lo ≤ (T i).toInt64) && decide ((T i).toInt64 ≤ hi))
theorem M_isOf {i e : Nat} (he : I 275 52 = nI e) (he8 : e ≤ 800) (hi : i < 2147483648) (lo hi' : Int32) (kk : Q [.int (bI (oB (I 303) e i lo.toInt64 hi'.toInt64))] (I, L, g_R s, 306)) : pm_W (g_P ys) 280 0 [.ref 275, .int (nI i), .int lo, .int hi'] [] (I, L, g_R s, 306) (0, 0) Q := by
  have no : Q [.int 0] (I, L, g_R s, 306) → pm_W (g_P ys) 280 29 [.ref 275, .int (nI i), .int lo, .int hi'] [] (I, L, g_R s, 306) (0, 0) Q := by
    intro k
    refine pw_c rfl ?_
    refine ps_zret rfl rfl (Or.inl rfl) ?_
    exact k
  refine ps_iload rfl rfl ?_
  refine ps_aload rfl rfl ?_
  refine ps_gfi 11 52 rfl rfl rfl rfl rfl ?_
  rw [show ((I, L, g_R s, 306) : pm_H).1 275 52 = nI e from he]
  by_cases h : i < e
  · refine ps_icmpf rfl (decide_eq_false (nI_ge (by omega) (by omega))) ?_
    refine ps_aload rfl rfl ?_
    refine ps_gfr 11 42 rfl rfl rfl rfl rfl (rfl) ?_
    refine ps_iload rfl rfl ?_
    refine ps_bald (i) rfl rfl (Or.inl rfl) rfl (rfl) (by omega) ?_
    refine ps_ar rfl rfl rfl rfl rfl ?_
    refine ps_iload rfl rfl ?_
    refine ps_ar rfl rfl rfl rfl rfl ?_
    refine ps_iload rfl rfl ?_
    refine ps_ar rfl rfl rfl rfl rfl ?_
    refine pw_k rfl rfl rfl rfl ⟨Nat.zero_le _, Nat.zero_le _⟩ ?_
    refine M_isIn ?_
    unfold oB at kk
    rw [decide_eq_true h, Bool.true_and] at kk
    cases d : (decide (lo.toInt64 ≤ (I 303 i).toInt64) && decide ((I 303 i).toInt64 ≤ hi'.toInt64)) with
    | false =>
      rw [d] at kk
      refine ps_ift rfl (rfl) ?_
      exact no kk
    | true =>
      rw [d] at kk
      refine ps_iff rfl (rfl) ?_
      refine pw_c rfl ?_
      refine ps_goto rfl ?_
      refine ps_zret rfl rfl (Or.inr rfl) ?_
      exact kk
  · unfold oB at kk
    rw [decide_eq_false h, Bool.false_and] at kk
    refine ps_icmpt rfl (decide_eq_true (nI_le (by omega) (by omega))) ?_
    exact no kk
theorem oB_lt {T : Nat → Int32} {e i : Nat} {lo hi : Int64} (h : oB T e i lo hi = true) : i < e := by
  unfold oB at h
  rw [Bool.and_eq_true, decide_eq_true_iff] at h
  exact h.1
/-- alike but for what reads writes -/
def dAg (I I' : Nat → Nat → Int32) : Prop := ∀ a j : Nat, ¬ (a = 275 ∧ (j = 48 ∨ j = 49 ∨ j = 50 ∨ j = 51 ∨ j = 53)) → I' a j = I a j
theorem dAg_u {I' : Nat → Nat → Int32} (h : dAg I I') {j : Nat} {x : Int32} (hj : j = 48 ∨ j = 49 ∨ j = 50 ∨ j = 51 ∨ j = 53) : dAg I (pm_u I' 275 j x) := by
  intro a i hn
  unfold pm_u
  split
  · rename_i e
    subst e
    split
    · rename_i e2
      subst e2
      exact absurd ⟨rfl, hj⟩ hn
    · exact h _ _ hn
  · exact h _ _ hn
/-- what holds while it reads -/
def dS (I I' : Nat → Nat → Int32) (p i : Nat) : Prop := dAg I I' ∧ I' 275 48 = nI p ∧ I' 275 49 = nI i ∧ (0 ≤ (I' 275 51).toInt ∧ (I' 275 51).toInt ≤ 9999) ∧ (0 ≤ (I' 275 53).toInt ∧ (I' 275 53).toInt ≤ 800)
theorem dS_end {I' : Nat → Nat → Int32} {p i e : Nat} (k : dS I I' p i) (he : I 275 52 = nI e) : I' 275 52 = nI e := by rw [k.1 _ _ (by decide)]; exact he
theorem dS_tape {I' : Nat → Nat → Int32} {p i : Nat} (k : dS I I' p i) : I' 303 = I 303 := by
  funext j
  exact k.1 _ _ (fun q => absurd q.1 (by decide))
theorem dS_then {I' : Nat → Nat → Int32} {p i j : Nat} (k : dS I I' p i) {x : Int32} (hx : x = nI j) : dS I (pm_u I' 275 49 x) p j := by
  obtain ⟨k1, k2, k3, k4, k5⟩ := k
  refine ⟨dAg_u k1 (by decide), ?_, ?_, ?_, ?_⟩
  · rw [pu_n (by decide)]; exact k2
  · rw [pu_s]; exact hx
  · rw [pu_n (by decide)]; exact k4
  · rw [pu_n (by decide)]; exact k5
theorem dS_sort {I' : Nat → Nat → Int32} {p i : Nat} (k : dS I I' p i) {x : Int32} : dS I (pm_u I' 275 50 x) p i := by
  obtain ⟨k1, k2, k3, k4, k5⟩ := k
  refine ⟨dAg_u k1 (by decide), ?_, ?_, ?_, ?_⟩
  · rw [pu_n (by decide)]; exact k2
  · rw [pu_n (by decide)]; exact k3
  · rw [pu_n (by decide)]; exact k4
  · rw [pu_n (by decide)]; exact k5
theorem dS_number {I' : Nat → Nat → Int32} {p i : Nat} (k : dS I I' p i) {x : Int32} (h1 : 0 ≤ x.toInt) (h2 : x.toInt ≤ 9999) : dS I (pm_u I' 275 51 x) p i := by
  obtain ⟨k1, k2, k3, k4, k5⟩ := k
  refine ⟨dAg_u k1 (by decide), ?_, ?_, ?_, ?_⟩
  · rw [pu_n (by decide)]; exact k2
  · rw [pu_n (by decide)]; exact k3
  · rw [pu_s]; exact ⟨h1, h2⟩
  · rw [pu_n (by decide)]; exact k5
theorem dS_bits {I' : Nat → Nat → Int32} {p i : Nat} (k : dS I I' p i) {x : Int32} (h1 : 0 ≤ x.toInt) (h2 : x.toInt ≤ 800) : dS I (pm_u I' 275 53 x) p i := by
  obtain ⟨k1, k2, k3, k4, k5⟩ := k
  refine ⟨dAg_u k1 (by decide), ?_, ?_, ?_, ?_⟩
  · rw [pu_n (by decide)]; exact k2
  · rw [pu_n (by decide)]; exact k3
  · rw [pu_n (by decide)]; exact k4
  · rw [pu_s]; exact ⟨h1, h2⟩
/-- what reads leaves -/
def dE (I I' : Nat → Nat → Int32) (t : Nat) : Prop := ∃ p i : Nat, dS I I' p i ∧ p ≤ 800 ∧ t < i ∧ ((I' 275 50 = 0 ∧ i ≤ 801) ∨ (∃ so : Nat, 1 ≤ so ∧ so ≤ 5 ∧ I' 275 50 = nI so ∧ i ≤ 800 ∧ (so = 4 → 1 ≤ (I' 275 53).toInt ∧ (I' 275 53).toInt ≤ 40)))
theorem oB_in {T : Nat → Int32} {e i : Nat} {a b : Int32} (h : oB T e i a.toInt64 b.toInt64 = true) : i < e ∧ inR a.toInt b.toInt (T i) := by
  unfold oB at h
  rw [Bool.and_eq_true, Bool.and_eq_true, decide_eq_true_iff, decide_eq_true_iff, decide_eq_true_iff, Int64.le_iff_toInt_le, Int64.le_iff_toInt_le, Int32.toInt_toInt64, Int32.toInt_toInt64, Int32.toInt_toInt64] at h
  exact h
theorem oB_no {T : Nat → Int32} {e i : Nat} {a b : Int32} (h : oB T e i a.toInt64 b.toInt64 = false) (hi : i < e) : ¬ inR a.toInt b.toInt (T i) := fun q => by
  have z : oB T e i a.toInt64 b.toInt64 = true := by
    unfold oB
    rw [Bool.and_eq_true, Bool.and_eq_true, decide_eq_true_iff, decide_eq_true_iff, decide_eq_true_iff, Int64.le_iff_toInt_le, Int64.le_iff_toInt_le, Int32.toInt_toInt64, Int32.toInt_toInt64, Int32.toInt_toInt64]
    exact ⟨hi, q⟩
  rw [h] at z
  cases z
/-- alike in all longs but the word -/
def lA (L L' : Nat → Nat → Int64) : Prop := ∀ a j : Nat, ¬ (a = 275 ∧ j = 54) → L' a j = L a j
theorem lA_u {L L' : Nat → Nat → Int64} (h : lA L L') {x : Int64} : lA L (pm_u L' 275 54 x) := by
  intro a j hn
  unfold pm_u
  split
  · rename_i e
    subst e
    split
    · rename_i e2
      exact absurd ⟨rfl, e2⟩ hn
    · exact h _ _ hn
  · exact h _ _ hn
/-- what reads finds behind t, exactly -/
def rdX (I I' : Nat → Nat → Int32) (L' : Nat → Nat → Int64) (t e : Nat) : Prop := ∃ p i : Nat, I' 275 48 = nI p ∧ I' 275 49 = nI i ∧ t ≤ p ∧ (∀ j, t ≤ j → j < p → blk (I 303 j)) ∧
  ((p = e ∧ i = p + 1 ∧ I' 275 50 = 0) ∨ (p < e ∧ p < i ∧ i ≤ e ∧ ¬ blk (I 303 p) ∧ ∃ k v : Int32, tokR (I 303) e p i k v ∧ I' 275 50 = sO k ∧ (k = 2 → L' 275 54 = W27 (I 303) p (i - p)) ∧ (k = 3 → I' 275 51 = v) ∧ (k = 4 → I' 275 53 = v ∧ L' 275 54 = wB (I 303) p (i - p - 1))))
theorem M_reads {t e : Nat} (ht : I 275 49 = nI t) (ht8 : t ≤ 800) (he : I 275 52 = nI e) (he8 : e ≤ 800) (hnb : 0 ≤ (I 275 51).toInt ∧ (I 275 51).toInt ≤ 9999) (hbb : 0 ≤ (I 275 53).toInt ∧ (I 275 53).toInt ≤ 800) (kk : ∀ I' L', dE I I' t → lA L L' → (t ≤ e → rdX I I' L' t e) → Q [] (I', L', g_R s, 306)) : pm_W (g_P ys) 279 0 [.ref 275] [] (I, L, g_R s, 306) (0, 0) Q := by
  have fin : ∀ I' L', dE I I' t → lA L L' → (t ≤ e → rdX I I' L' t e) → pm_W (g_P ys) 279 493 [.ref 275] [] (I', L', g_R s, 306) (0, 0) Q := by
    intro I' L' k lq rx
    refine ps_vret rfl rfl ?_
    exact kk _ _ k lq rx
  have c97 : (97 : Int32).toInt = 97 := rfl
  have c122 : (122 : Int32).toInt = 122 := rfl
  have c48 : (48 : Int32).toInt = 48 := rfl
  have c49 : (49 : Int32).toInt = 49 := rfl
  have c57 : (57 : Int32).toInt = 57 := rfl
  -- a word
  have word : ∀ p, t ≤ p → p < e → (∀ j, t ≤ j → j < p → blk (I 303 j)) → oB (I 303) e p (97 : Int32).toInt64 (122 : Int32).toInt64 = true → ∀ d i, i + d = e → p ≤ i → ∀ I' L', dS I I' p i → lA L L' → (∀ j, p ≤ j → j < i → inR 97 122 (I 303 j)) → (i - p ≤ 6 → L' 275 54 = W27 (I 303) p (i - p)) → pm_W (g_P ys) 279 127 [.ref 275] [] (I', L', g_R s, 306) (0, 0) Q := by
    intro p hp hpe hbl hB d
    have hpl : inR 97 122 (I 303 p) := (oB_in hB).2
    have out : ∀ i, p < i → i ≤ e → ∀ I' L', dS I I' p i → lA L L' → (∀ j, p ≤ j → j < i → inR 97 122 (I 303 j)) → (i - p ≤ 6 → L' 275 54 = W27 (I 303) p (i - p)) → (i < e → ¬ inR 97 122 (I 303 i)) → pm_W (g_P ys) 279 200 [.ref 275] [] (I', L', g_R s, 306) (0, 0) Q := by
      intro i hi hie I' L' k lq hr hw he2
      have eo : eoR (I 303) 97 122 p i e := ⟨by omega, hie, hr, he2⟩
      have f2 : ∀ so : Nat, 1 ≤ so → so ≤ 5 → ¬ so = 4 → (so = 1 ∧ i - p ≤ 6 ∨ so = 5 ∧ ¬ i - p ≤ 6) → pm_W (g_P ys) 279 220 [.ref 275] [.int (nI so), .ref 275] (I', L', g_R s, 306) (0, 0) Q := by
        intro so h1 h2 h3 h4
        refine ps_pfi 11 50 rfl rfl rfl rfl rfl ?_
        refine ps_goto rfl ?_
        refine fin _ _ ⟨p, i, dS_sort k, by omega, by omega, Or.inr ⟨so, h1, h2, pu_s, by omega, fun q => absurd q h3⟩⟩ lq (fun _ => ⟨p, i, (dS_sort k).2.1, (dS_sort k).2.2.1, hp, hbl, Or.inr ⟨hpe, hi, hie, fun q => ?_, if i - p ≤ 6 then 2 else 1, wF (I 303) p (i - p), Or.inl ⟨hpl, eo, rfl, rfl⟩, ?_, fun q => ?_, fun q => ?_, fun q => ?_⟩⟩)
        · rcases q with q | q <;> unfold inR at hpl <;> omega
        · show pm_u I' 275 50 (nI so) 275 50 = _
          rw [pu_s]
          rcases h4 with ⟨rfl, h4⟩ | ⟨rfl, h4⟩
          · rw [if_pos h4]; rfl
          · rw [if_neg h4]; rfl
        · rcases h4 with ⟨_, h4⟩ | ⟨_, h4⟩
          · exact hw h4
          · rw [if_neg h4] at q
            exact absurd q (by decide)
        · split at q <;> exact absurd q (by decide)
        · split at q <;> exact absurd q (by decide)
      have es : nI i - nI p = nI (i - p) := by
        rw [← iI_nat i, ← iI_nat p, ← iI_nat (i - p), iI_sub]
        congr 1
        omega
      refine ps_aload rfl rfl ?_
      refine ps_aload rfl rfl ?_
      refine ps_gfi 11 49 rfl rfl rfl rfl rfl ?_
      refine ps_aload rfl rfl ?_
      refine ps_gfi 11 48 rfl rfl rfl rfl rfl ?_
      refine ps_ar rfl rfl rfl rfl rfl ?_
      rw [show ((I', L', g_R s, 306) : pm_H).1 275 49 = nI i from k.2.2.1, show ((I', L', g_R s, 306) : pm_H).1 275 48 = nI p from k.2.1, es]
      by_cases h6 : i - p ≤ 6
      · refine pw_c rfl ?_
        refine ps_icmpt rfl (decide_eq_true (nI_le (b := 6) h6 (by omega))) ?_
        refine pw_c rfl ?_
        exact f2 1 (by omega) (by omega) (by omega) (Or.inl ⟨rfl, h6⟩)
      · refine pw_c rfl ?_
        refine ps_icmpf rfl (decide_eq_false (nI_ge (a := 6) (by omega) (by omega))) ?_
        refine pw_c rfl ?_
        refine ps_goto rfl ?_
        exact f2 5 (by omega) (by omega) (by omega) (Or.inr ⟨rfl, h6⟩)
    induction d with
    | zero =>
      intro i hi hpi I' L' k lq hr hw
      refine ps_aload rfl rfl ?_
      refine ps_aload rfl rfl ?_
      refine ps_gfi 11 49 rfl rfl rfl rfl rfl ?_
      rw [show ((I', L', g_R s, 306) : pm_H).1 275 49 = nI i from k.2.2.1]
      refine pw_c rfl ?_
      refine pw_c rfl ?_
      refine pw_k rfl rfl rfl rfl ⟨Nat.zero_le _, Nat.zero_le _⟩ ?_
      refine M_isOf (dS_end k he) he8 (by omega) _ _ ?_
      rw [dS_tape k]
      cases hb : oB (I 303) e i (97 : Int32).toInt64 (122 : Int32).toInt64 with
      | true => exact absurd (oB_lt hb) (by omega)
      | false =>
        refine ps_ift rfl (rfl) ?_
        exact out i (by omega) (by omega) _ _ k lq hr hw (fun q => by omega)
    | succ d ih =>
      intro i hi hpi I' L' k lq hr hw
      refine ps_aload rfl rfl ?_
      refine ps_aload rfl rfl ?_
      refine ps_gfi 11 49 rfl rfl rfl rfl rfl ?_
      rw [show ((I', L', g_R s, 306) : pm_H).1 275 49 = nI i from k.2.2.1]
      refine pw_c rfl ?_
      refine pw_c rfl ?_
      refine pw_k rfl rfl rfl rfl ⟨Nat.zero_le _, Nat.zero_le _⟩ ?_
      refine M_isOf (dS_end k he) he8 (by omega) _ _ ?_
      rw [dS_tape k]
      cases hb : oB (I 303) e i (97 : Int32).toInt64 (122 : Int32).toInt64 with
      | false =>
        have hne : ¬ p = i := fun q => by rw [q, hb] at hB; cases hB
        refine ps_ift rfl (rfl) ?_
        exact out i (by omega) (by omega) _ _ k lq hr hw (fun q => oB_no hb q)
      | true =>
        have hr2 : ∀ j, p ≤ j → j < i + 1 → inR 97 122 (I 303 j) := fun j j1 j2 => by
          by_cases q : j = i
          · rw [q]
            exact (oB_in hb).2
          · exact hr j j1 (by omega)
        have nx : ∀ z : Int64, (i + 1 - p ≤ 6 → z = W27 (I 303) p (i + 1 - p)) → pm_W (g_P ys) 279 184 [.ref 275] [.long z, .ref 275] (I', L', g_R s, 306) (0, 0) Q := by
          intro z hz
          refine ps_pfl 11 54 rfl rfl rfl rfl rfl ?_
          refine ps_aload rfl rfl ?_
          refine ps_ar rfl rfl rfl rfl rfl ?_
          refine ps_gfi 11 49 rfl rfl rfl rfl rfl ?_
          refine pw_c rfl ?_
          refine ps_ar rfl rfl rfl rfl rfl ?_
          refine ps_pfi 11 49 rfl rfl rfl rfl rfl ?_
          refine ps_goto rfl ?_
          refine ih (i + 1) (by omega) (by omega) _ _ (dS_then k (by rw [show ((I', pm_u L' 275 54 z, g_R s, 306) : pm_H).1 275 49 = nI i from k.2.2.1]; exact nI_1 i)) (lA_u lq) hr2 (fun q => ?_)
          show pm_u L' 275 54 z 275 54 = _
          unfold pm_u
          rw [if_pos rfl, if_pos rfl]
          exact hz q
        have es : nI i - nI p = nI (i - p) := by
          rw [← iI_nat i, ← iI_nat p, ← iI_nat (i - p), iI_sub]
          congr 1
          omega
        refine ps_iff rfl (rfl) ?_
        refine ps_aload rfl rfl ?_
        refine ps_aload rfl rfl ?_
        refine ps_gfi 11 49 rfl rfl rfl rfl rfl ?_
        refine ps_aload rfl rfl ?_
        refine ps_gfi 11 48 rfl rfl rfl rfl rfl ?_
        refine ps_ar rfl rfl rfl rfl rfl ?_
        rw [show ((I', L', g_R s, 306) : pm_H).1 275 49 = nI i from k.2.2.1, show ((I', L', g_R s, 306) : pm_H).1 275 48 = nI p from k.2.1, es]
        by_cases h6 : i - p < 6
        · refine pw_c rfl ?_
          refine ps_icmpf rfl (decide_eq_false (nI_ge (b := 6) h6 (by omega))) ?_
          refine pw_c rfl ?_
          refine ps_aload rfl rfl ?_
          refine ps_gfl 11 54 rfl rfl rfl rfl rfl ?_
          refine ps_ar rfl rfl rfl rfl rfl ?_
          refine ps_aload rfl rfl ?_
          refine ps_gfr 11 42 rfl rfl rfl rfl rfl (rfl) ?_
          refine ps_aload rfl rfl ?_
          refine ps_gfi 11 49 rfl rfl rfl rfl rfl ?_
          refine ps_bald (i) rfl rfl (Or.inl rfl) rfl (k.2.2.1) (by omega) ?_
          refine ps_ar rfl rfl rfl rfl rfl ?_
          refine ps_ar rfl rfl rfl rfl rfl ?_
          refine pw_c rfl ?_
          refine ps_ar rfl rfl rfl rfl rfl ?_
          refine ps_goto rfl ?_
          refine nx _ (fun q => ?_)
          rw [show i + 1 - p = (i - p) + 1 by omega, W27, ← hw (by omega), show p + (i - p) = i by omega]
          rw [← congrFun (dS_tape k) i]
        · refine pw_c rfl ?_
          refine ps_icmpt rfl (decide_eq_true (nI_le (a := 6) (by omega) (by omega))) ?_
          refine pw_c rfl ?_
          exact nx _ (fun q => by omega)
  -- a number
  have numb : ∀ p, t ≤ p → p < e → (∀ j, t ≤ j → j < p → blk (I 303 j)) → oB (I 303) e p (48 : Int32).toInt64 (57 : Int32).toInt64 = true → ∀ d i, i + d = e → p ≤ i → ∀ I' L', dS I I' p i → lA L L' → (∀ j, p ≤ j → j < i → inR 48 57 (I 303 j)) → ((i - p ≤ 4 → (I' 275 51).toInt < 10 ^ (i - p) ∧ I' 275 51 = nF (I 303) p (i - p))) → pm_W (g_P ys) 279 254 [.ref 275] [] (I', L', g_R s, 306) (0, 0) Q := by
    intro p hp hpe hbl hB d
    have hpl : inR 48 57 (I 303 p) := (oB_in hB).2
    have out : ∀ i, p < i → i ≤ e → ∀ I' L', dS I I' p i → lA L L' → (∀ j, p ≤ j → j < i → inR 48 57 (I 303 j)) → (i - p ≤ 4 → I' 275 51 = nF (I 303) p (i - p)) → (i < e → ¬ inR 48 57 (I 303 i)) → pm_W (g_P ys) 279 326 [.ref 275] [] (I', L', g_R s, 306) (0, 0) Q := by
      intro i hi hie I' L' k lq hr hw he2
      have eo : eoR (I 303) 48 57 p i e := ⟨by omega, hie, hr, he2⟩
      have f2 : ∀ so : Nat, 1 ≤ so → so ≤ 5 → ¬ so = 4 → (so = 2 ∧ i - p ≤ 4 ∨ so = 5 ∧ ¬ i - p ≤ 4) → pm_W (g_P ys) 279 345 [.ref 275] [.int (nI so), .ref 275] (I', L', g_R s, 306) (0, 0) Q := by
        intro so h1 h2 h3 h4
        refine ps_pfi 11 50 rfl rfl rfl rfl rfl ?_
        refine ps_goto rfl ?_
        refine fin _ _ ⟨p, i, dS_sort k, by omega, by omega, Or.inr ⟨so, h1, h2, pu_s, by omega, fun q => absurd q h3⟩⟩ lq (fun _ => ⟨p, i, (dS_sort k).2.1, (dS_sort k).2.2.1, hp, hbl, Or.inr ⟨hpe, hi, hie, fun q => ?_, if i - p ≤ 4 then 3 else 1, nF (I 303) p (i - p), Or.inr (Or.inl ⟨hpl, eo, rfl, rfl⟩), ?_, fun q => ?_, fun q => ?_, fun q => ?_⟩⟩)
        · rcases q with q | q <;> unfold inR at hpl <;> omega
        · show pm_u I' 275 50 (nI so) 275 50 = _
          rw [pu_s]
          rcases h4 with ⟨rfl, h4⟩ | ⟨rfl, h4⟩
          · rw [if_pos h4]; rfl
          · rw [if_neg h4]; rfl
        · split at q <;> exact absurd q (by decide)
        · show pm_u I' 275 50 (nI so) 275 51 = _
          rw [pu_n (by decide)]
          rcases h4 with ⟨_, h4⟩ | ⟨_, h4⟩
          · exact hw h4
          · rw [if_neg h4] at q
            exact absurd q (by decide)
        · split at q <;> exact absurd q (by decide)
      have es : nI i - nI p = nI (i - p) := by
        rw [← iI_nat i, ← iI_nat p, ← iI_nat (i - p), iI_sub]
        congr 1
        omega
      refine ps_aload rfl rfl ?_
      refine ps_aload rfl rfl ?_
      refine ps_gfi 11 49 rfl rfl rfl rfl rfl ?_
      refine ps_aload rfl rfl ?_
      refine ps_gfi 11 48 rfl rfl rfl rfl rfl ?_
      refine ps_ar rfl rfl rfl rfl rfl ?_
      rw [show ((I', L', g_R s, 306) : pm_H).1 275 49 = nI i from k.2.2.1, show ((I', L', g_R s, 306) : pm_H).1 275 48 = nI p from k.2.1, es]
      by_cases h6 : i - p ≤ 4
      · refine pw_c rfl ?_
        refine ps_icmpt rfl (decide_eq_true (nI_le (b := 4) h6 (by omega))) ?_
        refine pw_c rfl ?_
        exact f2 2 (by omega) (by omega) (by omega) (Or.inl ⟨rfl, h6⟩)
      · refine pw_c rfl ?_
        refine ps_icmpf rfl (decide_eq_false (nI_ge (a := 4) (by omega) (by omega))) ?_
        refine pw_c rfl ?_
        refine ps_goto rfl ?_
        exact f2 5 (by omega) (by omega) (by omega) (Or.inr ⟨rfl, h6⟩)
    induction d with
    | zero =>
      intro i hi hpi I' L' k lq hr hnum
      refine ps_aload rfl rfl ?_
      refine ps_aload rfl rfl ?_
      refine ps_gfi 11 49 rfl rfl rfl rfl rfl ?_
      rw [show ((I', L', g_R s, 306) : pm_H).1 275 49 = nI i from k.2.2.1]
      refine pw_c rfl ?_
      refine pw_c rfl ?_
      refine pw_k rfl rfl rfl rfl ⟨Nat.zero_le _, Nat.zero_le _⟩ ?_
      refine M_isOf (dS_end k he) he8 (by omega) _ _ ?_
      rw [dS_tape k]
      cases hb : oB (I 303) e i (48 : Int32).toInt64 (57 : Int32).toInt64 with
      | true => exact absurd (oB_lt hb) (by omega)
      | false =>
        refine ps_ift rfl (rfl) ?_
        exact out i (by omega) (by omega) _ _ k lq hr (fun q => (hnum q).2) (fun q => by omega)
    | succ d ih =>
      intro i hi hpi I' L' k lq hr hnum
      refine ps_aload rfl rfl ?_
      refine ps_aload rfl rfl ?_
      refine ps_gfi 11 49 rfl rfl rfl rfl rfl ?_
      rw [show ((I', L', g_R s, 306) : pm_H).1 275 49 = nI i from k.2.2.1]
      refine pw_c rfl ?_
      refine pw_c rfl ?_
      refine pw_k rfl rfl rfl rfl ⟨Nat.zero_le _, Nat.zero_le _⟩ ?_
      refine M_isOf (dS_end k he) he8 (by omega) _ _ ?_
      rw [dS_tape k]
      cases hb : oB (I 303) e i (48 : Int32).toInt64 (57 : Int32).toInt64 with
      | false =>
        have hne : ¬ p = i := fun q => by rw [q, hb] at hB; cases hB
        refine ps_ift rfl (rfl) ?_
        exact out i (by omega) (by omega) _ _ k lq hr (fun q => (hnum q).2) (fun q => oB_no hb q)
      | true =>
        have hr2 : ∀ j, p ≤ j → j < i + 1 → inR 48 57 (I 303 j) := fun j j1 j2 => by
          by_cases q : j = i
          · rw [q]
            exact (oB_in hb).2
          · exact hr j j1 (by omega)
        have nx : ∀ z : Int32, 0 ≤ z.toInt → z.toInt ≤ 9999 → (i + 1 - p ≤ 4 → z.toInt < 10 ^ (i + 1 - p) ∧ z = nF (I 303) p (i + 1 - p)) → pm_W (g_P ys) 279 310 [.ref 275] [.int z, .ref 275] (I', L', g_R s, 306) (0, 0) Q := by
          intro z h1 h2 h3
          refine ps_pfi 11 51 rfl rfl rfl rfl rfl ?_
          refine ps_aload rfl rfl ?_
          refine ps_ar rfl rfl rfl rfl rfl ?_
          refine ps_gfi 11 49 rfl rfl rfl rfl rfl ?_
          refine pw_c rfl ?_
          refine ps_ar rfl rfl rfl rfl rfl ?_
          refine ps_pfi 11 49 rfl rfl rfl rfl rfl ?_
          refine ps_goto rfl ?_
          refine ih (i + 1) (by omega) (by omega) _ _ (dS_then (dS_number k h1 h2) ?_) lq hr2 ?_
          · show pm_u I' 275 51 z 275 49 + 1 = _
            rw [pu_n (by decide), k.2.2.1]
            exact nI_1 i
          · show _ → (pm_u (pm_u I' 275 51 z) 275 49 _ 275 51).toInt < _ ∧ pm_u (pm_u I' 275 51 z) 275 49 _ 275 51 = _
            rw [pu_n (by decide), pu_s]
            exact h3
        have dg : 48 ≤ (I' 303 i).toInt ∧ (I' 303 i).toInt ≤ 57 := by
          unfold oB at hb
          rw [Bool.and_eq_true, Bool.and_eq_true, decide_eq_true_iff, decide_eq_true_iff, decide_eq_true_iff, Int64.le_iff_toInt_le, Int64.le_iff_toInt_le, Int32.toInt_toInt64, Int32.toInt_toInt64, Int32.toInt_toInt64] at hb
          rw [show I' 303 i = I 303 i from congrFun (dS_tape k) i]
          exact hb.2
        refine ps_iff rfl (rfl) ?_
        refine ps_aload rfl rfl ?_
        refine ps_aload rfl rfl ?_
        refine ps_gfi 11 49 rfl rfl rfl rfl rfl ?_
        refine ps_aload rfl rfl ?_
        refine ps_gfi 11 48 rfl rfl rfl rfl rfl ?_
        refine ps_ar rfl rfl rfl rfl rfl ?_
        refine pw_c rfl ?_
        rw [show ((I', L', g_R s, 306) : pm_H).1 275 49 = nI i from k.2.2.1, show ((I', L', g_R s, 306) : pm_H).1 275 48 = nI p from k.2.1]
        have es : nI i - nI p = nI (i - p) := by
          rw [← iI_nat i, ← iI_nat p, ← iI_nat (i - p), iI_sub]
          congr 1
          omega
        rw [es]
        by_cases h4 : i - p < 4
        · refine ps_icmpf rfl (decide_eq_false (nI_ge (b := 4) (by omega) (by omega))) ?_
          refine pw_c rfl ?_
          refine ps_aload rfl rfl ?_
          refine ps_gfi 11 51 rfl rfl rfl rfl rfl ?_
          refine ps_ar rfl rfl rfl rfl rfl ?_
          refine ps_aload rfl rfl ?_
          refine ps_gfr 11 42 rfl rfl rfl rfl rfl (rfl) ?_
          refine ps_aload rfl rfl ?_
          refine ps_gfi 11 49 rfl rfl rfl rfl rfl ?_
          refine ps_bald (i) rfl rfl (Or.inl rfl) rfl (k.2.2.1) (by omega) ?_
          refine ps_ar rfl rfl rfl rfl rfl ?_
          refine pw_c rfl ?_
          refine ps_ar rfl rfl rfl rfl rfl ?_
          refine ps_goto rfl ?_
          have hn1 := (hnum (by omega)).1
          have hnX := (hnum (by omega)).2
          have hn0 := k.2.2.2.1.1
          have hp10 : (10 : Int) ^ (i - p) ≤ 1000 := by
            have : i - p = 0 ∨ i - p = 1 ∨ i - p = 2 ∨ i - p = 3 := by omega
            rcases this with q | q | q | q <;> rw [q] <;> decide
          have ev : (10 : Int32) * I' 275 51 + I' 303 i - 48 = iI (10 * (I' 275 51).toInt + (I' 303 i).toInt - 48) := by
            rw [← iI_sub, ← iI_add, ← iI_mul, ← iI_of, ← iI_of]
            rfl
          have et : ((10 : Int32) * I' 275 51 + I' 303 i - 48).toInt = 10 * (I' 275 51).toInt + (I' 303 i).toInt - 48 := by
            rw [ev, iI_toInt (by omega) (by omega)]
          refine nx _ ?_ ?_ (fun _ => ⟨?_, ?_⟩)
          · show 0 ≤ ((10 : Int32) * I' 275 51 + I' 303 i - 48).toInt
            rw [et]; omega
          · show ((10 : Int32) * I' 275 51 + I' 303 i - 48).toInt ≤ 9999
            rw [et]; omega
          · show ((10 : Int32) * I' 275 51 + I' 303 i - 48).toInt < _
            rw [et, show i + 1 - p = (i - p) + 1 by omega, Int.pow_succ]
            omega
          · show (10 : Int32) * I' 275 51 + I' 303 i - 48 = _
            rw [show i + 1 - p = (i - p) + 1 by omega, nF, ← hnX, show p + (i - p) = i by omega, congrFun (dS_tape k) i, iI_of (I' 275 51), iI_of (I 303 i), show (10 : Int32) = iI 10 from rfl, show (48 : Int32) = iI 48 from rfl]
            simp only [iI_mul, iI_add, iI_sub]
            congr 1
            omega
        · refine ps_icmpt rfl (decide_eq_true (nI_le (a := 4) (by omega) (by omega))) ?_
          refine ps_aload rfl rfl ?_
          refine ps_gfi 11 51 rfl rfl rfl rfl rfl ?_
          exact nx _ k.2.2.2.1.1 k.2.2.2.1.2 (fun q => by omega)
  -- bits
  have bits : ∀ p, t ≤ p → p < e → (∀ j, t ≤ j → j < p → blk (I 303 j)) → (I 303 p).toInt = 35 → ∀ d i, i + d = e → p < i → ∀ I' L', dS I I' p i → lA L L' → (∀ j, p + 1 ≤ j → j < i → inR 48 49 (I 303 j)) → (i - p - 1 ≤ 40 → L' 275 54 = wB (I 303) p (i - p - 1)) → pm_W (g_P ys) 279 381 [.ref 275] [] (I', L', g_R s, 306) (0, 0) Q := by
    intro p hp hpe hbl h35 d
    have out : ∀ i, p < i → i ≤ e → ∀ I' L', dS I I' p i → lA L L' → (∀ j, p + 1 ≤ j → j < i → inR 48 49 (I 303 j)) → (i - p - 1 ≤ 40 → L' 275 54 = wB (I 303) p (i - p - 1)) → (i < e → ¬ inR 48 49 (I 303 i)) → pm_W (g_P ys) 279 454 [.ref 275] [] (I', L', g_R s, 306) (0, 0) Q := by
      intro i hi hie I' L' k lq hr hw he2
      have eo : eoR (I 303) 48 49 (p + 1) i e := ⟨by omega, hie, hr, he2⟩
      have es : nI i - nI p - 1 = nI (i - p - 1) := by
        rw [← iI_nat i, ← iI_nat p, ← iI_nat (i - p - 1), iI_sub, show (1 : Int32) = iI 1 from rfl, iI_sub]
        congr 1
        omega
      have tb := nI_toInt (n := i - p - 1) (by omega)
      refine ps_aload rfl rfl ?_
      refine ps_aload rfl rfl ?_
      refine ps_gfi 11 49 rfl rfl rfl rfl rfl ?_
      refine ps_aload rfl rfl ?_
      refine ps_gfi 11 48 rfl rfl rfl rfl rfl ?_
      rw [show ((I', L', g_R s, 306) : pm_H).1 275 49 = nI i from k.2.2.1, show ((I', L', g_R s, 306) : pm_H).1 275 48 = nI p from k.2.1]
      refine ps_ar rfl rfl rfl rfl rfl ?_
      refine pw_c rfl ?_
      refine ps_ar rfl rfl rfl rfl rfl ?_
      rw [es]
      have k2 : dS I (pm_u I' 275 53 (nI (i - p - 1))) p i := dS_bits k (by omega) (by omega)
      have f2 : ∀ so : Nat, 1 ≤ so → so ≤ 5 → (so = 4 → 1 ≤ i - p - 1 ∧ i - p - 1 ≤ 40) → (so = 4 ∧ (1 ≤ i - p - 1 ∧ i - p - 1 ≤ 40) ∨ so = 5 ∧ ¬ (1 ≤ i - p - 1 ∧ i - p - 1 ≤ 40)) → pm_W (g_P ys) 279 490 [.ref 275] [.int (nI so), .ref 275] (pm_u I' 275 53 (nI (i - p - 1)), L', g_R s, 306) (0, 0) Q := by
        intro so h1 h2 h3 h4
        refine ps_pfi 11 50 rfl rfl rfl rfl rfl ?_
        refine fin _ _ ⟨p, i, dS_sort k2, by omega, by omega, Or.inr ⟨so, h1, h2, pu_s, by omega, fun q => ?_⟩⟩ lq (fun _ => ⟨p, i, (dS_sort k2).2.1, (dS_sort k2).2.2.1, hp, hbl, Or.inr ⟨hpe, hi, hie, fun q => ?_, if 1 ≤ i - p - 1 ∧ i - p - 1 ≤ 40 then 4 else 1, nI (i - p - 1), Or.inr (Or.inr (Or.inl ⟨h35, eo, rfl, rfl⟩)), ?_, fun q => ?_, fun q => ?_, fun q => ⟨?_, ?_⟩⟩⟩)
        · show 1 ≤ (pm_u (pm_u I' 275 53 (nI (i - p - 1))) 275 50 _ 275 53).toInt ∧ (pm_u (pm_u I' 275 53 (nI (i - p - 1))) 275 50 _ 275 53).toInt ≤ 40
          rw [pu_n (by decide), pu_s, tb]
          have := h3 q
          omega
        · rcases q with q | q <;> omega
        · show pm_u (pm_u I' 275 53 (nI (i - p - 1))) 275 50 (nI so) 275 50 = _
          rw [pu_s]
          rcases h4 with ⟨rfl, h4⟩ | ⟨rfl, h4⟩
          · rw [if_pos h4]; rfl
          · rw [if_neg h4]; rfl
        · split at q <;> exact absurd q (by decide)
        · split at q <;> exact absurd q (by decide)
        · show pm_u (pm_u I' 275 53 (nI (i - p - 1))) 275 50 (nI so) 275 53 = _
          rw [pu_n (by decide), pu_s]
        · rcases h4 with ⟨_, h4⟩ | ⟨_, h4⟩
          · exact hw h4.2
          · rw [if_neg h4] at q
            exact absurd q (by decide)
      refine ps_pfi 11 53 rfl rfl rfl rfl rfl ?_
      refine ps_aload rfl rfl ?_
      refine ps_aload rfl rfl ?_
      show pm_W (g_P ys) 279 471 [.ref 275] [.ref 275, .ref 275] (pm_u I' 275 53 (nI (i - p - 1)), L', g_R s, 306) (0, 0) Q
      refine ps_gfi 11 53 rfl rfl rfl rfl rfl ?_
      have eb : pm_u I' 275 53 (nI (i - p - 1)) 275 53 = nI (i - p - 1) := pu_s
      rw [show ((pm_u I' 275 53 (nI (i - p - 1)), L', g_R s, 306) : pm_H).1 275 53 = nI (i - p - 1) from eb]
      have zz : ∀ a b : Int64, a.toInt = 1 → b.toInt = 40 → pm_W (g_P ys) 279 479 [.ref 275] [.long b, .long a, .long (nI (i - p - 1)).toInt64, .ref 275] (pm_u I' 275 53 (nI (i - p - 1)), L', g_R s, 306) (0, 0) Q := by
        intro a b ha hb
        refine pw_k rfl rfl rfl rfl ⟨Nat.zero_le _, Nat.zero_le _⟩ ?_
        refine M_isIn ?_
        cases hd : (decide (a ≤ (nI (i - p - 1)).toInt64) && decide ((nI (i - p - 1)).toInt64 ≤ b)) with
        | false =>
          refine ps_ift rfl (rfl) ?_
          refine pw_c rfl ?_
          refine f2 5 (by omega) (by omega) (fun q => by omega) (Or.inr ⟨rfl, fun q => ?_⟩)
          have z1 : a ≤ (nI (i - p - 1)).toInt64 := Int64.le_iff_toInt_le.mpr (by rw [Int32.toInt_toInt64, tb, ha]; omega)
          have z2 : (nI (i - p - 1)).toInt64 ≤ b := Int64.le_iff_toInt_le.mpr (by rw [Int32.toInt_toInt64, tb, hb]; omega)
          rw [decide_eq_true z1, decide_eq_true z2] at hd
          cases hd
        | true =>
          rw [Bool.and_eq_true, decide_eq_true_iff, decide_eq_true_iff, Int64.le_iff_toInt_le, Int64.le_iff_toInt_le, Int32.toInt_toInt64, tb, ha, hb] at hd
          refine ps_iff rfl (rfl) ?_
          refine pw_c rfl ?_
          refine ps_goto rfl ?_
          exact f2 4 (by omega) (by omega) (fun _ => by omega) (Or.inl ⟨rfl, by omega⟩)
      refine ps_ar rfl rfl rfl rfl rfl ?_
      refine pw_c rfl ?_
      refine pw_c rfl ?_
      exact zz _ _ rfl rfl
    induction d with
    | zero =>
      intro i hi hpi I' L' k lq hr hw
      refine ps_aload rfl rfl ?_
      refine ps_aload rfl rfl ?_
      refine ps_gfi 11 49 rfl rfl rfl rfl rfl ?_
      rw [show ((I', L', g_R s, 306) : pm_H).1 275 49 = nI i from k.2.2.1]
      refine pw_c rfl ?_
      refine pw_c rfl ?_
      refine pw_k rfl rfl rfl rfl ⟨Nat.zero_le _, Nat.zero_le _⟩ ?_
      refine M_isOf (dS_end k he) he8 (by omega) _ _ ?_
      rw [dS_tape k]
      cases hb : oB (I 303) e i (48 : Int32).toInt64 (49 : Int32).toInt64 with
      | true => exact absurd (oB_lt hb) (by omega)
      | false =>
        refine ps_ift rfl (rfl) ?_
        exact out i (by omega) (by omega) _ _ k lq hr hw (fun q => by omega)
    | succ d ih =>
      intro i hi hpi I' L' k lq hr hw
      refine ps_aload rfl rfl ?_
      refine ps_aload rfl rfl ?_
      refine ps_gfi 11 49 rfl rfl rfl rfl rfl ?_
      rw [show ((I', L', g_R s, 306) : pm_H).1 275 49 = nI i from k.2.2.1]
      refine pw_c rfl ?_
      refine pw_c rfl ?_
      refine pw_k rfl rfl rfl rfl ⟨Nat.zero_le _, Nat.zero_le _⟩ ?_
      refine M_isOf (dS_end k he) he8 (by omega) _ _ ?_
      rw [dS_tape k]
      cases hb : oB (I 303) e i (48 : Int32).toInt64 (49 : Int32).toInt64 with
      | false =>
        refine ps_ift rfl (rfl) ?_
        exact out i (by omega) (by omega) _ _ k lq hr hw (fun q => oB_no hb q)
      | true =>
        have hr2 : ∀ j, p + 1 ≤ j → j < i + 1 → inR 48 49 (I 303 j) := fun j j1 j2 => by
          by_cases q : j = i
          · rw [q]
            exact (oB_in hb).2
          · exact hr j j1 (by omega)
        have nx : ∀ z : Int64, (i + 1 - p - 1 ≤ 40 → z = wB (I 303) p (i + 1 - p - 1)) → pm_W (g_P ys) 279 438 [.ref 275] [.long z, .ref 275] (I', L', g_R s, 306) (0, 0) Q := by
          intro z hz
          refine ps_pfl 11 54 rfl rfl rfl rfl rfl ?_
          refine ps_aload rfl rfl ?_
          refine ps_ar rfl rfl rfl rfl rfl ?_
          refine ps_gfi 11 49 rfl rfl rfl rfl rfl ?_
          refine pw_c rfl ?_
          refine ps_ar rfl rfl rfl rfl rfl ?_
          refine ps_pfi 11 49 rfl rfl rfl rfl rfl ?_
          refine ps_goto rfl ?_
          refine ih (i + 1) (by omega) (by omega) _ _ (dS_then k (by rw [show ((I', pm_u L' 275 54 z, g_R s, 306) : pm_H).1 275 49 = nI i from k.2.2.1]; exact nI_1 i)) (lA_u lq) hr2 (fun q => ?_)
          show pm_u L' 275 54 z 275 54 = _
          unfold pm_u
          rw [if_pos rfl, if_pos rfl]
          exact hz q
        have es : nI i - nI p = nI (i - p) := by
          rw [← iI_nat i, ← iI_nat p, ← iI_nat (i - p), iI_sub]
          congr 1
          omega
        refine ps_iff rfl (rfl) ?_
        refine ps_aload rfl rfl ?_
        refine ps_aload rfl rfl ?_
        refine ps_gfi 11 49 rfl rfl rfl rfl rfl ?_
        refine ps_aload rfl rfl ?_
        refine ps_gfi 11 48 rfl rfl rfl rfl rfl ?_
        refine ps_ar rfl rfl rfl rfl rfl ?_
        rw [show ((I', L', g_R s, 306) : pm_H).1 275 49 = nI i from k.2.2.1, show ((I', L', g_R s, 306) : pm_H).1 275 48 = nI p from k.2.1, es]
        by_cases h6 : i - p ≤ 40
        · refine pw_c rfl ?_
          refine ps_icmpf rfl (decide_eq_false (fun q => absurd ((nI_ltI (a := 40) (b := i - p) (by omega) (by omega)).mp q) (by omega))) ?_
          refine pw_c rfl ?_
          refine ps_aload rfl rfl ?_
          refine ps_gfl 11 54 rfl rfl rfl rfl rfl ?_
          refine ps_ar rfl rfl rfl rfl rfl ?_
          refine ps_aload rfl rfl ?_
          refine ps_gfr 11 42 rfl rfl rfl rfl rfl (rfl) ?_
          refine ps_aload rfl rfl ?_
          refine ps_gfi 11 49 rfl rfl rfl rfl rfl ?_
          refine ps_bald (i) rfl rfl (Or.inl rfl) rfl (k.2.2.1) (by omega) ?_
          refine ps_ar rfl rfl rfl rfl rfl ?_
          refine ps_ar rfl rfl rfl rfl rfl ?_
          refine pw_c rfl ?_
          refine ps_ar rfl rfl rfl rfl rfl ?_
          refine ps_goto rfl ?_
          refine nx _ (fun q => ?_)
          rw [show i + 1 - p - 1 = (i - p - 1) + 1 by omega, wB, ← hw (by omega), show p + 1 + (i - p - 1) = i by omega]
          rw [← congrFun (dS_tape k) i]
        · refine pw_c rfl ?_
          refine ps_icmpt rfl (decide_eq_true (nI_lt (a := 40) (by omega) (by omega))) ?_
          refine pw_c rfl ?_
          exact nx _ (fun q => by omega)
  -- the token at place p
  have tok : ∀ p, t ≤ p → p ≤ 800 → (t ≤ e → p ≤ e) → (∀ j, t ≤ j → j < p → blk (I 303 j)) → (p < e → ¬ blk (I 303 p)) → ∀ I' L' i, dS I I' p i → lA L L' → pm_W (g_P ys) 279 51 [.ref 275] [] (I', L', g_R s, 306) (0, 0) Q := by
    intro p hp hp8 hpe0 hbl hnb2 I' L' i k lq
    have k1 : dS I (pm_u I' 275 49 (nI (p + 1))) p (p + 1) := dS_then k rfl
    refine ps_aload rfl rfl ?_
    refine ps_aload rfl rfl ?_
    refine ps_gfi 11 48 rfl rfl rfl rfl rfl ?_
    rw [show ((I', L', g_R s, 306) : pm_H).1 275 48 = nI p from k.2.1]
    refine pw_c rfl ?_
    refine ps_ar rfl rfl rfl rfl rfl ?_
    rw [show nI p + 1 = nI (p + 1) from nI_1 p]
    refine ps_pfi 11 49 rfl rfl rfl rfl rfl ?_
    show pm_W (g_P ys) 279 61 [.ref 275] [] (pm_u I' 275 49 (nI (p + 1)), L', g_R s, 306) (0, 0) Q
    have more : ∀ so : Nat, (so = 0 ∧ e ≤ p) ∨ (1 ≤ so ∧ so ≤ 5 ∧ ¬ so = 4 ∧ p < e) → (p < e → nI so = (if (I 303 p).toInt = 59 then 3 else 5)) → pm_W (g_P ys) 279 96 [.ref 275] [.int (nI so), .ref 275] (pm_u I' 275 49 (nI (p + 1)), L', g_R s, 306) (0, 0) Q := by
      intro so hso hso2
      have k2 : dS I (pm_u (pm_u I' 275 49 (nI (p + 1))) 275 50 (nI so)) p (p + 1) := dS_sort k1
      have hE : dE I (pm_u (pm_u I' 275 49 (nI (p + 1))) 275 50 (nI so)) t := by
        refine ⟨p, p + 1, k2, hp8, by omega, ?_⟩
        rcases hso with ⟨h1, h2⟩ | ⟨h1, h2, h3, h4⟩
        · subst h1
          exact Or.inl ⟨pu_s, by omega⟩
        · exact Or.inr ⟨so, h1, h2, pu_s, by omega, fun q => absurd q h3⟩
      refine ps_pfi 11 50 rfl rfl rfl rfl rfl ?_
      refine ps_aload rfl rfl ?_
      refine ps_aload rfl rfl ?_
      show pm_W (g_P ys) 279 101 [.ref 275] [.ref 275, .ref 275] (pm_u (pm_u I' 275 49 (nI (p + 1))) 275 50 (nI so), L', g_R s, 306) (0, 0) Q
      refine ps_gfi 11 48 rfl rfl rfl rfl rfl ?_
      rw [show ((pm_u (pm_u I' 275 49 (nI (p + 1))) 275 50 (nI so), L', g_R s, 306) : pm_H).1 275 48 = nI p from k2.2.1]
      refine pw_c rfl ?_
      refine pw_c rfl ?_
      refine pw_k rfl rfl rfl rfl ⟨Nat.zero_le _, Nat.zero_le _⟩ ?_
      refine M_isOf (dS_end k2 he) he8 (by omega) _ _ ?_
      rw [dS_tape k2]
      cases hb : oB (I 303) e p (97 : Int32).toInt64 (122 : Int32).toInt64 with
      | true =>
        have hpe := oB_lt hb
        refine ps_iff rfl (rfl) ?_
        refine ps_aload rfl rfl ?_
        refine pw_c rfl ?_
        refine ps_pfl 11 54 rfl rfl rfl rfl rfl ?_
        refine ps_aload rfl rfl ?_
        refine ps_aload rfl rfl ?_
        refine ps_gfi 11 48 rfl rfl rfl rfl rfl ?_
        refine ps_pfi 11 49 rfl rfl rfl rfl rfl ?_
        refine word p hp hpe hbl hb (e - p) p (by omega) (by omega) _ _ (dS_then k2 k2.2.1) (lA_u lq) (fun j j1 j2 => by omega) (fun _ => ?_)
        show pm_u L' 275 54 0 275 54 = _
        unfold pm_u
        rw [if_pos rfl, if_pos rfl, Nat.sub_self]
        rfl
      | false =>
        refine ps_ift rfl (rfl) ?_
        refine ps_aload rfl rfl ?_
        refine ps_aload rfl rfl ?_
        refine ps_gfi 11 48 rfl rfl rfl rfl rfl ?_
        rw [show ((pm_u (pm_u I' 275 49 (nI (p + 1))) 275 50 (nI so), L', g_R s, 306) : pm_H).1 275 48 = nI p from k2.2.1]
        refine pw_c rfl ?_
        refine pw_c rfl ?_
        refine pw_k rfl rfl rfl rfl ⟨Nat.zero_le _, Nat.zero_le _⟩ ?_
        refine M_isOf (dS_end k2 he) he8 (by omega) _ _ ?_
        rw [dS_tape k2]
        cases hb2 : oB (I 303) e p (48 : Int32).toInt64 (57 : Int32).toInt64 with
        | true =>
          have hpe := oB_lt hb2
          refine ps_iff rfl (rfl) ?_
          refine ps_aload rfl rfl ?_
          refine pw_c rfl ?_
          refine ps_pfi 11 51 rfl rfl rfl rfl rfl ?_
          refine ps_aload rfl rfl ?_
          refine ps_aload rfl rfl ?_
          refine ps_gfi 11 48 rfl rfl rfl rfl rfl ?_
          refine ps_pfi 11 49 rfl rfl rfl rfl rfl ?_
          refine numb p hp hpe hbl hb2 (e - p) p (by omega) (by omega) _ _ (dS_then (dS_number k2 (x := 0) (by decide) (by decide)) ?_) lq (fun j j1 j2 => by omega) (fun _ => ⟨?_, ?_⟩)
          · show pm_u (pm_u (pm_u I' 275 49 (nI (p + 1))) 275 50 (nI so)) 275 51 0 275 48 = nI p
            rw [pu_n (by decide)]
            exact k2.2.1
          · show (pm_u (pm_u (pm_u (pm_u I' 275 49 (nI (p + 1))) 275 50 (nI so)) 275 51 0) 275 49 _ 275 51).toInt < _
            rw [pu_n (by decide), pu_s, Nat.sub_self]
            decide
          · show pm_u (pm_u (pm_u (pm_u I' 275 49 (nI (p + 1))) 275 50 (nI so)) 275 51 0) 275 49 _ 275 51 = _
            rw [pu_n (by decide), pu_s, Nat.sub_self]
            rfl
        | false =>
          refine ps_ift rfl (rfl) ?_
          refine ps_aload rfl rfl ?_
          refine ps_aload rfl rfl ?_
          refine ps_gfi 11 48 rfl rfl rfl rfl rfl ?_
          rw [show ((pm_u (pm_u I' 275 49 (nI (p + 1))) 275 50 (nI so), L', g_R s, 306) : pm_H).1 275 48 = nI p from k2.2.1]
          refine pw_c rfl ?_
          refine pw_c rfl ?_
          refine pw_k rfl rfl rfl rfl ⟨Nat.zero_le _, Nat.zero_le _⟩ ?_
          refine M_isOf (dS_end k2 he) he8 (by omega) _ _ ?_
          rw [dS_tape k2]
          cases hb3 : oB (I 303) e p (35 : Int32).toInt64 (35 : Int32).toInt64 with
          | false =>
            refine ps_ift rfl (rfl) ?_
            refine fin _ _ hE lq (fun te => ⟨p, p + 1, k2.2.1, k2.2.2.1, hp, hbl, ?_⟩)
            by_cases hpe : p < e
            · refine Or.inr ⟨hpe, by omega, by omega, hnb2 hpe, if (I 303 p).toInt = 59 then 5 else 1, 0, Or.inr (Or.inr (Or.inr ⟨oB_no hb hpe, oB_no hb2 hpe, fun q => oB_no hb3 hpe ⟨by rw [q]; decide, by rw [q]; decide⟩, rfl, rfl, rfl⟩)), ?_, fun q => ?_, fun q => ?_, fun q => ?_⟩
              · show pm_u (pm_u I' 275 49 (nI (p + 1))) 275 50 (nI so) 275 50 = _
                rw [pu_s, hso2 hpe]
                split <;> rfl
              · split at q <;> exact absurd q (by decide)
              · split at q <;> exact absurd q (by decide)
              · split at q <;> exact absurd q (by decide)
            · refine Or.inl ⟨by have := hpe0 te; omega, rfl, ?_⟩
              show pm_u (pm_u I' 275 49 (nI (p + 1))) 275 50 (nI so) 275 50 = 0
              rw [pu_s]
              rcases hso with ⟨h1, _⟩ | ⟨_, _, _, h4⟩
              · rw [h1]; rfl
              · omega
          | true =>
            have hpe := oB_lt hb3
            refine ps_iff rfl (rfl) ?_
            refine ps_aload rfl rfl ?_
            refine pw_c rfl ?_
            refine ps_pfl 11 54 rfl rfl rfl rfl rfl ?_
            refine ps_aload rfl rfl ?_
            refine ps_aload rfl rfl ?_
            refine ps_gfi 11 48 rfl rfl rfl rfl rfl ?_
            refine pw_c rfl ?_
            refine ps_ar rfl rfl rfl rfl rfl ?_
            refine ps_pfi 11 49 rfl rfl rfl rfl rfl ?_
            have h35 : (I 303 p).toInt = 35 := by
              have q := (oB_in hb3).2
              have c35 : (35 : Int32).toInt = 35 := rfl
              unfold inR at q
              omega
            refine bits p hp hpe hbl h35 (e - (p + 1)) (p + 1) (by omega) (by omega) _ _ (dS_then k2 ?_) (lA_u lq) (fun j j1 j2 => by omega) (fun _ => ?_)
            · show pm_u (pm_u I' 275 49 (nI (p + 1))) 275 50 (nI so) 275 48 + 1 = _
              rw [k2.2.1]
              exact nI_1 p
            · show pm_u L' 275 54 0 275 54 = _
              unfold pm_u
              rw [if_pos rfl, if_pos rfl, show p + 1 - p - 1 = 0 by omega]
              rfl
    refine ps_aload rfl rfl ?_
    refine ps_aload rfl rfl ?_
    refine ps_gfi 11 48 rfl rfl rfl rfl rfl ?_
    rw [show ((pm_u I' 275 49 (nI (p + 1)), L', g_R s, 306) : pm_H).1 275 48 = nI p from k1.2.1]
    refine ps_aload rfl rfl ?_
    refine ps_gfi 11 52 rfl rfl rfl rfl rfl ?_
    rw [show ((pm_u I' 275 49 (nI (p + 1)), L', g_R s, 306) : pm_H).1 275 52 = nI e from dS_end k1 he]
    by_cases hpe : p < e
    · refine ps_icmpt rfl (by rw [show pm_cmp .lt (nI p) (nI e) = decide (nI p < nI e) from rfl]; exact decide_eq_true ((i_lt _ _).mpr (by rw [nI_toInt (by omega), nI_toInt (by omega)]; omega))) ?_
      refine ps_aload rfl rfl ?_
      refine ps_gfr 11 42 rfl rfl rfl rfl rfl (rfl) ?_
      refine ps_aload rfl rfl ?_
      refine ps_gfi 11 48 rfl rfl rfl rfl rfl ?_
      refine ps_bald (p) rfl rfl (Or.inl rfl) rfl (k1.2.1) (by omega) ?_
      have tp : pm_u I' 275 49 (nI (p + 1)) 303 p = I 303 p := congrFun (dS_tape k1) p
      rw [show ((pm_u I' 275 49 (nI (p + 1)), L', g_R s, 306) : pm_H).1 303 p = I 303 p from tp]
      refine pw_c rfl ?_
      refine ps_icmp rfl (fun hs9 => ?_) (fun hs9 => ?_)
      · have hs9 : ¬ I 303 p = 59 := of_decide_eq_true hs9
        refine pw_c rfl ?_
        exact more 5 (Or.inr ⟨by omega, by omega, by omega, hpe⟩) (fun _ => by rw [if_neg (show ¬ (I 303 p).toInt = 59 from fun q => hs9 ((i_eq _ _).mpr (by rw [q]; rfl)))]; rfl)
      · have hs9 : ¬ ¬ I 303 p = 59 := of_decide_eq_false hs9
        have hs9 : I 303 p = 59 := Decidable.byContradiction hs9
        refine pw_c rfl ?_
        refine ps_goto rfl ?_
        exact more 3 (Or.inr ⟨by omega, by omega, by omega, hpe⟩) (fun _ => by rw [hs9]; rfl)
    · refine ps_icmpf rfl (by rw [show pm_cmp .lt (nI p) (nI e) = decide (nI p < nI e) from rfl]; exact decide_eq_false (fun q => by rw [i_lt, nI_toInt (by omega), nI_toInt (by omega)] at q; omega)) ?_
      refine pw_c rfl ?_
      refine ps_goto rfl ?_
      exact more 0 (Or.inl ⟨rfl, by omega⟩) (fun q => absurd q hpe)
  -- blanks
  have blank : ∀ d p, p + d = 801 → t ≤ p → p ≤ 800 → (t ≤ e → p ≤ e) → (∀ j, t ≤ j → j < p → blk (I 303 j)) → ∀ I' L' i, dS I I' p i → lA L L' → pm_W (g_P ys) 279 8 [.ref 275] [] (I', L', g_R s, 306) (0, 0) Q := by
    intro d
    induction d with
    | zero => intro p h1 h2 h3; omega
    | succ d ih =>
      intro p hpd hp hp8 hpe0 hbl I' L' i k lq
      have go : p < e → blk (I 303 p) → pm_W (g_P ys) 279 38 [.ref 275] [] (I', L', g_R s, 306) (0, 0) Q := by
        intro hpe hbp
        have hbl2 : ∀ j, t ≤ j → j < p + 1 → blk (I 303 j) := fun j j1 j2 => by
          by_cases q : j = p
          · rw [q]; exact hbp
          · exact hbl j j1 (by omega)
        refine ps_aload rfl rfl ?_
        refine ps_ar rfl rfl rfl rfl rfl ?_
        refine ps_gfi 11 48 rfl rfl rfl rfl rfl ?_
        refine pw_c rfl ?_
        refine ps_ar rfl rfl rfl rfl rfl ?_
        refine ps_pfi 11 48 rfl rfl rfl rfl rfl ?_
        refine ps_goto rfl ?_
        obtain ⟨k1, k2, k3, k4, k5⟩ := k
        refine ih (p + 1) (by omega) (by omega) (by omega) (fun _ => by omega) hbl2 _ _ i ⟨dAg_u k1 (by decide), ?_, ?_, ?_, ?_⟩ lq
        · show pm_u I' 275 48 (I' 275 48 + 1) 275 48 = _
          rw [pu_s, k2]
          exact nI_1 p
        · show pm_u I' 275 48 _ 275 49 = _
          rw [pu_n (by decide)]; exact k3
        · show 0 ≤ (pm_u I' 275 48 _ 275 51).toInt ∧ (pm_u I' 275 48 _ 275 51).toInt ≤ 9999
          rw [pu_n (by decide)]; exact k4
        · show 0 ≤ (pm_u I' 275 48 _ 275 53).toInt ∧ (pm_u I' 275 48 _ 275 53).toInt ≤ 800
          rw [pu_n (by decide)]; exact k5
      refine ps_aload rfl rfl ?_
      refine ps_aload rfl rfl ?_
      refine ps_gfi 11 48 rfl rfl rfl rfl rfl ?_
      rw [show ((I', L', g_R s, 306) : pm_H).1 275 48 = nI p from k.2.1]
      refine pw_c rfl ?_
      refine pw_c rfl ?_
      refine pw_k rfl rfl rfl rfl ⟨Nat.zero_le _, Nat.zero_le _⟩ ?_
      refine M_isOf (dS_end k he) he8 (by omega) _ _ ?_
      rw [dS_tape k]
      cases hb : oB (I 303) e p (32 : Int32).toInt64 (32 : Int32).toInt64 with
      | true =>
        refine ps_ift rfl (rfl) ?_
        exact go (oB_lt hb) (Or.inr (by have q := (oB_in hb).2; have c32 : (32 : Int32).toInt = 32 := rfl; unfold inR at q; omega))
      | false =>
        refine ps_iff rfl (rfl) ?_
        refine ps_aload rfl rfl ?_
        refine ps_aload rfl rfl ?_
        refine ps_gfi 11 48 rfl rfl rfl rfl rfl ?_
        rw [show ((I', L', g_R s, 306) : pm_H).1 275 48 = nI p from k.2.1]
        refine pw_c rfl ?_
        refine pw_c rfl ?_
        refine pw_k rfl rfl rfl rfl ⟨Nat.zero_le _, Nat.zero_le _⟩ ?_
        refine M_isOf (dS_end k he) he8 (by omega) _ _ ?_
        rw [dS_tape k]
        cases hb2 : oB (I 303) e p (10 : Int32).toInt64 (10 : Int32).toInt64 with
        | true =>
          refine ps_iff rfl (rfl) ?_
          exact go (oB_lt hb2) (Or.inl (by have q := (oB_in hb2).2; have c10 : (10 : Int32).toInt = 10 := rfl; unfold inR at q; omega))
        | false =>
          refine ps_ift rfl (rfl) ?_
          exact tok p hp hp8 hpe0 hbl (fun hpe q => Or.elim q (fun q => oB_no hb2 hpe ⟨by rw [q]; decide, by rw [q]; decide⟩) (fun q => oB_no hb hpe ⟨by rw [q]; decide, by rw [q]; decide⟩)) _ _ i k lq
  refine ps_aload rfl rfl ?_
  refine ps_aload rfl rfl ?_
  refine ps_gfi 11 49 rfl rfl rfl rfl rfl ?_
  refine ps_pfi 11 48 rfl rfl rfl rfl rfl ?_
  refine blank (801 - t) t (by omega) (by omega) ht8 (fun q => q) (fun j j1 j2 => by omega) _ _ t ⟨dAg_u (fun _ _ _ => rfl) (by decide), ?_, ?_, ?_, ?_⟩ (fun _ _ _ => rfl)
  · show pm_u I 275 48 (I 275 49) 275 48 = _
    rw [pu_s]; exact ht
  · show pm_u I 275 48 _ 275 49 = _
    rw [pu_n (by decide)]; exact ht
  · show 0 ≤ (pm_u I 275 48 _ 275 51).toInt ∧ (pm_u I 275 48 _ 275 51).toInt ≤ 9999
    rw [pu_n (by decide)]; exact hnb
  · show 0 ≤ (pm_u I 275 48 _ 275 53).toInt ∧ (pm_u I 275 48 _ 275 53).toInt ≤ 800
    rw [pu_n (by decide)]; exact hbb
end IA
