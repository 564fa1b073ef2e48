/-! BY HAND: the model's BITS, exactly -/
section KL
/-- the bits of a text as a number -/
def nB (T : Nat → Int32) (q : Nat) : Nat → Nat
  | 0 => 0
  | d + 1 => 2 * nB T q d + (if (T (q + 1 + d)).toInt = 49 then 1 else 0)
theorem wB_n {T : Nat → Int32} {q : Nat} : ∀ {k : Nat}, (∀ x, x < k → inR 48 49 (T (q + 1 + x))) → wB T q k = Int64.ofInt (nB T q k : Int)
  | 0, _ => rfl
  | d + 1, h => by
    have r := h d (by omega)
    unfold inR at r
    rw [wB, wB_n (fun x hx => h x (by omega)), ← Int64.ofInt_int32ToInt]
    show Int64.ofInt 2 * Int64.ofInt _ + Int64.ofInt _ - Int64.ofInt 48 = _
    rw [← Int64.ofInt_mul, ← Int64.ofInt_add, ← Int64.ofInt_sub, nB]
    refine congrArg Int64.ofInt ?_
    split <;> omega
theorem nB_bit {T : Nat → Int32} {q : Nat} : ∀ {k x : Nat}, x < k → (nB T q k).testBit (k - 1 - x) = decide ((T (q + 1 + x)).toInt = 49)
  | 0, x, h => absurd h (by omega)
  | d + 1, x, h => by
    rw [nB]
    by_cases e : x = d
    · subst e
      rw [show x + 1 - 1 - x = 0 by omega, Nat.testBit_zero]
      split
      · rename_i z
        rw [decide_eq_true z, decide_eq_true (by omega)]
      · rename_i z
        rw [decide_eq_false z, decide_eq_false (by omega)]
    · rw [show d + 1 - 1 - x = (d - 1 - x) + 1 by omega, Nat.testBit_succ, show (2 * nB T q d + (if (T (q + 1 + d)).toInt = 49 then 1 else 0)) / 2 = nB T q d by split <;> omega]
      exact nB_bit (by omega)
theorem sh_40 : ∀ s : Fin 40, (((nI s.val).toInt64 &&& 63).toBitVec.smod 64).toNat = s.val := by decide
theorem bit_1 (v : Int64) : v &&& 1 = 1 ↔ v.toBitVec.getLsbD 0 = true := by
  constructor
  · intro h
    have := congrArg (fun z : Int64 => z.toBitVec.getLsbD 0) h
    simp at this
    exact this
  · intro h
    apply Int64.toBitVec_inj.mp
    apply BitVec.eq_of_getLsbD_eq
    intro i hi
    rw [Int64.toBitVec_and, BitVec.getLsbD_and]
    have one : ∀ i : Fin 64, ¬ i.val = 0 → (1 : Int64).toBitVec.getLsbD i.val = false := by decide
    by_cases e : i = 0
    · subst e
      rw [h]
      rfl
    · rw [one ⟨i, hi⟩ e, Bool.and_false]
theorem bit_s {N s : Nat} (hs : s < 40) : ((Int64.ofInt (N : Int) >>> ((nI s).toInt64 &&& 63)) &&& 1 = 1) ↔ N.testBit s = true := by
  rw [bit_1]
  show ((Int64.ofInt (N : Int)).toBitVec.sshiftRight (((nI s).toInt64 &&& 63).toBitVec.smod 64).toNat).getLsbD 0 = true ↔ _
  rw [sh_40 ⟨s, hs⟩, BitVec.getLsbD_sshiftRight]
  simp only [Nat.add_zero]
  rw [show (Int64.ofInt (N : Int)).toBitVec = BitVec.ofNat 64 N from by rw [Int64.toBitVec_ofInt]; exact BitVec.ofInt_natCast 64 N, BitVec.getLsbD_ofNat]
  have h1 : s < 64 := by omega
  simp [h1]
variable {I I' I'' : Nat → Nat → Int32} {L L' : Nat → Nat → Int64} {n : Nat} {s : Nat → Option Nat} {Q : List Value → pm_H → Prop} {ys : List Int32}
theorem M_makesBits {nm : Int32} {T : Nat → Int32} {q k : Nat} {b : Int64} (hn : I 275 15 = nI n) (hn6 : n < 6) (k1 : 1 ≤ k) (k40 : k ≤ 40) (hT : ∀ x, x < k → inR 48 49 (T (q + 1 + x))) (hb : b = wB T q k) (kk : ∀ I', mkF n I I' → mkP n (pBit nm k (fun x => decide ((T (q + 1 + x)).toInt = 49))) I' → Q [] (I', pm_u L 285 n b, g_R s, 306)) : pm_W (g_P ys) 298 0 [.ref 275, .long b, .retAddr 0, .int (nI k), .retAddr 0, .retAddr 0] [] (I, L, g_R s, 306) (0, 0) Q := by
  obtain ⟨P, hP⟩ : ∃ P, P = pBit nm k (fun x => decide ((T (q + 1 + x)).toInt = 49)) := ⟨_, rfl⟩
  have loop : ∀ d x I' (v5 : Value), x + d = k → hwI (tsI I n 1 (nI k) 0 0 (nI k) 1) I' n P.ho P.we x → pm_W (g_P ys) 298 27 [.ref 275, .long b, .retAddr 0, .int (nI k), .int (nI x), v5] [] (I', pm_u L 285 n b, g_R s, 306) (0, 0) Q := by
    intro d
    induction d with
    | zero =>
      intro x I' v5 hx h
      have hxp : x = k := by omega
      rw [hxp] at h
      refine ps_iload rfl rfl ?_
      refine ps_iload rfl rfl ?_
      refine ps_icmpt rfl (decide_eq_true (nI_le (by omega) (by omega))) ?_
      refine ps_vret rfl rfl ?_
      subst hP
      obtain ⟨z1, z2⟩ := mk_done (I := I) (I' := I') (n := n) (P := pBit nm k (fun x => decide ((T (q + 1 + x)).toInt = 49))) (f := 1) (a := nI k) (b := 0) (d := 0) (by show hwI _ _ _ _ _ (k * 1); rw [Nat.mul_one]; exact h)
      exact kk _ z1 z2
    | succ d ih =>
      intro x I' v5 hx h
      have np : I' 275 15 = nI n := (hw_np h).trans (ts_np.trans hn)
      have next : ∀ (c w : Int32), (if c = 0 then (0 : Int32) else 1) = P.ho x → w = P.we x → pm_W (g_P ys) 298 70 [.ref 275, .long b, .retAddr 0, .int (nI k), .int (nI x), .int c] [.int w, .int c, .int (nI x), .ref 275] (I', pm_u L 285 n b, g_R s, 306) (0, 0) Q := by
        intro c w hc hw
        refine pw_k rfl rfl rfl rfl ⟨Nat.zero_le _, Nat.zero_le _⟩ ?_
        refine M_puts np hn6 (by omega) c w ?_
        refine ps_iinc rfl rfl ?_
        refine ps_goto rfl ?_
        rw [show nI x + Int32.ofInt 1 = nI (x + 1) from nI_1 x]
        exact ih (x + 1) _ _ (by omega) (hw_s h (by omega) hc hw)
      refine ps_iload rfl rfl ?_
      refine ps_iload rfl rfl ?_
      refine ps_icmpf rfl (decide_eq_false (nI_ge (by omega) (by omega))) ?_
      refine ps_lload rfl rfl ?_
      refine ps_iload rfl rfl ?_
      refine pw_c rfl ?_
      refine ps_ar rfl rfl rfl rfl rfl ?_
      refine ps_iload rfl rfl ?_
      refine ps_ar rfl rfl rfl rfl rfl ?_
      rw [show nI k - (1 : Int32) - nI x = nI (k - 1 - x) by rw [show (1 : Int32) = nI 1 from rfl, nI_sub k1, nI_sub (by omega)]]
      refine ps_ar rfl rfl rfl rfl rfl ?_
      refine pw_c rfl ?_
      refine ps_ar rfl rfl rfl rfl rfl ?_
      refine pw_c rfl ?_
      refine ps_ar rfl rfl rfl rfl rfl ?_
      have key := bit_s (N := nB T q k) (s := k - 1 - x) (by omega)
      rw [← wB_n hT, ← hb, nB_bit (show x < k by omega), decide_eq_true_iff] at key
      by_cases e : (T (q + 1 + x)).toInt = 49
      · refine ps_iff rfl (lc_f (key.mpr e)) ?_
        refine pw_c rfl ?_
        refine ps_goto rfl ?_
        refine ps_istore rfl rfl ?_
        refine ps_aload rfl rfl ?_
        refine ps_iload rfl rfl ?_
        refine ps_iload rfl rfl ?_
        refine ps_iload rfl rfl ?_
        refine ps_iff rfl (rfl) ?_
        refine pw_c rfl ?_
        refine ps_goto rfl ?_
        exact next 1 1 (by rw [hP]; exact (if_pos (t := (1 : Int32)) (decide_eq_true e)).symm) (by rw [hP]; exact (if_pos (decide_eq_true e)).symm)
      · refine ps_ift rfl (lc_t (fun z => e (key.mp z))) ?_
        refine pw_c rfl ?_
        refine ps_istore rfl rfl ?_
        refine ps_aload rfl rfl ?_
        refine ps_iload rfl rfl ?_
        refine ps_iload rfl rfl ?_
        refine ps_iload rfl rfl ?_
        refine ps_ift rfl (rfl) ?_
        refine pw_c rfl ?_
        exact next 0 (-1) (by rw [hP]; exact (if_neg (t := (1 : Int32)) (fun z => e (of_decide_eq_true z))).symm) (by rw [hP]; exact (if_neg (fun z => e (of_decide_eq_true z))).symm)
  refine ps_aload rfl rfl ?_
  refine pw_c rfl ?_
  refine ps_iload rfl rfl ?_
  refine pw_c rfl ?_
  refine pw_c rfl ?_
  refine pw_k rfl rfl rfl rfl ⟨Nat.zero_le _, Nat.zero_le _⟩ ?_
  refine M_tells hn hn6 1 (nI k) 0 0 ?_
  have np : pm_u (pm_u (pm_u (pm_u I 279 (7 * n + 2) 1) 279 (7 * n + 3) (nI k)) 279 (7 * n + 4) 0) 279 (7 * n + 5) 0 275 15 = nI n := by rw [pu_o (by decide), pu_o (by decide), pu_o (by decide), pu_o (by decide)]; exact hn
  refine ps_aload rfl rfl ?_
  refine ps_gfr 11 11 rfl rfl rfl rfl rfl (rfl) ?_
  refine ps_aload rfl rfl ?_
  refine ps_gfi 11 15 rfl rfl rfl rfl rfl ?_
  rw [show ((pm_u (pm_u (pm_u (pm_u I 279 (7 * n + 2) 1) 279 (7 * n + 3) (nI k)) 279 (7 * n + 4) 0) 279 (7 * n + 5) 0, L, g_R s, 306) : pm_H).1 275 15 = nI n from np]
  refine ps_lload rfl rfl ?_
  refine ps_last (n) rfl rfl rfl (rfl) (by omega) ?_
  refine ps_aload rfl rfl ?_
  refine ps_iload rfl rfl ?_
  refine pw_c rfl ?_
  refine pw_k rfl rfl rfl rfl ⟨Nat.zero_le _, Nat.zero_le _⟩ ?_
  refine M_sizes np hn6 (nI k) 1 ?_
  refine pw_c rfl ?_
  refine ps_istore rfl rfl ?_
  exact loop k 0 _ _ (by omega) hw_0
end KL
