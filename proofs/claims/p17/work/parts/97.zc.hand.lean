/-! BY HAND: how the class reads a text, exactly, sixth: what stands behind a word -/
section LC
variable {I I' J : Nat → Nat → Int32} {L : Nat → Nat → Int64} {s : Nat → Option Nat} {Q : List Value → pm_H → Prop} {ys : List Int32} {B : sB} {b n c t p g : Nat} {T : Nat → Int32}
theorem slot_step {w0 w1 : Value} {S i len : Nat} {ch : Int32} (hS : Nat.ble 100000 S = true) (hl : (pm_txt (g_P ys) (S - 100000)).length = len + 1) (hlen : len < 100) (hch : (pm_txt (g_P ys) (S - 100000)).getD i 0 = ch) (hi : i ≤ len) (kk : pm_W (g_P ys) 43 0 [.ref 5, .int ch, .ref 1, .ref b] [] (I, L, g_R s, 306) (0, 0) (fun v h' => (v = [.int 0] ∧ Q [.int 0] h') ∨ (v = [.int 1] ∧ pm_W (g_P ys) 31 85 [.ref 5, .ref 1, .ref b, w0, w1, .ref S, .int (nI (i + 1))] [] h' (0, 0) Q))) : pm_W (g_P ys) 31 85 [.ref 5, .ref 1, .ref b, w0, w1, .ref S, .int (nI i)] [] (I, L, g_R s, 306) (0, 0) Q := by
  refine ps_iload rfl rfl ?_
  refine ps_aload rfl rfl ?_
  refine ps_tlen (n := len) rfl hS hl rfl ?_
  refine ps_icmpf rfl (decide_eq_false (nI_ge (by omega) (by omega))) ?_
  refine ps_aload rfl rfl ?_
  refine ps_aload rfl rfl ?_
  refine ps_iload rfl rfl ?_
  refine ps_tchr i (n := len + 1) rfl hS hl (by omega) rfl (by omega) rfl ?_
  rw [hch]
  refine ps_aload rfl rfl ?_
  refine ps_aload rfl rfl ?_
  refine pw_k rfl rfl rfl rfl ⟨Nat.zero_le _, Nat.zero_le _⟩ ?_
  refine pw_imp (fun v h' q => ?_) kk
  rcases q with ⟨rfl, q⟩ | ⟨rfl, q⟩
  · refine ps_iff rfl (rfl) ?_
    refine pw_c rfl ?_
    refine ps_zret rfl rfl (Or.inl rfl) ?_
    exact q
  · refine ps_ift rfl (rfl) ?_
    refine ps_iinc rfl rfl ?_
    refine ps_goto rfl ?_
    rw [show nI i + Int32.ofInt 1 = nI (i + 1) from nI_1 i]
    exact q
theorem slot_end {w0 w1 : Value} {S len : Nat} (hS : Nat.ble 100000 S = true) (hl : (pm_txt (g_P ys) (S - 100000)).length = len + 1) (hlen : len < 100) (kk : pm_W (g_P ys) 31 119 [.ref 5, .ref 1, .ref b, w0, w1, .ref S, .int (nI (len + 1))] [] (I, L, g_R s, 306) (0, 0) Q) : pm_W (g_P ys) 31 85 [.ref 5, .ref 1, .ref b, w0, w1, .ref S, .int (nI (len + 1))] [] (I, L, g_R s, 306) (0, 0) Q := by
  refine ps_iload rfl rfl ?_
  refine ps_aload rfl rfl ?_
  refine ps_tlen (n := len) rfl hS hl rfl ?_
  refine ps_icmpt rfl (decide_eq_true (nI_le (by omega) (by omega))) ?_
  exact kk
theorem S_r (hb : isB b) (hc : cC b J I t) (h8 : t ≤ 800) (hg : I 5 2 = nI g) (g3 : g < 3) (kB : ∀ k u, xPri J 47 t = .error (k, u) → ∀ I', cL b J I' → I' 5 4 = k → I' 5 5 = J 8 u → Q [.int 0] (I', L, g_R s, 306)) (kO : ∀ v, xPri J 47 t = .ok v → Q [.int 1] (givI I g t v, L, g_R s, 306)) : pm_W (g_P ys) 43 0 [.ref 5, .int 114, .ref 1, .ref b] [] (I, L, g_R s, 306) (0, 0) Q := by
  refine ps_iload rfl rfl ?_
  refine ps_brr rfl rfl rfl rfl rfl rfl ?_
  refine ps_aload rfl rfl ?_
  refine pw_c rfl ?_
  refine pw_k rfl rfl rfl rfl ⟨Nat.zero_le _, Nat.zero_le _⟩ ?_
  refine B_takePriX (hi := 47) hb hc h8 hg g3 (fun k u e I' c1 c2 c3 => ?_) (fun v e => ?_)
  · refine ps_zret rfl rfl (Or.inl rfl) ?_
    exact kB k u e I' c1 c2 c3
  · refine ps_zret rfl rfl (Or.inr rfl) ?_
    exact kO v e
theorem S_q (hb : isB b) (hc : cC b J I t) (h8 : t ≤ 800) (hg : I 5 2 = nI g) (g3 : g < 3) (kB : ∀ k u, xPri J 17 t = .error (k, u) → ∀ I', cL b J I' → I' 5 4 = k → I' 5 5 = J 8 u → Q [.int 0] (I', L, g_R s, 306)) (kO : ∀ v, xPri J 17 t = .ok v → Q [.int 1] (givI I g t v, L, g_R s, 306)) : pm_W (g_P ys) 43 0 [.ref 5, .int 113, .ref 1, .ref b] [] (I, L, g_R s, 306) (0, 0) Q := by
  refine ps_iload rfl rfl ?_
  refine ps_brr rfl rfl rfl rfl rfl rfl ?_
  refine ps_aload rfl rfl ?_
  refine pw_c rfl ?_
  refine pw_k rfl rfl rfl rfl ⟨Nat.zero_le _, Nat.zero_le _⟩ ?_
  refine B_takePriX (hi := 17) hb hc h8 hg g3 (fun k u e I' c1 c2 c3 => ?_) (fun v e => ?_)
  · refine ps_zret rfl rfl (Or.inl rfl) ?_
    exact kB k u e I' c1 c2 c3
  · refine ps_zret rfl rfl (Or.inr rfl) ?_
    exact kO v e
theorem S_x (hb : isB b) (hc : cC b J I t) (h8 : t ≤ 800) (hg : I 5 2 = nI g) (g3 : g < 3) (kB : ∀ k u, xNum J 0 99 t = .error (k, u) → ∀ I', cL b J I' → I' 5 4 = k → I' 5 5 = J 8 u → Q [.int 0] (I', L, g_R s, 306)) (kO : ∀ v, xNum J 0 99 t = .ok v → Q [.int 1] (givI I g t v, L, g_R s, 306)) : pm_W (g_P ys) 43 0 [.ref 5, .int 120, .ref 1, .ref b] [] (I, L, g_R s, 306) (0, 0) Q := by
  refine ps_iload rfl rfl ?_
  refine ps_brr rfl rfl rfl rfl rfl rfl ?_
  refine ps_aload rfl rfl ?_
  refine pw_c rfl ?_
  refine pw_c rfl ?_
  refine pw_k rfl rfl rfl rfl ⟨Nat.zero_le _, Nat.zero_le _⟩ ?_
  refine B_takeNumX (lo := 0) (hi := 99) hb hc h8 hg g3 (fun k u e I' c1 c2 c3 => ?_) (fun v e => ?_)
  · refine ps_zret rfl rfl (Or.inl rfl) ?_
    exact kB k u e I' c1 c2 c3
  · refine ps_zret rfl rfl (Or.inr rfl) ?_
    exact kO v e
theorem S_c (hb : isB b) (hc : cC b J I t) (h8 : t ≤ 800) (hg : I 5 2 = nI g) (g3 : g < 3) (kB : ∀ k u, xNum J 1 999 t = .error (k, u) → ∀ I', cL b J I' → I' 5 4 = k → I' 5 5 = J 8 u → Q [.int 0] (I', L, g_R s, 306)) (kO : ∀ v, xNum J 1 999 t = .ok v → Q [.int 1] (givI I g t v, L, g_R s, 306)) : pm_W (g_P ys) 43 0 [.ref 5, .int 99, .ref 1, .ref b] [] (I, L, g_R s, 306) (0, 0) Q := by
  refine ps_iload rfl rfl ?_
  refine ps_brr rfl rfl rfl rfl rfl rfl ?_
  refine ps_aload rfl rfl ?_
  refine pw_c rfl ?_
  refine pw_c rfl ?_
  refine pw_k rfl rfl rfl rfl ⟨Nat.zero_le _, Nat.zero_le _⟩ ?_
  refine B_takeNumX (lo := 1) (hi := 999) hb hc h8 hg g3 (fun k u e I' c1 c2 c3 => ?_) (fun v e => ?_)
  · refine ps_zret rfl rfl (Or.inl rfl) ?_
    exact kB k u e I' c1 c2 c3
  · refine ps_zret rfl rfl (Or.inr rfl) ?_
    exact kO v e
theorem S_w (hb : isB b) (hc : cC b J I t) (h8 : t ≤ 800) (hg : I 5 2 = nI g) (g3 : g < 3) (kB : ∀ k u, xNum J 1 47 t = .error (k, u) → ∀ I', cL b J I' → I' 5 4 = k → I' 5 5 = J 8 u → Q [.int 0] (I', L, g_R s, 306)) (kO : ∀ v, xNum J 1 47 t = .ok v → Q [.int 1] (givI I g t v, L, g_R s, 306)) : pm_W (g_P ys) 43 0 [.ref 5, .int 119, .ref 1, .ref b] [] (I, L, g_R s, 306) (0, 0) Q := by
  refine ps_iload rfl rfl ?_
  refine ps_brr rfl rfl rfl rfl rfl rfl ?_
  refine ps_aload rfl rfl ?_
  refine pw_c rfl ?_
  refine pw_c rfl ?_
  refine pw_k rfl rfl rfl rfl ⟨Nat.zero_le _, Nat.zero_le _⟩ ?_
  refine B_takeNumX (lo := 1) (hi := 47) hb hc h8 hg g3 (fun k u e I' c1 c2 c3 => ?_) (fun v e => ?_)
  · refine ps_zret rfl rfl (Or.inl rfl) ?_
    exact kB k u e I' c1 c2 c3
  · refine ps_zret rfl rfl (Or.inr rfl) ?_
    exact kO v e
theorem S_sig (hb : isB b) (hc : cC b J I t) (h8 : t ≤ 800) (kB : ¬ J 7 t = 5 → ∀ I', cL b J I' → I' 5 4 = eK J t → I' 5 5 = J 8 t → Q [.int 0] (I', L, g_R s, 306)) (kO : J 7 t = 5 → Q [.int 1] (nxtI I t, L, g_R s, 306)) : pm_W (g_P ys) 43 0 [.ref 5, .int 59, .ref 1, .ref b] [] (I, L, g_R s, 306) (0, 0) Q := by
  refine ps_iload rfl rfl ?_
  refine ps_brr rfl rfl rfl rfl rfl rfl ?_
  refine ps_aload rfl rfl ?_
  refine pw_k rfl rfl rfl rfl ⟨Nat.zero_le _, Nat.zero_le _⟩ ?_
  refine B_takeSigX hb hc h8 (fun e I' c1 c2 c3 => ?_) (fun e => ?_)
  · refine ps_zret rfl rfl (Or.inl rfl) ?_
    exact kB e I' c1 c2 c3
  · refine ps_zret rfl rfl (Or.inr rfl) ?_
    exact kO e
theorem xNmd_n (ok : B.ok) : xNmd J B 289 289 t = xNam J B t := by
  unfold xNmd
  cases e : xNam J B t with
  | error e' => rfl
  | ok k =>
    have z := ok_sz ok (xNam_lt e)
    have := sz_b z
    exact if_pos ⟨this.1, this.2⟩
theorem xNmd_b (ok : B.ok) {wd : Nat} (w0 : 0 < wd) : xNmd J B (289 / wd) 1 t = xNaB J B wd t := by
  unfold xNmd xNaB
  cases e : xNam J B t with
  | error e' => rfl
  | ok k =>
    have z := ok_sz ok (xNam_lt e)
    have v0 := z.2.1
    by_cases q : (B.pl k).v = 1 ∧ (B.pl k).w * wd ≤ 289
    · show (if _ then _ else _) = (if _ then _ else _)
      rw [if_pos q, if_pos ⟨(Nat.le_div_iff_mul_le w0).mpr q.2, by omega⟩]
    · show (if _ then _ else _) = (if _ then _ else _)
      rw [if_neg q, if_neg (fun y => q ⟨by omega, (Nat.le_div_iff_mul_le w0).mp y.1⟩)]
theorem S_n (hb : isB b) (hc : cC b J I t) (h8 : t ≤ 800) (hB : cBp b B I) (ok : B.ok) (hg : I 5 2 = nI g) (g3 : g < 3) (kB : ∀ k u, xNam J B t = .error (k, u) → ∀ I', cL b J I' → I' 5 4 = k → I' 5 5 = J 8 u → Q [.int 0] (I', L, g_R s, 306)) (kO : ∀ k, xNam J B t = .ok k → Q [.int 1] (givI I g t (nI k), L, g_R s, 306)) : pm_W (g_P ys) 43 0 [.ref 5, .int 110, .ref 1, .ref b] [] (I, L, g_R s, 306) (0, 0) Q := by
  refine ps_iload rfl rfl ?_
  refine ps_brr rfl rfl rfl rfl rfl rfl ?_
  refine ps_aload rfl rfl ?_
  refine ps_aload rfl rfl ?_
  refine pw_c rfl ?_
  refine pw_c rfl ?_
  refine pw_k rfl rfl rfl rfl ⟨Nat.zero_le _, Nat.zero_le _⟩ ?_
  refine B_takeNamedX (mw := 289) (mh := 289) hb hc h8 hB ok hg g3 (by omega) (by omega) (fun k u e I' c1 c2 c3 => ?_) (fun v e => ?_)
  · refine ps_zret rfl rfl (Or.inl rfl) ?_
    exact kB k u ((xNmd_n ok).symm.trans e) I' c1 c2 c3
  · refine ps_zret rfl rfl (Or.inr rfl) ?_
    exact kO v ((xNmd_n ok).symm.trans e)
theorem S_a (hb : isB b) (hc : cC b J I t) (h8 : t ≤ 800) (hB : cBp b B I) (ok : B.ok) (hg : I 5 2 = nI g) (g3 : g < 3) (kB : ∀ k u, xNaB J B 1 t = .error (k, u) → ∀ I', cL b J I' → I' 5 4 = k → I' 5 5 = J 8 u → Q [.int 0] (I', L, g_R s, 306)) (kO : ∀ k, xNaB J B 1 t = .ok k → Q [.int 1] (givI I g t (nI k), L, g_R s, 306)) : pm_W (g_P ys) 43 0 [.ref 5, .int 97, .ref 1, .ref b] [] (I, L, g_R s, 306) (0, 0) Q := by
  have e1 : xNmd J B 289 1 t = xNaB J B 1 t := xNmd_b (wd := 1) ok (by omega)
  refine ps_iload rfl rfl ?_
  refine ps_brr rfl rfl rfl rfl rfl rfl ?_
  refine ps_aload rfl rfl ?_
  refine ps_aload rfl rfl ?_
  refine pw_c rfl ?_
  refine pw_c rfl ?_
  refine pw_k rfl rfl rfl rfl ⟨Nat.zero_le _, Nat.zero_le _⟩ ?_
  refine B_takeNamedX (mw := 289) (mh := 1) hb hc h8 hB ok hg g3 (by omega) (by omega) (fun k u e I' c1 c2 c3 => ?_) (fun v e => ?_)
  · refine ps_zret rfl rfl (Or.inl rfl) ?_
    exact kB k u (e1.symm.trans e) I' c1 c2 c3
  · refine ps_zret rfl rfl (Or.inr rfl) ?_
    exact kO v (e1.symm.trans e)
theorem S_b {l : Nat} (hb : isB b) (hc : cC b J I t) (h8 : t ≤ 800) (hB : cBp b B I) (ok : B.ok) (hg : I 5 2 = nI g) (g3 : g < 3) (hl : l < B.ps) (g0 : I 11 0 = nI l) (kB : ∀ k u, xNaB J B (B.pl l).w t = .error (k, u) → ∀ I', cL b J I' → I' 5 4 = k → I' 5 5 = J 8 u → Q [.int 0] (I', L, g_R s, 306)) (kO : ∀ k, xNaB J B (B.pl l).w t = .ok k → Q [.int 1] (givI I g t (nI k), L, g_R s, 306)) : pm_W (g_P ys) 43 0 [.ref 5, .int 98, .ref 1, .ref b] [] (I, L, g_R s, 306) (0, 0) Q := by
  obtain ⟨hS0, hS1, hS2, hS3, hS4, hR0, hR1, hR2, hR3, hR4, hR5, hR6, hR7⟩ := bn_F (ys := ys) (s := s) hb
  have p6 := ok.1
  have hS5 := (pl_F (ys := ys) (s := s) (isP_of hb (show l < 6 by omega))).1
  have w0 := (ok_sz ok hl).1
  have wb := (sz_b (ok_sz ok hl)).1
  have e1 : xNmd J B (289 / (B.pl l).w) 1 t = xNaB J B (B.pl l).w t := xNmd_b ok w0
  refine ps_iload rfl rfl ?_
  refine ps_brr rfl rfl rfl rfl rfl rfl ?_
  refine ps_aload rfl rfl ?_
  refine ps_aload rfl rfl ?_
  refine pw_c rfl ?_
  refine ps_aload rfl rfl ?_
  refine ps_aload rfl rfl ?_
  refine ps_gfr 2 1 rfl rfl rfl rfl rfl (rfl) ?_
  refine pw_c rfl ?_
  refine ps_iald (0) rfl rfl rfl (rfl) (by omega) ?_
  rw [show ((I, L, g_R s, 306) : pm_H).1 11 0 = nI l from g0]
  refine pv_k rfl rfl rfl rfl rfl (hS0 _ _) rfl ⟨Nat.zero_le _, Nat.zero_le _⟩ ?_
  refine B_namedX hb hB.1 (by omega) hl ?_
  refine ps_gfi 9 4 rfl rfl rfl (by first | exact hS0 _ _ | exact hS1 _ _ | exact hS2 _ _ | exact hS3 _ _ | exact hS4 _ _ | exact hS5 _ _ | exact hS6 _ _ | exact hS7 _ _ | exact hS8 _ _ | exact hS9 _ _ | exact hS10 _ _ | exact hS11 _ _ | exact hS12 _ _ | exact hS13 _ _ | assumption | rfl) rfl ?_
  rw [show ((I, L, g_R s, 306) : pm_H).1 (b + 17 + 4 * l) 4 = nI (B.pl l).w from (hB.2 l hl).1.1.1]
  refine ps_div rfl (nI_nz w0 (by omega)) ?_
  rw [show (289 : Int32) / nI (B.pl l).w = nI (289 / (B.pl l).w) from nI_div (a := 289) (by omega) (by omega)]
  refine pw_c rfl ?_
  refine pw_k rfl rfl rfl rfl ⟨Nat.zero_le _, Nat.zero_le _⟩ ?_
  refine B_takeNamedX (mw := 289 / (B.pl l).w) (mh := 1) hb hc h8 hB ok hg g3 (Nat.div_le_self _ _) (by omega) (fun k u e I' c1 c2 c3 => ?_) (fun v e => ?_)
  · refine ps_zret rfl rfl (Or.inl rfl) ?_
    exact kB k u (e1.symm.trans e) I' c1 c2 c3
  · refine ps_zret rfl rfl (Or.inr rfl) ?_
    exact kO v (e1.symm.trans e)
theorem S_bits (hb : isB b) (hc : cC b J I t) (h8 : t ≤ 800) (p6 : B.ps < 6) (hp : p = b + 17 + 4 * B.ps) (hB : I b 3 = nI B.ps) (S : stX (fun j => J 2 j) T J n c) (ht : t ≤ c) (kB : ¬ J 7 t = 4 → ∀ I', cL b J I' → I' 5 4 = eK J t → I' 5 5 = J 8 t → Q [.int 0] (I', L, g_R s, 306)) (kO : J 7 t = 4 → ∀ k I', k = (J 10 t).toInt.toNat → 1 ≤ k → k ≤ 40 → cM p I I' → (∀ j, I' 11 j = I 11 j) → I' p 3 = I p 3 → I' 5 3 = nI (t + 1) → I' 5 4 = I 5 4 → I' 5 5 = I 5 5 → cP I' p k 1 → I' p 9 = 0 → (∀ x, x < k → I' (p + 1) x = if btF (fun j => J 2 j) J t x = true then 1 else 0) → Q [.int 1] (I', L, g_R s, 306)) : pm_W (g_P ys) 43 0 [.ref 5, .int 35, .ref 1, .ref b] [] (I, L, g_R s, 306) (0, 0) Q := by
  obtain ⟨hS0, hS1, hS2, hS3, hS4, hR0, hR1, hR2, hR3, hR4, hR5, hR6, hR7⟩ := bn_F (ys := ys) (s := s) hb
  refine ps_iload rfl rfl ?_
  refine ps_brr rfl rfl rfl rfl rfl rfl ?_
  refine ps_aload rfl rfl ?_
  refine ps_aload rfl rfl ?_
  refine ps_aload rfl rfl ?_
  refine pv_k rfl rfl rfl rfl rfl (hS0 _ _) rfl ⟨Nat.zero_le _, Nat.zero_le _⟩ ?_
  refine B_nextX hb hB p6 ?_
  rw [← hp]
  refine pw_k rfl rfl rfl rfl ⟨Nat.zero_le _, Nat.zero_le _⟩ ?_
  refine B_takeBitsX hb hc h8 (by rw [hp]; exact isP_of hb p6) (by omega) S ht (fun e I' c1 c2 c3 => ?_) (fun e k I' a1 a2 a3 a4 a5 a6 a7 b1 b2 a8 a9 a10 => ?_)
  · refine ps_zret rfl rfl (Or.inl rfl) ?_
    exact kB e I' c1 c2 c3
  · refine ps_zret rfl rfl (Or.inr rfl) ?_
    exact kO e k I' a1 a2 a3 a4 a5 a6 a7 b1 b2 a8 a9 a10
theorem S_plc {w : Nat} (hb : isB b) (hc : cC b J I t) (p6 : B.ps < 6) (hp : p = b + 17 + 4 * B.ps) (hB : I b 3 = nI B.ps) (S : stX (fun j => J 2 j) T J n c) (ht : t ≤ c) (hJ : J 6 4 = nI (c + 1)) (hg : I 11 0 = nI w) (w1 : 1 ≤ w) (w2 : w ≤ 47) (kB : ∀ k u, xPlc J w (c - t) t (fun _ => 0) = .error (k, u) → ∀ I', cL b J I' → I' 5 4 = k → I' 5 5 = J 8 u → Q [.int 0] (I', L, g_R s, 306)) (kO : ∀ u h, xPlc J w (c - t) t (fun _ => 0) = .ok (u, h) → ∀ I', cM p I I' → (∀ j, I' 11 j = I 11 j) → I' p 3 = I p 3 → I' 5 3 = nI u → I' 5 4 = I 5 4 → I' 5 5 = I 5 5 → cP I' p w 1 → I' p 9 = 0 → (∀ x, x < w → I' (p + 1) x = h x) → Q [.int 1] (I', L, g_R s, 306)) : pm_W (g_P ys) 43 0 [.ref 5, .int 42, .ref 1, .ref b] [] (I, L, g_R s, 306) (0, 0) Q := by
  obtain ⟨hS0, hS1, hS2, hS3, hS4, hR0, hR1, hR2, hR3, hR4, hR5, hR6, hR7⟩ := bn_F (ys := ys) (s := s) hb
  refine ps_iload rfl rfl ?_
  refine ps_brr rfl rfl rfl rfl rfl rfl ?_
  refine ps_aload rfl rfl ?_
  refine ps_aload rfl rfl ?_
  refine pv_k rfl rfl rfl rfl rfl (hS0 _ _) rfl ⟨Nat.zero_le _, Nat.zero_le _⟩ ?_
  refine B_nextX hb hB p6 ?_
  rw [← hp]
  refine pw_k rfl rfl rfl rfl ⟨Nat.zero_le _, Nat.zero_le _⟩ ?_
  refine B_takePlacesX hb hc (by rw [hp]; exact isP_of hb p6) (by omega) S ht hJ hg w1 w2 (fun k u e I' c1 c2 c3 => ?_) (fun u h e I' a4 a5 a6 a7 b1 b2 a8 a9 a10 => ?_)
  · refine ps_zret rfl rfl (Or.inl rfl) ?_
    exact kB k u e I' c1 c2 c3
  · refine ps_zret rfl rfl (Or.inr rfl) ?_
    exact kO u h e I' a4 a5 a6 a7 b1 b2 a8 a9 a10
end LC
