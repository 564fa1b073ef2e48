/-! BY HAND: how a text is read, fifth: sets -/
def cn (f : Nat → Int32) : Nat → Nat
  | 0 => 0
  | k + 1 => cn f k + (if f k = 1 then 1 else 0)
theorem cn_le {f : Nat → Int32} : ∀ {k : Nat}, cn f k ≤ k
  | 0 => Nat.le_refl _
  | k + 1 => by
    have := cn_le (f := f) (k := k)
    rw [cn]
    split <;> omega
theorem cn_lt {f : Nat → Int32} {i : Nat} (h : ¬ f i = 1) : ∀ {k : Nat}, i < k → cn f k < k
  | 0, q => by omega
  | k + 1, q => by
    rw [cn]
    by_cases e : i = k
    · subst e
      rw [if_neg h]
      have := cn_le (f := f) (k := i)
      omega
    · have := cn_lt h (k := k) (by omega)
      split <;> omega
theorem cn_congr {f g : Nat → Int32} : ∀ {k : Nat}, (∀ c, c < k → g c = f c) → cn g k = cn f k
  | 0, _ => rfl
  | k + 1, h => by rw [cn, cn, cn_congr (fun c hc => h c (by omega)), h k (by omega)]
theorem cn_0 {f : Nat → Int32} : ∀ {k : Nat}, (∀ c, c < k → f c = 0) → cn f k = 0
  | 0, _ => rfl
  | k + 1, h => by rw [cn, cn_0 (fun c hc => h c (by omega)), h k (by omega)]; rfl
theorem cn_set {f g : Nat → Int32} {i : Nat} (h : ¬ f i = 1) (hg : ∀ c, ¬ c = i → g c = f c) (hi : g i = 1) : ∀ {k : Nat}, i < k → cn g k = cn f k + 1
  | 0, q => by omega
  | k + 1, q => by
    rw [cn, cn]
    by_cases e : i = k
    · subst e
      rw [if_neg h, if_pos hi, cn_congr (fun c hc => hg c (by omega))]
    · rw [cn_set h hg hi (k := k) (by omega), hg k (by omega)]
      omega
section IJ
variable {ys : List Int32} {I : Nat → Nat → Int32} {L : Nat → Nat → Int64} {s : Nat → Option Nat} {Q : List Value → pm_H → Prop} {n : Nat}
theorem M_puts (hn : I 275 15 = nI n) (hn6 : n < 6) {c : Nat} (hc : c < 289) (b w : Int32) (kk : Q [] (pm_u (pm_u I 281 (289 * n + c) (if b = 0 then 0 else 1)) 283 (289 * n + c) w, L, g_R s, 306)) : pm_W (g_P ys) 296 0 [.ref 275, .int (nI c), .int b, .int w] [] (I, L, g_R s, 306) (0, 0) Q := by
  have fin : ∀ x : Int32, x = (if b = 0 then 0 else 1) → pm_W (g_P ys) 296 23 [.ref 275, .int (nI c), .int b, .int w] [.int x, .int (nI (289 * n + c)), .ref 281] (I, L, g_R s, 306) (0, 0) Q := by
    intro x hx
    refine ps_iast (289 * n + c) rfl rfl rfl (rfl) (by omega) ?_
    refine ps_aload rfl rfl ?_
    refine ps_gfr 11 9 rfl rfl rfl rfl rfl (rfl) ?_
    refine pw_c rfl ?_
    refine ps_aload rfl rfl ?_
    refine ps_gfi 11 15 rfl rfl rfl rfl rfl ?_
    rw [show ((pm_sI (I, L, g_R s, 306) 281 (289 * n + c) x) : pm_H).1 275 15 = nI n from hn]
    refine ps_ar rfl rfl rfl rfl rfl ?_
    refine ps_iload rfl rfl ?_
    refine ps_ar rfl rfl rfl rfl rfl ?_
    refine ps_iload rfl rfl ?_
    refine ps_iast (289 * n + c) rfl rfl rfl (by simp only [ni_lit, ni_l0, pk_mul, nI_add, Nat.add_zero]) (by omega) ?_
    refine ps_vret rfl rfl ?_
    rw [hx]
    exact kk
  refine ps_aload rfl rfl ?_
  refine ps_gfr 11 7 rfl rfl rfl rfl rfl (rfl) ?_
  refine pw_c rfl ?_
  refine ps_aload rfl rfl ?_
  refine ps_gfi 11 15 rfl rfl rfl rfl rfl ?_
  rw [show ((I, L, g_R s, 306) : pm_H).1 275 15 = nI n from hn]
  refine ps_ar rfl rfl rfl rfl rfl ?_
  refine ps_iload rfl rfl ?_
  refine ps_ar rfl rfl rfl rfl rfl ?_
  rw [show (289 : Int32) * nI n + nI c = nI (289 * n + c) by simp only [ni_lit, pk_mul, nI_add]]
  refine ps_iload rfl rfl ?_
  refine ps_if rfl (fun hc => ?_) (fun hc => ?_)
  · have hb : b = 0 := by simpa [pm_cmp] using hc
    refine pw_c rfl ?_
    exact fin 0 (by rw [if_pos hb])
  · have hb : ¬ b = 0 := by simpa [pm_cmp] using hc
    refine pw_c rfl ?_
    refine ps_goto rfl ?_
    exact fin 1 (by rw [if_neg hb])
theorem puts_iv (iv : sx_IV xT xtg xPH (I, L, g_R s, 306)) (hn6 : n < 6) {c : Nat} (hc : c < 289) {b w : Int32} (hb : b = 0 ∨ b = 1) : sx_IV xT xtg xPH (pm_u (pm_u I 281 (289 * n + c) b) 283 (289 * n + c) w, L, g_R s, 306) ∧ sx_fr xtg xVP [(56, .ofNat 0, .ofNat 1733), (58, .ofNat 0, .ofNat 1733)] (false, false) (I, L, g_R s, 306) (pm_u (pm_u I 281 (289 * n + c) b) 283 (289 * n + c) w, L, g_R s, 306) := by
  have bw := i_bd w
  have bb : 0 ≤ b.toInt ∧ b.toInt ≤ 1 := by rcases hb with rfl | rfl <;> decide
  have g := sx_mw_ok (xC []) iv (W := [(56, .ofNat 0, .ofNat 1733), (58, .ofNat 0, .ofNat 1733)]) (D := (false, false)) (a := 281) (t := 56) (k := 289 * n + c) (lo := 0) (hi := 1733) (b := (0, 1)) (by decide) (by decide) (by omega) (by omega) (x := b) bb.1 bb.2
  have g2 := sx_mw_ok (xC []) g.1 (W := [(56, .ofNat 0, .ofNat 1733), (58, .ofNat 0, .ofNat 1733)]) (D := (false, false)) (a := 283) (t := 58) (k := 289 * n + c) (lo := 0) (hi := 1733) (b := (-2147483648, 2147483647)) (by decide) (by decide) (by omega) (by omega) (x := w) (by show (-2147483648 : Int) ≤ _; omega) (by show _ ≤ (2147483647 : Int); omega)
  exact ⟨g2.1, sx_fr_trans g.2.1 g2.2.1⟩
theorem M_good (kk : Q [.int (bI (decide (I 275 46 = 0)))] (I, L, g_R s, 306)) : pm_W (g_P ys) 281 0 [.ref 275] [] (I, L, g_R s, 306) (0, 0) Q := by
  refine ps_aload rfl rfl ?_
  refine ps_gfi 11 46 rfl rfl rfl rfl rfl ?_
  refine ps_if rfl (fun hc => ?_) (fun hc => ?_)
  · have hb : ¬ I 275 46 = 0 := by simpa [pm_cmp] using hc
    refine pw_c rfl ?_
    refine ps_zret rfl rfl (Or.inl rfl) ?_
    rw [decide_eq_false hb] at kk
    exact kk
  · have hb : I 275 46 = 0 := by simpa [pm_cmp] using hc
    refine pw_c rfl ?_
    refine ps_goto rfl ?_
    refine ps_zret rfl rfl (Or.inr rfl) ?_
    rw [decide_eq_true hb] at kk
    exact kk
/-- what holds of a set that is being made -/
def sI (I : Nat → Nat → Int32) (n wd : Nat) : Prop := I 275 15 = nI n ∧ I 279 (7 * n) = nI wd ∧ I 279 (7 * n + 1) = nI 1 ∧ I 279 (7 * n + 2) = nI 6 ∧ I 279 (7 * n + 4) = nI (cn (fun c => I 281 (289 * n + c)) wd)
theorem sI_5 {wd : Nat} (k : sI I n wd) (hn6 : n < 6) (h1 : 1 ≤ wd) (h2 : wd ≤ 47) : nPl I n wd 1 ∧ nFm I n := by
  obtain ⟨k1, k2, k3, k4, k5⟩ := k
  have hcn := cn_le (f := fun c => I 281 (289 * n + c)) (k := wd)
  refine ⟨⟨hn6, k2, k3, by omega, by omega, by omega⟩, ?_⟩
  unfold nFm
  rw [k4, k5, nI_toInt (n := 6) (by omega), nI_toInt (n := cn _ _) (by omega)]
  exact ⟨by omega, fun q => by omega, fun q => by omega, fun q => by omega, fun _ => by omega⟩
theorem k_makesSet : xk ys (299, [.inl (2, .ofNat 0, .ofNat 0, 50)], [(0, 15, .ofNat 0, .ofNat 5, 0), (0, 46, .ofNat 0, .ofNat 0, 0), (0, 49, .ofNat 0, .ofNat 800, 0), (0, 50, .ofNat 1, .ofNat 5, 0)], nwW ++ rdW ++ [(50, .ofNat 46, .ofNat 47)], (false, false), [([], [(0, 46, .ofNat 1, .ofNat 6, 0)], [], []), ([], [(0, 15, .ofNat 0, .ofNat 5, 5), (0, 46, .ofNat 0, .ofNat 0, 0), (0, 50, .ofNat 0, .ofNat 0, 0), (0, 49, .ofNat 0, .ofNat 801, 0)], [], []), ([], [(0, 15, .ofNat 0, .ofNat 5, 5), (0, 46, .ofNat 0, .ofNat 0, 0), (0, 50, .ofNat 1, .ofNat 5, 0), (0, 49, .ofNat 0, .ofNat 800, 0)], [], [])]) := by
  intro h vs Q iv va fa kk
  obtain ⟨I, L, s, rfl⟩ := x_form iv
  obtain ⟨_, c1, rfl, ⟨a, rfl, ha, _⟩, va1⟩ := vas_c va
  cases vas_n va1
  cases ref_M ha
  have np : ∃ n : Nat, n ≤ 5 ∧ I 275 15 = nI n := by
    obtain ⟨a', e, q1, q2, _⟩ := fa _ List.mem_cons_self
    cases e
    exact nat_bd (b := 5) q1 q2
  obtain ⟨n, hn5, hn⟩ := np
  -- how it may stand
  have stOK : ∀ h' : pm_H, sx_IV xT xtg xPH h' → sx_fr xtg xVP (nwW ++ rdW ++ [(50, .ofNat 46, .ofNat 47)]) (false, false) (I, L, g_R s, 306) h' → ∀ wd, 1 ≤ wd → wd ≤ 47 → sI h'.1 n wd → (1 ≤ (h'.1 275 46).toInt ∨ ((h'.1 275 46).toInt = 0 ∧ (h'.1 275 50).toInt = 0 ∧ (h'.1 275 49).toInt ≤ 801) ∨ ((h'.1 275 46).toInt = 0 ∧ 1 ≤ (h'.1 275 50).toInt ∧ (h'.1 275 49).toInt ≤ 800)) → Q [] h' := by
    intro h' iv' fr' wd w1 w2 si st
    obtain ⟨I', L', s', rfl⟩ := x_form iv'
    obtain ⟨pl, fm⟩ := sI_5 si (by omega) w1 w2
    have wb := iv'.1 275 46 (.ofNat 46, .ofNat 46, .ofNat 0, .ofNat 6) (by decide) (by decide) (by decide)
    have tb := iv'.1 275 49 (.ofNat 49, .ofNat 49, .ofNat 0, .ofNat 801) (by decide) (by decide) (by decide)
    have sb := iv'.1 275 50 (.ofNat 50, .ofNat 50, .ofNat 0, .ofNat 5) (by decide) (by decide) (by decide)
    have t15 : (I' 275 15).toInt = (n : Int) := by rw [show I' 275 15 = nI n from si.1, nI_toInt (by omega)]
    have f5 : sx_fa xVP (I', L', g_R s', 306) [.ref 275] (0, 15, .ofNat 0, .ofNat 5, 5) := ⟨275, rfl, by show (0 : Int) ≤ (I' 275 15).toInt; omega, by show (I' 275 15).toInt ≤ (5 : Int); omega, Or.inr ⟨n, wd, 1, t15, Int.le_refl _, pl, fm⟩⟩
    rcases st with st | ⟨q1, q2, q3⟩ | ⟨q1, q2, q3⟩
    · refine kk _ _ iv' fr' ⟨_, List.mem_cons_self, trivial, fun f hf => ?_, fun _ q => (by cases q), fun _ q => (by cases q)⟩
      rcases List.mem_cons.mp hf with rfl | hf
      · exact ⟨275, rfl, st, wb.2, Or.inl rfl⟩
      · cases hf
    · refine kk _ _ iv' fr' ⟨_, List.Mem.tail _ (List.Mem.head _), trivial, fun f hf => ?_, fun _ q => (by cases q), fun _ q => (by cases q)⟩
      rcases List.mem_cons.mp hf with rfl | hf
      · exact f5
      rcases List.mem_cons.mp hf with rfl | hf
      · exact ⟨275, rfl, wb.1, Int.le_of_eq q1, Or.inl rfl⟩
      rcases List.mem_cons.mp hf with rfl | hf
      · exact ⟨275, rfl, sb.1, Int.le_of_eq q2, Or.inl rfl⟩
      rcases List.mem_cons.mp hf with rfl | hf
      · exact ⟨275, rfl, tb.1, q3, Or.inl rfl⟩
      · cases hf
    · refine kk _ _ iv' fr' ⟨_, List.Mem.tail _ (List.Mem.tail _ (List.Mem.head _)), trivial, fun f hf => ?_, fun _ q => (by cases q), fun _ q => (by cases q)⟩
      rcases List.mem_cons.mp hf with rfl | hf
      · exact f5
      rcases List.mem_cons.mp hf with rfl | hf
      · exact ⟨275, rfl, wb.1, Int.le_of_eq q1, Or.inl rfl⟩
      rcases List.mem_cons.mp hf with rfl | hf
      · exact ⟨275, rfl, q2, sb.2, Or.inl rfl⟩
      rcases List.mem_cons.mp hf with rfl | hf
      · exact ⟨275, rfl, tb.1, q3, Or.inl rfl⟩
      · cases hf
  -- places one by one
  have loop : ∀ (N : Nat) (h' : pm_H) (wd t : Nat) (u : Value), sx_IV xT xtg xPH h' → sx_fr xtg xVP (nwW ++ rdW ++ [(50, .ofNat 46, .ofNat 47)]) (false, false) (I, L, g_R s, 306) h' → 1 ≤ wd → wd ≤ 47 → sI h'.1 n wd → h'.1 275 49 = nI t → t ≤ 801 → 801 - t ≤ N → (1 ≤ (h'.1 275 46).toInt ∨ ((h'.1 275 46).toInt = 0 ∧ (h'.1 275 50).toInt = 0) ∨ ((h'.1 275 46).toInt = 0 ∧ 1 ≤ (h'.1 275 50).toInt ∧ t ≤ 800)) → pm_W (g_P ys) 299 43 [.ref 275, .int (nI wd), u] [] h' (0, 0) Q := by
    intro N
    induction N using Nat.strongRecOn with
    | ind N ih =>
      intro h' wd t u iv' fr' w1 w2 si ht ht8 hN st
      obtain ⟨I', L', s', rfl⟩ := x_form iv'
      have ht : I' 275 49 = nI t := ht
      have tt : (I' 275 49).toInt = (t : Int) := by rw [ht, nI_toInt (by omega)]
      have out : Q [] (I', L', g_R s', 306) := stOK _ iv' fr' wd w1 w2 si (by
        rcases st with q | ⟨q1, q2⟩ | ⟨q1, q2, q3⟩
        · exact Or.inl q
        · exact Or.inr (Or.inl ⟨q1, q2, by show (I' 275 49).toInt ≤ 801; omega⟩)
        · exact Or.inr (Or.inr ⟨q1, q2, by show (I' 275 49).toInt ≤ 800; omega⟩))
      have ret : pm_W (g_P ys) 299 171 [.ref 275, .int (nI wd), u] [] (I', L', g_R s', 306) (0, 0) Q := by
        refine ps_vret rfl rfl ?_
        exact out
      refine ps_aload rfl rfl ?_
      refine pw_k rfl rfl rfl rfl ⟨Nat.zero_le _, Nat.zero_le _⟩ ?_
      refine M_good ?_
      by_cases hwr : I' 275 46 = 0
      · rw [decide_eq_true hwr]
        have hw0 : (I' 275 46).toInt = 0 := by rw [hwr]; rfl
        refine ps_iff rfl (by decide) ?_
        refine ps_aload rfl rfl ?_
        refine ps_gfi 11 50 rfl rfl rfl rfl rfl ?_
        refine pw_c rfl ?_
        refine ps_icmp rfl (fun hc => ?_) (fun hc => ?_)
        · exact ret
        · have hs2 : I' 275 50 = 2 := by simpa [pm_cmp] using hc
          have hs2' : (I' 275 50).toInt = 2 := by rw [hs2]; rfl
          have t800 : t ≤ 800 := by
            rcases st with q | ⟨q1, q2⟩ | ⟨q1, q2, q3⟩
            · have q : 1 ≤ (I' 275 46).toInt := q
              omega
            · have q2 : (I' 275 50).toInt = 0 := q2
              omega
            · exact q3
          have nub := iv'.1 275 51 (.ofNat 51, .ofNat 51, .ofNat 0, .ofNat 9999) (by decide) (by decide) (by decide)
          obtain ⟨nu, hnu9, hnu⟩ := nat_bd (b := 9999) nub.1 nub.2
          have hnu : I' 275 51 = nI nu := hnu
          have e15 := si.1
          -- it is no place
          have bad : pm_W (g_P ys) 299 92 [.ref 275, .int (nI wd), u] [.ref 275] (I', L', g_R s', 306) (0, 0) Q := by
            refine pw_c rfl ?_
            refine pw_c rfl ?_
            refine pw_k rfl rfl rfl rfl ⟨Nat.zero_le _, Nat.zero_le _⟩ ?_
            refine M_must (fun q => absurd rfl q) (fun _ q => by have q : 0 < (I' 275 46).toInt := q; omega) ?_
            intro _ _ x hx
            have hxb : 1 ≤ x.toInt ∧ x.toInt ≤ 6 := by rcases hx with rfl | rfl <;> decide
            obtain ⟨g1, g2⟩ := must_iv iv' hxb.1 hxb.2
            have hxn : ¬ x = 0 := fun q => by rw [q] at hxb; exact absurd hxb.1 (by decide)
            refine ps_aload rfl rfl ?_
            refine pw_k rfl rfl rfl rfl ⟨Nat.zero_le _, Nat.zero_le _⟩ ?_
            refine M_good ?_
            rw [show decide (pm_u (pm_u I' 275 46 x) 275 47 (I' 275 48) 275 46 = 0) = false by rw [pu_n (by decide), pu_s]; exact decide_eq_false hxn]
            refine ps_iff rfl (by decide) ?_
            refine ps_vret rfl rfl ?_
            refine stOK _ g1 (sx_fr_trans fr' (fr_wk (by decide) g2)) wd w1 w2 ?_ (Or.inl ?_)
            · exact si
            · show 1 ≤ (pm_u (pm_u I' 275 46 x) 275 47 (I' 275 48) 275 46).toInt
              rw [pu_n (by decide), pu_s]
              exact hxb.1
          refine ps_aload rfl rfl ?_
          refine ps_aload rfl rfl ?_
          refine ps_gfi 11 51 rfl rfl rfl rfl rfl ?_
          rw [show ((I', L', g_R s', 306) : pm_H).1 275 51 = nI nu from hnu]
          by_cases hlt : nu < wd
          · refine ps_iload rfl rfl ?_
            refine ps_icmpf rfl (decide_eq_false (nI_ge (by omega) (by omega))) ?_
            refine ps_aload rfl rfl ?_
            refine ps_gfr 11 7 rfl rfl rfl rfl rfl (rfl) ?_
            refine pw_c rfl ?_
            refine ps_aload rfl rfl ?_
            refine ps_gfi 11 15 rfl rfl rfl rfl rfl ?_
            rw [show ((I', L', g_R s', 306) : pm_H).1 275 15 = nI n from e15]
            refine ps_ar rfl rfl rfl rfl rfl ?_
            refine ps_aload rfl rfl ?_
            refine ps_gfi 11 51 rfl rfl rfl rfl rfl ?_
            rw [show ((I', L', g_R s', 306) : pm_H).1 275 51 = nI nu from hnu]
            refine ps_ar rfl rfl rfl rfl rfl ?_
            refine ps_iald (289 * n + nu) rfl rfl rfl (by simp only [ni_lit, ni_l0, pk_mul, nI_add, Nat.add_zero]) (by omega) ?_
            refine ps_if rfl (fun hc => ?_) (fun hc => ?_)
            · exact bad
            · have hz : I' 281 (289 * n + nu) = 0 := by simpa [pm_cmp] using hc
              have hz1 : ¬ I' 281 (289 * n + nu) = 1 := fun q => by rw [hz] at q; exact absurd q (by decide)
              have ccl : cn (fun c => I' 281 (289 * n + c)) wd < wd := cn_lt (i := nu) hz1 hlt
              have key : ∀ cc, cc = cn (fun c => I' 281 (289 * n + c)) wd → pm_W (g_P ys) 299 97 [.ref 275, .int (nI wd), u] [] (I', L', g_R s', 306) (0, 0) Q := by
                intro cc hcc
                have e4 : I' 279 (7 * n + 4) = nI cc := by rw [hcc]; exact si.2.2.2.2
                refine ps_aload rfl rfl ?_
                refine pw_k rfl rfl rfl rfl ⟨Nat.zero_le _, Nat.zero_le _⟩ ?_
                refine M_good ?_
                rw [decide_eq_true hwr]
                refine ps_ift rfl (by decide) ?_
                refine ps_aload rfl rfl ?_
                refine ps_aload rfl rfl ?_
                refine ps_gfi 11 51 rfl rfl rfl rfl rfl ?_
                rw [show ((I', L', g_R s', 306) : pm_H).1 275 51 = nI nu from hnu]
                obtain ⟨g1, g2⟩ := puts_iv (n := n) iv' (by omega) (c := nu) (by omega) (b := 1) (w := 1) (Or.inr rfl)
                refine pw_c rfl ?_
                refine pw_c rfl ?_
                refine pw_k rfl rfl rfl rfl ⟨Nat.zero_le _, Nat.zero_le _⟩ ?_
                refine M_puts e15 (by omega) (by omega) _ _ ?_
                show pm_W (g_P ys) 299 115 [.ref 275, .int (nI wd), u] [] (pm_u (pm_u I' 281 (289 * n + nu) 1) 283 (289 * n + nu) 1, L', g_R s', 306) (0, 0) Q
                have g3 := sx_mw_ok (xC []) g1 (W := [(52, .ofNat 0, .ofNat 281)]) (D := (false, false)) (a := 277) (t := 52) (k := 47 * n + cc) (lo := 0) (hi := 281) (b := (0, 46)) (by decide) (by decide) (by omega) (by omega) (x := nI nu) (by rw [nI_toInt (by omega)]; show (0 : Int) ≤ _; omega) (by rw [nI_toInt (by omega)]; show _ ≤ (46 : Int); omega)
                generalize hI3 : pm_u (pm_u (pm_u I' 281 (289 * n + nu) 1) 283 (289 * n + nu) 1) 277 (47 * n + cc) (nI nu) = I3 at g3
                have g31 : sx_IV xT xtg xPH (I3, L', g_R s', 306) := by rw [← hI3]; exact g3.1
                have o3 : ∀ a j, ¬ a = 281 → ¬ a = 283 → ¬ a = 277 → I3 a j = I' a j := fun a j h1 h2 h3 => by rw [← hI3, pu_o h3, pu_o h2, pu_o h1]
                have hole3 : ∀ c, I3 281 (289 * n + c) = if c = nu then 1 else I' 281 (289 * n + c) := fun c => by
                  rw [← hI3, pu_o (by decide), pu_o (by decide)]
                  by_cases e : c = nu
                  · rw [if_pos e, e, pu_s]
                  · rw [if_neg e, pu_n (by omega)]
                refine ps_aload rfl rfl ?_
                refine ps_gfr 11 3 rfl rfl rfl rfl rfl (rfl) ?_
                refine pw_c rfl ?_
                refine ps_aload rfl rfl ?_
                refine ps_gfi 11 15 rfl rfl rfl rfl rfl ?_
                rw [show ((pm_u (pm_u I' 281 (289 * n + nu) 1) 283 (289 * n + nu) 1, L', g_R s', 306) : pm_H).1 275 15 = nI n from e15]
                refine ps_ar rfl rfl rfl rfl rfl ?_
                refine ps_aload rfl rfl ?_
                refine ps_gfr 11 5 rfl rfl rfl rfl rfl (rfl) ?_
                refine pw_c rfl ?_
                refine ps_aload rfl rfl ?_
                refine ps_gfi 11 15 rfl rfl rfl rfl rfl ?_
                rw [show ((pm_u (pm_u I' 281 (289 * n + nu) 1) 283 (289 * n + nu) 1, L', g_R s', 306) : pm_H).1 275 15 = nI n from e15]
                refine ps_ar rfl rfl rfl rfl rfl ?_
                refine pw_c rfl ?_
                refine ps_ar rfl rfl rfl rfl rfl ?_
                refine ps_iald (7 * n + 4) rfl rfl rfl (by simp only [ni_lit, ni_l0, pk_mul, nI_add, Nat.add_zero]) (by omega) ?_
                rw [show ((pm_u (pm_u I' 281 (289 * n + nu) 1) 283 (289 * n + nu) 1, L', g_R s', 306) : pm_H).1 279 (7 * n + 4) = nI cc from e4]
                refine ps_ar rfl rfl rfl rfl rfl ?_
                refine ps_aload rfl rfl ?_
                refine ps_gfi 11 51 rfl rfl rfl rfl rfl ?_
                rw [show ((pm_u (pm_u I' 281 (289 * n + nu) 1) 283 (289 * n + nu) 1, L', g_R s', 306) : pm_H).1 275 51 = nI nu from hnu]
                refine ps_iast (47 * n + cc) rfl rfl rfl (by simp only [ni_lit, ni_l0, pk_mul, nI_add, Nat.add_zero]) (by omega) ?_
                show pm_W (g_P ys) 299 146 [.ref 275, .int (nI wd), u] [] (pm_u (pm_u (pm_u I' 281 (289 * n + nu) 1) 283 (289 * n + nu) 1) 277 (47 * n + cc) (nI nu), L', g_R s', 306) (0, 0) Q
                rw [hI3]
                have n3 : I3 275 15 = nI n := (o3 _ _ (by decide) (by decide) (by decide)).trans e15
                have t3 : (I3 275 15).toInt = (n : Int) := by rw [n3, nI_toInt (by omega)]
                have e43 : I3 279 (7 * n + 4) = nI cc := (o3 _ _ (by decide) (by decide) (by decide)).trans e4
                have tc1 := nI_toInt (n := cc + 1) (by omega)
                have ag : nAg I3 (pm_u I3 279 (7 * n + 4) (nI (cc + 1))) n := nAg_u nAg_refl (by omega)
                have si4 : sI (pm_u I3 279 (7 * n + 4) (nI (cc + 1))) n wd := by
                  refine ⟨?_, ?_, ?_, ?_, ?_⟩
                  · rw [pu_o (by decide)]; exact n3
                  · rw [pu_n (by omega)]; exact (o3 _ _ (by decide) (by decide) (by decide)).trans si.2.1
                  · rw [pu_n (by omega)]; exact (o3 _ _ (by decide) (by decide) (by decide)).trans si.2.2.1
                  · rw [pu_n (by omega)]; exact (o3 _ _ (by decide) (by decide) (by decide)).trans si.2.2.2.1
                  · rw [pu_s]
                    congr 1
                    rw [hcc]
                    refine (cn_set (i := nu) hz1 (fun c hc => ?_) ?_ hlt).symm
                    · show pm_u I3 279 (7 * n + 4) (nI (cc + 1)) 281 (289 * n + c) = _
                      rw [pu_o (by decide), hole3, if_neg hc]
                    · show pm_u I3 279 (7 * n + 4) (nI (cc + 1)) 281 (289 * n + nu) = _
                      rw [pu_o (by decide), hole3, if_pos rfl]
                obtain ⟨pl4, fm4⟩ := sI_5 si4 (by omega) w1 w2
                have wr : sx_wr (xsb (xtg 279)) ((7 * n + 4 : Nat) : Int) ((7 * n + 4 : Nat) : Int) (0, 289) = true := by
                  have q : (List.range 42).all (fun j => sx_wr (xsb (xtg 279)) j j (0, 289)) = true := by decide +kernel
                  exact List.all_eq_true.mp q (7 * n + 4) (List.mem_range.mpr (by omega))
                have wk : sx_wk [(54, .ofNat 0, .ofNat 41)] (xtg 279) ((7 * n + 4 : Nat) : Int) ((7 * n + 4 : Nat) : Int) = true := by
                  have q : (List.range 42).all (fun j => sx_wk [(54, .ofNat 0, .ofNat 41)] (xtg 279) j j) = true := by decide +kernel
                  exact List.all_eq_true.mp q (7 * n + 4) (List.mem_range.mpr (by omega))
                have g4 : sx_IV xT xtg xPH (pm_u I3 279 (7 * n + 4) (nI (cc + 1)), L', g_R s', 306) := iv_new g31 (ib_u (lo := 0) (hi := 289) g31.1 wr (by omega) (by omega)) (nAg_K ag t3 g31.2.2.2.2.2)
                have f4 : sx_fr xtg xVP [(54, .ofNat 0, .ofNat 41)] (false, false) (I3, L', g_R s', 306) (pm_u I3 279 (7 * n + 4) (nI (cc + 1)), L', g_R s', 306) := ⟨fr_u (fun _ _ _ => rfl) wk, fun _ _ _ k => nAg_V ag t3 (fun _ _ _ => ⟨wd, 1, pl4⟩) (fun _ => fm4) k, fun _ => rfl⟩
                have f3 : sx_fr xtg xVP [(52, .ofNat 0, .ofNat 281)] (false, false) (pm_u (pm_u I' 281 (289 * n + nu) 1) 283 (289 * n + nu) 1, L', g_R s', 306) (I3, L', g_R s', 306) := by rw [← hI3]; exact g3.2.1
                refine ps_aload rfl rfl ?_
                refine ps_gfr 11 5 rfl rfl rfl rfl rfl (rfl) ?_
                refine pw_c rfl ?_
                refine ps_aload rfl rfl ?_
                refine ps_gfi 11 15 rfl rfl rfl rfl rfl ?_
                rw [show ((I3, L', g_R s', 306) : pm_H).1 275 15 = nI n from n3]
                refine ps_ar rfl rfl rfl rfl rfl ?_
                refine pw_c rfl ?_
                refine ps_ar rfl rfl rfl rfl rfl ?_
                refine ps_ar rfl rfl rfl rfl rfl ?_
                refine ps_iald (7 * n + 4) rfl rfl rfl (by simp only [ni_lit, ni_l0, pk_mul, nI_add, Nat.add_zero]) (by omega) ?_
                rw [show ((I3, L', g_R s', 306) : pm_H).1 279 (7 * n + 4) = nI cc from e43]
                refine pw_c rfl ?_
                refine ps_ar rfl rfl rfl rfl rfl ?_
                rw [show nI cc + 1 = nI (cc + 1) from nI_1 cc]
                refine ps_iast (7 * n + 4) rfl rfl rfl (by simp only [ni_lit, ni_l0, pk_mul, nI_add, Nat.add_zero]) (by omega) ?_
                show pm_W (g_P ys) 299 164 [.ref 275, .int (nI wd), u] [] (pm_u I3 279 (7 * n + 4) (nI (cc + 1)), L', g_R s', 306) (0, 0) Q
                have wr4 : (pm_u I3 279 (7 * n + 4) (nI (cc + 1))) 275 46 = 0 := by rw [pu_o (by decide), o3 _ _ (by decide) (by decide) (by decide)]; exact hwr
                have th4 : (pm_u I3 279 (7 * n + 4) (nI (cc + 1))) 275 49 = nI t := by rw [pu_o (by decide), o3 _ _ (by decide) (by decide) (by decide)]; exact ht
                have fr4 := sx_fr_trans fr' (sx_fr_trans (fr_wk (by decide) g2) (sx_fr_trans (fr_wk (by decide) f3) (fr_wk (W2 := nwW ++ rdW ++ [(50, .ofNat 46, .ofNat 47)]) (by decide) f4)))
                generalize pm_u I3 279 (7 * n + 4) (nI (cc + 1)) = I4 at g4 fr4 si4 wr4 th4
                obtain ⟨e, he8, he⟩ := g_bd g4 (a := 275) (k := 52) (b := 800) (q := (.ofNat 52, .ofNat 52, .ofNat 0, .ofNat 800)) (by decide) (by decide) (by decide) rfl rfl
                have nb := g4.1 275 51 (.ofNat 51, .ofNat 51, .ofNat 0, .ofNat 9999) (by decide) (by decide) (by decide)
                have bb := g4.1 275 53 (.ofNat 53, .ofNat 53, .ofNat 0, .ofNat 800) (by decide) (by decide) (by decide)
                refine ps_aload rfl rfl ?_
                refine pw_k rfl rfl rfl rfl ⟨Nat.zero_le _, Nat.zero_le _⟩ ?_
                refine ps_aload rfl rfl ?_
                refine pw_k rfl rfl rfl rfl ⟨Nat.zero_le _, Nat.zero_le _⟩ ?_
                refine M_good ?_
                rw [decide_eq_true wr4]
                refine ps_iff rfl (by decide) ?_
                refine ps_aload rfl rfl ?_
                refine pw_k rfl rfl rfl rfl ⟨Nat.zero_le _, Nat.zero_le _⟩ ?_
                refine M_reads th4 t800 he he8 nb bb ?_
                intro I5 L5 dE5 lq5 _
                obtain ⟨g5, f5⟩ := dE_iv (L' := L5) g4 th4 t800 dE5 lq5
                obtain ⟨p5, i5, ⟨ag5, hp5, hi5, _⟩, hp8, hti, hso⟩ := dE5
                refine ps_vret rfl rfl ?_
                refine ps_goto rfl ?_
                have i8 : i5 ≤ 801 := by rcases hso with ⟨_, q⟩ | ⟨_, _, _, _, q, _⟩ <;> omega
                have w5 : I5 275 46 = 0 := (ag5 _ _ (by decide)).trans wr4
                refine ih (801 - i5) (by omega) _ wd i5 u g5 (sx_fr_trans fr4 (fr_wk (by decide) f5)) w1 w2 ?_ hi5 i8 (Nat.le_refl _) ?_
                · obtain ⟨z1, z2, z3, z4, z5⟩ := si4
                  have zo : ∀ a j, ¬ a = 275 → I5 a j = I4 a j := fun a j ha => ag5 a j (fun q => ha q.1)
                  refine ⟨(ag5 _ _ (by decide)).trans z1, (zo _ _ (by decide)).trans z2, (zo _ _ (by decide)).trans z3, (zo _ _ (by decide)).trans z4, ?_⟩
                  show I5 279 (7 * n + 4) = _
                  rw [zo _ _ (by decide), z5]
                  congr 1
                  exact (cn_congr (fun c _ => zo _ _ (by decide))).symm
                · rcases hso with ⟨q, _⟩ | ⟨so, s1, s2, q, q2, _⟩
                  · refine Or.inr (Or.inl ⟨?_, ?_⟩)
                    · show (I5 275 46).toInt = 0
                      rw [w5]; rfl
                    · show (I5 275 50).toInt = 0
                      rw [q]; rfl
                  · refine Or.inr (Or.inr ⟨?_, ?_, q2⟩)
                    · show (I5 275 46).toInt = 0
                      rw [w5]; rfl
                    · show 1 ≤ (I5 275 50).toInt
                      rw [q, nI_toInt (by omega)]; omega
              refine pw_c rfl ?_
              refine ps_goto rfl ?_
              refine pw_c rfl ?_
              refine pw_k rfl rfl rfl rfl ⟨Nat.zero_le _, Nat.zero_le _⟩ ?_
              refine M_must (fun _ => key _ rfl) (fun q => absurd q (by decide)) ?_
              intro q
              exact absurd q (by decide)
          · refine ps_iload rfl rfl ?_
            refine ps_icmpt rfl (decide_eq_true (nI_le (by omega) (by omega))) ?_
            exact bad
      · rw [decide_eq_false hwr]
        refine ps_ift rfl (by decide) ?_
        exact ret
  -- the row is cleared
  have cont : ∀ (h1 : pm_H) (wd t : Nat) (u1 u2 : Value), sx_IV xT xtg xPH h1 → sx_fr xtg xVP (nwW ++ rdW ++ [(50, .ofNat 46, .ofNat 47)]) (false, false) (I, L, g_R s, 306) h1 → 1 ≤ wd → wd ≤ 47 → h1.1 275 49 = nI t → t ≤ 801 → (1 ≤ (h1.1 275 46).toInt ∨ ((h1.1 275 46).toInt = 0 ∧ (h1.1 275 50).toInt = 0) ∨ ((h1.1 275 46).toInt = 0 ∧ 1 ≤ (h1.1 275 50).toInt ∧ t ≤ 800)) → pm_W (g_P ys) 299 7 [.ref 275, u1, u2] [.int (nI wd)] h1 (0, 0) Q := by
    intro h1 wd t u1 u2 iv1 fr1 w1 w2 ht ht8 st
    obtain ⟨I1, L1, s1, rfl⟩ := x_form iv1
    have n1 : I1 275 15 = nI n := (fr_p fr1 (by decide)).trans hn
    have t1 : (I1 275 15).toInt = (n : Int) := by rw [n1, nI_toInt (by omega)]
    obtain ⟨g2, f2, ag2, k6⟩ := tells_iv (L := L1) (s := s1) iv1 t1 (by omega) (f := 6) (a := wd) (b := 0) (c := 0) (by omega) (by omega) (by omega) (by omega) ⟨by omega, fun q => by omega, fun q => by omega, fun q => by omega, fun _ => by omega⟩
    have e2 : (telI I1 n (nI 6) (nI wd) (nI 0) (nI 0)) 279 (7 * n + 2) = nI 6 := by
      unfold telI
      rw [pu_n (by omega), pu_n (by omega), pu_n (by omega), pu_s]
    have e4 : (telI I1 n (nI 6) (nI wd) (nI 0) (nI 0)) 279 (7 * n + 4) = nI 0 := by
      unfold telI
      rw [pu_n (by omega), pu_s]
    have kst : ∀ (u : Value), pm_W (g_P ys) 299 17 [.ref 275, .int (nI wd), u] [] (telI I1 n (nI 6) (nI wd) (nI 0) (nI 0), L1, g_R s1, 306) (0, 0) Q := by
      intro u
      generalize telI I1 n (nI 6) (nI wd) (nI 0) (nI 0) = I2 at g2 f2 ag2 k6 e2 e4
      have n2 : I2 275 15 = nI n := (ag2.1 _ _ (by decide)).trans n1
      have loop2 : ∀ I3, sx_IV xT xtg xPH (I3, L1, g_R s1, 306) → sx_fr xtg xVP [(54, .ofNat 0, .ofNat 41)] (false, false) (I2, L1, g_R s1, 306) (I3, L1, g_R s1, 306) → nAg I2 I3 n → I3 279 (7 * n) = nI wd → I3 279 (7 * n + 1) = nI 1 → I3 279 (7 * n + 2) = nI 6 → I3 279 (7 * n + 4) = nI 0 → ∀ d x, x + d = wd → ∀ h', sx_IV xT xtg xPH h' → sx_fr xtg xVP [(56, .ofNat 0, .ofNat 1733), (58, .ofNat 0, .ofNat 1733)] (false, false) (I3, L1, g_R s1, 306) h' → (∀ c, c < x → h'.1 281 (289 * n + c) = 0) → pm_W (g_P ys) 299 25 [.ref 275, .int (nI wd), .int (nI x)] [] h' (0, 0) Q := by
        intro I3 g3 f3 ag3 z0 z1 z2 z4 d
        have n3 : I3 275 15 = nI n := (ag3.1 _ _ (by decide)).trans n2
        induction d with
        | zero =>
          intro x hx h' iv' fr' hz
          refine ps_iload rfl rfl ?_
          refine ps_iload rfl rfl ?_
          refine ps_icmpt rfl (decide_eq_true (nI_le (by omega) (by omega))) ?_
          have o1 : ∀ j, h'.1 275 j = I1 275 j := fun j => (fr_t fr' (by decide) j).trans ((ag3.1 _ _ (by decide)).trans (ag2.1 _ _ (by decide)))
          refine loop (801 - t) h' wd t _ iv' (sx_fr_trans fr1 (sx_fr_trans (fr_wk (by decide) f2) (sx_fr_trans (fr_wk (by decide) f3) (fr_wk (by decide) fr')))) w1 w2 ⟨?_, ?_, ?_, ?_, ?_⟩ ?_ ht8 (Nat.le_refl _) ?_
          · exact (fr_p fr' (by decide)).trans n3
          · exact (fr_t fr' (by decide) _).trans z0
          · exact (fr_t fr' (by decide) _).trans z1
          · exact (fr_t fr' (by decide) _).trans z2
          · rw [cn_0 (fun c hc => hz c (by omega))]
            exact (fr_t fr' (by decide) _).trans z4
          · rw [o1]
            exact ht
          · rw [o1, o1]
            exact st
        | succ d ih =>
          intro x hx h' iv' fr' hz
          obtain ⟨I', L', s', rfl⟩ := x_form iv'
          have n' : I' 275 15 = nI n := (fr_p fr' (by decide)).trans n3
          obtain ⟨g4, f4⟩ := puts_iv (n := n) iv' (by omega) (c := x) (by omega) (b := 0) (w := -1) (Or.inl rfl)
          refine ps_iload rfl rfl ?_
          refine ps_iload rfl rfl ?_
          refine ps_icmpf rfl (decide_eq_false (nI_ge (by omega) (by omega))) ?_
          refine ps_aload rfl rfl ?_
          refine ps_iload rfl rfl ?_
          refine pw_c rfl ?_
          refine pw_c rfl ?_
          refine pw_k rfl rfl rfl rfl ⟨Nat.zero_le _, Nat.zero_le _⟩ ?_
          refine M_puts n' (by omega) (by omega) _ _ ?_
          show pm_W (g_P ys) 299 37 [.ref 275, .int (nI wd), .int (nI x)] [] (pm_u (pm_u I' 281 (289 * n + x) 0) 283 (289 * n + x) (-1), L', g_R s', 306) (0, 0) Q
          refine ps_iinc rfl rfl ?_
          refine ps_goto rfl ?_
          rw [show nI x + Int32.ofInt 1 = nI (x + 1) from nI_1 x]
          refine ih (x + 1) (by omega) _ g4 (sx_fr_trans fr' f4) (fun c hc => ?_)
          show pm_u (pm_u I' 281 (289 * n + x) 0) 283 (289 * n + x) (-1) 281 (289 * n + c) = 0
          rw [pu_o (by decide)]
          by_cases e : c = x
          · rw [e, pu_s]
          · rw [pu_n (by omega)]
            exact hz c (by omega)
      obtain ⟨q1, q2, q3, q4⟩ := sizes_iv (L := L1) (s := s1) g2 (n := n) (by rw [n2, nI_toInt (by omega)]) (by omega) (w := wd) (v := 1) (by omega) (by omega) (by omega)
      refine ps_aload rfl rfl ?_
      refine ps_iload rfl rfl ?_
      refine pw_c rfl ?_
      refine pw_k rfl rfl rfl rfl ⟨Nat.zero_le _, Nat.zero_le _⟩ ?_
      refine M_sizes n2 (by omega) _ _ ?_
      show pm_W (g_P ys) 299 23 [.ref 275, .int (nI wd), u] [] (pm_u (pm_u I2 279 (7 * n) (nI wd)) 279 (7 * n + 1) (nI 1), L1, g_R s1, 306) (0, 0) Q
      refine pw_c rfl ?_
      refine ps_istore rfl rfl ?_
      exact loop2 _ q1 q2 (nAg_u (nAg_u (i := 0) nAg_refl (by omega)) (by omega)) (by rw [pu_n (by omega), pu_s]) pu_s (by rw [pu_n (by omega), pu_n (by omega)]; exact e2) (by rw [pu_n (by omega), pu_n (by omega)]; exact e4) wd 0 (by omega) _ q1 (sx_fr_refl _ _ _ _ _) (fun c hc => by omega)
    refine ps_istore rfl rfl ?_
    refine ps_aload rfl rfl ?_
    refine pw_c rfl ?_
    refine ps_iload rfl rfl ?_
    refine pw_c rfl ?_
    refine pw_c rfl ?_
    refine pw_k rfl rfl rfl rfl ⟨Nat.zero_le _, Nat.zero_le _⟩ ?_
    refine M_tells n1 (by omega) _ _ _ _ ?_
    exact kst _
  have fct : ∀ {h'' : pm_H} {w1 w2 : Value} {ws : List Value} {fs : List sx_F}, sx_fas xVP h'' ([.ref 275, w1, w2] ++ ws) fs → ∀ f, f ∈ fs → f.1 = 0 → f.2.2.1 ≤ (h''.1 275 f.2.1).toInt ∧ (h''.1 275 f.2.1).toInt ≤ f.2.2.2.1 := by
    intro h'' w1 w2 ws fs hfs f hf h0
    obtain ⟨a, e, q1, q2, _⟩ := hfs f hf
    rw [h0] at e
    cases e
    exact ⟨q1, q2⟩
  refine sg_by (sg_set0_t ys k_must1 k_must0 k_reads) sg_set0_b iv (lc := [.ref 275, .retAddr 0, .retAddr 0]) (sc := []) (gc := []) ⟨⟨275, rfl, rfl, by omega⟩, trivial, trivial, trivial⟩ trivial trivial (fun f hf => ?_) (fun v h'' _ _ q => ?_) (fun sp hst lc' sc' h'' iv'' fr'' ps => ?_)
  · obtain ⟨a', e, q⟩ := fa f hf
    refine ⟨a', ?_, q⟩
    have hf0 : f.1 = 0 := by
      rcases List.mem_cons.mp hf with rfl | hf
      · rfl
      rcases List.mem_cons.mp hf with rfl | hf
      · rfl
      rcases List.mem_cons.mp hf with rfl | hf
      · rfl
      rcases List.mem_cons.mp hf with rfl | hf
      · rfl
      · cases hf
    rw [hf0] at e ⊢
    exact e
  · obtain ⟨o, ho, _⟩ := q
    cases ho
  · have go : ∀ (lo hi : Int) (sX : sx_XS), sX.2.1 = [.inr (0, .ofNat 0), .inl (.inl (3, .ofNat 0, .ofNat 0, 0)), .inl (.inl (3, .ofNat 0, .ofNat 0, 0))] → sX.2.2.1 = [.inl (.inl (0, lo, hi, 0))] → 1 ≤ lo → hi ≤ 47 → sx_psx xtg xVP h'' ([.ref 275, .retAddr 0, .retAddr 0] ++ ([] ++ [])) lc' sc' sX → ((∀ f, f ∈ sX.2.2.2.1 → f.1 = 0 → f.2.2.1 ≤ (h''.1 275 f.2.1).toInt ∧ (h''.1 275 f.2.1).toInt ≤ f.2.2.2.1) → (1 ≤ (h''.1 275 46).toInt ∨ ((h''.1 275 46).toInt = 0 ∧ (h''.1 275 50).toInt = 0) ∨ ((h''.1 275 46).toInt = 0 ∧ 1 ≤ (h''.1 275 50).toInt ∧ (h''.1 275 49).toInt ≤ 800))) → pm_W (g_P ys) 299 7 lc' sc' h'' (0, 0) Q := by
      intro lo hi sX e1 e2 hlo hhi ps st
      obtain ⟨p1, p2, p3, _⟩ := ps
      rw [e1] at p1
      rw [e2] at p2
      obtain ⟨w0, l1, rfl, m0, ps1⟩ := mxs_c p1
      obtain ⟨w1, l2, rfl, _, ps2⟩ := mxs_c ps1
      obtain ⟨w2, l3, rfl, _, ps3⟩ := mxs_c ps2
      cases mxs_n ps3
      obtain ⟨w3, l4, rfl, m3, ps4⟩ := mxs_c p2
      cases mxs_n ps4
      cases mx_0 m0
      obtain ⟨x, rfl, x1, x2, _⟩ := m3
      obtain ⟨wd, hwd⟩ : ∃ wd : Nat, x.toInt = (wd : Int) := ⟨x.toInt.toNat, by omega⟩
      cases i_nat hwd
      have tb := iv''.1 275 49 (.ofNat 49, .ofNat 49, .ofNat 0, .ofNat 801) (by decide) (by decide) (by decide)
      obtain ⟨t, ht8, ht⟩ := nat_bd (b := 801) tb.1 tb.2
      have tt : (h''.1 275 49).toInt = (t : Int) := by rw [ht, nI_toInt (by omega)]
      have st := st (fun f hf h0 => fct p3 f hf h0)
      refine cont h'' wd t w1 w2 iv'' fr'' (by omega) (by omega) ht ht8 ?_
      rcases st with q | q | ⟨q1, q2, q3⟩
      · exact Or.inl q
      · exact Or.inr (Or.inl q)
      · exact Or.inr (Or.inr ⟨q1, q2, by omega⟩)
    rcases List.mem_cons.mp hst with rfl | hst
    · refine go 1 1 _ rfl rfl (by omega) (by omega) ps (fun hf => Or.inl ?_)
      exact (hf (0, 46, .ofNat 1, .ofNat 6, 0) (by simp) rfl).1
    rcases List.mem_cons.mp hst with rfl | hst
    · refine go 1 47 _ rfl rfl (by omega) (by omega) ps (fun hf => Or.inr (Or.inl ⟨?_, ?_⟩))
      · have q := hf (0, 46, .ofNat 0, .ofNat 0, 0) (by simp) rfl
        exact Int.le_antisymm q.2 q.1
      · have q := hf (0, 50, .ofNat 0, .ofNat 0, 0) (by simp) rfl
        exact Int.le_antisymm q.2 q.1
    rcases List.mem_cons.mp hst with rfl | hst
    · refine go 1 47 _ rfl rfl (by omega) (by omega) ps (fun hf => Or.inr (Or.inr ⟨?_, ?_, ?_⟩))
      · have q := hf (0, 46, .ofNat 0, .ofNat 0, 0) (by simp) rfl
        exact Int.le_antisymm q.2 q.1
      · exact (hf (0, 50, .ofNat 1, .ofNat 5, 0) (by simp) rfl).1
      · exact (hf (0, 49, .ofNat 1, .ofNat 800, 0) (by simp) rfl).2
    · cases hst
end IJ
