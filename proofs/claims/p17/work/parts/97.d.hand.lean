/-! BY HAND: root, exactly -/
section KF
variable {ys : List Int32} {I : Nat → Nat → Int32} {L : Nat → Nat → Int64} {s : Nat → Option Nat} {Q : List Value → pm_H → Prop} {h : pm_H}
def prC (p : Nat) : Nat → Nat → Bool
  | 0, _ => true
  | f + 1, d => if p < d * d then true else if p % d = 0 then false else prC p f (d + 1)
theorem prC_B : ∀ p : Fin 48, 3 ≤ p.val → prC p.val 6 2 = prB p.val := by decide +kernel
/-- root's answer -/
def rtV (p n : Int32) : Int32 := if 3 ≤ p.toInt ∧ p.toInt ≤ 47 ∧ prB p.toInt.toNat = true ∧ 1 ≤ n.toInt ∧ n.toInt < p.toInt then roI p.toInt.toNat n.toInt.toNat (p.toInt.toNat - 1) 1 else -1
theorem roI_rng {p r : Nat} : ∀ {d i : Nat}, roI p r d i = -1 ∨ ∃ m, roI p r d i = nI m ∧ m < i + d
  | 0, _ => Or.inl rfl
  | d + 1, i => by
    rw [roI]
    split
    · exact Or.inr ⟨i, rfl, by omega⟩
    · rcases roI_rng (p := p) (r := r) (d := d) (i := i + 1) with q | ⟨m, q, hm⟩
      · exact Or.inl q
      · exact Or.inr ⟨m, q, by omega⟩
theorem B_isPrime (p : Int32) (kk : Q [.int (bI (decide (3 ≤ p.toInt) && decide (p.toInt ≤ 47) && prB p.toInt.toNat))] h) : pm_W (g_P ys) 45 0 [.int p, .retAddr 0] [] h (0, 0) Q := by
  have c3 : (3 : Int32).toInt = 3 := rfl
  have c47 : (47 : Int32).toInt = 47 := rfl
  have no : ¬ (3 ≤ p.toInt ∧ p.toInt ≤ 47) → pm_W (g_P ys) 45 11 [.int p, .retAddr 0] [] h (0, 0) Q := by
    intro q
    have e : (decide (3 ≤ p.toInt) && decide (p.toInt ≤ 47)) = false := by
      cases d : (decide (3 ≤ p.toInt) && decide (p.toInt ≤ 47)) with
      | false => rfl
      | true =>
        rw [Bool.and_eq_true, decide_eq_true_iff, decide_eq_true_iff] at d
        exact absurd d q
    rw [e] at kk
    refine pw_c rfl ?_
    refine ps_zret rfl rfl (Or.inl rfl) ?_
    exact kk
  refine ps_iload rfl rfl ?_
  refine pw_c rfl ?_
  refine ps_icmp rfl (fun h1 => ?_) (fun h1 => ?_)
  · have h1 := (i_lt _ _).mp (show p < 3 from of_decide_eq_true h1)
    exact no (fun q => by omega)
  · have h1 : ¬ p.toInt < (3 : Int32).toInt := fun q => (show ¬ p < 3 from of_decide_eq_false h1) ((i_lt _ _).mpr q)
    refine ps_iload rfl rfl ?_
    refine pw_c rfl ?_
    refine ps_icmp rfl (fun h2 => ?_) (fun h2 => ?_)
    · have h2 := (i_le _ _).mp (show p ≤ 47 from of_decide_eq_true h2)
      obtain ⟨n, hn⟩ : ∃ n : Nat, p.toInt = (n : Int) := ⟨p.toInt.toNat, by omega⟩
      cases i_nat hn
      rw [hn, decide_eq_true (show (3 : Int) ≤ (n : Int) by omega), decide_eq_true (show (n : Int) ≤ 47 by omega), Int.toNat_natCast, ← prC_B ⟨n, by omega⟩ (by show 3 ≤ n; omega)] at kk
      have kk : Q [.int (bI (prC n 6 2))] h := kk
      have loop : ∀ f d, f + d = 8 → 2 ≤ d → Q [.int (bI (prC n f d))] h → pm_W (g_P ys) 45 15 [.int (nI n), .int (nI d)] [] h (0, 0) Q := by
        intro f
        induction f with
        | zero =>
          intro d hd hd2 kk
          have hd : d = 8 := by omega
          subst hd
          refine ps_iload rfl rfl ?_
          refine ps_iload rfl rfl ?_
          refine ps_ar rfl rfl rfl rfl rfl ?_
          rw [pk_mul]
          refine ps_iload rfl rfl ?_
          refine ps_icmpt rfl (decide_eq_true (nI_lt (by omega) (by omega))) ?_
          refine pw_c rfl ?_
          refine ps_zret rfl rfl (Or.inr rfl) ?_
          exact kk
        | succ f ih =>
          intro d hd hd2 kk
          have hb : d * d ≤ 8 * 8 := Nat.mul_le_mul (by omega) (by omega)
          rw [prC] at kk
          refine ps_iload rfl rfl ?_
          refine ps_iload rfl rfl ?_
          refine ps_ar rfl rfl rfl rfl rfl ?_
          rw [pk_mul]
          by_cases q : n < d * d
          · rw [if_pos q] at kk
            refine ps_iload rfl rfl ?_
            refine ps_icmpt rfl (decide_eq_true (nI_lt q (by omega))) ?_
            refine pw_c rfl ?_
            refine ps_zret rfl rfl (Or.inr rfl) ?_
            exact kk
          · rw [if_neg q] at kk
            refine ps_iload rfl rfl ?_
            refine ps_icmpf rfl (decide_eq_false (fun z => q ((nI_ltI (by omega) (by omega)).mp z))) ?_
            refine ps_iload rfl rfl ?_
            refine ps_iload rfl rfl ?_
            refine ps_rem rfl (nI_nz (by omega) (by omega)) ?_
            rw [nI_rem (by omega) (by omega) (by omega)]
            have hm := Nat.mod_lt n (show 0 < d by omega)
            by_cases z : n % d = 0
            · rw [if_pos z] at kk
              rw [z]
              refine ps_iff rfl (by decide) ?_
              refine pw_c rfl ?_
              refine ps_zret rfl rfl (Or.inl rfl) ?_
              exact kk
            · rw [if_neg z] at kk
              refine ps_ift rfl (decide_eq_true (nI_nz (by omega) (by omega))) ?_
              refine ps_iinc rfl rfl ?_
              refine ps_goto rfl ?_
              rw [show nI d + Int32.ofInt 1 = nI (d + 1) from nI_1 d]
              exact ih (d + 1) (by omega) (by omega) kk
      refine pw_c rfl ?_
      refine ps_istore rfl rfl ?_
      exact loop 6 2 (by omega) (by omega) kk
    · have h2 : ¬ p.toInt ≤ (47 : Int32).toInt := fun q => (show ¬ p ≤ 47 from of_decide_eq_false h2) ((i_le _ _).mpr q)
      exact no (fun q => by omega)
theorem B_leastRoot {p r : Nat} (h1 : 2 ≤ p) (h2 : p ≤ 47) (hr : r < p) (kk : Q [.int (roI p r (p - 1) 1)] h) : pm_W (g_P ys) 61 0 [.int (nI p), .int (nI r), .retAddr 0] [] h (0, 0) Q := by
  have loop : ∀ d i, i + d = p → 1 ≤ i → Q [.int (roI p r d i)] h → pm_W (g_P ys) 61 2 [.int (nI p), .int (nI r), .int (nI i)] [] h (0, 0) Q := by
    intro d
    induction d with
    | zero =>
      intro i hi hi1 kk
      refine ps_iload rfl rfl ?_
      refine ps_iload rfl rfl ?_
      refine ps_icmpt rfl (decide_eq_true (nI_le (by omega) (by omega))) ?_
      refine pw_c rfl ?_
      refine ps_iret rfl rfl ?_
      exact kk
    | succ d ih =>
      intro i hi hi1 kk
      have hb : i * i ≤ 47 * 47 := Nat.mul_le_mul (by omega) (by omega)
      refine ps_iload rfl rfl ?_
      refine ps_iload rfl rfl ?_
      refine ps_icmpf rfl (decide_eq_false (nI_ge (by omega) (by omega))) ?_
      refine ps_iload rfl rfl ?_
      refine ps_iload rfl rfl ?_
      refine ps_ar rfl rfl rfl rfl rfl ?_
      rw [pk_mul]
      refine ps_iload rfl rfl ?_
      refine ps_rem rfl (nI_nz (by omega) (by omega)) ?_
      rw [nI_rem (by omega) (by omega) (by omega)]
      have hm := Nat.mod_lt (i * i) (show 0 < p by omega)
      refine ps_iload rfl rfl ?_
      refine ps_icmp rfl (fun hc => ?_) (fun hc => ?_)
      · have hn : ¬ i * i % p = r := fun q => by rw [q] at hc; simp [pm_cmp] at hc
        refine ps_iinc rfl rfl ?_
        refine ps_goto rfl ?_
        rw [show nI i + Int32.ofInt 1 = nI (i + 1) from nI_1 i]
        rw [roI, if_neg hn] at kk
        exact ih (i + 1) (by omega) (by omega) kk
      · have hn : i * i % p = r := nI_eqv (by omega) (by omega) (by simpa [pm_cmp] using hc)
        refine ps_iload rfl rfl ?_
        refine ps_iret rfl rfl ?_
        rw [roI, if_pos hn] at kk
        exact kk
  refine pw_c rfl ?_
  refine ps_istore rfl rfl ?_
  exact loop (p - 1) 1 (by omega) (by omega) kk
/-- the class's status -/
theorem st_iv (iv : sx_IV xT xtg xPH (I, L, g_R s, 306)) {x : Int32} (h1 : 0 ≤ x.toInt) (h2 : x.toInt ≤ 9) : sx_IV xT xtg xPH (pm_u I 0 10 x, L, g_R s, 306) ∧ sx_fr xtg xVP [(1, .ofNat 10, .ofNat 10)] (false, false) (I, L, g_R s, 306) (pm_u I 0 10 x, L, g_R s, 306) := by
  have g := sx_mw_ok (xC []) iv (W := [(1, .ofNat 10, .ofNat 10)]) (D := (false, false)) (a := 0) (t := 1) (k := 10) (lo := 10) (hi := 10) (b := (0, 9)) (by decide) (by decide) (by decide) (by decide) (x := x) h1 h2
  exact ⟨g.1, g.2.1⟩
theorem B_refuse {x : Int32} (kk : Q [.int (-1)] (pm_u I 0 10 x, L, g_R s, 306)) : pm_W (g_P ys) 18 0 [.ref 0, .int x] [] (I, L, g_R s, 306) (0, 0) Q := by
  refine ps_aload rfl rfl ?_
  refine ps_iload rfl rfl ?_
  refine ps_pfi 0 10 rfl rfl rfl rfl rfl ?_
  refine pw_c rfl ?_
  refine ps_iret rfl rfl ?_
  exact kk
theorem B_answer {x : Int32} (kk : Q [.int x] (pm_u I 0 10 0, L, g_R s, 306)) : pm_W (g_P ys) 80 0 [.ref 0, .int x] [] (I, L, g_R s, 306) (0, 0) Q := by
  refine ps_aload rfl rfl ?_
  refine pw_c rfl ?_
  refine ps_pfi 0 10 rfl rfl rfl rfl rfl ?_
  refine ps_iload rfl rfl ?_
  refine ps_iret rfl rfl ?_
  exact kk
theorem B_rootX (iv : sx_IV xT xtg xPH h) (p n : Int32) (kk : ∀ h1, sx_IV xT xtg xPH h1 → sx_fr xtg xVP [(1, .ofNat 10, .ofNat 10)] (false, false) h h1 → Q [.int (rtV p n)] h1) : pm_W (g_P ys) 97 0 [.ref 0, .int p, .int n, .retAddr 0] [] h (0, 0) Q := by
  obtain ⟨I, L, s, rfl⟩ := x_form iv
  have c1 : (1 : Int32).toInt = 1 := rfl
  have no : ¬ (3 ≤ p.toInt ∧ p.toInt ≤ 47 ∧ prB p.toInt.toNat = true ∧ 1 ≤ n.toInt ∧ n.toInt < p.toInt) → pm_W (g_P ys) 97 17 [.ref 0, .int p, .int n, .retAddr 0] [] (I, L, g_R s, 306) (0, 0) Q := by
    intro q
    obtain ⟨g1, g2⟩ := st_iv iv (x := 1) (by decide) (by decide)
    have k := kk _ g1 g2
    unfold rtV at k
    rw [if_neg q] at k
    refine ps_aload rfl rfl ?_
    refine pw_c rfl ?_
    refine pw_k rfl rfl rfl rfl ⟨Nat.zero_le _, Nat.zero_le _⟩ ?_
    refine B_refuse ?_
    refine ps_iret rfl rfl ?_
    exact k
  refine ps_iload rfl rfl ?_
  refine pw_k rfl rfl rfl rfl ⟨Nat.zero_le _, Nat.zero_le _⟩ ?_
  refine B_isPrime p ?_
  cases hp : (decide (3 ≤ p.toInt) && decide (p.toInt ≤ 47) && prB p.toInt.toNat) with
  | false =>
    refine ps_ift rfl (by decide) ?_
    refine no (fun q => ?_)
    rw [decide_eq_true q.1, decide_eq_true q.2.1, q.2.2.1] at hp
    cases hp
  | true =>
    rw [Bool.and_eq_true, Bool.and_eq_true, decide_eq_true_iff, decide_eq_true_iff] at hp
    refine ps_iff rfl (by decide) ?_
    refine ps_iload rfl rfl ?_
    refine pw_c rfl ?_
    refine ps_icmp rfl (fun h1 => ?_) (fun h1 => ?_)
    · have h1 := (i_lt _ _).mp (show n < 1 from of_decide_eq_true h1)
      exact no (fun q => by omega)
    · have h1 : ¬ n.toInt < (1 : Int32).toInt := fun q => (show ¬ n < 1 from of_decide_eq_false h1) ((i_lt _ _).mpr q)
      refine ps_iload rfl rfl ?_
      refine ps_iload rfl rfl ?_
      refine ps_icmp rfl (fun h2 => ?_) (fun h2 => ?_)
      · have h2 := (i_lt _ _).mp (show n < p from of_decide_eq_true h2)
        have k := kk
        unfold rtV at k
        simp only [if_pos (show 3 ≤ p.toInt ∧ p.toInt ≤ 47 ∧ prB p.toInt.toNat = true ∧ 1 ≤ n.toInt ∧ n.toInt < p.toInt from ⟨hp.1.1, hp.1.2, hp.2, by omega, h2⟩)] at k
        obtain ⟨a, ha⟩ : ∃ a : Nat, p.toInt = (a : Int) := ⟨p.toInt.toNat, by omega⟩
        obtain ⟨b, hb⟩ : ∃ b : Nat, n.toInt = (b : Int) := ⟨n.toInt.toNat, by omega⟩
        have a3 := hp.1.1
        have a47 := hp.1.2
        rw [ha, hb, Int.toNat_natCast, Int.toNat_natCast] at k
        rw [show p = nI a from i_nat ha, show n = nI b from i_nat hb]
        refine ps_iload rfl rfl ?_
        refine ps_iload rfl rfl ?_
        refine pw_k rfl rfl rfl rfl ⟨Nat.zero_le _, Nat.zero_le _⟩ ?_
        refine B_leastRoot (by omega) (by omega) (by omega) ?_
        rcases roI_rng (p := a) (r := b) (d := a - 1) (i := 1) with q | ⟨m, q, hm⟩
        · rw [q] at k ⊢
          obtain ⟨g1, g2⟩ := st_iv iv (x := 5) (by decide) (by decide)
          refine ps_istore rfl rfl ?_
          refine ps_iload rfl rfl ?_
          refine pw_c rfl ?_
          refine ps_icmpf rfl (by decide) ?_
          refine ps_aload rfl rfl ?_
          refine pw_c rfl ?_
          refine pw_k rfl rfl rfl rfl ⟨Nat.zero_le _, Nat.zero_le _⟩ ?_
          refine B_refuse ?_
          refine ps_goto rfl ?_
          refine ps_iret rfl rfl ?_
          exact k _ g1 g2
        · rw [q] at k ⊢
          obtain ⟨g1, g2⟩ := st_iv iv (x := 0) (by decide) (by decide)
          have nm : ¬ nI m = -1 := fun z => by
            have z := congrArg Int32.toInt z
            rw [nI_toInt (by omega)] at z
            have e : (-1 : Int32).toInt = -1 := rfl
            omega
          refine ps_istore rfl rfl ?_
          refine ps_iload rfl rfl ?_
          refine pw_c rfl ?_
          refine ps_icmpt rfl (decide_eq_true nm) ?_
          refine ps_aload rfl rfl ?_
          refine ps_iload rfl rfl ?_
          refine pw_k rfl rfl rfl rfl ⟨Nat.zero_le _, Nat.zero_le _⟩ ?_
          refine B_answer ?_
          refine ps_iret rfl rfl ?_
          exact k _ g1 g2
      · have h2 : ¬ n.toInt < p.toInt := fun q => (show ¬ n < p from of_decide_eq_false h2) ((i_lt _ _).mpr q)
        exact no (fun q => h2 q.2.2.2.2)
theorem M_isPrimeX (p : Int32) (kk : Q [.int (bI (decide (3 ≤ p.toInt) && decide (p.toInt ≤ 47) && prB p.toInt.toNat))] h) : pm_W (g_P ys) 212 0 [.int p, .retAddr 0] [] h (0, 0) Q := by
  cases hp : (decide (3 ≤ p.toInt) && decide (p.toInt ≤ 47)) with
  | false =>
    rw [hp] at kk
    have d : (decide ((3 : Int64) ≤ p.toInt64) && decide (p.toInt64 ≤ (47 : Int64))) = false := by
      cases d : (decide ((3 : Int64) ≤ p.toInt64) && decide (p.toInt64 ≤ (47 : Int64))) with
      | false => rfl
      | true =>
        rw [Bool.and_eq_true, decide_eq_true_iff, decide_eq_true_iff] at d
        have d1 := Int64.le_iff_toInt_le.mp d.1
        have d2 := Int64.le_iff_toInt_le.mp d.2
        rw [Int32.toInt_toInt64] at d1 d2
        have d1 : (3 : Int) ≤ p.toInt := d1
        have d2 : p.toInt ≤ (47 : Int) := d2
        rw [decide_eq_true d1, decide_eq_true d2] at hp
        cases hp
    refine ps_iload rfl rfl ?_
    refine ps_ar rfl rfl rfl rfl rfl ?_
    refine pw_c rfl ?_
    refine pw_c rfl ?_
    refine pw_k rfl rfl rfl rfl ⟨Nat.zero_le _, Nat.zero_le _⟩ ?_
    refine M_isIn ?_
    rw [d]
    refine ps_iff rfl (by decide) ?_
    refine pw_c rfl ?_
    refine ps_zret rfl rfl (Or.inl rfl) ?_
    exact kk
  | true =>
    rw [hp] at kk
    rw [Bool.and_eq_true, decide_eq_true_iff, decide_eq_true_iff] at hp
    obtain ⟨n, hn⟩ : ∃ n : Nat, p.toInt = (n : Int) := ⟨p.toInt.toNat, by omega⟩
    rw [hn, Int.toNat_natCast] at kk
    rw [hn] at hp
    rw [show p = nI n from i_nat hn]
    exact M_isPrime (by omega) (by omega) kk
theorem M_rootX (iv : sx_IV xT xtg xPH h) (p n : Int32) (kk : ∀ h1, sx_IV xT xtg xPH h1 → sx_fr xtg xVP [(50, .ofNat 0, .ofNat 1)] (false, false) h h1 → Q [.int (rtV p n)] h1) : pm_W (g_P ys) 211 0 [.ref 275, .int p, .int n] [] h (0, 0) Q := by
  obtain ⟨I, L, s, rfl⟩ := x_form iv
  have iss : ∀ y : Int32, 0 ≤ y.toInt → y.toInt ≤ 9 → ¬ y = 0 → rtV p n = -1 → pm_W (g_P ys) 211 38 [.ref 275, .int p, .int n] [.int y, .ref 275] (I, L, g_R s, 306) (0, 0) Q := by
    intro y y0 y9 yn e
    obtain ⟨g1, g2⟩ := is_iv iv y0 y9
    have k := kk _ g1 g2
    rw [e] at k
    refine pw_k rfl rfl rfl rfl ⟨Nat.zero_le _, Nat.zero_le _⟩ ?_
    refine M_is ?_
    rw [decide_eq_false yn]
    refine ps_iff rfl (by decide) ?_
    refine pw_c rfl ?_
    refine ps_iret rfl rfl ?_
    exact k
  have no : ¬ (3 ≤ p.toInt ∧ p.toInt ≤ 47 ∧ prB p.toInt.toNat = true ∧ 1 ≤ n.toInt ∧ n.toInt < p.toInt) → pm_W (g_P ys) 211 21 [.ref 275, .int p, .int n] [.ref 275] (I, L, g_R s, 306) (0, 0) Q := by
    intro q
    refine pw_c rfl ?_
    refine ps_goto rfl ?_
    exact iss 1 (by decide) (by decide) (by decide) (by unfold rtV; rw [if_neg q])
  refine ps_aload rfl rfl ?_
  refine ps_iload rfl rfl ?_
  refine pw_k rfl rfl rfl rfl ⟨Nat.zero_le _, Nat.zero_le _⟩ ?_
  refine M_isPrimeX p ?_
  cases hp : (decide (3 ≤ p.toInt) && decide (p.toInt ≤ 47) && prB p.toInt.toNat) with
  | false =>
    refine ps_ift rfl (by decide) ?_
    refine no (fun q => ?_)
    rw [decide_eq_true q.1, decide_eq_true q.2.1, q.2.2.1] at hp
    cases hp
  | true =>
    rw [Bool.and_eq_true, Bool.and_eq_true, decide_eq_true_iff, decide_eq_true_iff] at hp
    obtain ⟨⟨a3, a47⟩, hpr⟩ := hp
    have pm1 : (p - 1).toInt64.toInt = p.toInt - 1 := by
      have e1 : p - 1 = iI (p.toInt - 1) := by
        rw [← iI_sub, ← iI_of]
        rfl
      rw [Int32.toInt_toInt64, e1, iI_toInt (by omega) (by omega)]
    refine ps_iff rfl (by decide) ?_
    refine ps_iload rfl rfl ?_
    refine ps_ar rfl rfl rfl rfl rfl ?_
    refine pw_c rfl ?_
    refine ps_iload rfl rfl ?_
    refine pw_c rfl ?_
    refine ps_ar rfl rfl rfl rfl rfl ?_
    refine ps_ar rfl rfl rfl rfl rfl ?_
    refine pw_k rfl rfl rfl rfl ⟨Nat.zero_le _, Nat.zero_le _⟩ ?_
    refine M_isIn ?_
    cases hn : (decide ((1 : Int64) ≤ n.toInt64) && decide (n.toInt64 ≤ (p - 1).toInt64)) with
    | false =>
      refine ps_iff rfl (by decide) ?_
      refine no (fun q => ?_)
      have d1 : (1 : Int64) ≤ n.toInt64 := Int64.le_iff_toInt_le.mpr (by rw [Int32.toInt_toInt64]; exact q.2.2.2.1)
      have d2 : n.toInt64 ≤ (p - 1).toInt64 := Int64.le_iff_toInt_le.mpr (by rw [Int32.toInt_toInt64, pm1]; have := q.2.2.2.2; omega)
      rw [decide_eq_true d1, decide_eq_true d2] at hn
      cases hn
    | true =>
      rw [Bool.and_eq_true, decide_eq_true_iff, decide_eq_true_iff] at hn
      have d1 := Int64.le_iff_toInt_le.mp hn.1
      have d2 := Int64.le_iff_toInt_le.mp hn.2
      rw [Int32.toInt_toInt64, pm1] at d2
      rw [Int32.toInt_toInt64] at d1
      have d1 : (1 : Int) ≤ n.toInt := d1
      have k := kk
      have ev : rtV p n = roI p.toInt.toNat n.toInt.toNat (p.toInt.toNat - 1) 1 := by
        unfold rtV
        rw [if_pos ⟨a3, a47, hpr, d1, by omega⟩]
      obtain ⟨a, ha⟩ : ∃ a : Nat, p.toInt = (a : Int) := ⟨p.toInt.toNat, by omega⟩
      obtain ⟨b, hb⟩ : ∃ b : Nat, n.toInt = (b : Int) := ⟨n.toInt.toNat, by omega⟩
      rw [ha, hb, Int.toNat_natCast, Int.toNat_natCast] at ev
      have hpa : p = nI a := i_nat ha
      have hnb : n = nI b := i_nat hb
      rw [ev] at k
      rcases roI_rng (p := a) (r := b) (d := a - 1) (i := 1) with q | ⟨m, q, hm⟩
      · have e1 : rtV p n = -1 := by rw [ev, q]
        clear kk k no
        rw [hpa, hnb] at iss e1 ⊢
        refine ps_ift rfl (by decide) ?_
        refine ps_iload rfl rfl ?_
        refine ps_iload rfl rfl ?_
        refine pw_k rfl rfl rfl rfl ⟨Nat.zero_le _, Nat.zero_le _⟩ ?_
        refine M_rootOf (by omega) (by omega) (by omega) ?_
        rw [q]
        refine ps_iff rfl (by decide) ?_
        refine pw_c rfl ?_
        refine ps_goto rfl ?_
        exact iss 5 (by decide) (by decide) (by decide) e1
      · obtain ⟨g1, g2⟩ := is_iv iv (a := 0) (by decide) (by decide)
        have k := k _ g1 g2
        clear kk no iss
        rw [hpa, hnb]
        have e0 : (0 : Int32).toInt = 0 := rfl
        refine ps_ift rfl (by decide) ?_
        refine ps_iload rfl rfl ?_
        refine ps_iload rfl rfl ?_
        refine pw_k rfl rfl rfl rfl ⟨Nat.zero_le _, Nat.zero_le _⟩ ?_
        refine M_rootOf (by omega) (by omega) (by omega) ?_
        rw [q]
        refine ps_ift rfl (decide_eq_true ((i_le _ _).mpr (by rw [nI_toInt (by omega)]; omega))) ?_
        refine pw_c rfl ?_
        refine pw_k rfl rfl rfl rfl ⟨Nat.zero_le _, Nat.zero_le _⟩ ?_
        refine M_is ?_
        refine ps_ift rfl (by decide) ?_
        refine ps_iload rfl rfl ?_
        refine ps_iload rfl rfl ?_
        refine pw_k rfl rfl rfl rfl ⟨Nat.zero_le _, Nat.zero_le _⟩ ?_
        refine M_rootOf (by omega) (by omega) (by omega) ?_
        refine ps_iret rfl rfl ?_
        exact k
end KF
