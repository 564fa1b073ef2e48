/-! THE MODEL: primes, roots -/
theorem nI_rem {a b : Nat} (ha : a < 2147483648) (hb0 : 0 < b) (hb : b < 2147483648) : nI a - nI a / nI b * nI b = nI (a % b) := by
  rw [← iI_nat a, ← iI_nat b, iI_rem (by omega) (by omega) (by omega) (by omega), ← iI_nat (a % b), Int.ofNat_tmod]
theorem nI_nz {b : Nat} (hb0 : 0 < b) (hb : b < 2147483648) : ¬ nI b = 0 := fun q => by
  have := congrArg Int32.toInt q
  rw [← iI_nat b, iI_toInt (by omega) (by omega)] at this
  simp at this
  omega
theorem nI_eqv {a b : Nat} (ha : a < 2147483648) (hb : b < 2147483648) (q : nI a = nI b) : a = b := by
  have := congrArg Int32.toInt q
  rw [← iI_nat b, ← iI_nat a, iI_toInt (by omega) (by omega), iI_toInt (by omega) (by omega)] at this
  omega
/-- no number from 2 on below p divides it -/
def prB (p : Nat) : Bool := alB (fun i => decide (i < 2) || decide (¬ p % i = 0)) p
/-- the least number from i on, of d ones, whose square is r in p -/
def roI (p r : Nat) : Nat → Nat → Int32
  | 0, _ => -1
  | d + 1, i => if i * i % p = r then nI i else roI p r d (i + 1)
section MF
variable {ys : List Int32} {Q : List Value → pm_H → Prop} {h : pm_H}
theorem M_isPrime {p : Nat} (h1 : 3 ≤ p) (h2 : p ≤ 47) (kk : Q [.int (bI (prB p))] h) : pm_W (g_P ys) 212 0 [.int (nI p), .retAddr 0] [] h (0, 0) Q := by
  have loop : ∀ d i, i + d = p → 2 ≤ i → alB (fun i => decide (i < 2) || decide (¬ p % i = 0)) i = true → pm_W (g_P ys) 212 18 [.int (nI p), .int (nI i)] [] h (0, 0) Q := by
    intro d
    induction d with
    | zero =>
      intro i hi hi2 ha
      refine ps_iload rfl rfl ?_
      refine ps_iload rfl rfl ?_
      refine ps_icmpt rfl (decide_eq_true (nI_le (by omega) (by omega))) ?_
      refine pw_c rfl ?_
      refine ps_zret rfl rfl (Or.inr rfl) ?_
      rw [show i = p by omega] at ha
      rw [prB, ha] at kk
      exact kk
    | succ d ih =>
      intro i hi hi2 ha
      refine ps_iload rfl rfl ?_
      refine ps_iload rfl rfl ?_
      refine ps_icmpf rfl (decide_eq_false (nI_ge (by omega) (by omega))) ?_
      refine ps_iload rfl rfl ?_
      refine ps_iload rfl rfl ?_
      refine ps_rem rfl (nI_nz (by omega) (by omega)) ?_
      rw [nI_rem (by omega) (by omega) (by omega)]
      refine ps_if rfl (fun hc => ?_) (fun hc => ?_)
      · have hn : ¬ p % i = 0 := fun q => by rw [q] at hc; exact absurd hc (by decide)
        refine ps_iinc rfl rfl ?_
        refine ps_goto rfl ?_
        rw [show nI i + Int32.ofInt 1 = nI (i + 1) from nI_1 i]
        exact ih (i + 1) (by omega) (by omega) (by rw [alB, ha, decide_eq_true hn, Bool.or_true]; rfl)
      · have hn : p % i = 0 := Classical.byContradiction fun q => by
          have hm := Nat.mod_lt p (show 0 < i by omega)
          have : pm_cmp .ne (nI (p % i)) 0 = true := by
            simp only [pm_cmp, bne_iff_ne, ne_eq, decide_not, Bool.not_eq_true', decide_eq_false_iff_not]
            exact nI_nz (by omega) (by omega)
          rw [this] at hc
          exact absurd hc (by decide)
        refine pw_c rfl ?_
        refine ps_zret rfl rfl (Or.inl rfl) ?_
        rw [prB, alB_no (i := i) (by rw [decide_eq_false (p := i < 2) (by omega), hn]; rfl) p (by omega)] at kk
        exact kk
  have hin : (decide ((3 : Int64) ≤ (nI p).toInt64) && decide ((nI p).toInt64 ≤ (47 : Int64))) = true := by
    have : ∀ p : Fin 48, 3 ≤ p.val → (decide ((3 : Int64) ≤ (nI p.val).toInt64) && decide ((nI p.val).toInt64 ≤ (47 : Int64))) = true := by decide +kernel
    exact this ⟨p, by omega⟩ h1
  refine ps_iload rfl rfl ?_
  refine ps_ar rfl rfl rfl rfl rfl ?_
  refine pw_c rfl ?_
  refine pw_c rfl ?_
  refine pw_k rfl rfl rfl rfl ⟨Nat.zero_le _, Nat.zero_le _⟩ ?_
  refine M_isIn ?_
  refine ps_ift rfl ((congrArg (fun b => pm_cmp .ne (bI b) 0) hin).trans rfl) ?_
  refine pw_c rfl ?_
  refine ps_istore rfl rfl ?_
  exact loop (p - 2) 2 (by omega) (by omega) rfl
theorem M_rootOf {p r : Nat} (h1 : 2 ≤ p) (h2 : p ≤ 47) (hr : r < p) (kk : Q [.int (roI p r (p - 1) 1)] h) : pm_W (g_P ys) 213 0 [.int (nI p), .int (nI r), .retAddr 0] [] h (0, 0) Q := by
  have loop : ∀ d i, i + d = p → 1 ≤ i → Q [.int (roI p r d i)] h → pm_W (g_P ys) 213 2 [.int (nI p), .int (nI r), .int (nI i)] [] h (0, 0) Q := by
    intro d
    induction d with
    | zero =>
      intro i hi hi1 kk
      refine ps_iload rfl rfl ?_
      refine ps_iload rfl rfl ?_
      refine ps_icmpt rfl (decide_eq_true (nI_le (by omega) (by omega))) ?_
      refine pw_c rfl ?_
      refine ps_iret rfl rfl ?_
      exact kk
    | succ d ih =>
      intro i hi hi1 kk
      have hb : i * i ≤ 47 * 47 := Nat.mul_le_mul (by omega) (by omega)
      refine ps_iload rfl rfl ?_
      refine ps_iload rfl rfl ?_
      refine ps_icmpf rfl (decide_eq_false (nI_ge (by omega) (by omega))) ?_
      refine ps_iload rfl rfl ?_
      refine ps_iload rfl rfl ?_
      refine ps_ar rfl rfl rfl rfl rfl ?_
      rw [pk_mul]
      refine ps_iload rfl rfl ?_
      refine ps_rem rfl (nI_nz (by omega) (by omega)) ?_
      rw [nI_rem (by omega) (by omega) (by omega)]
      have hm := Nat.mod_lt (i * i) (show 0 < p by omega)
      refine ps_iload rfl rfl ?_
      refine ps_icmp rfl (fun hc => ?_) (fun hc => ?_)
      · have hn : ¬ i * i % p = r := fun q => by rw [q] at hc; simp [pm_cmp] at hc
        refine ps_iinc rfl rfl ?_
        refine ps_goto rfl ?_
        rw [show nI i + Int32.ofInt 1 = nI (i + 1) from nI_1 i]
        rw [roI, if_neg hn] at kk
        exact ih (i + 1) (by omega) (by omega) kk
      · have hn : i * i % p = r := nI_eqv (by omega) (by omega) (by simpa [pm_cmp] using hc)
        refine ps_iload rfl rfl ?_
        refine ps_iret rfl rfl ?_
        rw [roI, if_pos hn] at kk
        exact kk
  refine pw_c rfl ?_
  refine ps_istore rfl rfl ?_
  exact loop (p - 1) 1 (by omega) (by omega) kk
end MF
