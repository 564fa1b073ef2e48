/-! BY HAND: the model's PLATES as they are made, exactly -/
section KJ
def reB (p x : Nat) : Bool := decide (¬ roI p x (p - 1) 1 = -1)
def pRow (nm : Int32) (p : Nat) : sPl := ⟨nm, p, 1, fun x => if 0 < x ∧ reB p x = true then 1 else 0, fun x => if (0 < x ∧ reB p x = true) ∨ (x = 0 ∧ p % 4 = 1) then 1 else -1⟩
abbrev sqH (p x y : Nat) : Prop := 0 < x ∧ (y = 0 ∨ reB p x = reB p y)
def pSq (nm : Int32) (p : Nat) : sPl := ⟨nm, p, p, fun c => if sqH p (c % p) (c / p) then 1 else 0, fun c => if sqH p (c % p) (c / p) ∨ c = 0 then 1 else -1⟩
def pBit (nm : Int32) (k : Nat) (g : Nat → Bool) : sPl := ⟨nm, k, 1, fun x => if g x = true then 1 else 0, fun x => if g x = true then 1 else -1⟩
def pSet (nm : Int32) (w : Nat) (h : Nat → Int32) : sPl := ⟨nm, w, 1, h, fun x => if h x = 1 then 1 else -1⟩
def tuI (w v a b c : Nat) : Nat := ((((c / w : Nat) : Int) - b) % v).toNat * w + ((((c % w : Nat) : Int) - a) % w).toNat
def pTurn (nm : Int32) (P : sPl) (a b : Nat) : sPl := ⟨nm, P.w, P.v, fun c => P.ho (tuI P.w P.v a b c), fun c => P.we (tuI P.w P.v a b c)⟩
def pNeg (nm : Int32) (P : sPl) : sPl := ⟨nm, P.w, P.v, fun c => if P.ho c = 0 then 1 else 0, fun c => - P.we c⟩
def pBoth (nm : Int32) (P R : sPl) : sPl := ⟨nm, P.w, R.w, fun c => if P.ho (c % P.w) = R.ho (c / P.w) then 1 else 0, fun c => P.we (c % P.w) * R.we (c / P.w)⟩
/-- holes and weights of plate n up to c -/
def hwI (I I' : Nat → Nat → Int32) (n : Nat) (ho we : Nat → Int32) (c : Nat) : Prop := (∀ a j : Nat, ¬ ((a = 281 ∨ a = 283) ∧ 289 * n ≤ j ∧ j < 289 * n + 289) → I' a j = I a j) ∧ ∀ x, x < c → I' 281 (289 * n + x) = ho x ∧ I' 283 (289 * n + x) = we x
/-- where a plate that is being made lies -/
def mkF (n : Nat) (I I' : Nat → Nat → Int32) : Prop := ∀ a j : Nat, ¬ ((a = 279 ∧ 7 * n ≤ j ∧ j < 7 * n + 7) ∨ ((a = 281 ∨ a = 283) ∧ 289 * n ≤ j ∧ j < 289 * n + 289) ∨ a = 277) → I' a j = I a j
def mkP (n : Nat) (P : sPl) (I : Nat → Nat → Int32) : Prop := I 279 (7 * n) = nI P.w ∧ I 279 (7 * n + 1) = nI P.v ∧ ∀ i, i < P.w * P.v → I 281 (289 * n + i) = P.ho i ∧ I 283 (289 * n + i) = P.we i
variable {I I' I'' : Nat → Nat → Int32} {L L' : Nat → Nat → Int64} {n : Nat} {s : Nat → Option Nat} {Q : List Value → pm_H → Prop} {ys : List Int32} {ho we : Nat → Int32} {c : Nat}
theorem roI_pos {p r : Nat} : ∀ {d i : Nat}, roI p r d i = -1 ∨ ∃ m, roI p r d i = nI m ∧ i ≤ m ∧ m < i + d
  | 0, _ => Or.inl rfl
  | d + 1, i => by
    rw [roI]
    split
    · exact Or.inr ⟨i, rfl, by omega, by omega⟩
    · rcases roI_pos (p := p) (r := r) (d := d) (i := i + 1) with e | ⟨m, e, h1, h2⟩
      · exact Or.inl e
      · exact Or.inr ⟨m, e, by omega, by omega⟩
theorem M_isResidue {p x : Nat} {h : pm_H} (h1 : 2 ≤ p) (h2 : p ≤ 47) (hx : x < p) (kk : Q [.int (bI (reB p x))] h) : pm_W (g_P ys) 295 0 [.int (nI p), .int (nI x)] [] h (0, 0) Q := by
  refine ps_iload rfl rfl ?_
  refine ps_iload rfl rfl ?_
  refine pw_k rfl rfl rfl rfl ⟨Nat.zero_le _, Nat.zero_le _⟩ ?_
  refine M_rootOf h1 h2 hx ?_
  unfold reB at kk
  rcases roI_pos (p := p) (r := x) (d := p - 1) (i := 1) with e | ⟨m, e, m1, m2⟩
  · rw [e] at kk ⊢
    refine ps_ift rfl (rfl) ?_
    refine pw_c rfl ?_
    refine ps_zret rfl rfl (Or.inl rfl) ?_
    exact kk
  · have ne : ¬ nI m = -1 := fun z => by
      have z := congrArg Int32.toInt z
      rw [nI_toInt (by omega)] at z
      have : (-1 : Int32).toInt = -1 := rfl
      omega
    rw [e, decide_eq_true ne] at kk
    rw [e]
    refine ps_iff rfl (decide_eq_false (fun z => absurd ((i_le _ _).mp z) (by rw [nI_toInt (by omega)]; have : (0 : Int32).toInt = 0 := rfl; omega))) ?_
    refine pw_c rfl ?_
    refine ps_goto rfl ?_
    refine ps_zret rfl rfl (Or.inr rfl) ?_
    exact kk
theorem hw_0 : hwI I I n ho we 0 := ⟨fun _ _ _ => rfl, fun _ h => absurd h (by omega)⟩
theorem hw_s (h : hwI I I' n ho we c) (hc : c < 289) {x y : Int32} (hx : x = ho c) (hy : y = we c) : hwI I (pm_u (pm_u I' 281 (289 * n + c) x) 283 (289 * n + c) y) n ho we (c + 1) := by
  refine ⟨fun a j q => ?_, fun i hi => ?_⟩
  · rw [pu_x (fun z => q (by omega)), pu_x (fun z => q (by omega))]
    exact h.1 a j q
  · by_cases e : i = c
    · subst e
      rw [pu_o (by decide), pu_s, pu_s]
      exact ⟨hx, hy⟩
    · rw [pu_o (by decide), pu_n (by omega), pu_n (by omega), pu_o (by decide)]
      exact h.2 i (by omega)
theorem hw_np (h : hwI I I' n ho we c) {j : Nat} : I' 275 j = I 275 j := h.1 _ _ (by omega)
/-- what tells and sizes write -/
def tsI (I : Nat → Nat → Int32) (n : Nat) (f a b d w v : Int32) : Nat → Nat → Int32 := pm_u (pm_u (pm_u (pm_u (pm_u (pm_u I 279 (7 * n + 2) f) 279 (7 * n + 3) a) 279 (7 * n + 4) b) 279 (7 * n + 5) d) 279 (7 * n) w) 279 (7 * n + 1) v
theorem ts_F {f a b d w v : Int32} : mkF n I (tsI I n f a b d w v) := fun p j q => by
  unfold tsI
  rw [pu_x (fun z => q (by omega)), pu_x (fun z => q (by omega)), pu_x (fun z => q (by omega)), pu_x (fun z => q (by omega)), pu_x (fun z => q (by omega)), pu_x (fun z => q (by omega))]
theorem ts_w {f a b d w v : Int32} : tsI I n f a b d w v 279 (7 * n) = w := by
  unfold tsI
  rw [pu_n (by omega), pu_s]
theorem ts_v {f a b d w v : Int32} : tsI I n f a b d w v 279 (7 * n + 1) = v := by
  unfold tsI
  rw [pu_s]
theorem ts_np {f a b d w v : Int32} {j : Nat} : tsI I n f a b d w v 275 j = I 275 j := ts_F _ _ (by omega)
theorem mk_done {P : sPl} {f a b d : Int32} (h : hwI (tsI I n f a b d (nI P.w) (nI P.v)) I' n P.ho P.we (P.w * P.v)) : mkF n I I' ∧ mkP n P I' := by
  refine ⟨fun x j q => ?_, ?_, ?_, h.2⟩
  · rw [h.1 x j (fun z => q (Or.inr (Or.inl z)))]
    exact ts_F x j q
  · rw [h.1 _ _ (by omega)]
    exact ts_w
  · rw [h.1 _ _ (by omega)]
    exact ts_v
theorem M_makesRow {nm : Int32} {p : Nat} (hn : I 275 15 = nI n) (hn6 : n < 6) (h1 : 2 ≤ p) (h2 : p ≤ 47) (kk : ∀ I', mkF n I I' → mkP n (pRow nm p) I' → Q [] (I', L, g_R s, 306)) : pm_W (g_P ys) 292 0 [.ref 275, .int (nI p), .retAddr 0, .retAddr 0] [] (I, L, g_R s, 306) (0, 0) Q := by
  have loop : ∀ d x I' (v3 : Value), x + d = p → hwI (tsI I n 0 (nI p) 0 0 (nI p) 1) I' n (pRow nm p).ho (pRow nm p).we x → pm_W (g_P ys) 292 16 [.ref 275, .int (nI p), .int (nI x), v3] [] (I', L, g_R s, 306) (0, 0) Q := by
    intro d
    induction d with
    | zero =>
      intro x I' v3 hx h
      have hxp : x = p := by omega
      refine ps_iload rfl rfl ?_
      refine ps_iload rfl rfl ?_
      refine ps_icmpt rfl (decide_eq_true (nI_le (by omega) (by omega))) ?_
      refine ps_vret rfl rfl ?_
      rw [hxp] at h
      obtain ⟨z1, z2⟩ := mk_done (I := I) (I' := I') (n := n) (P := pRow nm p) (f := 0) (a := nI p) (b := 0) (d := 0) (by show hwI _ _ _ _ _ (p * 1); rw [Nat.mul_one]; exact h)
      exact kk _ z1 z2
    | succ d ih =>
      intro x I' v3 hx h
      have np : I' 275 15 = nI n := (hw_np h).trans (ts_np.trans hn)
      have next : ∀ (b w : Int32), (if b = 0 then (0 : Int32) else 1) = (pRow nm p).ho x → w = (pRow nm p).we x → pm_W (g_P ys) 292 62 [.ref 275, .int (nI p), .int (nI x), .int b] [.int w, .int b, .int (nI x), .ref 275] (I', L, g_R s, 306) (0, 0) Q := by
        intro b w hb hw
        refine pw_k rfl rfl rfl rfl ⟨Nat.zero_le _, Nat.zero_le _⟩ ?_
        refine M_puts np hn6 (by omega) b w ?_
        refine ps_iinc rfl rfl ?_
        refine ps_goto rfl ?_
        rw [show nI x + Int32.ofInt 1 = nI (x + 1) from nI_1 x]
        exact ih (x + 1) _ _ (by omega) (hw_s h (by omega) hb hw)
      refine ps_iload rfl rfl ?_
      refine ps_iload rfl rfl ?_
      refine ps_icmpf rfl (decide_eq_false (nI_ge (by omega) (by omega))) ?_
      by_cases x0 : x = 0
      · subst x0
        have eh : (pRow nm p).ho 0 = 0 := if_neg (t := (1 : Int32)) (show ¬ (0 < 0 ∧ reB p 0 = true) from fun z => absurd z.1 (by omega))
        refine ps_iload rfl rfl ?_
        refine ps_ift rfl (rfl) ?_
        refine pw_c rfl ?_
        refine ps_istore rfl rfl ?_
        refine ps_aload rfl rfl ?_
        refine ps_iload rfl rfl ?_
        refine ps_iload rfl rfl ?_
        refine ps_iload rfl rfl ?_
        refine ps_iff rfl (rfl) ?_
        refine ps_iload rfl rfl ?_
        refine ps_iff rfl (rfl) ?_
        refine ps_iload rfl rfl ?_
        refine pw_c rfl ?_
        refine ps_rem rfl (nI_nz (b := 4) (by omega) (by omega)) ?_
        rw [show nI p - nI p / (4 : Int32) * (4 : Int32) = nI (p % 4) from nI_rem (b := 4) (by omega) (by omega) (by omega)]
        by_cases p4 : p % 4 = 1
        · rw [p4]
          refine pw_c rfl ?_
          refine ps_icmpf rfl (rfl) ?_
          refine pw_c rfl ?_
          refine ps_goto rfl ?_
          exact next 0 1 eh.symm (if_pos (Or.inr ⟨rfl, p4⟩)).symm
        · refine pw_c rfl ?_
          refine ps_icmpt rfl (decide_eq_true (fun z => p4 (nI_inj (b := 1) (by omega) (by omega) z))) ?_
          refine pw_c rfl ?_
          exact next 0 (-1) eh.symm (if_neg (fun z => by exact Or.elim z (fun z => absurd z.1 (by omega)) (fun z => p4 z.2))).symm
      · refine ps_iload rfl rfl ?_
        refine ps_iff rfl (decide_eq_false (nI_ge (a := 0) (b := x) (by omega) (by omega))) ?_
        refine ps_iload rfl rfl ?_
        refine ps_iload rfl rfl ?_
        refine pw_k rfl rfl rfl rfl ⟨Nat.zero_le _, Nat.zero_le _⟩ ?_
        refine M_isResidue h1 h2 (by omega) ?_
        cases e : reB p x with
        | true =>
          refine ps_iff rfl (rfl) ?_
          refine pw_c rfl ?_
          refine ps_goto rfl ?_
          refine ps_istore rfl rfl ?_
          refine ps_aload rfl rfl ?_
          refine ps_iload rfl rfl ?_
          refine ps_iload rfl rfl ?_
          refine ps_iload rfl rfl ?_
          refine ps_ift rfl (rfl) ?_
          refine pw_c rfl ?_
          refine ps_goto rfl ?_
          exact next 1 1 (if_pos (show 0 < x ∧ reB p x = true from ⟨by omega, e⟩)).symm (if_pos (Or.inl (show 0 < x ∧ reB p x = true from ⟨by omega, e⟩))).symm
        | false =>
          refine ps_ift rfl (rfl) ?_
          refine pw_c rfl ?_
          refine ps_istore rfl rfl ?_
          refine ps_aload rfl rfl ?_
          refine ps_iload rfl rfl ?_
          refine ps_iload rfl rfl ?_
          refine ps_iload rfl rfl ?_
          refine ps_iff rfl (rfl) ?_
          refine ps_iload rfl rfl ?_
          refine ps_ift rfl (decide_eq_true (fun z => x0 (nI_inj (b := 0) (by omega) (by omega) z))) ?_
          refine pw_c rfl ?_
          exact next 0 (-1) (if_neg (show ¬ (0 < x ∧ reB p x = true) from fun z => by rw [e] at z; exact absurd z.2 (by decide))).symm (if_neg (fun z => Or.elim z (fun z => by rw [e] at z; exact absurd z.2 (by decide)) (fun z => x0 z.1))).symm
  refine ps_aload rfl rfl ?_
  refine pw_c rfl ?_
  refine ps_iload rfl rfl ?_
  refine pw_c rfl ?_
  refine pw_c rfl ?_
  refine pw_k rfl rfl rfl rfl ⟨Nat.zero_le _, Nat.zero_le _⟩ ?_
  refine M_tells hn hn6 0 (nI p) 0 0 ?_
  refine ps_aload rfl rfl ?_
  refine ps_iload rfl rfl ?_
  refine pw_c rfl ?_
  refine pw_k rfl rfl rfl rfl ⟨Nat.zero_le _, Nat.zero_le _⟩ ?_
  refine M_sizes (by rw [pu_o (by decide), pu_o (by decide), pu_o (by decide), pu_o (by decide)]; exact hn) hn6 (nI p) 1 ?_
  refine pw_c rfl ?_
  refine ps_istore rfl rfl ?_
  exact loop p 0 _ _ (by omega) hw_0
theorem sq_ix {p x y : Nat} (hx : x < p) : (p * y + x) % p = x ∧ (p * y + x) / p = y := by
  constructor
  · rw [Nat.mul_add_mod, Nat.mod_eq_of_lt hx]
  · rw [Nat.mul_add_div (by omega), Nat.div_eq_of_lt hx, Nat.add_zero]
theorem M_makesSquare {nm : Int32} {p : Nat} (hn : I 275 15 = nI n) (hn6 : n < 6) (h1 : 2 ≤ p) (h2 : p ≤ 17) (kk : ∀ I', mkF n I I' → mkP n (pSq nm p) I' → Q [] (I', L, g_R s, 306)) : pm_W (g_P ys) 297 0 [.ref 275, .int (nI p), .retAddr 0, .retAddr 0, .retAddr 0] [] (I, L, g_R s, 306) (0, 0) Q := by
  have pp : p * p ≤ 289 := Nat.mul_le_mul h2 h2
  have outer : ∀ e y I' (v3 v4 : Value), y + e = p → hwI (tsI I n 5 (nI p) 0 0 (nI p) (nI p)) I' n (pSq nm p).ho (pSq nm p).we (p * y) → pm_W (g_P ys) 297 16 [.ref 275, .int (nI p), .int (nI y), v3, v4] [] (I', L, g_R s, 306) (0, 0) Q := by
    intro e
    induction e with
    | zero =>
      intro y I' v3 v4 hy h
      have hyp : y = p := by omega
      rw [hyp] at h
      refine ps_iload rfl rfl ?_
      refine ps_iload rfl rfl ?_
      refine ps_icmpt rfl (decide_eq_true (nI_le (by omega) (by omega))) ?_
      refine ps_vret rfl rfl ?_
      obtain ⟨z1, z2⟩ := mk_done (I := I) (I' := I') (n := n) (P := pSq nm p) (f := 5) (a := nI p) (b := 0) (d := 0) h
      exact kk _ z1 z2
    | succ e ihe =>
      intro y I' v3 v4 hy h
      have hyl : p * y + p ≤ p * p := by
        have := Nat.mul_le_mul_left p (show y + 1 ≤ p by omega)
        rw [Nat.mul_add, Nat.mul_one] at this
        exact this
      have inner : ∀ d x I' (v4 : Value), x + d = p → hwI (tsI I n 5 (nI p) 0 0 (nI p) (nI p)) I' n (pSq nm p).ho (pSq nm p).we (p * y + x) → pm_W (g_P ys) 297 23 [.ref 275, .int (nI p), .int (nI y), .int (nI x), v4] [] (I', L, g_R s, 306) (0, 0) Q := by
        intro d
        induction d with
        | zero =>
          intro x I' v4 hx h
          have hxp : x = p := by omega
          rw [hxp, show p * y + p = p * (y + 1) by rw [Nat.mul_add, Nat.mul_one]] at h
          refine ps_iload rfl rfl ?_
          refine ps_iload rfl rfl ?_
          refine ps_icmpt rfl (decide_eq_true (nI_le (by omega) (by omega))) ?_
          refine ps_iinc rfl rfl ?_
          refine ps_goto rfl ?_
          rw [show nI y + Int32.ofInt 1 = nI (y + 1) from nI_1 y]
          exact ihe (y + 1) _ _ _ (by omega) h
        | succ d ih =>
          intro x I' v4 hx h
          have np : I' 275 15 = nI n := (hw_np h).trans (ts_np.trans hn)
          obtain ⟨ix1, ix2⟩ := sq_ix (p := p) (x := x) (y := y) (by omega)
          have next : ∀ (b w : Int32), (if b = 0 then (0 : Int32) else 1) = (pSq nm p).ho (p * y + x) → w = (pSq nm p).we (p * y + x) → pm_W (g_P ys) 297 80 [.ref 275, .int (nI p), .int (nI y), .int (nI x), .int b] [.int w, .int b, .int (nI (p * y + x)), .ref 275] (I', L, g_R s, 306) (0, 0) Q := by
            intro b w hb hw
            refine pw_k rfl rfl rfl rfl ⟨Nat.zero_le _, Nat.zero_le _⟩ ?_
            refine M_puts np hn6 (by omega) b w ?_
            refine ps_iinc rfl rfl ?_
            refine ps_goto rfl ?_
            rw [show nI x + Int32.ofInt 1 = nI (x + 1) from nI_1 x]
            exact ih (x + 1) _ _ (by omega) (hw_s h (by omega) hb hw)
          have c54 : ∀ b : Int32, (b = 1 ∧ sqH p x y) ∨ (b = 0 ∧ ¬ sqH p x y) → pm_W (g_P ys) 297 54 [.ref 275, .int (nI p), .int (nI y), .int (nI x), v4] [.int b] (I', L, g_R s, 306) (0, 0) Q := by
            intro b hb
            refine ps_istore rfl rfl ?_
            refine ps_aload rfl rfl ?_
            refine ps_iload rfl rfl ?_
            refine ps_iload rfl rfl ?_
            refine ps_ar rfl rfl rfl rfl rfl ?_
            refine ps_iload rfl rfl ?_
            refine ps_ar rfl rfl rfl rfl rfl ?_
            rw [show nI p * nI y + nI x = nI (p * y + x) by simp only [pk_mul, nI_add]]
            have eh : (pSq nm p).ho (p * y + x) = if sqH p x y then 1 else 0 := by
              show (if sqH p ((p * y + x) % p) ((p * y + x) / p) then (1 : Int32) else 0) = _
              rw [ix1, ix2]
            have ew : (pSq nm p).we (p * y + x) = if sqH p x y ∨ p * y + x = 0 then 1 else -1 := by
              show (if sqH p ((p * y + x) % p) ((p * y + x) / p) ∨ p * y + x = 0 then (1 : Int32) else -1) = _
              rw [ix1, ix2]
            rcases hb with ⟨rfl, hb⟩ | ⟨rfl, hb⟩
            · refine ps_iload rfl rfl ?_
              refine ps_iload rfl rfl ?_
              refine ps_ift rfl (rfl) ?_
              refine pw_c rfl ?_
              refine ps_goto rfl ?_
              exact next 1 1 (by rw [eh, if_pos hb]; rfl) (by rw [ew, if_pos (Or.inl hb)])
            · refine ps_iload rfl rfl ?_
              refine ps_iload rfl rfl ?_
              refine ps_iff rfl (rfl) ?_
              refine ps_iload rfl rfl ?_
              refine ps_iload rfl rfl ?_
              refine ps_ar rfl rfl rfl rfl rfl ?_
              rw [show nI x + nI y = nI (x + y) by rw [nI_add]]
              by_cases z : x + y = 0
              · have zx : x = 0 := by omega
                have zy : y = 0 := by omega
                rw [z]
                refine ps_iff rfl (rfl) ?_
                refine pw_c rfl ?_
                refine ps_goto rfl ?_
                exact next 0 1 (by rw [eh, if_neg hb]; rfl) (by rw [ew, if_pos (Or.inr (by rw [zx, zy, Nat.mul_zero]))])
              · refine ps_ift rfl (decide_eq_true (fun q => z (nI_inj (b := 0) (by omega) (by omega) q))) ?_
                refine pw_c rfl ?_
                have nz : ¬ p * y + x = 0 := by
                  intro q
                  have : p * y = 0 := by omega
                  rcases Nat.mul_eq_zero.mp this with r | r <;> omega
                exact next 0 (-1) (by rw [eh, if_neg hb]; rfl) (by rw [ew, if_neg (fun q => Or.elim q hb nz)])
          refine ps_iload rfl rfl ?_
          refine ps_iload rfl rfl ?_
          refine ps_icmpf rfl (decide_eq_false (nI_ge (by omega) (by omega))) ?_
          by_cases x0 : x = 0
          · subst x0
            refine ps_iload rfl rfl ?_
            refine ps_ift rfl (rfl) ?_
            refine pw_c rfl ?_
            exact c54 0 (Or.inr ⟨rfl, fun z => absurd z.1 (by omega)⟩)
          · refine ps_iload rfl rfl ?_
            refine ps_iff rfl (decide_eq_false (nI_ge (a := 0) (b := x) (by omega) (by omega))) ?_
            by_cases y0 : y = 0
            · refine ps_iload rfl rfl ?_
              refine ps_ift rfl (by rw [y0]; rfl) ?_
              refine pw_c rfl ?_
              refine ps_goto rfl ?_
              exact c54 1 (Or.inl ⟨rfl, by omega, Or.inl y0⟩)
            · refine ps_iload rfl rfl ?_
              refine ps_iff rfl (decide_eq_false (fun q => y0 (nI_inj (b := 0) (by omega) (by omega) q))) ?_
              refine ps_iload rfl rfl ?_
              refine ps_iload rfl rfl ?_
              refine pw_k rfl rfl rfl rfl ⟨Nat.zero_le _, Nat.zero_le _⟩ ?_
              refine M_isResidue h1 (by omega) (by omega) ?_
              refine ps_iload rfl rfl ?_
              refine ps_iload rfl rfl ?_
              refine pw_k rfl rfl rfl rfl ⟨Nat.zero_le _, Nat.zero_le _⟩ ?_
              refine M_isResidue h1 (by omega) (by omega) ?_
              by_cases r : reB p x = reB p y
              · rw [r]
                refine ps_icmpf rfl (decide_eq_false (fun q => q rfl)) ?_
                refine pw_c rfl ?_
                refine ps_goto rfl ?_
                exact c54 1 (Or.inl ⟨rfl, by omega, Or.inr r⟩)
              · refine ps_icmpt rfl (decide_eq_true (fun q => r (by revert q; cases reB p x <;> cases reB p y <;> decide))) ?_
                refine pw_c rfl ?_
                exact c54 0 (Or.inr ⟨rfl, fun z => Or.elim z.2 y0 r⟩)
      refine ps_iload rfl rfl ?_
      refine ps_iload rfl rfl ?_
      refine ps_icmpf rfl (decide_eq_false (nI_ge (by omega) (by omega))) ?_
      refine pw_c rfl ?_
      refine ps_istore rfl rfl ?_
      exact inner p 0 I' v4 (by omega) h
  refine ps_aload rfl rfl ?_
  refine pw_c rfl ?_
  refine ps_iload rfl rfl ?_
  refine pw_c rfl ?_
  refine pw_c rfl ?_
  refine pw_k rfl rfl rfl rfl ⟨Nat.zero_le _, Nat.zero_le _⟩ ?_
  refine M_tells hn hn6 5 (nI p) 0 0 ?_
  refine ps_aload rfl rfl ?_
  refine ps_iload rfl rfl ?_
  refine ps_iload rfl rfl ?_
  refine pw_k rfl rfl rfl rfl ⟨Nat.zero_le _, Nat.zero_le _⟩ ?_
  refine M_sizes (by rw [pu_o (by decide), pu_o (by decide), pu_o (by decide), pu_o (by decide)]; exact hn) hn6 (nI p) (nI p) ?_
  refine pw_c rfl ?_
  refine ps_istore rfl rfl ?_
  exact outer p 0 _ _ _ (by omega) (by rw [Nat.mul_zero]; exact hw_0)
end KJ
