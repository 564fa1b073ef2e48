/-! BY HAND: what a text says, as a pure function of its TOKENS; words as class and model pack them -/
section KA
/-- the letters of a word, packed by 32 and by 27 -/
def pk : Nat → Int → Int → Prop
  | 0, a, b => a = 0 ∧ b = 0
  | k + 1, a, b => ∃ a0 b0 d : Int, pk k a0 b0 ∧ 1 ≤ d ∧ d ≤ 26 ∧ a = a0 * 32 + d ∧ b = 27 * b0 + d
theorem pk_z : pk 0 0 0 := ⟨rfl, rfl⟩
theorem pk_s {k : Nat} {a b : Int} (d : Int) (h : pk k a b) (h1 : 1 ≤ d) (h2 : d ≤ 26) : pk (k + 1) (a * 32 + d) (27 * b + d) := ⟨a, b, d, h, h1, h2, rfl, rfl⟩
theorem pk_nn : ∀ {k : Nat} {a b : Int}, pk k a b → 0 ≤ a ∧ 0 ≤ b
  | 0, a, b, h => by
    obtain ⟨rfl, rfl⟩ := h
    exact ⟨by omega, by omega⟩
  | k + 1, a, b, h => by
    obtain ⟨a0, b0, d, h, h1, h2, rfl, rfl⟩ := h
    have ih := pk_nn h
    exact ⟨by omega, by omega⟩
theorem pk_bd : ∀ {k : Nat} {a b : Int}, pk k a b → a < 32 ^ k ∧ b < 27 ^ k
  | 0, a, b, h => by
    obtain ⟨rfl, rfl⟩ := h
    exact ⟨by decide, by decide⟩
  | k + 1, a, b, h => by
    obtain ⟨a0, b0, d, h, h1, h2, rfl, rfl⟩ := h
    have ih := pk_bd h
    exact ⟨by rw [Int.pow_succ]; omega, by rw [Int.pow_succ]; omega⟩
theorem pk_inj : ∀ {k : Nat} {a b : Int}, pk k a b → ∀ {k' : Nat} {a' b' : Int}, pk k' a' b' → (a = a' ↔ b = b')
  | 0, a, b, h, 0, a', b', h' => by
    obtain ⟨rfl, rfl⟩ := h
    obtain ⟨rfl, rfl⟩ := h'
    exact ⟨fun _ => rfl, fun _ => rfl⟩
  | 0, a, b, h, k' + 1, a', b', h' => by
    obtain ⟨rfl, rfl⟩ := h
    obtain ⟨a0, b0, d, h2, d1, d2, rfl, rfl⟩ := h'
    have := pk_nn h2
    exact ⟨fun q => by omega, fun q => by omega⟩
  | k + 1, a, b, h, 0, a', b', h' => by
    obtain ⟨rfl, rfl⟩ := h'
    obtain ⟨a0, b0, d, h2, d1, d2, rfl, rfl⟩ := h
    have := pk_nn h2
    exact ⟨fun q => by omega, fun q => by omega⟩
  | k + 1, a, b, h, k' + 1, a', b', h' => by
    obtain ⟨a0, b0, d, h0, d1, d2, rfl, rfl⟩ := h
    obtain ⟨a1, b1, e, h2, e1, e2, rfl, rfl⟩ := h'
    have n0 := pk_nn h0
    have n1 := pk_nn h2
    have i := pk_inj h0 h2
    constructor
    · intro q
      have := i.mp (by omega)
      omega
    · intro q
      have := i.mpr (by omega)
      omega
theorem pk6 {k : Nat} {a b : Int} (h : pk k a b) (hk : k ≤ 6) : (0 ≤ a ∧ a < 1073741824) ∧ (0 ≤ b ∧ b < 387420489) := by
  have n := pk_nn h
  have d := pk_bd h
  have e1 : (32 : Int) ^ k ≤ 1073741824 := by
    rcases (show k = 0 ∨ k = 1 ∨ k = 2 ∨ k = 3 ∨ k = 4 ∨ k = 5 ∨ k = 6 by omega) with rfl | rfl | rfl | rfl | rfl | rfl | rfl <;> decide
  have e2 : (27 : Int) ^ k ≤ 387420489 := by
    rcases (show k = 0 ∨ k = 1 ∨ k = 2 ∨ k = 3 ∨ k = 4 ∨ k = 5 ∨ k = 6 by omega) with rfl | rfl | rfl | rfl | rfl | rfl | rfl <;> decide
  exact ⟨⟨n.1, by omega⟩, ⟨n.2, by omega⟩⟩
/-- the class's word x is the model's word y -/
def nmR (x : Int32) (y : Int64) : Prop := ∃ k a b, k ≤ 6 ∧ pk k a b ∧ x = iI a ∧ y = Int64.ofInt b
theorem lI_toInt {z : Int} (h1 : 0 ≤ z) (h2 : z < 387420489) : (Int64.ofInt z).toInt = z := Int64.toInt_ofInt_of_le (by omega) (by omega)
theorem nmR_eq {x x' : Int32} {y y' : Int64} (h : nmR x y) (h' : nmR x' y') : x = x' ↔ y = y' := by
  obtain ⟨k, a, b, hk, p, rfl, rfl⟩ := h
  obtain ⟨k', a', b', hk', p', rfl, rfl⟩ := h'
  have l := pk6 p hk
  have l' := pk6 p' hk'
  have i := pk_inj p p'
  constructor
  · intro q
    have q := congrArg Int32.toInt q
    rw [iI_toInt (by omega) (by omega), iI_toInt (by omega) (by omega)] at q
    rw [i.mp q]
  · intro q
    have q := congrArg Int64.toInt q
    rw [lI_toInt l.2.1 l.2.2, lI_toInt l'.2.1 l'.2.2] at q
    rw [i.mpr q]
/-- the class's numbers of the words that are no NAMES, in the model's order -/
def kwC (j : Nat) : Int32 := ([17172101, 18935, 75411, 677454, 14503, 81544, 656049733, 653969509, 409204, 20596793, 66667, 22117, 19636] : List Int32).getD j 0
def clsK (j : Nat) : Int32 := ([0, 1, 2, 4, 5, 6, 7, 8, 9, 10, 11, 12, 3] : List Int32).getD j 0
def pkL : List Int → Int × Int
  | [] => (0, 0)
  | d :: l => ((pkL l).1 * 32 + d, 27 * (pkL l).2 + d)
theorem pkL_pk : ∀ {l : List Int}, (∀ d, d ∈ l → 1 ≤ d ∧ d ≤ 26) → pk l.length (pkL l).1 (pkL l).2
  | [], _ => pk_z
  | d :: l, h => pk_s d (pkL_pk (fun e q => h e (List.mem_cons_of_mem _ q))) (h d List.mem_cons_self).1 (h d List.mem_cons_self).2
theorem nmR_L (l : List Int) (hl : l.length ≤ 6) (h : l.all (fun d => decide (1 ≤ d) && decide (d ≤ 26)) = true) {x : Int32} {y : Int64} (hx : x = iI (pkL l).1) (hy : y = Int64.ofInt (pkL l).2) : nmR x y :=
  ⟨l.length, _, _, hl, pkL_pk (fun d q => by
    have z := List.all_eq_true.mp h d q
    rw [Bool.and_eq_true, decide_eq_true_iff, decide_eq_true_iff] at z
    exact z), hx, hy⟩
theorem nmR_kw : ∀ {j : Nat}, j < 13 → nmR (kwC j) (wC j) := by
  intro j hj
  rcases (show j = 0 ∨ j = 1 ∨ j = 2 ∨ j = 3 ∨ j = 4 ∨ j = 5 ∨ j = 6 ∨ j = 7 ∨ j = 8 ∨ j = 9 ∨ j = 10 ∨ j = 11 ∨ j = 12 by omega) with rfl | rfl | rfl | rfl | rfl | rfl | rfl | rfl | rfl | rfl | rfl | rfl | rfl
  · exact nmR_L [5, 20, 1, 12, 16] (by decide) (by decide) (by decide) (by decide)
  · exact nmR_L [23, 15, 18] (by decide) (by decide) (by decide) (by decide)
  · exact nmR_L [19, 20, 9, 2] (by decide) (by decide) (by decide) (by decide)
  · exact nmR_L [14, 18, 21, 20] (by decide) (by decide) (by decide) (by decide)
  · exact nmR_L [7, 5, 14] (by decide) (by decide) (by decide) (by decide)
  · exact nmR_L [8, 20, 15, 2] (by decide) (by decide) (by decide) (by decide)
  · exact nmR_L [5, 18, 1, 21, 17, 19] (by decide) (by decide) (by decide) (by decide)
  · exact nmR_L [5, 3, 18, 21, 15, 19] (by decide) (by decide) (by decide) (by decide)
  · exact nmR_L [20, 19, 15, 12] (by decide) (by decide) (by decide) (by decide)
  · exact nmR_L [25, 1, 18, 20, 19] (by decide) (by decide) (by decide) (by decide)
  · exact nmR_L [11, 3, 1, 2] (by decide) (by decide) (by decide) (by decide)
  · exact nmR_L [5, 19, 21] (by decide) (by decide) (by decide) (by decide)
  · exact nmR_L [20, 5, 19] (by decide) (by decide) (by decide) (by decide)
theorem kwF_cases (x : Int32) : (kwF x = -1 ∧ ∀ j, j < 13 → ¬ x = kwC j) ∨ ∃ j, j < 13 ∧ x = kwC j ∧ kwF x = clsK j := by
  by_cases h : ∃ j, j < 13 ∧ x = kwC j
  · obtain ⟨j, hj, e⟩ := h
    refine Or.inr ⟨j, hj, e, ?_⟩
    rw [e]
    rcases (show j = 0 ∨ j = 1 ∨ j = 2 ∨ j = 3 ∨ j = 4 ∨ j = 5 ∨ j = 6 ∨ j = 7 ∨ j = 8 ∨ j = 9 ∨ j = 10 ∨ j = 11 ∨ j = 12 by omega) with rfl | rfl | rfl | rfl | rfl | rfl | rfl | rfl | rfl | rfl | rfl | rfl | rfl <;> decide
  · have n : ∀ j, j < 13 → ¬ x = kwC j := fun j hj e => h ⟨j, hj, e⟩
    refine Or.inl ⟨?_, n⟩
    unfold kwF
    rw [if_neg (show ¬ x = 17172101 from n 0 (by omega)), if_neg (show ¬ x = 18935 from n 1 (by omega)), if_neg (show ¬ x = 75411 from n 2 (by omega)), if_neg (show ¬ x = 19636 from n 12 (by omega)), if_neg (show ¬ x = 677454 from n 3 (by omega)), if_neg (show ¬ x = 14503 from n 4 (by omega)), if_neg (show ¬ x = 81544 from n 5 (by omega)), if_neg (show ¬ x = 656049733 from n 6 (by omega)), if_neg (show ¬ x = 653969509 from n 7 (by omega)), if_neg (show ¬ x = 409204 from n 8 (by omega)), if_neg (show ¬ x = 20596793 from n 9 (by omega)), if_neg (show ¬ x = 66667 from n 10 (by omega)), if_neg (show ¬ x = 22117 from n 11 (by omega))]
theorem clsK_inj : ∀ i j : Fin 13, clsK i.val = clsK j.val → i = j := by decide
theorem clsK_no : ∀ i : Fin 13, ¬ clsK i.val = -1 := by decide
theorem kw_iff {x : Int32} {y : Int64} (h : nmR x y) {j : Nat} (hj : j < 13) : y = wC j ↔ kwF x = clsK j := by
  rw [← nmR_eq h (nmR_kw hj)]
  constructor
  · rintro rfl
    rcases kwF_cases (kwC j) with ⟨_, n⟩ | ⟨i, hi, e, e2⟩
    · exact absurd rfl (n j hj)
    · have := (nmR_eq (nmR_kw hj) (nmR_kw hi)).mp e
      rw [e2]
      have q : ∀ i j : Fin 13, wC j.val = wC i.val → clsK i.val = clsK j.val := by decide
      exact q ⟨i, hi⟩ ⟨j, hj⟩ this
  · intro e
    rcases kwF_cases x with ⟨e1, _⟩ | ⟨i, hi, ex, e2⟩
    · exact absurd (e.symm.trans e1) (clsK_no ⟨j, hj⟩)
    · have := clsK_inj ⟨i, hi⟩ ⟨j, hj⟩ (e2.symm.trans e)
      have : i = j := congrArg Fin.val this
      rw [ex, this]
theorem kw_no {x : Int32} {y : Int64} (h : nmR x y) : (∀ j, j < 13 → ¬ y = wC j) ↔ kwF x = -1 := by
  constructor
  · intro n
    rcases kwF_cases x with ⟨e1, _⟩ | ⟨i, hi, ex, e2⟩
    · exact e1
    · exact absurd ((nmR_eq h (nmR_kw hi)).mp ex) (n i hi)
  · intro e j hj q
    have := (kw_iff h hj).mp q
    exact clsK_no ⟨j, hj⟩ (this.symm.trans e)
end KA
section KB
/-! the bytes of a text, as class and model have them -/
def tpE (f T : Nat → Int32) (n : Nat) : Prop := ∀ j, j < n → (f j).toInt = (T j).toInt % 256 ∧ -128 ≤ (T j).toInt ∧ (T j).toInt ≤ 127
variable {f T : Nat → Int32} {n : Nat}
theorem tp_in (h : tpE f T n) {j : Nat} (hj : j < n) {lo hi : Int} (h0 : 0 ≤ lo) (h1 : hi ≤ 127) : inR lo hi (f j) ↔ inR lo hi (T j) := by
  have := h j hj
  unfold inR
  omega
theorem tp_blk (h : tpE f T n) {j : Nat} (hj : j < n) : blk (f j) ↔ blk (T j) := by
  have := h j hj
  unfold blk
  omega
theorem tp_c (h : tpE f T n) {j : Nat} (hj : j < n) {c : Int} (h0 : 0 ≤ c) (h1 : c ≤ 127) : (f j).toInt = c ↔ (T j).toInt = c := by
  have := h j hj
  omega
theorem tp_e (h : tpE f T n) {j : Nat} (hj : j < n) (h0 : 0 ≤ (T j).toInt) : f j = T j := by
  have := h j hj
  exact (i_eq _ _).mpr (by omega)
theorem eoR_u (h : tpE f T n) {lo hi : Int} (h0 : 0 ≤ lo) (h1 : hi ≤ 127) {i e e' : Nat} (a : eoR f lo hi i e n) (b : eoR T lo hi i e' n) : e = e' := by
  obtain ⟨a1, a2, a3, a4⟩ := a
  obtain ⟨b1, b2, b3, b4⟩ := b
  rcases Nat.lt_trichotomy e e' with q | q | q
  · exact absurd ((tp_in h (by omega) h0 h1).mpr (b3 e a1 q)) (a4 (by omega))
  · exact q
  · exact absurd ((tp_in h (by omega) h0 h1).mp (a3 e' b1 q)) (b4 (by omega))
theorem nF_e {q : Nat} : ∀ {d : Nat}, (∀ j, q ≤ j → j < q + d → f j = T j) → nF f q d = nF T q d
  | 0, _ => rfl
  | d + 1, h => by rw [nF, nF, nF_e (fun j h1 h2 => h j h1 (by omega)), h (q + d) (by omega) (by omega)]
theorem wF_nm {q : Nat} : ∀ {d : Nat}, (∀ j, q ≤ j → j < q + d → inR 97 122 (T j) ∧ f j = T j) → ∃ a b, pk d a b ∧ wF f q d = iI a ∧ W27 T q d = Int64.ofInt b
  | 0, _ => ⟨0, 0, pk_z, rfl, rfl⟩
  | d + 1, h => by
    obtain ⟨a, b, p, e1, e2⟩ := wF_nm (q := q) (d := d) (fun j h1 h2 => h j h1 (by omega))
    obtain ⟨r, e3⟩ := h (q + d) (by omega) (by omega)
    unfold inR at r
    refine ⟨_, _, pk_s ((T (q + d)).toInt - 96) p (by omega) (by omega), ?_, ?_⟩
    · rw [wF, e1, e3, iI_of (T (q + d)), iI_toInt (by omega) (by omega)]
      show iI a * iI 32 + (iI (T (q + d)).toInt - iI 97 + iI 1) = _
      rw [iI_mul, iI_sub, iI_add, iI_add]
      exact congrArg iI (by omega)
    · rw [W27, e2, ← Int64.ofInt_int32ToInt]
      show Int64.ofInt 27 * Int64.ofInt b + Int64.ofInt (T (q + d)).toInt - Int64.ofInt 96 = _
      rw [← Int64.ofInt_mul, ← Int64.ofInt_add, ← Int64.ofInt_sub]
      exact congrArg Int64.ofInt (by omega)
/-- one token, two texts -/
theorem tokR_u (h : tpE f T n) (hn : n ≤ 800) {q e i : Nat} {k v k' v' : Int32} (hq : q < n) (a : tokR f n q e k v) (b : tokR T n q i k' v') : e = i ∧ k = k' ∧ (k = 2 → nmR v (W27 T q (e - q))) ∧ (k = 3 → v = v') ∧ (k = 4 → v = v') := by
  have h2 : ∀ {lo hi : Int}, 0 ≤ lo → hi ≤ 127 → (inR lo hi (f q) ↔ inR lo hi (T q)) := fun a b => tp_in h hq a b
  have h97 := h2 (lo := 97) (hi := 122) (by omega) (by omega)
  have h48 := h2 (lo := 48) (hi := 57) (by omega) (by omega)
  have h35 := tp_c h hq (c := 35) (by omega) (by omega)
  have h59 := tp_c h hq (c := 59) (by omega) (by omega)
  have c23 : ¬ (2 : Int32) = 3 := by decide
  have c24 : ¬ (2 : Int32) = 4 := by decide
  have c32 : ¬ (3 : Int32) = 2 := by decide
  have c34 : ¬ (3 : Int32) = 4 := by decide
  have c42 : ¬ (4 : Int32) = 2 := by decide
  have c43 : ¬ (4 : Int32) = 3 := by decide
  have c12 : ¬ (1 : Int32) = 2 := by decide
  have c13 : ¬ (1 : Int32) = 3 := by decide
  have c14 : ¬ (1 : Int32) = 4 := by decide
  have c52 : ¬ (5 : Int32) = 2 := by decide
  have c53 : ¬ (5 : Int32) = 3 := by decide
  have c54 : ¬ (5 : Int32) = 4 := by decide
  rcases a with ⟨a1, a2, a3, a4⟩ | ⟨a1, a2, a3, a4⟩ | ⟨a1, a2, a3, a4⟩ | ⟨a1, a2, a3, a4, a5, a6⟩
  · have z : ∀ {P : Prop}, ¬ inR 97 122 (T q) → P := fun x => absurd (h97.mp a1) x
    rcases b with ⟨b1, b2, b3, b4⟩ | ⟨b1, b2, b3, b4⟩ | ⟨b1, b2, b3, b4⟩ | ⟨b1, b2, b3, b4, b5, b6⟩
    · have ee := eoR_u h (by omega) (by omega) a2 b2
      subst ee
      refine ⟨rfl, a3.trans b3.symm, fun q2 => ?_, fun q3 => ?_, fun q4 => ?_⟩
      · have h6 : e - q ≤ 6 := by
          by_cases h6 : e - q ≤ 6
          · exact h6
          · rw [if_neg h6] at a3
            exact absurd (a3.symm.trans q2) c12
        obtain ⟨a0, b0, p, e1, e2⟩ := wF_nm (f := f) (T := T) (q := q) (d := e - q) (fun j j1 j2 => by
          have r := b2.2.2.1 j j1 (by have := a2.1; omega)
          exact ⟨r, tp_e h (by have := a2.2.1; omega) (by unfold inR at r; omega)⟩)
        exact ⟨_, a0, b0, h6, p, a4.trans e1, e2⟩
      · rw [a3] at q3
        split at q3
        · exact absurd q3 c23
        · exact absurd q3 c13
      · rw [a3] at q4
        split at q4
        · exact absurd q4 c24
        · exact absurd q4 c14
    · exact z (by unfold inR at b1 ⊢; omega)
    · exact z (by unfold inR; omega)
    · exact z b1
  · have z : ∀ {P : Prop}, ¬ inR 48 57 (T q) → P := fun x => absurd (h48.mp a1) x
    rcases b with ⟨b1, b2, b3, b4⟩ | ⟨b1, b2, b3, b4⟩ | ⟨b1, b2, b3, b4⟩ | ⟨b1, b2, b3, b4, b5, b6⟩
    · exact z (by unfold inR at b1 ⊢; omega)
    · have ee := eoR_u h (by omega) (by omega) a2 b2
      subst ee
      refine ⟨rfl, a3.trans b3.symm, fun q2 => ?_, fun q3 => ?_, fun q4 => ?_⟩
      · rw [a3] at q2
        split at q2
        · exact absurd q2 c32
        · exact absurd q2 c12
      · rw [a4, b4]
        exact nF_e (fun j j1 j2 => by
          have r := b2.2.2.1 j j1 (by have := a2.1; omega)
          exact tp_e h (by have := a2.2.1; omega) (by unfold inR at r; omega))
      · rw [a3] at q4
        split at q4
        · exact absurd q4 c34
        · exact absurd q4 c14
    · exact z (by unfold inR; omega)
    · exact z b2
  · have z : ∀ {P : Prop}, ¬ (T q).toInt = 35 → P := fun x => absurd (h35.mp a1) x
    rcases b with ⟨b1, b2, b3, b4⟩ | ⟨b1, b2, b3, b4⟩ | ⟨b1, b2, b3, b4⟩ | ⟨b1, b2, b3, b4, b5, b6⟩
    · exact z (by unfold inR at b1; omega)
    · exact z (by unfold inR at b1; omega)
    · have ee := eoR_u h (by omega) (by omega) a2 b2
      subst ee
      refine ⟨rfl, a3.trans b3.symm, fun q2 => ?_, fun q3 => ?_, fun _ => a4.trans b4.symm⟩
      · rw [a3] at q2
        split at q2
        · exact absurd q2 c42
        · exact absurd q2 c12
      · rw [a3] at q3
        split at q3
        · exact absurd q3 c43
        · exact absurd q3 c13
    · exact z b3
  · rcases b with ⟨b1, b2, b3, b4⟩ | ⟨b1, b2, b3, b4⟩ | ⟨b1, b2, b3, b4⟩ | ⟨b1, b2, b3, b4, b5, b6⟩
    · exact absurd (h97.mpr b1) a1
    · exact absurd (h48.mpr b1) a2
    · exact absurd (h35.mpr b1) a3
    · have ek : k = k' := by
        rw [a5, b5]
        by_cases q5 : (f q).toInt = 59
        · rw [if_pos q5, if_pos (h59.mp q5)]
        · rw [if_neg q5, if_neg (fun x => q5 (h59.mpr x))]
      refine ⟨by omega, ek, fun q2 => ?_, fun q3 => ?_, fun q4 => ?_⟩
      · rw [a5] at q2
        split at q2
        · exact absurd q2 c52
        · exact absurd q2 c12
      · rw [a5] at q3
        split at q3
        · exact absurd q3 c53
        · exact absurd q3 c13
      · rw [a5] at q4
        split at q4
        · exact absurd q4 c54
        · exact absurd q4 c14
end KB
section KC
/-- the tokens J of the text f of n bytes, as split lays them -/
def tkT (f : Nat → Int32) (J : Nat → Nat → Int32) (n c : Nat) : Prop := (∀ t, t < c → tkD f n J t) ∧ c ≤ n ∧ pE J c ≤ n ∧ (∀ j, pE J c ≤ j → j < n → blk (f j)) ∧ J 7 c = 0 ∧ J 8 c = nI n ∧ J 9 c = nI n ∧ J 10 c = 0
/-- the model stands at the token t -/
def cuR (J : Nat → Nat → Int32) (T : Nat → Int32) (c n t : Nat) (I : Nat → Nat → Int32) (L : Nat → Nat → Int64) : Prop :=
  I 275 48 = J 8 t ∧ ((t = c ∧ I 275 50 = 0 ∧ I 275 49 = nI (n + 1)) ∨ (t < c ∧ I 275 49 = nI (pE J (t + 1)) ∧ pE J (t + 1) ≤ n ∧ I 275 50 = sO (J 7 t) ∧ ¬ J 7 t = 0 ∧ (J 7 t = 2 → nmR (J 10 t) (L 275 54)) ∧ (J 7 t = 3 → I 275 51 = J 10 t) ∧ (J 7 t = 4 → I 275 53 = J 10 t ∧ ∃ q, J 8 t = nI q ∧ q + 1 + (J 10 t).toInt.toNat ≤ n ∧ L 275 54 = wB T q (J 10 t).toInt.toNat)))
variable {f : Nat → Int32} {J I I' : Nat → Nat → Int32} {L L' : Nat → Nat → Int64} {n c t : Nat}
theorem rd_cu (hT : tkT f J n c) (hE : tpE f (I 303) n) (hn : n ≤ 800) (ht : t ≤ c) (r : rdX I I' L' (pE J t) n) : cuR J (I 303) c n t I' L' := by
  obtain ⟨p, i, e1, e2, e3, e4, r⟩ := r
  obtain ⟨h1, h2, h3, h4, h5, h6, h7, h8⟩ := hT
  by_cases q : t = c
  · subst q
    rcases r with ⟨r1, r2, r3⟩ | ⟨r1, _, _, r4, _⟩
    · subst r1 r2
      exact ⟨by rw [e1, h6], Or.inl ⟨rfl, r3, e2⟩⟩
    · exact absurd ((tp_blk hE r1).mp (h4 p e3 r1)) r4
  · obtain ⟨q0, e, d1, d2, d3, d4, d5, d6, d7, d8, d9⟩ := h1 t (by omega)
    have pe : pE J (t + 1) = e := by
      unfold pE
      rw [if_neg (by omega), show t + 1 - 1 = t from rfl, d2, nI_toInt (by omega)]
      rfl
    rcases r with ⟨r1, r2, r3⟩ | ⟨r1, r2, r3, r4, k, v, r5, r6, r7, r8, r9⟩
    · subst r1
      exact absurd ((tp_blk hE d5).mpr (e4 q0 d3 d5)) d6
    · have pq : p = q0 := by
        rcases Nat.lt_trichotomy p q0 with z | z | z
        · exact absurd ((tp_blk hE r1).mp (d4 p e3 z)) r4
        · exact z
        · exact absurd ((tp_blk hE d5).mpr (e4 q0 d3 z)) d6
      subst pq
      obtain ⟨u1, u2, u3, u4, u5⟩ := tokR_u hE hn r1 d9 r5
      subst u1 u2
      have z := tokR_k d9 d7 d8 hn
      refine ⟨by rw [e1, d1], Or.inr ⟨by omega, by rw [e2, pe], by rw [pe]; exact d8, r6, fun x => z.2.2 (by rw [x]; rfl), fun x => ?_, fun x => ?_, fun x => ?_⟩⟩
      · rw [r7 x]
        exact u3 x
      · rw [r8 x, u4 x]
      · have y := z.2.1 (by rw [x]; rfl)
        refine ⟨by rw [(r9 x).1, u5 x], p, d1, by omega, ?_⟩
        rw [(r9 x).2]
        exact congrArg _ (by omega)
end KC
