/-! BY HAND: the TOKENS of a text, exactly -/
def apI (I : Nat → Nat → Int32) (c : Nat) (k st en v : Int32) : Nat → Nat → Int32 := pm_u (pm_u (pm_u (pm_u (pm_u I 7 c k) 8 c st) 9 c en) 10 c v) 6 4 (nI (c + 1))
section JE
variable {ys : List Int32} {I : Nat → Nat → Int32} {L : Nat → Nat → Int64} {s : Nat → Option Nat} {Q : List Value → pm_H → Prop} {h : pm_H}
theorem B_min {a b : Nat} (ha : a < 2147483648) (hb : b < 2147483648) (kk : Q [.int (nI (min a b))] h) : pm_W (g_P ys) 24 0 [.int (nI a), .int (nI b)] [] h (0, 0) Q := by
  refine ps_iload rfl rfl ?_
  refine ps_iload rfl rfl ?_
  refine ps_icmp rfl (fun hc => ?_) (fun hc => ?_)
  · have hc : nI b < nI a := of_decide_eq_true hc
    have hc := (nI_ltI hb ha).mp hc
    rw [Nat.min_eq_right (by omega)] at kk
    refine ps_iload rfl rfl ?_
    refine ps_iret rfl rfl ?_
    exact kk
  · have hc : ¬ nI b < nI a := of_decide_eq_false hc
    have hc : ¬ b < a := fun q => hc ((nI_ltI hb ha).mpr q)
    rw [Nat.min_eq_left (by omega)] at kk
    refine ps_iload rfl rfl ?_
    refine ps_goto rfl ?_
    refine ps_iret rfl rfl ?_
    exact kk
theorem B_packed {w l : Int32} (kk : Q [.int (w * 32 + (l - 97 + 1))] h) : pm_W (g_P ys) 28 0 [.int w, .int l] [] h (0, 0) Q := by
  refine ps_iload rfl rfl ?_
  refine pw_c rfl ?_
  refine ps_ar rfl rfl rfl rfl rfl ?_
  refine ps_iload rfl rfl ?_
  refine pw_c rfl ?_
  refine ps_ar rfl rfl rfl rfl rfl ?_
  refine pw_c rfl ?_
  refine ps_ar rfl rfl rfl rfl rfl ?_
  refine ps_ar rfl rfl rfl rfl rfl ?_
  refine ps_iret rfl rfl ?_
  exact kk
theorem B_endOfRun {i n : Nat} (hi : i ≤ n) (hn : n ≤ 800) (lo up : Int32) (kk : ∀ e, eoR (fun j => I 2 j) lo.toInt up.toInt i e n → Q [.int (nI e)] (I, L, g_R s, 306)) : pm_W (g_P ys) 26 0 [.ref 1, .int (nI i), .int (nI n), .int lo, .int up, .retAddr 0] [] (I, L, g_R s, 306) (0, 0) Q := by
  have loop : ∀ d e, e + d = n → i ≤ e → (∀ j, i ≤ j → j < e → inR lo.toInt up.toInt (I 2 j)) → pm_W (g_P ys) 26 3 [.ref 1, .int (nI i), .int (nI n), .int lo, .int up, .int (nI e)] [] (I, L, g_R s, 306) (0, 0) Q := by
    intro d
    induction d with
    | zero =>
      intro e he hie hr
      refine ps_iload rfl rfl ?_
      refine ps_iload rfl rfl ?_
      refine ps_icmpt rfl (decide_eq_true (nI_le (by omega) (by omega))) ?_
      refine ps_iload rfl rfl ?_
      refine ps_iret rfl rfl ?_
      exact kk e ⟨hie, by omega, hr, fun q => by omega⟩
    | succ d ih =>
      intro e he hie hr
      refine ps_iload rfl rfl ?_
      refine ps_iload rfl rfl ?_
      refine ps_icmpf rfl (decide_eq_false (nI_ge (by omega) (by omega))) ?_
      refine ps_aload rfl rfl ?_
      refine ps_gfr 1 0 rfl rfl rfl rfl rfl (rfl) ?_
      refine ps_iload rfl rfl ?_
      refine ps_iald (e) rfl rfl rfl (rfl) (by omega) ?_
      refine ps_iload rfl rfl ?_
      refine ps_icmp rfl (fun h1 => ?_) (fun h1 => ?_)
      · have h1 : I 2 e < lo := of_decide_eq_true h1
        have h1 := (i_lt _ _).mp h1
        refine ps_iload rfl rfl ?_
        refine ps_iret rfl rfl ?_
        exact kk e ⟨hie, by omega, hr, fun _ q => by have q1 := q.1; dsimp only at q1; omega⟩
      · have h1 : ¬ I 2 e < lo := of_decide_eq_false h1
        have h1 : lo.toInt ≤ (I 2 e).toInt := by
          have q : ¬ (I 2 e).toInt < lo.toInt := fun q => h1 ((i_lt _ _).mpr q)
          omega
        refine ps_aload rfl rfl ?_
        refine ps_gfr 1 0 rfl rfl rfl rfl rfl (rfl) ?_
        refine ps_iload rfl rfl ?_
        refine ps_iald (e) rfl rfl rfl (rfl) (by omega) ?_
        refine ps_iload rfl rfl ?_
        refine ps_icmp rfl (fun h2 => ?_) (fun h2 => ?_)
        · have h2 : up < I 2 e := of_decide_eq_true h2
          have h2 := (i_lt _ _).mp h2
          refine ps_iload rfl rfl ?_
          refine ps_iret rfl rfl ?_
          exact kk e ⟨hie, by omega, hr, fun _ q => by have q1 := q.2; dsimp only at q1; omega⟩
        · have h2 : ¬ up < I 2 e := of_decide_eq_false h2
          have h2 : (I 2 e).toInt ≤ up.toInt := by
            have q : ¬ up.toInt < (I 2 e).toInt := fun q => h2 ((i_lt _ _).mpr q)
            omega
          refine ps_iinc rfl rfl ?_
          refine ps_goto rfl ?_
          rw [show nI e + Int32.ofInt 1 = nI (e + 1) from nI_1 e]
          refine ih (e + 1) (by omega) (by omega) (fun j j1 j2 => ?_)
          by_cases q : j = e
          · rw [q]
            exact ⟨h1, h2⟩
          · exact hr j j1 (by omega)
  refine ps_iload rfl rfl ?_
  refine ps_istore rfl rfl ?_
  exact loop (n - i) i (by omega) (by omega) (fun j j1 j2 => by omega)
theorem B_wordOf {i e : Nat} (hi : i ≤ e) (he : e ≤ 800) (kk : Q [.int (wF (fun j => I 2 j) i (e - i))] (I, L, g_R s, 306)) : pm_W (g_P ys) 27 0 [.ref 1, .int (nI i), .int (nI e), .retAddr 0, .retAddr 0] [] (I, L, g_R s, 306) (0, 0) Q := by
  have loop : ∀ d j, j + d = e → i ≤ j → pm_W (g_P ys) 27 5 [.ref 1, .int (nI i), .int (nI e), .int (wF (fun j => I 2 j) i (j - i)), .int (nI j)] [] (I, L, g_R s, 306) (0, 0) Q := by
    intro d
    induction d with
    | zero =>
      intro j hj hij
      refine ps_iload rfl rfl ?_
      refine ps_iload rfl rfl ?_
      refine ps_icmpt rfl (decide_eq_true (nI_le (by omega) (by omega))) ?_
      refine ps_iload rfl rfl ?_
      refine ps_iret rfl rfl ?_
      rw [show j = e from by omega]
      exact kk
    | succ d ih =>
      intro j hj hij
      refine ps_iload rfl rfl ?_
      refine ps_iload rfl rfl ?_
      refine ps_icmpf rfl (decide_eq_false (nI_ge (by omega) (by omega))) ?_
      refine ps_iload rfl rfl ?_
      refine ps_aload rfl rfl ?_
      refine ps_gfr 1 0 rfl rfl rfl rfl rfl (rfl) ?_
      refine ps_iload rfl rfl ?_
      refine ps_iald (j) rfl rfl rfl (rfl) (by omega) ?_
      refine pw_k rfl rfl rfl rfl ⟨Nat.zero_le _, Nat.zero_le _⟩ ?_
      refine B_packed ?_
      refine ps_istore rfl rfl ?_
      refine ps_iinc rfl rfl ?_
      refine ps_goto rfl ?_
      rw [show nI j + Int32.ofInt 1 = nI (j + 1) from nI_1 j]
      have q := ih (j + 1) (by omega) (by omega)
      rw [show j + 1 - i = (j - i) + 1 from by omega, wF, show i + (j - i) = j from by omega] at q
      exact q
  refine pw_c rfl ?_
  refine ps_istore rfl rfl ?_
  refine ps_iload rfl rfl ?_
  refine ps_istore rfl rfl ?_
  have q := loop (e - i) i (by omega) (by omega)
  rw [Nat.sub_self] at q
  exact q
theorem B_numberOf {i e : Nat} (hi : i ≤ e) (he : e ≤ 800) (kk : Q [.int (nF (fun j => I 2 j) i (e - i))] (I, L, g_R s, 306)) : pm_W (g_P ys) 30 0 [.ref 1, .int (nI i), .int (nI e), .retAddr 0, .retAddr 0] [] (I, L, g_R s, 306) (0, 0) Q := by
  have loop : ∀ d j, j + d = e → i ≤ j → pm_W (g_P ys) 30 5 [.ref 1, .int (nI i), .int (nI e), .int (nF (fun j => I 2 j) i (j - i)), .int (nI j)] [] (I, L, g_R s, 306) (0, 0) Q := by
    intro d
    induction d with
    | zero =>
      intro j hj hij
      refine ps_iload rfl rfl ?_
      refine ps_iload rfl rfl ?_
      refine ps_icmpt rfl (decide_eq_true (nI_le (by omega) (by omega))) ?_
      refine ps_iload rfl rfl ?_
      refine ps_iret rfl rfl ?_
      rw [show j = e from by omega]
      exact kk
    | succ d ih =>
      intro j hj hij
      refine ps_iload rfl rfl ?_
      refine ps_iload rfl rfl ?_
      refine ps_icmpf rfl (decide_eq_false (nI_ge (by omega) (by omega))) ?_
      refine ps_iload rfl rfl ?_
      refine pw_c rfl ?_
      refine ps_ar rfl rfl rfl rfl rfl ?_
      refine ps_aload rfl rfl ?_
      refine ps_gfr 1 0 rfl rfl rfl rfl rfl (rfl) ?_
      refine ps_iload rfl rfl ?_
      refine ps_iald (j) rfl rfl rfl (rfl) (by omega) ?_
      refine pw_c rfl ?_
      refine ps_ar rfl rfl rfl rfl rfl ?_
      refine ps_ar rfl rfl rfl rfl rfl ?_
      refine ps_istore rfl rfl ?_
      refine ps_iinc rfl rfl ?_
      refine ps_goto rfl ?_
      rw [show nI j + Int32.ofInt 1 = nI (j + 1) from nI_1 j]
      have q := ih (j + 1) (by omega) (by omega)
      rw [show j + 1 - i = (j - i) + 1 from by omega, nF, show i + (j - i) = j from by omega] at q
      exact q
  refine pw_c rfl ?_
  refine ps_istore rfl rfl ?_
  refine ps_iload rfl rfl ?_
  refine ps_istore rfl rfl ?_
  have q := loop (e - i) i (by omega) (by omega)
  rw [Nat.sub_self] at q
  exact q
theorem B_append {k st en v : Int32} {c : Nat} (hc : I 6 4 = nI c) (hc8 : c ≤ 800) (kk : Q [] (apI I c k st en v, L, g_R s, 306)) : pm_W (g_P ys) 29 0 [.ref 6, .int k, .int st, .int en, .int v] [] (I, L, g_R s, 306) (0, 0) Q := by
  have q1 : pm_u I 7 c k 6 4 = nI c := by rw [pu_o (by decide)]; exact hc
  have q2 : pm_u (pm_u I 7 c k) 8 c st 6 4 = nI c := by rw [pu_o (by decide)]; exact q1
  have q3 : pm_u (pm_u (pm_u I 7 c k) 8 c st) 9 c en 6 4 = nI c := by rw [pu_o (by decide)]; exact q2
  have q4 : pm_u (pm_u (pm_u (pm_u I 7 c k) 8 c st) 9 c en) 10 c v 6 4 = nI c := by rw [pu_o (by decide)]; exact q3
  refine ps_aload rfl rfl ?_
  refine ps_gfi 3 4 rfl rfl rfl rfl rfl ?_
  refine ps_aload rfl rfl ?_
  refine ps_gfr 3 0 rfl rfl rfl rfl rfl (rfl) ?_
  refine ps_alen rfl rfl ?_
  refine ps_icmpf rfl (by show decide (nI 801 ≤ I 6 4) = false; rw [hc]; exact decide_eq_false (nI_ge (by omega) (by omega))) ?_
  refine ps_aload rfl rfl ?_
  refine ps_gfr 3 0 rfl rfl rfl rfl rfl (rfl) ?_
  refine ps_aload rfl rfl ?_
  refine ps_gfi 3 4 rfl rfl rfl rfl rfl ?_
  refine ps_iload rfl rfl ?_
  refine ps_iast (c) rfl rfl rfl (hc) (by omega) ?_
  show pm_W (g_P ys) 29 22 _ _ (pm_u I 7 c k, L, g_R s, 306) (0, 0) Q
  refine ps_aload rfl rfl ?_
  refine ps_gfr 3 1 rfl rfl rfl rfl rfl (rfl) ?_
  refine ps_aload rfl rfl ?_
  refine ps_gfi 3 4 rfl rfl rfl rfl rfl ?_
  refine ps_iload rfl rfl ?_
  refine ps_iast (c) rfl rfl rfl (q1) (by omega) ?_
  show pm_W (g_P ys) 29 32 _ _ (pm_u (pm_u I 7 c k) 8 c st, L, g_R s, 306) (0, 0) Q
  refine ps_aload rfl rfl ?_
  refine ps_gfr 3 2 rfl rfl rfl rfl rfl (rfl) ?_
  refine ps_aload rfl rfl ?_
  refine ps_gfi 3 4 rfl rfl rfl rfl rfl ?_
  refine ps_iload rfl rfl ?_
  refine ps_iast (c) rfl rfl rfl (q2) (by omega) ?_
  show pm_W (g_P ys) 29 42 _ _ (pm_u (pm_u (pm_u I 7 c k) 8 c st) 9 c en, L, g_R s, 306) (0, 0) Q
  refine ps_aload rfl rfl ?_
  refine ps_gfr 3 3 rfl rfl rfl rfl rfl (rfl) ?_
  refine ps_aload rfl rfl ?_
  refine ps_gfi 3 4 rfl rfl rfl rfl rfl ?_
  refine ps_iload rfl rfl ?_
  refine ps_iast (c) rfl rfl rfl (q3) (by omega) ?_
  show pm_W (g_P ys) 29 53 _ _ (pm_u (pm_u (pm_u (pm_u I 7 c k) 8 c st) 9 c en) 10 c v, L, g_R s, 306) (0, 0) Q
  refine ps_aload rfl rfl ?_
  refine ps_ar rfl rfl rfl rfl rfl ?_
  refine ps_gfi 3 4 rfl rfl rfl rfl rfl ?_
  rw [show ((pm_u (pm_u (pm_u (pm_u I 7 c k) 8 c st) 9 c en) 10 c v, L, g_R s, 306) : pm_H).1 6 4 = nI c from q4]
  refine pw_c rfl ?_
  refine ps_ar rfl rfl rfl rfl rfl ?_
  rw [show nI c + 1 = nI (c + 1) from nI_1 c]
  refine ps_pfi 3 4 rfl rfl rfl rfl rfl ?_
  refine ps_vret rfl rfl ?_
  exact kk
theorem B_cut {i n c : Nat} (hi : i < n) (hn : n ≤ 800) (hc : I 6 4 = nI c) (hc8 : c ≤ i) (kk : ∀ e k v, i < e → e ≤ n → tokR (fun j => I 2 j) n i e k v → Q [.int (nI e)] (apI I c k (nI i) (nI e) v, L, g_R s, 306)) : pm_W (g_P ys) 25 0 [.ref 6, .ref 1, .int (nI i), .int (nI n), .retAddr 0, .retAddr 0, .retAddr 0] [] (I, L, g_R s, 306) (0, 0) Q := by
  generalize hx : I 2 i = x
  have xl : ∀ (y : Int32) (z : Int), y.toInt = z → (¬ x < y → z ≤ x.toInt) ∧ (x < y → x.toInt < z) ∧ (¬ y < x → x.toInt ≤ z) ∧ (y < x → z < x.toInt) := by
    intro y z e
    refine ⟨fun q => ?_, fun q => ?_, fun q => ?_, fun q => ?_⟩
    · have r : ¬ x.toInt < y.toInt := fun r => q ((i_lt _ _).mpr r)
      omega
    · have := (i_lt _ _).mp q
      omega
    · have r : ¬ y.toInt < x.toInt := fun r => q ((i_lt _ _).mpr r)
      omega
    · have := (i_lt _ _).mp q
      omega
  -- neither letter nor digit
  have third : ¬ inR 97 122 x → ¬ inR 48 57 x → ∀ u6, pm_W (g_P ys) 25 126 [.ref 6, .ref 1, .int (nI i), .int (nI n), .int x, .int (nI (i + 1)), u6] [] (I, L, g_R s, 306) (0, 0) Q := by
    intro n1 n2 u6
    refine ps_iload rfl rfl ?_
    refine pw_c rfl ?_
    refine ps_icmp rfl (fun h5 => ?_) (fun h5 => ?_)
    · have h5 : ¬ x = 35 := of_decide_eq_true h5
      have h5' : ¬ x.toInt = 35 := fun q => h5 ((i_eq _ _).mpr q)
      have ap : ∀ b : Int32, b = (if x.toInt = 59 then 5 else 1) → pm_W (g_P ys) 25 198 [.ref 6, .ref 1, .int (nI i), .int (nI n), .int x, .int (nI (i + 1)), u6] [.int b, .ref 6] (I, L, g_R s, 306) (0, 0) Q := by
        intro b hb
        refine ps_iload rfl rfl ?_
        refine ps_iload rfl rfl ?_
        refine pw_c rfl ?_
        refine pw_k rfl rfl rfl rfl ⟨Nat.zero_le _, Nat.zero_le _⟩ ?_
        refine B_append hc (by omega) ?_
        refine ps_iload rfl rfl ?_
        refine ps_iret rfl rfl ?_
        exact kk (i + 1) b 0 (by omega) (by omega) (Or.inr (Or.inr (Or.inr ⟨by show ¬ inR 97 122 (I 2 i); rw [hx]; exact n1, by show ¬ inR 48 57 (I 2 i); rw [hx]; exact n2, by show ¬ (I 2 i).toInt = 35; rw [hx]; exact h5', rfl, by show b = if (I 2 i).toInt = 59 then 5 else 1; rw [hx]; exact hb, rfl⟩)))
      refine ps_aload rfl rfl ?_
      refine ps_iload rfl rfl ?_
      refine pw_c rfl ?_
      refine ps_icmp rfl (fun h6 => ?_) (fun h6 => ?_)
      · have h6 : ¬ x = 59 := of_decide_eq_true h6
        refine pw_c rfl ?_
        exact ap 1 (by rw [if_neg (show ¬ x.toInt = 59 from fun q => h6 ((i_eq _ _).mpr q))])
      · have h6 : ¬ ¬ x = 59 := of_decide_eq_false h6
        have h6 : x = 59 := Decidable.byContradiction h6
        refine pw_c rfl ?_
        refine ps_goto rfl ?_
        exact ap 5 (by rw [if_pos (show x.toInt = 59 by rw [h6]; rfl)])
    · have h5 : ¬ ¬ x = 35 := of_decide_eq_false h5
      have h5 : x = 35 := Decidable.byContradiction h5
      refine ps_aload rfl rfl ?_
      refine ps_iload rfl rfl ?_
      refine pw_c rfl ?_
      refine ps_ar rfl rfl rfl rfl rfl ?_
      rw [show nI i + 1 = nI (i + 1) from nI_1 i]
      refine ps_iload rfl rfl ?_
      refine pw_c rfl ?_
      refine pw_c rfl ?_
      refine pw_k rfl rfl rfl rfl ⟨Nat.zero_le _, Nat.zero_le _⟩ ?_
      refine B_endOfRun (show i + 1 ≤ n by omega) hn 48 49 ?_
      intro e he
      have he : eoR (fun j => I 2 j) 48 49 (i + 1) e n := he
      have e1 : i + 1 ≤ e := he.1
      have e2 : e ≤ n := he.2.1
      have hsub : nI e - nI i - 1 = nI (e - i - 1) := by rw [nI_sub (by omega), show (1 : Int32) = nI 1 from rfl, nI_sub (by omega)]
      have ap : ∀ b : Int32, b = (if 1 ≤ e - i - 1 ∧ e - i - 1 ≤ 40 then 4 else 1) → pm_W (g_P ys) 25 174 [.ref 6, .ref 1, .int (nI i), .int (nI n), .int x, .int (nI e), .int (nI (e - i - 1))] [.int b, .ref 6] (I, L, g_R s, 306) (0, 0) Q := by
        intro b hb
        refine ps_iload rfl rfl ?_
        refine ps_iload rfl rfl ?_
        refine ps_iload rfl rfl ?_
        refine pw_k rfl rfl rfl rfl ⟨Nat.zero_le _, Nat.zero_le _⟩ ?_
        refine B_append hc (by omega) ?_
        refine ps_goto rfl ?_
        refine ps_iload rfl rfl ?_
        refine ps_iret rfl rfl ?_
        exact kk e b _ (by omega) e2 (Or.inr (Or.inr (Or.inl ⟨by show (I 2 i).toInt = 35; rw [hx, h5]; rfl, he, hb, rfl⟩)))
      refine ps_istore rfl rfl ?_
      refine ps_iload rfl rfl ?_
      refine ps_iload rfl rfl ?_
      refine ps_ar rfl rfl rfl rfl rfl ?_
      refine pw_c rfl ?_
      refine ps_ar rfl rfl rfl rfl rfl ?_
      rw [hsub]
      refine ps_istore rfl rfl ?_
      refine ps_aload rfl rfl ?_
      refine ps_iload rfl rfl ?_
      refine pw_c rfl ?_
      refine ps_icmp rfl (fun h7 => ?_) (fun h7 => ?_)
      · have h7 : nI (e - i - 1) < 1 := of_decide_eq_true h7
        have h7 := (nI_ltI (a := e - i - 1) (b := 1) (by omega) (by omega)).mp h7
        refine pw_c rfl ?_
        exact ap 1 (by rw [if_neg (by omega)])
      · have h7 : ¬ nI (e - i - 1) < 1 := of_decide_eq_false h7
        have h7 : ¬ e - i - 1 < 1 := fun q => h7 ((nI_ltI (a := e - i - 1) (b := 1) (by omega) (by omega)).mpr q)
        refine ps_iload rfl rfl ?_
        refine pw_c rfl ?_
        refine ps_icmp rfl (fun h8 => ?_) (fun h8 => ?_)
        · have h8 : nI 40 < nI (e - i - 1) := of_decide_eq_true h8
          have h8 := (nI_ltI (by omega) (by omega)).mp h8
          refine pw_c rfl ?_
          exact ap 1 (by rw [if_neg (by omega)])
        · have h8 : ¬ nI 40 < nI (e - i - 1) := of_decide_eq_false h8
          have h8 : ¬ 40 < e - i - 1 := fun q => h8 ((nI_ltI (by omega) (by omega)).mpr q)
          refine pw_c rfl ?_
          refine ps_goto rfl ?_
          exact ap 4 (by rw [if_pos (by omega)])
  -- a digit, or not
  have second : ¬ inR 97 122 x → ∀ u6, pm_W (g_P ys) 25 70 [.ref 6, .ref 1, .int (nI i), .int (nI n), .int x, .int (nI (i + 1)), u6] [] (I, L, g_R s, 306) (0, 0) Q := by
    intro n1 u6
    refine ps_iload rfl rfl ?_
    refine pw_c rfl ?_
    refine ps_icmp rfl (fun h3 => ?_) (fun h3 => ?_)
    · have h3 := (xl 48 48 rfl).2.1 (of_decide_eq_true h3)
      exact third n1 (fun q => by have := q.1; omega) _
    · have h3 := (xl 48 48 rfl).1 (of_decide_eq_false h3)
      refine ps_iload rfl rfl ?_
      refine pw_c rfl ?_
      refine ps_icmp rfl (fun h4 => ?_) (fun h4 => ?_)
      · have h4 := (xl 57 57 rfl).2.2.2 (of_decide_eq_true h4)
        exact third n1 (fun q => by have := q.2; omega) _
      · have h4 := (xl 57 57 rfl).2.2.1 (of_decide_eq_false h4)
        refine ps_aload rfl rfl ?_
        refine ps_iload rfl rfl ?_
        refine ps_iload rfl rfl ?_
        refine pw_c rfl ?_
        refine pw_c rfl ?_
        refine pw_k rfl rfl rfl rfl ⟨Nat.zero_le _, Nat.zero_le _⟩ ?_
        refine B_endOfRun (show i ≤ n by omega) hn 48 57 ?_
        intro e he
        have he : eoR (fun j => I 2 j) 48 57 i e n := he
        have e1 : i ≤ e := he.1
        have e2 : e ≤ n := he.2.1
        have ie : i < e := by
          by_cases q : i < e
          · exact q
          · have q : e = i := by omega
            have := he.2.2.2 (by omega)
            rw [q] at this
            exact absurd (show inR 48 57 (I 2 i) by rw [hx]; exact ⟨h3, h4⟩) this
        have ap : ∀ b : Int32, b = (if e - i ≤ 4 then 3 else 1) → pm_W (g_P ys) 25 110 [.ref 6, .ref 1, .int (nI i), .int (nI n), .int x, .int (nI e), u6] [.int b, .ref 6] (I, L, g_R s, 306) (0, 0) Q := by
          intro b hb
          refine ps_iload rfl rfl ?_
          refine ps_iload rfl rfl ?_
          refine ps_aload rfl rfl ?_
          refine ps_iload rfl rfl ?_
          refine ps_iload rfl rfl ?_
          refine pw_k rfl rfl rfl rfl ⟨Nat.zero_le _, Nat.zero_le _⟩ ?_
          refine B_numberOf e1 (by omega) ?_
          refine pw_k rfl rfl rfl rfl ⟨Nat.zero_le _, Nat.zero_le _⟩ ?_
          refine B_append hc (by omega) ?_
          refine ps_goto rfl ?_
          refine ps_iload rfl rfl ?_
          refine ps_iret rfl rfl ?_
          exact kk e b _ ie e2 (Or.inr (Or.inl ⟨by show inR 48 57 (I 2 i); rw [hx]; exact ⟨h3, h4⟩, he, hb, rfl⟩))
        refine ps_istore rfl rfl ?_
        refine ps_aload rfl rfl ?_
        refine ps_iload rfl rfl ?_
        refine ps_iload rfl rfl ?_
        refine ps_ar rfl rfl rfl rfl rfl ?_
        rw [nI_sub e1]
        refine pw_c rfl ?_
        refine ps_icmp rfl (fun h9 => ?_) (fun h9 => ?_)
        · have h9 : nI 4 < nI (e - i) := of_decide_eq_true h9
          have h9 := (nI_ltI (by omega) (by omega)).mp h9
          refine pw_c rfl ?_
          exact ap 1 (by rw [if_neg (by omega)])
        · have h9 : ¬ nI 4 < nI (e - i) := of_decide_eq_false h9
          have h9 : ¬ 4 < e - i := fun q => h9 ((nI_ltI (by omega) (by omega)).mpr q)
          refine pw_c rfl ?_
          refine ps_goto rfl ?_
          exact ap 3 (by rw [if_pos (by omega)])
  refine ps_aload rfl rfl ?_
  refine ps_gfr 1 0 rfl rfl rfl rfl rfl (rfl) ?_
  refine ps_iload rfl rfl ?_
  refine ps_iald (i) rfl rfl rfl (rfl) (by omega) ?_
  rw [show ((I, L, g_R s, 306) : pm_H).1 2 i = x from hx]
  refine ps_istore rfl rfl ?_
  refine ps_iload rfl rfl ?_
  refine pw_c rfl ?_
  refine ps_ar rfl rfl rfl rfl rfl ?_
  rw [show nI i + 1 = nI (i + 1) from nI_1 i]
  refine ps_istore rfl rfl ?_
  refine ps_iload rfl rfl ?_
  refine pw_c rfl ?_
  refine ps_icmp rfl (fun h1 => ?_) (fun h1 => ?_)
  · have h1 := (xl 97 97 rfl).2.1 (of_decide_eq_true h1)
    exact second (fun q => by have := q.1; omega) _
  · have h1 := (xl 97 97 rfl).1 (of_decide_eq_false h1)
    refine ps_iload rfl rfl ?_
    refine pw_c rfl ?_
    refine ps_icmp rfl (fun h2 => ?_) (fun h2 => ?_)
    · have h2 := (xl 122 122 rfl).2.2.2 (of_decide_eq_true h2)
      exact second (fun q => by have := q.2; omega) _
    · have h2 := (xl 122 122 rfl).2.2.1 (of_decide_eq_false h2)
      refine ps_aload rfl rfl ?_
      refine ps_iload rfl rfl ?_
      refine ps_iload rfl rfl ?_
      refine pw_c rfl ?_
      refine pw_c rfl ?_
      refine pw_k rfl rfl rfl rfl ⟨Nat.zero_le _, Nat.zero_le _⟩ ?_
      refine B_endOfRun (show i ≤ n by omega) hn 97 122 ?_
      intro e he
      have he : eoR (fun j => I 2 j) 97 122 i e n := he
      have e1 : i ≤ e := he.1
      have e2 : e ≤ n := he.2.1
      have ie : i < e := by
        by_cases q : i < e
        · exact q
        · have q : e = i := by omega
          have := he.2.2.2 (by omega)
          rw [q] at this
          exact absurd (show inR 97 122 (I 2 i) by rw [hx]; exact ⟨h1, h2⟩) this
      have ap : ∀ b : Int32, b = (if e - i ≤ 6 then 2 else 1) → ∀ u6, pm_W (g_P ys) 25 54 [.ref 6, .ref 1, .int (nI i), .int (nI n), .int x, .int (nI e), u6] [.int b, .ref 6] (I, L, g_R s, 306) (0, 0) Q := by
        intro b hb u6
        refine ps_iload rfl rfl ?_
        refine ps_iload rfl rfl ?_
        refine ps_aload rfl rfl ?_
        refine ps_iload rfl rfl ?_
        refine ps_iload rfl rfl ?_
        refine pw_k rfl rfl rfl rfl ⟨Nat.zero_le _, Nat.zero_le _⟩ ?_
        refine B_wordOf e1 (by omega) ?_
        refine pw_k rfl rfl rfl rfl ⟨Nat.zero_le _, Nat.zero_le _⟩ ?_
        refine B_append hc (by omega) ?_
        refine ps_goto rfl ?_
        refine ps_iload rfl rfl ?_
        refine ps_iret rfl rfl ?_
        exact kk e b _ ie e2 (Or.inl ⟨by show inR 97 122 (I 2 i); rw [hx]; exact ⟨h1, h2⟩, he, hb, rfl⟩)
      refine ps_istore rfl rfl ?_
      refine ps_aload rfl rfl ?_
      refine ps_iload rfl rfl ?_
      refine ps_iload rfl rfl ?_
      refine ps_ar rfl rfl rfl rfl rfl ?_
      rw [nI_sub e1]
      refine pw_c rfl ?_
      refine ps_icmp rfl (fun h9 => ?_) (fun h9 => ?_)
      · have h9 : nI 6 < nI (e - i) := of_decide_eq_true h9
        have h9 := (nI_ltI (by omega) (by omega)).mp h9
        refine pw_c rfl ?_
        exact ap 1 (by rw [if_neg (by omega)]) _
      · have h9 : ¬ nI 6 < nI (e - i) := of_decide_eq_false h9
        have h9 : ¬ 6 < e - i := fun q => h9 ((nI_ltI (by omega) (by omega)).mpr q)
        refine pw_c rfl ?_
        refine ps_goto rfl ?_
        exact ap 2 (by rw [if_pos (by omega)]) _
end JE
