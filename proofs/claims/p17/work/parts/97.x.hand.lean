/-! BY HAND: how the class reads a text, exactly, first -/
section KW
variable {I I' J : Nat → Nat → Int32} {L : Nat → Nat → Int64} {s : Nat → Option Nat} {Q : List Value → pm_H → Prop} {ys : List Int32} {B : sB} {b n c t : Nat} {f T : Nat → Int32}
/-- a bench of the class and what belongs to it -/
theorem bn_F (hb : isB b) : (∀ I L, pm_sh (g_P ys) (I, L, g_R s, 306) b = some (.inl 8)) ∧ (∀ I L, pm_sh (g_P ys) (I, L, g_R s, 306) (b + 1) = some (.inr (13, 6))) ∧ (∀ I L, pm_sh (g_P ys) (I, L, g_R s, 306) (b + 2) = some (.inl 5)) ∧ (∀ I L, pm_sh (g_P ys) (I, L, g_R s, 306) (b + 15) = some (.inl 1)) ∧ (∀ I L, pm_sh (g_P ys) (I, L, g_R s, 306) (b + 16) = some (.inr (0, 812))) ∧ g_R s b 0 = some (b + 1) ∧ g_R s b 1 = some (b + 2) ∧ g_R s b 2 = some (b + 15) ∧ g_R s (b + 15) 0 = some (b + 16) ∧ g_R s (b + 2) 0 = some (b + 3) ∧ g_R s (b + 2) 1 = some (b + 7) ∧ g_R s (b + 2) 2 = some (b + 11) ∧ (∀ k, k < 6 → g_R s (b + 1) k = some (b + 17 + 4 * k)) := by
  rcases hb with rfl | rfl <;> refine ⟨fun _ _ => rfl, fun _ _ => rfl, fun _ _ => rfl, fun _ _ => rfl, fun _ _ => rfl, rfl, rfl, rfl, rfl, rfl, rfl, rfl, fun k hk => ?_⟩ <;> (rcases (show k = 0 ∨ k = 1 ∨ k = 2 ∨ k = 3 ∨ k = 4 ∨ k = 5 by omega) with rfl | rfl | rfl | rfl | rfl | rfl <;> rfl)
/-- where a kind's marks lie, behind the bench -/
def mkO (q : Nat) : Nat := ([3, 7, 11] : List Nat).getD q 0
theorem mk_F (hb : isB b) {q : Nat} (hq : q < 3) : (∀ I L, pm_sh (g_P ys) (I, L, g_R s, 306) (b + mkO q) = some (.inl 6)) ∧ (∀ I L, pm_sh (g_P ys) (I, L, g_R s, 306) (b + mkO q + 1) = some (.inr (0, mst q))) ∧ (∀ I L, pm_sh (g_P ys) (I, L, g_R s, 306) (b + mkO q + 2) = some (.inr (0, mst q))) ∧ (∀ I L, pm_sh (g_P ys) (I, L, g_R s, 306) (b + mkO q + 3) = some (.inr (0, mst q))) ∧ g_R s (b + mkO q) 0 = some (b + mkO q + 1) ∧ g_R s (b + mkO q) 1 = some (b + mkO q + 2) ∧ g_R s (b + mkO q) 2 = some (b + mkO q + 3) := by
  rcases hb with rfl | rfl <;> (rcases q3 hq with rfl | rfl | rfl <;> exact ⟨fun _ _ => rfl, fun _ _ => rfl, fun _ _ => rfl, fun _ _ => rfl, rfl, rfl, rfl⟩)
theorem isP_of (hb : isB b) {k : Nat} (hk : k < 6) : isP (b + 17 + 4 * k) := ⟨b, k, hb, hk, rfl⟩
/-- the class's bench at b is B -/
def cBp (b : Nat) (B : sB) (I : Nat → Nat → Int32) : Prop := I b 3 = nI B.ps ∧ ∀ k, k < B.ps → cPP I (b + 17 + 4 * k) (B.pl k) ∧ I (b + 17 + 4 * k) 3 = (B.pl k).nm ∧ I (b + 17 + 4 * k) 7 = suI (B.pl k).ho ((B.pl k).w * (B.pl k).v) ∧ I (b + 17 + 4 * k) 8 = suI (B.pl k).we ((B.pl k).w * (B.pl k).v)
def cBs (b : Nat) (B : sB) (I : Nat → Nat → Int32) : Prop := (∀ q, q < 3 → I (b + mkO q) 3 = nI (B.n q)) ∧ I (b + 2) 3 = B.bk ∧ I (b + 2) 4 = B.us ∧ ∀ q, q < 3 → ∀ k, k < B.n q → ∀ j, j < 3 → I (b + mkO q + 1 + j) k = B.sc q k j
/-- told: how many bytes -/
def cBt (b : Nat) (I : Nat → Nat → Int32) : Prop := ∃ l, l ≤ 812 ∧ I (b + 15) 1 = nI l
/-- where a text's reading writes -/
def cL (b : Nat) (J I : Nat → Nat → Int32) : Prop := ∀ a j, ¬ (b ≤ a ∧ a ≤ b + 40) → ¬ a = 5 → ¬ a = 11 → I a j = J a j
/-- the class reads on, at the token t, g numbers being given -/
def cC (b : Nat) (J I : Nat → Nat → Int32) (t : Nat) : Prop := cL b J I ∧ I 5 3 = nI t ∧ I 5 4 = 0 ∧ I 5 5 = -1
theorem cL_0 : cL b J J := fun _ _ _ _ _ => rfl
theorem cL_u (h : cL b J I) {a j : Nat} {x : Int32} (ha : (b ≤ a ∧ a ≤ b + 40) ∨ a = 5 ∨ a = 11) : cL b J (pm_u I a j x) := fun p i h1 h2 h3 => (pu_x (fun z => by omega)).trans (h p i h1 h2 h3)
theorem cL_t (h : cL b J I) (k : ∀ a j, ¬ (b ≤ a ∧ a ≤ b + 40) → ¬ a = 5 → ¬ a = 11 → I' a j = I a j) : cL b J I' := fun p i h1 h2 h3 => (k p i h1 h2 h3).trans (h p i h1 h2 h3)
theorem isB_b (hb : isB b) : 173 ≤ b ∧ b ≤ 214 := by
  unfold isB at hb
  omega
theorem cL_r (hb : isB b) (h : cL b J I) {a : Nat} (ha : a ≤ 10) (h5 : ¬ a = 5) (j : Nat) : I a j = J a j := by
  have := isB_b hb
  exact h a j (by omega) h5 (by omega)
theorem cL_w (h : cL b J I) {x : Int32} {hr : Nat} : cL b J (wrI I x hr) := cL_u (cL_u h (by omega)) (by omega)
theorem B_expX (hb : isB b) (hc : cC b J I t) (h8 : t ≤ 800) {k : Int32} (hk : ¬ k = 1) (kB : ¬ J 7 t = k → ∀ I', cL b J I' → I' 5 4 = eK J t → I' 5 5 = J 8 t → Q [.int 0] (I', L, g_R s, 306)) (kO : J 7 t = k → Q [.int 1] (I, L, g_R s, 306)) : pm_W (g_P ys) 33 0 [.ref 5, .int k] [] (I, L, g_R s, 306) (0, 0) Q := by
  have e7 := cL_r hb hc.1 (a := 7) (by omega) (by omega) t
  have e8 := cL_r hb hc.1 (a := 8) (by omega) (by omega) t
  refine B_expect hc.2.1 h8 (fun h7 x hx => ?_) hk (fun h7 => kO (by rw [← e7]; exact h7))
  rw [e7] at h7 hx
  have ex : x = eK J t := hx
  refine kB h7 _ (cL_w hc.1) ?_ ?_
  · show pm_u (pm_u I 5 4 x) 5 5 _ 5 4 = _
    rw [pu_n (by decide), pu_s, ex]
  · show pm_u (pm_u I 5 4 x) 5 5 (I 8 t) 5 5 = _
    rw [pu_s, e8]
theorem B_wroX (hb : isB b) (hc : cC b J I t) (h8 : t ≤ 800) {k : Int32} (kk : ∀ I', cL b J I' → I' 5 4 = k → I' 5 5 = J 8 t → Q [.int 0] (I', L, g_R s, 306)) : pm_W (g_P ys) 34 0 [.ref 5, .int k] [] (I, L, g_R s, 306) (0, 0) Q := by
  have e8 := cL_r hb hc.1 (a := 8) (by omega) (by omega) t
  refine B_wrong hc.2.1 h8 (kk _ (cL_w hc.1) ?_ ?_)
  · show pm_u (pm_u I 5 4 k) 5 5 _ 5 4 = _
    rw [pu_n (by decide), pu_s]
  · show pm_u (pm_u I 5 4 k) 5 5 (I 8 t) 5 5 = _
    rw [pu_s, e8]
/-- a value is taken -/
def givI (I : Nat → Nat → Int32) (g t : Nat) (v : Int32) : Nat → Nat → Int32 := pm_u (pm_u (pm_u I 11 g v) 5 2 (nI (g + 1))) 5 3 (nI (t + 1))
def nxtI (I : Nat → Nat → Int32) (t : Nat) : Nat → Nat → Int32 := pm_u I 5 3 (nI (t + 1))
theorem giv_C (hc : cC b J I t) {g : Nat} {v : Int32} : cC b J (givI I g t v) (t + 1) := ⟨cL_u (cL_u (cL_u hc.1 (by omega)) (by omega)) (by omega), pu_s, (pu_n (by decide)).trans ((pu_n (by decide)).trans ((pu_o (by decide)).trans hc.2.2.1)), (pu_n (by decide)).trans ((pu_n (by decide)).trans ((pu_o (by decide)).trans hc.2.2.2))⟩
theorem nxt_C (hc : cC b J I t) : cC b J (nxtI I t) (t + 1) := ⟨cL_u hc.1 (by omega), pu_s, (pu_n (by decide)).trans hc.2.2.1, (pu_n (by decide)).trans hc.2.2.2⟩
theorem giv_o {g : Nat} {v : Int32} {a j : Nat} (h1 : ¬ a = 5) (h2 : ¬ a = 11) : givI I g t v a j = I a j := by
  unfold givI
  rw [pu_o h1, pu_o h1, pu_o h2]
theorem nxt_o {a j : Nat} (h1 : ¬ a = 5) : nxtI I t a j = I a j := pu_o h1
theorem giv_g {g : Nat} {v : Int32} : givI I g t v 5 2 = nI (g + 1) ∧ givI I g t v 11 g = v ∧ ∀ j, ¬ j = g → givI I g t v 11 j = I 11 j := by
  unfold givI
  refine ⟨by rw [pu_n (by decide), pu_s], by rw [pu_o (by decide), pu_o (by decide), pu_s], fun j hj => by rw [pu_o (by decide), pu_o (by decide), pu_n hj]⟩
theorem B_takeX {g : Nat} (hh : I 5 3 = nI t) (hg : I 5 2 = nI g) (g3 : g < 3) {v : Int32} (kk : Q [.int 1] (givI I g t v, L, g_R s, 306)) : pm_W (g_P ys) 46 0 [.ref 5, .int v] [] (I, L, g_R s, 306) (0, 0) Q := by
  refine ps_aload rfl rfl ?_
  refine ps_gfi 2 2 rfl rfl rfl rfl rfl ?_
  rw [show ((I, L, g_R s, 306) : pm_H).1 5 2 = nI g from hg]
  refine ps_aload rfl rfl ?_
  refine ps_gfr 2 1 rfl rfl rfl rfl rfl (rfl) ?_
  refine ps_alen rfl rfl ?_
  refine ps_icmpf rfl (decide_eq_false (nI_ge (b := 3) (by omega) (by omega))) ?_
  refine ps_aload rfl rfl ?_
  refine ps_gfr 2 1 rfl rfl rfl rfl rfl (rfl) ?_
  refine ps_aload rfl rfl ?_
  refine ps_gfi 2 2 rfl rfl rfl rfl rfl ?_
  rw [show ((I, L, g_R s, 306) : pm_H).1 5 2 = nI g from hg]
  refine ps_iload rfl rfl ?_
  refine ps_iast (g) rfl rfl rfl (rfl) (by omega) ?_
  refine ps_aload rfl rfl ?_
  refine ps_ar rfl rfl rfl rfl rfl ?_
  refine ps_gfi 2 2 rfl rfl rfl rfl rfl ?_
  show pm_W _ _ _ _ [.int (pm_u I 11 g v 5 2), .ref 5] (pm_u I 11 g v, L, g_R s, 306) _ _
  rw [pu_o (by decide), hg]
  refine pw_c rfl ?_
  refine ps_ar rfl rfl rfl rfl rfl ?_
  rw [show nI g + (1 : Int32) = nI (g + 1) from nI_1 g]
  refine ps_pfi 2 2 rfl rfl rfl rfl rfl ?_
  refine ps_aload rfl rfl ?_
  refine ps_ar rfl rfl rfl rfl rfl ?_
  refine ps_gfi 2 3 rfl rfl rfl rfl rfl ?_
  show pm_W _ _ _ _ [.int (pm_u (pm_u I 11 g v) 5 2 (nI (g + 1)) 5 3), .ref 5] (pm_u (pm_u I 11 g v) 5 2 (nI (g + 1)), L, g_R s, 306) _ _
  rw [pu_n (by decide), pu_o (by decide), hh]
  refine pw_c rfl ?_
  refine ps_ar rfl rfl rfl rfl rfl ?_
  rw [show nI t + (1 : Int32) = nI (t + 1) from nI_1 t]
  refine ps_pfi 2 3 rfl rfl rfl rfl rfl ?_
  refine pw_c rfl ?_
  refine ps_zret rfl rfl (Or.inr rfl) ?_
  exact kk
theorem B_takeNumX (hb : isB b) (hc : cC b J I t) (h8 : t ≤ 800) {g : Nat} (hg : I 5 2 = nI g) (g3 : g < 3) {lo hi : Int32} (kB : ∀ k u, xNum J lo.toInt hi.toInt t = .error (k, u) → ∀ I', cL b J I' → I' 5 4 = k → I' 5 5 = J 8 u → Q [.int 0] (I', L, g_R s, 306)) (kO : ∀ v, xNum J lo.toInt hi.toInt t = .ok v → Q [.int 1] (givI I g t v, L, g_R s, 306)) : pm_W (g_P ys) 52 0 [.ref 5, .int lo, .int hi, .retAddr 0] [] (I, L, g_R s, 306) (0, 0) Q := by
  have e10 := cL_r hb hc.1 (a := 10) (by omega) (by omega) t
  refine ps_aload rfl rfl ?_
  refine pw_c rfl ?_
  refine pw_k rfl rfl rfl rfl ⟨Nat.zero_le _, Nat.zero_le _⟩ ?_
  refine B_expX hb hc h8 (k := 3) (by decide) (fun h7 I' c1 c2 c3 => ?_) (fun h7 => ?_)
  · refine ps_iff rfl (rfl) ?_
    refine pw_c rfl ?_
    refine ps_zret rfl rfl (Or.inl rfl) ?_
    exact kB _ _ (by unfold xNum; rw [if_neg h7]) _ c1 c2 c3
  · have xn : xNum J lo.toInt hi.toInt t = if lo.toInt ≤ (J 10 t).toInt ∧ (J 10 t).toInt ≤ hi.toInt then .ok (J 10 t) else .error (3, t) := by unfold xNum; rw [if_pos h7]
    have bad : ¬ (lo.toInt ≤ (J 10 t).toInt ∧ (J 10 t).toInt ≤ hi.toInt) → pm_W (g_P ys) 52 33 [.ref 5, .int lo, .int hi, .int (J 10 t)] [] (I, L, g_R s, 306) (0, 0) Q := by
      intro z
      refine ps_aload rfl rfl ?_
      refine pw_c rfl ?_
      refine pw_k rfl rfl rfl rfl ⟨Nat.zero_le _, Nat.zero_le _⟩ ?_
      refine B_wroX hb hc h8 (fun I' c1 c2 c3 => ?_)
      refine ps_goto rfl ?_
      refine ps_zret rfl rfl (Or.inl rfl) ?_
      exact kB _ _ (by rw [xn, if_neg z]) _ c1 c2 c3
    refine ps_ift rfl (rfl) ?_
    refine ps_aload rfl rfl ?_
    refine ps_gfr 2 0 rfl rfl rfl rfl rfl (rfl) ?_
    refine ps_gfr 3 3 rfl rfl rfl rfl rfl (rfl) ?_
    refine ps_aload rfl rfl ?_
    refine ps_gfi 2 3 rfl rfl rfl rfl rfl ?_
    refine ps_iald (t) rfl rfl rfl (hc.2.1) (by omega) ?_
    rw [show ((I, L, g_R s, 306) : pm_H).1 10 t = J 10 t from e10]
    by_cases h1 : (J 10 t).toInt < lo.toInt
    · refine ps_istore rfl rfl ?_
      refine ps_iload rfl rfl ?_
      refine ps_iload rfl rfl ?_
      refine ps_icmpt rfl (decide_eq_true ((i_lt _ _).mpr h1)) ?_
      exact bad (fun z => by omega)
    · refine ps_istore rfl rfl ?_
      refine ps_iload rfl rfl ?_
      refine ps_iload rfl rfl ?_
      refine ps_icmpf rfl (decide_eq_false (fun z => h1 ((i_lt _ _).mp z))) ?_
      by_cases h2 : (J 10 t).toInt ≤ hi.toInt
      · refine ps_iload rfl rfl ?_
        refine ps_iload rfl rfl ?_
        refine ps_icmpt rfl (decide_eq_true ((i_le _ _).mpr h2)) ?_
        refine ps_aload rfl rfl ?_
        refine ps_iload rfl rfl ?_
        refine pw_k rfl rfl rfl rfl ⟨Nat.zero_le _, Nat.zero_le _⟩ ?_
        refine B_takeX hc.2.1 hg g3 ?_
        refine ps_zret rfl rfl (Or.inr rfl) ?_
        exact kO _ (by rw [xn, if_pos ⟨by omega, h2⟩])
      · refine ps_iload rfl rfl ?_
        refine ps_iload rfl rfl ?_
        refine ps_icmpf rfl (decide_eq_false (fun z => h2 ((i_le _ _).mp z))) ?_
        exact bad (fun z => h2 z.2)
theorem B_takePriX (hb : isB b) (hc : cC b J I t) (h8 : t ≤ 800) {g : Nat} (hg : I 5 2 = nI g) (g3 : g < 3) {hi : Int32} (kB : ∀ k u, xPri J hi.toInt t = .error (k, u) → ∀ I', cL b J I' → I' 5 4 = k → I' 5 5 = J 8 u → Q [.int 0] (I', L, g_R s, 306)) (kO : ∀ v, xPri J hi.toInt t = .ok v → Q [.int 1] (givI I g t v, L, g_R s, 306)) : pm_W (g_P ys) 44 0 [.ref 5, .int hi, .retAddr 0] [] (I, L, g_R s, 306) (0, 0) Q := by
  have e10 := cL_r hb hc.1 (a := 10) (by omega) (by omega) t
  refine ps_aload rfl rfl ?_
  refine pw_c rfl ?_
  refine pw_k rfl rfl rfl rfl ⟨Nat.zero_le _, Nat.zero_le _⟩ ?_
  refine B_expX hb hc h8 (k := 3) (by decide) (fun h7 I' c1 c2 c3 => ?_) (fun h7 => ?_)
  · refine ps_iff rfl (rfl) ?_
    refine pw_c rfl ?_
    refine ps_zret rfl rfl (Or.inl rfl) ?_
    exact kB _ _ (by unfold xPri; rw [if_neg h7]) _ c1 c2 c3
  · have xn : xPri J hi.toInt t = if (J 10 t).toInt ≤ hi.toInt ∧ 3 ≤ (J 10 t).toInt ∧ (J 10 t).toInt ≤ 47 ∧ prB (J 10 t).toInt.toNat = true then .ok (J 10 t) else .error (3, t) := by unfold xPri; rw [if_pos h7]
    have bad : ¬ ((J 10 t).toInt ≤ hi.toInt ∧ 3 ≤ (J 10 t).toInt ∧ (J 10 t).toInt ≤ 47 ∧ prB (J 10 t).toInt.toNat = true) → pm_W (g_P ys) 44 35 [.ref 5, .int hi, .int (J 10 t)] [] (I, L, g_R s, 306) (0, 0) Q := by
      intro z
      refine ps_aload rfl rfl ?_
      refine pw_c rfl ?_
      refine pw_k rfl rfl rfl rfl ⟨Nat.zero_le _, Nat.zero_le _⟩ ?_
      refine B_wroX hb hc h8 (fun I' c1 c2 c3 => ?_)
      refine ps_goto rfl ?_
      refine ps_zret rfl rfl (Or.inl rfl) ?_
      exact kB _ _ (by rw [xn, if_neg z]) _ c1 c2 c3
    refine ps_ift rfl (rfl) ?_
    refine ps_aload rfl rfl ?_
    refine ps_gfr 2 0 rfl rfl rfl rfl rfl (rfl) ?_
    refine ps_gfr 3 3 rfl rfl rfl rfl rfl (rfl) ?_
    refine ps_aload rfl rfl ?_
    refine ps_gfi 2 3 rfl rfl rfl rfl rfl ?_
    refine ps_iald (t) rfl rfl rfl (hc.2.1) (by omega) ?_
    rw [show ((I, L, g_R s, 306) : pm_H).1 10 t = J 10 t from e10]
    by_cases h1 : (J 10 t).toInt ≤ hi.toInt
    · refine ps_istore rfl rfl ?_
      refine ps_iload rfl rfl ?_
      refine ps_iload rfl rfl ?_
      refine ps_icmpf rfl (decide_eq_false (fun z => absurd ((i_lt _ _).mp z) (by omega))) ?_
      refine ps_iload rfl rfl ?_
      refine pw_k rfl rfl rfl rfl ⟨Nat.zero_le _, Nat.zero_le _⟩ ?_
      refine B_isPrime _ ?_
      rw [pri_B]
      by_cases h2 : 3 ≤ (J 10 t).toInt ∧ (J 10 t).toInt ≤ 47 ∧ prB (J 10 t).toInt.toNat = true
      · rw [decide_eq_true h2]
        refine ps_ift rfl (rfl) ?_
        refine ps_aload rfl rfl ?_
        refine ps_iload rfl rfl ?_
        refine pw_k rfl rfl rfl rfl ⟨Nat.zero_le _, Nat.zero_le _⟩ ?_
        refine B_takeX hc.2.1 hg g3 ?_
        refine ps_zret rfl rfl (Or.inr rfl) ?_
        exact kO _ (by rw [xn, if_pos ⟨h1, h2⟩])
      · rw [decide_eq_false h2]
        refine ps_iff rfl (rfl) ?_
        exact bad (fun z => h2 z.2)
    · refine ps_istore rfl rfl ?_
      refine ps_iload rfl rfl ?_
      refine ps_iload rfl rfl ?_
      refine ps_icmpt rfl (decide_eq_true ((i_lt _ _).mpr (by omega))) ?_
      exact bad (fun z => h1 z.1)
theorem B_takeSigX (hb : isB b) (hc : cC b J I t) (h8 : t ≤ 800) (kB : ¬ J 7 t = 5 → ∀ I', cL b J I' → I' 5 4 = eK J t → I' 5 5 = J 8 t → Q [.int 0] (I', L, g_R s, 306)) (kO : J 7 t = 5 → Q [.int 1] (nxtI I t, L, g_R s, 306)) : pm_W (g_P ys) 58 0 [.ref 5] [] (I, L, g_R s, 306) (0, 0) Q := by
  refine ps_aload rfl rfl ?_
  refine pw_c rfl ?_
  refine pw_k rfl rfl rfl rfl ⟨Nat.zero_le _, Nat.zero_le _⟩ ?_
  refine B_expX hb hc h8 (k := 5) (by decide) (fun h7 I' c1 c2 c3 => ?_) (fun h7 => ?_)
  · refine ps_iff rfl (rfl) ?_
    refine pw_c rfl ?_
    refine ps_zret rfl rfl (Or.inl rfl) ?_
    exact kB h7 _ c1 c2 c3
  · refine ps_ift rfl (rfl) ?_
    refine ps_aload rfl rfl ?_
    refine ps_ar rfl rfl rfl rfl rfl ?_
    refine ps_gfi 2 3 rfl rfl rfl rfl rfl ?_
    rw [show ((I, L, g_R s, 306) : pm_H).1 5 3 = nI t from hc.2.1]
    refine pw_c rfl ?_
    refine ps_ar rfl rfl rfl rfl rfl ?_
    rw [show nI t + (1 : Int32) = nI (t + 1) from nI_1 t]
    refine ps_pfi 2 3 rfl rfl rfl rfl rfl ?_
    refine pw_c rfl ?_
    refine ps_zret rfl rfl (Or.inr rfl) ?_
    exact kO h7
/-- PLATES by number, by name -/
theorem B_numberOfX (hb : isB b) {x : Int32} (hB : cBp b B I) (p6 : B.ps ≤ 6) (kk : Q [.int (oI (fnN (fun k => (B.pl k).nm) x B.ps 0))] (I, L, g_R s, 306)) : pm_W (g_P ys) 39 0 [.ref b, .int x, .retAddr 0] [] (I, L, g_R s, 306) (0, 0) Q := by
  obtain ⟨hS0, hS1, hS2, hS3, hS4, hR0, hR1, hR2, hR3, hR4, hR5, hR6, hR7⟩ := bn_F (ys := ys) (s := s) hb
  have go : ∀ d i : Nat, i + d = B.ps → Q [.int (oI (fnN (fun k => (B.pl k).nm) x d i))] (I, L, g_R s, 306) → pm_W (g_P ys) 39 2 [.ref b, .int x, .int (nI i)] [] (I, L, g_R s, 306) (0, 0) Q := by
    intro d
    induction d with
    | zero =>
      intro i hi k
      refine ps_iload rfl rfl ?_
      refine ps_aload rfl rfl ?_
      refine ps_gfi 8 3 rfl rfl rfl (by first | exact hS0 _ _ | exact hS1 _ _ | exact hS2 _ _ | exact hS3 _ _ | exact hS4 _ _ | exact hS5 _ _ | exact hS6 _ _ | exact hS7 _ _ | exact hS8 _ _ | exact hS9 _ _ | exact hS10 _ _ | exact hS11 _ _ | exact hS12 _ _ | exact hS13 _ _ | assumption | rfl) rfl ?_
      rw [show ((I, L, g_R s, 306) : pm_H).1 b 3 = nI B.ps from hB.1]
      refine ps_icmpt rfl (decide_eq_true (nI_le (by omega) (by omega))) ?_
      refine pw_c rfl ?_
      refine ps_iret rfl rfl ?_
      exact k
    | succ d ih =>
      intro i hi k
      have hS5 := (pl_F (ys := ys) (s := s) (isP_of hb (show i < 6 by omega))).1
      refine ps_iload rfl rfl ?_
      refine ps_aload rfl rfl ?_
      refine ps_gfi 8 3 rfl rfl rfl (by first | exact hS0 _ _ | exact hS1 _ _ | exact hS2 _ _ | exact hS3 _ _ | exact hS4 _ _ | exact hS5 _ _ | exact hS6 _ _ | exact hS7 _ _ | exact hS8 _ _ | exact hS9 _ _ | exact hS10 _ _ | exact hS11 _ _ | exact hS12 _ _ | exact hS13 _ _ | assumption | rfl) rfl ?_
      rw [show ((I, L, g_R s, 306) : pm_H).1 b 3 = nI B.ps from hB.1]
      refine ps_icmpf rfl (decide_eq_false (nI_ge (by omega) (by omega))) ?_
      refine ps_aload rfl rfl ?_
      refine ps_gfr 8 0 rfl rfl rfl (by first | exact hS0 _ _ | exact hS1 _ _ | exact hS2 _ _ | exact hS3 _ _ | exact hS4 _ _ | exact hS5 _ _ | exact hS6 _ _ | exact hS7 _ _ | exact hS8 _ _ | exact hS9 _ _ | exact hS10 _ _ | exact hS11 _ _ | exact hS12 _ _ | exact hS13 _ _ | assumption | rfl) rfl (by first | assumption | rfl) ?_
      refine ps_iload rfl rfl ?_
      refine ps_aald (i) rfl (by first | exact hS0 _ _ | exact hS1 _ _ | exact hS2 _ _ | exact hS3 _ _ | exact hS4 _ _ | exact hS5 _ _ | exact hS6 _ _ | exact hS7 _ _ | exact hS8 _ _ | exact hS9 _ _ | exact hS10 _ _ | exact hS11 _ _ | exact hS12 _ _ | exact hS13 _ _ | assumption | rfl) rfl (rfl) (by omega) (hR7 i (by omega)) ?_
      refine ps_gfi 9 3 rfl rfl rfl (by first | exact hS0 _ _ | exact hS1 _ _ | exact hS2 _ _ | exact hS3 _ _ | exact hS4 _ _ | exact hS5 _ _ | exact hS6 _ _ | exact hS7 _ _ | exact hS8 _ _ | exact hS9 _ _ | exact hS10 _ _ | exact hS11 _ _ | exact hS12 _ _ | exact hS13 _ _ | assumption | rfl) rfl ?_
      rw [show ((I, L, g_R s, 306) : pm_H).1 (b + 17 + 4 * i) 3 = (B.pl i).nm from (hB.2 i (by omega)).2.1]
      rw [fnN] at k
      by_cases e : (B.pl i).nm = x
      · rw [if_pos e] at k
        refine ps_iload rfl rfl ?_
        refine ps_icmpf rfl (decide_eq_false (fun z => z e)) ?_
        refine ps_iload rfl rfl ?_
        refine ps_iret rfl rfl ?_
        exact k
      · rw [if_neg e] at k
        refine ps_iload rfl rfl ?_
        refine ps_icmpt rfl (decide_eq_true e) ?_
        refine ps_iinc rfl rfl ?_
        refine ps_goto rfl ?_
        rw [show nI i + Int32.ofInt 1 = nI (i + 1) from nI_1 i]
        exact ih (i + 1) (by omega) k
  refine pw_c rfl ?_
  refine ps_istore rfl rfl ?_
  exact go B.ps 0 (by omega) kk
theorem B_nextX (hb : isB b) (hB : I b 3 = nI B.ps) (p6 : B.ps < 6) (kk : Q [.ref (b + 17 + 4 * B.ps)] (I, L, g_R s, 306)) : pm_W (g_P ys) 40 0 [.ref b] [] (I, L, g_R s, 306) (0, 0) Q := by
  obtain ⟨hS0, hS1, hS2, hS3, hS4, hR0, hR1, hR2, hR3, hR4, hR5, hR6, hR7⟩ := bn_F (ys := ys) (s := s) hb
  refine ps_aload rfl rfl ?_
  refine ps_gfr 8 0 rfl rfl rfl (by first | exact hS0 _ _ | exact hS1 _ _ | exact hS2 _ _ | exact hS3 _ _ | exact hS4 _ _ | exact hS5 _ _ | exact hS6 _ _ | exact hS7 _ _ | exact hS8 _ _ | exact hS9 _ _ | exact hS10 _ _ | exact hS11 _ _ | exact hS12 _ _ | exact hS13 _ _ | assumption | rfl) rfl (by first | assumption | rfl) ?_
  refine ps_aload rfl rfl ?_
  refine ps_gfi 8 3 rfl rfl rfl (by first | exact hS0 _ _ | exact hS1 _ _ | exact hS2 _ _ | exact hS3 _ _ | exact hS4 _ _ | exact hS5 _ _ | exact hS6 _ _ | exact hS7 _ _ | exact hS8 _ _ | exact hS9 _ _ | exact hS10 _ _ | exact hS11 _ _ | exact hS12 _ _ | exact hS13 _ _ | assumption | rfl) rfl ?_
  rw [show ((I, L, g_R s, 306) : pm_H).1 b 3 = nI B.ps from hB]
  refine pw_c rfl ?_
  refine pw_k rfl rfl rfl rfl ⟨Nat.zero_le _, Nat.zero_le _⟩ ?_
  refine B_min (a := B.ps) (b := 5) (by omega) (by omega) ?_
  rw [show min B.ps 5 = B.ps by omega]
  refine ps_aald (B.ps) rfl (by first | exact hS0 _ _ | exact hS1 _ _ | exact hS2 _ _ | exact hS3 _ _ | exact hS4 _ _ | exact hS5 _ _ | exact hS6 _ _ | exact hS7 _ _ | exact hS8 _ _ | exact hS9 _ _ | exact hS10 _ _ | exact hS11 _ _ | exact hS12 _ _ | exact hS13 _ _ | assumption | rfl) rfl (rfl) (by omega) (hR7 _ p6) ?_
  refine ps_aret rfl rfl ?_
  exact kk
theorem B_namedX (hb : isB b) {k : Nat} (hB : I b 3 = nI B.ps) (p6 : B.ps ≤ 6) (hk : k < B.ps) (kk : Q [.ref (b + 17 + 4 * k)] (I, L, g_R s, 306)) : pm_W (g_P ys) 57 0 [.ref b, .int (nI k)] [] (I, L, g_R s, 306) (0, 0) Q := by
  obtain ⟨hS0, hS1, hS2, hS3, hS4, hR0, hR1, hR2, hR3, hR4, hR5, hR6, hR7⟩ := bn_F (ys := ys) (s := s) hb
  refine ps_aload rfl rfl ?_
  refine ps_gfr 8 0 rfl rfl rfl (by first | exact hS0 _ _ | exact hS1 _ _ | exact hS2 _ _ | exact hS3 _ _ | exact hS4 _ _ | exact hS5 _ _ | exact hS6 _ _ | exact hS7 _ _ | exact hS8 _ _ | exact hS9 _ _ | exact hS10 _ _ | exact hS11 _ _ | exact hS12 _ _ | exact hS13 _ _ | assumption | rfl) rfl (by first | assumption | rfl) ?_
  refine ps_iload rfl rfl ?_
  refine ps_iff rfl (decide_eq_false (fun z => absurd ((i_lt _ _).mp z) (by rw [nI_toInt (by omega)]; have : (0 : Int32).toInt = 0 := rfl; omega))) ?_
  refine ps_iload rfl rfl ?_
  refine ps_aload rfl rfl ?_
  refine ps_gfi 8 3 rfl rfl rfl (by first | exact hS0 _ _ | exact hS1 _ _ | exact hS2 _ _ | exact hS3 _ _ | exact hS4 _ _ | exact hS5 _ _ | exact hS6 _ _ | exact hS7 _ _ | exact hS8 _ _ | exact hS9 _ _ | exact hS10 _ _ | exact hS11 _ _ | exact hS12 _ _ | exact hS13 _ _ | assumption | rfl) rfl ?_
  rw [show ((I, L, g_R s, 306) : pm_H).1 b 3 = nI B.ps from hB]
  refine ps_icmpf rfl (decide_eq_false (nI_ge (by omega) (by omega))) ?_
  refine ps_iload rfl rfl ?_
  refine ps_goto rfl ?_
  refine ps_aald (k) rfl (by first | exact hS0 _ _ | exact hS1 _ _ | exact hS2 _ _ | exact hS3 _ _ | exact hS4 _ _ | exact hS5 _ _ | exact hS6 _ _ | exact hS7 _ _ | exact hS8 _ _ | exact hS9 _ _ | exact hS10 _ _ | exact hS11 _ _ | exact hS12 _ _ | exact hS13 _ _ | assumption | rfl) rfl (rfl) (by omega) (hR7 k (by omega)) ?_
  refine ps_aret rfl rfl ?_
  exact kk
theorem B_plateOfX (hb : isB b) {k : Nat} (hB : I b 3 = nI B.ps) (p6 : B.ps ≤ 6) (hk : k < B.ps) (kk : Q [.ref (b + 17 + 4 * k)] (I, L, g_R s, 306)) : pm_W (g_P ys) 56 0 [.ref b, .int (nI k)] [] (I, L, g_R s, 306) (0, 0) Q := by
  obtain ⟨hS0, hS1, hS2, hS3, hS4, hR0, hR1, hR2, hR3, hR4, hR5, hR6, hR7⟩ := bn_F (ys := ys) (s := s) hb
  refine ps_iload rfl rfl ?_
  refine ps_iff rfl (decide_eq_false (fun z => absurd ((i_lt _ _).mp z) (by rw [nI_toInt (by omega)]; have : (0 : Int32).toInt = 0 := rfl; omega))) ?_
  refine ps_iload rfl rfl ?_
  refine ps_aload rfl rfl ?_
  refine ps_gfi 8 3 rfl rfl rfl (by first | exact hS0 _ _ | exact hS1 _ _ | exact hS2 _ _ | exact hS3 _ _ | exact hS4 _ _ | exact hS5 _ _ | exact hS6 _ _ | exact hS7 _ _ | exact hS8 _ _ | exact hS9 _ _ | exact hS10 _ _ | exact hS11 _ _ | exact hS12 _ _ | exact hS13 _ _ | assumption | rfl) rfl ?_
  rw [show ((I, L, g_R s, 306) : pm_H).1 b 3 = nI B.ps from hB]
  refine ps_icmpf rfl (decide_eq_false (nI_ge (by omega) (by omega))) ?_
  refine ps_aload rfl rfl ?_
  refine ps_gfr 8 0 rfl rfl rfl (by first | exact hS0 _ _ | exact hS1 _ _ | exact hS2 _ _ | exact hS3 _ _ | exact hS4 _ _ | exact hS5 _ _ | exact hS6 _ _ | exact hS7 _ _ | exact hS8 _ _ | exact hS9 _ _ | exact hS10 _ _ | exact hS11 _ _ | exact hS12 _ _ | exact hS13 _ _ | assumption | rfl) rfl (by first | assumption | rfl) ?_
  refine ps_iload rfl rfl ?_
  refine ps_aald (k) rfl (by first | exact hS0 _ _ | exact hS1 _ _ | exact hS2 _ _ | exact hS3 _ _ | exact hS4 _ _ | exact hS5 _ _ | exact hS6 _ _ | exact hS7 _ _ | exact hS8 _ _ | exact hS9 _ _ | exact hS10 _ _ | exact hS11 _ _ | exact hS12 _ _ | exact hS13 _ _ | assumption | rfl) rfl (rfl) (by omega) (hR7 k (by omega)) ?_
  refine ps_goto rfl ?_
  refine ps_aret rfl rfl ?_
  exact kk
/-- no plate has this number -/
theorem B_plateOfN (hb : isB b) {x : Int32} (hB : I b 3 = nI B.ps) (p6 : B.ps ≤ 6) (hk : ¬ (0 ≤ x.toInt ∧ x.toInt < B.ps)) (kk : Q [.null] (I, L, g_R s, 306)) : pm_W (g_P ys) 56 0 [.ref b, .int x] [] (I, L, g_R s, 306) (0, 0) Q := by
  obtain ⟨hS0, hS1, hS2, hS3, hS4, hR0, hR1, hR2, hR3, hR4, hR5, hR6, hR7⟩ := bn_F (ys := ys) (s := s) hb
  have e0 : (0 : Int32).toInt = 0 := rfl
  have no : pm_W (g_P ys) 56 21 [.ref b, .int x] [] (I, L, g_R s, 306) (0, 0) Q := by
    refine pw_c rfl ?_
    refine ps_aretN rfl rfl ?_
    exact kk
  by_cases h1 : x.toInt < 0
  · refine ps_iload rfl rfl ?_
    refine ps_ift rfl (decide_eq_true ((i_lt _ _).mpr (by omega))) ?_
    exact no
  · refine ps_iload rfl rfl ?_
    refine ps_iff rfl (decide_eq_false (fun z => h1 (by have := (i_lt _ _).mp z; omega))) ?_
    refine ps_iload rfl rfl ?_
    refine ps_aload rfl rfl ?_
    refine ps_gfi 8 3 rfl rfl rfl (by first | exact hS0 _ _ | exact hS1 _ _ | exact hS2 _ _ | exact hS3 _ _ | exact hS4 _ _ | exact hS5 _ _ | exact hS6 _ _ | exact hS7 _ _ | exact hS8 _ _ | exact hS9 _ _ | exact hS10 _ _ | exact hS11 _ _ | exact hS12 _ _ | exact hS13 _ _ | assumption | rfl) rfl ?_
    rw [show ((I, L, g_R s, 306) : pm_H).1 b 3 = nI B.ps from hB]
    refine ps_icmpt rfl (decide_eq_true ((i_le _ _).mpr (by rw [nI_toInt (by omega)]; omega))) ?_
    exact no
end KW
