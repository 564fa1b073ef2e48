/-! BY HAND: a text in TOKENS -/
section JF
/-- where the token ahead of t ends -/
def pE (I : Nat → Nat → Int32) (t : Nat) : Nat := if t = 0 then 0 else (I 9 (t - 1)).toInt.toNat
/-- the token t of the text f of n bytes -/
def tkD (f : Nat → Int32) (n : Nat) (I : Nat → Nat → Int32) (t : Nat) : Prop := ∃ q e : Nat, I 8 t = nI q ∧ I 9 t = nI e ∧ pE I t ≤ q ∧ (∀ j, pE I t ≤ j → j < q → blk (f j)) ∧ q < n ∧ ¬ blk (f q) ∧ q < e ∧ e ≤ n ∧ tokR f n q e (I 7 t) (I 10 t)
/-- c tokens have been found, the others lie as they lay -/
def tkI (I I' : Nat → Nat → Int32) (n c : Nat) : Prop :=
  (∀ a j : Nat, ¬ (a = 6 ∧ j = 4) → ¬ ((a = 7 ∨ a = 8 ∨ a = 9 ∨ a = 10) ∧ j < c) → I' a j = I a j) ∧ I' 6 4 = nI c ∧ (∀ t, t < c → tkD (fun j => I 2 j) n I' t) ∧ c ≤ pE I' c ∧ pE I' c ≤ n
/-- all tokens, END behind them -/
def tkS (I I' : Nat → Nat → Int32) (n c : Nat) : Prop :=
  (∀ a j : Nat, ¬ (a = 6 ∧ j = 4) → ¬ ((a = 7 ∨ a = 8 ∨ a = 9 ∨ a = 10) ∧ j < c + 1) → I' a j = I a j) ∧ I' 6 4 = nI (c + 1) ∧ (∀ t, t < c → tkD (fun j => I 2 j) n I' t) ∧ c ≤ n ∧ pE I' c ≤ n ∧ (∀ j, pE I' c ≤ j → j < n → blk (I 2 j)) ∧ I' 7 c = 0 ∧ I' 8 c = nI n ∧ I' 9 c = nI n ∧ I' 10 c = 0
variable {I I' : Nat → Nat → Int32}
theorem ap_o {c a j : Nat} {k st en v : Int32} (h1 : ¬ (a = 6 ∧ j = 4)) (h2 : ¬ ((a = 7 ∨ a = 8 ∨ a = 9 ∨ a = 10) ∧ j = c)) : apI I c k st en v a j = I a j := by
  unfold apI
  have key : ∀ (J : Nat → Nat → Int32) (b i : Nat) (x : Int32), ¬ (a = b ∧ j = i) → pm_u J b i x a j = J a j := by
    intro J b i x q
    by_cases e : a = b
    · subst e
      exact pu_n (fun e2 => q ⟨rfl, e2⟩)
    · exact pu_o e
  rw [key _ 6 4 _ h1, key _ 10 c _ (fun q => h2 ⟨by omega, q.2⟩), key _ 9 c _ (fun q => h2 ⟨by omega, q.2⟩), key _ 8 c _ (fun q => h2 ⟨by omega, q.2⟩), key _ 7 c _ (fun q => h2 ⟨by omega, q.2⟩)]
theorem ap_7 {c : Nat} {k st en v : Int32} : apI I c k st en v 7 c = k := by
  unfold apI
  rw [pu_o (by decide), pu_o (by decide), pu_o (by decide), pu_o (by decide), pu_s]
theorem ap_8 {c : Nat} {k st en v : Int32} : apI I c k st en v 8 c = st := by
  unfold apI
  rw [pu_o (by decide), pu_o (by decide), pu_o (by decide), pu_s]
theorem ap_9 {c : Nat} {k st en v : Int32} : apI I c k st en v 9 c = en := by
  unfold apI
  rw [pu_o (by decide), pu_o (by decide), pu_s]
theorem ap_10 {c : Nat} {k st en v : Int32} : apI I c k st en v 10 c = v := by
  unfold apI
  rw [pu_o (by decide), pu_s]
theorem ap_6 {c : Nat} {k st en v : Int32} : apI I c k st en v 6 4 = nI (c + 1) := by
  unfold apI
  exact pu_s
theorem pE_ap {c t : Nat} {k st en v : Int32} (ht : t ≤ c) : pE (apI I c k st en v) t = pE I t := by
  unfold pE
  split
  · rfl
  · rw [ap_o (by omega) (by omega)]
theorem tkD_ap {c t n : Nat} {f : Nat → Int32} {k st en v : Int32} (ht : t < c) (h : tkD f n I t) : tkD f n (apI I c k st en v) t := by
  unfold tkD at h ⊢
  rw [pE_ap (by omega), ap_o (by omega) (by omega), ap_o (by omega) (by omega), ap_o (by omega) (by omega), ap_o (by omega) (by omega)]
  exact h
theorem tkI_s {n c i e : Nat} {k v : Int32} (h : tkI I I' n c) (hb : ∀ j, pE I' c ≤ j → j < i → blk (I 2 j)) (hi : pE I' c ≤ i) (hin : i < n) (hn : n ≤ 800) (nb : ¬ blk (I 2 i)) (hie : i < e) (hen : e ≤ n) (tr : tokR (fun j => I 2 j) n i e k v) : tkI I (apI I' c k (nI i) (nI e) v) n (c + 1) ∧ pE (apI I' c k (nI i) (nI e) v) (c + 1) = e := by
  obtain ⟨h1, h2, h3, h4, h5⟩ := h
  have e1 : pE (apI I' c k (nI i) (nI e) v) (c + 1) = e := by
    unfold pE
    rw [if_neg (by omega), show c + 1 - 1 = c from rfl, ap_9, nI_toInt (by omega)]
    rfl
  refine ⟨⟨fun a j q1 q2 => ?_, ap_6, fun t ht => ?_, by rw [e1]; omega, by rw [e1]; exact hen⟩, e1⟩
  · rw [ap_o q1 (by omega)]
    exact h1 a j q1 (by omega)
  · by_cases q : t = c
    · subst q
      refine ⟨i, e, ap_8, ap_9, ?_, ?_, hin, nb, hie, hen, ?_⟩
      · rw [pE_ap (Nat.le_refl _)]
        exact hi
      · rw [pE_ap (Nat.le_refl _)]
        exact hb
      · rw [ap_7, ap_10]
        exact tr
    · exact tkD_ap (by omega) (h3 t (by omega))
theorem tkI_e {n c : Nat} (h : tkI I I' n c) (hb : ∀ j, pE I' c ≤ j → j < n → blk (I 2 j)) : tkS I (apI I' c 0 (nI n) (nI n) 0) n c := by
  obtain ⟨h1, h2, h3, h4, h5⟩ := h
  refine ⟨fun a j q1 q2 => ?_, ap_6, fun t ht => tkD_ap ht (h3 t ht), by omega, by rw [pE_ap (Nat.le_refl _)]; exact h5, fun j j1 j2 => hb j (by rw [pE_ap (Nat.le_refl _)] at j1; exact j1) j2, ap_7, ap_8, ap_9, ap_10⟩
  rw [ap_o q1 (by omega)]
  exact h1 a j q1 (by omega)
theorem tokR_k {f : Nat → Int32} {n i e : Nat} {k v : Int32} (h : tokR f n i e k v) (hie : i < e) (hen : e ≤ n) (hn : n ≤ 800) : (0 ≤ k.toInt ∧ k.toInt ≤ 5) ∧ (k.toInt = 4 → 1 ≤ v.toInt ∧ (i : Int) + 1 + v.toInt = e) ∧ ¬ k.toInt = 0 := by
  have lit : ∀ {p : Prop} [Decidable p] {a b : Int32} {x y : Int}, a.toInt = x → b.toInt = y → (if p then a else b).toInt = (if p then x else y) := by
    intro p _ a b x y h1 h2
    split
    · exact h1
    · exact h2
  rcases h with ⟨_, _, h, _⟩ | ⟨_, _, h, _⟩ | ⟨_, _, h, hv⟩ | ⟨_, _, _, _, h, _⟩
  · rw [h, lit (x := 2) (y := 1) rfl rfl]
    split <;> refine ⟨by omega, fun q => ?_, by omega⟩ <;> omega
  · rw [h, lit (x := 3) (y := 1) rfl rfl]
    split <;> refine ⟨by omega, fun q => ?_, by omega⟩ <;> omega
  · rw [h, lit (x := 4) (y := 1) rfl rfl, hv, nI_toInt (by omega)]
    split
    · refine ⟨by omega, fun q => by omega, by omega⟩
    · refine ⟨by omega, fun q => by omega, by omega⟩
  · rw [h, lit (x := 5) (y := 1) rfl rfl]
    split <;> refine ⟨by omega, fun q => ?_, by omega⟩ <;> omega
end JF
section JG
variable {ys : List Int32} {I I' : Nat → Nat → Int32} {L : Nat → Nat → Int64} {s : Nat → Option Nat} {Q : List Value → pm_H → Prop}
abbrev tkW : sx_W := [(8, .ofNat 0, .ofNat 800), (9, .ofNat 0, .ofNat 800), (10, .ofNat 0, .ofNat 800), (11, .ofNat 0, .ofNat 800), (7, .ofNat 4, .ofNat 4)]
theorem tkS_iv (iv : sx_IV xT xtg xPH (I, L, g_R s, 306)) {n c : Nat} (hn : n ≤ 800) (h : tkS I I' n c) : sx_IV xT xtg xPH (I', L, g_R s, 306) ∧ sx_fr xtg xVP tkW (false, false) (I, L, g_R s, 306) (I', L, g_R s, 306) := by
  obtain ⟨h1, h2, h3, h4, h5, h6, h7, h8, h9, h10⟩ := h
  have ag2 : ∀ a j : Nat, ¬ (a = 6 ∨ a = 7 ∨ a = 8 ∨ a = 9 ∨ a = 10) → I' a j = I a j := fun a j ha => h1 a j (by omega) (by omega)
  have rowD : ∀ t, t < c → (0 ≤ (I' 7 t).toInt ∧ (I' 7 t).toInt ≤ 5) ∧ (0 ≤ (I' 8 t).toInt ∧ (I' 8 t).toInt ≤ 800) ∧ (0 ≤ (I' 9 t).toInt ∧ (I' 9 t).toInt ≤ 800) ∧ ((I' 7 t).toInt = 4 → 1 ≤ (I' 10 t).toInt ∧ (I' 8 t).toInt + 1 + (I' 10 t).toInt ≤ 800) := by
    intro t ht
    obtain ⟨q, e, d1, d2, d3, d4, d5, d6, d7, d8, d9⟩ := h3 t ht
    obtain ⟨k1, k2, _⟩ := tokR_k d9 d7 d8 hn
    rw [d1, d2, nI_toInt (by omega), nI_toInt (by omega)]
    refine ⟨k1, by omega, by omega, fun k4 => ?_⟩
    have := k2 k4
    omega
  have base : sx_IB xT xtg I' := by
    intro a j q hq k1 k2
    by_cases e6 : a = 6 ∧ j = 4
    · obtain ⟨rfl, rfl⟩ := e6
      exact sx_wr_ok (g := sx_sb xT (xtg 6)) (lo := 4) (hi := 4) (b := (0, 801)) (by decide) (Int.le_refl _) (Int.le_refl _) (by rw [h2, nI_toInt (by omega)]; show (0 : Int) ≤ _; omega) (by rw [h2, nI_toInt (by omega)]; show _ ≤ (801 : Int); omega) q hq k1 k2
    by_cases er : (a = 7 ∨ a = 8 ∨ a = 9 ∨ a = 10) ∧ j < c + 1
    · obtain ⟨ea, hj⟩ := er
      rcases ea with rfl | rfl | rfl | rfl
      · by_cases ec : j = c
        · subst ec
          rw [h7]
          have g : ∀ q, q ∈ sx_sb xT (xtg 7) → q.2.2.1 ≤ (0 : Int) ∧ (0 : Int) ≤ q.2.2.2 := by decide
          exact g q hq
        · have d := (rowD j (by omega)).1
          exact sx_wr_ok (g := sx_sb xT (xtg 7)) (lo := 0) (hi := 799) (b := (0, 5)) (by decide) (by omega) (by omega) d.1 d.2 q hq k1 k2
      · by_cases ec : j = c
        · subst ec
          rw [h8]
          exact sx_wr_ok (g := sx_sb xT (xtg 8)) (lo := 0) (hi := 800) (b := (0, 800)) (by decide) (by omega) (by omega) (by rw [nI_toInt (by omega)]; show (0 : Int) ≤ _; omega) (by rw [nI_toInt (by omega)]; show _ ≤ (800 : Int); omega) q hq k1 k2
        · have d := (rowD j (by omega)).2.1
          exact sx_wr_ok (g := sx_sb xT (xtg 8)) (lo := 0) (hi := 800) (b := (0, 800)) (by decide) (by omega) (by omega) d.1 d.2 q hq k1 k2
      · by_cases ec : j = c
        · subst ec
          rw [h9]
          exact sx_wr_ok (g := sx_sb xT (xtg 9)) (lo := 0) (hi := 800) (b := (0, 800)) (by decide) (by omega) (by omega) (by rw [nI_toInt (by omega)]; show (0 : Int) ≤ _; omega) (by rw [nI_toInt (by omega)]; show _ ≤ (800 : Int); omega) q hq k1 k2
        · have d := (rowD j (by omega)).2.2.1
          exact sx_wr_ok (g := sx_sb xT (xtg 9)) (lo := 0) (hi := 800) (b := (0, 800)) (by decide) (by omega) (by omega) d.1 d.2 q hq k1 k2
      · exact absurd hq (by intro q; cases q)
    rw [h1 a j e6 er]
    exact iv.1 a j q hq k1 k2
  obtain ⟨k1, k2, k3, k4, k5⟩ := iv.2.2.2.2.2
  refine ⟨iv_new iv base ⟨fun a ha => ?_, fun j hj hk => ?_, fun m hm => ?_, fun hm => ?_, fun hw => ?_⟩, fun a j hn2 => ?_, fun _ l z k => xV_ag (P := fun a => a = 6 ∨ a = 7 ∨ a = 8 ∨ a = 9 ∨ a = 10) (fun a e => by rcases e with rfl | rfl | rfl | rfl | rfl <;> decide) ag2 k, fun _ => rfl⟩
  · have nt : ∀ b, ¬ xtg b = 36 → ¬ a = b := fun b hb e => hb (by rw [← e]; exact ha)
    have na : ¬ (a = 6 ∨ a = 7 ∨ a = 8 ∨ a = 9 ∨ a = 10) := fun q => by
      rcases q with q | q | q | q | q <;> exact nt _ (by decide) q
    rw [ag2 a _ na, ag2 a _ na, ag2 a _ na]
    exact k1 a ha
  · by_cases ej : j < c
    · exact (rowD j ej).2.2.2 hk
    · by_cases ec : j = c
      · rw [ec, h7] at hk
        exact absurd hk (by decide)
      · rw [h1 7 j (by omega) (by omega)] at hk
        rw [h1 8 j (by omega) (by omega), h1 10 j (by omega) (by omega)]
        exact k2 j hj hk
  · rw [ag2 275 _ (by decide)] at hm
    have := k3 m hm
    unfold mPl mFm
    simp only [ag2 278 _ (by decide)]
    exact this
  · rw [ag2 275 _ (by decide)] at hm
    have := k4 hm
    simp only [ag2 275 _ (by decide), ag2 288 _ (by decide), ag2 290 _ (by decide)]
    exact this
  · rw [ag2 275 _ (by decide)] at hw
    have := k5 hw
    unfold nPl nFm
    simp only [ag2 275 _ (by decide), ag2 279 _ (by decide), ag2 289 _ (by decide)]
    exact this
  · show I' a j = I a j
    refine h1 a j (fun q => hn2 ?_) (fun q => hn2 ?_)
    · obtain ⟨rfl, rfl⟩ := q
      exact sx_wk_ok (lo := 4) (hi := 4) (by decide) (by omega) (by omega)
    · obtain ⟨ea, hj⟩ := q
      rcases ea with rfl | rfl | rfl | rfl
      · exact sx_wk_ok (lo := 0) (hi := 800) (by decide) (by omega) (by omega)
      · exact sx_wk_ok (lo := 0) (hi := 800) (by decide) (by omega) (by omega)
      · exact sx_wk_ok (lo := 0) (hi := 800) (by decide) (by omega) (by omega)
      · exact sx_wk_ok (lo := 0) (hi := 800) (by decide) (by omega) (by omega)
theorem B_split {x ln : Nat} (hx : x ≤ 800) (hl : I 1 1 = nI ln) (hl8 : ln ≤ 800) (kk : ∀ c I', tkS I I' (min x ln) c → Q [] (I', L, g_R s, 306)) : pm_W (g_P ys) 23 0 [.ref 6, .ref 1, .int (nI x), .retAddr 0, .retAddr 0, .retAddr 0] [] (I, L, g_R s, 306) (0, 0) Q := by
  have hn : min x ln ≤ 800 := Nat.le_trans (Nat.min_le_left _ _) hx
  generalize hN : min x ln = n at hn kk
  have loop : ∀ d i, i + d = n → ∀ c b I', tkI I I' n c → b = pE I' c → (∀ j, b ≤ j → j < i → blk (I 2 j)) → pm_W (g_P ys) 23 20 [.ref 6, .ref 1, .int (nI x), .int (nI n), .int (nI b), .int (nI i)] [] (I', L, g_R s, 306) (0, 0) Q := by
    intro d
    induction d with
    | zero =>
      intro i hi c b I' ti hb hbl
      have hi : i = n := by omega
      subst hi
      have c8 : c ≤ 800 := by have := ti.2.2.2; omega
      refine ps_iload rfl rfl ?_
      refine ps_iload rfl rfl ?_
      refine ps_icmpt rfl (decide_eq_true (Int32.le_refl _)) ?_
      refine ps_aload rfl rfl ?_
      refine pw_c rfl ?_
      refine ps_iload rfl rfl ?_
      refine ps_iload rfl rfl ?_
      refine pw_c rfl ?_
      refine pw_k rfl rfl rfl rfl ⟨Nat.zero_le _, Nat.zero_le _⟩ ?_
      refine B_append ti.2.1 c8 ?_
      refine ps_vret rfl rfl ?_
      exact kk c _ (tkI_e ti (fun j j1 j2 => hbl j (by omega) j2))
    | succ d ih =>
      intro i hi c b I' ti hb hbl
      have b8 : b ≤ n := by rw [hb]; exact ti.2.2.2.2
      have cb : c ≤ b := by rw [hb]; exact ti.2.2.2.1
      have e2 : ∀ j, I' 2 j = I 2 j := fun j => ti.1 2 j (by omega) (by omega)
      have nx : ∀ c b I', tkI I I' n c → b = pE I' c → (∀ j, b ≤ j → j < i + 1 → blk (I 2 j)) → pm_W (g_P ys) 23 67 [.ref 6, .ref 1, .int (nI x), .int (nI n), .int (nI b), .int (nI i)] [] (I', L, g_R s, 306) (0, 0) Q := by
        intro c b I' ti hb hbl
        refine ps_iinc rfl rfl ?_
        refine ps_goto rfl ?_
        rw [show nI i + Int32.ofInt 1 = nI (i + 1) from nI_1 i]
        exact ih (i + 1) (by omega) c b I' ti hb hbl
      refine ps_iload rfl rfl ?_
      refine ps_iload rfl rfl ?_
      refine ps_icmpf rfl (decide_eq_false (nI_ge (by omega) (by omega))) ?_
      refine ps_iload rfl rfl ?_
      refine ps_iload rfl rfl ?_
      refine ps_icmp rfl (fun h1 => ?_) (fun h1 => ?_)
      · have h1 : nI i < nI b := of_decide_eq_true h1
        have h1 := (nI_ltI (by omega) (by omega)).mp h1
        exact nx c b I' ti hb (fun j j1 j2 => by omega)
      · have h1 : ¬ nI i < nI b := of_decide_eq_false h1
        have h1 : ¬ i < b := fun q => h1 ((nI_ltI (by omega) (by omega)).mpr q)
        refine ps_aload rfl rfl ?_
        refine ps_gfr 1 0 rfl rfl rfl rfl rfl (rfl) ?_
        refine ps_iload rfl rfl ?_
        refine ps_iald (i) rfl rfl rfl (rfl) (by omega) ?_
        refine pw_c rfl ?_
        refine ps_icmp rfl (fun h2 => ?_) (fun h2 => ?_)
        · have h2 : ¬ ¬ I' 2 i = 10 ∨ I' 2 i = 10 := Or.inr (of_decide_eq_true h2)
          have h2 : (I' 2 i).toInt = 10 := by
            have q : I' 2 i = 10 := h2.elim (fun r => Decidable.byContradiction r) id
            rw [q]
            rfl
          refine nx c b I' ti hb (fun j j1 j2 => ?_)
          by_cases ej : j = i
          · rw [ej]
            exact Or.inl (by rw [← e2]; exact h2)
          · exact hbl j j1 (by omega)
        · have h2 : ¬ I' 2 i = 10 := of_decide_eq_false h2
          refine ps_aload rfl rfl ?_
          refine ps_gfr 1 0 rfl rfl rfl rfl rfl (rfl) ?_
          refine ps_iload rfl rfl ?_
          refine ps_iald (i) rfl rfl rfl (rfl) (by omega) ?_
          refine pw_c rfl ?_
          refine ps_icmp rfl (fun h3 => ?_) (fun h3 => ?_)
          · have h3 : I' 2 i = 32 := of_decide_eq_true h3
            refine nx c b I' ti hb (fun j j1 j2 => ?_)
            by_cases ej : j = i
            · rw [ej]
              exact Or.inr (by rw [← e2, h3]; rfl)
            · exact hbl j j1 (by omega)
          · have h3 : ¬ I' 2 i = 32 := of_decide_eq_false h3
            have nb : ¬ blk (I 2 i) := fun q => by
              rw [← e2] at q
              rcases q with q | q
              · exact h2 ((i_eq _ _).mpr q)
              · exact h3 ((i_eq _ _).mpr q)
            refine ps_aload rfl rfl ?_
            refine ps_aload rfl rfl ?_
            refine ps_iload rfl rfl ?_
            refine ps_iload rfl rfl ?_
            refine pw_k rfl rfl rfl rfl ⟨Nat.zero_le _, Nat.zero_le _⟩ ?_
            refine B_cut (show i < n by omega) hn ti.2.1 (by omega) ?_
            intro e k v hie hen tr
            refine ps_istore rfl rfl ?_
            have tr : tokR (fun j => I 2 j) n i e k v := by
              rw [show (fun j => I 2 j) = (fun j => I' 2 j) from funext (fun j => (e2 j).symm)]
              exact tr
            obtain ⟨g1, g2⟩ := tkI_s ti (fun j j1 j2 => hbl j (by omega) j2) (by omega) (by omega) hn nb hie hen tr
            exact nx (c + 1) e _ g1 g2.symm (fun j j1 j2 => by omega)
  refine ps_iload rfl rfl ?_
  refine ps_aload rfl rfl ?_
  refine ps_gfi 1 1 rfl rfl rfl rfl rfl ?_
  rw [show ((I, L, g_R s, 306) : pm_H).1 1 1 = nI ln from hl]
  refine pw_k rfl rfl rfl rfl ⟨Nat.zero_le _, Nat.zero_le _⟩ ?_
  refine B_min (by omega) (by omega) ?_
  rw [hN]
  refine ps_istore rfl rfl ?_
  refine pw_c rfl ?_
  refine ps_istore rfl rfl ?_
  refine ps_aload rfl rfl ?_
  refine pw_c rfl ?_
  refine ps_pfi 3 4 rfl rfl rfl rfl rfl ?_
  refine pw_c rfl ?_
  refine ps_istore rfl rfl ?_
  show pm_W (g_P ys) 23 20 [.ref 6, .ref 1, .int (nI x), .int (nI n), .int (nI 0), .int (nI 0)] [] (pm_u I 6 4 0, L, g_R s, 306) (0, 0) Q
  refine loop n 0 (by omega) 0 0 _ ⟨fun a j q1 _ => ?_, pu_s, fun t ht => by omega, by omega, ?_⟩ rfl (fun j j1 j2 => by omega)
  · by_cases e : a = 6
    · subst e
      exact pu_n (fun q => q1 ⟨rfl, q⟩)
    · exact pu_o e
  · show (if (0 : Nat) = 0 then 0 else _) ≤ n
    rw [if_pos rfl]
    omega
theorem k_split : xk ys kh_23_0 := by
  intro h vs Q iv va fa kk
  obtain ⟨I, L, s, rfl⟩ := x_form iv
  obtain ⟨_, c1, rfl, ⟨a, rfl, ha, _⟩, va1⟩ := vas_c va
  obtain ⟨_, c2, rfl, ⟨b, rfl, hb, _⟩, va2⟩ := vas_c va1
  obtain ⟨_, c3, rfl, ⟨x, rfl, x1, x2, _⟩, va3⟩ := vas_c va2
  cases vas_n va3
  cases tag_one (t := 7) rfl (by decide) ha
  cases tag_one (t := 2) rfl (by decide) hb
  have x1' : (0 : Int) ≤ x.toInt := x1
  have x2' : x.toInt ≤ 800 := x2
  obtain ⟨n, hn⟩ : ∃ n : Nat, x.toInt = (n : Int) := ⟨x.toInt.toNat, by omega⟩
  cases i_nat hn
  obtain ⟨ln, hl8, hl⟩ := g_bd iv (a := 1) (k := 1) (b := 800) (q := (.ofNat 1, .ofNat 1, .ofNat 0, .ofNat 800)) (by decide) (by decide) (by decide) rfl rfl
  refine B_split (by omega) hl hl8 (fun c I' t => ?_)
  obtain ⟨g1, g2⟩ := tkS_iv iv (Nat.le_trans (Nat.min_le_left _ _) (by omega)) t
  exact kk _ _ g1 (fr_wk (by decide) g2) ⟨_, List.mem_cons_self, po_0⟩
end JG
