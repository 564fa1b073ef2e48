/-! BY HAND: the model's calls about shadows, fifth: shots, worst (printed by wip/src/gen97zzzd.py) -/
section UF
variable {I I' I1 I2 J : Nat → Nat → Int32} {L : Nat → Nat → Int64} {s : Nat → Option Nat} {Q : List Value → pm_H → Prop} {ys : List Int32} {k sh u : Nat} {ng : Bool} {P : sPl} {S : sS} {B : sB} {pc : sPc} {f g : Nat → Int32} {h : pm_H} {o : Nat}
/-! sums that don't come round -/
def sT (f : Nat → Int32) : Nat → Int
  | 0 => 0
  | n + 1 => sT f n + (f n).toInt
theorem suI_T {M : Int} : ∀ n, (∀ c, c < n → 0 ≤ (f c).toInt ∧ (f c).toInt ≤ 20000) → n ≤ 1000 → (suI f n).toInt = sT f n ∧ 0 ≤ sT f n ∧ sT f n ≤ 20000 * n
  | 0, _, _ => ⟨rfl, Int.le_refl _, Int.le_refl _⟩
  | n + 1, h, hn => by
    obtain ⟨i1, i2, i3⟩ := suI_T (M := M) n (fun c hc => h c (by omega)) (by omega)
    have b := h n (by omega)
    rw [suI_s, i_add (by omega) (by omega), i1]
    refine ⟨rfl, ?_, ?_⟩
    · show 0 ≤ sT f n + (f n).toInt
      omega
    · show sT f n + (f n).toInt ≤ 20000 * ((n + 1 : Nat) : Int)
      omega
theorem sT_le (h : ∀ c, c < o → 0 ≤ (f c).toInt) : ∀ n, n ≤ o → ∀ k, k ≤ n → sT f k ≤ sT f n
  | 0, _, k, hk => by
    have : k = 0 := by omega
    rw [this]
    exact Int.le_refl _
  | n + 1, hn, k, hk => by
    by_cases e : k = n + 1
    · rw [e]
      exact Int.le_refl _
    · have i := sT_le h n (by omega) k (by omega)
      have b := h n (by omega)
      show sT f k ≤ sT f n + (f n).toInt
      omega
abbrev bkN (S : sS) : Prop := 0 ≤ S.bk.toInt ∧ S.bk.toInt ≤ 99
theorem thR_bd {i : Nat} (h01 : p01 P) (on : okN S) (hb : bkN S) (ok : S.ok) (w0 : 0 < P.w) (v0 : 0 < P.v) : ∀ k, k ≤ S.n 0 → 0 ≤ (thR P S 0 k i).toInt ∧ (thR P S 0 k i).toInt ≤ 99 + 999 * (k : Int)
  | 0, _ => ⟨hb.1, by have := hb.2; show S.bk.toInt ≤ _; omega⟩
  | k + 1, hk => by
    have n8 : S.n 0 ≤ 8 := ok 0 (by omega)
    obtain ⟨i1, i2⟩ := thR_bd (i := i) h01 on hb ok w0 v0 k (by omega)
    have b := on 0 (by omega) k (by omega) 2 (by omega)
    have r := h01 _ (cxy_lt w0 v0 (((i % P.w : Nat) : Int) + (-(S.sc 0 k 0 + 0)).toInt) (((i / P.w : Nat) : Int) + (-(S.sc 0 k 1)).toInt))
    rw [thR]
    unfold shF
    rcases r with r | r
    · rw [r, Int32.mul_zero, Int32.add_zero]
      exact ⟨i1, by omega⟩
    · rw [r, Int32.mul_one, i_add (by omega) (by omega)]
      exact ⟨by omega, by omega⟩
theorem acR_bd {i : Nat} (on : okN S) (ok : S.ok) {A : Int} (hA : A ≤ 100000) (hf : 0 ≤ (f i).toInt ∧ (f i).toInt ≤ A) : ∀ k, k ≤ S.n 2 → 0 ≤ (acR P S 2 f k i).toInt ∧ (acR P S 2 f k i).toInt ≤ A + 999 * (k : Int)
  | 0, _ => ⟨hf.1, by have := hf.2; show (f i).toInt ≤ _; omega⟩
  | k + 1, hk => by
    have n8 : S.n 2 ≤ 8 := ok 2 (by omega)
    obtain ⟨i1, i2⟩ := acR_bd (i := i) on ok hA hf k (by omega)
    have b := on 2 (by omega) k (by omega) 2 (by omega)
    rw [acR]
    split
    · rw [i_add (by omega) (by omega)]
      exact ⟨by omega, by omega⟩
    · exact ⟨i1, by omega⟩
theorem wh_bd (h01 : p01 P) (on : okN S) (hb : bkN S) (ok : S.ok) (w0 : 0 < P.w) (v0 : 0 < P.v) (i : Nat) : 0 ≤ (wholF P S 0 i).toInt ∧ (wholF P S 0 i).toInt ≤ 20000 := by
  have n0 : S.n 0 ≤ 8 := ok 0 (by omega)
  have n2 : S.n 2 ≤ 8 := ok 2 (by omega)
  have a := thR_bd (i := i) h01 on hb ok w0 v0 (S.n 0) (Nat.le_refl _)
  have c := acR_bd (P := P) (f := thR P S 0 (S.n 0)) (i := i) on ok (A := 99 + 999 * (S.n 0 : Int)) (by omega) a (S.n 2) (Nat.le_refl _)
  have c : 0 ≤ (wholF P S 0 i).toInt ∧ (wholF P S 0 i).toInt ≤ 99 + 999 * (S.n 0 : Int) + 999 * (S.n 2 : Int) := c
  exact ⟨c.1, by omega⟩
theorem sm_T (h01 : p01 P) (on : okN S) (hb : bkN S) (ok : S.ok) (w0 : 0 < P.w) (v0 : 0 < P.v) (n9 : P.w * P.v ≤ 289) : (smW P S).toInt = sT (wholF P S 0) (P.w * P.v) ∧ 0 ≤ (smW P S).toInt ∧ (smW P S).toInt ≤ 20000000 := by
  obtain ⟨e, h1, h2⟩ := suI_T (M := 0) (f := wholF P S 0) (P.w * P.v) (fun c _ => wh_bd h01 on hb ok w0 v0 c) (by omega)
  have e : (smW P S).toInt = sT (wholF P S 0) (P.w * P.v) := e
  exact ⟨e, by omega, by omega⟩
/-! numbers that are left of longs -/
theorem l_remz {a b : Int64} (ha : 0 ≤ a.toInt) (hb : 0 < b.toInt) : a - a / b * b = Int64.ofInt (a.toInt % b.toInt) := by
  have la := Int64.toInt_lt a
  have nb : ¬ b = -1 := fun z => by
    rw [z] at hb
    exact absurd hb (by decide)
  have d0 : 0 ≤ a.toInt / b.toInt := Int.ediv_nonneg ha (by omega)
  have d1 : a.toInt / b.toInt ≤ a.toInt := Int.ediv_le_self _ ha
  have e : a / b = Int64.ofInt (a.toInt / b.toInt) := by
    apply Int64.toInt_inj.mp
    rw [Int64.toInt_div_of_ne_right a b nb, Int.tdiv_eq_ediv_of_nonneg ha, Int64.toInt_ofInt_of_le (by omega) (by omega)]
  have q : Int64.ofInt (a.toInt - a.toInt / b.toInt * b.toInt) = a - Int64.ofInt (a.toInt / b.toInt) * b := by
    rw [Int64.ofInt_sub, Int64.ofInt_mul, Int64.ofInt_toInt, Int64.ofInt_toInt]
  rw [e, ← q]
  congr 1
  have m := Int.emod_add_mul_ediv a.toInt b.toInt
  have h : b.toInt * (a.toInt / b.toInt) = a.toInt / b.toInt * b.toInt := Int.mul_comm _ _
  omega
theorem lt_w {a : Int} (h : a < 2147483647) : a < 2147483648 := by omega
theorem em_b {a : Int} : -2 ^ 63 ≤ a % 2147483647 ∧ a % 2147483647 < 2 ^ 63 := by omega
theorem lc_bd {x : Int64} (h : 0 ≤ x.toInt ∧ x.toInt < 2147483648) : 0 ≤ (lcG x).toInt ∧ (lcG x).toInt < 2147483647 := by
  have e : (48271 * x).toInt = 48271 * x.toInt := by
    have q := Int64.ofInt_mul 48271 x.toInt
    rw [Int64.ofInt_toInt] at q
    have q : Int64.ofInt (48271 * x.toInt) = 48271 * x := q
    rw [← q, Int64.toInt_ofInt_of_le (by omega) (by omega)]
  have m : (2147483647 : Int64).toInt = 2147483647 := by decide
  have z := l_remz (a := 48271 * x) (b := 2147483647) (by rw [e]; exact Int.mul_nonneg (by decide) h.1) (by decide)
  have l1 := Int.emod_nonneg (48271 * x).toInt (show ¬ (2147483647 : Int) = 0 by decide)
  have l2 := Int.emod_lt_of_pos (48271 * x).toInt (show (0 : Int) < 2147483647 by decide)
  unfold lcG
  rw [z, m, Int64.toInt_ofInt_of_le em_b.1 em_b.2]
  exact ⟨l1, l2⟩
theorem sh_nm {x : Int64} {nm : Int32} (hx : 0 ≤ x.toInt) (hn : 0 < nm.toInt) : (x - x / nm.toInt64 * nm.toInt64).toInt32.toInt64 = x - x / nm.toInt64 * nm.toInt64 ∧ 0 ≤ (x - x / nm.toInt64 * nm.toInt64).toInt32.toInt ∧ (x - x / nm.toInt64 * nm.toInt64).toInt32.toInt < nm.toInt := by
  have nb := i_bd nm
  have z := l_remz (a := x) (b := nm.toInt64) hx (by rw [Int32.toInt_toInt64]; exact hn)
  rw [Int32.toInt_toInt64] at z
  have l1 := Int.emod_nonneg x.toInt (show ¬ nm.toInt = 0 by omega)
  have l2 := Int.emod_lt_of_pos x.toInt hn
  rw [z, Int64.toInt32_ofInt]
  have e : (Int32.ofInt (x.toInt % nm.toInt)).toInt = x.toInt % nm.toInt := iI_toInt (by omega) (by omega)
  refine ⟨?_, by omega, by omega⟩
  apply Int64.toInt_inj.mp
  rw [Int32.toInt_toInt64, e, Int64.toInt_ofInt_of_le (by omega) (by omega)]
theorem t64_sub {a b : Int32} (h0 : 0 ≤ b.toInt) (h : b.toInt ≤ a.toInt) : a.toInt64 - b.toInt64 = (a - b).toInt64 := by
  have ab := i_bd a
  have e : (a - b).toInt = a.toInt - b.toInt := by
    have q := iI_sub a.toInt b.toInt
    rw [← iI_of a, ← iI_of b] at q
    rw [q, iI_toInt (by omega) (by omega)]
  have q := Int64.ofInt_sub a.toInt b.toInt
  have ea : Int64.ofInt a.toInt = a.toInt64 := by
    apply Int64.toInt_inj.mp
    rw [Int64.toInt_ofInt_of_le (by omega) (by omega), Int32.toInt_toInt64]
  have eb : Int64.ofInt b.toInt = b.toInt64 := by
    apply Int64.toInt_inj.mp
    rw [Int64.toInt_ofInt_of_le (by omega) (by omega), Int32.toInt_toInt64]
  rw [ea, eb] at q
  rw [← q]
  apply Int64.toInt_inj.mp
  rw [Int64.toInt_ofInt_of_le (by omega) (by omega), Int32.toInt_toInt64, e]
theorem M_cellOfX (hV : mV k P S sh ng I) (wh : ∀ i, i < P.w * P.v → I 296 i = wholF P S 0 i) (bd : ∀ i, 0 ≤ (wholF P S 0 i).toInt) {r : Int32} (r0 : 0 ≤ r.toInt) (r1 : r.toInt < sT (wholF P S 0) (P.w * P.v)) (kk : Q [.int (nI (pnF P S r))] (I, L, g_R s, 306)) : pm_W (g_P ys) 273 0 [.ref 275, .long r.toInt64, .retAddr 0, .retAddr 0, .retAddr 0, .retAddr 0] [] (I, L, g_R s, 306) (0, 0) Q := by
  obtain ⟨wb, vb, w0, v0, n9⟩ := mV_b hV
  have n0 : 0 < P.w * P.v := Nat.mul_pos w0 v0
  have main : ∀ d c (q : Int32), c + d + 1 = P.w * P.v → 0 ≤ q.toInt → sT (wholF P S 0) c + q.toInt < sT (wholF P S 0) (P.w * P.v) → pnG P S d c q = pnF P S r → pm_W (g_P ys) 273 5 [.ref 275, .long r.toInt64, .retAddr 0, .long q.toInt64, .retAddr 0, .int (nI c)] [] (I, L, g_R s, 306) (0, 0) Q := by
    intro d
    induction d with
    | zero =>
      intro c q hc q0 q1 e
      have ec : c + 1 = P.w * P.v := by omega
      rw [← ec] at q1
      have q1 : sT (wholF P S 0) c + q.toInt < sT (wholF P S 0) c + (wholF P S 0 c).toInt := q1
      have lt : q < wholF P S 0 c := (i_lt _ _).mpr (by omega)
      have e : c = pnF P S r := e
      refine ps_lload rfl rfl ?_
      refine ps_aload rfl rfl ?_
      refine ps_gfr 11 28 rfl rfl rfl rfl rfl (rfl) ?_
      refine ps_iload rfl rfl ?_
      refine ps_iald (c) rfl rfl rfl (rfl) (by omega) ?_
      rw [show ((I, L, g_R s, 306) : pm_H).1 296 c = wholF P S 0 c from wh c (by omega)]
      refine ps_ar rfl rfl rfl rfl rfl ?_
      refine ps_ar rfl rfl rfl rfl rfl ?_
      refine ps_ift rfl ((lc_lt _ _).trans (decide_eq_true (Int32.toInt64_lt.mpr lt))) ?_
      refine ps_iload rfl rfl ?_
      refine ps_iret rfl rfl ?_
      rw [← e] at kk
      exact kk
    | succ d ih =>
      intro c q hc q0 q1 e
      rw [pnG] at e
      by_cases lt : q < wholF P S 0 c
      · rw [if_pos lt] at e
        refine ps_lload rfl rfl ?_
        refine ps_aload rfl rfl ?_
        refine ps_gfr 11 28 rfl rfl rfl rfl rfl (rfl) ?_
        refine ps_iload rfl rfl ?_
        refine ps_iald (c) rfl rfl rfl (rfl) (by omega) ?_
        rw [show ((I, L, g_R s, 306) : pm_H).1 296 c = wholF P S 0 c from wh c (by omega)]
        refine ps_ar rfl rfl rfl rfl rfl ?_
        refine ps_ar rfl rfl rfl rfl rfl ?_
        refine ps_ift rfl ((lc_lt _ _).trans (decide_eq_true (Int32.toInt64_lt.mpr lt))) ?_
        refine ps_iload rfl rfl ?_
        refine ps_iret rfl rfl ?_
        rw [← e] at kk
        exact kk
      · rw [if_neg lt] at e
        have b := bd c
        have le : (wholF P S 0 c).toInt ≤ q.toInt := by
          have : ¬ q.toInt < (wholF P S 0 c).toInt := fun z => lt ((i_lt _ _).mpr z)
          omega
        have es : (q - wholF P S 0 c).toInt = q.toInt - (wholF P S 0 c).toInt := by
          have qb := i_bd q
          have z := iI_sub q.toInt (wholF P S 0 c).toInt
          rw [← iI_of q, ← iI_of (wholF P S 0 c)] at z
          rw [z, iI_toInt (by omega) (by omega)]
        refine ps_lload rfl rfl ?_
        refine ps_aload rfl rfl ?_
        refine ps_gfr 11 28 rfl rfl rfl rfl rfl (rfl) ?_
        refine ps_iload rfl rfl ?_
        refine ps_iald (c) rfl rfl rfl (rfl) (by omega) ?_
        rw [show ((I, L, g_R s, 306) : pm_H).1 296 c = wholF P S 0 c from wh c (by omega)]
        refine ps_ar rfl rfl rfl rfl rfl ?_
        refine ps_ar rfl rfl rfl rfl rfl ?_
        refine ps_iff rfl ((lc_lt _ _).trans (decide_eq_false (fun z => lt (Int32.toInt64_lt.mp z)))) ?_
        refine ps_lload rfl rfl ?_
        refine ps_aload rfl rfl ?_
        refine ps_gfr 11 28 rfl rfl rfl rfl rfl (rfl) ?_
        refine ps_iload rfl rfl ?_
        refine ps_iald (c) rfl rfl rfl (rfl) (by omega) ?_
        rw [show ((I, L, g_R s, 306) : pm_H).1 296 c = wholF P S 0 c from wh c (by omega)]
        refine ps_ar rfl rfl rfl rfl rfl ?_
        refine ps_ar rfl rfl rfl rfl rfl ?_
        rw [t64_sub b le]
        refine ps_lstore rfl rfl ?_
        refine ps_iinc rfl rfl ?_
        refine ps_goto rfl ?_
        rw [show nI c + Int32.ofInt 1 = nI (c + 1) from nI_1 c]
        refine ih (c + 1) _ (by omega) (by omega) ?_ e
        show sT (wholF P S 0) c + (wholF P S 0 c).toInt + (q - wholF P S 0 c).toInt < _
        omega
  refine ps_lload rfl rfl ?_
  refine ps_lstore rfl rfl ?_
  refine pw_c rfl ?_
  refine ps_istore rfl rfl ?_
  exact main (P.w * P.v - 1) 0 r (by omega) r0 (by show 0 + r.toInt < _; omega) rfl
theorem M_shots9 (hm : mFF B I) (bk : bkN B.S) (ok : B.ok) (ku : okU B.S B.ps) (n sd w : Int32) (kk : ∀ r I', r = exv (qShots B n sd w) → mQg I I' → mFF B I' → Q [.int r] (I', L, g_R s, 306)) : pm_W (g_P ys) 272 0 [.ref 275, .int n, .int sd, .int w, .retAddr 0, .retAddr 0, .retAddr 0, .retAddr 0, .retAddr 0, .retAddr 0] [] (I, L, g_R s, 306) (0, 0) Q := by
  have e0 : (0 : Int32).toInt = 0 := rfl
  have p6 := ok.1
  have fin : ∀ e, ¬ e = 0 → qShots B n sd w = .error e → pm_W (g_P ys) 272 53 [.ref 275, .int n, .int sd, .int w, .retAddr 0, .retAddr 0, .retAddr 0, .retAddr 0, .retAddr 0, .retAddr 0] [.int e, .ref 275] (I, L, g_R s, 306) (0, 0) Q := by
    intro e he ea
    refine pw_k rfl rfl rfl rfl ⟨Nat.zero_le _, Nat.zero_le _⟩ ?_
    refine M_is ?_
    rw [decide_eq_false he]
    refine ps_iff rfl (by decide) ?_
    refine pw_c rfl ?_
    refine ps_iret rfl rfl ?_
    exact kk _ _ (by rw [ea]; rfl) mQg_s (mFF_st hm ok)
  have no : ¬ gdS n sd w → pm_W (g_P ys) 272 37 [.ref 275, .int n, .int sd, .int w, .retAddr 0, .retAddr 0, .retAddr 0, .retAddr 0, .retAddr 0, .retAddr 0] [.ref 275] (I, L, g_R s, 306) (0, 0) Q := by
    intro z
    refine pw_c rfl ?_
    refine ps_goto rfl ?_
    exact fin 1 (by decide) (by unfold qShots; rw [if_pos z])
  have yes : gdS n sd w → pm_W (g_P ys) 272 41 [.ref 275, .int n, .int sd, .int w, .retAddr 0, .retAddr 0, .retAddr 0, .retAddr 0, .retAddr 0, .retAddr 0] [.ref 275] (I, L, g_R s, 306) (0, 0) Q := by
    intro gd
    refine ps_aload rfl rfl ?_
    refine ps_gfi 11 14 rfl rfl rfl rfl rfl ?_
    rw [show ((I, L, g_R s, 306) : pm_H).1 275 14 = nI B.ps from hm.1.1]
    by_cases hp : B.ps = 0
    · rw [hp]
      refine ps_iff rfl (by decide) ?_
      refine pw_c rfl ?_
      refine ps_goto rfl ?_
      exact fin 2 (by decide) (by unfold qShots; rw [if_neg (fun z => z gd), plU_n hp])
    · obtain ⟨u, hu, eu⟩ := ps_u ku hp
      have ea : qShots B n sd w = if ¬ 0 < (smW (B.pl u) B.S).toInt then .error 5 else .ok (if w = 0 then (shS (B.pl u) B.S (smW (B.pl u) B.S) sd n.toInt.toNat).2.1 else fgF (B.pl u) (decF (B.pl u) (shS (B.pl u) B.S (smW (B.pl u) B.S) sd n.toInt.toNat).2.2) (w - 1)) := by
        unfold qShots
        rw [if_neg (fun z => z gd), plU_s hu eu p6]
      refine ps_ift rfl (decide_eq_true (nI_nz (by omega) (by omega))) ?_
      refine pw_c rfl ?_
      obtain ⟨n0, hn0⟩ : ∃ z, z = n.toInt.toNat := ⟨_, rfl⟩
      have en := nI_oz hn0 (by omega)
      have n500 : n0 ≤ 500 := by omega
      rw [← hn0] at ea
      have gd2 := gd.2.1
      have gd3 := gd.2.2
      clear hn0 gd fin no
      subst en
      have hm := mFF_st (e := 0) hm ok
      have q3 : mQg I (stI I 0) := mQg_s
      refine pw_k rfl rfl rfl rfl ⟨Nat.zero_le _, Nat.zero_le _⟩ ?_
      refine M_is ?_
      refine ps_ift rfl (by decide) ?_
      show pm_W _ _ _ _ _ (stI I 0, L, g_R s, 306) _ _
      generalize stI I 0 = J at hm q3 ⊢
      refine ps_aload rfl rfl ?_
      refine ps_aload rfl rfl ?_
      refine ps_gfr 11 16 rfl rfl rfl rfl rfl (rfl) ?_
      refine pw_c rfl ?_
      refine ps_iald (4) rfl rfl rfl (rfl) (by omega) ?_
      rw [show ((J, L, g_R s, 306) : pm_H).1 288 4 = nI u from mFF_u hm eu]
      refine pw_k rfl rfl rfl rfl ⟨Nat.zero_le _, Nat.zero_le _⟩ ?_
      refine M_usesX ?_
      show pm_W _ _ _ _ _ (usI u J, L, g_R s, 306) _ _
      refine ps_aload rfl rfl ?_
      refine pw_k rfl rfl rfl rfl ⟨Nat.zero_le _, Nat.zero_le _⟩ ?_
      refine M_laysShadowsX (M_begU hm ok hu) (fun I2 c2 L2 => ?_)
      have G := mBg_mk hm ok hu c2 L2
      obtain ⟨V, Ld, lo, wh, shd, q4, m4, s4⟩ := G
      obtain ⟨wb, vb, w0, v0, n9⟩ := mV_b V
      have h01 := V.2.2.1
      have on := hm.2.2.2
      have oS := okB ok
      have wbd := wh_bd (P := B.pl u) h01 on bk oS w0 v0
      obtain ⟨t1, t2, t3⟩ := sm_T (P := B.pl u) h01 on bk oS w0 v0 n9
      have pf : suI (fun i => if false = false ∨ lostF (B.pl u) B.S i = 1 then wholF (B.pl u) B.S 0 i else 0) ((B.pl u).w * (B.pl u).v) = smW (B.pl u) B.S := suI_congr (fun i _ => if_pos (Or.inl rfl))
      refine ps_aload rfl rfl ?_
      refine ps_aload rfl rfl ?_
      refine ps_gfr 11 28 rfl rfl rfl rfl rfl (rfl) ?_
      refine pw_c rfl ?_
      refine pw_k rfl rfl rfl rfl ⟨Nat.zero_le _, Nat.zero_le _⟩ ?_
      refine M_sumOfX V hWh wh lo lost_01 false ?_
      rw [pf]
      obtain ⟨nm, hnm⟩ : ∃ nm, nm = smW (B.pl u) B.S := ⟨_, rfl⟩
      rw [← hnm] at ea t1 t2 t3 ⊢
      by_cases z0 : nm = 0
      · have ng : ¬ 0 < nm.toInt := by rw [z0]; decide
        rw [if_pos ng] at ea
        refine ps_istore rfl rfl ?_
        refine ps_iload rfl rfl ?_
        refine ps_iff rfl (decide_eq_false (fun z => z z0)) ?_
        refine ps_aload rfl rfl ?_
        refine pw_c rfl ?_
        refine pw_k rfl rfl rfl rfl ⟨Nat.zero_le _, Nat.zero_le _⟩ ?_
        refine M_refuseX 5 ?_
        refine ps_iret rfl rfl ?_
        exact kk _ _ (by rw [ea]; rfl) (mQg_t q3 (mQg_t q4 mQg_u)) (mFF_su m4 ok)
      · have np : 0 < nm.toInt := by
          have : ¬ nm.toInt = (0 : Int32).toInt := fun z => z0 ((i_eq _ _).mpr z)
          omega
        rw [if_neg (fun z => z np)] at ea
        have clr : ∀ d c, c + d = 289 → ∀ I' : Nat → Nat → Int32, (∀ a j, ¬ a = 301 → I' a j = I2 a j) → (∀ j, j < c → I' 301 j = 0) → pm_W (g_P ys) 272 100 [.ref 275, .int (nI n0), .int sd, .int w, .int nm, .int (nI c), .retAddr 0, .retAddr 0, .retAddr 0, .retAddr 0] [] (I', L, g_R s, 306) (0, 0) Q := by
          intro d
          induction d with
          | zero =>
            intro c hc I' g1 g2
            refine ps_iload rfl rfl ?_
            refine pw_c rfl ?_
            refine ps_icmpt rfl (decide_eq_true (nI_le (a := 289) (by omega) (by omega))) ?_
            have xb : ∀ k, 0 ≤ (shS (B.pl u) B.S nm sd k).1.toInt ∧ (shS (B.pl u) B.S nm sd k).1.toInt < 2147483648 := by
              intro k
              induction k with
              | zero =>
                show 0 ≤ sd.toInt64.toInt ∧ sd.toInt64.toInt < 2147483648
                rw [Int32.toInt_toInt64]
                omega
              | succ k ihk =>
                have z := lc_bd ihk
                show 0 ≤ (lcG (shS (B.pl u) B.S nm sd k).1).toInt ∧ (lcG (shS (B.pl u) B.S nm sd k).1).toInt < 2147483648
                exact ⟨z.1, lt_w z.2⟩
            have main : ∀ d k, k + d = n0 → ∀ I' (u9 : Value), (∀ a j, ¬ a = 301 → I' a j = I2 a j) → (∀ j, j < (B.pl u).w * (B.pl u).v → I' 301 j = (shS (B.pl u) B.S nm sd k).2.2 j) → pm_W (g_P ys) 272 132 [.ref 275, .int (nI n0), .int sd, .int w, .int nm, .long (shS (B.pl u) B.S nm sd k).1, .retAddr 0, .int (shS (B.pl u) B.S nm sd k).2.1, .int (nI k), u9] [] (I', L, g_R s, 306) (0, 0) Q := by
              intro d
              induction d with
              | zero =>
                intro k hk I' u9 g1 g2
                have ek : k = n0 := by omega
                subst ek
                have V' : mV u (B.pl u) B.S 0 false I' := mV_o V (mCg_r (fun a j z => g1 a j (fun e => z (by unfold mRow; omega))))
                refine ps_iload rfl rfl ?_
                refine ps_iload rfl rfl ?_
                refine ps_icmpt rfl (decide_eq_true (nI_le (by omega) (by omega))) ?_
                refine ps_aload rfl rfl ?_
                refine ps_aload rfl rfl ?_
                refine ps_gfr 11 37 rfl rfl rfl rfl rfl (rfl) ?_
                refine pw_k rfl rfl rfl rfl ⟨Nat.zero_le _, Nat.zero_le _⟩ ?_
                refine M_decodesX V' hAs (by decide) g2 (fun I3 c3 d3 => ?_)
                have d3 : ∀ i, i < (B.pl u).w * (B.pl u).v → I3 298 i = decF (B.pl u) (shS (B.pl u) B.S nm sd k).2.2 i := d3
                have V3 : mV u (B.pl u) B.S 0 false I3 := mV_o V' (mCg_r (fun a j z => c3 a j (fun e => z (by unfold mRow; omega))))
                refine ps_aload rfl rfl ?_
                refine pw_k rfl rfl rfl rfl ⟨Nat.zero_le _, Nat.zero_le _⟩ ?_
                refine M_laysMostX V3 d3 (fun I4 c4 x4 y4 n4 => ?_)
                have qq : mQg I I4 := mQg_t q3 (mQg_t q4 (fun a j z1 z2 => (c4 a j (by omega)).trans ((c3 a j (by omega)).trans (g1 a j (by omega)))))
                have mm : mFF B I4 := mFF_o m4 ok (fun a j z => (c4 a j (by omega)).trans ((c3 a j (by omega)).trans (g1 a j (by omega))))
                have ew : ∀ y : Int32, w.toInt = y.toInt → w = y := fun y q => (i_eq _ _).mpr q
                rcases (show w.toInt = 0 ∨ w.toInt = 1 ∨ w.toInt = 2 ∨ w.toInt = 3 by omega) with q | q | q | q
                · have q := ew 0 q
                  subst q
                  refine ps_istore rfl rfl ?_
                  refine ps_iload rfl rfl ?_
                  refine ps_iff rfl (by decide) ?_
                  refine ps_iload rfl rfl ?_
                  refine ps_goto rfl ?_
                  refine ps_iret rfl rfl ?_
                  exact kk _ _ (by rw [ea]; rfl) qq mm
                · have q := ew 1 q
                  subst q
                  refine ps_istore rfl rfl ?_
                  refine ps_iload rfl rfl ?_
                  refine ps_ift rfl (by decide) ?_
                  refine ps_iload rfl rfl ?_
                  refine pw_c rfl ?_
                  refine ps_icmpf rfl (by decide) ?_
                  refine ps_aload rfl rfl ?_
                  refine ps_gfi 11 32 rfl rfl rfl rfl rfl ?_
                  rw [show ((I4, L, g_R s, 306) : pm_H).1 275 32 = nI (pgF (decF (B.pl u) (shS (B.pl u) B.S nm sd k).2.2) ((B.pl u).w * (B.pl u).v) % (B.pl u).w) from x4]
                  refine ps_goto rfl ?_
                  refine ps_iret rfl rfl ?_
                  exact kk _ _ (by rw [ea]; rfl) qq mm
                · have q := ew 2 q
                  subst q
                  refine ps_istore rfl rfl ?_
                  refine ps_iload rfl rfl ?_
                  refine ps_ift rfl (by decide) ?_
                  refine ps_iload rfl rfl ?_
                  refine pw_c rfl ?_
                  refine ps_icmpt rfl (by decide) ?_
                  refine ps_iload rfl rfl ?_
                  refine pw_c rfl ?_
                  refine ps_icmpf rfl (by decide) ?_
                  refine ps_aload rfl rfl ?_
                  refine ps_gfi 11 33 rfl rfl rfl rfl rfl ?_
                  rw [show ((I4, L, g_R s, 306) : pm_H).1 275 33 = nI (pgF (decF (B.pl u) (shS (B.pl u) B.S nm sd k).2.2) ((B.pl u).w * (B.pl u).v) / (B.pl u).w) from y4]
                  refine ps_goto rfl ?_
                  refine ps_iret rfl rfl ?_
                  exact kk _ _ (by rw [ea]; rfl) qq mm
                · have q := ew 3 q
                  subst q
                  refine ps_istore rfl rfl ?_
                  refine ps_iload rfl rfl ?_
                  refine ps_ift rfl (by decide) ?_
                  refine ps_iload rfl rfl ?_
                  refine pw_c rfl ?_
                  refine ps_icmpt rfl (by decide) ?_
                  refine ps_iload rfl rfl ?_
                  refine pw_c rfl ?_
                  refine ps_icmpt rfl (by decide) ?_
                  refine ps_iload rfl rfl ?_
                  refine ps_iret rfl rfl ?_
                  exact kk _ _ (by rw [ea]; rfl) qq mm
              | succ d ih =>
                intro k hk I' u9 g1 g2
                have V' : mV u (B.pl u) B.S 0 false I' := mV_o V (mCg_r (fun a j z => g1 a j (fun e => z (by unfold mRow; omega))))
                have wh' : ∀ i, i < (B.pl u).w * (B.pl u).v → I' 296 i = wholF (B.pl u) B.S 0 i := fun i hi => (g1 _ _ (by decide)).trans (wh i hi)
                obtain ⟨x, hx⟩ : ∃ x, x = (shS (B.pl u) B.S nm sd k).1 := ⟨_, rfl⟩
                have xb1 := xb k
                rw [← hx] at xb1 ⊢
                have lb := lc_bd xb1
                obtain ⟨r1, r2, r3⟩ := sh_nm (nm := nm) lb.1 np
                obtain ⟨c, hc⟩ : ∃ c, c = shP (B.pl u) B.S nm x := ⟨_, rfl⟩
                have cl : c < (B.pl u).w * (B.pl u).v := by rw [hc]; exact pnF_lt (Nat.mul_pos w0 v0)
                have lo' : I' 295 c = lostF (B.pl u) B.S c := (g1 _ _ (by decide)).trans (lo c cl)
                have z := ih (k + 1) (by omega)
                have s1 : (shS (B.pl u) B.S nm sd (k + 1)).1 = lcG x := by rw [hx]; rfl
                have s2 : (shS (B.pl u) B.S nm sd (k + 1)).2.1 = if lostF (B.pl u) B.S c = 0 then (shS (B.pl u) B.S nm sd k).2.1 + 1 else (shS (B.pl u) B.S nm sd k).2.1 := by rw [hc, hx]; rfl
                have s3 : ∀ i, (shS (B.pl u) B.S nm sd (k + 1)).2.2 i = if lostF (B.pl u) B.S c = 0 ∧ i = c then (shS (B.pl u) B.S nm sd k).2.2 i + 1 else (shS (B.pl u) B.S nm sd k).2.2 i := fun i => by rw [hc, hx]; rfl
                rw [s1, s2] at z
                refine ps_iload rfl rfl ?_
                refine ps_iload rfl rfl ?_
                refine ps_icmpf rfl (decide_eq_false (nI_ge (by omega) (by omega))) ?_
                refine pw_c rfl ?_
                refine ps_lload rfl rfl ?_
                refine ps_ar rfl rfl rfl rfl rfl ?_
                refine pw_c rfl ?_
                refine ps_lrem rfl (by decide) ?_
                show pm_W _ _ _ _ [.long (lcG x)] _ _ _
                refine ps_lstore rfl rfl ?_
                refine ps_aload rfl rfl ?_
                refine ps_lload rfl rfl ?_
                refine ps_iload rfl rfl ?_
                refine ps_ar rfl rfl rfl rfl rfl ?_
                refine ps_lrem rfl (t64_nz np) ?_
                rw [← r1]
                refine pw_k rfl rfl rfl rfl ⟨Nat.zero_le _, Nat.zero_le _⟩ ?_
                refine M_cellOfX V' wh' (fun i => (wbd i).1) r2 (by rw [← t1]; exact r3) ?_
                show pm_W _ _ _ _ [.int (nI (shP (B.pl u) B.S nm x))] _ _ _
                rw [← hc]
                have end_ : ∀ (v : Int32) (I5 : Nat → Nat → Int32), (∀ a j, ¬ a = 301 → I5 a j = I2 a j) → (∀ j, j < (B.pl u).w * (B.pl u).v → I5 301 j = (shS (B.pl u) B.S nm sd (k + 1)).2.2 j) → (if lostF (B.pl u) B.S c = 0 then (shS (B.pl u) B.S nm sd k).2.1 + 1 else (shS (B.pl u) B.S nm sd k).2.1) = (shS (B.pl u) B.S nm sd k).2.1 + v → pm_W (g_P ys) 272 204 [.ref 275, .int (nI n0), .int sd, .int w, .int nm, .long (lcG x), .retAddr 0, .int (shS (B.pl u) B.S nm sd k).2.1, .int (nI k), .int (nI c)] [.int v, .int (shS (B.pl u) B.S nm sd k).2.1] (I5, L, g_R s, 306) (0, 0) Q := by
                  intro v I5 h1 h2 hv
                  rw [hv] at z
                  refine ps_ar rfl rfl rfl rfl rfl ?_
                  refine ps_istore rfl rfl ?_
                  refine ps_iinc rfl rfl ?_
                  refine ps_goto rfl ?_
                  rw [show nI k + Int32.ofInt 1 = nI (k + 1) from nI_1 k]
                  exact z I5 _ h1 h2
                refine ps_istore rfl rfl ?_
                refine ps_aload rfl rfl ?_
                refine ps_gfr 11 37 rfl rfl rfl rfl rfl (rfl) ?_
                refine ps_iload rfl rfl ?_
                refine ps_ar rfl rfl rfl rfl rfl ?_
                refine ps_iald (c) rfl rfl rfl (rfl) (by omega) ?_
                rw [show ((I', L, g_R s, 306) : pm_H).1 301 c = (shS (B.pl u) B.S nm sd k).2.2 c from g2 c cl]
                refine ps_aload rfl rfl ?_
                refine ps_gfr 11 27 rfl rfl rfl rfl rfl (rfl) ?_
                refine ps_iload rfl rfl ?_
                refine ps_bald (c) rfl rfl (Or.inr rfl) rfl (rfl) (by omega) ?_
                rw [show ((I', L, g_R s, 306) : pm_H).1 295 c = lostF (B.pl u) B.S c from lo']
                rcases lost_01 (P := B.pl u) (S := B.S) c with l0 | l1
                · rw [l0]
                  refine ps_ift rfl (by decide) ?_
                  refine pw_c rfl ?_
                  refine ps_ar rfl rfl rfl rfl rfl ?_
                  refine ps_iast (c) rfl rfl rfl (rfl) (by omega) ?_
                  refine ps_iload rfl rfl ?_
                  refine ps_aload rfl rfl ?_
                  refine ps_gfr 11 27 rfl rfl rfl rfl rfl (rfl) ?_
                  refine ps_iload rfl rfl ?_
                  refine ps_bald (c) rfl rfl (Or.inr rfl) rfl (rfl) (by omega) ?_
                  rw [show (((pm_u I' 301 c ((shS (B.pl u) B.S nm sd k).2.2 c + 1)), L, g_R s, 306) : pm_H).1 295 c = 0 from (show (pm_u I' 301 c ((shS (B.pl u) B.S nm sd k).2.2 c + 1)) 295 c = 0 from (pu_o (by decide)).trans (lo'.trans l0))]
                  refine ps_ift rfl (by decide) ?_
                  refine pw_c rfl ?_
                  refine end_ 1 _ (fun a j z => (pu_o z).trans (g1 a j z)) (fun j hj => ?_) (by rw [if_pos l0])
                  rw [s3 j]
                  by_cases e1 : j = c
                  · rw [e1, pu_s, if_pos ⟨l0, rfl⟩]
                  · rw [pu_n e1, if_neg (fun z => e1 z.2)]
                    exact g2 j hj
                · have nl : ¬ lostF (B.pl u) B.S c = 0 := by rw [l1]; decide
                  rw [l1]
                  refine ps_iff rfl (by decide) ?_
                  refine pw_c rfl ?_
                  refine ps_goto rfl ?_
                  refine ps_ar rfl rfl rfl rfl rfl ?_
                  refine ps_iast (c) rfl rfl rfl (rfl) (by omega) ?_
                  refine ps_iload rfl rfl ?_
                  refine ps_aload rfl rfl ?_
                  refine ps_gfr 11 27 rfl rfl rfl rfl rfl (rfl) ?_
                  refine ps_iload rfl rfl ?_
                  refine ps_bald (c) rfl rfl (Or.inr rfl) rfl (rfl) (by omega) ?_
                  rw [show (((pm_u I' 301 c ((shS (B.pl u) B.S nm sd k).2.2 c + 0)), L, g_R s, 306) : pm_H).1 295 c = 1 from (show (pm_u I' 301 c ((shS (B.pl u) B.S nm sd k).2.2 c + 0)) 295 c = 1 from (pu_o (by decide)).trans (lo'.trans l1))]
                  refine ps_iff rfl (by decide) ?_
                  refine pw_c rfl ?_
                  refine ps_goto rfl ?_
                  refine end_ 0 _ (fun a j z => (pu_o z).trans (g1 a j z)) (fun j hj => ?_) (by rw [if_neg nl, Int32.add_zero])
                  rw [s3 j, if_neg (fun z => nl z.1)]
                  by_cases e1 : j = c
                  · rw [e1, pu_s, Int32.add_zero]
                  · rw [pu_n e1]
                    exact g2 j hj
            refine ps_iload rfl rfl ?_
            refine ps_ar rfl rfl rfl rfl rfl ?_
            refine ps_lstore rfl rfl ?_
            refine pw_c rfl ?_
            refine ps_istore rfl rfl ?_
            refine pw_c rfl ?_
            refine ps_istore rfl rfl ?_
            exact main n0 0 (by omega) I' _ g1 (fun j hj => (g2 j (by omega)).trans rfl)
          | succ d ih =>
            intro c hc I' g1 g2
            refine ps_iload rfl rfl ?_
            refine pw_c rfl ?_
            refine ps_icmpf rfl (decide_eq_false (nI_ge (b := 289) (by omega) (by omega))) ?_
            refine ps_aload rfl rfl ?_
            refine ps_gfr 11 37 rfl rfl rfl rfl rfl (rfl) ?_
            refine ps_iload rfl rfl ?_
            refine pw_c rfl ?_
            refine ps_iast (c) rfl rfl rfl (rfl) (by omega) ?_
            refine ps_iinc rfl rfl ?_
            refine ps_goto rfl ?_
            rw [show nI c + Int32.ofInt 1 = nI (c + 1) from nI_1 c]
            exact ih (c + 1) (by omega) _ (fun a j z => (pu_o z).trans (g1 a j z)) (row_t (k := c) (G := fun _ => 0) g2 rfl)
        refine ps_istore rfl rfl ?_
        refine ps_iload rfl rfl ?_
        refine ps_ift rfl (decide_eq_true z0) ?_
        refine pw_c rfl ?_
        refine ps_istore rfl rfl ?_
        exact clr 289 0 (by omega) I2 (fun _ _ _ => rfl) (fun j hj => absurd hj (by omega))
  refine ps_aload rfl rfl ?_
  refine ps_iload rfl rfl ?_
  refine ps_ar rfl rfl rfl rfl rfl ?_
  refine pw_c rfl ?_
  refine pw_c rfl ?_
  refine pw_k rfl rfl rfl rfl ⟨Nat.zero_le _, Nat.zero_le _⟩ ?_
  refine M_isIn ?_
  rw [isIn_k n 1 500 1 500 rfl rfl]
  by_cases h1 : 1 ≤ n.toInt ∧ n.toInt ≤ 500
  · rw [decide_eq_true h1]
    refine ps_iff rfl (by decide) ?_
    refine ps_iload rfl rfl ?_
    refine ps_ar rfl rfl rfl rfl rfl ?_
    refine pw_c rfl ?_
    refine pw_c rfl ?_
    refine pw_k rfl rfl rfl rfl ⟨Nat.zero_le _, Nat.zero_le _⟩ ?_
    refine M_isIn ?_
    rw [isIn_k sd 1 65536 1 65536 rfl rfl]
    by_cases h2 : 1 ≤ sd.toInt ∧ sd.toInt ≤ 65536
    · rw [decide_eq_true h2]
      refine ps_iff rfl (by decide) ?_
      refine ps_iload rfl rfl ?_
      refine ps_ar rfl rfl rfl rfl rfl ?_
      refine pw_c rfl ?_
      refine pw_c rfl ?_
      refine pw_k rfl rfl rfl rfl ⟨Nat.zero_le _, Nat.zero_le _⟩ ?_
      refine M_isIn ?_
      rw [isIn_k w 0 3 0 3 rfl rfl]
      by_cases h3 : 0 ≤ w.toInt ∧ w.toInt ≤ 3
      · rw [decide_eq_true h3]
        refine ps_ift rfl (by decide) ?_
        exact yes ⟨h1, h2, h3⟩
      · rw [decide_eq_false h3]
        refine ps_iff rfl (by decide) ?_
        exact no (fun z => h3 z.2.2)
    · rw [decide_eq_false h2]
      refine ps_ift rfl (by decide) ?_
      exact no (fun z => h2 z.2.1)
  · rw [decide_eq_false h1]
    refine ps_ift rfl (by decide) ?_
    exact no (fun z => h1 z.1)
theorem M_worst9 (hm : mFF B I) (ok : B.ok) (ku : okU B.S B.ps) (w : Int32) (kk : ∀ r I', r = exv (qWorst B w) → mQg I I' → mFF B I' → Q [.int r] (I', L, g_R s, 306)) : pm_W (g_P ys) 275 0 [.ref 275, .int w, .retAddr 0, .retAddr 0, .retAddr 0, .retAddr 0, .retAddr 0] [] (I, L, g_R s, 306) (0, 0) Q := by
  have e0 : (0 : Int32).toInt = 0 := rfl
  have em1 : (-1 : Int32).toInt = -1 := by decide
  have p6 := ok.1
  have fin : ∀ I1 e, mQg I I1 → mFF B I1 → ¬ e = 0 → qWorst B w = .error e → pm_W (g_P ys) 275 46 [.ref 275, .int w, .retAddr 0, .retAddr 0, .retAddr 0, .retAddr 0, .retAddr 0] [.int e, .ref 275] (I1, L, g_R s, 306) (0, 0) Q := by
    intro I1 e q1 m1 he ea
    refine pw_k rfl rfl rfl rfl ⟨Nat.zero_le _, Nat.zero_le _⟩ ?_
    refine M_is ?_
    rw [decide_eq_false he]
    refine ps_iff rfl (by decide) ?_
    refine pw_c rfl ?_
    refine ps_iret rfl rfl ?_
    exact kk _ _ (by rw [ea]; rfl) (mQg_t q1 mQg_s) (mFF_st m1 ok)
  refine ps_aload rfl rfl ?_
  refine ps_iload rfl rfl ?_
  refine ps_ar rfl rfl rfl rfl rfl ?_
  refine pw_c rfl ?_
  refine pw_c rfl ?_
  refine pw_k rfl rfl rfl rfl ⟨Nat.zero_le _, Nat.zero_le _⟩ ?_
  refine M_isIn ?_
  rw [isIn_k w 0 2 0 2 rfl rfl]
  by_cases hw : 0 ≤ w.toInt ∧ w.toInt ≤ 2
  · rw [decide_eq_true hw]
    refine ps_ift rfl (by decide) ?_
    refine ps_aload rfl rfl ?_
    refine ps_gfi 11 14 rfl rfl rfl rfl rfl ?_
    rw [show ((I, L, g_R s, 306) : pm_H).1 275 14 = nI B.ps from hm.1.1]
    by_cases hp : B.ps = 0
    · rw [hp]
      refine ps_iff rfl (by decide) ?_
      refine pw_c rfl ?_
      refine ps_goto rfl ?_
      exact fin I 2 mQg_r hm (by decide) (by unfold qWorst; rw [if_neg (fun z => z hw), plU_n hp])
    · obtain ⟨u, hu, eu⟩ := ps_u ku hp
      have ea : qWorst B w = if ¬ crP (B.pl u) then .error 5 else if (wrS (B.pl u) B.S ((B.pl u).w * (B.pl u).v)).1 = -1 then .error 5 else .ok (if w = 2 then (wrS (B.pl u) B.S ((B.pl u).w * (B.pl u).v)).2 else xyF (B.pl u) (wrS (B.pl u) B.S ((B.pl u).w * (B.pl u).v)).1.toInt.toNat w) := by
        unfold qWorst
        rw [if_neg (fun z => z hw), plU_s hu eu p6]
      refine ps_ift rfl (decide_eq_true (nI_nz (by omega) (by omega))) ?_
      refine ps_aload rfl rfl ?_
      refine ps_aload rfl rfl ?_
      refine ps_gfr 11 16 rfl rfl rfl rfl rfl (rfl) ?_
      refine pw_c rfl ?_
      refine ps_iald 4 rfl rfl rfl rfl (by omega) ?_
      rw [show ((I, L, g_R s, 306) : pm_H).1 288 4 = nI u from mFF_u hm eu]
      refine pw_k rfl rfl rfl rfl ⟨Nat.zero_le _, Nat.zero_le _⟩ ?_
      refine M_canRestoreX (mFF_P1 hm ok hu) (hm.2.2.1 u hu) (fun I1 g1 s1 k1 => ?_)
      have m1 := mFF_sg hm ok hu g1 s1
      have q1 : mQg I I1 := mQg_sg g1
      by_cases cr : crP (B.pl u)
      · rw [if_neg (fun z => z cr)] at ea
        rw [decide_eq_true cr]
        refine ps_iff rfl (by decide) ?_
        refine pw_c rfl ?_
        refine ps_goto rfl ?_
        clear fin
        have hm := mFF_st (e := 0) m1 ok
        have q3 : mQg I (stI I1 0) := mQg_t q1 mQg_s
        have k3 : mSk (stI I1 0) u (B.pl u) := mSk_o (k1 cr) (fun a j z => stI_o (by omega))
        refine pw_k rfl rfl rfl rfl ⟨Nat.zero_le _, Nat.zero_le _⟩ ?_
        refine M_is ?_
        refine ps_ift rfl (by decide) ?_
        show pm_W _ _ _ _ _ (stI I1 0, L, g_R s, 306) _ _
        generalize stI I1 0 = J at hm q3 k3 ⊢
        refine ps_aload rfl rfl ?_
        refine ps_aload rfl rfl ?_
        refine ps_gfr 11 16 rfl rfl rfl rfl rfl (rfl) ?_
        refine pw_c rfl ?_
        refine ps_iald (4) rfl rfl rfl (rfl) (by omega) ?_
        rw [show ((J, L, g_R s, 306) : pm_H).1 288 4 = nI u from mFF_u hm eu]
        refine pw_k rfl rfl rfl rfl ⟨Nat.zero_le _, Nat.zero_le _⟩ ?_
        refine M_usesX ?_
        show pm_W _ _ _ _ _ (usI u J, L, g_R s, 306) _ _
        refine ps_aload rfl rfl ?_
        refine pw_k rfl rfl rfl rfl ⟨Nat.zero_le _, Nat.zero_le _⟩ ?_
        refine M_laysShadowsX (M_begU hm ok hu) (fun I2 c2 L2 => ?_)
        have G := mBg_mk hm ok hu c2 L2
        obtain ⟨V, Ld, lo, wh, shd, q4, m4, s4⟩ := G
        obtain ⟨wb, vb, w0, v0, n9⟩ := mV_b V
        have k2 : mSk I2 u (B.pl u) := mSk_o k3 s4
        obtain ⟨P, hPe⟩ : ∃ P, P = B.pl u := ⟨_, rfl⟩
        rw [← hPe] at ea cr V lo wh shd wb vb w0 v0 n9 k2
        have main : ∀ d c, c + d = P.w * P.v → ∀ I' (u5 u6 : Value), (∀ a j, ¬ (a = 297 ∨ a = 295 ∨ a = 298) → I' a j = I2 a j) → (∀ j, j < P.w * P.v → I' 297 j = shadF P B.S j) → (∀ j, j < P.w * P.v → I' 295 j = lostF P B.S j) → pm_W (g_P ys) 275 75 [.ref 275, .int w, .int (wrS P B.S c).1, .int (wrS P B.S c).2, .int (nI c), u5, u6] [] (I', L, g_R s, 306) (0, 0) Q := by
          intro d
          induction d with
          | zero =>
            intro c hc I' u5 u6 g1 g2 g3
            have ec : c = P.w * P.v := by omega
            subst ec
            have V' : mV u P B.S 0 false I' := mV_o V (mCg_r (fun a j z => g1 a j (fun e => z (by unfold mRow; omega))))
            have qq : mQg I I' := mQg_t q3 (mQg_t q4 (fun a j z1 _ => g1 a j (by omega)))
            have mm : mFF B I' := mFF_o m4 ok (fun a j z => g1 a j (by omega))
            refine ps_iload rfl rfl ?_
            refine ps_aload rfl rfl ?_
            refine pw_k rfl rfl rfl rfl ⟨Nat.zero_le _, Nat.zero_le _⟩ ?_
            refine M_cells0X V' ?_
            refine ps_icmpt rfl (decide_eq_true (nI_le (by omega) (by omega))) ?_
            refine ps_iload rfl rfl ?_
            rcases ws_pl P B.S (P.w * P.v) with b | ⟨i, hi, b⟩
            · rw [if_pos b] at ea
              refine ps_iff rfl (decide_eq_false (fun z => by have z := (i_le _ _).mp z; rw [b] at z; omega)) ?_
              refine ps_aload rfl rfl ?_
              refine pw_c rfl ?_
              refine pw_k rfl rfl rfl rfl ⟨Nat.zero_le _, Nat.zero_le _⟩ ?_
              refine M_refuseX 5 ?_
              refine ps_goto rfl ?_
              refine ps_iret rfl rfl ?_
              exact kk _ _ (by rw [ea]; rfl) (mQg_t qq mQg_u) (mFF_su mm ok)
            · obtain ⟨n1, n2⟩ := nI_neg1 (show i < 1000 by omega)
              rw [if_neg (fun z => n1 (b.symm.trans z))] at ea
              have ti : (nI i).toInt.toNat = i := by rw [nI_toInt (by omega)]; omega
              refine ps_ift rfl (decide_eq_true ((i_le _ _).mpr (by rw [b]; omega))) ?_
              refine ps_iload rfl rfl ?_
              have ew : ∀ y : Int32, w.toInt = y.toInt → w = y := fun y q => (i_eq _ _).mpr q
              rcases (show w.toInt = 0 ∨ w.toInt = 1 ∨ w.toInt = 2 by omega) with q | q | q
              · have q := ew 0 q
                subst q
                have ea : qWorst B 0 = .ok (nI ((wrS P B.S (P.w * P.v)).1.toInt.toNat % P.w)) := ea
                rw [b, ti] at ea
                rw [b]
                refine ps_iff rfl (by decide) ?_
                refine ps_iload rfl rfl ?_
                refine ps_aload rfl rfl ?_
                refine pw_k rfl rfl rfl rfl ⟨Nat.zero_le _, Nat.zero_le _⟩ ?_
                refine M_wideX V' ?_
                refine ps_rem rfl (nI_nz w0 (by omega)) ?_
                rw [nI_rem (by omega) w0 (by omega)]
                refine ps_goto rfl ?_
                refine ps_iret rfl rfl ?_
                exact kk _ _ (by rw [ea]; rfl) qq mm
              · have q := ew 1 q
                subst q
                have ea : qWorst B 1 = .ok (nI ((wrS P B.S (P.w * P.v)).1.toInt.toNat / P.w)) := ea
                rw [b, ti] at ea
                rw [b]
                refine ps_ift rfl (by decide) ?_
                refine ps_iload rfl rfl ?_
                refine pw_c rfl ?_
                refine ps_icmpf rfl (by decide) ?_
                refine ps_iload rfl rfl ?_
                refine ps_aload rfl rfl ?_
                refine pw_k rfl rfl rfl rfl ⟨Nat.zero_le _, Nat.zero_le _⟩ ?_
                refine M_wideX V' ?_
                refine ps_div rfl (nI_nz w0 (by omega)) ?_
                rw [nI_div (by omega) (by omega)]
                refine ps_goto rfl ?_
                refine ps_iret rfl rfl ?_
                exact kk _ _ (by rw [ea]; rfl) qq mm
              · have q := ew 2 q
                subst q
                refine ps_ift rfl (by decide) ?_
                refine ps_iload rfl rfl ?_
                refine pw_c rfl ?_
                refine ps_icmpt rfl (by decide) ?_
                refine ps_iload rfl rfl ?_
                refine ps_iret rfl rfl ?_
                exact kk _ _ (by rw [ea]; rfl) qq mm
          | succ d ih =>
            intro c hc I' u5 u6 g1 g2 g3
            have cl : c < P.w * P.v := by omega
            have V' : mV u P B.S 0 false I' := mV_o V (mCg_r (fun a j z => g1 a j (fun e => z (by unfold mRow; omega))))
            have z := ih (c + 1) (by omega)
            rw [wrS] at z
            refine ps_iload rfl rfl ?_
            refine ps_aload rfl rfl ?_
            refine pw_k rfl rfl rfl rfl ⟨Nat.zero_le _, Nat.zero_le _⟩ ?_
            refine M_cells0X V' ?_
            refine ps_icmpf rfl (decide_eq_false (nI_ge (by omega) (by omega))) ?_
            refine ps_aload rfl rfl ?_
            refine ps_gfr 11 27 rfl rfl rfl rfl rfl (rfl) ?_
            refine ps_iload rfl rfl ?_
            refine ps_bald (c) rfl rfl (Or.inr rfl) rfl (rfl) (by omega) ?_
            rw [show ((I', L, g_R s, 306) : pm_H).1 295 c = lostF P B.S c from g3 c cl]
            rcases lost_01 (P := P) (S := B.S) c with l0 | l1
            · rw [if_pos l0] at z
              rw [l0]
              refine ps_ift rfl (by decide) ?_
              refine ps_aload rfl rfl ?_
              refine ps_gfr 11 29 rfl rfl rfl rfl rfl (rfl) ?_
              refine ps_iload rfl rfl ?_
              refine ps_iald (c) rfl rfl rfl (rfl) (by omega) ?_
              rw [show ((I', L, g_R s, 306) : pm_H).1 297 c = shadF P B.S c from g2 c cl]
              refine ps_istore rfl rfl ?_
              refine ps_aload rfl rfl ?_
              refine ps_gfr 11 29 rfl rfl rfl rfl rfl (rfl) ?_
              refine ps_iload rfl rfl ?_
              refine pw_c rfl ?_
              refine ps_iast (c) rfl rfl rfl (rfl) (by omega) ?_
              refine ps_aload rfl rfl ?_
              refine ps_gfr 11 27 rfl rfl rfl rfl rfl (rfl) ?_
              refine ps_iload rfl rfl ?_
              refine pw_c rfl ?_
              refine ps_zast (c) rfl rfl rfl (rfl) (by omega) ?_
              refine ps_aload rfl rfl ?_
              obtain ⟨X, hX⟩ : ∃ X, X = pm_u (pm_u I' 297 c 0) 295 c 1 := ⟨_, rfl⟩
              show pm_W _ _ _ _ _ (pm_u (pm_u I' 297 c 0) 295 c 1, L, g_R s, 306) _ _
              rw [← hX]
              have xo : ∀ a j, ¬ (a = 297 ∧ j = c) → ¬ (a = 295 ∧ j = c) → X a j = I' a j := fun a j z1 z2 => by
                rw [hX]
                exact (pu_x z2).trans (pu_x z1)
              have xs : X 297 c = 0 := by
                rw [hX]
                exact (pu_o (by decide)).trans pu_s
              have xl : X 295 c = 1 := by
                rw [hX]
                exact pu_s
              have VX : mV u P B.S 0 false X := mV_o V' (mCg_r (fun a j z => xo a j (fun e => z (by unfold mRow; omega)) (fun e => z (by unfold mRow; omega))))
              have kX : mSk X u P := mSk_o k2 (fun a j z => (xo a j (by omega) (by omega)).trans (g1 a j (by omega)))
              refine pw_k rfl rfl rfl rfl ⟨Nat.zero_le _, Nat.zero_le _⟩ ?_
              refine M_errorNowX (f := fun j => if j = c then 0 else shadF P B.S j) (g := fun j => if j = c then 1 else lostF P B.S j) VX cr kX (fun j hj => ?_) (fun j hj => ?_) (fun j => ?_) (fun I3 c3 => ?_)
              · by_cases e1 : j = c
                · rw [if_pos e1, e1]
                  exact xs
                · rw [if_neg e1]
                  exact (xo _ _ (fun q => e1 q.2) (fun q => e1 q.2)).trans (g2 j hj)
              · by_cases e1 : j = c
                · rw [if_pos e1, e1]
                  exact xl
                · rw [if_neg e1]
                  exact (xo _ _ (fun q => e1 q.2) (fun q => e1 q.2)).trans (g3 j hj)
              · show (if j = c then (1 : Int32) else lostF P B.S j) = 0 ∨ (if j = c then (1 : Int32) else lostF P B.S j) = 1
                by_cases e1 : j = c
                · rw [if_pos e1]
                  exact Or.inr rfl
                · rw [if_neg e1]
                  exact lost_01 j
              rw [ws_er cl l0]
              refine ps_istore rfl rfl ?_
              refine ps_aload rfl rfl ?_
              refine ps_gfr 11 29 rfl rfl rfl rfl rfl (rfl) ?_
              refine ps_iload rfl rfl ?_
              refine ps_iload rfl rfl ?_
              refine ps_iast (c) rfl rfl rfl (rfl) (by omega) ?_
              refine ps_aload rfl rfl ?_
              refine ps_gfr 11 27 rfl rfl rfl rfl rfl (rfl) ?_
              refine ps_iload rfl rfl ?_
              refine pw_c rfl ?_
              refine ps_zast (c) rfl rfl rfl (rfl) (by omega) ?_
              obtain ⟨Y, hY⟩ : ∃ Y, Y = pm_u (pm_u I3 297 c (shadF P B.S c)) 295 c 0 := ⟨_, rfl⟩
              show pm_W _ _ _ _ _ (pm_u (pm_u I3 297 c (shadF P B.S c)) 295 c 0, L, g_R s, 306) _ _
              rw [← hY]
              have yo : ∀ a j, ¬ (a = 297 ∧ j = c) → ¬ (a = 295 ∧ j = c) → Y a j = I3 a j := fun a j z1 z2 => by
                rw [hY]
                exact (pu_x z2).trans (pu_x z1)
              have y1 : ∀ a j, ¬ (a = 297 ∨ a = 295 ∨ a = 298) → Y a j = I2 a j := fun a j z => (yo a j (by omega) (by omega)).trans ((c3 a j (by omega)).trans ((xo a j (by omega) (by omega)).trans (g1 a j z)))
              have y2 : ∀ j, j < P.w * P.v → Y 297 j = shadF P B.S j := fun j hj => by
                by_cases e1 : j = c
                · rw [e1, hY]
                  exact (pu_o (by decide)).trans pu_s
                · exact (yo _ _ (fun q => e1 q.2) (fun q => e1 q.2)).trans ((c3 _ _ (by decide)).trans ((xo _ _ (fun q => e1 q.2) (fun q => e1 q.2)).trans (g2 j hj)))
              have y3 : ∀ j, j < P.w * P.v → Y 295 j = lostF P B.S j := fun j hj => by
                by_cases e1 : j = c
                · rw [e1, hY, l0]
                  exact pu_s
                · exact (yo _ _ (fun q => e1 q.2) (fun q => e1 q.2)).trans ((c3 _ _ (by decide)).trans ((xo _ _ (fun q => e1 q.2) (fun q => e1 q.2)).trans (g3 j hj)))
              have set : (wrS P B.S c).1 = -1 ∨ (wrS P B.S c).2 < wsE P B.S c → pm_W (g_P ys) 275 158 [.ref 275, .int w, .int (wrS P B.S c).1, .int (wrS P B.S c).2, .int (nI c), .int (shadF P B.S c), .int (wsE P B.S c)] [] (Y, L, g_R s, 306) (0, 0) Q := by
                intro q
                rw [if_pos q] at z
                refine ps_iload rfl rfl ?_
                refine ps_istore rfl rfl ?_
                refine ps_iload rfl rfl ?_
                refine ps_istore rfl rfl ?_
                refine ps_iinc rfl rfl ?_
                refine ps_goto rfl ?_
                rw [show nI c + Int32.ofInt 1 = nI (c + 1) from nI_1 c]
                exact z Y _ _ y1 y2 y3
              rcases ws_pl P B.S c with b | ⟨i, hi, b⟩
              · refine ps_iload rfl rfl ?_
                refine ps_ift rfl (decide_eq_true ((i_lt _ _).mpr (by rw [b]; omega))) ?_
                exact set (Or.inl b)
              · obtain ⟨n1, n2⟩ := nI_neg1 (show i < 1000 by omega)
                by_cases q : (wrS P B.S c).2 < wsE P B.S c
                · refine ps_iload rfl rfl ?_
                  refine ps_iff rfl (decide_eq_false (fun y => n2 (by have y := (i_lt _ _).mp y; rw [b] at y; exact y))) ?_
                  refine ps_iload rfl rfl ?_
                  refine ps_iload rfl rfl ?_
                  refine ps_icmpt rfl (decide_eq_true q) ?_
                  exact set (Or.inr q)
                · rw [if_neg (fun y => y.elim (fun y => n1 (b.symm.trans y)) q)] at z
                  refine ps_iload rfl rfl ?_
                  refine ps_iff rfl (decide_eq_false (fun y => n2 (by have y := (i_lt _ _).mp y; rw [b] at y; exact y))) ?_
                  refine ps_iload rfl rfl ?_
                  refine ps_iload rfl rfl ?_
                  refine ps_icmpf rfl (decide_eq_false q) ?_
                  refine ps_goto rfl ?_
                  refine ps_iinc rfl rfl ?_
                  refine ps_goto rfl ?_
                  rw [show nI c + Int32.ofInt 1 = nI (c + 1) from nI_1 c]
                  exact z Y _ _ y1 y2 y3
            · rw [if_neg (by rw [l1]; decide)] at z
              rw [l1]
              refine ps_iff rfl (by decide) ?_
              refine ps_goto rfl ?_
              refine ps_iinc rfl rfl ?_
              refine ps_goto rfl ?_
              rw [show nI c + Int32.ofInt 1 = nI (c + 1) from nI_1 c]
              exact z I' _ _ g1 g2 g3
        refine pw_c rfl ?_
        refine ps_istore rfl rfl ?_
        refine pw_c rfl ?_
        refine ps_istore rfl rfl ?_
        refine pw_c rfl ?_
        refine ps_istore rfl rfl ?_
        exact main (P.w * P.v) 0 (by omega) I2 _ _ (fun _ _ _ => rfl) shd lo
      · rw [if_pos cr] at ea
        rw [decide_eq_false cr]
        refine ps_ift rfl (by decide) ?_
        refine pw_c rfl ?_
        exact fin I1 5 q1 m1 (by decide) ea
  · rw [decide_eq_false hw]
    refine ps_iff rfl (by decide) ?_
    refine pw_c rfl ?_
    refine ps_goto rfl ?_
    exact fin I 1 mQg_r hm (by decide) (by unfold qWorst; rw [if_pos hw])
end UF
