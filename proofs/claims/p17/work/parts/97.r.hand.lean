/-! BY HAND: what a LINE gives is a bench again -/
section KP
variable {f T : Nat → Int32} {J : Nat → Nat → Int32} {n c t : Nat} {B : sB}
theorem tk_lt (S : stX f T J n c) (h : t ≤ c) (h0 : ¬ J 7 t = 0) : t < c := by
  rcases Nat.lt_or_ge t c with q | q
  · exact q
  · have e : t = c := by omega
    rw [e] at h0
    exact absurd S.1.2.2.2.2.1 h0
theorem xNum_k {lo hi : Int} {v : Int32} (h : xNum J lo hi t = .ok v) : ¬ J 7 t = 0 := by
  unfold xNum at h
  split at h
  · rename_i q
    rw [q]
    decide
  · cases h
theorem xPri_k {hi : Int} {v : Int32} (h : xPri J hi t = .ok v) : ¬ J 7 t = 0 := by
  unfold xPri at h
  split at h
  · rename_i q
    rw [q]
    decide
  · cases h
theorem xNam_k {k : Nat} (h : xNam J B t = .ok k) : ¬ J 7 t = 0 := by
  unfold xNam at h
  split at h
  · rename_i q
    rw [q]
    decide
  · cases h
theorem xNaB_k {k wd : Nat} (h : xNaB J B wd t = .ok k) : ¬ J 7 t = 0 := by
  unfold xNaB at h
  split at h
  · cases h
  · rename_i e
    exact xNam_k e
theorem xPlc_ok {w : Nat} (S : stX f T J n c) : ∀ {d u : Nat} {h h' : Nat → Int32} {u' : Nat}, u ≤ c → (∀ i, h i = 0 ∨ h i = 1) → xPlc J w d u h = .ok (u', h') → u ≤ u' ∧ u' ≤ c ∧ ∀ i, h' i = 0 ∨ h' i = 1
  | 0, u, h, h', u', hu, h01, e => by
    cases e
    exact ⟨Nat.le_refl _, hu, h01⟩
  | d + 1, u, h, h', u', hu, h01, e => by
    rw [xPlc] at e
    split at e
    · rename_i k3
      split at e
      · have := tk_lt S hu (by rw [k3]; decide)
        have z := xPlc_ok S (by omega) (fun i => by
          show (if i = (J 10 u).toInt.toNat then (1 : Int32) else h i) = 0 ∨ (if i = (J 10 u).toInt.toNat then (1 : Int32) else h i) = 1
          split
          · exact Or.inr rfl
          · exact h01 i) e
        exact ⟨by omega, z.2⟩
      · cases e
    · cases e
      exact ⟨Nat.le_refl _, hu, h01⟩
theorem xSet_ok {u w : Nat} {h : Nat → Int32} (S : stX f T J n c) (ht : t ≤ c) (e : xSet J c t = .ok (u, w, h)) : t < u ∧ u ≤ c ∧ 1 ≤ w ∧ w ≤ 47 ∧ ∀ i, h i = 0 ∨ h i = 1 := by
  unfold xSet at e
  split at e
  · cases e
  · rename_i x ex
    have hx := xNum_ok ex
    have hl := tk_lt S ht (xNum_k ex)
    split at e
    · cases e
    · rename_i u1 h1 ep
      cases e
      have z := xPlc_ok S (by omega) (fun _ => Or.inl rfl) ep
      have h1 : (1 : Int) ≤ x.toInt := hx.2.1
      have h2 : x.toInt ≤ (47 : Int) := hx.2.2
      exact ⟨by omega, z.2.1, by omega, by omega, z.2.2⟩
theorem i01 {p : Prop} {d : Decidable p} : (if p then (1 : Int32) else 0) = 0 ∨ (if p then (1 : Int32) else 0) = 1 := by
  split
  · exact Or.inr rfl
  · exact Or.inl rfl
def okP (P : sPl) : Prop := szP P ∧ ∀ i, i < P.w * P.v → P.ho i = 0 ∨ P.ho i = 1
theorem ok_P (ok : B.ok) {k : Nat} (hk : k < B.ps) : okP (B.pl k) := ⟨ok_sz ok hk, (ok.2.1 k hk).2.2.2⟩
theorem tu_lt {w v a b i : Nat} (h1 : 0 < w) (h2 : 0 < v) : tuI w v a b i < w * v := by
  unfold tuI
  have my := Int.emod_lt_of_pos (((i / w : Nat) : Int) - b) (show (0 : Int) < v by omega)
  have my0 := Int.emod_nonneg (((i / w : Nat) : Int) - b) (show ¬ (v : Int) = 0 by omega)
  have mx := Int.emod_lt_of_pos (((i % w : Nat) : Int) - a) (show (0 : Int) < w by omega)
  have mx0 := Int.emod_nonneg (((i % w : Nat) : Int) - a) (show ¬ (w : Int) = 0 by omega)
  obtain ⟨y, hy⟩ : ∃ y, y = ((((i / w : Nat) : Int) - b) % v).toNat := ⟨_, rfl⟩
  obtain ⟨x, hx⟩ : ∃ x, x = ((((i % w : Nat) : Int) - a) % w).toNat := ⟨_, rfl⟩
  rw [← hy, ← hx]
  have h3 : y * w + w ≤ v * w := by
    have := Nat.mul_le_mul_right w (show y + 1 ≤ v by omega)
    rw [Nat.add_mul, Nat.one_mul] at this
    exact this
  rw [Nat.mul_comm w v]
  omega
theorem xFrm_ok {nm : Int32} {u : Nat} {P : sPl} (S : stX f T J n c) (ht : t ≤ c) (ok : B.ok) (h : xFrm f J c B nm t = .ok (u, P)) : t < u ∧ u ≤ c ∧ okP P := by
  unfold xFrm at h
  split at h
  · rename_i h2
    have t1 := tk_lt S ht (by rw [h2]; decide)
    split at h
    · cases e : xPri J 47 (t + 1) with
      | error e' => rw [e] at h; cases h
      | ok a =>
        rw [e] at h
        cases h
        have t2 := tk_lt S (by omega) (xPri_k e)
        obtain ⟨_, a3, a47, _⟩ := xPri_ok e
        refine ⟨by omega, by omega, ⟨?_, ?_, ?_⟩, fun i _ => i01⟩
        · show 0 < a.toInt.toNat
          omega
        · show 0 < 1
          omega
        · show a.toInt.toNat * 1 ≤ 289
          omega
    split at h
    · cases e : xPri J 17 (t + 1) with
      | error e' => rw [e] at h; cases h
      | ok a =>
        rw [e] at h
        cases h
        have t2 := tk_lt S (by omega) (xPri_k e)
        obtain ⟨_, a3, _, a17⟩ := xPri_ok e
        have a17 : a.toInt ≤ (17 : Int) := a17
        have pp : a.toInt.toNat * a.toInt.toNat ≤ 17 * 17 := Nat.mul_le_mul (by omega) (by omega)
        refine ⟨by omega, by omega, ⟨?_, ?_, pp⟩, fun i _ => i01⟩
        · show 0 < a.toInt.toNat
          omega
        · show 0 < a.toInt.toNat
          omega
    split at h
    · split at h
      · rename_i h4
        cases h
        have t2 := tk_lt S (t := t + 1) (by omega) (by rw [h4]; decide)
        obtain ⟨q, k, q1, q2, k1, k40, qn, qb⟩ := tk_bits S t2 h4
        refine ⟨by omega, by omega, ?_⟩
        rw [show (J 10 (t + 1)).toInt.toNat = k by rw [q2, nI_toInt (by omega)]; rfl]
        refine ⟨⟨?_, ?_, ?_⟩, fun i _ => i01⟩
        · show 0 < k
          omega
        · show 0 < 1
          omega
        · show k * 1 ≤ 289
          omega
      · cases h
    split at h
    · cases e : xSet J c (t + 1) with
      | error e' => rw [e] at h; cases h
      | ok a =>
        obtain ⟨u1, w1, h1⟩ := a
        rw [e] at h
        cases h
        obtain ⟨z1, z2, z3, z4, z5⟩ := xSet_ok S (by omega) e
        refine ⟨?_, z2, ⟨?_, ?_, ?_⟩, fun i _ => z5 i⟩
        · show t < u1
          omega
        · show 0 < w1
          omega
        · show 0 < 1
          omega
        · show w1 * 1 ≤ 289
          omega
    split at h
    · cases e : xNam J B (t + 1) with
      | error e' => rw [e] at h; cases h
      | ok a =>
        rw [e] at h
        have h : ((xNum J 0 99 (t + 2)).bind fun x => (xNum J 0 99 (t + 3)).bind fun b => .ok (t + 4, pTurn nm (B.pl a) x.toInt.toNat b.toInt.toNat)) = .ok (u, P) := h
        cases e2 : xNum J 0 99 (t + 2) with
        | error e' => rw [e2] at h; cases h
        | ok a2 =>
          rw [e2] at h
          have h : ((xNum J 0 99 (t + 3)).bind fun b => .ok (t + 4, pTurn nm (B.pl a) a2.toInt.toNat b.toInt.toNat)) = .ok (u, P) := h
          cases e3 : xNum J 0 99 (t + 3) with
          | error e' => rw [e3] at h; cases h
          | ok a3 =>
            rw [e3] at h
            cases h
            have t2 := tk_lt S (by omega) (xNam_k e)
            have t3 := tk_lt S (by omega) (xNum_k e2)
            have t4 := tk_lt S (by omega) (xNum_k e3)
            have ha := xNam_lt e
            exact ⟨by omega, by omega, ok_sz ok ha, fun i _ => (ok_P ok ha).2 _ (tu_lt (ok_sz ok ha).1 (ok_sz ok ha).2.1)⟩
    split at h
    · cases e : xNam J B (t + 1) with
      | error e' => rw [e] at h; cases h
      | ok a =>
        rw [e] at h
        cases h
        have t2 := tk_lt S (by omega) (xNam_k e)
        have ha := xNam_lt e
        exact ⟨by omega, by omega, ok_sz ok ha, fun i _ => i01⟩
    split at h
    · cases e : xNaB J B 1 (t + 1) with
      | error e' => rw [e] at h; cases h
      | ok a =>
        rw [e] at h
        have h : ((xNaB J B (B.pl a).w (t + 2)).bind fun b => .ok (t + 3, pBoth nm (B.pl a) (B.pl b))) = .ok (u, P) := h
        cases e2 : xNaB J B (B.pl a).w (t + 2) with
        | error e' => rw [e2] at h; cases h
        | ok a2 =>
          rw [e2] at h
          cases h
          have t2 := tk_lt S (by omega) (xNaB_k e)
          have t3 := tk_lt S (by omega) (xNaB_k e2)
          have ha := xNaB_ok e
          have hb := xNaB_ok e2
          refine ⟨by omega, by omega, ⟨(ok_sz ok ha.1).1, (ok_sz ok hb.1).1, ?_⟩, fun i _ => i01⟩
          rw [Nat.mul_comm] at hb
          exact hb.2.2
    · cases h
  · cases h
theorem xThr_ok {q u : Nat} {B' : sB} (S : stX f T J n c) (ht : t < c) (hq : q < 3) (ok : B.ok) (h : xThr J B q t = .ok (u, B')) : t < u ∧ u ≤ c ∧ B'.ok := by
  unfold xThr at h
  split at h
  · rename_i lt
    have okT : ∀ x y z, (B.adT q x y z).ok := fun x y z => by
      obtain ⟨o1, o2, o3, o4, o5⟩ := ok
      refine ⟨o1, o2, ?_, ?_, ?_⟩
      · show (if 0 = q then B.n 0 + 1 else B.n 0) ≤ 8
        split
        · rename_i e
          subst e
          exact lt
        · exact o3
      · show (if 1 = q then B.n 1 + 1 else B.n 1) ≤ 12
        split
        · rename_i e
          subst e
          exact lt
        · exact o4
      · show (if 2 = q then B.n 2 + 1 else B.n 2) ≤ 8
        split
        · rename_i e
          subst e
          exact lt
        · exact o5
    unfold xThg at h
    split at h
    · cases h
    · rename_i x ex
      have t1 := tk_lt S (by omega) (xNum_k ex)
      split at h
      · cases h
      · rename_i y ey
        have t2 := tk_lt S (by omega) (xNum_k ey)
        split at h
        · cases h
          exact ⟨by omega, by omega, okT _ _ _⟩
        · split at h
          · cases h
          · rename_i z ez
            have t3 := tk_lt S (by omega) (xNum_k ez)
            cases h
            exact ⟨by omega, by omega, okT _ _ _⟩
  · cases h
theorem adP_ok {P : sPl} (ok : B.ok) (lt : B.ps < 6) (h : okP P) : (B.adP P).ok := by
  obtain ⟨o1, o2, o3⟩ := ok
  refine ⟨show B.ps + 1 ≤ 6 by omega, fun k hk => ?_, o3⟩
  have hk : k < B.ps + 1 := hk
  by_cases e : k = B.ps
  · have eP : (B.adP P).pl k = P := if_pos e
    rw [eP]
    exact ⟨h.1.1, h.1.2.1, h.1.2.2, h.2⟩
  · have eP : (B.adP P).pl k = B.pl k := if_neg e
    rw [eP]
    exact o2 k (by omega)
theorem xLn1_ok {u : Nat} {B' : sB} (S : stX f T J n c) (ht : t < c) (ok : B.ok) (h : xLn1 f J c B t = .ok (u, B')) : t < u ∧ u ≤ c ∧ B'.ok := by
  unfold xLn1 at h
  split at h
  · split at h
    · unfold xPlt at h
      split at h
      · rename_i lt
        split at h
        · rename_i h2
          have t1 := tk_lt S (t := t + 1) (by omega) (by rw [h2.1]; decide)
          split at h
          · cases h
          · cases e : xFrm f J c B (J 10 (t + 1)) (t + 2) with
            | error e' => rw [e] at h; cases h
            | ok a =>
              obtain ⟨u1, P⟩ := a
              rw [e] at h
              cases h
              obtain ⟨z1, z2, z3⟩ := xFrm_ok S (by omega) ok e
              exact ⟨by show t < u1; omega, z2, adP_ok ok lt z3⟩
        · cases h
      · cases h
    split at h
    · exact xThr_ok S ht (by omega) ok h
    split at h
    · exact xThr_ok S ht (by omega) ok h
    split at h
    · exact xThr_ok S ht (by omega) ok h
    split at h
    · cases e : xNum J 0 99 (t + 1) with
      | error e' => rw [e] at h; cases h
      | ok a =>
        rw [e] at h
        cases h
        have t2 := tk_lt S (by omega) (xNum_k e)
        exact ⟨by omega, by omega, ok⟩
    split at h
    · cases e : xNam J B (t + 1) with
      | error e' => rw [e] at h; cases h
      | ok a =>
        rw [e] at h
        cases h
        have t2 := tk_lt S (by omega) (xNam_k e)
        exact ⟨by omega, by omega, ok⟩
    · cases h
  · cases h
theorem xLin_ok {u : Nat} {B' : sB} (S : stX f T J n c) (ht : t < c) (ok : B.ok) (h : xLin f J c B t = .ok (u, B')) : t < u ∧ u ≤ c ∧ B'.ok := by
  unfold xLin at h
  cases e : xLn1 f J c B t with
  | error e' => rw [e] at h; cases h
  | ok a =>
    obtain ⟨u1, B1⟩ := a
    rw [e] at h
    have h : (if J 7 u1 = 5 then .ok (u1 + 1, B1) else .error (eK J u1, u1)) = (.ok (u, B') : sR (Nat × sB)) := h
    obtain ⟨z1, z2, z3⟩ := xLn1_ok S ht ok e
    split at h
    · rename_i h5
      cases h
      have t2 := tk_lt S (t := u1) (by omega) (by rw [h5]; decide)
      exact ⟨by omega, by omega, z3⟩
    · cases h
/-- a whole text, from the token t on -/
def xTxt (f : Nat → Int32) (J : Nat → Nat → Int32) (c : Nat) : Nat → sB → Nat → sR sB
  | 0, B, _ => .ok B
  | d + 1, B, t => if J 7 t = 0 then .ok B else (xLin f J c B t).bind fun p => xTxt f J c d p.2 p.1
def B0 : sB := (0, fun _ => (0, 1, 1, fun _ => 0, fun _ => 0), fun _ => 0, fun _ _ _ => 0, 0, 0)
theorem B0_ok : B0.ok := ⟨Nat.zero_le _, fun k hk => absurd hk (by show ¬ k < 0; omega), Nat.zero_le _, Nat.zero_le _, Nat.zero_le _⟩
theorem xTxt_ok (S : stX f T J n c) : ∀ {d : Nat} {B B' : sB} {t : Nat}, t ≤ c → B.ok → xTxt f J c d B t = .ok B' → B'.ok
  | 0, B, B', t, _, ok, e => by
    cases e
    exact ok
  | d + 1, B, B', t, ht, ok, e => by
    rw [xTxt] at e
    split at e
    · cases e
      exact ok
    · rename_i h0
      cases el : xLin f J c B t with
      | error e' => rw [el] at e; cases e
      | ok a =>
        obtain ⟨u, B1⟩ := a
        rw [el] at e
        obtain ⟨z1, z2, z3⟩ := xLin_ok S (tk_lt S ht h0) ok el
        exact xTxt_ok S z2 z3 e
end KP
