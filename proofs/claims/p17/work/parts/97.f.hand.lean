/-! BY HAND: what a text says; the model's small steps through it, exactly -/
section KD
abbrev sPl : Type := Int32 × Nat × Nat × (Nat → Int32) × (Nat → Int32)
def sPl.nm (P : sPl) : Int32 := P.1
def sPl.w (P : sPl) : Nat := P.2.1
def sPl.v (P : sPl) : Nat := P.2.2.1
def sPl.ho (P : sPl) : Nat → Int32 := P.2.2.2.1
def sPl.we (P : sPl) : Nat → Int32 := P.2.2.2.2
/-- a bench: PLATES, things, back, used -/
abbrev sB : Type := Nat × (Nat → sPl) × (Nat → Nat) × (Nat → Nat → Nat → Int32) × Int32 × Int32
def sB.ps (B : sB) : Nat := B.1
def sB.pl (B : sB) : Nat → sPl := B.2.1
def sB.n (B : sB) : Nat → Nat := B.2.2.1
def sB.sc (B : sB) : Nat → Nat → Nat → Int32 := B.2.2.2.1
def sB.bk (B : sB) : Int32 := B.2.2.2.2.1
def sB.us (B : sB) : Int32 := B.2.2.2.2.2
/-- a FAULT's number and its token; or what was read -/
abbrev sR (α : Type) := Except (Int32 × Nat) α
def eK (J : Nat → Nat → Int32) (t : Nat) : Int32 := if J 7 t = 1 then 1 else 2
def xKin (J : Nat → Nat → Int32) (k : Int32) (t : Nat) : sR Unit := if J 7 t = k then .ok () else .error (eK J t, t)
def xNum (J : Nat → Nat → Int32) (lo hi : Int) (t : Nat) : sR Int32 := if J 7 t = 3 then (if lo ≤ (J 10 t).toInt ∧ (J 10 t).toInt ≤ hi then .ok (J 10 t) else .error (3, t)) else .error (eK J t, t)
def xPri (J : Nat → Nat → Int32) (hi : Int) (t : Nat) : sR Int32 := if J 7 t = 3 then (if (J 10 t).toInt ≤ hi ∧ 3 ≤ (J 10 t).toInt ∧ (J 10 t).toInt ≤ 47 ∧ prB (J 10 t).toInt.toNat = true then .ok (J 10 t) else .error (3, t)) else .error (eK J t, t)
def fnN (nm : Nat → Int32) (x : Int32) : Nat → Nat → Option Nat
  | 0, _ => none
  | d + 1, i => if nm i = x then some i else fnN nm x d (i + 1)
def oI : Option Nat → Int32
  | none => -1
  | some k => nI k
def xNam (J : Nat → Nat → Int32) (B : sB) (t : Nat) : sR Nat := if J 7 t = 2 then (if kwF (J 10 t) = -1 then (match fnN (fun k => (B.pl k).nm) (J 10 t) B.ps 0 with | none => .error (4, t) | some k => .ok k) else .error (2, t)) else .error (eK J t, t)
def xNaB (J : Nat → Nat → Int32) (B : sB) (wd : Nat) (t : Nat) : sR Nat := match xNam J B t with
  | .error e => .error e
  | .ok k => if (B.pl k).v = 1 ∧ (B.pl k).w * wd ≤ 289 then .ok k else .error (5, t)
theorem fnN_lt {nm : Nat → Int32} {x : Int32} : ∀ {d i k : Nat}, fnN nm x d i = some k → i ≤ k ∧ k < i + d ∧ nm k = x
  | 0, i, k, h => by cases h
  | d + 1, i, k, h => by
    rw [fnN] at h
    split at h
    · cases h
      exact ⟨by omega, by omega, by assumption⟩
    · have := fnN_lt h
      exact ⟨by omega, by omega, this.2.2⟩
def sB.ok (B : sB) : Prop := B.ps ≤ 6 ∧ (∀ k, k < B.ps → 0 < (B.pl k).w ∧ 0 < (B.pl k).v ∧ (B.pl k).w * (B.pl k).v ≤ 289 ∧ ∀ i, i < (B.pl k).w * (B.pl k).v → (B.pl k).ho i = 0 ∨ (B.pl k).ho i = 1) ∧ B.n 0 ≤ 8 ∧ B.n 1 ≤ 12 ∧ B.n 2 ≤ 8
/-- where the model's things of a kind lie -/
def rwK (q : Nat) : Nat := ([5, 29, 65] : List Nat).getD q 0
/-- the model's new rows tell B -/
def mBn (B : sB) (I : Nat → Nat → Int32) (L : Nat → Nat → Int64) : Prop :=
  I 275 15 = nI B.ps ∧
  (∀ k, k < B.ps → I 279 (7 * k) = nI (B.pl k).w ∧ I 279 (7 * k + 1) = nI (B.pl k).v ∧ nmR (B.pl k).nm (L 287 k) ∧ ∀ i, i < (B.pl k).w * (B.pl k).v → I 281 (289 * k + i) = (B.pl k).ho i ∧ I 283 (289 * k + i) = (B.pl k).we i) ∧
  (∀ q, q < 3 → I 289 q = nI (B.n q)) ∧ I 289 3 = B.bk ∧ I 289 4 = B.us ∧
  (∀ q, q < 3 → ∀ k, k < B.n q → ∀ j, j < 3 → I 289 (rwK q + 3 * k + j) = B.sc q k j)
/-- the model reads on, at the token t -/
def mC (J : Nat → Nat → Int32) (T : Nat → Int32) (c n t : Nat) (I : Nat → Nat → Int32) (L : Nat → Nat → Int64) : Prop :=
  I 275 46 = 0 ∧ I 275 52 = nI n ∧ I 303 = T ∧ (0 ≤ (I 275 51).toInt ∧ (I 275 51).toInt ≤ 9999) ∧ (0 ≤ (I 275 53).toInt ∧ (I 275 53).toInt ≤ 800) ∧ (∀ j, j < 13 → L 304 j = wC j) ∧ cuR J T c n t I L
def stX (f : Nat → Int32) (T : Nat → Int32) (J : Nat → Nat → Int32) (n c : Nat) : Prop := tkT f J n c ∧ tpE f T n ∧ n ≤ 800
/-- wrong, from here on -/
def bdI (I : Nat → Nat → Int32) (k p : Int32) : Nat → Nat → Int32 := pm_u (pm_u I 275 46 k) 275 47 p
theorem le64 (x y : Int32) : x.toInt64 ≤ y.toInt64 ↔ x.toInt ≤ y.toInt := by rw [Int64.le_iff_toInt_le, Int32.toInt_toInt64, Int32.toInt_toInt64]
variable {f T : Nat → Int32} {J I I' : Nat → Nat → Int32} {L L' : Nat → Nat → Int64} {n c t : Nat} {s : Nat → Option Nat} {Q : List Value → pm_H → Prop} {ys : List Int32} {B : sB}
theorem st_k (S : stX f T J n c) (ht : t ≤ c) : 0 ≤ (J 7 t).toInt ∧ (J 7 t).toInt ≤ 5 := by
  obtain ⟨⟨h1, h2, h3, h4, h5, h6, h7, h8⟩, _, hn⟩ := S
  by_cases q : t = c
  · rw [q, h5]
    decide
  · obtain ⟨q0, e, d1, d2, d3, d4, d5, d6, d7, d8, d9⟩ := h1 t (by omega)
    exact (tokR_k d9 d7 d8 hn).1
theorem k_cases {x : Int32} (h : 0 ≤ x.toInt ∧ x.toInt ≤ 5) : x = 0 ∨ x = 1 ∨ x = 2 ∨ x = 3 ∨ x = 4 ∨ x = 5 := by
  have e : ∀ y : Int32, x.toInt = y.toInt → x = y := fun y q => (i_eq _ _).mpr q
  rcases (show x.toInt = 0 ∨ x.toInt = 1 ∨ x.toInt = 2 ∨ x.toInt = 3 ∨ x.toInt = 4 ∨ x.toInt = 5 by omega) with q | q | q | q | q | q
  · exact Or.inl (e 0 q)
  · exact Or.inr (Or.inl (e 1 q))
  · exact Or.inr (Or.inr (Or.inl (e 2 q)))
  · exact Or.inr (Or.inr (Or.inr (Or.inl (e 3 q))))
  · exact Or.inr (Or.inr (Or.inr (Or.inr (Or.inl (e 4 q)))))
  · exact Or.inr (Or.inr (Or.inr (Or.inr (Or.inr (e 5 q)))))
/-- the model's sort of the token t -/
theorem cu_so (S : stX f T J n c) (m : mC J T c n t I L) : t ≤ c ∧ (I 275 50 = 0 ↔ J 7 t = 0) ∧ (I 275 50 = 1 ↔ J 7 t = 2) ∧ (I 275 50 = 2 ↔ J 7 t = 3) ∧ (I 275 50 = 3 ↔ J 7 t = 5) ∧ (I 275 50 = 4 ↔ J 7 t = 4) ∧ (I 275 50 = 5 ↔ J 7 t = 1) := by
  obtain ⟨_, _, _, _, _, _, m1, m2⟩ := m
  rcases m2 with ⟨r1, r2, r3⟩ | ⟨r1, r2, r3, r4, r5, r6, r7, r8⟩
  · subst r1
    rw [r2, S.1.2.2.2.2.1]
    exact ⟨Nat.le_refl _, by decide, by decide, by decide, by decide, by decide, by decide⟩
  · have k := st_k S (t := t) (by omega)
    rw [r4]
    refine ⟨by omega, ?_⟩
    rcases k_cases k with e | e | e | e | e | e
    · exact absurd e r5
    all_goals rw [e]; decide
theorem cu_lt (S : stX f T J n c) (m : mC J T c n t I L) (h : ¬ J 7 t = 0) : t < c := by
  obtain ⟨_, _, _, _, _, _, m1, m2⟩ := m
  rcases m2 with ⟨r1, r2, r3⟩ | ⟨r1, _⟩
  · subst r1
    exact absurd S.1.2.2.2.2.1 h
  · exact r1
theorem dAg_n (h : dAg I I') {a j : Nat} (ha : ¬ a = 275) : I' a j = I a j := h a j (fun q => ha q.1)
theorem lA_n (h : lA L L') {a j : Nat} (ha : ¬ a = 275) : L' a j = L a j := h a j (fun q => ha q.1)
theorem mBn_d (b : mBn B I L) (h : dAg I I') (l : lA L L') : mBn B I' L' := by
  obtain ⟨b1, b2, b3, b4, b5, b6⟩ := b
  refine ⟨(h _ _ (by decide)).trans b1, fun k hk => ?_, fun q hq => (dAg_n h (by decide)).trans (b3 q hq), (dAg_n h (by decide)).trans b4, (dAg_n h (by decide)).trans b5, fun q hq k hk j hj => (dAg_n h (by decide)).trans (b6 q hq k hk j hj)⟩
  obtain ⟨c1, c2, c3, c4⟩ := b2 k hk
  refine ⟨(dAg_n h (by decide)).trans c1, (dAg_n h (by decide)).trans c2, by rw [lA_n l (by decide)]; exact c3, fun i hi => ⟨(dAg_n h (by decide)).trans (c4 i hi).1, (dAg_n h (by decide)).trans (c4 i hi).2⟩⟩
theorem M_mustT {b q : Int32} (hb : ¬ b = 0) (kk : Q [] (I, L, g_R s, 306)) : pm_W (g_P ys) 286 0 [.ref 275, .int b, .int q] [] (I, L, g_R s, 306) (0, 0) Q := by
  refine ps_iload rfl rfl ?_
  refine ps_ift rfl (decide_eq_true hb) ?_
  refine ps_vret rfl rfl ?_
  exact kk
theorem M_mustB {b q : Int32} (hw : 0 < (I 275 46).toInt) (kk : Q [] (I, L, g_R s, 306)) : pm_W (g_P ys) 286 0 [.ref 275, .int b, .int q] [] (I, L, g_R s, 306) (0, 0) Q :=
  M_must (fun _ => kk) (fun _ _ => kk) (fun _ h => by omega)
theorem M_mustF {q : Int32} (hw : I 275 46 = 0) {x : Int32} (hx : x = if q = 2 ∧ I 275 50 = 5 then 1 else q) (kk : Q [] (bdI I x (I 275 48), L, g_R s, 306)) : pm_W (g_P ys) 286 0 [.ref 275, .int 0, .int q] [] (I, L, g_R s, 306) (0, 0) Q := by
  have fin : pm_W (g_P ys) 286 31 [.ref 275, .int 0, .int q] [.int x, .ref 275] (I, L, g_R s, 306) (0, 0) Q := by
    refine ps_pfi 11 46 rfl rfl rfl rfl rfl ?_
    refine ps_aload rfl rfl ?_
    refine ps_aload rfl rfl ?_
    refine ps_gfi 11 48 rfl rfl rfl rfl rfl ?_
    refine ps_pfi 11 47 rfl rfl rfl rfl rfl ?_
    refine ps_vret rfl rfl ?_
    exact kk
  refine ps_iload rfl rfl ?_
  refine ps_iff rfl (rfl) ?_
  refine ps_aload rfl rfl ?_
  refine ps_gfi 11 46 rfl rfl rfl rfl rfl ?_
  rw [show ((I, L, g_R s, 306) : pm_H).1 275 46 = 0 from hw]
  refine ps_ift rfl (rfl) ?_
  refine ps_aload rfl rfl ?_
  refine ps_iload rfl rfl ?_
  refine pw_c rfl ?_
  refine ps_icmp rfl (fun he => ?_) (fun he => ?_)
  · have he : ¬ q = 2 := of_decide_eq_true he
    refine ps_iload rfl rfl ?_
    rw [if_neg (fun z => he z.1)] at hx
    subst hx
    exact fin
  · have he : ¬ ¬ q = 2 := of_decide_eq_false he
    have he : q = 2 := Decidable.byContradiction he
    refine ps_aload rfl rfl ?_
    refine ps_gfi 11 50 rfl rfl rfl rfl rfl ?_
    refine pw_c rfl ?_
    refine ps_icmp rfl (fun hf => ?_) (fun hf => ?_)
    · have hf : ¬ I 275 50 = 5 := of_decide_eq_true hf
      refine ps_iload rfl rfl ?_
      rw [if_neg (fun z => hf z.2)] at hx
      subst hx
      exact fin
    · have hf : ¬ ¬ I 275 50 = 5 := of_decide_eq_false hf
      rw [if_pos ⟨he, Decidable.byContradiction hf⟩] at hx
      refine pw_c rfl ?_
      refine ps_goto rfl ?_
      rw [← hx]
      exact fin
theorem mC_eK (S : stX f T J n c) (m : mC J T c n t I L) : eK J t = if (2 : Int32) = 2 ∧ I 275 50 = 5 then 1 else 2 := by
  unfold eK
  have h := (cu_so S m).2.2.2.2.2.2
  by_cases q : J 7 t = 1
  · rw [if_pos q, if_pos ⟨rfl, h.mpr q⟩]
  · rw [if_neg q, if_neg (fun z => q (h.mp z.2))]
/-- must(.., 2), wrong -/
theorem M_must2 (S : stX f T J n c) (m : mC J T c n t I L) (kk : Q [] (bdI I (eK J t) (J 8 t), L, g_R s, 306)) : pm_W (g_P ys) 286 0 [.ref 275, .int 0, .int 2] [] (I, L, g_R s, 306) (0, 0) Q :=
  M_mustF m.1 (mC_eK S m) (by rw [m.2.2.2.2.2.2.1]; exact kk)
theorem M_mustN (m : mC J T c n t I L) {q : Int32} (hq : ¬ q = 2) (kk : Q [] (bdI I q (J 8 t), L, g_R s, 306)) : pm_W (g_P ys) 286 0 [.ref 275, .int 0, .int q] [] (I, L, g_R s, 306) (0, 0) Q :=
  M_mustF m.1 (x := q) (by rw [if_neg (fun z => hq z.1)]) (by rw [m.2.2.2.2.2.2.1]; exact kk)
theorem bd_w {k p : Int32} : bdI I k p 275 46 = k := by
  unfold bdI
  rw [pu_n (by decide), pu_s]
theorem eK_pos : 0 < (eK J t).toInt := by
  unfold eK
  split <;> decide
theorem eK_nz : ¬ eK J t = 0 := by
  unfold eK
  split <;> decide
theorem M_goesOnB (hw : ¬ I 275 46 = 0) (kk : Q [] (I, L, g_R s, 306)) : pm_W (g_P ys) 287 0 [.ref 275] [] (I, L, g_R s, 306) (0, 0) Q := by
  refine ps_aload rfl rfl ?_
  refine pw_k rfl rfl rfl rfl ⟨Nat.zero_le _, Nat.zero_le _⟩ ?_
  refine M_good ?_
  rw [decide_eq_false hw]
  refine ps_ift rfl (rfl) ?_
  refine ps_vret rfl rfl ?_
  exact kk
theorem mC_next (S : stX f T J n c) (m : mC J T c n t I L) (ht : t < c) {I' : Nat → Nat → Int32} {L' : Nat → Nat → Int64} {t0 : Nat} (d : dE I I' t0) (l : lA L L') (r : rdX I I' L' (pE J (t + 1)) n) : dAg I I' ∧ mC J T c n (t + 1) I' L' := by
  obtain ⟨p, i, k, _⟩ := d
  obtain ⟨k1, _, _, k4, k5⟩ := k
  have h := k1
  refine ⟨h, (h _ _ (by decide)).trans m.1, (h _ _ (by decide)).trans m.2.1, ?_, k4, k5, fun j hj => (lA_n l (by decide)).trans (m.2.2.2.2.2.1 j hj), ?_⟩
  · rw [← m.2.2.1]
    funext j
    exact dAg_n h (by decide)
  · have z := rd_cu S.1 (I := I) (by rw [m.2.2.1]; exact S.2.1) S.2.2 (t := t + 1) (by omega) r
    rw [m.2.2.1] at z
    exact z
theorem M_goesOn (S : stX f T J n c) (m : mC J T c n t I L) (ht : t < c) (kk : ∀ I' L', dAg I I' → lA L L' → mC J T c n (t + 1) I' L' → Q [] (I', L', g_R s, 306)) : pm_W (g_P ys) 287 0 [.ref 275] [] (I, L, g_R s, 306) (0, 0) Q := by
  have hth : I 275 49 = nI (pE J (t + 1)) ∧ pE J (t + 1) ≤ n := by
    rcases m.2.2.2.2.2.2.2 with ⟨r1, _⟩ | ⟨_, r2, r3, _⟩
    · omega
    · exact ⟨r2, r3⟩
  have hn := S.2.2
  refine ps_aload rfl rfl ?_
  refine pw_k rfl rfl rfl rfl ⟨Nat.zero_le _, Nat.zero_le _⟩ ?_
  refine M_good ?_
  rw [decide_eq_true m.1]
  refine ps_iff rfl (rfl) ?_
  refine ps_aload rfl rfl ?_
  refine pw_k rfl rfl rfl rfl ⟨Nat.zero_le _, Nat.zero_le _⟩ ?_
  refine M_reads hth.1 (by omega) m.2.1 hn m.2.2.2.1 m.2.2.2.2.1 ?_
  intro I' L' d l r
  refine ps_vret rfl rfl ?_
  obtain ⟨z1, z2⟩ := mC_next S m ht d l (r hth.2)
  exact kk _ _ z1 l z2
end KD
