/-! BY HAND: the class's calls about shadows (printed by wip/src/gen97zzq.py) -/
section TS
variable {I I' I1 I2 J : Nat → Nat → Int32} {L : Nat → Nat → Int64} {s s' s1 s2 : Nat → Option Nat} {Q : List Value → pm_H → Prop} {ys : List Int32} {p e m t b u r : Nat} {P : sPl} {S : sS} {B : sB} {pc : sPc} {g : Nat → Int32} {h : pm_H}

/-- which PLATE is used -/
def plU (B : sB) : Option Nat := if B.ps = 0 then none else some B.S.us.toInt.toNat
theorem plU_s (hu : u < B.ps) (eu : B.S.us = nI u) (p6 : B.ps ≤ 6) : plU B = some u := by
  unfold plU
  rw [if_neg (by omega), eu, nI_toInt (by omega)]
  rfl
theorem plU_n (h : B.ps = 0) : plU B = none := by
  unfold plU
  rw [if_pos h]
theorem us_1 {v : Nat} (p6 : B.ps ≤ 6) (hu : u < B.ps) (eu : B.S.us = nI u) (hv : v < B.ps) (ev : B.S.us = nI v) : v = u := nI_eqv (by omega) (by omega) (ev.symm.trans eu)
theorem us_no {x y : Int32} (p6 : B.ps ≤ 6) (ku : okU B.S B.ps) (hn : ∀ u, u < B.ps → B.S.us = nI u → ¬ onQ (B.pl u) x y) : plU B = none ∨ ∃ u, plU B = some u ∧ ¬ onQ (B.pl u) x y := by
  obtain ⟨u, e1, e2⟩ := ku
  by_cases h : B.ps = 0
  · exact Or.inl (plU_n h)
  · have hu : u < B.ps := by omega
    exact Or.inr ⟨u, plU_s hu e1 p6, hn u hu e1⟩
def qAt (B : sB) (x y w : Int32) : Except Int32 Int32 := if ¬ (0 ≤ w.toInt ∧ w.toInt ≤ 5) then .error 1 else match plU B with
  | none => .error 2
  | some u => if ¬ onQ (B.pl u) x y then .error 2 else if w = 4 ∧ ¬ crP (B.pl u) then .error 5 else .ok (figF (B.pl u) B.S (cellF (B.pl u) x y) w)
def qAll (B : sB) (w : Int32) : Except Int32 Int32 := if ¬ (0 ≤ w.toInt ∧ w.toInt ≤ 7) then .error 1 else match plU B with
  | none => .error 2
  | some u => if w = 3 ∧ ¬ crP (B.pl u) then .error 5 else if w = 2 ∧ hoP (B.pl u) = 0 then .error 5 else .ok (figA (B.pl u) B.S w)
def qPeak (B : sB) (w : Int32) : Except Int32 Int32 := if ¬ (0 ≤ w.toInt ∧ w.toInt ≤ 3) then .error 1 else match plU B with
  | none => .error 2
  | some u => .ok (if w = 3 then tgF (decF (B.pl u) (shadF (B.pl u) B.S)) ((B.pl u).w * (B.pl u).v) else fgF (B.pl u) (decF (B.pl u) (shadF (B.pl u) B.S)) w)
abbrev gdF (k w : Int32) : Prop := -1 ≤ k.toInt ∧ (0 ≤ w.toInt ∧ w.toInt ≤ 2) ∧ (k = -1 → w = 0)
def qFound (B : sB) (k w : Int32) : Except Int32 Int32 := if ¬ gdF k w then .error 1 else match plU B with
  | none => .error 2
  | some u => if ¬ crP (B.pl u) then .error 5 else if k = -1 then .ok (nI (fdN (B.pl u) B.S)) else if (fdN (B.pl u) B.S : Int) ≤ k.toInt then .error 5 else .ok (if w = 2 then fnC (B.pl u) B.S k.toInt.toNat else xyF (B.pl u) (fnP (B.pl u) B.S k.toInt.toNat) w)
abbrev gdR (n t : Int32) : Prop := (1 ≤ n.toInt ∧ n.toInt ≤ 20) ∧ (1 ≤ t.toInt ∧ t.toInt ≤ 99)
def qFrames (B : sB) (n t x y : Int32) : Except Int32 Int32 := if ¬ gdR n t then .error 1 else match plU B with
  | none => .error 2
  | some u => if ¬ onQ (B.pl u) x y then .error 2 else .ok (suI (fun f => wtF (B.pl u) (frR (B.pl u) B.S (nI (f * t.toInt.toNat))) (x.toInt.toNat + f * t.toInt.toNat) y.toInt.toNat) n.toInt.toNat)
def qFilled (B : sB) (w : Int32) : Except Int32 Int32 := if ¬ (0 ≤ w.toInt ∧ w.toInt ≤ 1) then .error 1 else match plU B with
  | none => .error 2
  | some u => if ¬ crP (B.pl u) then .error 5 else .ok (if w = 0 then erF (B.pl u) B.S (decF (B.pl u) (filF (B.pl u) B.S)) (suI (filF (B.pl u) B.S) ((B.pl u).w * (B.pl u).v) - B.S.bk * nI ((B.pl u).w * (B.pl u).v)) else ffF (B.pl u) B.S (filF (B.pl u) B.S) ((B.pl u).w * (B.pl u).v))
def qCoarse (B : sB) (m k : Int32) : Except Int32 Int32 := if ¬ (2 ≤ m.toInt ∧ 0 ≤ k.toInt) then .error 1 else match plU B with
  | none => .error 2
  | some u => if ¬ ((B.pl u).w % m.toInt.toNat = 0 ∧ k.toInt.toNat < (B.pl u).w * (B.pl u).v / m.toInt.toNat) then .error 5 else .ok (suI (fun i => shadF (B.pl u) B.S (k.toInt.toNat * m.toInt.toNat + i)) m.toInt.toNat)
def qAnti (B : sB) (x y : Int32) : Except Int32 Int32 := match plU B with
  | none => .error 2
  | some u => if ¬ onQ (B.pl u) x y then .error 2 else .ok (wtF (B.pl u) (anF (B.pl u) B.S) x.toInt.toNat y.toInt.toNat)
def qKeep (B : sB) : Except Int32 Int32 := match plU B with
  | none => .error 2
  | some u => .ok (nI ((B.pl u).w * (B.pl u).v))
/-- THE PICTURE behind keep -/
def kpc (B : sB) (pc : sPc) : sPc := match plU B with
  | none => pc
  | some u => ((B.pl u).w, (B.pl u).v, shadF (B.pl u) B.S)
abbrev ftP (P : sPl) (pc : sPc) : Prop := P.w = pc.1 ∧ P.v = pc.2.1
def qMatch (B : sB) (pc : sPc) (w : Int32) : Except Int32 Int64 := if ¬ (0 ≤ w.toInt ∧ w.toInt ≤ 2) then .error 1 else match plU B with
  | none => .error 2
  | some u => if ¬ ftP (B.pl u) pc then .error 5 else .ok (if w = 2 then mtV (B.pl u) B.S pc.2.2 (pgL (mtV (B.pl u) B.S pc.2.2) ((B.pl u).w * (B.pl u).v)) else (xyF (B.pl u) (pgL (mtV (B.pl u) B.S pc.2.2) ((B.pl u).w * (B.pl u).v)) w).toInt64)
def exl : Except Int32 Int64 → Int64
  | .error _ => -1
  | .ok v => v
def qMinus (B : sB) (pc : sPc) (x y : Int32) : Except Int32 Int32 := match plU B with
  | none => .error 2
  | some u => if ¬ onQ (B.pl u) x y then .error 2 else if ¬ ftP (B.pl u) pc then .error 5 else .ok (wtF (B.pl u) (shadF (B.pl u) B.S) x.toInt.toNat y.toInt.toNat - wtF (B.pl u) pc.2.2 x.toInt.toNat y.toInt.toNat)
abbrev gdS (n sd w : Int32) : Prop := (1 ≤ n.toInt ∧ n.toInt ≤ 500) ∧ (1 ≤ sd.toInt ∧ sd.toInt ≤ 65536) ∧ (0 ≤ w.toInt ∧ w.toInt ≤ 3)
def smW (P : sPl) (S : sS) : Int32 := suI (wholF P S 0) (P.w * P.v)
def qShots (B : sB) (n sd w : Int32) : Except Int32 Int32 := if ¬ gdS n sd w then .error 1 else match plU B with
  | none => .error 2
  | some u => if ¬ 0 < (smW (B.pl u) B.S).toInt then .error 5 else .ok (if w = 0 then (shS (B.pl u) B.S (smW (B.pl u) B.S) sd n.toInt.toNat).2.1 else fgF (B.pl u) (decF (B.pl u) (shS (B.pl u) B.S (smW (B.pl u) B.S) sd n.toInt.toNat).2.2) (w - 1))
def erN (P : sPl) (S : sS) : Int32 := erF P S (decF P (shadF P S)) (liS P S)
def bsS (B : sB) : Nat → Int32 × Int32
  | 0 => (-1, 0)
  | k + 1 => if crP (B.pl k) then (if (bsS B k).1 = -1 ∨ erN (B.pl k) B.S < (bsS B k).2 then (nI k, erN (B.pl k) B.S) else bsS B k) else bsS B k
def qBest (B : sB) (w : Int32) : Except Int32 Int32 := if ¬ (0 ≤ w.toInt ∧ w.toInt ≤ 1) then .error 1 else if (bsS B B.ps).1 = -1 then .error 5 else .ok (if w = 0 then (bsS B B.ps).1 else (bsS B B.ps).2)
def qWorst (B : sB) (w : Int32) : Except Int32 Int32 := if ¬ (0 ≤ w.toInt ∧ w.toInt ≤ 2) then .error 1 else match plU B with
  | none => .error 2
  | some u => if ¬ crP (B.pl u) then .error 5 else if (wrS (B.pl u) B.S ((B.pl u).w * (B.pl u).v)).1 = -1 then .error 5 else .ok (if w = 2 then (wrS (B.pl u) B.S ((B.pl u).w * (B.pl u).v)).2 else xyF (B.pl u) (wrS (B.pl u) B.S ((B.pl u).w * (B.pl u).v)).1.toInt.toNat w)
def fgP (P : sPl) (w : Int32) : Int32 := if w = 0 then nI P.w else if w = 1 then nI P.v else if w = 2 then hoP P else if w = 3 then weP P else if w = 4 then sdF P 0 else if w = 5 then bI (decide (lsS P = gsS P)) else if w = 6 then lsS P else gsS P
def qPlate (B : sB) (k w : Int32) : Except Int32 Int32 := if ¬ (0 ≤ w.toInt ∧ w.toInt ≤ 7) then .error 1 else match plN B k with
  | none => .error 2
  | some i => if 6 ≤ w.toInt ∧ (B.pl i).w * (B.pl i).v = 1 then .error 5 else .ok (fgP (B.pl i) w)
def qCell (B : sB) (k x y w : Int32) : Except Int32 Int32 := if ¬ (0 ≤ w.toInt ∧ w.toInt ≤ 2) then .error 1 else match plN B k with
  | none => .error 2
  | some i => if ¬ onQ (B.pl i) x y then .error 2 else .ok (if w = 0 then (B.pl i).ho (y.toInt.toNat * (B.pl i).w + x.toInt.toNat) else if w = 1 then (B.pl i).we (y.toInt.toNat * (B.pl i).w + x.toInt.toNat) else sdF (B.pl i) (y.toInt.toNat * (B.pl i).w + x.toInt.toNat))
theorem h0_l (h0 : s 0 = some b) (l : lkS s s') : s' 0 = some b := (l 0 (by decide) (by decide) (by decide) (by decide)).trans h0
theorem B_at8 (hb : isB b) (h0 : s 0 = some b) (hF : cFF b B s I) (ok : B.ok) (ku : okU B.S B.ps) (x y w : Int32) (kk : ∀ r I' s', r = exv (qAt B x y w) → qS b I I' → lkS s s' → cFF b B s' I' → Q [.int r] (I', L, g_R s', 306)) : pm_W (g_P ys) 120 0 [.ref 0, .int x, .int y, .int w, .retAddr 0] [] (I, L, g_R s, 306) (0, 0) Q := by
  have bb := isB_b hb
  have p6 := ok.1
  have e0 : (0 : Int32).toInt = 0 := rfl
  have ec1 : (1 : Int32).toInt = 1 := rfl
  have ec2 : (2 : Int32).toInt = 2 := rfl
  have ec3 : (3 : Int32).toInt = 3 := rfl
  have ec5 : (5 : Int32).toInt = 5 := rfl
  have ec7 : (7 : Int32).toInt = 7 := rfl
  have ec20 : (20 : Int32).toInt = 20 := rfl
  have ec99 : (99 : Int32).toInt = 99 := rfl
  have ec500 : (500 : Int32).toInt = 500 := rfl
  have ec65536 : (65536 : Int32).toInt = 65536 := rfl
  have ecm : (-1 : Int32).toInt = -1 := by decide
  have hS5 : ∀ s, ∀ I L, pm_sh (g_P ys) (I, L, g_R s, 306) 255 = some (.inl 10) := fun _ _ _ => rfl
  have no : ¬ (0 ≤ w.toInt ∧ w.toInt ≤ 5) → pm_W (g_P ys) 120 9 [.ref 0, .int x, .int y, .int w, .retAddr 0] [] (I, L, g_R s, 306) (0, 0) Q := by
    intro z
    refine ps_aload rfl rfl ?_
    refine pw_c rfl ?_
    refine pv_k rfl rfl rfl rfl rfl (by first | exact hS0 _ _ | exact hS1 _ _ | exact hS2 _ _ | exact hS3 _ _ | exact hS4 _ _ | exact hS5 _ _ | exact hS6 _ _ | exact hS7 _ _ | exact hS8 _ _ | exact hS9 _ _ | exact hS10 _ _ | exact hS11 _ _ | exact hS12 _ _ | exact hS13 _ _ | exact hS14 _ _ | exact hS15 _ _ | exact hS16 _ _ | exact hS17 _ _ | exact hS18 _ _ | exact hS19 _ _ | exact hS20 _ _ | exact hS21 _ _ | exact hS22 _ _ | exact hS23 _ _ | assumption | rfl) rfl ⟨Nat.zero_le _, Nat.zero_le _⟩ ?_
    refine B_refuse ?_
    refine ps_iret rfl rfl ?_
    exact kk _ _ s (by unfold qAt; rw [if_pos z]; rfl) qS_u lkS_r (cF_st hb hF ok)
  have go : (0 ≤ w.toInt ∧ w.toInt ≤ 5) → pm_W (g_P ys) 120 15 [.ref 0, .int x, .int y, .int w, .retAddr 0] [] (I, L, g_R s, 306) (0, 0) Q := by
    intro hw
    have bad : ∀ (e : Int32) I1 s1, ¬ e = 0 → qAt B x y w = .error e → qS b I I1 → lkS s s1 → cFF b B s1 I1 → pm_W (g_P ys) 120 39 [.ref 0, .int x, .int y, .int w, .int e] [] (I1, L, g_R s1, 306) (0, 0) Q := by
      intro e I1 s1 he ea q l f
      refine ps_iload rfl rfl ?_
      refine ps_iff rfl (decide_eq_false he) ?_
      refine ps_aload rfl rfl ?_
      refine ps_iload rfl rfl ?_
      refine pv_k rfl rfl rfl rfl rfl (by first | exact hS0 _ _ | exact hS1 _ _ | exact hS2 _ _ | exact hS3 _ _ | exact hS4 _ _ | exact hS5 _ _ | exact hS6 _ _ | exact hS7 _ _ | exact hS8 _ _ | exact hS9 _ _ | exact hS10 _ _ | exact hS11 _ _ | exact hS12 _ _ | exact hS13 _ _ | exact hS14 _ _ | exact hS15 _ _ | exact hS16 _ _ | exact hS17 _ _ | exact hS18 _ _ | exact hS19 _ _ | exact hS20 _ _ | exact hS21 _ _ | exact hS22 _ _ | exact hS23 _ _ | assumption | rfl) rfl ⟨Nat.zero_le _, Nat.zero_le _⟩ ?_
      refine B_refuse ?_
      refine ps_iret rfl rfl ?_
      exact kk _ _ s1 (by rw [ea]; rfl) (qS_t q qS_u) l (cF_st hb f ok)
    have fin : ∀ u I1 s1, u < B.ps → B.S.us = nI u → onQ (B.pl u) x y → (w = 4 → crP (B.pl u) ∧ cSk I1 (b + 17 + 4 * u) (B.pl u)) → qS b I I1 → lkS s s1 → cFk b B u s1 I1 → pm_W (g_P ys) 120 51 [.ref 0, .int x, .int y, .int w, .int 0] [] (I1, L, g_R s1, 306) (0, 0) Q := by
      intro u I1 s1 hu eu on c4 q l k
      have V := cFk_V hb k ok hu
      have hp := V.2.1
      have h13 : g_R s1 255 13 = some (b + 17 + 4 * u) := k.2.2.2.2.1
      obtain ⟨hS10, hS11, hS12, hS13, hR15, hR16, hR17⟩ := pl_F (ys := ys) (s := s1) hp
      have hP := cBq_p k.1 hu
      have kn := k.2.2.2.2.2.2
      have ea : qAt B x y w = .ok (figF (B.pl u) B.S (cellF (B.pl u) x y) w) := by
        unfold qAt
        rw [if_neg (fun z => z hw), plU_s hu eu p6]
        show (if ¬ onQ (B.pl u) x y then _ else if w = 4 ∧ ¬ crP (B.pl u) then _ else _) = _
        rw [if_neg (fun z => z on), if_neg (fun z => z.2 (c4 z.1).1)]
      refine ps_aload rfl rfl ?_
      refine ps_aload rfl rfl ?_
      refine ps_gfr 0 8 rfl rfl rfl (by first | exact hS0 _ _ | exact hS1 _ _ | exact hS2 _ _ | exact hS3 _ _ | exact hS4 _ _ | exact hS5 _ _ | exact hS6 _ _ | exact hS7 _ _ | exact hS8 _ _ | exact hS9 _ _ | exact hS10 _ _ | exact hS11 _ _ | exact hS12 _ _ | exact hS13 _ _ | exact hS14 _ _ | exact hS15 _ _ | exact hS16 _ _ | exact hS17 _ _ | exact hS18 _ _ | exact hS19 _ _ | exact hS20 _ _ | exact hS21 _ _ | exact hS22 _ _ | exact hS23 _ _ | assumption | rfl) rfl ( rfl) ?_
      refine ps_aload rfl rfl ?_
      refine ps_gfr 0 8 rfl rfl rfl (by first | exact hS0 _ _ | exact hS1 _ _ | exact hS2 _ _ | exact hS3 _ _ | exact hS4 _ _ | exact hS5 _ _ | exact hS6 _ _ | exact hS7 _ _ | exact hS8 _ _ | exact hS9 _ _ | exact hS10 _ _ | exact hS11 _ _ | exact hS12 _ _ | exact hS13 _ _ | exact hS14 _ _ | exact hS15 _ _ | exact hS16 _ _ | exact hS17 _ _ | exact hS18 _ _ | exact hS19 _ _ | exact hS20 _ _ | exact hS21 _ _ | exact hS22 _ _ | exact hS23 _ _ | assumption | rfl) rfl ( rfl) ?_
      refine ps_gfr 10 13 rfl rfl rfl (by first | exact hS0 _ _ | exact hS1 _ _ | exact hS2 _ _ | exact hS3 _ _ | exact hS4 _ _ | exact hS5 _ _ | exact hS6 _ _ | exact hS7 _ _ | exact hS8 _ _ | exact hS9 _ _ | exact hS10 _ _ | exact hS11 _ _ | exact hS12 _ _ | exact hS13 _ _ | exact hS14 _ _ | exact hS15 _ _ | exact hS16 _ _ | exact hS17 _ _ | exact hS18 _ _ | exact hS19 _ _ | exact hS20 _ _ | exact hS21 _ _ | exact hS22 _ _ | exact hS23 _ _ | assumption | rfl) rfl ( h13) ?_
      refine ps_iload rfl rfl ?_
      refine ps_iload rfl rfl ?_
      refine pv_k rfl rfl rfl rfl rfl (hS10 _ _) rfl ⟨Nat.zero_le _, Nat.zero_le _⟩ ?_
      refine B_indexOfX hp hP.1 x y ?_
      refine ps_iload rfl rfl ?_
      refine pv_k rfl rfl rfl rfl rfl (hS5 _ _ _) rfl ⟨Nat.zero_le _, Nat.zero_le _⟩ ?_
      refine B_figureAtX V (fun z => (c4 z).2) kn (cell_lt hP.1.2.2.2.1 hP.1.2.2.2.2.1 x y) hw (fun I2 ko => ?_)
      obtain ⟨f2, q2⟩ := cFk_o hb k ok ko
      refine pv_k rfl rfl rfl rfl rfl (by first | exact hS0 _ _ | exact hS1 _ _ | exact hS2 _ _ | exact hS3 _ _ | exact hS4 _ _ | exact hS5 _ _ | exact hS6 _ _ | exact hS7 _ _ | exact hS8 _ _ | exact hS9 _ _ | exact hS10 _ _ | exact hS11 _ _ | exact hS12 _ _ | exact hS13 _ _ | exact hS14 _ _ | exact hS15 _ _ | exact hS16 _ _ | exact hS17 _ _ | exact hS18 _ _ | exact hS19 _ _ | exact hS20 _ _ | exact hS21 _ _ | exact hS22 _ _ | exact hS23 _ _ | assumption | rfl) rfl ⟨Nat.zero_le _, Nat.zero_le _⟩ ?_
      refine B_answer ?_
      refine ps_iret rfl rfl ?_
      exact kk _ _ s1 (by rw [ea]; rfl) (qS_t (qS_t q q2) qS_u) l (cF_st hb (cFk_m f2 hu eu) ok)
    refine ps_aload rfl rfl ?_
    refine ps_iload rfl rfl ?_
    refine ps_iload rfl rfl ?_
    refine pv_k rfl rfl rfl rfl rfl rfl rfl ⟨Nat.zero_le _, Nat.zero_le _⟩ ?_
    refine B_lookAtX hb h0 hF ok ku x y (fun I1 s1 hn q l f => ?_) (fun u I1 s1 hu eu on q l k => ?_)
    · have ea : qAt B x y w = .error 2 := by
        unfold qAt
        rw [if_neg (fun z => z hw)]
        rcases us_no p6 ku hn with z | ⟨u, z, zn⟩
        · rw [z]
        · rw [z]
          exact if_pos zn
      refine ps_istore rfl rfl ?_
      refine ps_iload rfl rfl ?_
      refine ps_ift rfl (by decide) ?_
      exact bad 2 I1 s1 (by decide) ea q l f
    · by_cases w4 : w = 4
      · refine ps_istore rfl rfl ?_
        refine ps_iload rfl rfl ?_
        refine ps_iff rfl (by decide) ?_
        refine ps_iload rfl rfl ?_
        refine pw_c rfl ?_
        refine ps_icmpf rfl (decide_eq_false (fun z => z w4)) ?_
        refine ps_aload rfl rfl ?_
        refine pv_k rfl rfl rfl rfl rfl rfl rfl ⟨Nat.zero_le _, Nat.zero_le _⟩ ?_
        refine B_lookResX hb (h0_l h0 l) (cFk_m k hu eu) ok ku (fun z => absurd hu (by omega)) (fun v I2 s2 hv ev c q2 l2 k2 => ?_) (fun v I2 s2 hv ev c q2 l2 k2 sk => ?_)
        · have vu := us_1 p6 hu eu hv ev
          subst vu
          have ea : qAt B x y w = .error 5 := by
            unfold qAt
            rw [if_neg (fun z => z hw), plU_s hu eu p6]
            show (if ¬ onQ (B.pl v) x y then _ else if w = 4 ∧ ¬ crP (B.pl v) then _ else _) = _
            rw [if_neg (fun z => z on), if_pos ⟨w4, c⟩]
          refine ps_istore rfl rfl ?_
          exact bad 5 I2 s2 (by decide) ea (qS_t q q2) (lkS_t l l2) (cFk_m k2 hu eu)
        · have vu := us_1 p6 hu eu hv ev
          subst vu
          refine ps_istore rfl rfl ?_
          refine ps_iload rfl rfl ?_
          refine ps_ift rfl (by decide) ?_
          exact fin v I2 s2 hu eu on (fun _ => ⟨c, sk⟩) (qS_t q q2) (lkS_t l l2) k2
      · refine ps_istore rfl rfl ?_
        refine ps_iload rfl rfl ?_
        refine ps_iff rfl (by decide) ?_
        refine ps_iload rfl rfl ?_
        refine pw_c rfl ?_
        refine ps_icmpt rfl (decide_eq_true w4) ?_
        refine ps_iload rfl rfl ?_
        refine ps_ift rfl (by decide) ?_
        exact fin u I1 s1 hu eu on (fun z => absurd z w4) q l k
  by_cases hw1 : w.toInt < 0
  · refine ps_iload rfl rfl ?_
    refine ps_ift rfl (decide_eq_true ((i_lt _ _).mpr (by omega))) ?_
    exact no (by omega)
  · by_cases hw2 : 5 < w.toInt
    · refine ps_iload rfl rfl ?_
      refine ps_iff rfl (decide_eq_false (fun z => by have := (i_lt _ _).mp z; omega)) ?_
      refine ps_iload rfl rfl ?_
      refine pw_c rfl ?_
      refine ps_icmpf rfl (decide_eq_false (fun z => by have := (i_le _ _).mp z; omega)) ?_
      exact no (by omega)
    · refine ps_iload rfl rfl ?_
      refine ps_iff rfl (decide_eq_false (fun z => by have := (i_lt _ _).mp z; omega)) ?_
      refine ps_iload rfl rfl ?_
      refine pw_c rfl ?_
      refine ps_icmpt rfl (decide_eq_true ((i_le _ _).mpr (by omega))) ?_
      exact go (by omega)

theorem B_all8 (hb : isB b) (h0 : s 0 = some b) (hF : cFF b B s I) (ok : B.ok) (ku : okU B.S B.ps) (w : Int32) (kk : ∀ r I' s', r = exv (qAll B w) → qS b I I' → lkS s s' → cFF b B s' I' → Q [.int r] (I', L, g_R s', 306)) : pm_W (g_P ys) 140 0 [.ref 0, .int w, .retAddr 0] [] (I, L, g_R s, 306) (0, 0) Q := by
  have bb := isB_b hb
  have p6 := ok.1
  have e0 : (0 : Int32).toInt = 0 := rfl
  have ec1 : (1 : Int32).toInt = 1 := rfl
  have ec2 : (2 : Int32).toInt = 2 := rfl
  have ec3 : (3 : Int32).toInt = 3 := rfl
  have ec5 : (5 : Int32).toInt = 5 := rfl
  have ec7 : (7 : Int32).toInt = 7 := rfl
  have ec20 : (20 : Int32).toInt = 20 := rfl
  have ec99 : (99 : Int32).toInt = 99 := rfl
  have ec500 : (500 : Int32).toInt = 500 := rfl
  have ec65536 : (65536 : Int32).toInt = 65536 := rfl
  have ecm : (-1 : Int32).toInt = -1 := by decide
  have hS5 : ∀ s, ∀ I L, pm_sh (g_P ys) (I, L, g_R s, 306) 255 = some (.inl 10) := fun _ _ _ => rfl
  have no : ¬ (0 ≤ w.toInt ∧ w.toInt ≤ 7) → pm_W (g_P ys) 140 10 [.ref 0, .int w, .retAddr 0] [] (I, L, g_R s, 306) (0, 0) Q := by
    intro z
    refine ps_aload rfl rfl ?_
    refine pw_c rfl ?_
    refine pv_k rfl rfl rfl rfl rfl (by first | exact hS0 _ _ | exact hS1 _ _ | exact hS2 _ _ | exact hS3 _ _ | exact hS4 _ _ | exact hS5 _ _ | exact hS6 _ _ | exact hS7 _ _ | exact hS8 _ _ | exact hS9 _ _ | exact hS10 _ _ | exact hS11 _ _ | exact hS12 _ _ | exact hS13 _ _ | exact hS14 _ _ | exact hS15 _ _ | exact hS16 _ _ | exact hS17 _ _ | exact hS18 _ _ | exact hS19 _ _ | exact hS20 _ _ | exact hS21 _ _ | exact hS22 _ _ | exact hS23 _ _ | assumption | rfl) rfl ⟨Nat.zero_le _, Nat.zero_le _⟩ ?_
    refine B_refuse ?_
    refine ps_iret rfl rfl ?_
    exact kk _ _ s (by unfold qAll; rw [if_pos z]; rfl) qS_u lkS_r (cF_st hb hF ok)
  have go : (0 ≤ w.toInt ∧ w.toInt ≤ 7) → pm_W (g_P ys) 140 16 [.ref 0, .int w, .retAddr 0] [] (I, L, g_R s, 306) (0, 0) Q := by
    intro hw
    have bad : ∀ (e : Int32) I1 s1, ¬ e = 0 → qAll B w = .error e → qS b I I1 → lkS s s1 → cFF b B s1 I1 → pm_W (g_P ys) 140 57 [.ref 0, .int w, .int e] [] (I1, L, g_R s1, 306) (0, 0) Q := by
      intro e I1 s1 he ea q l f
      refine ps_iload rfl rfl ?_
      refine ps_iff rfl (decide_eq_false he) ?_
      refine ps_aload rfl rfl ?_
      refine ps_iload rfl rfl ?_
      refine pv_k rfl rfl rfl rfl rfl (by first | exact hS0 _ _ | exact hS1 _ _ | exact hS2 _ _ | exact hS3 _ _ | exact hS4 _ _ | exact hS5 _ _ | exact hS6 _ _ | exact hS7 _ _ | exact hS8 _ _ | exact hS9 _ _ | exact hS10 _ _ | exact hS11 _ _ | exact hS12 _ _ | exact hS13 _ _ | exact hS14 _ _ | exact hS15 _ _ | exact hS16 _ _ | exact hS17 _ _ | exact hS18 _ _ | exact hS19 _ _ | exact hS20 _ _ | exact hS21 _ _ | exact hS22 _ _ | exact hS23 _ _ | assumption | rfl) rfl ⟨Nat.zero_le _, Nat.zero_le _⟩ ?_
      refine B_refuse ?_
      refine ps_iret rfl rfl ?_
      exact kk _ _ s1 (by rw [ea]; rfl) (qS_t q qS_u) l (cF_st hb f ok)
    have e2 : B.ps = 0 → qAll B w = .error 2 := fun z => by
      unfold qAll
      rw [if_neg (fun z => z hw), plU_n z]
    have fin : ∀ u I1 s1, u < B.ps → B.S.us = nI u → (w = 3 → crP (B.pl u) ∧ cSk I1 (b + 17 + 4 * u) (B.pl u)) → qS b I I1 → lkS s s1 → cFk b B u s1 I1 → pm_W (g_P ys) 140 33 [.ref 0, .int w, .int 0] [] (I1, L, g_R s1, 306) (0, 0) Q := by
      intro u I1 s1 hu eu c4 q l k
      have V := cFk_V hb k ok hu
      have hp := V.2.1
      have h13 : g_R s1 255 13 = some (b + 17 + 4 * u) := k.2.2.2.2.1
      obtain ⟨hS10, hS11, hS12, hS13, hR15, hR16, hR17⟩ := pl_F (ys := ys) (s := s1) hp
      have hP := cBq_p k.1 hu
      have kn := k.2.2.2.2.2.2
      have hh : I1 (b + 17 + 4 * u) 7 = hoP (B.pl u) := hP.2.2.1
      have ea : qAll B w = if w = 2 ∧ hoP (B.pl u) = 0 then .error 5 else .ok (figA (B.pl u) B.S w) := by
        unfold qAll
        rw [if_neg (fun z => z hw), plU_s hu eu p6]
        show (if w = 3 ∧ ¬ crP (B.pl u) then _ else _) = _
        rw [if_neg (fun z => z.2 (c4 z.1).1)]
      have good : ¬ (w = 2 ∧ hoP (B.pl u) = 0) → pm_W (g_P ys) 140 57 [.ref 0, .int w, .int 0] [] (I1, L, g_R s1, 306) (0, 0) Q := by
        intro nz
        rw [if_neg nz] at ea
        refine ps_iload rfl rfl ?_
        refine ps_ift rfl (by decide) ?_
        refine ps_aload rfl rfl ?_
        refine ps_aload rfl rfl ?_
        refine ps_gfr 0 8 rfl rfl rfl (by first | exact hS0 _ _ | exact hS1 _ _ | exact hS2 _ _ | exact hS3 _ _ | exact hS4 _ _ | exact hS5 _ _ | exact hS6 _ _ | exact hS7 _ _ | exact hS8 _ _ | exact hS9 _ _ | exact hS10 _ _ | exact hS11 _ _ | exact hS12 _ _ | exact hS13 _ _ | exact hS14 _ _ | exact hS15 _ _ | exact hS16 _ _ | exact hS17 _ _ | exact hS18 _ _ | exact hS19 _ _ | exact hS20 _ _ | exact hS21 _ _ | exact hS22 _ _ | exact hS23 _ _ | assumption | rfl) rfl ( rfl) ?_
        refine ps_iload rfl rfl ?_
        refine pv_k rfl rfl rfl rfl rfl (hS5 _ _ _) rfl ⟨Nat.zero_le _, Nat.zero_le _⟩ ?_
        refine B_figureX V (fun z => (c4 z).2) kn hw (fun I2 ko => ?_)
        obtain ⟨f2, q2⟩ := cFk_o hb k ok ko
        refine pv_k rfl rfl rfl rfl rfl (by first | exact hS0 _ _ | exact hS1 _ _ | exact hS2 _ _ | exact hS3 _ _ | exact hS4 _ _ | exact hS5 _ _ | exact hS6 _ _ | exact hS7 _ _ | exact hS8 _ _ | exact hS9 _ _ | exact hS10 _ _ | exact hS11 _ _ | exact hS12 _ _ | exact hS13 _ _ | exact hS14 _ _ | exact hS15 _ _ | exact hS16 _ _ | exact hS17 _ _ | exact hS18 _ _ | exact hS19 _ _ | exact hS20 _ _ | exact hS21 _ _ | exact hS22 _ _ | exact hS23 _ _ | assumption | rfl) rfl ⟨Nat.zero_le _, Nat.zero_le _⟩ ?_
        refine B_answer ?_
        refine ps_iret rfl rfl ?_
        exact kk _ _ s1 (by rw [ea]; rfl) (qS_t (qS_t q q2) qS_u) l (cF_st hb (cFk_m f2 hu eu) ok)
      by_cases w2 : w = 2
      · refine ps_iload rfl rfl ?_
        refine ps_iff rfl (by decide) ?_
        refine ps_iload rfl rfl ?_
        refine pw_c rfl ?_
        refine ps_icmpf rfl (decide_eq_false (fun z => z w2)) ?_
        refine ps_aload rfl rfl ?_
        refine ps_gfr 0 8 rfl rfl rfl (by first | exact hS0 _ _ | exact hS1 _ _ | exact hS2 _ _ | exact hS3 _ _ | exact hS4 _ _ | exact hS5 _ _ | exact hS6 _ _ | exact hS7 _ _ | exact hS8 _ _ | exact hS9 _ _ | exact hS10 _ _ | exact hS11 _ _ | exact hS12 _ _ | exact hS13 _ _ | exact hS14 _ _ | exact hS15 _ _ | exact hS16 _ _ | exact hS17 _ _ | exact hS18 _ _ | exact hS19 _ _ | exact hS20 _ _ | exact hS21 _ _ | exact hS22 _ _ | exact hS23 _ _ | assumption | rfl) rfl ( rfl) ?_
        refine ps_gfr 10 13 rfl rfl rfl (by first | exact hS0 _ _ | exact hS1 _ _ | exact hS2 _ _ | exact hS3 _ _ | exact hS4 _ _ | exact hS5 _ _ | exact hS6 _ _ | exact hS7 _ _ | exact hS8 _ _ | exact hS9 _ _ | exact hS10 _ _ | exact hS11 _ _ | exact hS12 _ _ | exact hS13 _ _ | exact hS14 _ _ | exact hS15 _ _ | exact hS16 _ _ | exact hS17 _ _ | exact hS18 _ _ | exact hS19 _ _ | exact hS20 _ _ | exact hS21 _ _ | exact hS22 _ _ | exact hS23 _ _ | assumption | rfl) rfl ( h13) ?_
        refine ps_gfi 9 7 rfl rfl rfl (by first | exact hS0 _ _ | exact hS1 _ _ | exact hS2 _ _ | exact hS3 _ _ | exact hS4 _ _ | exact hS5 _ _ | exact hS6 _ _ | exact hS7 _ _ | exact hS8 _ _ | exact hS9 _ _ | exact hS10 _ _ | exact hS11 _ _ | exact hS12 _ _ | exact hS13 _ _ | exact hS14 _ _ | exact hS15 _ _ | exact hS16 _ _ | exact hS17 _ _ | exact hS18 _ _ | exact hS19 _ _ | exact hS20 _ _ | exact hS21 _ _ | exact hS22 _ _ | exact hS23 _ _ | assumption | rfl) rfl ?_
        rw [show ((I1, L, g_R s1, 306) : pm_H).1 (b + 17 + 4 * u) 7 = hoP (B.pl u) from hh]
        by_cases z0 : hoP (B.pl u) = 0
        · rw [if_pos ⟨w2, z0⟩] at ea
          refine ps_iff rfl (decide_eq_false (fun z => z z0)) ?_
          refine pw_c rfl ?_
          refine ps_istore rfl rfl ?_
          exact bad 5 I1 s1 (by decide) ea q l (cFk_m k hu eu)
        · refine ps_ift rfl (decide_eq_true z0) ?_
          exact good (fun z => z0 z.2)
      · refine ps_iload rfl rfl ?_
        refine ps_iff rfl (by decide) ?_
        refine ps_iload rfl rfl ?_
        refine pw_c rfl ?_
        refine ps_icmpt rfl (decide_eq_true w2) ?_
        exact good (fun z => w2 z.1)
    by_cases w3 : w = 3
    · refine ps_iload rfl rfl ?_
      refine pw_c rfl ?_
      refine ps_icmpf rfl (decide_eq_false (fun z => z w3)) ?_
      refine ps_aload rfl rfl ?_
      refine pv_k rfl rfl rfl rfl rfl rfl rfl ⟨Nat.zero_le _, Nat.zero_le _⟩ ?_
      refine B_lookResX hb h0 hF ok ku (fun z => ?_) (fun u I2 s2 hu eu c q2 l2 k2 => ?_) (fun u I2 s2 hu eu c q2 l2 k2 sk => ?_)
      · refine ps_goto rfl ?_
        refine ps_istore rfl rfl ?_
        refine ps_iload rfl rfl ?_
        refine ps_ift rfl (by decide) ?_
        exact bad 2 I s (by decide) (e2 z) qS_r lkS_r hF
      · have ea : qAll B w = .error 5 := by
          unfold qAll
          rw [if_neg (fun z => z hw), plU_s hu eu p6]
          exact if_pos ⟨w3, c⟩
        refine ps_goto rfl ?_
        refine ps_istore rfl rfl ?_
        refine ps_iload rfl rfl ?_
        refine ps_ift rfl (by decide) ?_
        exact bad 5 I2 s2 (by decide) ea q2 l2 (cFk_m k2 hu eu)
      · refine ps_goto rfl ?_
        refine ps_istore rfl rfl ?_
        exact fin u I2 s2 hu eu (fun _ => ⟨c, sk⟩) q2 l2 k2
    · refine ps_iload rfl rfl ?_
      refine pw_c rfl ?_
      refine ps_icmpt rfl (decide_eq_true w3) ?_
      refine ps_aload rfl rfl ?_
      refine pv_k rfl rfl rfl rfl rfl rfl rfl ⟨Nat.zero_le _, Nat.zero_le _⟩ ?_
      refine B_lookX hb h0 hF ok ku (fun z => ?_) (fun u I1 s1 hu eu q l k => ?_)
      · refine ps_istore rfl rfl ?_
        refine ps_iload rfl rfl ?_
        refine ps_ift rfl (by decide) ?_
        exact bad 2 I s (by decide) (e2 z) qS_r lkS_r hF
      · refine ps_istore rfl rfl ?_
        exact fin u I1 s1 hu eu (fun z => absurd z w3) q l k
  by_cases hw1 : w.toInt < 0
  · refine ps_iload rfl rfl ?_
    refine ps_ift rfl (decide_eq_true ((i_lt _ _).mpr (by omega))) ?_
    exact no (by omega)
  · by_cases hw2 : 7 < w.toInt
    · refine ps_iload rfl rfl ?_
      refine ps_iff rfl (decide_eq_false (fun z => by have := (i_lt _ _).mp z; omega)) ?_
      refine ps_iload rfl rfl ?_
      refine pw_c rfl ?_
      refine ps_icmpf rfl (decide_eq_false (fun z => by have := (i_le _ _).mp z; omega)) ?_
      exact no (by omega)
    · refine ps_iload rfl rfl ?_
      refine ps_iff rfl (decide_eq_false (fun z => by have := (i_lt _ _).mp z; omega)) ?_
      refine ps_iload rfl rfl ?_
      refine pw_c rfl ?_
      refine ps_icmpt rfl (decide_eq_true ((i_le _ _).mpr (by omega))) ?_
      exact go (by omega)

theorem B_peak8 (hb : isB b) (h0 : s 0 = some b) (hF : cFF b B s I) (ok : B.ok) (ku : okU B.S B.ps) (w : Int32) (kk : ∀ r I' s', r = exv (qPeak B w) → qS b I I' → lkS s s' → cFF b B s' I' → Q [.int r] (I', L, g_R s', 306)) : pm_W (g_P ys) 146 0 [.ref 0, .int w, .retAddr 0] [] (I, L, g_R s, 306) (0, 0) Q := by
  have bb := isB_b hb
  have p6 := ok.1
  have e0 : (0 : Int32).toInt = 0 := rfl
  have ec1 : (1 : Int32).toInt = 1 := rfl
  have ec2 : (2 : Int32).toInt = 2 := rfl
  have ec3 : (3 : Int32).toInt = 3 := rfl
  have ec5 : (5 : Int32).toInt = 5 := rfl
  have ec7 : (7 : Int32).toInt = 7 := rfl
  have ec20 : (20 : Int32).toInt = 20 := rfl
  have ec99 : (99 : Int32).toInt = 99 := rfl
  have ec500 : (500 : Int32).toInt = 500 := rfl
  have ec65536 : (65536 : Int32).toInt = 65536 := rfl
  have ecm : (-1 : Int32).toInt = -1 := by decide
  have hS5 : ∀ s, ∀ I L, pm_sh (g_P ys) (I, L, g_R s, 306) 255 = some (.inl 10) := fun _ _ _ => rfl
  have no : ¬ (0 ≤ w.toInt ∧ w.toInt ≤ 3) → pm_W (g_P ys) 146 9 [.ref 0, .int w, .retAddr 0] [] (I, L, g_R s, 306) (0, 0) Q := by
    intro z
    refine ps_aload rfl rfl ?_
    refine pw_c rfl ?_
    refine pv_k rfl rfl rfl rfl rfl (by first | exact hS0 _ _ | exact hS1 _ _ | exact hS2 _ _ | exact hS3 _ _ | exact hS4 _ _ | exact hS5 _ _ | exact hS6 _ _ | exact hS7 _ _ | exact hS8 _ _ | exact hS9 _ _ | exact hS10 _ _ | exact hS11 _ _ | exact hS12 _ _ | exact hS13 _ _ | exact hS14 _ _ | exact hS15 _ _ | exact hS16 _ _ | exact hS17 _ _ | exact hS18 _ _ | exact hS19 _ _ | exact hS20 _ _ | exact hS21 _ _ | exact hS22 _ _ | exact hS23 _ _ | assumption | rfl) rfl ⟨Nat.zero_le _, Nat.zero_le _⟩ ?_
    refine B_refuse ?_
    refine ps_iret rfl rfl ?_
    exact kk _ _ s (by unfold qPeak; rw [if_pos z]; rfl) qS_u lkS_r (cF_st hb hF ok)
  have go : (0 ≤ w.toInt ∧ w.toInt ≤ 3) → pm_W (g_P ys) 146 15 [.ref 0, .int w, .retAddr 0] [] (I, L, g_R s, 306) (0, 0) Q := by
    intro hw
    refine ps_aload rfl rfl ?_
    refine pv_k rfl rfl rfl rfl rfl rfl rfl ⟨Nat.zero_le _, Nat.zero_le _⟩ ?_
    refine B_lookX hb h0 hF ok ku (fun z => ?_) (fun u I1 s1 hu eu q l k => ?_)
    · have ea : qPeak B w = .error 2 := by
        unfold qPeak
        rw [if_neg (fun z => z hw), plU_n z]
      refine ps_istore rfl rfl ?_
      refine ps_iload rfl rfl ?_
      refine ps_iff rfl (by decide) ?_
      refine ps_aload rfl rfl ?_
      refine ps_iload rfl rfl ?_
      refine pv_k rfl rfl rfl rfl rfl (by first | exact hS0 _ _ | exact hS1 _ _ | exact hS2 _ _ | exact hS3 _ _ | exact hS4 _ _ | exact hS5 _ _ | exact hS6 _ _ | exact hS7 _ _ | exact hS8 _ _ | exact hS9 _ _ | exact hS10 _ _ | exact hS11 _ _ | exact hS12 _ _ | exact hS13 _ _ | exact hS14 _ _ | exact hS15 _ _ | exact hS16 _ _ | exact hS17 _ _ | exact hS18 _ _ | exact hS19 _ _ | exact hS20 _ _ | exact hS21 _ _ | exact hS22 _ _ | exact hS23 _ _ | assumption | rfl) rfl ⟨Nat.zero_le _, Nat.zero_le _⟩ ?_
      refine B_refuse ?_
      refine ps_iret rfl rfl ?_
      exact kk _ _ s (by rw [ea]; rfl) qS_u lkS_r (cF_st hb hF ok)
    · have V := cFk_V hb k ok hu
      have hp := V.2.1
      have h13 : g_R s1 255 13 = some (b + 17 + 4 * u) := k.2.2.2.2.1
      obtain ⟨hS10, hS11, hS12, hS13, hR15, hR16, hR17⟩ := pl_F (ys := ys) (s := s1) hp
      have hP := cBq_p k.1 hu
      have kn := k.2.2.2.2.2.2
      have ea : qPeak B w = .ok (if w = 3 then tgF (decF (B.pl u) (shadF (B.pl u) B.S)) ((B.pl u).w * (B.pl u).v) else fgF (B.pl u) (decF (B.pl u) (shadF (B.pl u) B.S)) w) := by
        unfold qPeak
        rw [if_neg (fun z => z hw), plU_s hu eu p6]
      refine ps_istore rfl rfl ?_
      refine ps_iload rfl rfl ?_
      refine ps_ift rfl (by decide) ?_
      refine ps_aload rfl rfl ?_
      refine ps_gfr 0 8 rfl rfl rfl (by first | exact hS0 _ _ | exact hS1 _ _ | exact hS2 _ _ | exact hS3 _ _ | exact hS4 _ _ | exact hS5 _ _ | exact hS6 _ _ | exact hS7 _ _ | exact hS8 _ _ | exact hS9 _ _ | exact hS10 _ _ | exact hS11 _ _ | exact hS12 _ _ | exact hS13 _ _ | exact hS14 _ _ | exact hS15 _ _ | exact hS16 _ _ | exact hS17 _ _ | exact hS18 _ _ | exact hS19 _ _ | exact hS20 _ _ | exact hS21 _ _ | exact hS22 _ _ | exact hS23 _ _ | assumption | rfl) rfl ( rfl) ?_
      refine pv_k rfl rfl rfl rfl rfl (hS5 _ _ _) rfl ⟨Nat.zero_le _, Nat.zero_le _⟩ ?_
      refine B_decodeX V.1 hp V.2.2.2.1 hP kn.1 kn.2.1 (fun I2 o2 d2 => ?_)
      have ko := kn_d kn o2 d2
      have V2 := cV_k V ko
      obtain ⟨f2, q2⟩ := cFk_o hb k ok ko
      by_cases w3 : w = 3
      · rw [if_pos w3] at ea
        refine ps_iload rfl rfl ?_
        refine pw_c rfl ?_
        refine ps_icmpf rfl (decide_eq_false (fun z => z w3)) ?_
        refine ps_aload rfl rfl ?_
        refine ps_aload rfl rfl ?_
        refine ps_gfr 0 8 rfl rfl rfl (by first | exact hS0 _ _ | exact hS1 _ _ | exact hS2 _ _ | exact hS3 _ _ | exact hS4 _ _ | exact hS5 _ _ | exact hS6 _ _ | exact hS7 _ _ | exact hS8 _ _ | exact hS9 _ _ | exact hS10 _ _ | exact hS11 _ _ | exact hS12 _ _ | exact hS13 _ _ | exact hS14 _ _ | exact hS15 _ _ | exact hS16 _ _ | exact hS17 _ _ | exact hS18 _ _ | exact hS19 _ _ | exact hS20 _ _ | exact hS21 _ _ | exact hS22 _ _ | exact hS23 _ _ | assumption | rfl) rfl ( rfl) ?_
        refine ps_aload rfl rfl ?_
        refine ps_gfr 0 8 rfl rfl rfl (by first | exact hS0 _ _ | exact hS1 _ _ | exact hS2 _ _ | exact hS3 _ _ | exact hS4 _ _ | exact hS5 _ _ | exact hS6 _ _ | exact hS7 _ _ | exact hS8 _ _ | exact hS9 _ _ | exact hS10 _ _ | exact hS11 _ _ | exact hS12 _ _ | exact hS13 _ _ | exact hS14 _ _ | exact hS15 _ _ | exact hS16 _ _ | exact hS17 _ _ | exact hS18 _ _ | exact hS19 _ _ | exact hS20 _ _ | exact hS21 _ _ | exact hS22 _ _ | exact hS23 _ _ | assumption | rfl) rfl ( rfl) ?_
        refine ps_gfr 10 4 rfl rfl rfl (by first | exact hS0 _ _ | exact hS1 _ _ | exact hS2 _ _ | exact hS3 _ _ | exact hS4 _ _ | exact hS5 _ _ | exact hS6 _ _ | exact hS7 _ _ | exact hS8 _ _ | exact hS9 _ _ | exact hS10 _ _ | exact hS11 _ _ | exact hS12 _ _ | exact hS13 _ _ | exact hS14 _ _ | exact hS15 _ _ | exact hS16 _ _ | exact hS17 _ _ | exact hS18 _ _ | exact hS19 _ _ | exact hS20 _ _ | exact hS21 _ _ | exact hS22 _ _ | exact hS23 _ _ | assumption | rfl) rfl ( rfl) ?_
        refine pv_k rfl rfl rfl rfl rfl (hS5 _ _ _) rfl ⟨Nat.zero_le _, Nat.zero_le _⟩ ?_
        refine B_timesGreatestX (r := 4) V2 (by omega) d2.2 ?_
        refine pv_k rfl rfl rfl rfl rfl (by first | exact hS0 _ _ | exact hS1 _ _ | exact hS2 _ _ | exact hS3 _ _ | exact hS4 _ _ | exact hS5 _ _ | exact hS6 _ _ | exact hS7 _ _ | exact hS8 _ _ | exact hS9 _ _ | exact hS10 _ _ | exact hS11 _ _ | exact hS12 _ _ | exact hS13 _ _ | exact hS14 _ _ | exact hS15 _ _ | exact hS16 _ _ | exact hS17 _ _ | exact hS18 _ _ | exact hS19 _ _ | exact hS20 _ _ | exact hS21 _ _ | exact hS22 _ _ | exact hS23 _ _ | assumption | rfl) rfl ⟨Nat.zero_le _, Nat.zero_le _⟩ ?_
        refine B_answer ?_
        refine ps_iret rfl rfl ?_
        exact kk _ _ s1 (by rw [ea]; rfl) (qS_t (qS_t q q2) qS_u) l (cF_st hb (cFk_m f2 hu eu) ok)
      · rw [if_neg w3] at ea
        refine ps_iload rfl rfl ?_
        refine pw_c rfl ?_
        refine ps_icmpt rfl (decide_eq_true w3) ?_
        refine ps_aload rfl rfl ?_
        refine ps_aload rfl rfl ?_
        refine ps_gfr 0 8 rfl rfl rfl (by first | exact hS0 _ _ | exact hS1 _ _ | exact hS2 _ _ | exact hS3 _ _ | exact hS4 _ _ | exact hS5 _ _ | exact hS6 _ _ | exact hS7 _ _ | exact hS8 _ _ | exact hS9 _ _ | exact hS10 _ _ | exact hS11 _ _ | exact hS12 _ _ | exact hS13 _ _ | exact hS14 _ _ | exact hS15 _ _ | exact hS16 _ _ | exact hS17 _ _ | exact hS18 _ _ | exact hS19 _ _ | exact hS20 _ _ | exact hS21 _ _ | exact hS22 _ _ | exact hS23 _ _ | assumption | rfl) rfl ( rfl) ?_
        refine ps_aload rfl rfl ?_
        refine ps_gfr 0 8 rfl rfl rfl (by first | exact hS0 _ _ | exact hS1 _ _ | exact hS2 _ _ | exact hS3 _ _ | exact hS4 _ _ | exact hS5 _ _ | exact hS6 _ _ | exact hS7 _ _ | exact hS8 _ _ | exact hS9 _ _ | exact hS10 _ _ | exact hS11 _ _ | exact hS12 _ _ | exact hS13 _ _ | exact hS14 _ _ | exact hS15 _ _ | exact hS16 _ _ | exact hS17 _ _ | exact hS18 _ _ | exact hS19 _ _ | exact hS20 _ _ | exact hS21 _ _ | exact hS22 _ _ | exact hS23 _ _ | assumption | rfl) rfl ( rfl) ?_
        refine ps_gfr 10 4 rfl rfl rfl (by first | exact hS0 _ _ | exact hS1 _ _ | exact hS2 _ _ | exact hS3 _ _ | exact hS4 _ _ | exact hS5 _ _ | exact hS6 _ _ | exact hS7 _ _ | exact hS8 _ _ | exact hS9 _ _ | exact hS10 _ _ | exact hS11 _ _ | exact hS12 _ _ | exact hS13 _ _ | exact hS14 _ _ | exact hS15 _ _ | exact hS16 _ _ | exact hS17 _ _ | exact hS18 _ _ | exact hS19 _ _ | exact hS20 _ _ | exact hS21 _ _ | exact hS22 _ _ | exact hS23 _ _ | assumption | rfl) rfl ( rfl) ?_
        refine ps_iload rfl rfl ?_
        refine pv_k rfl rfl rfl rfl rfl (hS5 _ _ _) rfl ⟨Nat.zero_le _, Nat.zero_le _⟩ ?_
        refine B_figureOfGreatestX (r := 4) V2 (by omega) d2.2 w ?_
        refine pv_k rfl rfl rfl rfl rfl (by first | exact hS0 _ _ | exact hS1 _ _ | exact hS2 _ _ | exact hS3 _ _ | exact hS4 _ _ | exact hS5 _ _ | exact hS6 _ _ | exact hS7 _ _ | exact hS8 _ _ | exact hS9 _ _ | exact hS10 _ _ | exact hS11 _ _ | exact hS12 _ _ | exact hS13 _ _ | exact hS14 _ _ | exact hS15 _ _ | exact hS16 _ _ | exact hS17 _ _ | exact hS18 _ _ | exact hS19 _ _ | exact hS20 _ _ | exact hS21 _ _ | exact hS22 _ _ | exact hS23 _ _ | assumption | rfl) rfl ⟨Nat.zero_le _, Nat.zero_le _⟩ ?_
        refine B_answer ?_
        refine ps_iret rfl rfl ?_
        exact kk _ _ s1 (by rw [ea]; rfl) (qS_t (qS_t q q2) qS_u) l (cF_st hb (cFk_m f2 hu eu) ok)
  by_cases hw1 : w.toInt < 0
  · refine ps_iload rfl rfl ?_
    refine ps_ift rfl (decide_eq_true ((i_lt _ _).mpr (by omega))) ?_
    exact no (by omega)
  · by_cases hw2 : 3 < w.toInt
    · refine ps_iload rfl rfl ?_
      refine ps_iff rfl (decide_eq_false (fun z => by have := (i_lt _ _).mp z; omega)) ?_
      refine ps_iload rfl rfl ?_
      refine pw_c rfl ?_
      refine ps_icmpf rfl (decide_eq_false (fun z => by have := (i_le _ _).mp z; omega)) ?_
      exact no (by omega)
    · refine ps_iload rfl rfl ?_
      refine ps_iff rfl (decide_eq_false (fun z => by have := (i_lt _ _).mp z; omega)) ?_
      refine ps_iload rfl rfl ?_
      refine pw_c rfl ?_
      refine ps_icmpt rfl (decide_eq_true ((i_le _ _).mpr (by omega))) ?_
      exact go (by omega)

theorem nI_m1 {k : Nat} (h : k < 1000) : ¬ nI k = -1 := fun z => by
  have := congrArg Int32.toInt z
  rw [nI_toInt (by omega)] at this
  have e : (-1 : Int32).toInt = -1 := rfl
  omega
theorem B_found8 (hb : isB b) (h0 : s 0 = some b) (hF : cFF b B s I) (ok : B.ok) (ku : okU B.S B.ps) (k w : Int32) (kk : ∀ r I' s', r = exv (qFound B k w) → qS b I I' → lkS s s' → cFF b B s' I' → Q [.int r] (I', L, g_R s', 306)) : pm_W (g_P ys) 151 0 [.ref 0, .int k, .int w, .retAddr 0] [] (I, L, g_R s, 306) (0, 0) Q := by
  have bb := isB_b hb
  have p6 := ok.1
  have e0 : (0 : Int32).toInt = 0 := rfl
  have ec1 : (1 : Int32).toInt = 1 := rfl
  have ec2 : (2 : Int32).toInt = 2 := rfl
  have ec3 : (3 : Int32).toInt = 3 := rfl
  have ec5 : (5 : Int32).toInt = 5 := rfl
  have ec7 : (7 : Int32).toInt = 7 := rfl
  have ec20 : (20 : Int32).toInt = 20 := rfl
  have ec99 : (99 : Int32).toInt = 99 := rfl
  have ec500 : (500 : Int32).toInt = 500 := rfl
  have ec65536 : (65536 : Int32).toInt = 65536 := rfl
  have ecm : (-1 : Int32).toInt = -1 := by decide
  have hS5 : ∀ s, ∀ I L, pm_sh (g_P ys) (I, L, g_R s, 306) 255 = some (.inl 10) := fun _ _ _ => rfl
  have em : (-1 : Int32).toInt = -1 := rfl
  have no : ¬ (gdF k w) → pm_W (g_P ys) 151 23 [.ref 0, .int k, .int w, .retAddr 0] [] (I, L, g_R s, 306) (0, 0) Q := by
    intro z
    refine ps_aload rfl rfl ?_
    refine pw_c rfl ?_
    refine pv_k rfl rfl rfl rfl rfl (by first | exact hS0 _ _ | exact hS1 _ _ | exact hS2 _ _ | exact hS3 _ _ | exact hS4 _ _ | exact hS5 _ _ | exact hS6 _ _ | exact hS7 _ _ | exact hS8 _ _ | exact hS9 _ _ | exact hS10 _ _ | exact hS11 _ _ | exact hS12 _ _ | exact hS13 _ _ | exact hS14 _ _ | exact hS15 _ _ | exact hS16 _ _ | exact hS17 _ _ | exact hS18 _ _ | exact hS19 _ _ | exact hS20 _ _ | exact hS21 _ _ | exact hS22 _ _ | exact hS23 _ _ | assumption | rfl) rfl ⟨Nat.zero_le _, Nat.zero_le _⟩ ?_
    refine B_refuse ?_
    refine ps_iret rfl rfl ?_
    exact kk _ _ s (by unfold qFound; rw [if_pos z]; rfl) qS_u lkS_r (cF_st hb hF ok)
  have go : gdF k w → pm_W (g_P ys) 151 29 [.ref 0, .int k, .int w, .retAddr 0] [] (I, L, g_R s, 306) (0, 0) Q := by
    intro hw
    have bad : ∀ (e : Int32) I1 s1, ¬ e = 0 → qFound B k w = .error e → qS b I I1 → lkS s s1 → cFF b B s1 I1 → pm_W (g_P ys) 151 33 [.ref 0, .int k, .int w, .retAddr 0] [.int e] (I1, L, g_R s1, 306) (0, 0) Q := by
      intro e I1 s1 he ea q l f
      refine ps_istore rfl rfl ?_
      refine ps_iload rfl rfl ?_
      refine ps_iff rfl (decide_eq_false he) ?_
      refine ps_aload rfl rfl ?_
      refine ps_iload rfl rfl ?_
      refine pv_k rfl rfl rfl rfl rfl (by first | exact hS0 _ _ | exact hS1 _ _ | exact hS2 _ _ | exact hS3 _ _ | exact hS4 _ _ | exact hS5 _ _ | exact hS6 _ _ | exact hS7 _ _ | exact hS8 _ _ | exact hS9 _ _ | exact hS10 _ _ | exact hS11 _ _ | exact hS12 _ _ | exact hS13 _ _ | exact hS14 _ _ | exact hS15 _ _ | exact hS16 _ _ | exact hS17 _ _ | exact hS18 _ _ | exact hS19 _ _ | exact hS20 _ _ | exact hS21 _ _ | exact hS22 _ _ | exact hS23 _ _ | assumption | rfl) rfl ⟨Nat.zero_le _, Nat.zero_le _⟩ ?_
      refine B_refuse ?_
      refine ps_iret rfl rfl ?_
      exact kk _ _ s1 (by rw [ea]; rfl) (qS_t q qS_u) l (cF_st hb f ok)
    refine ps_aload rfl rfl ?_
    refine pv_k rfl rfl rfl rfl rfl rfl rfl ⟨Nat.zero_le _, Nat.zero_le _⟩ ?_
    refine B_lookResX hb h0 hF ok ku (fun z => ?_) (fun u I2 s2 hu eu c q2 l2 k2 => ?_) (fun u I2 s2 hu eu c q2 l2 k2 sk => ?_)
    · exact bad 2 I s (by decide) (by unfold qFound; rw [if_neg (fun z => z hw), plU_n z]) qS_r lkS_r hF
    · exact bad 5 I2 s2 (by decide) (by unfold qFound; rw [if_neg (fun z => z hw), plU_s hu eu p6]; exact if_pos c) q2 l2 (cFk_m k2 hu eu)
    · have V := cFk_V hb k2 ok hu
      have hp := V.2.1
      have h13 : g_R s2 255 13 = some (b + 17 + 4 * u) := k2.2.2.2.2.1
      obtain ⟨hS10, hS11, hS12, hS13, hR15, hR16, hR17⟩ := pl_F (ys := ys) (s := s2) hp
      have hP := cBq_p k2.1 hu
      have kn := k2.2.2.2.2.2.2
      have ea : qFound B k w = if k = -1 then .ok (nI (fdN (B.pl u) B.S)) else if (fdN (B.pl u) B.S : Int) ≤ k.toInt then .error 5 else .ok (if w = 2 then fnC (B.pl u) B.S k.toInt.toNat else xyF (B.pl u) (fnP (B.pl u) B.S k.toInt.toNat) w) := by
        unfold qFound
        rw [if_neg (fun z => z hw), plU_s hu eu p6]
        exact if_neg (fun z => z c)
      have n8 := fdN_le (P := B.pl u) (S := B.S)
      refine ps_istore rfl rfl ?_
      refine ps_iload rfl rfl ?_
      refine ps_ift rfl (by decide) ?_
      refine ps_aload rfl rfl ?_
      refine ps_gfr 0 8 rfl rfl rfl (by first | exact hS0 _ _ | exact hS1 _ _ | exact hS2 _ _ | exact hS3 _ _ | exact hS4 _ _ | exact hS5 _ _ | exact hS6 _ _ | exact hS7 _ _ | exact hS8 _ _ | exact hS9 _ _ | exact hS10 _ _ | exact hS11 _ _ | exact hS12 _ _ | exact hS13 _ _ | exact hS14 _ _ | exact hS15 _ _ | exact hS16 _ _ | exact hS17 _ _ | exact hS18 _ _ | exact hS19 _ _ | exact hS20 _ _ | exact hS21 _ _ | exact hS22 _ _ | exact hS23 _ _ | assumption | rfl) rfl ( rfl) ?_
      refine pv_k rfl rfl rfl rfl rfl (hS5 _ _ _) rfl ⟨Nat.zero_le _, Nat.zero_le _⟩ ?_
      refine B_seekSourcesX V sk kn.1 kn.2.1 kn.2.2.1 (fun I3 r3 g3 d3 => ?_)
      have ko := kn_s kn (fun a j z1 z2 => r3 a j (by omega) (by omega) (by omega) (by omega) z2) g3 d3
      have V3 := cV_k V ko
      obtain ⟨f3, q3⟩ := cFk_o hb k2 ok ko
      have hP3 := cBq_p f3.1 hu
      have w0 := hP3.1.2.2.2.1
      have v0 := hP3.1.2.2.2.2.1
      have n9 := hP3.1.2.2.2.2.2
      have n0 : 0 < (B.pl u).w * (B.pl u).v := Nat.mul_pos w0 v0
      have hS16 : ∀ I L, pm_sh (g_P ys) (I, L, g_R s2, 306) 263 = some (.inr (0, 8)) := fun _ _ => rfl
      have hS17 : ∀ I L, pm_sh (g_P ys) (I, L, g_R s2, 306) 264 = some (.inr (0, 8)) := fun _ _ => rfl
      by_cases k1 : k = -1
      · rw [if_pos k1] at ea
        refine ps_iload rfl rfl ?_
        refine pw_c rfl ?_
        refine ps_icmpf rfl (decide_eq_false (fun z => z k1)) ?_
        refine ps_aload rfl rfl ?_
        refine ps_aload rfl rfl ?_
        refine ps_gfr 0 8 rfl rfl rfl (by first | exact hS0 _ _ | exact hS1 _ _ | exact hS2 _ _ | exact hS3 _ _ | exact hS4 _ _ | exact hS5 _ _ | exact hS6 _ _ | exact hS7 _ _ | exact hS8 _ _ | exact hS9 _ _ | exact hS10 _ _ | exact hS11 _ _ | exact hS12 _ _ | exact hS13 _ _ | exact hS14 _ _ | exact hS15 _ _ | exact hS16 _ _ | exact hS17 _ _ | exact hS18 _ _ | exact hS19 _ _ | exact hS20 _ _ | exact hS21 _ _ | exact hS22 _ _ | exact hS23 _ _ | assumption | rfl) rfl ( rfl) ?_
        refine ps_gfi 10 9 rfl rfl rfl (by first | exact hS0 _ _ | exact hS1 _ _ | exact hS2 _ _ | exact hS3 _ _ | exact hS4 _ _ | exact hS5 _ _ | exact hS6 _ _ | exact hS7 _ _ | exact hS8 _ _ | exact hS9 _ _ | exact hS10 _ _ | exact hS11 _ _ | exact hS12 _ _ | exact hS13 _ _ | exact hS14 _ _ | exact hS15 _ _ | exact hS16 _ _ | exact hS17 _ _ | exact hS18 _ _ | exact hS19 _ _ | exact hS20 _ _ | exact hS21 _ _ | exact hS22 _ _ | exact hS23 _ _ | assumption | rfl) rfl ?_
        rw [show ((I3, L, g_R s2, 306) : pm_H).1 255 9 = nI (fdN (B.pl u) B.S) from g3.2.1]
        refine pv_k rfl rfl rfl rfl rfl (by first | exact hS0 _ _ | exact hS1 _ _ | exact hS2 _ _ | exact hS3 _ _ | exact hS4 _ _ | exact hS5 _ _ | exact hS6 _ _ | exact hS7 _ _ | exact hS8 _ _ | exact hS9 _ _ | exact hS10 _ _ | exact hS11 _ _ | exact hS12 _ _ | exact hS13 _ _ | exact hS14 _ _ | exact hS15 _ _ | exact hS16 _ _ | exact hS17 _ _ | exact hS18 _ _ | exact hS19 _ _ | exact hS20 _ _ | exact hS21 _ _ | exact hS22 _ _ | exact hS23 _ _ | assumption | rfl) rfl ⟨Nat.zero_le _, Nat.zero_le _⟩ ?_
        refine B_answer ?_
        refine ps_iret rfl rfl ?_
        exact kk _ _ s2 (by rw [ea]; rfl) (qS_t (qS_t q2 q3) qS_u) l2 (cF_st hb (cFk_m f3 hu eu) ok)
      · rw [if_neg k1] at ea
        have kp : 0 ≤ k.toInt := by
          have : ¬ k.toInt = -1 := fun z => k1 ((i_eq _ _).mpr (z.trans em.symm))
          have := hw.1
          omega
        obtain ⟨i, hi⟩ : ∃ i, i = k.toInt.toNat := ⟨_, rfl⟩
        have ek := nI_oz hi kp
        by_cases kn' : (fdN (B.pl u) B.S : Int) ≤ k.toInt
        · rw [if_pos kn'] at ea
          refine ps_iload rfl rfl ?_
          refine pw_c rfl ?_
          refine ps_icmpt rfl (decide_eq_true k1) ?_
          refine ps_iload rfl rfl ?_
          refine ps_aload rfl rfl ?_
          refine ps_gfr 0 8 rfl rfl rfl (by first | exact hS0 _ _ | exact hS1 _ _ | exact hS2 _ _ | exact hS3 _ _ | exact hS4 _ _ | exact hS5 _ _ | exact hS6 _ _ | exact hS7 _ _ | exact hS8 _ _ | exact hS9 _ _ | exact hS10 _ _ | exact hS11 _ _ | exact hS12 _ _ | exact hS13 _ _ | exact hS14 _ _ | exact hS15 _ _ | exact hS16 _ _ | exact hS17 _ _ | exact hS18 _ _ | exact hS19 _ _ | exact hS20 _ _ | exact hS21 _ _ | exact hS22 _ _ | exact hS23 _ _ | assumption | rfl) rfl ( rfl) ?_
          refine ps_gfi 10 9 rfl rfl rfl (by first | exact hS0 _ _ | exact hS1 _ _ | exact hS2 _ _ | exact hS3 _ _ | exact hS4 _ _ | exact hS5 _ _ | exact hS6 _ _ | exact hS7 _ _ | exact hS8 _ _ | exact hS9 _ _ | exact hS10 _ _ | exact hS11 _ _ | exact hS12 _ _ | exact hS13 _ _ | exact hS14 _ _ | exact hS15 _ _ | exact hS16 _ _ | exact hS17 _ _ | exact hS18 _ _ | exact hS19 _ _ | exact hS20 _ _ | exact hS21 _ _ | exact hS22 _ _ | exact hS23 _ _ | assumption | rfl) rfl ?_
          rw [show ((I3, L, g_R s2, 306) : pm_H).1 255 9 = nI (fdN (B.pl u) B.S) from g3.2.1]
          refine ps_icmpf rfl (decide_eq_false (fun z => by have z := (i_lt _ _).mp z; rw [nI_toInt (by omega)] at z; omega)) ?_
          refine ps_aload rfl rfl ?_
          refine pw_c rfl ?_
          refine pv_k rfl rfl rfl rfl rfl (by first | exact hS0 _ _ | exact hS1 _ _ | exact hS2 _ _ | exact hS3 _ _ | exact hS4 _ _ | exact hS5 _ _ | exact hS6 _ _ | exact hS7 _ _ | exact hS8 _ _ | exact hS9 _ _ | exact hS10 _ _ | exact hS11 _ _ | exact hS12 _ _ | exact hS13 _ _ | exact hS14 _ _ | exact hS15 _ _ | exact hS16 _ _ | exact hS17 _ _ | exact hS18 _ _ | exact hS19 _ _ | exact hS20 _ _ | exact hS21 _ _ | exact hS22 _ _ | exact hS23 _ _ | assumption | rfl) rfl ⟨Nat.zero_le _, Nat.zero_le _⟩ ?_
          refine B_refuse ?_
          refine ps_iret rfl rfl ?_
          exact kk _ _ s2 (by rw [ea]; rfl) (qS_t (qS_t q2 q3) qS_u) l2 (cF_st hb (cFk_m f3 hu eu) ok)
        · rw [if_neg kn', ← hi] at ea
          have il : i < fdN (B.pl u) B.S := by omega
          refine ps_iload rfl rfl ?_
          refine pw_c rfl ?_
          refine ps_icmpt rfl (decide_eq_true k1) ?_
          refine ps_iload rfl rfl ?_
          refine ps_aload rfl rfl ?_
          refine ps_gfr 0 8 rfl rfl rfl (by first | exact hS0 _ _ | exact hS1 _ _ | exact hS2 _ _ | exact hS3 _ _ | exact hS4 _ _ | exact hS5 _ _ | exact hS6 _ _ | exact hS7 _ _ | exact hS8 _ _ | exact hS9 _ _ | exact hS10 _ _ | exact hS11 _ _ | exact hS12 _ _ | exact hS13 _ _ | exact hS14 _ _ | exact hS15 _ _ | exact hS16 _ _ | exact hS17 _ _ | exact hS18 _ _ | exact hS19 _ _ | exact hS20 _ _ | exact hS21 _ _ | exact hS22 _ _ | exact hS23 _ _ | assumption | rfl) rfl ( rfl) ?_
          refine ps_gfi 10 9 rfl rfl rfl (by first | exact hS0 _ _ | exact hS1 _ _ | exact hS2 _ _ | exact hS3 _ _ | exact hS4 _ _ | exact hS5 _ _ | exact hS6 _ _ | exact hS7 _ _ | exact hS8 _ _ | exact hS9 _ _ | exact hS10 _ _ | exact hS11 _ _ | exact hS12 _ _ | exact hS13 _ _ | exact hS14 _ _ | exact hS15 _ _ | exact hS16 _ _ | exact hS17 _ _ | exact hS18 _ _ | exact hS19 _ _ | exact hS20 _ _ | exact hS21 _ _ | exact hS22 _ _ | exact hS23 _ _ | assumption | rfl) rfl ?_
          rw [show ((I3, L, g_R s2, 306) : pm_H).1 255 9 = nI (fdN (B.pl u) B.S) from g3.2.1]
          subst ek
          by_cases w2 : w = 2
          · rw [if_pos w2] at ea
            refine ps_icmpt rfl (decide_eq_true ((nI_ltI (by omega) (by omega)).mpr (by omega))) ?_
            refine ps_iload rfl rfl ?_
            refine pw_c rfl ?_
            refine ps_icmpf rfl (decide_eq_false (fun z => z w2)) ?_
            refine ps_aload rfl rfl ?_
            refine ps_aload rfl rfl ?_
            refine ps_gfr 0 8 rfl rfl rfl (by first | exact hS0 _ _ | exact hS1 _ _ | exact hS2 _ _ | exact hS3 _ _ | exact hS4 _ _ | exact hS5 _ _ | exact hS6 _ _ | exact hS7 _ _ | exact hS8 _ _ | exact hS9 _ _ | exact hS10 _ _ | exact hS11 _ _ | exact hS12 _ _ | exact hS13 _ _ | exact hS14 _ _ | exact hS15 _ _ | exact hS16 _ _ | exact hS17 _ _ | exact hS18 _ _ | exact hS19 _ _ | exact hS20 _ _ | exact hS21 _ _ | exact hS22 _ _ | exact hS23 _ _ | assumption | rfl) rfl ( rfl) ?_
            refine ps_gfr 10 8 rfl rfl rfl (by first | exact hS0 _ _ | exact hS1 _ _ | exact hS2 _ _ | exact hS3 _ _ | exact hS4 _ _ | exact hS5 _ _ | exact hS6 _ _ | exact hS7 _ _ | exact hS8 _ _ | exact hS9 _ _ | exact hS10 _ _ | exact hS11 _ _ | exact hS12 _ _ | exact hS13 _ _ | exact hS14 _ _ | exact hS15 _ _ | exact hS16 _ _ | exact hS17 _ _ | exact hS18 _ _ | exact hS19 _ _ | exact hS20 _ _ | exact hS21 _ _ | exact hS22 _ _ | exact hS23 _ _ | assumption | rfl) rfl ( rfl) ?_
            refine ps_iload rfl rfl ?_
            refine ps_iald (i) rfl (by first | exact hS0 _ _ | exact hS1 _ _ | exact hS2 _ _ | exact hS3 _ _ | exact hS4 _ _ | exact hS5 _ _ | exact hS6 _ _ | exact hS7 _ _ | exact hS8 _ _ | exact hS9 _ _ | exact hS10 _ _ | exact hS11 _ _ | exact hS12 _ _ | exact hS13 _ _ | exact hS14 _ _ | exact hS15 _ _ | exact hS16 _ _ | exact hS17 _ _ | exact hS18 _ _ | exact hS19 _ _ | exact hS20 _ _ | exact hS21 _ _ | exact hS22 _ _ | exact hS23 _ _ | assumption | rfl) rfl (rfl) (by omega) ?_
            rw [show ((I3, L, g_R s2, 306) : pm_H).1 264 i = fnC (B.pl u) B.S i from (g3.2.2 i il).2]
            refine pv_k rfl rfl rfl rfl rfl (by first | exact hS0 _ _ | exact hS1 _ _ | exact hS2 _ _ | exact hS3 _ _ | exact hS4 _ _ | exact hS5 _ _ | exact hS6 _ _ | exact hS7 _ _ | exact hS8 _ _ | exact hS9 _ _ | exact hS10 _ _ | exact hS11 _ _ | exact hS12 _ _ | exact hS13 _ _ | exact hS14 _ _ | exact hS15 _ _ | exact hS16 _ _ | exact hS17 _ _ | exact hS18 _ _ | exact hS19 _ _ | exact hS20 _ _ | exact hS21 _ _ | exact hS22 _ _ | exact hS23 _ _ | assumption | rfl) rfl ⟨Nat.zero_le _, Nat.zero_le _⟩ ?_
            refine B_answer ?_
            refine ps_iret rfl rfl ?_
            exact kk _ _ s2 (by rw [ea]; rfl) (qS_t (qS_t q2 q3) qS_u) l2 (cF_st hb (cFk_m f3 hu eu) ok)
          · rw [if_neg w2] at ea
            have p9 : fnP (B.pl u) B.S i < (B.pl u).w * (B.pl u).v := pgF_lt n0
            refine ps_icmpt rfl (decide_eq_true ((nI_ltI (by omega) (by omega)).mpr (by omega))) ?_
            refine ps_iload rfl rfl ?_
            refine pw_c rfl ?_
            refine ps_icmpt rfl (decide_eq_true w2) ?_
            refine ps_aload rfl rfl ?_
            refine ps_aload rfl rfl ?_
            refine ps_gfr 0 8 rfl rfl rfl (by first | exact hS0 _ _ | exact hS1 _ _ | exact hS2 _ _ | exact hS3 _ _ | exact hS4 _ _ | exact hS5 _ _ | exact hS6 _ _ | exact hS7 _ _ | exact hS8 _ _ | exact hS9 _ _ | exact hS10 _ _ | exact hS11 _ _ | exact hS12 _ _ | exact hS13 _ _ | exact hS14 _ _ | exact hS15 _ _ | exact hS16 _ _ | exact hS17 _ _ | exact hS18 _ _ | exact hS19 _ _ | exact hS20 _ _ | exact hS21 _ _ | exact hS22 _ _ | exact hS23 _ _ | assumption | rfl) rfl ( rfl) ?_
            refine ps_gfr 10 13 rfl rfl rfl (by first | exact hS0 _ _ | exact hS1 _ _ | exact hS2 _ _ | exact hS3 _ _ | exact hS4 _ _ | exact hS5 _ _ | exact hS6 _ _ | exact hS7 _ _ | exact hS8 _ _ | exact hS9 _ _ | exact hS10 _ _ | exact hS11 _ _ | exact hS12 _ _ | exact hS13 _ _ | exact hS14 _ _ | exact hS15 _ _ | exact hS16 _ _ | exact hS17 _ _ | exact hS18 _ _ | exact hS19 _ _ | exact hS20 _ _ | exact hS21 _ _ | exact hS22 _ _ | exact hS23 _ _ | assumption | rfl) rfl ( h13) ?_
            refine ps_aload rfl rfl ?_
            refine ps_gfr 0 8 rfl rfl rfl (by first | exact hS0 _ _ | exact hS1 _ _ | exact hS2 _ _ | exact hS3 _ _ | exact hS4 _ _ | exact hS5 _ _ | exact hS6 _ _ | exact hS7 _ _ | exact hS8 _ _ | exact hS9 _ _ | exact hS10 _ _ | exact hS11 _ _ | exact hS12 _ _ | exact hS13 _ _ | exact hS14 _ _ | exact hS15 _ _ | exact hS16 _ _ | exact hS17 _ _ | exact hS18 _ _ | exact hS19 _ _ | exact hS20 _ _ | exact hS21 _ _ | exact hS22 _ _ | exact hS23 _ _ | assumption | rfl) rfl ( rfl) ?_
            refine ps_gfr 10 7 rfl rfl rfl (by first | exact hS0 _ _ | exact hS1 _ _ | exact hS2 _ _ | exact hS3 _ _ | exact hS4 _ _ | exact hS5 _ _ | exact hS6 _ _ | exact hS7 _ _ | exact hS8 _ _ | exact hS9 _ _ | exact hS10 _ _ | exact hS11 _ _ | exact hS12 _ _ | exact hS13 _ _ | exact hS14 _ _ | exact hS15 _ _ | exact hS16 _ _ | exact hS17 _ _ | exact hS18 _ _ | exact hS19 _ _ | exact hS20 _ _ | exact hS21 _ _ | exact hS22 _ _ | exact hS23 _ _ | assumption | rfl) rfl ( rfl) ?_
            refine ps_iload rfl rfl ?_
            refine ps_iald (i) rfl (by first | exact hS0 _ _ | exact hS1 _ _ | exact hS2 _ _ | exact hS3 _ _ | exact hS4 _ _ | exact hS5 _ _ | exact hS6 _ _ | exact hS7 _ _ | exact hS8 _ _ | exact hS9 _ _ | exact hS10 _ _ | exact hS11 _ _ | exact hS12 _ _ | exact hS13 _ _ | exact hS14 _ _ | exact hS15 _ _ | exact hS16 _ _ | exact hS17 _ _ | exact hS18 _ _ | exact hS19 _ _ | exact hS20 _ _ | exact hS21 _ _ | exact hS22 _ _ | exact hS23 _ _ | assumption | rfl) rfl (rfl) (by omega) ?_
            rw [show ((I3, L, g_R s2, 306) : pm_H).1 263 i = nI (fnP (B.pl u) B.S i) from (g3.2.2 i il).1]
            refine ps_iload rfl rfl ?_
            refine pv_k rfl rfl rfl rfl rfl (hS10 _ _) rfl ⟨Nat.zero_le _, Nat.zero_le _⟩ ?_
            refine B_xOrYX hp hP3.1 (by omega) w ?_
            refine pv_k rfl rfl rfl rfl rfl (by first | exact hS0 _ _ | exact hS1 _ _ | exact hS2 _ _ | exact hS3 _ _ | exact hS4 _ _ | exact hS5 _ _ | exact hS6 _ _ | exact hS7 _ _ | exact hS8 _ _ | exact hS9 _ _ | exact hS10 _ _ | exact hS11 _ _ | exact hS12 _ _ | exact hS13 _ _ | exact hS14 _ _ | exact hS15 _ _ | exact hS16 _ _ | exact hS17 _ _ | exact hS18 _ _ | exact hS19 _ _ | exact hS20 _ _ | exact hS21 _ _ | exact hS22 _ _ | exact hS23 _ _ | assumption | rfl) rfl ⟨Nat.zero_le _, Nat.zero_le _⟩ ?_
            refine B_answer ?_
            refine ps_iret rfl rfl ?_
            exact kk _ _ s2 (by rw [ea]; rfl) (qS_t (qS_t q2 q3) qS_u) l2 (cF_st hb (cFk_m f3 hu eu) ok)
  by_cases c1 : k.toInt < -1
  · refine ps_iload rfl rfl ?_
    refine pw_c rfl ?_
    refine ps_icmpt rfl (decide_eq_true ((i_lt _ _).mpr (by omega))) ?_
    exact no (fun z => by have := z.1; omega)
  · by_cases c2 : w.toInt < 0
    · refine ps_iload rfl rfl ?_
      refine pw_c rfl ?_
      refine ps_icmpf rfl (decide_eq_false (fun z => by have := (i_lt _ _).mp z; omega)) ?_
      refine ps_iload rfl rfl ?_
      refine ps_ift rfl (decide_eq_true ((i_lt _ _).mpr (by omega))) ?_
      exact no (fun z => by have := z.2.1; omega)
    · by_cases c3 : 2 < w.toInt
      · refine ps_iload rfl rfl ?_
        refine pw_c rfl ?_
        refine ps_icmpf rfl (decide_eq_false (fun z => by have := (i_lt _ _).mp z; omega)) ?_
        refine ps_iload rfl rfl ?_
        refine ps_iff rfl (decide_eq_false (fun z => by have := (i_lt _ _).mp z; omega)) ?_
        refine ps_iload rfl rfl ?_
        refine pw_c rfl ?_
        refine ps_icmpt rfl (decide_eq_true ((i_lt _ _).mpr (by omega))) ?_
        exact no (fun z => by have := z.2.1; omega)
      · by_cases c4 : k = -1
        · by_cases c5 : w = 0
          · refine ps_iload rfl rfl ?_
            refine pw_c rfl ?_
            refine ps_icmpf rfl (decide_eq_false (fun z => by have := (i_lt _ _).mp z; omega)) ?_
            refine ps_iload rfl rfl ?_
            refine ps_iff rfl (decide_eq_false (fun z => by have := (i_lt _ _).mp z; omega)) ?_
            refine ps_iload rfl rfl ?_
            refine pw_c rfl ?_
            refine ps_icmpf rfl (decide_eq_false (fun z => by have := (i_lt _ _).mp z; omega)) ?_
            refine ps_iload rfl rfl ?_
            refine pw_c rfl ?_
            refine ps_icmpf rfl (decide_eq_false (fun z => z c4)) ?_
            refine ps_iload rfl rfl ?_
            refine ps_ift rfl (decide_eq_true c5) ?_
            exact go ⟨by omega, by omega, fun _ => c5⟩
          · refine ps_iload rfl rfl ?_
            refine pw_c rfl ?_
            refine ps_icmpf rfl (decide_eq_false (fun z => by have := (i_lt _ _).mp z; omega)) ?_
            refine ps_iload rfl rfl ?_
            refine ps_iff rfl (decide_eq_false (fun z => by have := (i_lt _ _).mp z; omega)) ?_
            refine ps_iload rfl rfl ?_
            refine pw_c rfl ?_
            refine ps_icmpf rfl (decide_eq_false (fun z => by have := (i_lt _ _).mp z; omega)) ?_
            refine ps_iload rfl rfl ?_
            refine pw_c rfl ?_
            refine ps_icmpf rfl (decide_eq_false (fun z => z c4)) ?_
            refine ps_iload rfl rfl ?_
            refine ps_iff rfl (decide_eq_false c5) ?_
            exact no (fun z => c5 (z.2.2 c4))
        · refine ps_iload rfl rfl ?_
          refine pw_c rfl ?_
          refine ps_icmpf rfl (decide_eq_false (fun z => by have := (i_lt _ _).mp z; omega)) ?_
          refine ps_iload rfl rfl ?_
          refine ps_iff rfl (decide_eq_false (fun z => by have := (i_lt _ _).mp z; omega)) ?_
          refine ps_iload rfl rfl ?_
          refine pw_c rfl ?_
          refine ps_icmpf rfl (decide_eq_false (fun z => by have := (i_lt _ _).mp z; omega)) ?_
          refine ps_iload rfl rfl ?_
          refine pw_c rfl ?_
          refine ps_icmpt rfl (decide_eq_true c4) ?_
          exact go ⟨by omega, by omega, fun z => absurd z c4⟩
end TS
