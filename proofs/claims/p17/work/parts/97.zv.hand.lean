/-! BY HAND: scene and PLATES of both sides: what holds between calls, and what keeps it -/
section SN
variable {I I' I1 I2 J : Nat → Nat → Int32} {L : Nat → Nat → Int64} {s : Nat → Option Nat} {Q : List Value → pm_H → Prop} {ys : List Int32} {ps m n q b f : Nat} {S S' : sS} {H H' : Nat → sS} {B : sB} {h h' : pm_H}
/-- which PLATE is used -/
def okU (S : sS) (ps : Nat) : Prop := ∃ u, S.us = nI u ∧ (u < ps ∨ u = 0)
theorem xLn1_us {f : Nat → Int32} {J : Nat → Nat → Int32} {c t u : Nat} {B' : sB} (o : okU B.S B.ps) (h : xLn1 f J c B t = .ok (u, B')) : okU B'.S B'.ps := by
  obtain ⟨v, v1, v2⟩ := o
  have thr : ∀ {q u : Nat} {B' : sB}, xThr J B q t = .ok (u, B') → okU B'.S B'.ps := by
    intro q u B' h
    unfold xThr at h
    split at h
    · unfold xThg at h
      split at h
      · cases h
      · split at h
        · cases h
        · split at h
          · cases h
            exact ⟨v, v1, v2⟩
          · split at h
            · cases h
            · cases h
              exact ⟨v, v1, v2⟩
    · cases h
  unfold xLn1 at h
  split at h
  · split at h
    · unfold xPlt at h
      split at h
      · split at h
        · split at h
          · cases h
          · cases e : xFrm f J c B (J 10 (t + 1)) (t + 2) with
            | error e' => rw [e] at h; cases h
            | ok a =>
              rw [e] at h
              cases h
              exact ⟨v, v1, by show v < B.ps + 1 ∨ v = 0; omega⟩
        · cases h
      · cases h
    split at h
    · exact thr h
    split at h
    · exact thr h
    split at h
    · exact thr h
    split at h
    · cases e : xNum J 0 99 (t + 1) with
      | error e' => rw [e] at h; cases h
      | ok a =>
        rw [e] at h
        cases h
        exact ⟨v, v1, v2⟩
    split at h
    · cases e : xNam J B (t + 1) with
      | error e' => rw [e] at h; cases h
      | ok a =>
        rw [e] at h
        cases h
        exact ⟨a, rfl, Or.inl (xNam_lt e)⟩
    · cases h
  · cases h
theorem xTxt_us {f : Nat → Int32} {J : Nat → Nat → Int32} {c : Nat} : ∀ {d : Nat} {B B' : sB} {t : Nat}, okU B.S B.ps → xTxt f J c d B t = .ok B' → okU B'.S B'.ps
  | 0, B, B', t, o, e => by
    cases e
    exact o
  | d + 1, B, B', t, o, e => by
    rw [xTxt] at e
    split at e
    · cases e
      exact o
    · cases el : xLin f J c B t with
      | error e' => rw [el] at e; cases e
      | ok a =>
        obtain ⟨u, B1⟩ := a
        rw [el] at e
        have o1 : okU B1.S B1.ps := by
          unfold xLin at el
          cases e1 : xLn1 f J c B t with
          | error e' => rw [e1] at el; cases el
          | ok a =>
            obtain ⟨u1, B2⟩ := a
            rw [e1] at el
            have el : (if J 7 u1 = 5 then .ok (u1 + 1, B2) else .error (eK J u1, u1)) = (.ok (u, B1) : sR (Nat × sB)) := el
            split at el
            · cases el
              exact xLn1_us o e1
            · cases el
        exact xTxt_us o1 e
/-- the class's PLATES, whatever it knows of SIDES -/
def cBq (b : Nat) (B : sB) (I : Nat → Nat → Int32) : Prop := I b 3 = nI B.ps ∧ ∀ k, k < B.ps → cP I (b + 17 + 4 * k) (B.pl k).w (B.pl k).v ∧ I (b + 17 + 4 * k) 3 = (B.pl k).nm ∧ I (b + 17 + 4 * k) 7 = suI (B.pl k).ho ((B.pl k).w * (B.pl k).v) ∧ I (b + 17 + 4 * k) 8 = suI (B.pl k).we ((B.pl k).w * (B.pl k).v) ∧ ∀ i, i < (B.pl k).w * (B.pl k).v → I (b + 17 + 4 * k + 1) i = (B.pl k).ho i ∧ I (b + 17 + 4 * k + 2) i = (B.pl k).we i
theorem cBp_q (h : cBp b B I) : cBq b B I := ⟨h.1, fun k hk => ⟨(h.2 k hk).1.1, (h.2 k hk).2.1, (h.2 k hk).2.2.1, (h.2 k hk).2.2.2, (h.2 k hk).1.2.2⟩⟩
def okW (B : sB) (H : Nat → sS) (m : Nat) : Prop := B.ok ∧ okU B.S B.ps ∧ ∀ i, i < m → (H i).ok ∧ okU (H i) B.ps
def KC (b : Nat) (B : sB) (H : Nat → sS) (m f : Nat) (I : Nat → Nat → Int32) : Prop := cBq b B I ∧ cSc (b + 2) B.S I ∧ cHs H m f I
def KM (B : sB) (H : Nat → sS) (m : Nat) (I : Nat → Nat → Int32) : Prop := mBp B I ∧ mSc 288 0 B.S I ∧ mHs H m I
def RS (h : pm_H) : Prop := ∃ b0 b1 B H m f, Rw h b0 b1 ∧ okW B H m ∧ KC b0 B H m f h.1 ∧ KM B H m h.1
theorem okW_S (o : okW B H m) : B.S.ok := fun q hq => sB.ok_n o.1 hq
/-- kept rows whole; kept places -/
def kpF : List Nat := [15, 16, 17, 18, 19, 20, 21, 27, 28, 29, 30, 31, 32, 33, 37, 38, 53, 55, 57, 63, 65]
def kpP : List (Nat × Nat × Nat) := [(13, 1, 2), (25, 3, 3), (36, 3, 8), (50, 14, 14), (50, 19, 19)]
def kpt (a j : Nat) : Bool := (kpF.elem (xtg a) && Nat.ble j 100000) || kpP.any fun k => Nat.beq k.1 (xtg a) && (Nat.ble k.2.1 j && Nat.ble j k.2.2)
def relS (W : sx_W) : Bool := W.all fun q => (!kpF.elem q.1 || (decide (100000 < q.2.1) || decide (q.2.2 < 0))) && kpP.all fun k => !Nat.beq q.1 k.1 || (decide ((k.2.2 : Int) < q.2.1) || decide (q.2.2 < (k.2.1 : Int)))
theorem relS_o {W : sx_W} {D : Bool × Bool} (hW : relS W = true) (fr : sx_fr xtg xVP W D h h') (a j : Nat) (k : kpt a j = true) : h'.1 a j = h.1 a j := by
  refine fr.1 a j (fun z => ?_)
  obtain ⟨q, hm, e, l1, l2⟩ := z
  have w := List.all_eq_true.mp hW q hm
  rw [Bool.and_eq_true] at w
  obtain ⟨w1, w2⟩ := w
  unfold kpt at k
  rw [Bool.or_eq_true] at k
  rcases k with k | k
  · rw [Bool.and_eq_true] at k
    have k2 := Nat.le_of_ble_eq_true k.2
    rw [e, k.1, decide_eq_false (by omega), decide_eq_false (by omega)] at w1
    cases w1
  · obtain ⟨p, hp, kp⟩ := List.any_eq_true.mp k
    rw [Bool.and_eq_true, Bool.and_eq_true] at kp
    have w3 := List.all_eq_true.mp w2 p hp
    have e1 : p.1 = xtg a := Nat.eq_of_beq_eq_true kp.1
    have k1 := Nat.le_of_ble_eq_true kp.2.1
    have k2 := Nat.le_of_ble_eq_true kp.2.2
    rw [e, e1, Nat.beq_refl, decide_eq_false (by omega), decide_eq_false (by omega)] at w3
    cases w3
theorem kp_sc : (List.range 306).all (fun a => !((Nat.ble 14 a && Nat.ble a 169) || (Nat.ble 175 a && Nat.ble a 187) || (Nat.ble 216 a && Nat.ble a 228)) || kpF.elem (xtg a)) = true := by decide +kernel
theorem kpt_sc {a j : Nat} (h : (14 ≤ a ∧ a ≤ 169) ∨ (175 ≤ a ∧ a ≤ 187) ∨ (216 ≤ a ∧ a ≤ 228)) (hj : j ≤ 100000) : kpt a j = true := by
  have w := List.all_eq_true.mp kp_sc a (List.mem_range.mpr (by omega))
  have e : ((Nat.ble 14 a && Nat.ble a 169) || (Nat.ble 175 a && Nat.ble a 187) || (Nat.ble 216 a && Nat.ble a 228)) = true := by
    rw [Bool.or_eq_true, Bool.or_eq_true, Bool.and_eq_true, Bool.and_eq_true, Bool.and_eq_true]
    rcases h with h | h | h
    · exact Or.inl (Or.inl ⟨Nat.ble_eq_true_of_le h.1, Nat.ble_eq_true_of_le h.2⟩)
    · exact Or.inl (Or.inr ⟨Nat.ble_eq_true_of_le h.1, Nat.ble_eq_true_of_le h.2⟩)
    · exact Or.inr ⟨Nat.ble_eq_true_of_le h.1, Nat.ble_eq_true_of_le h.2⟩
  rw [e] at w
  have w : kpF.elem (xtg a) = true := w
  unfold kpt
  rw [w, Nat.ble_eq_true_of_le hj]
  rfl
theorem kpt_pl (hb : isB b) {k : Nat} (hk : k < 6) : (∀ j, 3 ≤ j → j ≤ 8 → kpt (b + 17 + 4 * k) j = true) ∧ (∀ j, j ≤ 100000 → kpt (b + 17 + 4 * k + 1) j = true ∧ kpt (b + 17 + 4 * k + 2) j = true) ∧ kpt b 3 = true := by
  have e : xtg (b + 17 + 4 * k) = 36 ∧ xtg (b + 17 + 4 * k + 1) = 37 ∧ xtg (b + 17 + 4 * k + 2) = 38 ∧ xtg b = 25 := by
    rcases hb with rfl | rfl <;> rcases (show k = 0 ∨ k = 1 ∨ k = 2 ∨ k = 3 ∨ k = 4 ∨ k = 5 by omega) with rfl | rfl | rfl | rfl | rfl | rfl <;> exact ⟨rfl, rfl, rfl, rfl⟩
  obtain ⟨e1, e2, e3, e4⟩ := e
  refine ⟨fun j h1 h2 => ?_, fun j hj => ⟨?_, ?_⟩, ?_⟩
  · unfold kpt
    rw [e1]
    have : ∀ j : Fin 9, 3 ≤ j.val → ((kpF.elem 36 && Nat.ble j.val 100000) || kpP.any fun k => Nat.beq k.1 36 && (Nat.ble k.2.1 j.val && Nat.ble j.val k.2.2)) = true := by decide
    exact this ⟨j, by omega⟩ h1
  · unfold kpt
    rw [e2, show kpF.elem 37 = true from rfl, Nat.ble_eq_true_of_le hj]
    rfl
  · unfold kpt
    rw [e3, show kpF.elem 38 = true from rfl, Nat.ble_eq_true_of_le hj]
    rfl
  · unfold kpt
    rw [e4]
    rfl
theorem kpt_f {a t j : Nat} (e : xtg a = t) (h : kpF.elem t = true) (hj : j ≤ 100000) : kpt a j = true := by
  unfold kpt
  rw [e, h, Nat.ble_eq_true_of_le hj]
  rfl
theorem cSc_k {e : Nat} (he : isE e) (h : cSc e S I) (ok : S.ok) (k : ∀ a j, kpt a j = true → I' a j = I a j) : cSc e S I' := by
  have r : ∀ a, e ≤ a → a ≤ e + 12 → (14 ≤ a ∧ a ≤ 169) ∨ (175 ≤ a ∧ a ≤ 187) ∨ (216 ≤ a ∧ a ≤ 228) := by
    intro a h1 h2
    rcases he with (rfl | rfl) | ⟨i, hi, rfl⟩ <;> omega
  obtain ⟨h1, h2, h3, h4⟩ := h
  refine ⟨fun q hq => (k _ _ (kpt_sc (r _ (by omega) (by omega)) (by decide))).trans (h1 q hq), (k _ _ (kpt_sc (r _ (by omega) (by omega)) (by decide))).trans h2, (k _ _ (kpt_sc (r _ (by omega) (by omega)) (by decide))).trans h3, fun q hq i hi j hj => (k _ _ (kpt_sc (r _ (by omega) (by omega)) ?_)).trans (h4 q hq i hi j hj)⟩
  have := ok q hq
  have := mst12 hq
  omega
theorem cBq_k (hb : isB b) (h : cBq b B I) (ok : B.ok) (k : ∀ a j, kpt a j = true → I' a j = I a j) : cBq b B I' := by
  obtain ⟨h1, h2⟩ := h
  refine ⟨(k _ _ (kpt_pl hb (k := 0) (by omega)).2.2).trans h1, fun i hi => ?_⟩
  have p6 := ok.1
  obtain ⟨k1, k2, _⟩ := kpt_pl hb (k := i) (by omega)
  obtain ⟨⟨g1, g2, g3, g4⟩, g5, g6, g7, g8⟩ := h2 i hi
  have sz := (ok.2.1 i hi).2.2.1
  refine ⟨⟨(k _ _ (k1 _ (by decide) (by decide))).trans g1, (k _ _ (k1 _ (by decide) (by decide))).trans g2, (k _ _ (k1 _ (by decide) (by decide))).trans g3, g4⟩, (k _ _ (k1 _ (by decide) (by decide))).trans g5, (k _ _ (k1 _ (by decide) (by decide))).trans g6, (k _ _ (k1 _ (by decide) (by decide))).trans g7, fun x hx => ⟨(k _ _ (k2 x (by omega)).1).trans (g8 x hx).1, (k _ _ (k2 x (by omega)).2).trans (g8 x hx).2⟩⟩
theorem KC_k (hb : isB b) (h : KC b B H m f I) (o : okW B H m) (k : ∀ a j, kpt a j = true → I' a j = I a j) : KC b B H m f I' := by
  obtain ⟨h1, h2, g1, g2, g3, g4, g5⟩ := h
  exact ⟨cBq_k hb h1 o.1 k, cSc_k (isE_b hb) h2 (okW_S o) k, g1, g2, (k _ _ rfl).trans g3, (k _ _ rfl).trans g4, fun i hi => cSc_k (isE_r (by omega)) (g5 i hi) (o.2.2 i hi).1 k⟩
theorem mBp_k (h : mBp B I) (ok : B.ok) (k : ∀ a j, kpt a j = true → I' a j = I a j) : mBp B I' := by
  obtain ⟨h1, h2⟩ := h
  refine ⟨(k _ _ rfl).trans h1, fun i hi => ?_⟩
  have p6 := ok.1
  have sz := (ok.2.1 i hi).2.2.1
  obtain ⟨g1, g2, g3⟩ := h2 i hi
  exact ⟨(k _ _ (kpt_f (t := 53) rfl rfl (by omega))).trans g1, (k _ _ (kpt_f (t := 53) rfl rfl (by omega))).trans g2, fun x hx => ⟨(k _ _ (kpt_f (t := 55) rfl rfl (by omega))).trans (g3 x hx).1, (k _ _ (kpt_f (t := 57) rfl rfl (by omega))).trans (g3 x hx).2⟩⟩
theorem KM_k (h : KM B H m I) (o : okW B H m) (k : ∀ a j, kpt a j = true → I' a j = I a j) : KM B H m I' := by
  obtain ⟨h1, h2, g1, g2, g3⟩ := h
  refine ⟨mBp_k h1 o.1 k, mSc_t h2 (okW_S o) (fun j hj => k _ _ (kpt_f (t := 63) rfl rfl (by omega))), g1, (k _ _ rfl).trans g2, fun i hi => mSc_t (g3 i hi) (o.2.2 i hi).1 (fun j hj => k _ _ (kpt_f (t := 65) rfl rfl (by omega)))⟩
theorem RS_fr {W : sx_W} {D : Bool × Bool} (hW : relS W = true ∧ D.1 = false) (fr : sx_fr xtg xVP W D h h') (r : RS h) : RS h' := by
  obtain ⟨b0, b1, B, H, m, f, rw_, o, kc, km⟩ := r
  have k := relS_o hW.1 fr
  exact ⟨b0, b1, B, H, m, f, Rw_fr hW.2 fr rw_, o, KC_k rw_.2.1 kc o k, KM_k km o k⟩
end SN
