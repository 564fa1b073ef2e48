/-! BY HAND: shadows, decoded rows, what is found: the model's way and the class's are one -/
section TZ
variable {P : sPl} {S : sS} {f g : Nat → Int32} {i j k sh pl : Nat}
abbrev p01 (P : sPl) : Prop := ∀ i, i < P.w * P.v → P.ho i = 0 ∨ P.ho i = 1
theorem ng_t {x : Int32} (h : 0 ≤ x.toInt ∧ x.toInt ≤ 100000) : (-x).toInt = -x.toInt := by
  have q := iI_neg x.toInt
  rw [← iI_of x] at q
  rw [q, iI_toInt (by omega) (by omega)]
theorem ng_s {x : Int32} {sh : Nat} (h : 0 ≤ x.toInt ∧ x.toInt ≤ 999) (hs : sh ≤ 2000) : (-(x + nI sh)).toInt = -(x.toInt + sh) := by
  have e := iI_add x.toInt sh
  rw [← iI_of x, iI_nat] at e
  rw [e, iI_neg, iI_toInt (by omega) (by omega)]
theorem msQ_th (h01 : p01 P) (on : okN S) (w0 : 0 < P.w) (v0 : 0 < P.v) (hs : sh ≤ 2000) : ∀ k, k ≤ S.n 0 → thR P S (nI sh) k i = msQ P S sh false (i % P.w) (i / P.w) k
  | 0, _ => rfl
  | k + 1, hk => by
    have b0 := on 0 (by omega) k (by omega) 0 (by omega)
    have b1 := on 0 (by omega) k (by omega) 1 (by omega)
    have e : shF P.w P.v (-(S.sc 0 k 0 + nI sh)).toInt (-(S.sc 0 k 1)).toInt i = cxy P.w P.v (((i % P.w : Nat) : Int) - (S.sc 0 k 0).toInt - sh) (((i / P.w : Nat) : Int) - (S.sc 0 k 1).toInt) := by
      unfold shF
      rw [ng_s b0 hs, ng_t ⟨b1.1, by omega⟩]
      congr 1 <;> omega
    have z := msQ_th h01 on w0 v0 hs k (by omega)
    have r := h01 _ (cxy_lt w0 v0 (((i % P.w : Nat) : Int) - (S.sc 0 k 0).toInt - sh) (((i / P.w : Nat) : Int) - (S.sc 0 k 1).toInt))
    rw [thR, msQ, e, z]
    rcases r with r | r
    · rw [r, Int32.mul_zero, Int32.add_zero, if_neg (by decide)]
    · rw [r, Int32.mul_one, if_pos (by decide)]
theorem whM_f (h01 : p01 P) (on : okN S) (w0 : 0 < P.w) (v0 : 0 < P.v) (hs : sh ≤ 2000) (hi : i < P.w * P.v) : whM P S sh false i = wholF P S (nI sh) i :=
  acR_c (P := P) (S := S) (q := 2) (n := P.w * P.v) (f := msR P S sh false) (g := thR P S (nI sh) (S.n 0)) (fun j _ => (msQ_th (i := j) h01 on w0 v0 hs (S.n 0) (Nat.le_refl _)).symm) (S.n 2) i hi
theorem shMM_f (h01 : p01 P) (on : okN S) (w0 : 0 < P.w) (v0 : 0 < P.v) (hs : sh ≤ 2000) (hi : i < P.w * P.v) : shMM P S sh false i = frR P S (nI sh) i := by
  unfold shMM frR
  rw [whM_f h01 on w0 v0 hs hi]
theorem shMM_0 (h01 : p01 P) (on : okN S) (w0 : 0 < P.w) (v0 : 0 < P.v) (hi : i < P.w * P.v) : shMM P S 0 false i = shadF P S i :=
  shMM_f h01 on w0 v0 (by omega) hi
theorem whM_0 (h01 : p01 P) (on : okN S) (w0 : 0 < P.w) (v0 : 0 < P.v) (hi : i < P.w * P.v) : whM P S 0 false i = wholF P S 0 i :=
  whM_f h01 on w0 v0 (by omega) hi
/-! the negative -/
theorem an_a0 (A B c : Int32) : A - (B + c) = A - B - c + 2 * c * 0 := by grind
theorem an_a1 (A B c : Int32) : A + c - B = A - B - c + 2 * c * 1 := by grind
theorem msQ_an (h01 : p01 P) (on : okN S) (w0 : 0 < P.w) (v0 : 0 < P.v) : ∀ k, k ≤ S.n 0 → msQ P S 0 false (i % P.w) (i / P.w) k - msQ P S 0 true (i % P.w) (i / P.w) k = anR P S k i
  | 0, _ => Int32.sub_self _
  | k + 1, hk => by
    have b0 := on 0 (by omega) k (by omega) 0 (by omega)
    have b1 := on 0 (by omega) k (by omega) 1 (by omega)
    have e : shF P.w P.v (-(S.sc 0 k 0)).toInt (-(S.sc 0 k 1)).toInt i = cxy P.w P.v (((i % P.w : Nat) : Int) - (S.sc 0 k 0).toInt - ((0 : Nat) : Int)) (((i / P.w : Nat) : Int) - (S.sc 0 k 1).toInt) := by
      unfold shF
      rw [ng_t ⟨b0.1, by omega⟩, ng_t ⟨b1.1, by omega⟩]
      congr 1 <;> omega
    have z := msQ_an h01 on w0 v0 k (by omega)
    have r := h01 _ (cxy_lt w0 v0 (((i % P.w : Nat) : Int) - (S.sc 0 k 0).toInt - ((0 : Nat) : Int)) (((i / P.w : Nat) : Int) - (S.sc 0 k 1).toInt))
    rw [anR, msQ, msQ, e, ← z]
    rcases r with r | r
    · rw [r, if_neg (by decide), if_pos (by decide)]
      exact an_a0 _ _ _
    · rw [r, if_pos (by decide), if_neg (by decide)]
      exact an_a1 _ _ _
theorem ac_a (a b c : Int32) : a + c - (b + c) = a - b := by grind
theorem acR_d {q : Nat} : ∀ k i, acR P S q f k i - acR P S q g k i = f i - g i
  | 0, _ => rfl
  | k + 1, i => by
    rw [acR, acR]
    by_cases e : i = cellF P (S.sc q k 0) (S.sc q k 1)
    · rw [if_pos e, if_pos e, ac_a]
      exact acR_d k i
    · rw [if_neg e, if_neg e]
      exact acR_d k i
theorem an_eq (h01 : p01 P) (on : okN S) (w0 : 0 < P.w) (v0 : 0 < P.v) : (if lostF P S i = 1 then 0 else shMM P S 0 false i - shMM P S 0 true i) = anF P S i := by
  unfold anF
  by_cases e : lostF P S i = 1
  · rw [if_pos e, if_pos e]
  · rw [if_neg e, if_neg e]
    unfold shMM
    rw [if_neg e, if_neg e]
    unfold whM
    rw [acR_d]
    exact msQ_an h01 on w0 v0 (S.n 0) (Nat.le_refl _)
/-! MOVED -/
theorem wtF_sub {x y : Nat} : wtF P (fun i => f i - g i) x y = wtF P f x y - wtF P g x y := by
  unfold wtF
  rw [← suI_sub]
  exact suI_congr (fun c _ => Int32.sub_mul)
theorem wtF_f {x y : Nat} (h : ∀ i, i < P.w * P.v → f i = g i) : wtF P f x y = wtF P g x y := by
  unfold wtF
  exact suI_congr (fun c hc => by rw [h c hc])
theorem decF_f (h : ∀ i, i < P.w * P.v → f i = g i) : decF P f = decF P g := by
  funext j
  unfold decF dcF
  exact suI_congr (fun c hc => by rw [h c hc])
theorem mov_eq : wtF P (wholF P S 0) (i % P.w) (i / P.w) - wtF P (shadF P S) (i % P.w) (i / P.w) = movF P S i := wtF_sub.symm
theorem fx_m {d m : Int32} (h : 0 ≤ m.toInt) : (if m < d then d else if m < -d then -d else m) = if m < absI d then absI d else m := by
  unfold absI
  have e0 : (0 : Int32).toInt = 0 := rfl
  by_cases h1 : d < 0
  · have h2 := (i_lt _ _).mp h1
    rw [if_pos h1, if_neg (fun z => by have z := (i_lt _ _).mp z; omega)]
  · have h2 : ¬ d.toInt < (0 : Int32).toInt := fun z => h1 ((i_lt _ _).mpr z)
    rw [if_neg h1]
    by_cases h3 : m < d
    · rw [if_pos h3, if_pos h3]
    · rw [if_neg h3, if_neg h3]
      refine if_neg (fun z => ?_)
      have z := (i_lt _ _).mp z
      have bd := i_bd d
      have q := iI_neg d.toInt
      rw [← iI_of d] at q
      rw [q, iI_toInt (by omega) (by omega)] at z
      omega
theorem fxF_nn : ∀ n, 0 ≤ (fxF f n).toInt
  | 0 => by
    show 0 ≤ (0 : Int32).toInt
    decide
  | n + 1 => by
    have ih := fxF_nn n
    rw [fxF]
    split
    · rename_i h
      have := (i_lt _ _).mp h
      omega
    · exact ih
theorem ffF_nn : ∀ n, 0 ≤ (ffF P S g n).toInt
  | 0 => by
    show 0 ≤ (0 : Int32).toInt
    decide
  | n + 1 => by
    have ih := ffF_nn n
    rw [ffF]
    split
    · split
      · rename_i h
        have := (i_lt _ _).mp h
        omega
      · exact ih
    · exact ih
/-! sums, all turned -/
theorem on_01 (h01 : p01 P) (w0 : 0 < P.w) (v0 : 0 < P.v) (i : Nat) : onF P pl i = 0 ∨ onF P pl i = 1 := h01 _ (cxy_lt w0 v0 _ _)
theorem on_turn (w0 : 0 < P.w) (v0 : 0 < P.v) (F : Nat → Int32) (pl : Nat) : suI (fun i => F (cxy P.w P.v (((i % P.w : Nat) : Int) - ((pl % P.w : Nat) : Int)) (((i / P.w : Nat) : Int) - ((pl / P.w : Nat) : Int)))) (P.w * P.v) = suI F (P.w * P.v) := by
  rw [← suI_turn (f := F) w0 v0 (-((pl % P.w : Nat) : Int)) (-((pl / P.w : Nat) : Int))]
  exact suI_congr (fun i _ => by rw [Int.sub_eq_add_neg, Int.sub_eq_add_neg])
theorem on_all (w0 : 0 < P.w) (v0 : 0 < P.v) : suI (fun i => onF P pl i) (P.w * P.v) = hoP P := on_turn w0 v0 P.ho pl
theorem on_sd (h01 : p01 P) (w0 : 0 < P.w) (v0 : 0 < P.v) (j : Nat) : suI (fun i => onF P pl i * P.we (mrF P.w P.v i j)) (P.w * P.v) = sdF P (mrF P.w P.v pl j) := by
  have z := on_turn w0 v0 (fun h => P.ho h * P.we (cxy P.w P.v (((h % P.w : Nat) : Int) + (((pl % P.w : Nat) : Int) - ((j % P.w : Nat) : Int))) (((h / P.w : Nat) : Int) + (((pl / P.w : Nat) : Int) - ((j / P.w : Nat) : Int))))) pl
  have e : suI (fun i => onF P pl i * P.we (mrF P.w P.v i j)) (P.w * P.v) = suI (fun i => (fun h => P.ho h * P.we (cxy P.w P.v (((h % P.w : Nat) : Int) + (((pl % P.w : Nat) : Int) - ((j % P.w : Nat) : Int))) (((h / P.w : Nat) : Int) + (((pl / P.w : Nat) : Int) - ((j / P.w : Nat) : Int))))) (cxy P.w P.v (((i % P.w : Nat) : Int) - ((pl % P.w : Nat) : Int)) (((i / P.w : Nat) : Int) - ((pl / P.w : Nat) : Int)))) (P.w * P.v) := suI_congr (fun i hi => by
    show onF P pl i * P.we (mrF P.w P.v i j) = P.ho (cxy P.w P.v (((i % P.w : Nat) : Int) - ((pl % P.w : Nat) : Int)) (((i / P.w : Nat) : Int) - ((pl / P.w : Nat) : Int))) * P.we (cxy P.w P.v (((cxy P.w P.v (((i % P.w : Nat) : Int) - ((pl % P.w : Nat) : Int)) (((i / P.w : Nat) : Int) - ((pl / P.w : Nat) : Int)) % P.w : Nat) : Int) + (((pl % P.w : Nat) : Int) - ((j % P.w : Nat) : Int))) (((cxy P.w P.v (((i % P.w : Nat) : Int) - ((pl % P.w : Nat) : Int)) (((i / P.w : Nat) : Int) - ((pl / P.w : Nat) : Int)) / P.w : Nat) : Int) + (((pl / P.w : Nat) : Int) - ((j / P.w : Nat) : Int))))
    rw [cxy_add w0 v0]
    unfold onF mrF
    rw [show ((i % P.w : Nat) : Int) - ((pl % P.w : Nat) : Int) + (((pl % P.w : Nat) : Int) - ((j % P.w : Nat) : Int)) = ((i % P.w : Nat) : Int) - ((j % P.w : Nat) : Int) by omega, show ((i / P.w : Nat) : Int) - ((pl / P.w : Nat) : Int) + (((pl / P.w : Nat) : Int) - ((j / P.w : Nat) : Int)) = ((i / P.w : Nat) : Int) - ((j / P.w : Nat) : Int) by omega])
  rw [e, z]
  unfold sdF ovF
  refine suI_congr (fun h hh => ?_)
  show P.ho h * P.we (cxy P.w P.v (((h % P.w : Nat) : Int) + (((pl % P.w : Nat) : Int) - ((j % P.w : Nat) : Int))) (((h / P.w : Nat) : Int) + (((pl / P.w : Nat) : Int) - ((j / P.w : Nat) : Int)))) = if P.ho h = 1 then P.we (cxy P.w P.v (((mrF P.w P.v pl j % P.w : Nat) : Int) + ((h % P.w : Nat) : Int)) (((mrF P.w P.v pl j / P.w : Nat) : Int) + ((h / P.w : Nat) : Int))) else 0
  unfold mrF
  rw [cxy_add w0 v0]
  rcases h01 h hh with q | q
  · rw [q, if_neg (by decide), Int32.zero_mul]
  · rw [q, if_pos rfl, Int32.one_mul, Int.add_comm ((h % P.w : Nat) : Int), Int.add_comm ((h / P.w : Nat) : Int)]
/-- one more that is found -/
theorem fm_a (A c W : Int32) : (A - c) * W = A * W - c * (1 * W) + 0 ∧ A * W = A * W - c * (0 * W) + 0 ∧ A * W = A * W - c * (1 * W) + c * W := ⟨by grind, by grind, by grind⟩
theorem fm_b (A c : Int32) : A - c = A - c * (1 - 0) ∧ A = A - c * (0 - 0) ∧ A = A - c * (1 - 1) := ⟨by grind, by grind, by grind⟩
theorem fm_i (h01 : p01 P) (w0 : 0 < P.w) (v0 : 0 < P.v) (W : Int32) : fmR P S (k + 1) i * W = fmR P S k i * W - fnC P S k * (onF P (fnP P S k) i * W) + (if loP P S (fnP P S k) i then fnC P S k * W else 0) := by
  obtain ⟨a1, a2, a3⟩ := fm_a (fmR P S k i) (fnC P S k) W
  rw [fmR]
  rcases lost_01 (P := P) (S := S) i with l | l <;> rcases on_01 (pl := fnP P S k) h01 w0 v0 i with o | o
  · rw [if_neg (fun z => absurd (o.symm.trans z.2) (by decide)), if_neg (fun z => absurd (l.symm.trans z.1) (by decide)), o]
    exact a2
  · rw [if_pos ⟨l, o⟩, if_neg (fun z => absurd (l.symm.trans z.1) (by decide)), o]
    exact a1
  · rw [if_neg (fun z => absurd (l.symm.trans z.1) (by decide)), if_neg (fun z => absurd (o.symm.trans z.2) (by decide)), o]
    exact a2
  · rw [if_neg (fun z => absurd (l.symm.trans z.1) (by decide)), if_pos ⟨l, o⟩, o]
    exact a3
theorem fm_j (h01 : p01 P) (w0 : 0 < P.w) (v0 : 0 < P.v) : fmR P S (k + 1) i = fmR P S k i - fnC P S k * (onF P (fnP P S k) i - (if loP P S (fnP P S k) i then 1 else 0)) := by
  obtain ⟨a1, a2, a3⟩ := fm_b (fmR P S k i) (fnC P S k)
  rw [fmR]
  rcases lost_01 (P := P) (S := S) i with l | l <;> rcases on_01 (pl := fnP P S k) h01 w0 v0 i with o | o
  · rw [if_neg (fun z => absurd (o.symm.trans z.2) (by decide)), if_neg (fun z => absurd (l.symm.trans z.1) (by decide)), o]
    exact a2
  · rw [if_pos ⟨l, o⟩, if_neg (fun z => absurd (l.symm.trans z.1) (by decide)), o]
    exact a1
  · rw [if_neg (fun z => absurd (l.symm.trans z.1) (by decide)), if_neg (fun z => absurd (o.symm.trans z.2) (by decide)), o]
    exact a2
  · rw [if_neg (fun z => absurd (l.symm.trans z.1) (by decide)), if_pos ⟨l, o⟩, o]
    exact a3
theorem fm_c (a c s l : Int32) : a - c * s + l = a + -c * s + l := by grind
theorem fm_dec (h01 : p01 P) (w0 : 0 < P.w) (v0 : 0 < P.v) (j : Nat) : decF P (fmR P S (k + 1)) j = tkF P S (fnP P S k) (fnC P S k) (decF P (fmR P S k)) j := by
  unfold tkF
  rw [← on_sd (pl := fnP P S k) h01 w0 v0 j, ← fm_c, ← suI_mul]
  show suI (fun c => fmR P S (k + 1) c * P.we (mrF P.w P.v c j)) (P.w * P.v) = suI (fun c => fmR P S k c * P.we (mrF P.w P.v c j)) (P.w * P.v) - _ + _
  rw [← suI_sub, ← suI_add]
  exact suI_congr (fun c _ => fm_i h01 w0 v0 _)
theorem fm_d (s c l b : Int32) : s - c * l - b = s - b - c * l := by grind
theorem fm_li (h01 : p01 P) (w0 : 0 < P.w) (v0 : 0 < P.v) (lc : Int32) : liF P S (fmR P S (k + 1)) lc = liF P S (fmR P S k) lc - fnC P S k * ltF P S (fnP P S k) := by
  have e : suI (fmR P S (k + 1)) (P.w * P.v) = suI (fmR P S k) (P.w * P.v) - fnC P S k * ltF P S (fnP P S k) := by
    unfold ltF
    rw [← on_all (pl := fnP P S k) w0 v0, ← suI_sub, ← suI_mul, ← suI_sub]
    exact suI_congr (fun c _ => fm_j h01 w0 v0)
  unfold liF
  rw [e]
  exact fm_d _ _ _ _
theorem fn_eq (h01 : p01 P) (w0 : 0 < P.w) (v0 : 0 < P.v) : ∀ k, (∀ j, j < P.w * P.v → (fnS P S k).1 j = decF P (fmR P S k) j) ∧ (fnS P S k).2 = liF P S (fmR P S k) (suI (lostF P S) (P.w * P.v))
  | 0 => ⟨fun _ _ => rfl, rfl⟩
  | k + 1 => by
    obtain ⟨i1, i2⟩ := fn_eq h01 w0 v0 k
    rw [fnS_s]
    refine ⟨fun j hj => (tkF_c i1 j hj).trans (fm_dec h01 w0 v0 j).symm, ?_⟩
    show (fnS P S k).2 - _ = _
    rw [i2, fm_li h01 w0 v0]
theorem fnP_m (h01 : p01 P) (w0 : 0 < P.w) (v0 : 0 < P.v) (k : Nat) : fnP P S k = pgF (decF P (fmR P S k)) (P.w * P.v) := pgF_c (fn_eq h01 w0 v0 k).1
theorem fnC_m (h01 : p01 P) (w0 : 0 < P.w) (v0 : 0 < P.v) (k : Nat) : fnC P S k = rsF P (decF P (fmR P S k) (fnP P S k)) (flF P S (liF P S (fmR P S k) (suI (lostF P S) (P.w * P.v)))) := by
  have n0 : 0 < P.w * P.v := Nat.mul_pos w0 v0
  have l : fnP P S k < P.w * P.v := pgF_lt (f := (fnS P S k).1) n0
  have e := fn_eq (S := S) h01 w0 v0 k
  unfold fnC
  rw [e.1 _ l, e.2]
/-! one CELL more that is LOST -/
theorem suI_one {F : Nat → Int32} : ∀ {n}, i < n → suI (fun c => if c = i then 0 else F c) n = suI F n - F i
  | 0, h => absurd h (by omega)
  | n + 1, h => by
    rw [suI_s, suI_s]
    by_cases e : n = i
    · rw [if_pos e, ← e, Int32.add_zero, Int32.add_sub_cancel]
      exact suI_congr (fun c hc => if_neg (by omega))
    · rw [if_neg e, suI_one (by omega)]
      have a : ∀ s x y : Int32, s - x + y = s + y - x := by intro s x y; grind
      exact a _ _ _
theorem suI_onep {F : Nat → Int32} (h0 : F i = 0) : ∀ {n}, i < n → suI (fun c => if c = i then 1 else F c) n = suI F n + 1
  | 0, h => absurd h (by omega)
  | n + 1, h => by
    rw [suI_s, suI_s]
    by_cases e : n = i
    · rw [if_pos e, e, h0, Int32.add_zero]
      congr 1
      exact suI_congr (fun c hc => if_neg (by omega))
    · rw [if_neg e, suI_onep h0 (by omega)]
      have a : ∀ s y : Int32, s + 1 + y = s + y + 1 := by intro s y; grind
      exact a _ _
theorem ws_dec (hi : i < P.w * P.v) (j : Nat) : decF P (fun c => if c = i then 0 else shadF P S c) j = wsR P S i j := by
  unfold wsR decF dcF
  have e : suI (fun c => (if c = i then 0 else shadF P S c) * P.we (mrF P.w P.v c j)) (P.w * P.v) = suI (fun c => if c = i then 0 else shadF P S c * P.we (mrF P.w P.v c j)) (P.w * P.v) := suI_congr (fun c _ => by
    by_cases e : c = i
    · rw [if_pos e, if_pos e, Int32.zero_mul]
    · rw [if_neg e, if_neg e])
  rw [e, suI_one (F := fun c => shadF P S c * P.we (mrF P.w P.v c j)) hi]
  have a : ∀ s x y : Int32, s - x * y = s + -x * y := by intro s x y; grind
  exact a _ _ _
theorem ws_li (hi : i < P.w * P.v) (l0 : lostF P S i = 0) : liF P S (fun c => if c = i then 0 else shadF P S c) (suI (fun c => if c = i then 1 else lostF P S c) (P.w * P.v)) = liS P S - (shadF P S i - S.bk) := by
  unfold liS liF
  rw [suI_one hi, suI_onep l0 hi]
  have a : ∀ s x b n l : Int32, s - x - b * (n - (l + 1)) = s - b * (n - l) - (x - b) := by intro s x b n l; grind
  exact a _ _ _ _ _
theorem ws_er (hi : i < P.w * P.v) (l0 : lostF P S i = 0) : erF P S (decF P (fun c => if c = i then 0 else shadF P S c)) (liF P S (fun c => if c = i then 0 else shadF P S c) (suI (fun c => if c = i then 1 else lostF P S c) (P.w * P.v))) = wsE P S i := by
  rw [ws_li hi l0]
  exact erF_c (fun j _ => ws_dec hi j)
/-! nothing LOST -/
theorem fil_li (row : Nat → Int32) : liF P S row (suI (fun _ => 0) (P.w * P.v)) = suI row (P.w * P.v) - S.bk * nI (P.w * P.v) := by
  unfold liF
  rw [suI_z, Int32.sub_zero]
/-! groups of CELLS -/
theorem co_ix {w m k x : Nat} (m0 : 0 < m) (h : w % m = 0) : w * (k / (w / m)) + m * (k % (w / m)) + x = k * m + x := by
  have e : w = m * (w / m) := by
    have := Nat.div_add_mod w m
    omega
  have d := Nat.div_add_mod k (w / m)
  generalize w / m = t at e d ⊢
  rw [e, Nat.mul_assoc, ← Nat.mul_add, d, Nat.mul_comm]
end TZ
