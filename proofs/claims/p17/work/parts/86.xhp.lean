/-! A RUN OVER AN UNKNOWN HEAP, seventh: reads and writes -/
/-- the least that is known of a place of a region -/
def sx_lw (σ : sx_S) (t k : Nat) : List ((Nat × Nat × Nat) × sx_V) → Bool
  | [] => false
  | q :: r => (Nat.beq q.1.2.1 t && Nat.beq q.1.2.2 k && (match sx_vi σ q.2 with
    | some b => decide (1 ≤ b.1)
    | none => false)) || sx_lw σ t k r
def sx_fg (T : sx_T) (E : sx_E) (t k : Nat) : List (Nat × Nat) := match sx_fl T t k with
  | some (t2, k2, l) => bif sx_lw E.1 t2 k2 E.2.2.2.2.1 then (E.2.1, l) :: E.2.2.1 else E.2.2.1
  | none => E.2.2.1
/-- an int at a place -/
def sx_r1 (T : sx_T) (E : sx_E) (i t k : Nat) : sx_V × sx_E := match sx_fdI T i t k E.2.2.2.2.1 with
  | some v => (sx_nm E.1 v, E)
  | none => (.inr (.inl (E.2.1, 0)), sx_nw E.1 E.2.1 (sx_rd (sx_sb T t) k k), E.2.1 + 1, sx_fg T E t k, E.2.2.2.1, ((i, t, k), .inr (.inl (E.2.1, 0))) :: E.2.2.2.2.1, E.2.2.2.2.2)
/-- an int somewhere from lo to hi -/
def sx_r2 (T : sx_T) (E : sx_E) (i t : Nat) (lo hi : Int) : sx_V × sx_E := bif decide (lo = hi) then sx_r1 T E i t lo.toNat else (.inr (.inl (E.2.1, 0)), sx_nw E.1 E.2.1 (sx_rd (sx_sb T t) lo hi), E.2.1 + 1, E.2.2)
section XH
variable {P : pm_P} {T : sx_T} {tg : Nat → Nat} {PH : pm_H → Prop} {VP : pm_H → Nat → Int → Prop} {ρ : List Int} {h : pm_H} {E : sx_E}
theorem sx_lw_ok {I : Nat → Nat → Int32} {σ : sx_S} (hρ : sx_in ρ σ) {t k : Nat} {K : List ((Nat × Nat × Nat) × sx_V)} (hK : sx_oI tg ρ I K) (e : sx_lw σ t k K = true) : ∃ b : Nat, tg b = t ∧ 1 ≤ (I b k).toInt := by
  induction K with
  | nil => cases e
  | cons q r ih =>
    rw [sx_lw, Bool.or_eq_true, Bool.and_eq_true, Bool.and_eq_true] at e
    rcases e with ⟨⟨e1, e2⟩, e3⟩ | e
    · obtain ⟨a, g1, g2, g3⟩ := hK q List.mem_cons_self
      split at e3
      · rename_i b hb
        obtain ⟨x, g4, g5⟩ := sx_vi_ok hρ hb g3
        cases g4
        have e4 := of_decide_eq_true e3
        refine ⟨a, g2.trans (Nat.eq_of_beq_eq_true e1), ?_⟩
        rw [← Nat.eq_of_beq_eq_true e2]
        omega
      · cases e3
    · exact ih (fun p hp => hK p (List.mem_cons_of_mem _ hp)) e
theorem sx_r1_ok (hC : sx_C P T tg PH VP) (ok : sx_ok tg VP ρ h E) (iv : sx_IV T tg PH h) {i t k a : Nat} (ha : ρ[i]? = some (a : Int)) (hat : tg a = t) : ∃ e, sx_ok tg VP (ρ ++ e) h (sx_r1 T E i t k).2 ∧ sx_ev tg (ρ ++ e) (sx_r1 T E i t k).1 = some (.int (h.1 a k)) := by
  unfold sx_r1
  split
  · rename_i v hv
    refine ⟨[], ?_, ?_⟩
    · rw [List.append_nil]; exact ok
    · rw [List.append_nil]; exact sx_nm_ev ok.2.1 (sx_fdI_ok hC ok.2.2.2.2.1 hv ha hat)
  · obtain ⟨σ, n, φ, ν, KI, KR⟩ := E
    have hb := sx_rd_ok (g := sx_sb T t) (lo := k) (hi := k) (x := h.1 a k) (k := k) (fun q hq h1 h2 => iv.1 a k q (by rw [hat]; exact hq) h1 h2) (Int.le_refl _) (Int.le_refl _)
    obtain ⟨k1, k2⟩ := sx_ok_new ok (h.1 a k) hb
    refine ⟨[(h.1 a k).toInt], ?_, k2⟩
    rw [sx_nw_eq]
    refine ⟨k1.1, k1.2.1, ?_, k1.2.2.2.1, ?_, k1.2.2.2.2.2⟩
    · show sx_oF VP _ h (sx_fg T (σ, n, φ, ν, KI, KR) t k)
      unfold sx_fg
      split
      · rename_i t2 k2' l hf
        cases e : sx_lw σ t2 k2' KI with
        | false => exact k1.2.2.1
        | true =>
          obtain ⟨b, g1, g2⟩ := sx_lw_ok (show sx_in ρ σ from ok.2.1) (show sx_oI tg ρ h.1 KI from ok.2.2.2.2.1) e
          have g3 := hC.2.2.2.2.1 h a k t2 k2' l b iv (by rw [hat]; exact hf) g1 g2
          intro q hq
          rcases List.mem_cons.mp hq with rfl | hq
          · refine ⟨(h.1 a k).toInt, ?_, g3⟩
            have := sx_get_new ρ (h.1 a k).toInt
            rw [show ρ.length = n from ok.1] at this
            exact this
          · exact k1.2.2.1 q hq
      · exact k1.2.2.1
    · intro q hq
      rcases List.mem_cons.mp hq with rfl | hq
      · exact ⟨a, sx_gm ha _, hat, k2⟩
      · exact k1.2.2.2.2.1 q hq
theorem sx_r2_ok (hC : sx_C P T tg PH VP) (ok : sx_ok tg VP ρ h E) (iv : sx_IV T tg PH h) {i t a : Nat} {lo hi : Int} {k : Nat} (h1 : lo ≤ (k : Int)) (h2 : (k : Int) ≤ hi) (ha : ρ[i]? = some (a : Int)) (hat : tg a = t) : ∃ e, sx_ok tg VP (ρ ++ e) h (sx_r2 T E i t lo hi).2 ∧ sx_ev tg (ρ ++ e) (sx_r2 T E i t lo hi).1 = some (.int (h.1 a k)) := by
  unfold sx_r2
  cases d : decide (lo = hi) with
  | true =>
    have d1 := of_decide_eq_true d
    have e : lo.toNat = k := by omega
    simp only [cond_true]
    rw [e]
    exact sx_r1_ok hC ok iv ha hat
  | false =>
    obtain ⟨σ, n, φ, ν, KI, KR⟩ := E
    have hb := sx_rd_ok (g := sx_sb T t) (lo := lo) (hi := hi) (x := h.1 a k) (k := k) (fun q hq h1 h2 => iv.1 a k q (by rw [hat]; exact hq) h1 h2) h1 h2
    obtain ⟨k1, k2⟩ := sx_ok_new ok (h.1 a k) hb
    refine ⟨[(h.1 a k).toInt], ?_, k2⟩
    simp only [cond_false]
    rw [sx_nw_eq]
    exact k1
/-- may an int within b be written from lo to hi -/
def sx_mw (T : sx_T) (W : sx_W) (t : Nat) (lo hi : Int) (b : Int × Int) : Bool := sx_wr (sx_sb T t) lo hi b && sx_pr T t lo hi && sx_wk W t lo hi
theorem pm_u_r (f : Nat → Nat → Int32) (a k : Nat) (x : Int32) : pm_u f a k x = pm_r f a (fun j => if j = k then x else f a j) := by
  funext b j
  unfold pm_u pm_r
  split
  · rename_i e; rw [e]
  · rfl
/-- a row that is changed from lo to hi alone, within bounds -/
theorem sx_mw_row (hC : sx_C P T tg PH VP) (iv : sx_IV T tg PH h) {W : sx_W} {D : Bool × Bool} {a t : Nat} {lo hi : Int} {b : Int × Int} (hw : sx_mw T W t lo hi b = true) (hat : tg a = t) {g : Nat → Int32} (h1 : ∀ k : Nat, ¬ (lo ≤ (k : Int) ∧ (k : Int) ≤ hi) → g k = h.1 a k) (h2 : ∀ k : Nat, lo ≤ (k : Int) → (k : Int) ≤ hi → g k = h.1 a k ∨ (b.1 ≤ (g k).toInt ∧ (g k).toInt ≤ b.2)) :
    sx_IV T tg PH (pm_sA h a g) ∧ sx_fr tg VP W D h (pm_sA h a g) ∧ ∀ c k : Nat, ¬ (tg c = t ∧ lo ≤ (k : Int) ∧ (k : Int) ≤ hi) → (pm_sA h a g).1 c k = h.1 c k := by
  unfold sx_mw at hw
  rw [Bool.and_eq_true, Bool.and_eq_true] at hw
  obtain ⟨⟨w1, w2⟩, w3⟩ := hw
  have p := hC.2.2.1 h a lo hi g iv.2.2.2 (by rw [hat]; exact w2) h1
  have same : ∀ c k : Nat, ¬ (tg c = t ∧ lo ≤ (k : Int) ∧ (k : Int) ≤ hi) → (pm_sA h a g).1 c k = h.1 c k := by
    intro c k hn
    show pm_r h.1 a g c k = _
    unfold pm_r
    split
    · rename_i e
      subst e
      exact h1 k (fun q => hn ⟨hat, q⟩)
    · rfl
  refine ⟨⟨?_, iv.2.1, iv.2.2.1, p.1⟩, ⟨?_, fun _ => p.2, fun _ => rfl⟩, same⟩
  · intro c k q hq k1 k2
    show q.2.2.1 ≤ (pm_r h.1 a g c k).toInt ∧ (pm_r h.1 a g c k).toInt ≤ q.2.2.2
    unfold pm_r
    split
    · rename_i e
      subst e
      by_cases hk : lo ≤ (k : Int) ∧ (k : Int) ≤ hi
      · rcases h2 k hk.1 hk.2 with e | e
        · rw [e]; exact iv.1 c k q hq k1 k2
        · exact sx_wr_ok w1 hk.1 hk.2 e.1 e.2 q (by rw [← hat]; exact hq) k1 k2
      · rw [h1 k hk]; exact iv.1 c k q hq k1 k2
    · exact iv.1 c k q hq k1 k2
  · intro c k hn
    exact same c k (fun q => hn (by rw [q.1]; exact sx_wk_ok w3 q.2.1 q.2.2))
/-- an int is written -/
theorem sx_mw_ok (hC : sx_C P T tg PH VP) (iv : sx_IV T tg PH h) {W : sx_W} {D : Bool × Bool} {a t k : Nat} {lo hi : Int} {b : Int × Int} (hw : sx_mw T W t lo hi b = true) (hat : tg a = t) (h1 : lo ≤ (k : Int)) (h2 : (k : Int) ≤ hi) {x : Int32} (h3 : b.1 ≤ x.toInt) (h4 : x.toInt ≤ b.2) :
    sx_IV T tg PH (pm_sI h a k x) ∧ sx_fr tg VP W D h (pm_sI h a k x) ∧ ∀ c j : Nat, ¬ (tg c = t ∧ lo ≤ (j : Int) ∧ (j : Int) ≤ hi) → (pm_sI h a k x).1 c j = h.1 c j := by
  have e : pm_sI h a k x = pm_sA h a (fun j => if j = k then x else h.1 a j) := by
    show (pm_u h.1 a k x, h.2) = (pm_r h.1 a _, h.2)
    rw [pm_u_r]
  rw [e]
  refine sx_mw_row hC iv hw hat (fun j hj => if_neg (fun q => hj (by rw [q]; exact ⟨h1, h2⟩))) (fun j _ _ => ?_)
  by_cases hj : j = k
  · exact Or.inr (by show b.1 ≤ (if j = k then x else h.1 a j).toInt ∧ _; rw [if_pos hj]; exact ⟨h3, h4⟩)
  · exact Or.inl (if_neg hj)
/-- what is known behind a write -/
def sx_kw (E : sx_E) (t : Nat) (lo hi : Int) : sx_E := (E.1, E.2.1, E.2.2.1, E.2.2.2.1, sx_kl t lo hi E.2.2.2.2.1, E.2.2.2.2.2)
def sx_ka (E : sx_E) (i t k : Nat) (v : sx_V) : sx_E := (E.1, E.2.1, E.2.2.1, E.2.2.2.1, ((i, t, k), v) :: E.2.2.2.2.1, E.2.2.2.2.2)
theorem sx_kw_ok (ok : sx_ok tg VP ρ h E) {t : Nat} {lo hi : Int} {h' : pm_H} (h1 : ∀ c k : Nat, ¬ (tg c = t ∧ lo ≤ (k : Int) ∧ (k : Int) ≤ hi) → h'.1 c k = h.1 c k) (h2 : ∀ l z, VP h l z → VP h' l z) (h3 : h'.2.2.1 = h.2.2.1) : sx_ok tg VP ρ h' (sx_kw E t lo hi) := by
  refine ⟨ok.1, ok.2.1, fun q hq => ?_, ok.2.2.2.1, sx_oI_kl ok.2.2.2.2.1 h1, ?_⟩
  · obtain ⟨z, g1, g2⟩ := ok.2.2.1 q hq
    exact ⟨z, g1, h2 _ _ g2⟩
  · rw [h3]; exact ok.2.2.2.2.2
theorem sx_ka_ok (ok : sx_ok tg VP ρ h E) {i t k a : Nat} {v : sx_V} (ha : ρ[i]? = some (a : Int)) (hat : tg a = t) (hv : sx_ev tg ρ v = some (.int (h.1 a k))) : sx_ok tg VP ρ h (sx_ka E i t k v) := by
  refine ⟨ok.1, ok.2.1, ok.2.2.1, ok.2.2.2.1, fun q hq => ?_, ok.2.2.2.2.2⟩
  rcases List.mem_cons.mp hq with rfl | hq
  · exact ⟨a, ha, hat, hv⟩
  · exact ok.2.2.2.2.1 q hq
def sx_w2 (E : sx_E) (i t : Nat) (lo hi : Int) (v : sx_V) : sx_E := bif decide (lo = hi) then sx_ka (sx_kw E t lo hi) i t lo.toNat v else sx_kw E t lo hi
theorem pm_u_same (f : Nat → Nat → Int32) (a k : Nat) (x : Int32) : pm_u f a k x a k = x := by
  unfold pm_u
  rw [if_pos rfl, if_pos rfl]
theorem sx_w2_ok (hC : sx_C P T tg PH VP) (ok : sx_ok tg VP ρ h E) (iv : sx_IV T tg PH h) {W : sx_W} {D : Bool × Bool} {i a t k : Nat} {lo hi : Int} {b : Int × Int} (hw : sx_mw T W t lo hi b = true) (ha : ρ[i]? = some (a : Int)) (hat : tg a = t) (h1 : lo ≤ (k : Int)) (h2 : (k : Int) ≤ hi) {x : Int32} {v : sx_V} (hv : sx_ev tg ρ v = some (.int x)) (h3 : b.1 ≤ x.toInt) (h4 : x.toInt ≤ b.2) :
    sx_ok tg VP ρ (pm_sI h a k x) (sx_w2 E i t lo hi v) ∧ sx_IV T tg PH (pm_sI h a k x) ∧ sx_fr tg VP W D h (pm_sI h a k x) := by
  obtain ⟨g1, g2, g3⟩ := sx_mw_ok (D := (false, false)) hC iv hw hat h1 h2 h3 h4
  have ok2 := sx_kw_ok ok g3 (g2.2.1 rfl) (g2.2.2 rfl)
  refine ⟨?_, g1, g2.1, fun _ => g2.2.1 rfl, fun _ => g2.2.2 rfl⟩
  unfold sx_w2
  cases d : decide (lo = hi) with
  | false => exact ok2
  | true =>
    have d1 := of_decide_eq_true d
    have e : lo.toNat = k := by omega
    simp only [cond_true]
    rw [e]
    exact sx_ka_ok ok2 ha hat (by show sx_ev tg ρ v = some (.int (pm_u h.1 a k x a k)); rw [pm_u_same]; exact hv)
/-- a long may be written: its bounds, a row where one may -/
def sx_wl (T : sx_T) (t : Nat) (b : Int × Int) : Bool := sx_w b (sx_gl T t).1 (sx_gl T t).2 && sx_pr T t (.negSucc 999) (.negSucc 1000)
theorem sx_wL_ok (hC : sx_C P T tg PH VP) (ok : sx_ok tg VP ρ h E) (iv : sx_IV T tg PH h) {W : sx_W} {D : Bool × Bool} {a t k : Nat} {b : Int × Int} (hb : sx_wl T t b = true) (hat : tg a = t) {x : Int64} (h3 : b.1 ≤ x.toInt) (h4 : x.toInt ≤ b.2) :
    sx_ok tg VP ρ (pm_sL h a k x) E ∧ sx_IV T tg PH (pm_sL h a k x) ∧ sx_fr tg VP W D h (pm_sL h a k x) := by
  unfold sx_wl at hb
  rw [Bool.and_eq_true] at hb
  obtain ⟨hb, hp⟩ := hb
  obtain ⟨p1, p2⟩ := hC.2.2.2.1 h a k x iv.2.2.2 (by rw [hat]; exact hp)
  refine ⟨⟨ok.1, ok.2.1, fun q hq => ?_, ok.2.2.2.1, ok.2.2.2.2.1, ok.2.2.2.2.2⟩, ⟨iv.1, fun c j => ?_, iv.2.2.1, p1⟩, fun _ _ _ => rfl, fun _ => p2, fun _ => rfl⟩
  · obtain ⟨z, g1, g2⟩ := ok.2.2.1 q hq
    exact ⟨z, g1, p2 _ _ g2⟩
  · show (sx_gl T (tg c)).1 ≤ (pm_u h.2.1 a k x c j).toInt ∧ (pm_u h.2.1 a k x c j).toInt ≤ (sx_gl T (tg c)).2
    unfold pm_u
    split
    · rename_i e
      subst e
      split
      · have := sx_w_ok hb
        rw [hat]
        omega
      · exact iv.2.1 c j
    · exact iv.2.1 c j
end XH
