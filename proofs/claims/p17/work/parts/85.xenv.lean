/-! A RUN OVER AN UNKNOWN HEAP, sixth: what is known of the heap. Tables by region: shape; bounds of ints (pieces of a row: from, to, least, most); bounds of longs; regions of references; regions of one cell; which places may be written; a flag that an int has once another place is 1 or more -/
abbrev sx_G : Type := List (Int × Int × Int × Int)
abbrev sx_T : Type := (Nat → Option pm_S) × (Nat → sx_G) × (Nat → Int × Int) × (Nat → Nat → Option Nat) × (Nat → Bool) × (Nat → Int → Int → Bool) × (Nat → Nat → Option (Nat × Nat × Nat))
abbrev sx_sh (T : sx_T) : Nat → Option pm_S := T.1
abbrev sx_sb (T : sx_T) : Nat → sx_G := T.2.1
abbrev sx_gl (T : sx_T) : Nat → Int × Int := T.2.2.1
abbrev sx_gr (T : sx_T) : Nat → Nat → Option Nat := T.2.2.2.1
abbrev sx_sg (T : sx_T) : Nat → Bool := T.2.2.2.2.1
abbrev sx_pr (T : sx_T) : Nat → Int → Int → Bool := T.2.2.2.2.2.1
abbrev sx_fl (T : sx_T) : Nat → Nat → Option (Nat × Nat × Nat) := T.2.2.2.2.2.2
/-- ints within their bounds, longs too, references where they must be -/
def sx_IB (T : sx_T) (tg : Nat → Nat) (I : Nat → Nat → Int32) : Prop := ∀ (a k : Nat) (q : Int × Int × Int × Int), q ∈ sx_sb T (tg a) → q.1 ≤ (k : Int) → (k : Int) ≤ q.2.1 → q.2.2.1 ≤ (I a k).toInt ∧ (I a k).toInt ≤ q.2.2.2
def sx_LB (T : sx_T) (tg : Nat → Nat) (L : Nat → Nat → Int64) : Prop := ∀ (a k : Nat), (sx_gl T (tg a)).1 ≤ (L a k).toInt ∧ (L a k).toInt ≤ (sx_gl T (tg a)).2
def sx_RB (T : sx_T) (tg : Nat → Nat) (R : Nat → Nat → Option Nat) : Prop := ∀ (a k t : Nat), sx_gr T (tg a) k = some t → ∃ b, R a k = some b ∧ tg b = t ∧ b ≤ 1000000
def sx_IV (T : sx_T) (tg : Nat → Nat) (PH : pm_H → Prop) (h : pm_H) : Prop := sx_IB T tg h.1 ∧ sx_LB T tg h.2.1 ∧ sx_RB T tg h.2.2.1 ∧ PH h
/-- what the tables must keep -/
def sx_C (P : pm_P) (T : sx_T) (tg : Nat → Nat) (PH : pm_H → Prop) (VP : pm_H → Nat → Int → Prop) : Prop :=
  (∀ h a s, PH h → sx_sh T (tg a) = some s → pm_sh P h a = some s) ∧
  (∀ t a b, sx_sg T t = true → tg a = t → tg b = t → a = b) ∧
  (∀ (h : pm_H) (a : Nat) (lo hi : Int) (g : Nat → Int32), PH h → sx_pr T (tg a) lo hi = true → (∀ k : Nat, ¬ (lo ≤ (k : Int) ∧ (k : Int) ≤ hi) → g k = h.1 a k) → PH (pm_sA h a g) ∧ ∀ l z, VP h l z → VP (pm_sA h a g) l z) ∧
  (∀ h a k x, PH h → sx_pr T (tg a) (.negSucc 999) (.negSucc 1000) = true → PH (pm_sL h a k x) ∧ ∀ l z, VP h l z → VP (pm_sL h a k x) l z) ∧
  (∀ h a k t2 k2 l b, sx_IV T tg PH h → sx_fl T (tg a) k = some (t2, k2, l) → tg b = t2 → 1 ≤ (h.1 b k2).toInt → VP h l (h.1 a k).toInt) ∧
  (∀ (h : pm_H) (a k b : Nat), PH h → sx_pr T (tg a) (-1 - (k : Int)) (-1 - (k : Int)) = true → sx_gr T (tg a) k = some (tg b) → b ≤ 1000000 → PH (pm_sR h a k (some b)) ∧ ∀ l z, VP h l z → VP (pm_sR h a k (some b)) l z)
/-- what is known: bounds, how many variables, flags, variables that are not 0, ints of the heap, references of the heap -/
abbrev sx_E : Type := sx_S × Nat × List (Nat × Nat) × List Nat × List ((Nat × Nat × Nat) × sx_V) × List ((Nat × Nat × Nat) × (Nat × Nat))
def sx_oF (VP : pm_H → Nat → Int → Prop) (ρ : List Int) (h : pm_H) (φ : List (Nat × Nat)) : Prop := ∀ q, q ∈ φ → ∃ z, ρ[q.1]? = some z ∧ VP h q.2 z
def sx_oI (tg : Nat → Nat) (ρ : List Int) (I : Nat → Nat → Int32) (K : List ((Nat × Nat × Nat) × sx_V)) : Prop := ∀ q, q ∈ K → ∃ a : Nat, ρ[q.1.1]? = some (a : Int) ∧ tg a = q.1.2.1 ∧ sx_ev tg ρ q.2 = some (.int (I a q.1.2.2))
def sx_oR (tg : Nat → Nat) (ρ : List Int) (R : Nat → Nat → Option Nat) (K : List ((Nat × Nat × Nat) × (Nat × Nat))) : Prop := ∀ q, q ∈ K → ∃ a b : Nat, ρ[q.1.1]? = some (a : Int) ∧ tg a = q.1.2.1 ∧ ρ[q.2.1]? = some (b : Int) ∧ tg b = q.2.2 ∧ R a q.1.2.2 = some b
def sx_ok (tg : Nat → Nat) (VP : pm_H → Nat → Int → Prop) (ρ : List Int) (h : pm_H) (E : sx_E) : Prop := ρ.length = E.2.1 ∧ sx_in ρ E.1 ∧ sx_oF VP ρ h E.2.2.1 ∧ sx_nz ρ E.2.2.2.1 ∧ sx_oI tg ρ h.1 E.2.2.2.2.1 ∧ sx_oR tg ρ h.2.2.1 E.2.2.2.2.2
section XE
variable {tg : Nat → Nat} {VP : pm_H → Nat → Int → Prop} {ρ : List Int} {h : pm_H}
theorem sx_oF_mono {φ : List (Nat × Nat)} (k : sx_oF VP ρ h φ) (e : List Int) : sx_oF VP (ρ ++ e) h φ := by
  intro q hq
  obtain ⟨z, h1, h2⟩ := k q hq
  exact ⟨z, sx_gm h1 e, h2⟩
theorem sx_oI_mono {I : Nat → Nat → Int32} {K : List ((Nat × Nat × Nat) × sx_V)} (k : sx_oI tg ρ I K) (e : List Int) : sx_oI tg (ρ ++ e) I K := by
  intro q hq
  obtain ⟨a, h1, h2, h3⟩ := k q hq
  exact ⟨a, sx_gm h1 e, h2, sx_em h3 e⟩
theorem sx_oR_mono {R : Nat → Nat → Option Nat} {K : List ((Nat × Nat × Nat) × (Nat × Nat))} (k : sx_oR tg ρ R K) (e : List Int) : sx_oR tg (ρ ++ e) R K := by
  intro q hq
  obtain ⟨a, b, h1, h2, h3, h4, h5⟩ := k q hq
  exact ⟨a, b, sx_gm h1 e, h2, sx_gm h3 e, h4, h5⟩
/-- other bounds, more variables -/
theorem sx_ok_ext {σ σ' : sx_S} {n n' : Nat} {φ : List (Nat × Nat)} {ν ν' : List Nat} {KI : List ((Nat × Nat × Nat) × sx_V)} {KR : List ((Nat × Nat × Nat) × (Nat × Nat))} (k : sx_ok tg VP ρ h (σ, n, φ, ν, KI, KR)) {e : List Int} (h1 : (ρ ++ e).length = n') (h2 : sx_in (ρ ++ e) σ') (h3 : sx_nz (ρ ++ e) ν') : sx_ok tg VP (ρ ++ e) h (σ', n', φ, ν', KI, KR) :=
  ⟨h1, h2, sx_oF_mono k.2.2.1 e, h3, sx_oI_mono k.2.2.2.2.1 e, sx_oR_mono k.2.2.2.2.2 e⟩
/-- a new int of the heap or of an answer -/
theorem sx_ok_new {σ : sx_S} {n : Nat} {φ : List (Nat × Nat)} {ν : List Nat} {KI : List ((Nat × Nat × Nat) × sx_V)} {KR : List ((Nat × Nat × Nat) × (Nat × Nat))} (k : sx_ok tg VP ρ h (σ, n, φ, ν, KI, KR)) {lo hi : Int} (x : Int32) (hx : lo ≤ x.toInt ∧ x.toInt ≤ hi) : sx_ok tg VP (ρ ++ [x.toInt]) h ((n, lo, hi) :: σ, n + 1, φ, ν, KI, KR) ∧ sx_ev tg (ρ ++ [x.toInt]) (.inr (.inl (n, 0))) = some (.int x) := by
  have hn : ρ.length = n := k.1
  obtain ⟨k1, k2⟩ := sx_new (tg := tg) (show sx_in ρ σ from k.2.1) x hx
  rw [hn] at k1 k2
  exact ⟨sx_ok_ext k (by rw [List.length_append, hn]; rfl) k1 (sx_nz_mono (show sx_nz ρ ν from k.2.2.2.1) _), k2⟩
theorem sx_ok_newL {σ : sx_S} {n : Nat} {φ : List (Nat × Nat)} {ν : List Nat} {KI : List ((Nat × Nat × Nat) × sx_V)} {KR : List ((Nat × Nat × Nat) × (Nat × Nat))} (k : sx_ok tg VP ρ h (σ, n, φ, ν, KI, KR)) {lo hi : Int} (x : Int64) (hx : lo ≤ x.toInt ∧ x.toInt ≤ hi) : sx_ok tg VP (ρ ++ [x.toInt]) h ((n, lo, hi) :: σ, n + 1, φ, ν, KI, KR) ∧ sx_ev tg (ρ ++ [x.toInt]) (.inr (.inr (.inl n))) = some (.long x) := by
  have hn : ρ.length = n := k.1
  obtain ⟨k1, k2⟩ := sx_newL (tg := tg) (show sx_in ρ σ from k.2.1) x hx
  rw [hn] at k1 k2
  exact ⟨sx_ok_ext k (by rw [List.length_append, hn]; rfl) k1 (sx_nz_mono (show sx_nz ρ ν from k.2.2.2.1) _), k2⟩
theorem sx_in_ref {σ : sx_S} (k : sx_in ρ σ) (z : Int) (hb : sx_b σ ρ.length = none) : sx_in (ρ ++ [z]) σ := by
  intro j b hj y hy
  by_cases hl : j < ρ.length
  · rw [List.getElem?_append_left hl] at hy
    exact k j b hj y hy
  · by_cases he : j = ρ.length
    · rw [he, hb] at hj
      cases hj
    · have : (ρ ++ [z])[j]? = none := List.getElem?_eq_none (by simp; omega)
      rw [this] at hy
      cases hy
/-- a new reference: its row of bounds says nothing -/
theorem sx_ok_newR {σ : sx_S} {n : Nat} {φ : List (Nat × Nat)} {ν : List Nat} {KI : List ((Nat × Nat × Nat) × sx_V)} {KR : List ((Nat × Nat × Nat) × (Nat × Nat))} (k : sx_ok tg VP ρ h (σ, n, φ, ν, KI, KR)) (a t : Nat) (ht : tg a = t) (hi : (a : Int) ≤ 1000000) : sx_ok tg VP (ρ ++ [(a : Int)]) h ((n, 0, 1000000) :: σ, n + 1, φ, ν, KI, KR) ∧ sx_ev tg (ρ ++ [(a : Int)]) (.inr (.inr (.inr (.inr (n, t))))) = some (.ref a) ∧ (ρ ++ [(a : Int)])[n]? = some (a : Int) := by
  have hn : ρ.length = n := k.1
  have k1 := sx_in_new (show sx_in ρ σ from k.2.1) (lo := 0) (hi := 1000000) (z := (a : Int)) (by omega) hi
  have k2 := sx_get_new ρ (a : Int)
  rw [hn] at k1 k2
  exact ⟨sx_ok_ext k (by rw [List.length_append, hn]; rfl) k1 (sx_nz_mono (show sx_nz ρ ν from k.2.2.2.1) _), sx_evr' k2 ht, k2⟩
end XE
/-! finding and forgetting -/
def sx_key (T : sx_T) (i t k : Nat) (q : Nat × Nat × Nat) : Bool := Nat.beq q.2.1 t && Nat.beq q.2.2 k && (Nat.beq q.1 i || sx_sg T t)
def sx_fdI (T : sx_T) (i t k : Nat) : List ((Nat × Nat × Nat) × sx_V) → Option sx_V
  | [] => none
  | q :: r => bif sx_key T i t k q.1 then some q.2 else sx_fdI T i t k r
def sx_fdR (T : sx_T) (i t k : Nat) : List ((Nat × Nat × Nat) × (Nat × Nat)) → Option (Nat × Nat)
  | [] => none
  | q :: r => bif sx_key T i t k q.1 then some q.2 else sx_fdR T i t k r
theorem sx_fdI_mem {T : sx_T} {i t k : Nat} {K : List ((Nat × Nat × Nat) × sx_V)} {v : sx_V} (h : sx_fdI T i t k K = some v) : ∃ q, (q, v) ∈ K ∧ sx_key T i t k q = true := by
  induction K with
  | nil => cases h
  | cons q r ih =>
    rw [sx_fdI] at h
    cases e : sx_key T i t k q.1 with
    | true =>
      rw [e] at h
      cases h
      exact ⟨q.1, List.mem_cons_self, e⟩
    | false =>
      rw [e] at h
      obtain ⟨p, h1, h2⟩ := ih h
      exact ⟨p, List.mem_cons_of_mem _ h1, h2⟩
theorem sx_fdR_mem {T : sx_T} {i t k : Nat} {K : List ((Nat × Nat × Nat) × (Nat × Nat))} {v : Nat × Nat} (h : sx_fdR T i t k K = some v) : ∃ q, (q, v) ∈ K ∧ sx_key T i t k q = true := by
  induction K with
  | nil => cases h
  | cons q r ih =>
    rw [sx_fdR] at h
    cases e : sx_key T i t k q.1 with
    | true =>
      rw [e] at h
      cases h
      exact ⟨q.1, List.mem_cons_self, e⟩
    | false =>
      rw [e] at h
      obtain ⟨p, h1, h2⟩ := ih h
      exact ⟨p, List.mem_cons_of_mem _ h1, h2⟩
section XK
variable {P : pm_P} {T : sx_T} {tg : Nat → Nat} {PH : pm_H → Prop} {VP : pm_H → Nat → Int → Prop} {ρ : List Int}
/-- a key that fits is the same place -/
theorem sx_key_ok (hC : sx_C P T tg PH VP) {i t k a b : Nat} {q : Nat × Nat × Nat} (h : sx_key T i t k q = true) (ha : ρ[i]? = some (a : Int)) (hat : tg a = t) (hb : ρ[q.1]? = some (b : Int)) (hbt : tg b = q.2.1) : a = b ∧ q.2.2 = k := by
  unfold sx_key at h
  rw [Bool.and_eq_true, Bool.and_eq_true, Bool.or_eq_true] at h
  obtain ⟨⟨h1, h2⟩, h3⟩ := h
  refine ⟨?_, Nat.eq_of_beq_eq_true h2⟩
  rcases h3 with h3 | h3
  · rw [Nat.eq_of_beq_eq_true h3] at hb
    rw [ha] at hb
    injection hb with hb
    omega
  · exact hC.2.1 t a b h3 hat (hbt.trans (Nat.eq_of_beq_eq_true h1))
theorem sx_fdI_ok (hC : sx_C P T tg PH VP) {I : Nat → Nat → Int32} {K : List ((Nat × Nat × Nat) × sx_V)} (hK : sx_oI tg ρ I K) {i t k a : Nat} {v : sx_V} (h : sx_fdI T i t k K = some v) (ha : ρ[i]? = some (a : Int)) (hat : tg a = t) : sx_ev tg ρ v = some (.int (I a k)) := by
  obtain ⟨q, h1, h2⟩ := sx_fdI_mem h
  obtain ⟨b, g1, g2, g3⟩ := hK _ h1
  obtain ⟨rfl, e⟩ := sx_key_ok hC h2 ha hat g1 g2
  rw [← e]
  exact g3
theorem sx_fdR_ok (hC : sx_C P T tg PH VP) {R : Nat → Nat → Option Nat} {K : List ((Nat × Nat × Nat) × (Nat × Nat))} (hK : sx_oR tg ρ R K) {i t k a : Nat} {v : Nat × Nat} (h : sx_fdR T i t k K = some v) (ha : ρ[i]? = some (a : Int)) (hat : tg a = t) : ∃ b : Nat, ρ[v.1]? = some (b : Int) ∧ tg b = v.2 ∧ R a k = some b := by
  obtain ⟨q, h1, h2⟩ := sx_fdR_mem h
  obtain ⟨a', b, g1, g2, g3, g4, g5⟩ := hK _ h1
  obtain ⟨rfl, e⟩ := sx_key_ok hC h2 ha hat g1 g2
  rw [← e]
  exact ⟨b, g3, g4, g5⟩
end XK
/-- behind a write to a place of a region, from lo to hi -/
def sx_kl (t : Nat) (lo hi : Int) : List ((Nat × Nat × Nat) × sx_V) → List ((Nat × Nat × Nat) × sx_V)
  | [] => []
  | q :: r => bif Nat.beq q.1.2.1 t && decide (lo ≤ (q.1.2.2 : Int)) && decide ((q.1.2.2 : Int) ≤ hi) then sx_kl t lo hi r else q :: sx_kl t lo hi r
theorem sx_kl_mem {t : Nat} {lo hi : Int} {K : List ((Nat × Nat × Nat) × sx_V)} {q : (Nat × Nat × Nat) × sx_V} (h : q ∈ sx_kl t lo hi K) : q ∈ K ∧ ¬ (q.1.2.1 = t ∧ lo ≤ (q.1.2.2 : Int) ∧ (q.1.2.2 : Int) ≤ hi) := by
  induction K with
  | nil => cases h
  | cons p r ih =>
    rw [sx_kl] at h
    cases e : Nat.beq p.1.2.1 t && decide (lo ≤ (p.1.2.2 : Int)) && decide ((p.1.2.2 : Int) ≤ hi) with
    | true =>
      rw [e] at h
      obtain ⟨h1, h2⟩ := ih h
      exact ⟨List.mem_cons_of_mem _ h1, h2⟩
    | false =>
      rw [e] at h
      rcases List.mem_cons.mp h with h1 | h1
      · subst h1
        refine ⟨List.mem_cons_self, fun g => ?_⟩
        rw [g.1, Nat.beq_refl, decide_eq_true g.2.1, decide_eq_true g.2.2] at e
        cases e
      · obtain ⟨h3, h4⟩ := ih h1
        exact ⟨List.mem_cons_of_mem _ h3, h4⟩
/-- rows that change only there -/
theorem sx_oI_kl {tg : Nat → Nat} {ρ : List Int} {I I' : Nat → Nat → Int32} {K : List ((Nat × Nat × Nat) × sx_V)} {t : Nat} {lo hi : Int} (hK : sx_oI tg ρ I K) (hI : ∀ a k : Nat, ¬ (tg a = t ∧ lo ≤ (k : Int) ∧ (k : Int) ≤ hi) → I' a k = I a k) : sx_oI tg ρ I' (sx_kl t lo hi K) := by
  intro q hq
  obtain ⟨h1, h2⟩ := sx_kl_mem hq
  obtain ⟨a, g1, g2, g3⟩ := hK q h1
  refine ⟨a, g1, g2, ?_⟩
  rw [hI a q.1.2.2 (fun g => h2 ⟨g2.symm.trans g.1, g.2⟩)]
  exact g3
/-- bounds of a piece of a row: the first piece that holds it -/
def sx_rd (g : sx_G) (lo hi : Int) : Int × Int := match g with
  | [] => (sx_mn, sx_mx)
  | q :: r => bif decide (q.1 ≤ lo) && decide (hi ≤ q.2.1) then (q.2.2.1, q.2.2.2) else sx_rd r lo hi
/-- an int may be written there -/
def sx_wr (g : sx_G) (lo hi : Int) (b : Int × Int) : Bool := match g with
  | [] => true
  | q :: r => (decide (q.2.1 < lo) || decide (hi < q.1) || sx_w b q.2.2.1 q.2.2.2) && sx_wr r lo hi b
theorem sx_rd_ok {g : sx_G} {lo hi : Int} {x : Int32} {k : Int} (h : ∀ q, q ∈ g → q.1 ≤ k → k ≤ q.2.1 → q.2.2.1 ≤ x.toInt ∧ x.toInt ≤ q.2.2.2) (h1 : lo ≤ k) (h2 : k ≤ hi) : (sx_rd g lo hi).1 ≤ x.toInt ∧ x.toInt ≤ (sx_rd g lo hi).2 := by
  induction g with
  | nil => exact sx_rng x
  | cons q r ih =>
    rw [sx_rd]
    cases e : decide (q.1 ≤ lo) && decide (hi ≤ q.2.1) with
    | true =>
      rw [Bool.and_eq_true, decide_eq_true_iff, decide_eq_true_iff] at e
      exact h q List.mem_cons_self (by omega) (by omega)
    | false => exact ih (fun p hp => h p (List.mem_cons_of_mem _ hp))
theorem sx_wr_ok {g : sx_G} {lo hi : Int} {b : Int × Int} (h : sx_wr g lo hi b = true) {k : Int} (h1 : lo ≤ k) (h2 : k ≤ hi) {x : Int32} (h3 : b.1 ≤ x.toInt) (h4 : x.toInt ≤ b.2) : ∀ q, q ∈ g → q.1 ≤ k → k ≤ q.2.1 → q.2.2.1 ≤ x.toInt ∧ x.toInt ≤ q.2.2.2 := by
  induction g with
  | nil => intro q hq; cases hq
  | cons p r ih =>
    rw [sx_wr, Bool.and_eq_true, Bool.or_eq_true, Bool.or_eq_true, decide_eq_true_iff, decide_eq_true_iff] at h
    intro q hq k1 k2
    rcases List.mem_cons.mp hq with hq | hq
    · subst hq
      rcases h.1 with (h5 | h5) | h5
      · omega
      · omega
      · have := sx_w_ok h5
        omega
    · exact ih h.2 q hq k1 k2
/-- where a method may write: regions and pieces of rows -/
abbrev sx_W : Type := List (Nat × Int × Int)
def sx_wk (W : sx_W) (t : Nat) (lo hi : Int) : Bool := match W with
  | [] => false
  | q :: r => (Nat.beq q.1 t && decide (q.2.1 ≤ lo) && decide (hi ≤ q.2.2)) || sx_wk r t lo hi
def sx_WP (W : sx_W) (t : Nat) (k : Int) : Prop := ∃ q, q ∈ W ∧ q.1 = t ∧ q.2.1 ≤ k ∧ k ≤ q.2.2
theorem sx_wk_ok {W : sx_W} {t : Nat} {lo hi : Int} (h : sx_wk W t lo hi = true) {k : Int} (h1 : lo ≤ k) (h2 : k ≤ hi) : sx_WP W t k := by
  induction W with
  | nil => cases h
  | cons q r ih =>
    rw [sx_wk, Bool.or_eq_true, Bool.and_eq_true, Bool.and_eq_true, decide_eq_true_iff, decide_eq_true_iff] at h
    rcases h with h | h
    · exact ⟨q, List.mem_cons_self, Nat.eq_of_beq_eq_true h.1.1, by omega, by omega⟩
    · obtain ⟨p, g1, g2⟩ := ih h
      exact ⟨p, List.mem_cons_of_mem _ g1, g2⟩
/-- what stays; D: flags may be lost, references may change -/
def sx_fr (tg : Nat → Nat) (VP : pm_H → Nat → Int → Prop) (W : sx_W) (D : Bool × Bool) (h h' : pm_H) : Prop := (∀ a k : Nat, ¬ sx_WP W (tg a) k → h'.1 a k = h.1 a k) ∧ (D.1 = false → ∀ l z, VP h l z → VP h' l z) ∧ (D.2 = false → h'.2.2.1 = h.2.2.1)
theorem sx_fr_refl (tg : Nat → Nat) (VP : pm_H → Nat → Int → Prop) (W : sx_W) (D : Bool × Bool) (h : pm_H) : sx_fr tg VP W D h h := ⟨fun _ _ _ => rfl, fun _ _ _ q => q, fun _ => rfl⟩
theorem sx_fr_trans {tg : Nat → Nat} {VP : pm_H → Nat → Int → Prop} {W : sx_W} {D : Bool × Bool} {h1 h2 h3 : pm_H} (a : sx_fr tg VP W D h1 h2) (b : sx_fr tg VP W D h2 h3) : sx_fr tg VP W D h1 h3 := ⟨fun x k q => (b.1 x k q).trans (a.1 x k q), fun d l z q => b.2.1 d l z (a.2.1 d l z q), fun d => (b.2.2 d).trans (a.2.2 d)⟩
