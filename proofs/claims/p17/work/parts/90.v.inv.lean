/-! WHAT HOLDS OF THE HEAP between calls: relations over protected places; flags -/
theorem xok_sub : ∀ {l : List (Int × Int)} {lo hi k : Int}, xok l lo hi = true → lo ≤ k → k ≤ hi → xok l k k = true
  | [], _, _, _, _, _, _ => rfl
  | q :: l, lo, hi, k, h, h1, h2 => by
    rw [xok, Bool.and_eq_true, Bool.or_eq_true, decide_eq_true_iff, decide_eq_true_iff] at h ⊢
    exact ⟨by omega, xok_sub h.2 h1 h2⟩
/-- alike at the protected places -/
def xAg (I I' : Nat → Nat → Int32) : Prop := ∀ a k : Nat, xok (xprl (xtg a)) k k = false → I' a k = I a k
theorem xAg_row {I : Nat → Nat → Int32} {a : Nat} {lo hi : Int} {g : Nat → Int32} (h : xpr (xtg a) lo hi = true) (hg : ∀ k : Nat, ¬ (lo ≤ (k : Int) ∧ (k : Int) ≤ hi) → g k = I a k) : xAg I (pm_r I a g) := by
  intro b k hk
  unfold pm_r
  split
  · rename_i e
    subst e
    refine hg k (fun q => ?_)
    unfold xpr at h
    cases d : decide (lo < 0) with
    | true =>
      rw [d] at h
      simp only [cond_true] at h
      have d := of_decide_eq_true d
      unfold xrw at h
      cases e2 : decide (lo = hi) with
      | true =>
        have e2 := of_decide_eq_true e2
        omega
      | false =>
        rw [e2] at h
        simp only [cond_false] at h
        cases e3 : decide (hi = .negSucc 1000) with
        | true =>
          have e3 := of_decide_eq_true e3
          omega
        | false =>
          rw [e3] at h
          cases h
    | false =>
      rw [d] at h
      simp only [cond_false] at h
      rw [xok_sub h q.1 q.2] at hk
      cases hk
  · rfl
/-- class: a plate's cells are WIDE times HIGH -/
def xCp (I : Nat → Nat → Int32) : Prop := ∀ a, xtg a = 36 → (I a 4).toInt * (I a 5).toInt = (I a 6).toInt
/-- class: bits lie within the text -/
def xTk (I : Nat → Nat → Int32) : Prop := ∀ j, j ≤ 800 → (I 7 j).toInt = 4 → 1 ≤ (I 10 j).toInt ∧ (I 8 j).toInt + 1 + (I 10 j).toInt ≤ 800
/-- model: plates; what is used -/
def fOK (f a b : Int) : Prop := f ≤ 6 ∧ (f = 1 → a ≤ 40) ∧ (f = 2 ∨ f = 3 ∨ f = 4 → a ≤ 5) ∧ (f = 4 → b ≤ 5) ∧ (f = 6 → b ≤ 47)
def mFm (I : Nat → Nat → Int32) (n : Nat) : Prop := fOK (I 278 (7 * n + 2)).toInt (I 278 (7 * n + 3)).toInt (I 278 (7 * n + 4)).toInt
def nFm (I : Nat → Nat → Int32) (n : Nat) : Prop := fOK (I 279 (7 * n + 2)).toInt (I 279 (7 * n + 3)).toInt (I 279 (7 * n + 4)).toInt
def nPl (I : Nat → Nat → Int32) (k w v : Nat) : Prop := k < 6 ∧ I 279 (7 * k) = nI w ∧ I 279 (7 * k + 1) = nI v ∧ 0 < w ∧ 0 < v ∧ w * v ≤ 289
def xMp (I : Nat → Nat → Int32) : Prop := ∀ n : Nat, (n : Int) < (I 275 14).toInt → (∃ w v, mPl I n w v) ∧ mFm I n
/-- model: a text that is being read -/
def xNw (I : Nat → Nat → Int32) : Prop := (I 275 46).toInt = 0 → (∀ n : Nat, (n : Int) < (I 275 15).toInt → (∃ w v, nPl I n w v) ∧ nFm I n) ∧ ((I 289 4).toInt = 0 ∨ (I 289 4).toInt < (I 275 15).toInt)
def xMu (I : Nat → Nat → Int32) : Prop := 0 < (I 275 14).toInt → (I 288 4).toInt < (I 275 14).toInt ∧ ∀ j : Nat, j < 12 → (j : Int) < (I 275 19).toInt → (I 290 (89 * j + 4)).toInt < (I 275 14).toInt
def xK (I : Nat → Nat → Int32) : Prop := xCp I ∧ xTk I ∧ xMp I ∧ xMu I ∧ xNw I
def xPH (h : pm_H) : Prop := h.2.2.2 = 306 ∧ (∃ s, h.2.2.1 = g_R s) ∧ xK h.1
def xV1 (I : Nat → Nat → Int32) (z : Int) : Prop := ∃ n w v : Nat, z = (n : Int) ∧ mPl I n w v
def xV3 (I : Nat → Nat → Int32) (z : Int) : Prop := ∃ n w v : Nat, z = (n : Int) ∧ mPl I n w v ∧ ¬ suI (fun c => I 280 (289 * n + c)) (w * v) = 0
def xV2 (I : Nat → Nat → Int32) (z : Int) : Prop := ∃ n w v : Nat, z = (n : Int) ∧ mPl I n w v ∧ ¬ suI (fun c => I 280 (289 * n + c)) (w * v) = 0 ∧ I 294 n = 1 ∧ ¬ I 293 n = I 291 n
def xV4 (I : Nat → Nat → Int32) (z : Int) : Prop := ∃ n w v : Nat, z = (n : Int) ∧ z < (I 275 15).toInt ∧ nPl I n w v
def xV6 (I : Nat → Nat → Int32) (z : Int) : Prop := ∃ n : Nat, z = (n : Int) ∧ z ≤ (I 275 15).toInt ∧ n < 6 ∧ nFm I n
def xV5 (I : Nat → Nat → Int32) (z : Int) : Prop := ∃ n w v : Nat, z = (n : Int) ∧ z ≤ (I 275 15).toInt ∧ nPl I n w v ∧ nFm I n
/-- the words that are no NAMES, as the model has them -/
def wC (j : Nat) : Int64 := ([8740526, 13550, 46486, 409469, 10348, 50849, 282078293, 281027399, 247664, 10504213, 40187, 15827, 14006] : List Int64).getD j 0
def xVP (h : pm_H) (l : Nat) (z : Int) : Prop := match l with
  | 1 => xV1 h.1 z
  | 2 => xV2 h.1 z
  | 3 => xV3 h.1 z
  | 4 => xV4 h.1 z
  | 5 => xV5 h.1 z
  | 6 => xV6 h.1 z
  | 9 => z ≤ (h.1 275 49).toInt
  | 7 => h.2.2.1 0 6 = some z.toNat
  | 8 => h.2.2.1 0 7 = some z.toNat
  | 10 => ∀ j : Nat, j < 13 → h.2.1 304 j = wC j
  | _ => False
section XG
variable {I I' : Nat → Nat → Int32}
theorem xAg_plt (h : xAg I I') {a : Nat} (ha : xtg a = 36) : I' a 4 = I a 4 ∧ I' a 5 = I a 5 ∧ I' a 6 = I a 6 :=
  ⟨h a _ (by rw [ha]; rfl), h a _ (by rw [ha]; rfl), h a _ (by rw [ha]; rfl)⟩
theorem xok_in {lo hi : Int} {l : List (Int × Int)} {k : Int} (h1 : lo ≤ k) (h2 : k ≤ hi) : xok ((lo, hi) :: l) k k = false := by
  rw [xok, decide_eq_false (by simp only; omega), decide_eq_false (by simp only; omega)]
  rfl
theorem xAg_plate (h : xAg I I') {k : Nat} (hk : k ≤ 41) : I' 278 k = I 278 k := h _ _ (xok_in (lo := .ofNat 0) (hi := .ofNat 41) (l := []) (by show (0 : Int) ≤ k; omega) (by show (k : Int) ≤ 41; omega))
theorem xAg_hole (h : xAg I I') {k : Nat} (hk : k ≤ 1733) : I' 280 k = I 280 k := h _ _ (xok_in (lo := .ofNat 0) (hi := .ofNat 1733) (l := []) (by show (0 : Int) ≤ k; omega) (by show (k : Int) ≤ 1733; omega))
theorem xAg_sides (h : xAg I I') {k : Nat} (hk : k ≤ 5) : I' 294 k = I 294 k ∧ I' 293 k = I 293 k ∧ I' 291 k = I 291 k :=
  ⟨h _ _ (xok_in (lo := .ofNat 0) (hi := .ofNat 5) (l := []) (by show (0 : Int) ≤ k; omega) (by show (k : Int) ≤ 5; omega)), h _ _ (xok_in (lo := .ofNat 0) (hi := .ofNat 5) (l := []) (by show (0 : Int) ≤ k; omega) (by show (k : Int) ≤ 5; omega)), h _ _ (xok_in (lo := .ofNat 0) (hi := .ofNat 5) (l := []) (by show (0 : Int) ≤ k; omega) (by show (k : Int) ≤ 5; omega))⟩
theorem xAg_past (h : xAg I I') {k : Nat} (hk : k ≤ 1067) : I' 290 k = I 290 k := h _ _ (xok_in (lo := .ofNat 0) (hi := .ofNat 1067) (l := []) (by show (0 : Int) ≤ k; omega) (by show (k : Int) ≤ 1067; omega))
theorem xAg_tok (h : xAg I I') {k : Nat} (hk : k ≤ 800) : I' 7 k = I 7 k ∧ I' 8 k = I 8 k ∧ I' 10 k = I 10 k :=
  ⟨h _ _ (xok_in (lo := .ofNat 0) (hi := .ofNat 800) (l := []) (by show (0 : Int) ≤ k; omega) (by show (k : Int) ≤ 800; omega)), h _ _ (xok_in (lo := .ofNat 0) (hi := .ofNat 800) (l := []) (by show (0 : Int) ≤ k; omega) (by show (k : Int) ≤ 800; omega)), h _ _ (xok_in (lo := .ofNat 0) (hi := .ofNat 800) (l := []) (by show (0 : Int) ≤ k; omega) (by show (k : Int) ≤ 800; omega))⟩
theorem xAg_newPlate (h : xAg I I') {k : Nat} (hk : k ≤ 41) : I' 279 k = I 279 k := h _ _ (xok_in (lo := .ofNat 0) (hi := .ofNat 41) (l := []) (by show (0 : Int) ≤ k; omega) (by show (k : Int) ≤ 41; omega))
theorem xAg_nPl (h : xAg I I') {n w v : Nat} (k : nPl I n w v) : nPl I' n w v := by
  obtain ⟨k1, k2, k3, k4⟩ := k
  exact ⟨k1, by rw [xAg_newPlate h (by omega)]; exact k2, by rw [xAg_newPlate h (by omega)]; exact k3, k4⟩
theorem xAg_nFm (h : xAg I I') {n : Nat} (hn : n < 6) (k : nFm I n) : nFm I' n := by
  unfold nFm at k ⊢
  rw [xAg_newPlate h (by omega), xAg_newPlate h (by omega), xAg_newPlate h (by omega)]
  exact k
theorem xAg_mFm (h : xAg I I') {n : Nat} (hn : n < 6) (k : mFm I n) : mFm I' n := by
  unfold mFm at k ⊢
  rw [xAg_plate h (by omega), xAg_plate h (by omega), xAg_plate h (by omega)]
  exact k
theorem xAg_N (h : xAg I I') : I' 275 15 = I 275 15 ∧ I' 275 46 = I 275 46 ∧ I' 275 49 = I 275 49 ∧ I' 289 4 = I 289 4 := ⟨h _ _ rfl, h _ _ rfl, h _ _ rfl, h _ _ rfl⟩
theorem xAg_mPl (h : xAg I I') {n w v : Nat} (k : mPl I n w v) : mPl I' n w v := by
  obtain ⟨k1, k2, k3, k4⟩ := k
  exact ⟨k1, by rw [xAg_plate h (by omega)]; exact k2, by rw [xAg_plate h (by omega)]; exact k3, k4⟩
theorem suI_congr {f g : Nat → Int32} : ∀ {n : Nat}, (∀ c, c < n → f c = g c) → suI f n = suI g n
  | 0, _ => rfl
  | n + 1, h => by rw [suI, suI, suI_congr (fun c hc => h c (by omega)), h n (by omega)]
theorem xAg_sum (h : xAg I I') {n w v : Nat} (k : mPl I n w v) : suI (fun c => I' 280 (289 * n + c)) (w * v) = suI (fun c => I 280 (289 * n + c)) (w * v) := by
  have := k.1
  have := k.2.2.2.2.2
  exact suI_congr (fun c hc => xAg_hole h (by omega))
theorem xAg_V (h : xAg I I') {g g' : pm_H} (e : g.1 = I) (e' : g'.1 = I') (eL : g'.2.1 = g.2.1) (eR : g'.2.2.1 = g.2.2.1) {l : Nat} {z : Int} (k : xVP g l z) : xVP g' l z := by
  unfold xVP at k ⊢
  rw [e] at k
  rw [e']
  split at k
  · obtain ⟨n, w, v, k1, k2⟩ := k
    exact ⟨n, w, v, k1, xAg_mPl h k2⟩
  · obtain ⟨n, w, v, k1, k2, k3, k4, k5⟩ := k
    have q := xAg_sides h (show n ≤ 5 by have := k2.1; omega)
    exact ⟨n, w, v, k1, xAg_mPl h k2, by rw [xAg_sum h k2]; exact k3, by rw [q.1]; exact k4, by rw [q.2.1, q.2.2]; exact k5⟩
  · obtain ⟨n, w, v, k1, k2, k3⟩ := k
    exact ⟨n, w, v, k1, xAg_mPl h k2, by rw [xAg_sum h k2]; exact k3⟩
  · obtain ⟨n, w, v, k1, k2, k3⟩ := k
    exact ⟨n, w, v, k1, by rw [(xAg_N h).1]; exact k2, xAg_nPl h k3⟩
  · obtain ⟨n, w, v, k1, k2, k3, k4⟩ := k
    exact ⟨n, w, v, k1, by rw [(xAg_N h).1]; exact k2, xAg_nPl h k3, xAg_nFm h k3.1 k4⟩
  · obtain ⟨n, k1, k2, k3, k4⟩ := k
    exact ⟨n, k1, by rw [(xAg_N h).1]; exact k2, k3, xAg_nFm h k3 k4⟩
  · rw [(xAg_N h).2.2.1]
    exact k
  · rw [eR]
    exact k
  · rw [eR]
    exact k
  · rw [eL]
    exact k
  · exact k
theorem xAg_M (h : xAg I I') : I' 275 14 = I 275 14 ∧ I' 275 19 = I 275 19 ∧ I' 288 4 = I 288 4 := ⟨h _ _ rfl, h _ _ rfl, h _ _ rfl⟩
theorem xAg_K (h : xAg I I') (k : xK I) : xK I' := by
  obtain ⟨k1, k2, k3, k4, k5⟩ := k
  obtain ⟨m1, m2, m3⟩ := xAg_M h
  obtain ⟨n1, n2, n3, n4⟩ := xAg_N h
  refine ⟨fun a ha => ?_, fun j hj hk => ?_, fun n hn => ?_, fun hn => ?_, fun hw => ?_⟩
  · obtain ⟨q1, q2, q3⟩ := xAg_plt h ha
    rw [q1, q2, q3]
    exact k1 a ha
  · obtain ⟨q1, q2, q3⟩ := xAg_tok h hj
    rw [q1] at hk
    rw [q2, q3]
    exact k2 j hj hk
  · rw [m1] at hn
    obtain ⟨⟨w, v, q⟩, q2⟩ := k3 n hn
    exact ⟨⟨w, v, xAg_mPl h q⟩, xAg_mFm h q.1 q2⟩
  · rw [m1] at hn
    obtain ⟨q1, q2⟩ := k4 hn
    refine ⟨by rw [m3, m1]; exact q1, fun j hl hj => ?_⟩
    rw [m2] at hj
    rw [xAg_past h (by omega), m1]
    exact q2 j hl hj
  · rw [n2] at hw
    obtain ⟨q1, q2⟩ := k5 hw
    refine ⟨fun n hn => ?_, by rw [n4, n1]; exact q2⟩
    rw [n1] at hn
    obtain ⟨⟨w, v, q⟩, q3⟩ := q1 n hn
    exact ⟨⟨w, v, xAg_nPl h q⟩, xAg_nFm h q.1 q3⟩
end XG
/-! the tables keep what they must -/
theorem nb_ne {a b : Nat} (h : ¬ a = b) : Nat.beq a b = false := by
  cases e : Nat.beq a b with
  | false => rfl
  | true => exact absurd (Nat.eq_of_beq_eq_true e) h
theorem all306 {p : Nat → Bool} (h : (List.range 306).all p = true) {a : Nat} (ha : a < 306) : p a = true := List.all_eq_true.mp h a (List.mem_range.mpr ha)
def xeqS (x y : Option pm_S) : Bool := match x with
  | none => true
  | some (.inl c) => (match y with
    | some (.inl d) => Nat.beq c d
    | _ => false)
  | some (.inr (t, n)) => (match y with
    | some (.inr (u, m)) => Nat.beq t u && Nat.beq n m
    | _ => false)
theorem xeqS_ok {x y : Option pm_S} {s : pm_S} (h : xeqS x y = true) (e : x = some s) : y = some s := by
  subst e
  rcases s with c | ⟨t, n⟩
  · simp only [xeqS] at h
    split at h
    · rw [Nat.eq_of_beq_eq_true h]
    · cases h
  · simp only [xeqS] at h
    split at h
    · rw [Bool.and_eq_true] at h
      rw [Nat.eq_of_beq_eq_true h.1, Nat.eq_of_beq_eq_true h.2]
    · cases h
theorem x_sh : (List.range 306).all (fun a => xeqS (xsh (xtg a)) (gSh a)) = true := by decide +kernel
theorem x_sg : (List.range 306).all (fun a => !xsg (xtg a) || Nat.beq (xad (xtg a)) a) = true := by decide +kernel
theorem x_t1 : (List.range 306).all (fun a => !Nat.beq (xtg a) 1 || Nat.beq a 0) = true := by decide +kernel
theorem x_t40 : (List.range 306).all (fun a => !Nat.beq (xtg a) 40 || (Nat.beq a 255 || Nat.beq a 265)) = true := by decide +kernel
theorem x_t56 : (List.range 306).all (fun a => !Nat.beq (xtg a) (xtg 288) || Nat.beq a 288) = true := by decide +kernel
theorem xtg_out {a : Nat} (h : ¬ a < 306) : xtg a = 0 := by
  unfold xtg
  have : Nat.blt a 306 = false := by
    cases e : Nat.blt a 306 with
    | false => rfl
    | true => exact absurd (Nat.le_of_ble_eq_true e) (by omega)
  rw [this]
  rfl
theorem xtg_lt {a t : Nat} (h : xtg a = t) (ht : 0 < t) : a < 306 := by
  by_cases q : a < 306
  · exact q
  · rw [xtg_out q] at h
    omega
theorem xgR (s : Nat → Option Nat) (b a k j : Nat) (h : (a, k, j) ∈ [(0, 6, 0), (0, 7, 1), (255, 13, 2), (255, 14, 3), (265, 13, 4), (265, 14, 5)]) : pm_u (g_R s) a k (some b) = g_R (fun i => bif Nat.beq i j then some b else s i) := by
  funext x y
  simp only [List.mem_cons, Prod.mk.injEq, List.not_mem_nil, or_false] at h
  rcases h with ⟨rfl, rfl, rfl⟩ | ⟨rfl, rfl, rfl⟩ | ⟨rfl, rfl, rfl⟩ | ⟨rfl, rfl, rfl⟩ | ⟨rfl, rfl, rfl⟩ | ⟨rfl, rfl, rfl⟩
  all_goals
    unfold pm_u g_R
    split
    · rename_i e
      subst e
      split
      · rename_i e
        subst e
        rfl
      · rename_i e
        simp only [nb_ne e, Bool.and_false, cond_false]
        rfl
    · rename_i e
      simp only [nb_ne e, Bool.false_and, cond_false]
      rfl
theorem xrw_ok {t : Nat} {k : Nat} (h : xpr t (-1 - (k : Int)) (-1 - (k : Int)) = true) : t = 40 ∧ (k = 13 ∨ k = 14) := by
  unfold xpr at h
  rw [decide_eq_true (show -1 - (k : Int) < 0 by omega)] at h
  simp only [cond_true] at h
  unfold xrw at h
  rw [decide_eq_true (show -1 - (k : Int) = -1 - (k : Int) from rfl)] at h
  simp only [cond_true] at h
  unfold xrr at h
  cases e2 : Nat.beq t 40 with
  | true =>
    rw [e2] at h
    simp only [cond_true, Bool.or_eq_true, decide_eq_true_iff] at h
    refine ⟨Nat.eq_of_beq_eq_true e2, ?_⟩
    rcases h with h | h <;> omega
  | false =>
    rw [e2] at h
    cases h
theorem or_nb {a b : Nat} {p : Bool} (h : (!Nat.beq a b || p) = true) (e : a = b) : p = true := by
  subst e
  rw [Nat.beq_refl] at h
  exact h
theorem xC (ys : List Int32) : sx_C (g_P ys) xT xtg xPH xVP := by
  refine ⟨fun h a s hp e => ?_, fun t a b ht ha hb => ?_, fun h a lo hi g hp hw hg => ?_, fun h a k x hp hw => ⟨hp, fun l z q => ?_⟩, fun h a k t2 k2 l b iv e hb h1 => ?_, fun h a k b hp hw hg hb => ?_⟩
  · have e' : xsh (xtg a) = some s := e
    by_cases q : a < 306
    · unfold pm_sh
      rw [hp.1, if_pos q]
      exact xeqS_ok (all306 x_sh q) e'
    · rw [xtg_out q] at e'
      cases e'
  · have ht' : xsg t = true := ht
    have key : ∀ c, xtg c = t → xad t = c := fun c hc => by
      by_cases q : c < 306
      · have w := all306 x_sg q
        rw [hc, ht'] at w
        exact Nat.eq_of_beq_eq_true w
      · rw [xtg_out q] at hc
        rw [← hc] at ht'
        cases ht'
    rw [← key a ha, ← key b hb]
  · have ag : xAg h.1 (pm_r h.1 a g) := xAg_row hw hg
    exact ⟨⟨hp.1, hp.2.1, xAg_K ag hp.2.2⟩, fun l z q => xAg_V (g := h) (g' := pm_sA h a g) ag rfl rfl rfl rfl q⟩
  · have na : ¬ a = 304 := fun e => by
      have hw' : xpr (xtg a) (.negSucc 999) (.negSucc 1000) = true := hw
      rw [e] at hw'
      exact absurd hw' (by decide)
    unfold xVP at q ⊢
    split at q
    all_goals first | exact q | skip
    intro j hj
    show pm_u h.2.1 a k x 304 j = wC j
    unfold pm_u
    rw [if_neg (fun e => na e.symm)]
    exact q j hj
  · have e' : xfl (xtg a) k = some (t2, k2, l) := e
    unfold xfl at e'
    revert e'
    cases e1 : Nat.beq (xtg a) (xtg 288) with
    | false =>
      have e2 : Nat.beq (xtg a) 63 = false := e1
      simp only [e2, cond_false]
      intro w
      cases w
    | true =>
      have e2 : Nat.beq (xtg a) 63 = true := e1
      simp only [e2, cond_true]
      cases e3 : Nat.beq k 4 with
      | false => intro w; cases w
      | true =>
        intro w
        cases w
        have hk := Nat.eq_of_beq_eq_true e3
        subst hk
        have hat := Nat.eq_of_beq_eq_true e2
        have ha : a = 288 := Nat.eq_of_beq_eq_true (or_nb (all306 x_t56 (xtg_lt hat (by decide))) hat)
        subst ha
        have hb' : b = 275 := by
          have q : b < 306 := xtg_lt hb (by decide)
          have w := all306 x_sg q
          rw [hb] at w
          exact (Nat.eq_of_beq_eq_true w).symm
        subst hb'
        have k4 := iv.2.2.2.2.2.2.2.2.1 (by omega)
        have lo := (iv.1 288 4 (.ofNat 4, .ofNat 4, .ofNat 0, .ofNat 5) (by decide) (by decide) (by decide)).1
        have lo' : (0 : Int) ≤ (h.1 288 4).toInt := lo
        obtain ⟨⟨w, v, q⟩, _⟩ := iv.2.2.2.2.2.2.2.1 (h.1 288 4).toInt.toNat (by rw [Int.toNat_of_nonneg lo']; exact k4.1)
        exact ⟨_, w, v, (Int.toNat_of_nonneg lo').symm, q⟩
  · have key : ∃ j, (a, k, j) ∈ [(0, 6, 0), (0, 7, 1), (255, 13, 2), (255, 14, 3), (265, 13, 4), (265, 14, 5)] := by
      obtain ⟨h1, h2⟩ := xrw_ok hw
      have ha := or_nb (all306 x_t40 (xtg_lt h1 (by decide))) h1
      rw [Bool.or_eq_true] at ha
      rcases ha with ha | ha
      · have ha := Nat.eq_of_beq_eq_true ha
        subst ha
        rcases h2 with rfl | rfl
        · exact ⟨2, by simp⟩
        · exact ⟨3, by simp⟩
      · have ha := Nat.eq_of_beq_eq_true ha
        subst ha
        rcases h2 with rfl | rfl
        · exact ⟨4, by simp⟩
        · exact ⟨5, by simp⟩
    have na : ¬ a = 0 := fun e => by
      have h1 := (xrw_ok hw).1
      rw [e] at h1
      exact absurd h1 (by decide)
    obtain ⟨j, hj⟩ := key
    obtain ⟨s, hs⟩ := hp.2.1
    have e : pm_u h.2.2.1 a k (some b) = g_R (fun i => bif Nat.beq i j then some b else s i) := by
      rw [hs]
      exact xgR s b a k j hj
    have e0 : ∀ y, pm_u h.2.2.1 a k (some b) 0 y = h.2.2.1 0 y := fun y => by
      unfold pm_u
      rw [if_neg (fun e => na e.symm)]
    refine ⟨⟨hp.1, ⟨_, e⟩, hp.2.2⟩, fun l z q => ?_⟩
    unfold xVP at q ⊢
    split at q
    all_goals first | exact q | skip
    · show pm_u h.2.2.1 a k (some b) 0 _ = _
      rw [e0]
      exact q
    · show pm_u h.2.2.1 a k (some b) 0 _ = _
      rw [e0]
      exact q

def xk (ys : List Int32) (c : sx_K) : Prop := sx_con (g_P ys) xT xtg xPH xVP c
