/-! What holds behind the constructors (printed by gen96f.py) -/
section KA
theorem get_or {α : Type} (d : α) : ∀ (l : List (Nat × Nat × α)) (a k : Nat), se_get d l a k = d ∨ ∃ q, q ∈ l ∧ q.1 = a ∧ q.2.1 = k ∧ se_get d l a k = q.2.2
  | [], _, _ => Or.inl rfl
  | q :: l, a, k => by
    rw [se_get]
    cases e : Nat.beq q.1 a && Nat.beq q.2.1 k with
    | true =>
      rw [Bool.and_eq_true] at e
      exact Or.inr ⟨q, List.mem_cons_self, Nat.eq_of_beq_eq_true e.1, Nat.eq_of_beq_eq_true e.2, rfl⟩
    | false =>
      rcases get_or d l a k with g | ⟨q2, g1, g2⟩
      · exact Or.inl g
      · exact Or.inr ⟨q2, List.mem_cons_of_mem _ g1, g2⟩
def gvI (v : se_V) : Option Int32 := match v with
  | .inl (.int n) => some n
  | _ => none
theorem gvI_some {v : se_V} {n : Int32} (h : gvI v = some n) : v = .inl (.int n) := by
  unfold gvI at h
  split at h
  · cases h
    rfl
  · cases h
/-- an int behind the constructors -/
def gi0 (a k : Nat) : Int32 := (gvI (se_get se_z g_I1 a k)).getD 0
theorem ck_int : g_I1.all (fun q => (gvI q.2.2).isSome) = true := by decide +kernel
theorem gi_or (a k : Nat) : gi0 a k = 0 ∨ ∃ e, e ∈ g_I1 ∧ e.1 = a ∧ e.2.1 = k := by
  rcases get_or se_z g_I1 a k with g | ⟨q, g1, g2, g3, _⟩
  · left
    unfold gi0
    rw [g]
    rfl
  · exact Or.inr ⟨q, g1, g2, g3⟩
theorem gi_ok {ρ : Nat → Int32} {a k : Nat} {x : Int32} (e : se_ev ρ (se_get se_z g_I1 a k) = .int x) : x = gi0 a k := by
  unfold gi0
  rcases get_or se_z g_I1 a k with g | ⟨q, g1, g2, g3, g4⟩
  · rw [g] at e ⊢
    cases e
    rfl
  · have z := List.all_eq_true.mp ck_int q g1
    rw [g4] at e ⊢
    cases d : gvI q.2.2 with
    | none => rw [d] at z; cases z
    | some n =>
      rw [gvI_some d] at e
      cases e
      rfl
def ckIn (q : Int × Int × Int × Int) (x : Int32) : Bool := decide (q.2.2.1 ≤ x.toInt) && decide (x.toInt ≤ q.2.2.2)
def ckA (a : Nat) (q : Int × Int × Int × Int) : Bool := (ckIn q 0 && g_I1.all (fun e => !Nat.beq e.1 a || (decide ((e.2.1 : Int) < q.1) || (decide (q.2.1 < (e.2.1 : Int)) || ckIn q (gi0 a e.2.1))))) || (decide (q.2.1 < 64) && (List.range 64).all (fun k => decide ((k : Int) < q.1) || (decide (q.2.1 < (k : Int)) || ckIn q (gi0 a k))))
theorem ck_b : (List.range 306).all (fun a => (xsb (xtg a)).all (ckA a)) = true := by decide +kernel
theorem ckA_ok {a k : Nat} {q : Int × Int × Int × Int} (h : ckA a q = true) (h1 : q.1 ≤ (k : Int)) (h2 : (k : Int) ≤ q.2.1) : ckIn q (gi0 a k) = true := by
  unfold ckA at h
  rw [Bool.or_eq_true, Bool.and_eq_true, Bool.and_eq_true] at h
  rcases h with ⟨h0, h⟩ | ⟨h0, h⟩
  · rcases gi_or a k with g | ⟨e, g1, g2, g3⟩
    · rw [g]
      exact h0
    · have z := List.all_eq_true.mp h e g1
      rw [g2, g3, Nat.beq_refl, decide_eq_false (show ¬ (k : Int) < q.1 by omega), decide_eq_false (show ¬ q.2.1 < (k : Int) by omega)] at z
      exact z
  · have h0 := of_decide_eq_true h0
    have z := List.all_eq_true.mp h k (List.mem_range.mpr (by omega))
    rw [decide_eq_false (show ¬ (k : Int) < q.1 by omega), decide_eq_false (show ¬ q.2.1 < (k : Int) by omega)] at z
    exact z
theorem start_IB : sx_IB xT xtg gi0 := by
  intro a k q hq k1 k2
  have hq' : q ∈ xsb (xtg a) := hq
  by_cases ha : a < 306
  · have z := ckA_ok (List.all_eq_true.mp (all306 ck_b ha) q hq') k1 k2
    unfold ckIn at z
    rw [Bool.and_eq_true] at z
    exact ⟨of_decide_eq_true z.1, of_decide_eq_true z.2⟩
  · rw [xtg_out ha] at hq'
    cases hq'
def rI (a k : Nat) : Option Nat := se_get none g_F1 a k
def s0 (i : Nat) : Option Nat := bif Nat.beq i 0 then rI 0 6 else bif Nat.beq i 1 then rI 0 7 else bif Nat.beq i 2 then rI 255 13 else bif Nat.beq i 3 then rI 255 14 else bif Nat.beq i 4 then rI 265 13 else rI 265 14
def eqo (x y : Option Nat) : Bool := match x with
  | none => (match y with
    | none => true
    | some _ => false)
  | some a => (match y with
    | none => false
    | some b => Nat.beq a b)
theorem eqo_ok {x y : Option Nat} (h : eqo x y = true) : x = y := by
  cases x <;> cases y
  · rfl
  · cases h
  · cases h
  · rw [Nat.eq_of_beq_eq_true h]
def ckRa (a : Nat) : Nat → Bool
  | 0 => true
  | k + 1 => bif eqo (rI a k) (g_R s0 a k) then ckRa a k else false
def ckRn (a : Nat) : Nat := bif Nat.beq a 275 then 64 else 16
def ckRr (lo : Nat) : Nat → Bool
  | 0 => true
  | n + 1 => bif ckRa (lo + n) (ckRn (lo + n)) then ckRr lo n else false
theorem ckRa_ok {a k : Nat} : ∀ {n : Nat}, ckRa a n = true → k < n → rI a k = g_R s0 a k
  | 0, _, h => by omega
  | n + 1, e, h => by
    rw [ckRa] at e
    cases d : eqo (rI a n) (g_R s0 a n) with
    | false => rw [d] at e; cases e
    | true =>
      rw [d] at e
      by_cases q : k = n
      · rw [q]
        exact eqo_ok d
      · exact ckRa_ok e (by omega)
theorem ckRr_ok {lo i k : Nat} : ∀ {n : Nat}, ckRr lo n = true → i < n → k < ckRn (lo + i) → rI (lo + i) k = g_R s0 (lo + i) k
  | 0, _, h, _ => by omega
  | n + 1, e, h, hk => by
    rw [ckRr] at e
    cases d : ckRa (lo + n) (ckRn (lo + n)) with
    | false => rw [d] at e; cases e
    | true =>
      rw [d] at e
      by_cases q : i = n
      · subst q
        exact ckRa_ok d hk
      · exact ckRr_ok e (by omega) hk
theorem ck_r_0 : ckRr 0 18 = true := by decide +kernel
theorem ck_r_18 : ckRr 18 18 = true := by decide +kernel
theorem ck_r_36 : ckRr 36 18 = true := by decide +kernel
theorem ck_r_54 : ckRr 54 18 = true := by decide +kernel
theorem ck_r_72 : ckRr 72 18 = true := by decide +kernel
theorem ck_r_90 : ckRr 90 18 = true := by decide +kernel
theorem ck_r_108 : ckRr 108 18 = true := by decide +kernel
theorem ck_r_126 : ckRr 126 18 = true := by decide +kernel
theorem ck_r_144 : ckRr 144 18 = true := by decide +kernel
theorem ck_r_162 : ckRr 162 18 = true := by decide +kernel
theorem ck_r_180 : ckRr 180 18 = true := by decide +kernel
theorem ck_r_198 : ckRr 198 18 = true := by decide +kernel
theorem ck_r_216 : ckRr 216 18 = true := by decide +kernel
theorem ck_r_234 : ckRr 234 18 = true := by decide +kernel
theorem ck_r_252 : ckRr 252 18 = true := by decide +kernel
theorem ck_r_270 : ckRr 270 18 = true := by decide +kernel
theorem ck_r_288 : ckRr 288 18 = true := by decide +kernel
theorem ck_r {a k : Nat} (ha : a < 306) (hk : k < ckRn a) : rI a k = g_R s0 a k := by
  by_cases h0 : a < 18
  · have z := ckRr_ok (lo := 0) (i := a - 0) (k := k) ck_r_0 (by omega) (by rw [show 0 + (a - 0) = a by omega]; exact hk)
    rw [show 0 + (a - 0) = a by omega] at z
    exact z
  by_cases h18 : a < 36
  · have z := ckRr_ok (lo := 18) (i := a - 18) (k := k) ck_r_18 (by omega) (by rw [show 18 + (a - 18) = a by omega]; exact hk)
    rw [show 18 + (a - 18) = a by omega] at z
    exact z
  by_cases h36 : a < 54
  · have z := ckRr_ok (lo := 36) (i := a - 36) (k := k) ck_r_36 (by omega) (by rw [show 36 + (a - 36) = a by omega]; exact hk)
    rw [show 36 + (a - 36) = a by omega] at z
    exact z
  by_cases h54 : a < 72
  · have z := ckRr_ok (lo := 54) (i := a - 54) (k := k) ck_r_54 (by omega) (by rw [show 54 + (a - 54) = a by omega]; exact hk)
    rw [show 54 + (a - 54) = a by omega] at z
    exact z
  by_cases h72 : a < 90
  · have z := ckRr_ok (lo := 72) (i := a - 72) (k := k) ck_r_72 (by omega) (by rw [show 72 + (a - 72) = a by omega]; exact hk)
    rw [show 72 + (a - 72) = a by omega] at z
    exact z
  by_cases h90 : a < 108
  · have z := ckRr_ok (lo := 90) (i := a - 90) (k := k) ck_r_90 (by omega) (by rw [show 90 + (a - 90) = a by omega]; exact hk)
    rw [show 90 + (a - 90) = a by omega] at z
    exact z
  by_cases h108 : a < 126
  · have z := ckRr_ok (lo := 108) (i := a - 108) (k := k) ck_r_108 (by omega) (by rw [show 108 + (a - 108) = a by omega]; exact hk)
    rw [show 108 + (a - 108) = a by omega] at z
    exact z
  by_cases h126 : a < 144
  · have z := ckRr_ok (lo := 126) (i := a - 126) (k := k) ck_r_126 (by omega) (by rw [show 126 + (a - 126) = a by omega]; exact hk)
    rw [show 126 + (a - 126) = a by omega] at z
    exact z
  by_cases h144 : a < 162
  · have z := ckRr_ok (lo := 144) (i := a - 144) (k := k) ck_r_144 (by omega) (by rw [show 144 + (a - 144) = a by omega]; exact hk)
    rw [show 144 + (a - 144) = a by omega] at z
    exact z
  by_cases h162 : a < 180
  · have z := ckRr_ok (lo := 162) (i := a - 162) (k := k) ck_r_162 (by omega) (by rw [show 162 + (a - 162) = a by omega]; exact hk)
    rw [show 162 + (a - 162) = a by omega] at z
    exact z
  by_cases h180 : a < 198
  · have z := ckRr_ok (lo := 180) (i := a - 180) (k := k) ck_r_180 (by omega) (by rw [show 180 + (a - 180) = a by omega]; exact hk)
    rw [show 180 + (a - 180) = a by omega] at z
    exact z
  by_cases h198 : a < 216
  · have z := ckRr_ok (lo := 198) (i := a - 198) (k := k) ck_r_198 (by omega) (by rw [show 198 + (a - 198) = a by omega]; exact hk)
    rw [show 198 + (a - 198) = a by omega] at z
    exact z
  by_cases h216 : a < 234
  · have z := ckRr_ok (lo := 216) (i := a - 216) (k := k) ck_r_216 (by omega) (by rw [show 216 + (a - 216) = a by omega]; exact hk)
    rw [show 216 + (a - 216) = a by omega] at z
    exact z
  by_cases h234 : a < 252
  · have z := ckRr_ok (lo := 234) (i := a - 234) (k := k) ck_r_234 (by omega) (by rw [show 234 + (a - 234) = a by omega]; exact hk)
    rw [show 234 + (a - 234) = a by omega] at z
    exact z
  by_cases h252 : a < 270
  · have z := ckRr_ok (lo := 252) (i := a - 252) (k := k) ck_r_252 (by omega) (by rw [show 252 + (a - 252) = a by omega]; exact hk)
    rw [show 252 + (a - 252) = a by omega] at z
    exact z
  by_cases h270 : a < 288
  · have z := ckRr_ok (lo := 270) (i := a - 270) (k := k) ck_r_270 (by omega) (by rw [show 270 + (a - 270) = a by omega]; exact hk)
    rw [show 270 + (a - 270) = a by omega] at z
    exact z
  by_cases h288 : a < 306
  · have z := ckRr_ok (lo := 288) (i := a - 288) (k := k) ck_r_288 (by omega) (by rw [show 288 + (a - 288) = a by omega]; exact hk)
    rw [show 288 + (a - 288) = a by omega] at z
    exact z
  omega
theorem ck_r2 : g_F1.all (fun q => Nat.blt q.1 306 && Nat.blt q.2.1 (ckRn q.1)) = true := by decide +kernel
theorem ck_r3 : (List.range 306).all (fun a => (gR0 a).all (fun q => Nat.blt q.1 (ckRn a))) = true := by decide +kernel
theorem rI_big {a k : Nat} (h : ¬ a < 306 ∨ ¬ k < ckRn a) : rI a k = none := by
  rcases get_or none g_F1 a k with g | ⟨q, g1, g2, g3, _⟩
  · exact g
  · have z := List.all_eq_true.mp ck_r2 q g1
    rw [Bool.and_eq_true] at z
    have z1 : q.1 < 306 := Nat.le_of_ble_eq_true z.1
    have z2 : q.2.1 < ckRn q.1 := Nat.le_of_ble_eq_true z.2
    rw [g2] at z1 z2
    rw [g3] at z2
    omega
theorem lk_none {m : Nat} : ∀ {l : List (Nat × Nat)} {k : Nat}, l.all (fun q => Nat.blt q.1 m) = true → ¬ k < m → l.lookup k = none
  | [], _, _, _ => rfl
  | q :: l, k, h, hk => by
    rw [List.all_cons, Bool.and_eq_true] at h
    have z : q.1 < m := Nat.le_of_ble_eq_true h.1
    have ne : (k == q.1) = false := by
      rw [beq_eq_false_iff_ne]
      omega
    obtain ⟨x, y⟩ := q
    rw [List.lookup_cons, ne]
    exact lk_none h.2 hk
theorem gR_big {a k : Nat} (h : ¬ a < 306 ∨ ¬ k < ckRn a) : g_R s0 a k = none := by
  have n16 : ¬ a < 306 ∨ ¬ k < 16 := h.imp id (fun q => by
    unfold ckRn at q
    cases e : Nat.beq a 275 with
    | true => rw [e] at q; have q : ¬ k < 64 := q; omega
    | false => rw [e] at q; exact q)
  have nb : ∀ {x y c d : Nat}, ¬ (x = c ∧ y = d) → (Nat.beq x c && Nat.beq y d) = false := by
    intro x y c d q
    cases e : Nat.beq x c && Nat.beq y d with
    | false => rfl
    | true =>
      rw [Bool.and_eq_true] at e
      exact absurd ⟨Nat.eq_of_beq_eq_true e.1, Nat.eq_of_beq_eq_true e.2⟩ q
  unfold g_R
  rw [nb (by omega), nb (by omega), nb (by omega), nb (by omega), nb (by omega), nb (by omega)]
  show (gR0 a).lookup k = none
  by_cases ha : a < 306
  · exact lk_none (all306 ck_r3 ha) (by omega)
  · have e : Nat.blt a 306 = false := by
      cases e : Nat.blt a 306 with
      | false => rfl
      | true => exact absurd (Nat.le_of_ble_eq_true e) (by omega)
    unfold gR0
    rw [e]
    rfl
theorem start_R : rI = g_R s0 := by
  funext a k
  by_cases ha : a < 306
  · by_cases hk : k < ckRn a
    · exact ck_r ha hk
    · rw [rI_big (Or.inr hk), gR_big (Or.inr hk)]
  · rw [rI_big (Or.inl ha), gR_big (Or.inl ha)]
theorem xgr_big (t k : Nat) (hk : ¬ k < 64) : xgr t k = none := by
  have b1 : ∀ c, c < 64 → Nat.beq k c = false := fun c hc => by
    cases e : Nat.beq k c with
    | false => rfl
    | true =>
      have q := Nat.eq_of_beq_eq_true e
      omega
  have b2 : ∀ c, c < 65 → Nat.blt k c = false := fun c hc => by
    cases e : Nat.blt k c with
    | false => rfl
    | true =>
      have q : k + 1 ≤ c := Nat.le_of_ble_eq_true e
      omega
  unfold xgr
  simp (discharger := decide) only [b1, b2, cond_false, Bool.cond_self]
def ckBa (a : Nat) : Nat → Bool
  | 0 => true
  | k + 1 => bif (match xgr (xtg a) k with
    | none => true
    | some t => (match rI a k with
      | some b => Nat.beq (xtg b) t && Nat.ble b 1000000
      | none => false)) then ckBa a k else false
def ckBr (lo : Nat) : Nat → Bool
  | 0 => true
  | n + 1 => bif ckBa (lo + n) 64 then ckBr lo n else false
theorem ckBa_ok {a k t : Nat} : ∀ {n : Nat}, ckBa a n = true → k < n → xgr (xtg a) k = some t → ∃ b, rI a k = some b ∧ xtg b = t ∧ b ≤ 1000000
  | 0, _, h, _ => by omega
  | n + 1, e, h, ht => by
    rw [ckBa] at e
    cases d : (match xgr (xtg a) n with
    | none => true
    | some t => (match rI a n with
      | some b => Nat.beq (xtg b) t && Nat.ble b 1000000
      | none => false)) with
    | false => rw [d] at e; cases e
    | true =>
      rw [d] at e
      by_cases q : k = n
      · subst q
        rw [ht] at d
        cases r : rI a k with
        | none => rw [r] at d; cases d
        | some b =>
          rw [r] at d
          have d : (Nat.beq (xtg b) t && Nat.ble b 1000000) = true := d
          rw [Bool.and_eq_true] at d
          exact ⟨b, rfl, Nat.eq_of_beq_eq_true d.1, Nat.le_of_ble_eq_true d.2⟩
      · exact ckBa_ok e (by omega) ht
theorem ckBr_ok {lo i k t : Nat} : ∀ {n : Nat}, ckBr lo n = true → i < n → k < 64 → xgr (xtg (lo + i)) k = some t → ∃ b, rI (lo + i) k = some b ∧ xtg b = t ∧ b ≤ 1000000
  | 0, _, h, _, _ => by omega
  | n + 1, e, h, hk, ht => by
    rw [ckBr] at e
    cases d : ckBa (lo + n) 64 with
    | false => rw [d] at e; cases e
    | true =>
      rw [d] at e
      by_cases q : i = n
      · subst q
        exact ckBa_ok d hk ht
      · exact ckBr_ok e (by omega) hk ht
theorem ck_rb_0 : ckBr 0 51 = true := by decide +kernel
theorem ck_rb_51 : ckBr 51 51 = true := by decide +kernel
theorem ck_rb_102 : ckBr 102 51 = true := by decide +kernel
theorem ck_rb_153 : ckBr 153 51 = true := by decide +kernel
theorem ck_rb_204 : ckBr 204 51 = true := by decide +kernel
theorem ck_rb_255 : ckBr 255 51 = true := by decide +kernel
theorem ck_rb {a k t : Nat} (ha : a < 306) (hk : k < 64) (ht : xgr (xtg a) k = some t) : ∃ b, rI a k = some b ∧ xtg b = t ∧ b ≤ 1000000 := by
  by_cases h0 : a < 51
  · have e : 0 + (a - 0) = a := by omega
    have z := ckBr_ok (lo := 0) (i := a - 0) (k := k) (t := t) ck_rb_0 (by omega) hk (by rw [e]; exact ht)
    rw [e] at z
    exact z
  by_cases h51 : a < 102
  · have e : 51 + (a - 51) = a := by omega
    have z := ckBr_ok (lo := 51) (i := a - 51) (k := k) (t := t) ck_rb_51 (by omega) hk (by rw [e]; exact ht)
    rw [e] at z
    exact z
  by_cases h102 : a < 153
  · have e : 102 + (a - 102) = a := by omega
    have z := ckBr_ok (lo := 102) (i := a - 102) (k := k) (t := t) ck_rb_102 (by omega) hk (by rw [e]; exact ht)
    rw [e] at z
    exact z
  by_cases h153 : a < 204
  · have e : 153 + (a - 153) = a := by omega
    have z := ckBr_ok (lo := 153) (i := a - 153) (k := k) (t := t) ck_rb_153 (by omega) hk (by rw [e]; exact ht)
    rw [e] at z
    exact z
  by_cases h204 : a < 255
  · have e : 204 + (a - 204) = a := by omega
    have z := ckBr_ok (lo := 204) (i := a - 204) (k := k) (t := t) ck_rb_204 (by omega) hk (by rw [e]; exact ht)
    rw [e] at z
    exact z
  by_cases h255 : a < 306
  · have e : 255 + (a - 255) = a := by omega
    have z := ckBr_ok (lo := 255) (i := a - 255) (k := k) (t := t) ck_rb_255 (by omega) hk (by rw [e]; exact ht)
    rw [e] at z
    exact z
  omega
theorem start_RB : sx_RB xT xtg rI := by
  intro a k t e
  have e : xgr (xtg a) k = some t := e
  by_cases ha : a < 306
  · by_cases hk : k < 64
    · exact ck_rb ha hk e
    · rw [xgr_big (xtg a) k hk] at e
      cases e
  · rw [xtg_out ha] at e
    cases e
theorem ck_pl : (List.range 306).all (fun a => !Nat.beq (xtg a) 36 || (decide (gi0 a 4 = 1) && (decide (gi0 a 5 = 1) && decide (gi0 a 6 = 1)))) = true := by decide +kernel
theorem ck_7 : g_I1.all (fun e => !Nat.beq e.1 7) = true := by decide +kernel
theorem ck_m : gi0 275 14 = 0 ∧ gi0 275 15 = 0 ∧ gi0 289 4 = 0 := by decide +kernel
theorem start_K : xK gi0 := by
  obtain ⟨m1, m2, m3⟩ := ck_m
  have z0 : (0 : Int32).toInt = 0 := rfl
  refine ⟨fun a ha => ?_, fun j hj hk => ?_, fun n hn => ?_, fun hn => ?_, fun _ => ⟨fun n hn => ?_, Or.inl (by rw [m3]; rfl)⟩⟩
  · have z := or_nb (all306 ck_pl (xtg_lt ha (by decide))) ha
    rw [Bool.and_eq_true, Bool.and_eq_true] at z
    rw [of_decide_eq_true z.1, of_decide_eq_true z.2.1, of_decide_eq_true z.2.2]
    rfl
  · have e : gi0 7 j = 0 := by
      rcases gi_or 7 j with g | ⟨e, g1, g2, _⟩
      · exact g
      · have z := List.all_eq_true.mp ck_7 e g1
        rw [g2] at z
        exact absurd z (by decide)
    rw [e, z0] at hk
    omega
  · rw [m1, z0] at hn
    omega
  · rw [m1, z0] at hn
    omega
  · rw [m2, z0] at hn
    omega
theorem start_iv {ρ : Nat → Int32} {h : pm_H} (hr : se_hr ρ g_H1 h) : sx_IV xT xtg xPH h ∧ h.1 = gi0 := by
  obtain ⟨I, L, R, n⟩ := h
  obtain ⟨h1, h2, h3, h4⟩ := hr
  have e1 : I = gi0 := by
    funext a k
    exact gi_ok (h1 a k)
  have e3 : R = rI := by
    funext a k
    exact h3 a k
  have e4 : n = 306 := h4
  subst e1
  subst e3
  subst e4
  refine ⟨⟨start_IB, fun a k => ?_, start_RB, rfl, ⟨s0, start_R⟩, start_K⟩, rfl⟩
  have := Int64.le_toInt (L a k)
  have := Int64.toInt_lt (L a k)
  exact ⟨by show (-9223372036854775808 : Int) ≤ (L a k).toInt; omega, by show (L a k).toInt ≤ (9223372036854775807 : Int); omega⟩
end KA
