/-! A RUN OVER AN UNKNOWN HEAP, second: bounds of ints; locals -/
theorem sx_rng (x : Int32) : sx_mn ≤ x.toInt ∧ x.toInt ≤ sx_mx := ⟨Int32.le_toInt x, by have := Int32.toInt_lt x; unfold sx_mx; omega⟩
theorem sx_rngL (x : Int64) : sx_ln ≤ x.toInt ∧ x.toInt ≤ sx_lx := ⟨Int64.le_toInt x, by have := Int64.toInt_lt x; unfold sx_lx; omega⟩
theorem sx_bm {z : Int} (h1 : sx_mn ≤ z) (h2 : z ≤ sx_mx) : z.bmod (2 ^ 32) = z := by
  unfold sx_mn at h1
  unfold sx_mx at h2
  exact Int.bmod_eq_of_le (by omega) (by omega)
theorem sx_bmL {z : Int} (h1 : sx_ln ≤ z) (h2 : z ≤ sx_lx) : z.bmod (2 ^ 64) = z := by
  unfold sx_ln at h1
  unfold sx_lx at h2
  exact Int.bmod_eq_of_le (by omega) (by omega)
theorem sx_ofInt {z : Int} (h1 : sx_mn ≤ z) (h2 : z ≤ sx_mx) : (Int32.ofInt z).toInt = z := by
  rw [Int32.toInt_ofInt]
  exact (show z.bmod Int32.size = z from sx_bm h1 h2)
theorem sx_ofIntL {z : Int} (h1 : sx_ln ≤ z) (h2 : z ≤ sx_lx) : (Int64.ofInt z).toInt = z := by
  rw [Int64.toInt_ofInt]
  exact (show z.bmod Int64.size = z from sx_bmL h1 h2)
/-- within -/
def sx_w (b : Int × Int) (lo hi : Int) : Bool := decide (lo ≤ b.1) && decide (b.2 ≤ hi)
theorem sx_w_ok {b : Int × Int} {lo hi : Int} (h : sx_w b lo hi = true) : lo ≤ b.1 ∧ b.2 ≤ hi := by
  unfold sx_w at h
  rw [Bool.and_eq_true, decide_eq_true_iff, decide_eq_true_iff] at h
  exact h
/-- bounds of an int -/
def sx_vi (σ : sx_S) (v : sx_V) : Option (Int × Int) := match v with
  | .inl (.int x) => some (x.toInt, x.toInt)
  | .inr (.inl (i, c)) => match sx_b σ i with
    | some (lo, hi) => bif sx_w (lo + c, hi + c) sx_mn sx_mx then some (lo + c, hi + c) else some (sx_mn, sx_mx)
    | none => some (sx_mn, sx_mx)
  | .inr (.inr (.inr (.inl _))) => some (sx_mn, sx_mx)
  | _ => none
theorem sx_vi_ok {tg : Nat → Nat} {ρ : List Int} {σ : sx_S} (hρ : sx_in ρ σ) {v : sx_V} {a : Int × Int} (h : sx_vi σ v = some a) {w : Value} (e : sx_ev tg ρ v = some w) : ∃ x, w = .int x ∧ a.1 ≤ x.toInt ∧ x.toInt ≤ a.2 := by
  unfold sx_vi at h
  split at h
  · rename_i x
    cases h
    exact ⟨x, (sx_evl e).symm, Int.le_refl _, Int.le_refl _⟩
  · rename_i i c
    obtain ⟨z, h1, rfl⟩ := sx_evi e
    refine ⟨_, rfl, ?_⟩
    split at h
    · rename_i lo hi hb
      cases d : sx_w (lo + c, hi + c) sx_mn sx_mx with
      | false => rw [d] at h; cases h; exact sx_rng _
      | true =>
        rw [d] at h
        cases h
        have h2 := sx_w_ok d
        have h3 := hρ i _ hb z h1
        have h4 : lo ≤ z := h3.1
        have h5 : z ≤ hi := h3.2
        have h6 : sx_mn ≤ lo + c := h2.1
        have h7 : hi + c ≤ sx_mx := h2.2
        rw [sx_ofInt (by omega) (by omega)]
        exact ⟨by show lo + c ≤ z + c; omega, by show z + c ≤ hi + c; omega⟩
    · cases h
      exact sx_rng _
  · rename_i q
    cases h
    obtain ⟨a, b, _, _, rfl⟩ := sx_evc (p := q.1) (q := q.2) e
    exact ⟨_, rfl, sx_rng _⟩
  · cases h
/-- narrower bounds of an int's variable -/
def sx_pu (σ : sx_S) (v : sx_V) (b : Int × Int) : sx_S := match v with
  | .inr (.inl (i, c)) => match sx_b σ i with
    | some (lo, hi) => bif sx_w (lo + c, hi + c) sx_mn sx_mx then (i, max lo (b.1 - c), min hi (b.2 - c)) :: σ else σ
    | none => σ
  | _ => σ
theorem sx_pu_ok' {tg : Nat → Nat} {ρ : List Int} {σ : sx_S} (hρ : sx_in ρ σ) {v : sx_V} {b : Int × Int} {x : Int32} (e : sx_ev tg ρ v = some (.int x)) (h1 : b.1 ≤ x.toInt) (h2 : x.toInt ≤ b.2) : sx_in ρ (sx_pu σ v b) := by
  rcases v with v | ⟨i, c⟩ | i | q | q
  · exact hρ
  · simp only [sx_pu]
    split
    · rename_i lo hi hb
      cases d : sx_w (lo + c, hi + c) sx_mn sx_mx with
      | false => exact hρ
      | true =>
        refine sx_in_cons (lo := max lo (b.1 - c)) (hi := min hi (b.2 - c)) hρ (fun z hz => ?_)
        have h3 := sx_w_ok d
        have h6 : sx_mn ≤ lo + c := h3.1
        have h7 : hi + c ≤ sx_mx := h3.2
        have h4 := hρ i _ hb z hz
        have h8 : lo ≤ z := h4.1
        have h9 : z ≤ hi := h4.2
        obtain ⟨z', g1, g2⟩ := sx_evi e
        rw [hz] at g1
        cases g1
        cases g2
        rw [sx_ofInt (by omega) (by omega)] at h1 h2
        omega
    · exact hρ
  · exact hρ
  · exact hρ
  · exact hρ
/-- an int whose bounds meet is known -/
def sx_nm (σ : sx_S) (v : sx_V) : sx_V := match v with
  | .inr (.inl (i, c)) => match sx_b σ i with
    | some (lo, hi) => bif decide (lo = hi) then .inl (.int (Int32.ofInt (lo + c))) else .inr (.inl (i, c))
    | none => .inr (.inl (i, c))
  | v => v
theorem sx_nm_ev {tg : Nat → Nat} {ρ : List Int} {σ : sx_S} (hρ : sx_in ρ σ) {v : sx_V} {w : Value} (e : sx_ev tg ρ v = some w) : sx_ev tg ρ (sx_nm σ v) = some w := by
  unfold sx_nm
  split
  · rename_i i c
    split
    · rename_i lo hi hb
      cases d : decide (lo = hi) with
      | false => exact e
      | true =>
        have d1 := of_decide_eq_true d
        obtain ⟨z, h1, rfl⟩ := sx_evi e
        have h2 := hρ i _ hb z h1
        have h3 : lo ≤ z := h2.1
        have h4 : z ≤ hi := h2.2
        have h5 : lo = z := by omega
        rw [h5]
        rfl
    · exact e
  · exact e
/-! locals -/
def sx_k (lv : List sx_V) (i : Nat) : List sx_V := match i with
  | 0 => lv
  | j + 1 => match lv[j]? with
    | some (.inl (.long _)) => lv.set j (.inl (.retAddr 0))
    | some (.inl (.double _)) => lv.set j (.inl (.retAddr 0))
    | some (.inr (.inr (.inl _))) => lv.set j (.inl (.retAddr 0))
    | _ => lv
/-- locals: one that nobody reads any more may be anything -/
def sx_RL (tg : Nat → Nat) (ρ : List Int) : List sx_V → List Value → Prop
  | [], [] => True
  | v :: l, w :: c => (v = .inl (.retAddr 1) ∨ sx_ev tg ρ v = some w) ∧ sx_RL tg ρ l c
  | _, _ => False
section XL
variable {tg : Nat → Nat} {ρ : List Int}
theorem sx_RL_of : ∀ {l : List sx_V} {c : List Value}, sx_R tg ρ l c → sx_RL tg ρ l c
  | [], [], _ => trivial
  | _ :: _, _ :: _, h => ⟨Or.inr h.1, sx_RL_of h.2⟩
  | [], _ :: _, h => h.elim
  | _ :: _, [], h => h.elim
theorem sx_RL_mono (e : List Int) : ∀ {l : List sx_V} {c : List Value}, sx_RL tg ρ l c → sx_RL tg (ρ ++ e) l c
  | [], [], _ => trivial
  | _ :: _, _ :: _, h => ⟨h.1.imp id (fun q => sx_em q e), sx_RL_mono e h.2⟩
  | [], _ :: _, h => h.elim
  | _ :: _, [], h => h.elim
theorem sx_RL_len : ∀ {l : List sx_V} {c : List Value}, sx_RL tg ρ l c → l.length = c.length
  | [], [], _ => rfl
  | _ :: _, _ :: _, h => by rw [List.length_cons, List.length_cons, sx_RL_len h.2]
  | [], _ :: _, h => h.elim
  | _ :: _, [], h => h.elim
theorem sx_RL_get : ∀ {l : List sx_V} {c : List Value} {k : Nat} {v : sx_V}, sx_RL tg ρ l c → l[k]? = some v → ∃ w, c[k]? = some w ∧ (v = .inl (.retAddr 1) ∨ sx_ev tg ρ v = some w)
  | [], _, _, _, _, e => by simp at e
  | _ :: _, [], _, _, h, _ => h.elim
  | a :: l, w :: c, 0, v, h, e => by
    simp only [List.getElem?_cons_zero, Option.some.injEq] at e ⊢
    subst e
    exact ⟨w, rfl, h.1⟩
  | a :: l, w :: c, k + 1, v, h, e => by
    simp only [List.getElem?_cons_succ] at e ⊢
    exact sx_RL_get h.2 e
theorem sx_RL_set {v : sx_V} {w : Value} (hv : v = .inl (.retAddr 1) ∨ sx_ev tg ρ v = some w) : ∀ {l : List sx_V} {c : List Value} (k : Nat), sx_RL tg ρ l c → sx_RL tg ρ (l.set k v) (c.set k w)
  | [], [], _, h => h
  | _ :: _, [], _, h => h.elim
  | [], _ :: _, _, h => h.elim
  | _ :: _, _ :: _, 0, h => ⟨hv, h.2⟩
  | _ :: _, _ :: _, k + 1, h => ⟨h.1, sx_RL_set hv k h.2⟩
/-- a local that may be anything may be changed -/
theorem sx_RL_set0 {w : Value} : ∀ {l : List sx_V} {c : List Value} (k : Nat), sx_RL tg ρ l c → l[k]? = some (.inl (.retAddr 1)) → sx_RL tg ρ l (c.set k w)
  | [], [], _, h, _ => h
  | _ :: _, [], _, h, _ => h.elim
  | [], _ :: _, _, h, _ => h.elim
  | v :: _, _ :: _, 0, h, e => ⟨Or.inl (by simpa using e), h.2⟩
  | _ :: _, _ :: _, k + 1, h, e => ⟨h.1, sx_RL_set0 k h.2 (by simpa using e)⟩
theorem sx_k_ok {lv : List sx_V} {c : List Value} (h : sx_RL tg ρ lv c) (i : Nat) : sx_RL tg ρ (sx_k lv i) (pm_k c i) := by
  cases i with
  | zero => exact h
  | succ j =>
    simp only [sx_k, pm_k]
    cases e : lv[j]? with
    | none =>
      have hl : c[j]? = none := by
        rw [List.getElem?_eq_none_iff] at e ⊢
        rw [← sx_RL_len h]
        exact e
      rw [hl]
      exact h
    | some v =>
      obtain ⟨w, h1, h2⟩ := sx_RL_get h e
      rw [h1]
      rcases h2 with h2 | h2
      · subst h2
        show sx_RL tg ρ lv _
        split
        · exact sx_RL_set0 j h e
        · exact sx_RL_set0 j h e
        · exact h
      · rcases v with v | q | i | q | q
        · have h3 := sx_evl h2
          subst h3
          cases v <;> first | exact h | exact sx_RL_set (Or.inr rfl) j h
        · obtain ⟨x, h3⟩ := sx_isI_ev (v := .inr (.inl q)) rfl h2
          subst h3
          exact h
        · obtain ⟨x, h3⟩ := sx_isL_ev (v := .inr (.inr (.inl i))) rfl h2
          subst h3
          exact sx_RL_set (Or.inr rfl) j h
        · obtain ⟨x, h3⟩ := sx_isI_ev (v := .inr (.inr (.inr (.inl q)))) rfl h2
          subst h3
          exact h
        · rcases sx_isR_ev (v := .inr (.inr (.inr (.inr q)))) rfl h2 with ⟨x, h3⟩ | h3
          · subst h3
            exact h
          · subst h3
            exact h
def sx_st1 (lv : List sx_V) (i : Nat) (v : sx_V) : List sx_V := (sx_k lv i).set i v
def sx_st2 (lv : List sx_V) (i : Nat) (v : sx_V) : List sx_V := ((sx_k lv i).set i v).set (i + 1) (.inl (.retAddr 0))
theorem sx_st1_ok {lv : List sx_V} {c : List Value} (h : sx_RL tg ρ lv c) (i : Nat) {v : sx_V} {w : Value} (e : sx_ev tg ρ v = some w) : sx_RL tg ρ (sx_st1 lv i v) (pm_st1 c i w) := sx_RL_set (Or.inr e) i (sx_k_ok h i)
theorem sx_st2_ok {lv : List sx_V} {c : List Value} (h : sx_RL tg ρ lv c) (i : Nat) {v : sx_V} {w : Value} (e : sx_ev tg ρ v = some w) : sx_RL tg ρ (sx_st2 lv i v) (pm_st2 c i w) := sx_RL_set (Or.inr rfl) (i + 1) (sx_RL_set (Or.inr e) i (sx_k_ok h i))
/-- a number is worked out at once -/
def sx_fn {α : Type} (n : Nat) (k : Nat → α) : α := match n with
  | 0 => k 0
  | m + 1 => k (m + 1)
theorem sx_fn_eq {α : Type} (n : Nat) (k : Nat → α) : sx_fn n k = k n := by cases n <;> rfl
def sx_fz {α : Type} (z : Int) (k : Int → α) : α := match z with
  | .ofNat n => sx_fn n fun m => k (.ofNat m)
  | .negSucc n => sx_fn n fun m => k (.negSucc m)
theorem sx_fz_eq {α : Type} (z : Int) (k : Int → α) : sx_fz z k = k z := by
  cases z with
  | ofNat n => exact sx_fn_eq n (fun m => k (.ofNat m))
  | negSucc n => exact sx_fn_eq n (fun m => k (.negSucc m))
def sx_lc (σ : sx_S) (i : Instr) (lv st : List sx_V) : Option (List sx_V × List sx_V) := match i with
  | .iload k => match lv[k]? with
    | some v => bif sx_isI v then some (lv, sx_nm σ v :: st) else none
    | _ => none
  | .lload k => match lv[k]? with
    | some v => bif sx_isL v then some (lv, v :: st) else none
    | _ => none
  | .aload k => match lv[k]? with
    | some v => bif sx_isR v then some (lv, v :: st) else none
    | _ => none
  | .istore k => match st with
    | v :: r => bif sx_isI v && Nat.blt k lv.length then some (sx_st1 lv k v, r) else none
    | _ => none
  | .lstore k => match st with
    | v :: r => bif sx_isL v && Nat.blt (k + 1) lv.length then some (sx_st2 lv k v, r) else none
    | _ => none
  | .astore k => match st with
    | v :: r => bif sx_isR v && Nat.blt k lv.length then some (sx_st1 lv k v, r) else none
    | _ => none
  | .iinc k n => match lv[k]? with
    | some (.inl (.int x)) => sx_fz (x + Int32.ofInt n).toInt fun z => some (sx_st1 lv k (.inl (.int (Int32.ofInt z))), st)
    | some (.inr (.inl (i, c))) => sx_fz (c + n) fun z => some (sx_st1 lv k (.inr (.inl (i, z))), st)
    | _ => none
  | _ => none
theorem sx_bif {α : Type} {b : Bool} {x y : α} (h : (bif b then some x else none) = some y) : b = true ∧ x = y := by
  cases b
  · cases h
  · cases h; exact ⟨rfl, rfl⟩
theorem sx_addI (z c n : Int) : Int32.ofInt (z + c) + Int32.ofInt n = Int32.ofInt (z + (c + n)) := by
  rw [← Int32.ofInt_add, Int.add_assoc]
theorem sx_lc_ok {σ : sx_S} (hρ : sx_in ρ σ) {i : Instr} {lv st lv' st' : List sx_V} {lc sc : List Value} (h : sx_lc σ i lv st = some (lv', st')) (hl : sx_RL tg ρ lv lc) (hs : sx_R tg ρ st sc) (rt : Nat) (P : pm_P) (hh : pm_H) :
    ∃ lc' sc', pm_lo i lc sc = some (lc', sc') ∧ sx_RL tg ρ lv' lc' ∧ sx_R tg ρ st' sc' ∧ pm_re rt i sc = none ∧ pm_ca P i sc hh = none := by
  unfold sx_lc at h
  simp only [sx_fz_eq] at h
  split at h
  · split at h
    · rename_i k v e
      obtain ⟨h1, h2⟩ := sx_bif h
      cases h2
      obtain ⟨w, g1, g2⟩ := sx_RL_get hl e
      have g2 := g2.resolve_left (fun q => by subst q; cases h1)
      obtain ⟨x, rfl⟩ := sx_isI_ev h1 g2
      exact ⟨lc, .int x :: sc, by simp only [pm_lo, g1], hl, ⟨sx_nm_ev hρ g2, hs⟩, rfl, rfl⟩
    · cases h
  · split at h
    · rename_i k v e
      obtain ⟨h1, h2⟩ := sx_bif h
      cases h2
      obtain ⟨w, g1, g2⟩ := sx_RL_get hl e
      have g2 := g2.resolve_left (fun q => by subst q; cases h1)
      obtain ⟨x, rfl⟩ := sx_isL_ev h1 g2
      exact ⟨lc, .long x :: sc, by simp only [pm_lo, g1], hl, ⟨g2, hs⟩, rfl, rfl⟩
    · cases h
  · split at h
    · rename_i k v e
      obtain ⟨h1, h2⟩ := sx_bif h
      cases h2
      obtain ⟨w, g1, g2⟩ := sx_RL_get hl e
      have g2 := g2.resolve_left (fun q => by subst q; cases h1)
      rcases sx_isR_ev h1 g2 with ⟨x, rfl⟩ | rfl
      · exact ⟨lc, .ref x :: sc, by simp only [pm_lo, g1], hl, ⟨g2, hs⟩, rfl, rfl⟩
      · exact ⟨lc, .null :: sc, by simp only [pm_lo, g1], hl, ⟨g2, hs⟩, rfl, rfl⟩
    · cases h
  · split at h
    · rename_i k _ v r
      obtain ⟨h1, h2⟩ := sx_bif h
      cases h2
      rw [Bool.and_eq_true] at h1
      obtain ⟨w, sc', rfl, g1, g2⟩ := sx_R_cons hs
      obtain ⟨x, rfl⟩ := sx_isI_ev h1.1 g1
      have hk : k < lc.length := by rw [← sx_RL_len hl]; exact Nat.blt_eq.mp h1.2
      exact ⟨pm_st1 lc k (.int x), sc', by simp only [pm_lo, if_pos hk], sx_st1_ok hl k g1, g2, rfl, rfl⟩
    · cases h
  · split at h
    · rename_i k _ v r
      obtain ⟨h1, h2⟩ := sx_bif h
      cases h2
      rw [Bool.and_eq_true] at h1
      obtain ⟨w, sc', rfl, g1, g2⟩ := sx_R_cons hs
      obtain ⟨x, rfl⟩ := sx_isL_ev h1.1 g1
      have hk : k + 1 < lc.length := by rw [← sx_RL_len hl]; exact Nat.blt_eq.mp h1.2
      exact ⟨pm_st2 lc k (.long x), sc', by simp only [pm_lo, if_pos hk], sx_st2_ok hl k g1, g2, rfl, rfl⟩
    · cases h
  · split at h
    · rename_i k _ v r
      obtain ⟨h1, h2⟩ := sx_bif h
      cases h2
      rw [Bool.and_eq_true] at h1
      obtain ⟨w, sc', rfl, g1, g2⟩ := sx_R_cons hs
      have hk : k < lc.length := by rw [← sx_RL_len hl]; exact Nat.blt_eq.mp h1.2
      rcases sx_isR_ev h1.1 g1 with ⟨x, rfl⟩ | rfl
      · exact ⟨pm_st1 lc k (.ref x), sc', by simp only [pm_lo, if_pos hk], sx_st1_ok hl k g1, g2, rfl, rfl⟩
      · exact ⟨pm_st1 lc k .null, sc', by simp only [pm_lo, if_pos hk], sx_st1_ok hl k g1, g2, rfl, rfl⟩
    · cases h
  · split at h
    · rename_i k n _ x e
      cases h
      obtain ⟨w, g1, g2⟩ := sx_RL_get hl e
      have g2 := g2.resolve_left (fun q => by cases q)
      have g3 := sx_evl g2
      subst g3
      exact ⟨pm_st1 lc k (.int (x + Int32.ofInt n)), sc, by simp only [pm_lo, g1], sx_st1_ok hl k (by rw [Int32.ofInt_toInt]; rfl), hs, rfl, rfl⟩
    · rename_i k n _ i c e
      cases h
      obtain ⟨w, g1, g2⟩ := sx_RL_get hl e
      have g2 := g2.resolve_left (fun q => by cases q)
      obtain ⟨z, g3, rfl⟩ := sx_evi g2
      exact ⟨pm_st1 lc k (.int (Int32.ofInt (z + c) + Int32.ofInt n)), sc, by simp only [pm_lo, g1], sx_st1_ok hl k (by rw [sx_addI]; exact sx_evi' g3), hs, rfl, rfl⟩
    · cases h
  · cases h
end XL
