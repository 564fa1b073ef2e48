/-! BY HAND: sums over CELLS: rows of rows, all turned -/
section TA
theorem suI_app {f : Nat → Int32} {m : Nat} : ∀ n, suI f (m + n) = suI f m + suI (fun i => f (m + i)) n
  | 0 => (Int32.add_zero _).symm
  | n + 1 => by
    show suI f (m + n) + f (m + n) = _
    rw [suI_app n, Int32.add_assoc]
    rfl
theorem suI_2 {w : Nat} {G : Nat → Int32} : ∀ v, suI (fun y => suI (fun x => G (w * y + x)) w) v = suI G (w * v)
  | 0 => rfl
  | v + 1 => by
    show suI (fun y => suI (fun x => G (w * y + x)) w) v + suI (fun x => G (w * v + x)) w = _
    rw [suI_2 v, Nat.mul_add, Nat.mul_one, suI_app w]
theorem suI_z : ∀ n, suI (fun _ => 0) n = 0
  | 0 => rfl
  | n + 1 => by
    show suI (fun _ => 0) n + 0 = 0
    rw [suI_z n]
    rfl
theorem suI_add {f g : Nat → Int32} : ∀ n, suI (fun i => f i + g i) n = suI f n + suI g n
  | 0 => rfl
  | n + 1 => by
    show suI (fun i => f i + g i) n + (f n + g n) = (suI f n + f n) + (suI g n + g n)
    rw [suI_add n]
    ac_rfl
theorem suI_sub {f g : Nat → Int32} : ∀ n, suI (fun i => f i - g i) n = suI f n - suI g n
  | 0 => (Int32.sub_self 0).symm
  | n + 1 => by
    show suI (fun i => f i - g i) n + (f n - g n) = (suI f n + f n) - (suI g n + g n)
    rw [suI_sub n]
    have h : ∀ a b c d : Int32, a - b + (c - d) = a + c - (b + d) := fun a b c d => by
      rw [iI_of a, iI_of b, iI_of c, iI_of d, iI_sub, iI_sub, iI_add, iI_add, iI_add, iI_sub]
      congr 1
      omega
    exact h _ _ _ _
theorem suI_mul {f : Nat → Int32} (c : Int32) : ∀ n, suI (fun i => c * f i) n = c * suI f n
  | 0 => Int32.mul_zero.symm
  | n + 1 => by
    show suI (fun i => c * f i) n + c * f n = c * (suI f n + f n)
    rw [suI_mul c n, Int32.mul_add]
theorem suI_comm {F : Nat → Nat → Int32} (m : Nat) : ∀ n, suI (fun i => suI (fun j => F i j) m) n = suI (fun j => suI (fun i => F i j) n) m
  | 0 => (suI_z m).symm
  | n + 1 => by
    show suI (fun i => suI (fun j => F i j) m) n + suI (fun j => F n j) m = suI (fun j => suI (fun i => F i j) n + F n j) m
    rw [suI_comm m n, suI_add]
/-- all turned by r -/
theorem suI_rot {f : Nat → Int32} {w r : Nat} (hr : r < w) : suI (fun x => f ((x + r) % w)) w = suI f w := by
  have e1 := suI_app (f := fun x => f ((x + r) % w)) (m := w - r) r
  rw [show w - r + r = w by omega] at e1
  have e2 := suI_app (f := f) (m := r) (w - r)
  rw [show r + (w - r) = w by omega] at e2
  rw [e1, e2, Int32.add_comm]
  congr 1
  · refine suI_congr (fun i hi => ?_)
    rw [show w - r + i + r = i + w by omega, Nat.add_mod_right, Nat.mod_eq_of_lt (by omega)]
  · refine suI_congr (fun i hi => ?_)
    rw [Nat.mod_eq_of_lt (by omega), Nat.add_comm i r]
theorem suI_rotI {f : Nat → Int32} {w : Nat} (hw : 0 < w) (a : Int) : suI (fun x => f (((x : Int) + a) % w).toNat) w = suI f w := by
  have h1 := Int.emod_nonneg a (show ¬ (w : Int) = 0 by omega)
  have h2 := Int.emod_lt_of_pos a (show (0 : Int) < w by omega)
  rw [← suI_rot (f := f) (w := w) (r := (a % w).toNat) (by omega)]
  refine suI_congr (fun i hi => ?_)
  congr 1
  have e : ((i : Int) + a) % w = (((i + (a % w).toNat : Nat) : Int)) % w := by
    rw [Int.natCast_add, Int.toNat_of_nonneg h1, Int.add_emod_emod]
  rw [e, ← Int.natCast_emod]
  exact Int.toNat_natCast _
variable {w v : Nat}
theorem cxy_self {i : Nat} (hw : 0 < w) (hi : i < w * v) : cxy w v ((i % w : Nat) : Int) ((i / w : Nat) : Int) = i := by
  have h1 := Nat.mod_lt i hw
  have h2 : i / w < v := Nat.div_lt_of_lt_mul hi
  unfold cxy
  rw [← Int.natCast_emod, ← Int.natCast_emod, Int.toNat_natCast, Int.toNat_natCast, Nat.mod_eq_of_lt h1, Nat.mod_eq_of_lt h2, Nat.mul_comm]
  exact Nat.div_add_mod i w
theorem cxy_md (hw : 0 < w) (hv : 0 < v) (x y : Int) : ((cxy w v x y % w : Nat) : Int) = x % w ∧ ((cxy w v x y / w : Nat) : Int) = y % v := by
  have h1 := Int.emod_nonneg x (show ¬ (w : Int) = 0 by omega)
  have h2 := Int.emod_lt_of_pos x (show (0 : Int) < w by omega)
  have h3 := Int.emod_nonneg y (show ¬ (v : Int) = 0 by omega)
  unfold cxy
  have hx : (x % w).toNat < w := by omega
  refine ⟨?_, ?_⟩
  · rw [Nat.add_comm, Nat.add_mul_mod_self_right, Nat.mod_eq_of_lt hx]
    omega
  · rw [Nat.add_comm, Nat.add_mul_div_right _ _ hw, Nat.div_eq_of_lt hx]
    omega
theorem cxy_eq {x y x' y' : Int} (h1 : x % w = x' % w) (h2 : y % v = y' % v) : cxy w v x y = cxy w v x' y' := by
  unfold cxy
  rw [h1, h2]
theorem em_sl {a x : Int} {w : Nat} : (a % w - x) % w = (a - x) % w := by
  rw [Int.sub_eq_add_neg, Int.sub_eq_add_neg, Int.emod_add_emod]
theorem em_sr {a x : Int} {w : Nat} : (a - x % w) % w = (a - x) % w := by
  have e : a - x % w = a - x + (x / w) * w := by
    have := Int.emod_add_mul_ediv x w
    have h : (w : Int) * (x / w) = (x / w) * w := Int.mul_comm _ _
    omega
  rw [e, Int.add_mul_emod_self_right]
/-- from a place on, once more -/
theorem cxy_add (hw : 0 < w) (hv : 0 < v) (x y a b : Int) : cxy w v (((cxy w v x y % w : Nat) : Int) + a) (((cxy w v x y / w : Nat) : Int) + b) = cxy w v (x + a) (y + b) := by
  obtain ⟨e1, e2⟩ := cxy_md hw hv x y
  refine cxy_eq ?_ ?_
  · rw [e1, Int.emod_add_emod]
  · rw [e2, Int.emod_add_emod]
theorem cxy_sub (hw : 0 < w) (hv : 0 < v) (x y a b : Int) : cxy w v (a - ((cxy w v x y % w : Nat) : Int)) (b - ((cxy w v x y / w : Nat) : Int)) = cxy w v (a - x) (b - y) := by
  obtain ⟨e1, e2⟩ := cxy_md hw hv x y
  refine cxy_eq ?_ ?_
  · rw [e1, em_sr]
  · rw [e2, em_sr]
theorem cxy_sub' (hw : 0 < w) (hv : 0 < v) {x y a b : Int} : cxy w v (((cxy w v x y % w : Nat) : Int) - a) (((cxy w v x y / w : Nat) : Int) - b) = cxy w v (x - a) (y - b) := by
  obtain ⟨e1, e2⟩ := cxy_md hw hv x y
  refine cxy_eq ?_ ?_
  · rw [e1, em_sl]
  · rw [e2, em_sl]
/-- a sum over all CELLS is the same from each place on -/
theorem suI_turn {f : Nat → Int32} (hw : 0 < w) (hv : 0 < v) (a b : Int) : suI (fun i => f (cxy w v (((i % w : Nat) : Int) + a) (((i / w : Nat) : Int) + b))) (w * v) = suI f (w * v) := by
  rw [← suI_2 v, ← suI_2 v]
  have e1 : ∀ y, y < v → suI (fun x => f (cxy w v ((((w * y + x) % w : Nat) : Int) + a) ((((w * y + x) / w : Nat) : Int) + b))) w = suI (fun x => f (w * (((y : Int) + b) % v).toNat + x)) w := by
    intro y hy
    rw [← suI_rotI (f := fun x => f (w * (((y : Int) + b) % v).toNat + x)) hw a]
    refine suI_congr (fun x hx => ?_)
    have d1 : (w * y + x) % w = x := by rw [Nat.mul_add_mod, Nat.mod_eq_of_lt hx]
    have d2 : (w * y + x) / w = y := by rw [Nat.mul_add_div hw, Nat.div_eq_of_lt hx, Nat.add_zero]
    rw [d1, d2]
    unfold cxy
    rw [Nat.mul_comm w]
  rw [suI_congr e1]
  exact suI_rotI (f := fun y => suI (fun x => f (w * y + x)) w) hv b
/-- the rows' sums, in x and y, or over all CELLS -/
theorem suI_xy {G : Nat → Int32} (hw : 0 < w) : suI (fun y => suI (fun x => G (cxy w v (x : Int) (y : Int))) w) v = suI G (w * v) := by
  rw [← suI_2 v]
  refine suI_congr (fun y hy => suI_congr (fun x hx => ?_))
  congr 1
  unfold cxy
  rw [← Int.natCast_emod, ← Int.natCast_emod, Int.toNat_natCast, Int.toNat_natCast, Nat.mod_eq_of_lt hx, Nat.mod_eq_of_lt hy, Nat.mul_comm]
/-- the least, the greatest behind the first; how often -/
def mnF (f : Nat → Int32) : Nat → Int32
  | 0 => 0
  | 1 => 0
  | n + 2 => if n = 0 then f 1 else if f (n + 1) < mnF f (n + 1) then f (n + 1) else mnF f (n + 1)
def mxF (f : Nat → Int32) : Nat → Int32
  | 0 => 0
  | 1 => 0
  | n + 2 => if n = 0 then f 1 else if mxF f (n + 1) < f (n + 1) then f (n + 1) else mxF f (n + 1)
def cnF (f : Nat → Int32) (x : Int32) (n : Nat) : Int32 := suI (fun i => if f (i + 1) = x then 1 else 0) (n - 1)
theorem mnF_1 {f : Nat → Int32} : mnF f 2 = f 1 := rfl
theorem mxF_1 {f : Nat → Int32} : mxF f 2 = f 1 := rfl
theorem mnF_s {f : Nat → Int32} {n : Nat} (h : 2 ≤ n) : mnF f (n + 1) = if f n < mnF f n then f n else mnF f n := by
  obtain ⟨k, rfl⟩ := Nat.exists_eq_add_of_le h
  rw [show 2 + k + 1 = (k + 1) + 2 by omega, show 2 + k = k + 1 + 1 by omega, mnF, if_neg (by omega)]
theorem mxF_s {f : Nat → Int32} {n : Nat} (h : 2 ≤ n) : mxF f (n + 1) = if mxF f n < f n then f n else mxF f n := by
  obtain ⟨k, rfl⟩ := Nat.exists_eq_add_of_le h
  rw [show 2 + k + 1 = (k + 1) + 2 by omega, show 2 + k = k + 1 + 1 by omega, mxF, if_neg (by omega)]
theorem mnF_c {f g : Nat → Int32} : ∀ {n : Nat}, (∀ i, i < n → f i = g i) → mnF f n = mnF g n
  | 0, _ => rfl
  | 1, _ => rfl
  | n + 2, h => by
    rw [mnF, mnF, mnF_c (n := n + 1) (fun i hi => h i (by omega)), h (n + 1) (by omega)]
    by_cases e : n = 0
    · rw [if_pos e, if_pos e]
      exact h 1 (by omega)
    · rw [if_neg e, if_neg e]
theorem mxF_c {f g : Nat → Int32} : ∀ {n : Nat}, (∀ i, i < n → f i = g i) → mxF f n = mxF g n
  | 0, _ => rfl
  | 1, _ => rfl
  | n + 2, h => by
    rw [mxF, mxF, mxF_c (n := n + 1) (fun i hi => h i (by omega)), h (n + 1) (by omega)]
    by_cases e : n = 0
    · rw [if_pos e, if_pos e]
      exact h 1 (by omega)
    · rw [if_neg e, if_neg e]
theorem mxF_ge {f : Nat → Int32} : ∀ {n i : Nat}, 1 ≤ i → i < n → (f i).toInt ≤ (mxF f n).toInt
  | 0, i, _, h => absurd h (by omega)
  | 1, i, h0, h => absurd h (by omega)
  | n + 2, i, h0, h => by
    by_cases e : n = 0
    · rw [mxF, if_pos e]
      have : i = 1 := by omega
      rw [this]
      exact Int.le_refl _
    · rw [mxF, if_neg e]
      by_cases e1 : mxF f (n + 1) < f (n + 1)
      · rw [if_pos e1]
        have e2 := (i_lt _ _).mp e1
        by_cases e3 : i = n + 1
        · rw [e3]
          exact Int.le_refl _
        · have := mxF_ge (f := f) h0 (show i < n + 1 by omega)
          omega
      · rw [if_neg e1]
        by_cases e3 : i = n + 1
        · rw [e3]
          have := (i_lt (mxF f (n + 1)) (f (n + 1)))
          have : ¬ (mxF f (n + 1)).toInt < (f (n + 1)).toInt := fun z => e1 (this.mpr z)
          omega
        · exact mxF_ge (f := f) h0 (show i < n + 1 by omega)
end TA
