/-! BY HAND: the model's steps through a text, fifth: things -/
section KH
/-- where a text's reading writes -/
def mF (I I' : Nat → Nat → Int32) : Prop := ∀ a j : Nat, ¬ (a = 277 ∨ a = 279 ∨ a = 281 ∨ a = 283 ∨ a = 289 ∨ (a = 275 ∧ (j = 15 ∨ j = 46 ∨ j = 47 ∨ j = 48 ∨ j = 49 ∨ j = 50 ∨ j = 51 ∨ j = 53))) → I' a j = I a j
def lF (L L' : Nat → Nat → Int64) : Prop := ∀ a j : Nat, ¬ (a = 285 ∨ a = 287 ∨ (a = 275 ∧ j = 54)) → L' a j = L a j
def mX (I : Nat → Nat → Int32) (k p : Int32) : Prop := I 275 46 = k ∧ I 275 47 = p ∧ 0 < k.toInt
variable {f T : Nat → Int32} {J I I' I'' : Nat → Nat → Int32} {L L' L'' : Nat → Nat → Int64} {n c t : Nat} {s : Nat → Option Nat} {Q : List Value → pm_H → Prop} {ys : List Int32} {B : sB}
theorem mF_r : mF I I := fun _ _ _ => rfl
theorem lF_r : lF L L := fun _ _ _ => rfl
theorem mF_t (h : mF I I') (k : mF I' I'') : mF I I'' := fun a j q => (k a j q).trans (h a j q)
theorem lF_t (h : lF L L') (k : lF L' L'') : lF L L'' := fun a j q => (k a j q).trans (h a j q)
theorem mF_d (h : dAg I I') : mF I I' := fun a j q => h a j (fun z => q (by omega))
theorem lF_l (h : lA L L') : lF L L' := fun a j q => h a j (fun z => q (by omega))
theorem pu_x {a j b i : Nat} {x : Int32} (h : ¬ (a = b ∧ j = i)) : pm_u I b i x a j = I a j := by
  by_cases e : a = b
  · subst e
    exact pu_n (fun e2 => h ⟨rfl, e2⟩)
  · exact pu_o e
theorem mF_u {b i : Nat} {x : Int32} (h : mF I I') (hb : b = 277 ∨ b = 279 ∨ b = 281 ∨ b = 283 ∨ b = 289 ∨ (b = 275 ∧ (i = 15 ∨ i = 46 ∨ i = 47))) : mF I (pm_u I' b i x) := fun a j q => by
  rw [pu_x (fun z => q (by omega))]
  exact h a j q
theorem mF_b {k p : Int32} (h : mF I I') : mF I (bdI I' k p) := mF_u (mF_u h (by decide)) (by decide)
theorem mX_b {k p : Int32} (h : 0 < k.toInt) : mX (bdI I k p) k p := ⟨bd_w, pu_s, h⟩
theorem mX_u {k p : Int32} {b i : Nat} {x : Int32} (h : mX I k p) (hb : ¬ (b = 275 ∧ (i = 46 ∨ i = 47))) : mX (pm_u I b i x) k p := ⟨by rw [pu_x (by omega)]; exact h.1, by rw [pu_x (by omega)]; exact h.2.1, h.2.2⟩
theorem mX_w {k p : Int32} (h : mX I k p) : 0 < (I 275 46).toInt := by rw [h.1]; exact h.2.2
theorem mC_of (m : mC J T c n t I L) (h5 : ∀ j, ¬ j = 15 → I' 275 j = I 275 j) (h3 : ∀ j, I' 303 j = I 303 j) (hL : ∀ a j, ¬ a = 287 → ¬ a = 285 → L' a j = L a j) : mC J T c n t I' L' := by
  obtain ⟨m1, m2, m3, m4, m5, m6, m7⟩ := m
  refine ⟨(h5 _ (by decide)).trans m1, (h5 _ (by decide)).trans m2, ?_, by rw [h5 _ (by decide)]; exact m4, by rw [h5 _ (by decide)]; exact m5, fun j hj => (hL _ _ (by decide) (by decide)).trans (m6 j hj), ?_⟩
  · rw [← m3]
    funext j
    exact h3 j
  · unfold cuR at m7 ⊢
    rw [h5 _ (by decide), h5 _ (by decide), h5 _ (by decide), h5 _ (by decide), h5 _ (by decide), hL _ _ (by decide) (by decide)]
    exact m7
theorem mC_u {b i : Nat} {x : Int32} (m : mC J T c n t I L) (h5 : ¬ b = 275) (h3 : ¬ b = 303) : mC J T c n t (pm_u I b i x) L :=
  mC_of m (fun j _ => pu_x (fun z => h5 z.1.symm)) (fun j => pu_x (fun z => h3 z.1.symm)) (fun _ _ _ _ => rfl)
def sB.adT (B : sB) (q : Nat) (x y z : Int32) : sB := (B.ps, B.pl, fun r => if r = q then B.n r + 1 else B.n r, fun r k j => if r = q ∧ k = B.n r then (if j = 0 then x else if j = 1 then y else z) else B.sc r k j, B.bk, B.us)
def mst (q : Nat) : Nat := ([8, 12, 8] : List Nat).getD q 0
def xThg (J : Nat → Nat → Int32) (B : sB) (q t : Nat) : sR (Nat × sB) := match xNum J 0 99 t with
  | .error e => .error e
  | .ok x => match xNum J 0 99 (t + 1) with
    | .error e => .error e
    | .ok y => if q = 1 then .ok (t + 2, B.adT q x y 0) else match xNum J 1 999 (t + 2) with
      | .error e => .error e
      | .ok z => .ok (t + 3, B.adT q x y z)
def xThr (J : Nat → Nat → Int32) (B : sB) (q t : Nat) : sR (Nat × sB) := if B.n q < mst q then xThg J B q (t + 1) else .error (6, t)
theorem q3 {q : Nat} (h : q < 3) : q = 0 ∨ q = 1 ∨ q = 2 := by omega
theorem M_manyOf {q : Nat} (hq : q < 3) {h : pm_H} (kk : Q [.int (nI q)] h) : pm_W (g_P ys) 219 0 [.int (nI q)] [] h (0, 0) Q := by
  rcases q3 hq with rfl | rfl | rfl
  · exact M_manyOf0 kk
  · exact M_manyOf1 kk
  · exact M_manyOf2 kk
theorem M_rowOf {q : Nat} (hq : q < 3) {h : pm_H} (kk : Q [.int (nI (rwK q))] h) : pm_W (g_P ys) 220 0 [.int (nI q)] [] h (0, 0) Q := by
  rcases q3 hq with rfl | rfl | rfl
  · exact M_rowOf0 kk
  · exact M_rowOf1 kk
  · exact M_rowOf2 kk
theorem rwK_b : ∀ q : Fin 3, ∀ k : Fin 13, k.val < mst q.val → rwK q.val + 3 * k.val + 2 < 89 ∧ 5 ≤ rwK q.val := by decide
theorem sB.ok_n (ok : B.ok) {q : Nat} (hq : q < 3) : B.n q ≤ mst q := by
  obtain ⟨_, _, h0, h1, h2⟩ := ok
  rcases q3 hq with rfl | rfl | rfl
  · exact h0
  · exact h1
  · exact h2
theorem rw_b {q : Nat} (hq : q < 3) {k : Nat} (hk : k < mst q) : rwK q + 3 * k + 2 < 89 ∧ 5 ≤ rwK q := by
  have : mst q ≤ 12 := by
    rcases q3 hq with rfl | rfl | rfl <;> decide
  exact rwK_b ⟨q, hq⟩ ⟨k, by omega⟩ hk
/-- a thing's place in the rows is its own -/
theorem rw_i {q r k l i j : Nat} (hq : q < 3) (hr : r < 3) (hk : k < mst q) (hl : l < mst r) (hi : i < 3) (hj : j < 3) (e : rwK q + 3 * k + i = rwK r + 3 * l + j) : q = r ∧ k = l ∧ i = j := by
  have m0 : mst 0 = 8 := rfl
  have m1 : mst 1 = 12 := rfl
  have m2 : mst 2 = 8 := rfl
  have r0 : rwK 0 = 5 := rfl
  have r1 : rwK 1 = 29 := rfl
  have r2 : rwK 2 = 65 := rfl
  rcases q3 hq with rfl | rfl | rfl <;> rcases q3 hr with rfl | rfl | rfl <;> omega
theorem mBn_T {q : Nat} (hq : q < 3) (ok : B.ok) (hB : mBn B I L) (hn : B.n q < mst q) {x y z : Int32} (h : ∀ j, I' 289 j = if j = q then nI (B.n q + 1) else if j = rwK q + 3 * B.n q then x else if j = rwK q + 3 * B.n q + 1 then y else if j = rwK q + 3 * B.n q + 2 then z else I 289 j) (h2 : ∀ a j, a = 279 ∨ a = 281 ∨ a = 283 → I' a j = I a j) (h3 : I' 275 15 = I 275 15) (h4 : ∀ j, L' 287 j = L 287 j) : mBn (B.adT q x y z) I' L' := by
  obtain ⟨b1, b2, b3, b4, b5, b6⟩ := hB
  have rb := rw_b hq hn
  refine ⟨h3.trans b1, fun k hk => ?_, fun r hr => ?_, ?_, ?_, fun r hr k hk j hj => ?_⟩
  · obtain ⟨c1, c2, c3, c4⟩ := b2 k hk
    exact ⟨(h2 _ _ (by decide)).trans c1, (h2 _ _ (by decide)).trans c2, by rw [h4]; exact c3, fun i hi => ⟨(h2 _ _ (by decide)).trans (c4 i hi).1, (h2 _ _ (by decide)).trans (c4 i hi).2⟩⟩
  · rw [h]
    show _ = nI (if r = q then B.n r + 1 else B.n r)
    by_cases e : r = q
    · rw [if_pos e, if_pos e, e]
    · rw [if_neg e, if_neg e, if_neg (by omega), if_neg (by omega), if_neg (by omega)]
      exact b3 r hr
  · rw [h, if_neg (by omega), if_neg (by omega), if_neg (by omega), if_neg (by omega)]
    exact b4
  · rw [h, if_neg (by omega), if_neg (by omega), if_neg (by omega), if_neg (by omega)]
    exact b5
  · have hk : k < (if r = q then B.n r + 1 else B.n r) := hk
    have nr := B.ok_n ok hr
    show _ = if r = q ∧ k = B.n r then (if j = 0 then x else if j = 1 then y else z) else B.sc r k j
    have km : k < mst r := by
      by_cases e : r = q
      · rw [if_pos e] at hk
        subst e
        omega
      · rw [if_neg e] at hk
        omega
    have r5 := (rw_b hr km).2
    rw [h, if_neg (by omega)]
    by_cases e : r = q ∧ k = B.n r
    · rw [if_pos e]
      obtain ⟨e1, e2⟩ := e
      subst e1 e2
      rcases q3 hj with rfl | rfl | rfl
      · rw [if_pos (by omega), if_pos rfl]
      · rw [if_neg (by omega), if_pos (by omega), if_neg (by omega), if_pos rfl]
      · rw [if_neg (by omega), if_neg (by omega), if_pos (by omega), if_neg (by omega), if_neg (by omega)]
    · rw [if_neg e]
      have ne : ∀ i, i < 3 → ¬ rwK r + 3 * k + j = rwK q + 3 * B.n q + i := fun i hi z => by
        obtain ⟨z1, z2, _⟩ := rw_i hr hq km hn hj hi z
        exact e ⟨z1, by rw [z1]; exact z2⟩
      rw [if_neg (show ¬ rwK r + 3 * k + j = rwK q + 3 * B.n q from ne 0 (by omega)), if_neg (ne 1 (by omega)), if_neg (ne 2 (by omega))]
      refine b6 r hr k ?_ j hj
      by_cases e1 : r = q
      · rw [if_pos e1] at hk
        have : ¬ k = B.n r := fun z => e ⟨e1, z⟩
        omega
      · rw [if_neg e1] at hk
        exact hk
end KH
