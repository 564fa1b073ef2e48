/-! BY HAND: what was, first: remembers -/
section HT
variable {I I' : Nat → Nat → Int32} {L : Nat → Nat → Int64} {s : Nat → Option Nat}
theorem xK_ag2 (eC : ∀ a, xtg a = 36 → ∀ j, I' a j = I a j) (e7 : ∀ j, I' 7 j = I 7 j) (e8 : ∀ j, I' 8 j = I 8 j) (e10 : ∀ j, I' 10 j = I 10 j) (e14 : I' 275 14 = I 275 14) (e15 : I' 275 15 = I 275 15) (e46 : I' 275 46 = I 275 46) (e278 : ∀ j, I' 278 j = I 278 j) (e279 : ∀ j, I' 279 j = I 279 j) (e289 : I' 289 4 = I 289 4) (hMu : xMu I') (hK : xK I) : xK I' := by
  obtain ⟨k1, k2, k3, k4, k5⟩ := hK
  refine ⟨fun a ha => ?_, fun j hj hk => ?_, fun m hm => ?_, hMu, fun hw => ?_⟩
  · rw [eC a ha, eC a ha, eC a ha]
    exact k1 a ha
  · rw [e7] at hk
    rw [e8, e10]
    exact k2 j hj hk
  · rw [e14] at hm
    have := k3 m hm
    unfold mPl mFm
    simp only [e278]
    exact this
  · rw [e46] at hw
    have := k5 hw
    unfold nPl nFm
    simp only [e15, e279, e289]
    exact this
theorem xV_ag2 (e15 : I' 275 15 = I 275 15) (e49 : I' 275 49 = I 275 49) (e278 : ∀ j, I' 278 j = I 278 j) (e279 : ∀ j, I' 279 j = I 279 j) (e280 : ∀ j, I' 280 j = I 280 j) (e291 : ∀ j, I' 291 j = I 291 j) (e293 : ∀ j, I' 293 j = I 293 j) (e294 : ∀ j, I' 294 j = I 294 j) {l : Nat} {z : Int} (k : xVP (I, L, g_R s, 306) l z) : xVP (I', L, g_R s, 306) l z := by
  unfold xVP xV1 xV2 xV3 xV4 xV5 xV6 mPl nPl nFm at k ⊢
  simp only [e15, e49, e278, e279, e280, e291, e293, e294]
  exact k
/-- bounds of what was, place by place -/
def pB (j : Nat) : Int × Int := sx_rd (xsb 65) j j
theorem rng {n : Nat} {p : Nat → Bool} (h : (List.range n).all p = true) {a : Nat} (ha : a < n) : p a = true := List.all_eq_true.mp h a (List.mem_range.mpr ha)
theorem pB_wr {j : Nat} (hj : j < 1068) : sx_wr (xsb 65) j j (pB j) = true := rng (n := 1068) (p := fun j => sx_wr (xsb 65) j j (pB j)) (by decide +kernel) hj
theorem pB_89 {j : Nat} (hj : j < 979) : pB (j + 89) = pB j := by
  have q := rng (n := 979) (p := fun j => decide ((pB (j + 89)).1 = (pB j).1) && decide ((pB (j + 89)).2 = (pB j).2)) (by decide +kernel) hj
  rw [Bool.and_eq_true, decide_eq_true_iff, decide_eq_true_iff] at q
  exact Prod.ext q.1 q.2
theorem pB_now {k : Nat} (hk : k < 89) : sx_rd (xsb 63) k k = pB k := by
  have q := rng (n := 89) (p := fun j => decide ((sx_rd (xsb 63) j j).1 = (pB j).1) && decide ((sx_rd (xsb 63) j j).2 = (pB j).2)) (by decide +kernel) hk
  rw [Bool.and_eq_true, decide_eq_true_iff, decide_eq_true_iff] at q
  exact Prod.ext q.1 q.2
theorem now_wr {j : Nat} (hj : j < 89) : sx_wr (xsb 63) j j (pB j) = true := rng (n := 89) (p := fun j => sx_wr (xsb 63) j j (pB j)) (by decide +kernel) hj
theorem pB_m : ∀ {m k : Nat}, m < 12 → k < 89 → pB (89 * m + k) = pB k
  | 0, k, _, _ => by rw [Nat.mul_zero, Nat.zero_add]
  | m + 1, k, hm, hk => by
    rw [show 89 * (m + 1) + k = 89 * m + k + 89 by omega, pB_89 (by omega)]
    exact pB_m (by omega) hk
theorem pB_past (iv : sx_IV xT xtg xPH (I, L, g_R s, 306)) {j : Nat} : (pB j).1 ≤ (I 290 j).toInt ∧ (I 290 j).toInt ≤ (pB j).2 := sx_rd_ok (g := xsb 65) (fun q hq k1 k2 => iv.1 290 j q hq k1 k2) (Int.le_refl _) (Int.le_refl _)
theorem pB_nowv (iv : sx_IV xT xtg xPH (I, L, g_R s, 306)) {j : Nat} (hj : j < 89) : (pB j).1 ≤ (I 288 j).toInt ∧ (I 288 j).toInt ≤ (pB j).2 := by
  rw [← pB_now hj]
  exact sx_rd_ok (g := xsb 63) (fun q hq k1 k2 => iv.1 288 j q hq k1 k2) (Int.le_refl _) (Int.le_refl _)
end HT
