/-! BY HAND: helpers -/
section HA
variable {h h' : pm_H} {vs : List Value}
theorem vas_c {s : sx_A} {l : List sx_A} (k : sx_vas xtg xVP h (s :: l) vs) : ∃ w c, vs = w :: c ∧ sx_va xtg xVP h s w ∧ sx_vas xtg xVP h l c := by
  cases vs with
  | nil => exact k.elim
  | cons w c => exact ⟨w, c, rfl, k.1, k.2⟩
theorem vas_n (k : sx_vas xtg xVP h [] vs) : vs = [] := by
  cases vs with
  | nil => rfl
  | cons w c => exact k.elim
theorem tag_one {t a : Nat} (ht : xsg t = true) (h0 : 0 < t) (e : xtg a = t) : a = xad t := by
  have q := all306 x_sg (xtg_lt e h0)
  rw [e, ht] at q
  exact (Nat.eq_of_beq_eq_true q).symm
theorem ref_M {a : Nat} (e : xtg a = 50) : a = 275 := tag_one (t := 50) rfl (by decide) e
theorem x_form (iv : sx_IV xT xtg xPH h) : ∃ I L s, h = (I, L, g_R s, 306) := by
  obtain ⟨I, L, R, n⟩ := h
  obtain ⟨s, hs⟩ := iv.2.2.2.2.1
  have h1 : n = 306 := iv.2.2.2.1
  have h2 : R = g_R s := hs
  exact ⟨I, L, s, by rw [h1, h2]⟩
theorem i_nat {x : Int32} {n : Nat} (e : x.toInt = (n : Int)) : x = nI n := by
  rw [iI_of x, e]
  exact iI_nat n
theorem po_0 : sx_po xtg xVP h h' vs [] ([], [], [], []) := ⟨trivial, fun _ q => (by cases q), fun _ q => (by cases q), fun _ q => (by cases q)⟩
theorem po_i {x : Int32} {lo hi : Int} (h1 : lo ≤ x.toInt) (h2 : x.toInt ≤ hi) : sx_po xtg xVP h h' vs [.int x] ([.inl (0, lo, hi, 0)], [], [], []) := ⟨⟨⟨x, rfl, h1, h2, Or.inl rfl⟩, trivial⟩, fun _ q => (by cases q), fun _ q => (by cases q), fun _ q => (by cases q)⟩
theorem po_f {x : Int32} : sx_po xtg xVP h h' vs [.int x] ([.inl (0, .negSucc 2147483647, .ofNat 2147483647, 0)], [], [], []) := po_i (by have := (i_bd x).1; show (-2147483648 : Int) ≤ _; omega) (by have := (i_bd x).2; show _ ≤ (2147483647 : Int); omega)
theorem fas1 {f : sx_F} {a : Nat} {r : List Value} (k : sx_fas xVP h (.ref a :: r) [f]) (hf : f.1 = 0) : f.2.2.1 ≤ (h.1 a f.2.1).toInt ∧ (h.1 a f.2.1).toInt ≤ f.2.2.2.1 ∧ (f.2.2.2.2 = 0 ∨ xVP h f.2.2.2.2 (h.1 a f.2.1).toInt) := by
  obtain ⟨b, e, q⟩ := k f List.mem_cons_self
  rw [hf] at e
  cases e
  exact q
/-- flags of plates: there is such a plate -/
theorem flag_pl {l : Nat} {z : Int} (hl : l = 1 ∨ l = 2 ∨ l = 3) (k : l = 0 ∨ xVP h l z) : ∃ n w v : Nat, z = (n : Int) ∧ mPl h.1 n w v := by
  rcases hl with rfl | rfl | rfl
  · obtain ⟨n, w, v, h1, h2⟩ := k.resolve_left (by decide)
    exact ⟨n, w, v, h1, h2⟩
  · obtain ⟨n, w, v, h1, h2, _⟩ := k.resolve_left (by decide)
    exact ⟨n, w, v, h1, h2⟩
  · obtain ⟨n, w, v, h1, h2, _⟩ := k.resolve_left (by decide)
    exact ⟨n, w, v, h1, h2⟩
end HA
/-! a piece by the run -/
theorem sg_by {ys : List Int32} {l : List sx_K} (hl : ∀ c, c ∈ l → xk ys c) {m pc : Nat} {A S G : List sx_A} {F : List sx_F} {W : sx_W} {D : Bool × Bool} {cuts : List (Nat × sx_U)} {os : List sx_XO} {stops : List sx_XS} {f : Nat} (k : sx_sgc (g_P []) xT (sx_tbl l) m pc A S G F W D cuts os stops f = true) {h : pm_H} {lc sc gc : List Value} {Q : List Value → pm_H → Prop} (iv : sx_IV xT xtg xPH h) (va : sx_vas xtg xVP h A lc) (vs : sx_vas xtg xVP h S sc) (vg : sx_vas xtg xVP h G gc) (fa : sx_fas xVP h (lc ++ (sc ++ gc)) F)
    (kf : ∀ v h', sx_IV xT xtg xPH h' → sx_fr xtg xVP W D h h' → (∃ o, o ∈ os ∧ sx_pox xtg xVP h' (lc ++ (sc ++ gc)) v o) → Q v h')
    (ks : ∀ s, s ∈ stops → ∀ lc' sc' h', sx_IV xT xtg xPH h' → sx_fr xtg xVP W D h h' → sx_psx xtg xVP h' (lc ++ (sc ++ gc)) lc' sc' s → pm_W (g_P ys) m s.1 lc' sc' h' (0, 0) Q) : pm_W (g_P ys) m pc lc sc h (0, 0) Q := by
  rw [show g_P [] = pm_0 (g_P ys) from rfl, sx_sg_0] at k
  exact sx_sg_ok (xC ys) (fun _ _ h => hl _ (sx_tbl_mem h)) k iv va vs vg fa kf ks
