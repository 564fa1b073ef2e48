/-! BY HAND: bits of a text -/
section JK
variable {ys : List Int32} {h h' : pm_H} {Q : List Value → pm_H → Prop}
abbrev clW : sx_W := [(36, .ofNat 4, .ofNat 4), (36, .ofNat 5, .ofNat 5), (36, .ofNat 6, .ofNat 6), (36, .ofNat 9, .ofNat 9), (37, .ofNat 0, .ofNat 288)]
theorem B_closedRow (iv : sx_IV xT xtg xPH h) {a : Nat} (ha : xtg a = 36) (x : Int32) (kk : ∀ w h', 0 < w → w ≤ 289 → (x = nI w ∨ w = 1) → sx_IV xT xtg xPH h' → sx_fr xtg xVP clW (false, false) h h' → cPl h' a w 1 → Q [] h') : pm_W (g_P ys) 48 0 [.ref a, .int x] [] h (0, 0) Q := by
  have hs : pm_sh (g_P ys) h a = some (.inl 9) := shp_of iv ha rfl
  refine ps_aload rfl rfl ?_
  refine ps_iload rfl rfl ?_
  refine pw_c rfl ?_
  refine pv_k rfl rfl rfl rfl rfl (by first | assumption | rfl) rfl ⟨Nat.zero_le _, Nat.zero_le _⟩ ?_
  refine B_resize iv ha x 1 ?_
  intro w v hw hv hwv hx
  obtain ⟨g1, g2, g3⟩ := rsz_iv iv ha hw hv hwv
  have wb := g3.b
  obtain ⟨hx1, hv1⟩ : (x = nI w ∨ w = 1) ∧ v = 1 := by
    rcases hx with ⟨q1, q2⟩ | ⟨q1, q2⟩
    · exact ⟨Or.inl q1, (nI_inj (a := 1) (by omega) (by omega) q2).symm⟩
    · exact ⟨Or.inr q1, q2⟩
  subst hv1
  have hs1 : pm_sh (g_P ys) (rsz h a w 1) a = some (.inl 9) := shp_of g1 ha rfl
  obtain ⟨hl, hhl, hlt, _⟩ := g1.2.2.1 a 0 37 (by rw [ha]; rfl)
  show pm_W (g_P ys) 48 6 _ _ (rsz h a w 1) (0, 0) Q
  refine ps_aload rfl rfl ?_
  refine ps_gfr 9 0 rfl rfl rfl (by first | assumption | rfl) rfl (by assumption) ?_
  refine pw_c rfl ?_
  refine ps_aload rfl rfl ?_
  refine ps_gfi 9 6 rfl rfl rfl (by first | assumption | rfl) rfl ?_
  rw [g3.2.2.1]
  refine pw_c rfl ?_
  refine pw_k rfl rfl rfl rfl ⟨Nat.zero_le _, Nat.zero_le _⟩ ?_
  refine B_fill (t := 37) (by decide) g1 hlt rfl (show w * 1 ≤ 289 by omega) 0 ?_
  intro h' ok
  refine ps_vret rfl rfl ?_
  exact kk w h' hw (by omega) hx1 ok.1 (sx_fr_trans (fr_wk (by decide) g2) (fr_wk (by decide) ok.2)) (rOK_pl ok ha (by decide) g3)
abbrev tbW : sx_W := [(6, .ofNat 3, .ofNat 3), (6, .ofNat 4, .ofNat 4), (6, .ofNat 5, .ofNat 5), (36, .ofNat 4, .ofNat 4), (36, .ofNat 5, .ofNat 5), (36, .ofNat 6, .ofNat 6), (36, .ofNat 9, .ofNat 9), (37, .ofNat 0, .ofNat 288)]
theorem k_takeBits : xk ys kh_47_0 := by
  intro h vs Q iv va fa kk
  obtain ⟨I, L, s, rfl⟩ := x_form iv
  obtain ⟨_, c1, rfl, ⟨a, rfl, ha, _⟩, va1⟩ := vas_c va
  obtain ⟨_, c2, rfl, ⟨t, rfl, ht, _⟩, va2⟩ := vas_c va1
  obtain ⟨_, c3, rfl, ⟨b, rfl, hb, _⟩, va3⟩ := vas_c va2
  cases vas_n va3
  obtain rfl : a = 5 := tag_one (t := 6) rfl (by decide) ha
  obtain rfl : t = 1 := tag_one (t := 2) rfl (by decide) ht
  have fin : ∀ (r : Int32) h', sx_IV xT xtg xPH h' → sx_fr xtg xVP tbW (false, false) (I, L, g_R s, 306) h' → 0 ≤ r.toInt → r.toInt ≤ 1 → Q [.int r] h' := fun r h' iv' fr' r0 r1 => kk _ _ iv' (fr_wk (by decide) fr') ⟨_, List.mem_cons_self, po_i r0 r1⟩
  obtain ⟨hr, h8, hh⟩ := g_bd iv (a := 5) (k := 3) (b := 800) (q := (.ofNat 3, .ofNat 3, .ofNat 0, .ofNat 800)) (by decide) (by decide) (by decide) rfl rfl
  have hh : I 5 3 = nI hr := hh
  have no : ¬ I 7 hr = 4 → ∀ x : Int32, x = (if I 7 hr = 1 then 1 else 2) → pm_W (g_P ys) 47 5 [.ref 5, .ref 1, .ref b, .retAddr 0, .retAddr 0] [.int 0] (wrI I x hr, L, g_R s, 306) (0, 0) Q := by
    intro _ x hx
    have q : 0 ≤ x.toInt ∧ x.toInt ≤ 6 := by
      rw [hx]
      split <;> decide
    obtain ⟨g1, g2⟩ := wr_iv iv h8 q.1 q.2
    refine ps_iff rfl (by decide) ?_
    refine pw_c rfl ?_
    refine ps_zret rfl rfl (Or.inl rfl) ?_
    exact fin _ _ g1 (fr_wp (by decide) g2) (by decide) (by decide)
  refine ps_aload rfl rfl ?_
  refine pw_c rfl ?_
  refine pw_k rfl rfl rfl rfl ⟨Nat.zero_le _, Nat.zero_le _⟩ ?_
  refine B_expect (k := 4) hh h8 no (by decide) ?_
  intro hw
  have h9 := here_lt iv h8 (by rw [hw]; decide)
  obtain ⟨v1, v2⟩ := iv.2.2.2.2.2.2.1 hr h8 (by show (I 7 hr).toInt = 4; rw [hw]; rfl)
  have v1 : 1 ≤ (I 10 hr).toInt := v1
  have v2 : (I 8 hr).toInt + 1 + (I 10 hr).toInt ≤ 800 := v2
  have fb := iv.1 8 hr (.ofNat 0, .ofNat 800, .ofNat 0, .ofNat 800) (by decide) (by show (0 : Int) ≤ _; omega) (by show _ ≤ (800 : Int); omega)
  have fb1 : (0 : Int) ≤ (I 8 hr).toInt := fb.1
  obtain ⟨fr0, hfr⟩ : ∃ n : Nat, (I 8 hr).toInt = (n : Int) := ⟨(I 8 hr).toInt.toNat, by omega⟩
  obtain ⟨vl, hvl⟩ : ∃ n : Nat, (I 10 hr).toInt = (n : Int) := ⟨(I 10 hr).toInt.toNat, by omega⟩
  refine ps_ift rfl (by decide) ?_
  have hs : pm_sh (g_P ys) (I, L, g_R s, 306) b = some (.inl 9) := shp_of iv hb rfl
  have r1 : ((I, L, g_R s, 306) : pm_H).2.2.1 5 0 = some 6 := rfl
  have r2 : ((I, L, g_R s, 306) : pm_H).2.2.1 6 3 = some 10 := rfl
  refine ps_aload rfl rfl ?_
  refine ps_aload rfl rfl ?_
  refine ps_gfr 2 0 rfl rfl rfl (by first | assumption | rfl) rfl (by assumption) ?_
  refine ps_gfr 3 3 rfl rfl rfl (by first | assumption | rfl) rfl (by assumption) ?_
  refine ps_aload rfl rfl ?_
  refine ps_gfi 2 3 rfl rfl rfl (by first | assumption | rfl) rfl ?_
  refine ps_iald (hr) rfl (by first | assumption | rfl) rfl (hh) (by omega) ?_
  refine pv_k rfl rfl rfl rfl rfl (by first | assumption | rfl) rfl ⟨Nat.zero_le _, Nat.zero_le _⟩ ?_
  refine B_closedRow iv hb _ ?_
  intro w h1 hw0 hw9 hx iv1 fr1 hp1
  have hx : I 10 hr = nI w ∨ w = 1 := hx
  have wv : fr0 + 1 + w ≤ 800 := by
    rcases hx with q | q
    · rw [q, nI_toInt (by omega)] at hvl v2
      omega
    · omega
  have key : ∀ c j, ¬ xtg c = 36 → ¬ xtg c = 37 → h1.1 c j = I c j := fun c j q1 q2 => fr1.1 c j (fun q => by
    obtain ⟨q, m, e, _⟩ := q
    simp only [clW, List.mem_cons, List.not_mem_nil, or_false] at m
    rcases m with rfl | rfl | rfl | rfl | rfl <;> first | exact q1 e.symm | exact q2 e.symm)
  have e53 : h1.1 5 3 = nI hr := (key 5 3 (by decide) (by decide)).trans hh
  have e8 : h1.1 8 hr = nI fr0 := (key 8 hr (by decide) (by decide)).trans (i_nat hfr)
  have fr1 := fr_wk (W2 := tbW) (by decide) fr1
  obtain ⟨I1, L1, s1, rfl⟩ := x_form iv1
  have e53 : I1 5 3 = nI hr := e53
  have e8 : I1 8 hr = nI fr0 := e8
  obtain ⟨hl, hhl, hlt, _⟩ := iv1.2.2.1 b 0 37 (by rw [hb]; rfl)
  have loop : ∀ d x, x + d = w → ∀ h2, rOK 37 (I1, L1, g_R s1, 306) h2 → pm_W (g_P ys) 47 44 [.ref 5, .ref 1, .ref b, .int (nI (fr0 + 1)), .int (nI x)] [] h2 (0, 0) Q := by
    intro d
    induction d with
    | zero =>
      intro x hx h2 ok
      have hs2 : pm_sh (g_P ys) h2 b = some (.inl 9) := shp_of ok.1 hb rfl
      have hs5 : pm_sh (g_P ys) h2 5 = some (.inl 2) := shp_of ok.1 (a := 5) (t := 6) rfl rfl
      have hp2 := rOK_pl ok hb (by decide) hp1
      have e2 : h2.1 5 3 = nI hr := (rOK_o ok (by decide)).trans e53
      have g := sx_mw_ok (xC []) ok.1 (W := tbW) (D := (false, false)) (a := 5) (t := 6) (k := 3) (lo := 3) (hi := 3) (b := (0, 800)) (by decide) (by decide) (by decide) (by decide) (x := nI (hr + 1)) (by rw [nI_toInt (by omega)]; show (0 : Int) ≤ _; omega) (by rw [nI_toInt (by omega)]; show _ ≤ (800 : Int); omega)
      refine ps_iload rfl rfl ?_
      refine ps_aload rfl rfl ?_
      refine ps_gfi 9 4 rfl rfl rfl (by first | assumption | rfl) rfl ?_
      refine ps_icmpt rfl (by show decide _ = true; rw [hp2.1]; exact decide_eq_true (nI_le (by omega) (by omega))) ?_
      refine ps_aload rfl rfl ?_
      refine ps_ar rfl rfl rfl rfl rfl ?_
      refine ps_gfi 2 3 rfl rfl rfl (by first | assumption | rfl) rfl ?_
      rw [e2]
      refine pw_c rfl ?_
      refine ps_ar rfl rfl rfl rfl rfl ?_
      rw [show nI hr + 1 = nI (hr + 1) from nI_1 hr]
      refine ps_pfi 2 3 rfl rfl rfl (by first | assumption | rfl) rfl ?_
      refine pw_c rfl ?_
      refine ps_zret rfl rfl (Or.inr rfl) ?_
      exact fin _ _ g.1 (sx_fr_trans fr1 (sx_fr_trans (fr_wk (by decide) ok.2) g.2.1)) (by decide) (by decide)
    | succ d ih =>
      intro x hx h2 ok
      have hs2 : pm_sh (g_P ys) h2 b = some (.inl 9) := shp_of ok.1 hb rfl
      have hs1 : pm_sh (g_P ys) h2 1 = some (.inl 1) := shp_of ok.1 (a := 1) (t := 2) rfl rfl
      have hsb : pm_sh (g_P ys) h2 2 = some (.inr (0, 800)) := shp_of ok.1 (a := 2) (t := 3) rfl rfl
      have hsl : pm_sh (g_P ys) h2 hl = some (.inr (0, 289)) := shp_of ok.1 hlt rfl
      have hp2 := rOK_pl ok hb (by decide) hp1
      have hh2 := rOK_R ok hhl
      have rb := rOK_R ok (x := 1) (y := 0) (z := some 2) rfl
      have nx : ∀ z : Int32, pm_W (g_P ys) 47 78 [.ref 5, .ref 1, .ref b, .int (nI (fr0 + 1)), .int (nI x)] [.int z, .int (nI x), .ref hl] h2 (0, 0) Q := by
        intro z
        refine ps_iast (x) rfl (by first | assumption | rfl) rfl (rfl) (by omega) ?_
        refine ps_iinc rfl rfl ?_
        refine ps_goto rfl ?_
        rw [show nI x + Int32.ofInt 1 = nI (x + 1) from nI_1 x]
        exact ih (x + 1) (by omega) _ (rOK_u (by decide) ok hlt (by omega) _)
      refine ps_iload rfl rfl ?_
      refine ps_aload rfl rfl ?_
      refine ps_gfi 9 4 rfl rfl rfl (by first | assumption | rfl) rfl ?_
      refine ps_icmpf rfl (by show decide _ = false; rw [hp2.1]; exact decide_eq_false (nI_ge (by omega) (by omega))) ?_
      refine ps_aload rfl rfl ?_
      refine ps_gfr 9 0 rfl rfl rfl (by first | assumption | rfl) rfl (by assumption) ?_
      refine ps_iload rfl rfl ?_
      refine ps_aload rfl rfl ?_
      refine ps_gfr 1 0 rfl rfl rfl (by first | assumption | rfl) rfl (by assumption) ?_
      refine ps_iload rfl rfl ?_
      refine ps_iload rfl rfl ?_
      refine ps_ar rfl rfl rfl rfl rfl ?_
      refine ps_iald (fr0 + 1 + x) rfl (by first | assumption | rfl) rfl (nI_add (fr0 + 1) x) (by omega) ?_
      refine pw_c rfl ?_
      refine ps_icmp rfl (fun hq => ?_) (fun hq => ?_)
      · refine pw_c rfl ?_
        exact nx _
      · refine pw_c rfl ?_
        refine ps_goto rfl ?_
        exact nx _
  refine ps_aload rfl rfl ?_
  refine ps_gfr 2 0 rfl rfl rfl rfl rfl (rfl) ?_
  refine ps_gfr 3 1 rfl rfl rfl rfl rfl (rfl) ?_
  refine ps_aload rfl rfl ?_
  refine ps_gfi 2 3 rfl rfl rfl rfl rfl ?_
  refine ps_iald (hr) rfl rfl rfl (e53) (by omega) ?_
  rw [show ((I1, L1, g_R s1, 306) : pm_H).1 8 hr = nI fr0 from e8]
  refine pw_c rfl ?_
  refine ps_ar rfl rfl rfl rfl rfl ?_
  rw [show nI fr0 + 1 = nI (fr0 + 1) from nI_1 fr0]
  refine ps_istore rfl rfl ?_
  refine pw_c rfl ?_
  refine ps_istore rfl rfl ?_
  exact loop w 0 (by omega) _ (rOK_refl iv1)
end JK
