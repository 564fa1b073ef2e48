/-! PRINTED by wip/p1/gen88.py: p1, the law's pure run -/
abbrev p1_Q (v : List Value) (_ : pm_H) : Prop := v = [.int 1]
/-- out of the loop -/
theorem p1_exit {ys : List Int32} {i : Int32} {h : pm_H} (hi : pm_cmp .gt i (Int32.ofNat ys.length - 6) = true) : pm_W (g_P ys) 0 18 [.ref 99999, .ref 0, .ref 275, .int i] [] h g_c1 p1_Q := by
  refine ps_iload rfl rfl ?_
  refine ps_aload rfl rfl ?_
  refine ps_he rfl rfl rfl rfl rfl rfl (show pm_he (g_P ys) .caload (.ref 99999 :: [.int i]) h = some (.int (Int32.ofNat ys.length) :: [.int i], h) from by simp only [pm_he, if_true]; rfl) ?_
  refine pw_c rfl ?_
  refine ps_ar rfl rfl rfl rfl rfl ?_
  refine ps_icmpt rfl hi ?_
  refine pw_c rfl ?_
  exact ps_zret rfl rfl (Or.inr rfl) rfl
/-- behind the switch -/
theorem p1_tail {ys : List Int32} (hl : ys.length = 6) (h : pm_H) : pm_W (g_P ys) 0 1321 [.ref 99999, .ref 0, .ref 275, .int 0] [] h g_c1 p1_Q := by
  refine ps_iinc rfl rfl ?_
  refine ps_goto rfl ?_
  exact p1_exit (i := 6) (by rw [hl]; decide)
/-- a case of the switch, out of the run over unknown ints -/
theorem p1_case {ys : List Int32} (hl : ys.length = 6) {f : Nat} {σ : se_E} {pc : Nat} {h : pm_H} (hc : se_cas f σ pc = true) (hσ : se_in (fun j => ys.getD j 0) σ) (hr : se_hr (fun j => ys.getD j 0) g_H1 h) : pm_W (g_P ys) 0 pc [.ref 99999, .ref 0, .ref 275, .int 0] [] h g_c1 p1_Q := by
  unfold se_cas at hc
  rw [show g_P [] = pm_0 (g_P ys) from rfl, se_run_0] at hc
  refine se_run_ok (P := g_P ys) (L := 6) (ρ := fun j => ys.getD j 0) hl (fun _ => rfl) (Q := p1_Q) ?_ f σ 0 pc g_lv [] g_H1 g_c1 [] h hσ hr hc
  intro σ' m' pc' lv st H cs fs h' hf _ _
  rw [se_fin2, Bool.and_eq_true] at hf
  obtain ⟨rfl, rfl, rfl⟩ := se_at_ok hf.1
  obtain ⟨rfl, rfl, rfl⟩ := se_lw_ok hf.2
  exact p1_tail hl h'
theorem p1_full (ρ : Nat → Int32) : se_in ρ g_B := fun i => match i with
  | 0 => se_rng _
  | 1 => se_rng _
  | 2 => se_rng _
  | 3 => se_rng _
  | 4 => se_rng _
  | 5 => se_rng _
  | _ + 6 => se_rng _
theorem p1_full1 {ρ : Nat → Int32} {lo hi : Int} (h1 : lo ≤ (ρ 1).toInt) (h2 : (ρ 1).toInt ≤ hi) : se_in ρ [(se_mn, se_mx), (lo, hi), (se_mn, se_mx), (se_mn, se_mx), (se_mn, se_mx), (se_mn, se_mx)] := fun i => match i with
  | 0 => se_rng _
  | 1 => ⟨h1, h2⟩
  | 2 => se_rng _
  | 3 => se_rng _
  | 4 => se_rng _
  | 5 => se_rng _
  | _ + 6 => se_rng _
theorem p1_full2 {ρ : Nat → Int32} {lo hi lo2 hi2 : Int} (h1 : lo ≤ (ρ 1).toInt) (h2 : (ρ 1).toInt ≤ hi) (h3 : lo2 ≤ (ρ 2).toInt) (h4 : (ρ 2).toInt ≤ hi2) : se_in ρ [(se_mn, se_mx), (lo, hi), (lo2, hi2), (se_mn, se_mx), (se_mn, se_mx), (se_mn, se_mx)] := fun i => match i with
  | 0 => se_rng _
  | 1 => ⟨h1, h2⟩
  | 2 => ⟨h3, h4⟩
  | 3 => se_rng _
  | 4 => se_rng _
  | 5 => se_rng _
  | _ + 6 => se_rng _
theorem p1_rt4 {ys : List Int32} (hl : ys.length = 6) {h : pm_H} (hr : se_hr (fun j => ys.getD j 0) g_H1 h) {lo hi : Int} (h1 : lo ≤ (ys.getD 1 0).toInt) (h2 : (ys.getD 1 0).toInt ≤ hi)
    (ca : se_cas 20000 [(se_mn, se_mx), (lo, hi), (se_mn, 11), (se_mn, se_mx), (se_mn, se_mx), (se_mn, se_mx)] 552 = true) (cb : se_cas 20000 [(se_mn, se_mx), (lo, hi), (12, 23), (se_mn, se_mx), (se_mn, se_mx), (se_mn, se_mx)] 552 = true)
    (cc : se_cas 20000 [(se_mn, se_mx), (lo, hi), (24, 35), (se_mn, se_mx), (se_mn, se_mx), (se_mn, se_mx)] 552 = true) (cd : se_cas 20000 [(se_mn, se_mx), (lo, hi), (36, se_mx), (se_mn, se_mx), (se_mn, se_mx), (se_mn, se_mx)] 552 = true) :
    pm_W (g_P ys) 0 552 [.ref 99999, .ref 0, .ref 275, .int 0] [] h g_c1 p1_Q := by
  have r := se_rng (ys.getD 2 0)
  by_cases k1 : (ys.getD 2 0).toInt ≤ 11
  · exact p1_case hl ca (p1_full2 h1 h2 r.1 k1) hr
  · by_cases k2 : (ys.getD 2 0).toInt ≤ 23
    · exact p1_case hl cb (p1_full2 h1 h2 (by show (12 : Int) ≤ (ys.getD 2 0).toInt; omega) k2) hr
    · by_cases k3 : (ys.getD 2 0).toInt ≤ 35
      · exact p1_case hl cc (p1_full2 h1 h2 (by show (24 : Int) ≤ (ys.getD 2 0).toInt; omega) k3) hr
      · exact p1_case hl cd (p1_full2 h1 h2 (by show (36 : Int) ≤ (ys.getD 2 0).toInt; omega) r.2) hr
theorem p1_root {ys : List Int32} (hl : ys.length = 6) {h : pm_H} (hr : se_hr (fun j => ys.getD j 0) g_H1 h) : pm_W (g_P ys) 0 552 [.ref 99999, .ref 0, .ref 275, .int 0] [] h g_c1 p1_Q := by
  have r := se_rng (ys.getD 1 0)
  by_cases h1 : (ys.getD 1 0).toInt ≤ 2
  · exact p1_case hl cas_root_0 (p1_full1 r.1 h1) hr
  · by_cases h2 : 48 ≤ (ys.getD 1 0).toInt
    · exact p1_case hl cas_root_46 (p1_full1 h2 r.2) hr
    · obtain ⟨n, hn⟩ : ∃ n : Nat, (ys.getD 1 0).toInt = n + 3 := ⟨((ys.getD 1 0).toInt - 3).toNat, by omega⟩
      have hn2 : n < 45 := by omega
      match n, hn, hn2 with
      | 0, hn, _ => exact p1_case hl cas_root_1 (p1_full1 (by show (3 : Int) ≤ (ys.getD 1 0).toInt; omega) (by show (ys.getD 1 0).toInt ≤ (3 : Int); omega)) hr
      | 1, hn, _ => exact p1_case hl cas_root_2 (p1_full1 (by show (4 : Int) ≤ (ys.getD 1 0).toInt; omega) (by show (ys.getD 1 0).toInt ≤ (4 : Int); omega)) hr
      | 2, hn, _ => exact p1_case hl cas_root_3 (p1_full1 (by show (5 : Int) ≤ (ys.getD 1 0).toInt; omega) (by show (ys.getD 1 0).toInt ≤ (5 : Int); omega)) hr
      | 3, hn, _ => exact p1_case hl cas_root_4 (p1_full1 (by show (6 : Int) ≤ (ys.getD 1 0).toInt; omega) (by show (ys.getD 1 0).toInt ≤ (6 : Int); omega)) hr
      | 4, hn, _ => exact p1_case hl cas_root_5 (p1_full1 (by show (7 : Int) ≤ (ys.getD 1 0).toInt; omega) (by show (ys.getD 1 0).toInt ≤ (7 : Int); omega)) hr
      | 5, hn, _ => exact p1_case hl cas_root_6 (p1_full1 (by show (8 : Int) ≤ (ys.getD 1 0).toInt; omega) (by show (ys.getD 1 0).toInt ≤ (8 : Int); omega)) hr
      | 6, hn, _ => exact p1_case hl cas_root_7 (p1_full1 (by show (9 : Int) ≤ (ys.getD 1 0).toInt; omega) (by show (ys.getD 1 0).toInt ≤ (9 : Int); omega)) hr
      | 7, hn, _ => exact p1_case hl cas_root_8 (p1_full1 (by show (10 : Int) ≤ (ys.getD 1 0).toInt; omega) (by show (ys.getD 1 0).toInt ≤ (10 : Int); omega)) hr
      | 8, hn, _ => exact p1_case hl cas_root_9 (p1_full1 (by show (11 : Int) ≤ (ys.getD 1 0).toInt; omega) (by show (ys.getD 1 0).toInt ≤ (11 : Int); omega)) hr
      | 9, hn, _ => exact p1_case hl cas_root_10 (p1_full1 (by show (12 : Int) ≤ (ys.getD 1 0).toInt; omega) (by show (ys.getD 1 0).toInt ≤ (12 : Int); omega)) hr
      | 10, hn, _ => exact p1_case hl cas_root_11 (p1_full1 (by show (13 : Int) ≤ (ys.getD 1 0).toInt; omega) (by show (ys.getD 1 0).toInt ≤ (13 : Int); omega)) hr
      | 11, hn, _ => exact p1_case hl cas_root_12 (p1_full1 (by show (14 : Int) ≤ (ys.getD 1 0).toInt; omega) (by show (ys.getD 1 0).toInt ≤ (14 : Int); omega)) hr
      | 12, hn, _ => exact p1_case hl cas_root_13 (p1_full1 (by show (15 : Int) ≤ (ys.getD 1 0).toInt; omega) (by show (ys.getD 1 0).toInt ≤ (15 : Int); omega)) hr
      | 13, hn, _ => exact p1_case hl cas_root_14 (p1_full1 (by show (16 : Int) ≤ (ys.getD 1 0).toInt; omega) (by show (ys.getD 1 0).toInt ≤ (16 : Int); omega)) hr
      | 14, hn, _ => exact p1_case hl cas_root_15 (p1_full1 (by show (17 : Int) ≤ (ys.getD 1 0).toInt; omega) (by show (ys.getD 1 0).toInt ≤ (17 : Int); omega)) hr
      | 15, hn, _ => exact p1_case hl cas_root_16 (p1_full1 (by show (18 : Int) ≤ (ys.getD 1 0).toInt; omega) (by show (ys.getD 1 0).toInt ≤ (18 : Int); omega)) hr
      | 16, hn, _ => exact p1_case hl cas_root_17 (p1_full1 (by show (19 : Int) ≤ (ys.getD 1 0).toInt; omega) (by show (ys.getD 1 0).toInt ≤ (19 : Int); omega)) hr
      | 17, hn, _ => exact p1_case hl cas_root_18 (p1_full1 (by show (20 : Int) ≤ (ys.getD 1 0).toInt; omega) (by show (ys.getD 1 0).toInt ≤ (20 : Int); omega)) hr
      | 18, hn, _ => exact p1_case hl cas_root_19 (p1_full1 (by show (21 : Int) ≤ (ys.getD 1 0).toInt; omega) (by show (ys.getD 1 0).toInt ≤ (21 : Int); omega)) hr
      | 19, hn, _ => exact p1_case hl cas_root_20 (p1_full1 (by show (22 : Int) ≤ (ys.getD 1 0).toInt; omega) (by show (ys.getD 1 0).toInt ≤ (22 : Int); omega)) hr
      | 20, hn, _ => exact p1_case hl cas_root_21 (p1_full1 (by show (23 : Int) ≤ (ys.getD 1 0).toInt; omega) (by show (ys.getD 1 0).toInt ≤ (23 : Int); omega)) hr
      | 21, hn, _ => exact p1_case hl cas_root_22 (p1_full1 (by show (24 : Int) ≤ (ys.getD 1 0).toInt; omega) (by show (ys.getD 1 0).toInt ≤ (24 : Int); omega)) hr
      | 22, hn, _ => exact p1_case hl cas_root_23 (p1_full1 (by show (25 : Int) ≤ (ys.getD 1 0).toInt; omega) (by show (ys.getD 1 0).toInt ≤ (25 : Int); omega)) hr
      | 23, hn, _ => exact p1_case hl cas_root_24 (p1_full1 (by show (26 : Int) ≤ (ys.getD 1 0).toInt; omega) (by show (ys.getD 1 0).toInt ≤ (26 : Int); omega)) hr
      | 24, hn, _ => exact p1_case hl cas_root_25 (p1_full1 (by show (27 : Int) ≤ (ys.getD 1 0).toInt; omega) (by show (ys.getD 1 0).toInt ≤ (27 : Int); omega)) hr
      | 25, hn, _ => exact p1_case hl cas_root_26 (p1_full1 (by show (28 : Int) ≤ (ys.getD 1 0).toInt; omega) (by show (ys.getD 1 0).toInt ≤ (28 : Int); omega)) hr
      | 26, hn, _ => exact p1_rt4 hl hr (by show (29 : Int) ≤ (ys.getD 1 0).toInt; omega) (by show (ys.getD 1 0).toInt ≤ (29 : Int); omega) cas_root_27a cas_root_27b cas_root_27c cas_root_27d
      | 27, hn, _ => exact p1_case hl cas_root_28 (p1_full1 (by show (30 : Int) ≤ (ys.getD 1 0).toInt; omega) (by show (ys.getD 1 0).toInt ≤ (30 : Int); omega)) hr
      | 28, hn, _ => exact p1_rt4 hl hr (by show (31 : Int) ≤ (ys.getD 1 0).toInt; omega) (by show (ys.getD 1 0).toInt ≤ (31 : Int); omega) cas_root_29a cas_root_29b cas_root_29c cas_root_29d
      | 29, hn, _ => exact p1_case hl cas_root_30 (p1_full1 (by show (32 : Int) ≤ (ys.getD 1 0).toInt; omega) (by show (ys.getD 1 0).toInt ≤ (32 : Int); omega)) hr
      | 30, hn, _ => exact p1_case hl cas_root_31 (p1_full1 (by show (33 : Int) ≤ (ys.getD 1 0).toInt; omega) (by show (ys.getD 1 0).toInt ≤ (33 : Int); omega)) hr
      | 31, hn, _ => exact p1_case hl cas_root_32 (p1_full1 (by show (34 : Int) ≤ (ys.getD 1 0).toInt; omega) (by show (ys.getD 1 0).toInt ≤ (34 : Int); omega)) hr
      | 32, hn, _ => exact p1_case hl cas_root_33 (p1_full1 (by show (35 : Int) ≤ (ys.getD 1 0).toInt; omega) (by show (ys.getD 1 0).toInt ≤ (35 : Int); omega)) hr
      | 33, hn, _ => exact p1_case hl cas_root_34 (p1_full1 (by show (36 : Int) ≤ (ys.getD 1 0).toInt; omega) (by show (ys.getD 1 0).toInt ≤ (36 : Int); omega)) hr
      | 34, hn, _ => exact p1_rt4 hl hr (by show (37 : Int) ≤ (ys.getD 1 0).toInt; omega) (by show (ys.getD 1 0).toInt ≤ (37 : Int); omega) cas_root_35a cas_root_35b cas_root_35c cas_root_35d
      | 35, hn, _ => exact p1_case hl cas_root_36 (p1_full1 (by show (38 : Int) ≤ (ys.getD 1 0).toInt; omega) (by show (ys.getD 1 0).toInt ≤ (38 : Int); omega)) hr
      | 36, hn, _ => exact p1_case hl cas_root_37 (p1_full1 (by show (39 : Int) ≤ (ys.getD 1 0).toInt; omega) (by show (ys.getD 1 0).toInt ≤ (39 : Int); omega)) hr
      | 37, hn, _ => exact p1_case hl cas_root_38 (p1_full1 (by show (40 : Int) ≤ (ys.getD 1 0).toInt; omega) (by show (ys.getD 1 0).toInt ≤ (40 : Int); omega)) hr
      | 38, hn, _ => exact p1_rt4 hl hr (by show (41 : Int) ≤ (ys.getD 1 0).toInt; omega) (by show (ys.getD 1 0).toInt ≤ (41 : Int); omega) cas_root_39a cas_root_39b cas_root_39c cas_root_39d
      | 39, hn, _ => exact p1_case hl cas_root_40 (p1_full1 (by show (42 : Int) ≤ (ys.getD 1 0).toInt; omega) (by show (ys.getD 1 0).toInt ≤ (42 : Int); omega)) hr
      | 40, hn, _ => exact p1_rt4 hl hr (by show (43 : Int) ≤ (ys.getD 1 0).toInt; omega) (by show (ys.getD 1 0).toInt ≤ (43 : Int); omega) cas_root_41a cas_root_41b cas_root_41c cas_root_41d
      | 41, hn, _ => exact p1_case hl cas_root_42 (p1_full1 (by show (44 : Int) ≤ (ys.getD 1 0).toInt; omega) (by show (ys.getD 1 0).toInt ≤ (44 : Int); omega)) hr
      | 42, hn, _ => exact p1_case hl cas_root_43 (p1_full1 (by show (45 : Int) ≤ (ys.getD 1 0).toInt; omega) (by show (ys.getD 1 0).toInt ≤ (45 : Int); omega)) hr
      | 43, hn, _ => exact p1_case hl cas_root_44 (p1_full1 (by show (46 : Int) ≤ (ys.getD 1 0).toInt; omega) (by show (ys.getD 1 0).toInt ≤ (46 : Int); omega)) hr
      | 44, hn, _ => exact p1_rt4 hl hr (by show (47 : Int) ≤ (ys.getD 1 0).toInt; omega) (by show (ys.getD 1 0).toInt ≤ (47 : Int); omega) cas_root_45a cas_root_45b cas_root_45c cas_root_45d
      | n + 45, _, hn2 => omega
/-- load, piece by piece from its end -/
theorem p1_ld {ys : List Int32} (hl : ys.length = 6) {PC PC' : Nat} {K K' : Int32} (hk : se_run (g_P []) 6 (ld_stp PC' K') (ld_fin PC' K') 20000 g_B0 278 PC (ld_lv K) [] g_H3 (0, 0) [ld_fr] = true)
    (hn : ∀ h, se_in (fun j => ys.getD j 0) g_B0 → se_hr (fun j => ys.getD j 0) g_H3 h → pm_W (g_P ys) 278 PC' ((ld_lv K').map (se_ev (fun j => ys.getD j 0))) [] h (0, 0) (se_K (g_P ys) (fun j => ys.getD j 0) p1_Q [ld_fr])) :
    ∀ h, se_in (fun j => ys.getD j 0) g_B0 → se_hr (fun j => ys.getD j 0) g_H3 h → pm_W (g_P ys) 278 PC ((ld_lv K).map (se_ev (fun j => ys.getD j 0))) [] h (0, 0) (se_K (g_P ys) (fun j => ys.getD j 0) p1_Q [ld_fr]) := by
  intro h hσ hr
  rw [show g_P [] = pm_0 (g_P ys) from rfl, se_run_0] at hk
  refine se_run_ok (P := g_P ys) (L := 6) (ρ := fun j => ys.getD j 0) hl (fun _ => rfl) (Q := p1_Q) ?_ 20000 g_B0 278 PC (ld_lv K) [] g_H3 (0, 0) [ld_fr] h hσ hr hk
  intro σ' m' pc' lv st H cs fs h' hf hs' hr'
  rcases ld_fin_ok hf with ⟨⟨rfl, rfl, rfl⟩, rfl, rfl, rfl⟩ | ⟨rfl, rfl, rfl, rfl, rfl, rfl, rfl, e1, e2⟩
  · exact p1_tail hl h'
  · exact hn h' (p1_full1 (Int.le_trans e1 (hs' 1).1) (Int.le_trans (hs' 1).2 e2)) hr'
theorem p1_last {ys : List Int32} (hl : ys.length = 6) :
    ∀ h, se_in (fun j => ys.getD j 0) g_B0 → se_hr (fun j => ys.getD j 0) g_H3 h → pm_W (g_P ys) 278 287 ((ld_lv 0).map (se_ev (fun j => ys.getD j 0))) [] h (0, 0) (se_K (g_P ys) (fun j => ys.getD j 0) p1_Q [ld_fr]) := by
  intro h hσ hr
  have hk := ld_run_e
  rw [show g_P [] = pm_0 (g_P ys) from rfl, se_run_0] at hk
  refine se_run_ok (P := g_P ys) (L := 6) (ρ := fun j => ys.getD j 0) hl (fun _ => rfl) (Q := p1_Q) ?_ 20000 g_B0 278 287 (ld_lv 0) [] g_H3 (0, 0) [ld_fr] h hσ hr hk
  intro σ' m' pc' lv st H cs fs h' hf _ _
  rw [se_fin2, Bool.and_eq_true] at hf
  obtain ⟨rfl, rfl, rfl⟩ := se_at_ok hf.1
  obtain ⟨rfl, rfl, rfl⟩ := se_lw_ok hf.2
  exact p1_tail hl h'
theorem p1_load {ys : List Int32} (hl : ys.length = 6) {h : pm_H} (hr : se_hr (fun j => ys.getD j 0) g_H1 h) : pm_W (g_P ys) 0 268 [.ref 99999, .ref 0, .ref 275, .int 0] [] h g_c1 p1_Q := by
  have hk := ld_run_a
  rw [show g_P [] = pm_0 (g_P ys) from rfl, se_run_0] at hk
  refine se_run_ok (P := g_P ys) (L := 6) (ρ := fun j => ys.getD j 0) hl (fun _ => rfl) (Q := p1_Q) ?_ 20000 g_B 0 268 g_lv [] g_H1 g_c1 [] h (p1_full _) hr hk
  intro σ' m' pc' lv st H cs fs h' hf hs' hr'
  rcases ld_fin_ok hf with ⟨⟨rfl, rfl, rfl⟩, rfl, rfl, rfl⟩ | ⟨rfl, rfl, rfl, rfl, rfl, rfl, rfl, e1, e2⟩
  · exact p1_tail hl h'
  · exact p1_ld hl ld_run_176_0 (p1_ld hl ld_run_176_250 (p1_ld hl ld_run_176_500 (p1_ld hl ld_run_176_750 (p1_ld hl ld_run_176_1000 (p1_ld hl ld_run_176_1250 (p1_ld hl ld_run_176_1500 (p1_ld hl ld_run_215_0 (p1_ld hl ld_run_215_150 (p1_last hl))))))))) h' (p1_full1 (Int.le_trans e1 (hs' 1).1) (Int.le_trans (hs' 1).2 e2)) hr'

abbrev p1_ts : Array Int := #[192, 205, 268, 291, 314, 337, 370, 423, 456, 519, 552, 585, 628, 681, 714, 747, 770, 793, 816, 849, 862, 905, 928, 951, 984, 1037, 1060, 1093, 1126, 1139, 1163, 1196, 1239, 1262, 1285, 1298]
theorem p1_to {ys : List Int32} (hl : ys.length = 6) {h : pm_H} (hr : se_hr (fun j => ys.getD j 0) g_H1 h) : ∀ n : Nat, n < 36 → ∃ t : Int, p1_ts[n]? = some t ∧ pm_W (g_P ys) 0 t.toNat [.ref 99999, .ref 0, .ref 275, .int 0] [] h g_c1 p1_Q := by
  intro n hn
  match n, hn with
  | 0, _ => exact ⟨_, rfl, p1_case hl cas_status (p1_full _) hr⟩
  | 1, _ => exact ⟨_, rfl, p1_case hl cas_feed (p1_full _) hr⟩
  | 2, _ => exact ⟨_, rfl, p1_load hl hr⟩
  | 3, _ => exact ⟨_, rfl, p1_case hl cas_fault (p1_full _) hr⟩
  | 4, _ => exact ⟨_, rfl, p1_case hl cas_many (p1_full _) hr⟩
  | 5, _ => exact ⟨_, rfl, p1_case hl cas_plate (p1_full _) hr⟩
  | 6, _ => exact ⟨_, rfl, p1_case hl cas_cell (p1_full _) hr⟩
  | 7, _ => exact ⟨_, rfl, p1_case hl cas_differences (p1_full _) hr⟩
  | 8, _ => exact ⟨_, rfl, p1_case hl cas_window (p1_full _) hr⟩
  | 9, _ => exact ⟨_, rfl, p1_case hl cas_alike (p1_full _) hr⟩
  | 10, _ => exact ⟨_, rfl, p1_root hl hr⟩
  | 11, _ => exact ⟨_, rfl, p1_case hl cas_thing (p1_full _) hr⟩
  | 12, _ => exact ⟨_, rfl, p1_case hl cas_add (p1_full _) hr⟩
  | 13, _ => exact ⟨_, rfl, p1_case hl cas_drop (p1_full _) hr⟩
  | 14, _ => exact ⟨_, rfl, p1_case hl cas_lose (p1_full _) hr⟩
  | 15, _ => exact ⟨_, rfl, p1_case hl cas_heal (p1_full _) hr⟩
  | 16, _ => exact ⟨_, rfl, p1_case hl cas_light (p1_full _) hr⟩
  | 17, _ => exact ⟨_, rfl, p1_case hl cas_use (p1_full _) hr⟩
  | 18, _ => exact ⟨_, rfl, p1_case hl cas_slide (p1_full _) hr⟩
  | 19, _ => exact ⟨_, rfl, p1_case hl cas_undo (p1_full _) hr⟩
  | 20, _ => exact ⟨_, rfl, p1_case hl cas_at (p1_full _) hr⟩
  | 21, _ => exact ⟨_, rfl, p1_case hl cas_all (p1_full _) hr⟩
  | 22, _ => exact ⟨_, rfl, p1_case hl cas_peak (p1_full _) hr⟩
  | 23, _ => exact ⟨_, rfl, p1_case hl cas_found (p1_full _) hr⟩
  | 24, _ => exact ⟨_, rfl, p1_case hl cas_frames (p1_full _) hr⟩
  | 25, _ => exact ⟨_, rfl, p1_case hl cas_filled (p1_full _) hr⟩
  | 26, _ => exact ⟨_, rfl, p1_case hl cas_coarse (p1_full _) hr⟩
  | 27, _ => exact ⟨_, rfl, p1_case hl cas_anti (p1_full _) hr⟩
  | 28, _ => exact ⟨_, rfl, p1_case hl cas_keep (p1_full _) hr⟩
  | 29, _ => exact ⟨_, rfl, p1_case hl cas_match (p1_full _) hr⟩
  | 30, _ => exact ⟨_, rfl, p1_case hl cas_minus (p1_full _) hr⟩
  | 31, _ => exact ⟨_, rfl, p1_case hl cas_shots (p1_full _) hr⟩
  | 32, _ => exact ⟨_, rfl, p1_case hl cas_best (p1_full _) hr⟩
  | 33, _ => exact ⟨_, rfl, p1_case hl cas_worst (p1_full _) hr⟩
  | 34, _ => exact ⟨_, rfl, p1_case hl cas_print (p1_full _) hr⟩
  | 35, _ => exact ⟨_, rfl, p1_case hl cas_out (p1_full _) hr⟩
  | n + 36, hn => omega
theorem p1_switch {ys : List Int32} (hl : ys.length = 6) {h : pm_H} (hr : se_hr (fun j => ys.getD j 0) g_H1 h) : pm_W (g_P ys) 0 18 [.ref 99999, .ref 0, .ref 275, .int 0] [] h g_c1 p1_Q := by
  refine ps_iload rfl rfl ?_
  refine ps_aload rfl rfl ?_
  refine ps_he rfl rfl rfl rfl rfl rfl (show pm_he (g_P ys) .caload (.ref 99999 :: [.int 0]) h = some (.int (Int32.ofNat ys.length) :: [.int 0], h) from by simp only [pm_he, if_true]; rfl) ?_
  refine pw_c rfl ?_
  refine ps_ar rfl rfl rfl rfl rfl ?_
  refine ps_icmpf rfl (by rw [hl]; decide) ?_
  refine ps_aload rfl rfl ?_
  refine ps_iload rfl rfl ?_
  refine ps_he rfl rfl rfl rfl rfl rfl (show pm_he (g_P ys) .saload (.int 0 :: .ref 99999 :: []) h = some (.int (ys.getD 0 0) :: [], h) from by
    simp only [pm_he]
    rw [if_pos ⟨trivial, by show pm_in 0 ys.length = true; rw [hl]; decide⟩]
    rfl) ?_
  refine pw_c rfl ?_
  refine ps_ar rfl rfl rfl rfl rfl ?_
  generalize ys.getD 0 0 &&& 63 = d
  have hb : ∃ t : Nat, pm_br (.tableswitch 1321 0 35 p1_ts) 192 [.int d] = some (t, []) ∧ pm_W (g_P ys) 0 t [.ref 99999, .ref 0, .ref 275, .int 0] [] h g_c1 p1_Q := by
    by_cases hd : d.toInt < 0 ∨ 35 < d.toInt
    · exact ⟨1321, by simp only [pm_br, if_pos hd]; rfl, p1_tail hl h⟩
    · obtain ⟨n, hn⟩ : ∃ n : Nat, d.toInt = n := ⟨d.toInt.toNat, by omega⟩
      obtain ⟨t, ht, hw⟩ := p1_to hl hr n (by omega)
      refine ⟨t.toNat, ?_, hw⟩
      have e : (d.toInt - 0).toNat = n := by omega
      simp only [pm_br, if_neg hd, e, ht]
  obtain ⟨t, ht, hw⟩ := hb
  exact pw_s (i := .tableswitch 1321 0 35 p1_ts) rfl rfl rfl (by simp only [pm_s, pm_lo, pm_ar, ht]) hw
theorem law_pure : ∀ ys : List Int32, ys.length ≤ 6 → ∃ (f : Nat) (h' : pm_H), pm_run (g_P ys) f 0 0 [.ref 99999, .retAddr 0, .retAddr 0, .retAddr 0] [] g_h0 (0, 0) = some ([.int 1], h') := by
  intro ys hy
  have hc := List.all_eq_true.mp ctor_run ys.length (List.mem_range.mpr (by omega))
  rw [show g_P [] = pm_0 (g_P ys) from rfl, se_run_0] at hc
  have W : pm_W (g_P ys) 0 0 [.ref 99999, .retAddr 0, .retAddr 0, .retAddr 0] [] g_h0 (0, 0) p1_Q := by
    refine se_run_ok (P := g_P ys) (L := ys.length) (ρ := fun j => ys.getD j 0) rfl (fun _ => rfl) (Q := p1_Q) ?_ 3000 [] 0 0 [.inl (.ref 99999), .inl (.retAddr 0), .inl (.retAddr 0), .inl (.retAddr 0)] [] ([], [], [], 0) (0, 0) [] g_h0 (fun _ => se_rng _) ⟨fun _ _ => rfl, fun _ _ => rfl, fun _ _ => rfl, rfl⟩ hc
    intro σ m pc lv st H cs fs h' hf _ hr
    obtain ⟨⟨rfl, rfl, rfl⟩, rfl, rfl, rfl, rfl⟩ := se_fin1_ok hf
    show pm_W (g_P ys) 0 18 [.ref 99999, .ref 0, .ref 275, .int 0] [] h' g_c1 p1_Q
    by_cases hl : ys.length = 6
    · exact p1_switch hl hr
    · refine p1_exit (i := 0) ?_
      have hl2 : ys.length = 0 ∨ ys.length = 1 ∨ ys.length = 2 ∨ ys.length = 3 ∨ ys.length = 4 ∨ ys.length = 5 := by omega
      rcases hl2 with e | e | e | e | e | e <;> (rw [e]; decide)
  obtain ⟨f, v, h', a, b⟩ := W
  exact ⟨f, h', by rw [a, b]⟩
