/-! BY HAND: use; what reads leaves -/
section IF
variable {ys : List Int32} {I : Nat → Nat → Int32} {L : Nat → Nat → Int64} {s : Nat → Option Nat} {Q : List Value → pm_H → Prop}
theorem now4_iv (iv : sx_IV xT xtg xPH (I, L, g_R s, 306)) {n : Nat} (hn : (n : Int) < (I 275 14).toInt) : sx_IV xT xtg xPH (pm_u I 288 4 (nI n), L, g_R s, 306) ∧ sx_fr xtg xVP [(63, .ofNat 0, .ofNat 88)] (false, false) (I, L, g_R s, 306) (pm_u I 288 4 (nI n), L, g_R s, 306) := by
  have pb := iv.1 275 14 (.ofNat 14, .ofNat 14, .ofNat 0, .ofNat 6) (by decide) (by decide) (by decide)
  have pb2 : (I 275 14).toInt ≤ 6 := pb.2
  have t := nI_toInt (n := n) (by omega)
  have ro : ∀ a, ¬ a = 288 → ∀ j, pm_u I 288 4 (nI n) a j = I a j := fun a ha j => pu_o ha
  refine ⟨iv_new iv (ib_u (lo := 0) (hi := 5) iv.1 (by decide) (by omega) (by omega)) (xK_ag2 (fun a ha j => ro a (fun q => by rw [q] at ha; exact absurd ha (by decide)) j) (ro _ (by decide)) (ro _ (by decide)) (ro _ (by decide)) (ro _ (by decide) _) (ro _ (by decide) _) (ro _ (by decide) _) (ro _ (by decide)) (ro _ (by decide)) (ro _ (by decide) _) (fun h0 => ?_) iv.2.2.2.2.2), fr_u (fun _ _ _ => rfl) (by decide), fun _ l z k => xV_ag2 (ro _ (by decide) _) (ro _ (by decide) _) (ro _ (by decide)) (ro _ (by decide)) (ro _ (by decide)) (ro _ (by decide)) (ro _ (by decide)) (ro _ (by decide)) k, fun _ => rfl⟩
  rw [ro _ (by decide)] at h0
  have q := (iv.2.2.2.2.2.2.2.2.1 h0).2
  rw [pu_s, ro 275 (by decide), t]
  refine ⟨hn, fun j hj hj2 => ?_⟩
  rw [ro 275 (by decide)] at hj2
  rw [ro _ (by decide)]
  exact q j hj hj2
theorem M_use4 (iv : sx_IV xT xtg xPH (I, L, g_R s, 306)) {n : Nat} (hn : (n : Int) < (I 275 14).toInt) (kk : ∀ r h', sx_IV xT xtg xPH h' → sx_fr xtg xVP [(65, .ofNat 0, .ofNat 1067), (50, .ofNat 19, .ofNat 19), (63, .ofNat 0, .ofNat 88)] (false, false) (I, L, g_R s, 306) h' → Q [.int r] h') : pm_W (g_P ys) 229 0 [.ref 275, .int 4, .int (nI n), .retAddr 0] [] (I, L, g_R s, 306) (0, 0) Q := by
  obtain ⟨m, hm, hm12⟩ := past_n iv
  refine ps_aload rfl rfl ?_
  refine ps_gfr 11 16 rfl rfl rfl rfl rfl (rfl) ?_
  refine ps_iload rfl rfl ?_
  refine ps_iald (4) rfl rfl rfl (rfl) (by omega) ?_
  refine ps_istore rfl rfl ?_
  refine ps_aload rfl rfl ?_
  refine pw_k rfl rfl rfl rfl ⟨Nat.zero_le _, Nat.zero_le _⟩ ?_
  refine M_remembers hm hm12 ?_
  intro I' ag hr hp
  obtain ⟨g1, g2⟩ := rem_iv iv hm hm12 ag hr hp
  obtain ⟨g3, g4⟩ := now4_iv (L := L) (s := s) g1 (n := n) (by rw [ag _ _ (by decide) (by decide)]; exact hn)
  refine ps_aload rfl rfl ?_
  refine ps_gfr 11 16 rfl rfl rfl rfl rfl (rfl) ?_
  refine ps_iload rfl rfl ?_
  refine ps_iload rfl rfl ?_
  refine ps_iast (4) rfl rfl rfl (rfl) (by omega) ?_
  refine ps_iload rfl rfl ?_
  refine ps_iret rfl rfl ?_
  exact kk _ _ g3 (sx_fr_trans (fr_wk (by decide) g2) (fr_wk (by decide) g4))
theorem k_use : xk ys (230, [.inl (2, .ofNat 0, .ofNat 0, 50), .inl (0, .negSucc 2147483647, .ofNat 2147483647, 0)], [], [(50, .ofNat 0, .ofNat 1), (65, .ofNat 0, .ofNat 1067), (50, .ofNat 19, .ofNat 19), (63, .ofNat 0, .ofNat 88)], (false, false), [([.inl (0, .negSucc 2147483647, .ofNat 2147483647, 0)], [], [], [])]) := by
  intro h vs Q iv va fa kk
  obtain ⟨I, L, s, rfl⟩ := x_form iv
  obtain ⟨_, c1, rfl, ⟨a, rfl, ha, _⟩, va1⟩ := vas_c va
  obtain ⟨_, c2, rfl, ⟨x, rfl, _⟩, va2⟩ := vas_c va1
  cases vas_n va2
  cases ref_M ha
  have pb := iv.1 275 14 (.ofNat 14, .ofNat 14, .ofNat 0, .ofNat 6) (by decide) (by decide) (by decide)
  have pb1 : (0 : Int) ≤ (I 275 14).toInt := pb.1
  have pb2 : (I 275 14).toInt ≤ 6 := pb.2
  have no : ∀ y : Int32, 0 ≤ y.toInt → y.toInt ≤ 9 → ¬ y = 0 → pm_W (g_P ys) 230 28 [.ref 275, .int x] [.int y, .ref 275] (I, L, g_R s, 306) (0, 0) Q := by
    intro y h1 h2 h3
    obtain ⟨g1, g2⟩ := is_iv iv h1 h2
    refine pw_k rfl rfl rfl rfl ⟨Nat.zero_le _, Nat.zero_le _⟩ ?_
    refine M_is ?_
    rw [decide_eq_false h3]
    refine ps_ift rfl (by decide) ?_
    refine pw_c rfl ?_
    refine ps_iret rfl rfl ?_
    exact kk _ _ g1 (fr_wk (by decide) g2) ⟨_, List.mem_cons_self, po_f⟩
  refine ps_aload rfl rfl ?_
  refine ps_aload rfl rfl ?_
  refine ps_iload rfl rfl ?_
  refine pw_k rfl rfl rfl rfl ⟨Nat.zero_le _, Nat.zero_le _⟩ ?_
  refine M_isPlate ?_
  have e : (I 275 14 - 1).toInt64.toInt = (I 275 14).toInt - 1 := by
    have e1 : I 275 14 - 1 = iI ((I 275 14).toInt - 1) := by
      rw [← iI_sub, ← iI_of]
      rfl
    rw [Int32.toInt_toInt64, e1, iI_toInt (by omega) (by omega)]
  cases d : (decide ((0 : Int64) ≤ x.toInt64) && decide (x.toInt64 ≤ (I 275 14 - 1).toInt64)) with
  | false =>
    refine ps_iff rfl (by decide) ?_
    refine pw_c rfl ?_
    refine ps_goto rfl ?_
    exact no 2 (by decide) (by decide) (by decide)
  | true =>
    rw [Bool.and_eq_true, decide_eq_true_iff, decide_eq_true_iff] at d
    have d1 := Int64.le_iff_toInt_le.mp d.1
    have d2 := Int64.le_iff_toInt_le.mp d.2
    rw [e, Int32.toInt_toInt64] at d2
    rw [Int32.toInt_toInt64] at d1
    have d1' : (0 : Int) ≤ x.toInt := d1
    obtain ⟨n, hn⟩ : ∃ n : Nat, x.toInt = (n : Int) := ⟨x.toInt.toNat, by omega⟩
    cases i_nat hn
    refine ps_ift rfl (by decide) ?_
    refine ps_aload rfl rfl ?_
    refine ps_gfr 11 16 rfl rfl rfl rfl rfl (rfl) ?_
    refine pw_c rfl ?_
    refine ps_iald (4) rfl rfl rfl (rfl) (by omega) ?_
    refine ps_iload rfl rfl ?_
    refine ps_icmp rfl (fun hc => ?_) (fun hc => ?_)
    · obtain ⟨g1, g2⟩ := is_iv iv (a := 0) (by decide) (by decide)
      refine pw_c rfl ?_
      refine pw_k rfl rfl rfl rfl ⟨Nat.zero_le _, Nat.zero_le _⟩ ?_
      refine M_is ?_
      refine ps_iff rfl (by decide) ?_
      refine ps_aload rfl rfl ?_
      refine pw_c rfl ?_
      refine ps_iload rfl rfl ?_
      refine pw_k rfl rfl rfl rfl ⟨Nat.zero_le _, Nat.zero_le _⟩ ?_
      refine M_use4 g1 (n := n) (by show (n : Int) < (I 275 14).toInt; omega) ?_
      intro r h' g3 g4
      refine ps_goto rfl ?_
      refine ps_iret rfl rfl ?_
      exact kk _ _ g3 (sx_fr_trans (fr_wk (by decide) g2) (fr_wk (by decide) g4)) ⟨_, List.mem_cons_self, po_f⟩
    · refine pw_c rfl ?_
      refine ps_goto rfl ?_
      exact no 4 (by decide) (by decide) (by decide)
/-- longs have no bounds -/
theorem iv_L {h : pm_H} (iv : sx_IV xT xtg xPH (I, L, g_R s, 306)) (L' : Nat → Nat → Int64) : sx_IV xT xtg xPH (I, L', g_R s, 306) := by
  refine ⟨iv.1, fun a k => ?_, iv.2.2.1, rfl, ⟨s, rfl⟩, iv.2.2.2.2.2⟩
  have h1 := Int64.le_toInt (L' a k)
  have h2 := Int64.toInt_lt (L' a k)
  constructor
  · show (-9223372036854775808 : Int) ≤ (L' a k).toInt
    omega
  · show (L' a k).toInt ≤ (9223372036854775807 : Int)
    omega
/-- where reads writes -/
abbrev rdW : sx_W := [(50, .ofNat 48, .ofNat 48), (50, .ofNat 49, .ofNat 49), (50, .ofNat 50, .ofNat 50), (50, .ofNat 51, .ofNat 51), (50, .ofNat 53, .ofNat 53)]
theorem dE_iv (iv : sx_IV xT xtg xPH (I, L, g_R s, 306)) {I' : Nat → Nat → Int32} {L' : Nat → Nat → Int64} {t : Nat} (ht : I 275 49 = nI t) (ht8 : t ≤ 800) (k : dE I I' t) (lq : lA L L') : sx_IV xT xtg xPH (I', L', g_R s, 306) ∧ sx_fr xtg xVP rdW (false, false) (I, L, g_R s, 306) (I', L', g_R s, 306) := by
  obtain ⟨p, i, ⟨ag, hp, hi, hnu, hbi⟩, hp8, hti, hso⟩ := k
  have i801 : i ≤ 801 := by
    rcases hso with ⟨_, q⟩ | ⟨_, _, _, _, q, _⟩ <;> omega
  have so : 0 ≤ (I' 275 50).toInt ∧ (I' 275 50).toInt ≤ 5 := by
    rcases hso with ⟨q, _⟩ | ⟨z, z1, z2, q, _⟩
    · rw [q]; decide
    · rw [q, nI_toInt (by omega)]; omega
  have tp := nI_toInt (n := p) (by omega)
  have ti := nI_toInt (n := i) (by omega)
  have tt := nI_toInt (n := t) (by omega)
  have ro : ∀ a, ¬ a = 275 → ∀ j, I' a j = I a j := fun a ha j => ag a j (fun q => ha q.1)
  have iv1 : sx_IV xT xtg xPH (I', L, g_R s, 306) := by
    refine iv_new iv (fun c j q hq k1 k2 => ?_) (xK_ag2 (fun a ha j => ro a (fun q => by rw [q] at ha; exact absurd ha (by decide)) j) (ro _ (by decide)) (ro _ (by decide)) (ro _ (by decide)) (ag _ _ (by decide)) (ag _ _ (by decide)) (ag _ _ (by decide)) (ro _ (by decide)) (ro _ (by decide)) (ro _ (by decide) _) (fun h0 => ?_) iv.2.2.2.2.2)
    · by_cases e : c = 275 ∧ (j = 48 ∨ j = 49 ∨ j = 50 ∨ j = 51 ∨ j = 53)
      · obtain ⟨rfl, rfl | rfl | rfl | rfl | rfl⟩ := e
        · exact sx_wr_ok (g := sx_sb xT (xtg 275)) (lo := 48) (hi := 48) (b := (0, 800)) (by decide) (Int.le_refl _) (Int.le_refl _) (by rw [hp, tp]; omega) (by rw [hp, tp]; omega) q hq k1 k2
        · exact sx_wr_ok (g := sx_sb xT (xtg 275)) (lo := 49) (hi := 49) (b := (0, 801)) (by decide) (Int.le_refl _) (Int.le_refl _) (by rw [hi, ti]; omega) (by rw [hi, ti]; omega) q hq k1 k2
        · exact sx_wr_ok (g := sx_sb xT (xtg 275)) (lo := 50) (hi := 50) (b := (0, 5)) (by decide) (Int.le_refl _) (Int.le_refl _) so.1 so.2 q hq k1 k2
        · exact sx_wr_ok (g := sx_sb xT (xtg 275)) (lo := 51) (hi := 51) (b := (0, 9999)) (by decide) (Int.le_refl _) (Int.le_refl _) hnu.1 hnu.2 q hq k1 k2
        · exact sx_wr_ok (g := sx_sb xT (xtg 275)) (lo := 53) (hi := 53) (b := (0, 800)) (by decide) (Int.le_refl _) (Int.le_refl _) hbi.1 hbi.2 q hq k1 k2
      · rw [ag c j e]
        exact iv.1 c j q hq k1 k2
    · rw [ag _ _ (by decide)] at h0
      have q := iv.2.2.2.2.2.2.2.2.1 h0
      rw [ro _ (by decide), ag 275 14 (by decide)]
      refine ⟨q.1, fun j hj hj2 => ?_⟩
      rw [ag _ _ (by decide)] at hj2
      rw [ro _ (by decide)]
      exact q.2 j hj hj2
  refine ⟨iv_L (h := (I, L, g_R s, 306)) iv1 L', fun c j hn => ?_, fun _ l z kv => ?_, fun _ => rfl⟩
  · refine ag c j (fun e => hn ?_)
    obtain ⟨rfl, rfl | rfl | rfl | rfl | rfl⟩ := e
    · exact sx_wk_ok (lo := 48) (hi := 48) (by decide) (by omega) (by omega)
    · exact sx_wk_ok (lo := 49) (hi := 49) (by decide) (by omega) (by omega)
    · exact sx_wk_ok (lo := 50) (hi := 50) (by decide) (by omega) (by omega)
    · exact sx_wk_ok (lo := 51) (hi := 51) (by decide) (by omega) (by omega)
    · exact sx_wk_ok (lo := 53) (hi := 53) (by decide) (by omega) (by omega)
  · have e15 : I' 275 15 = I 275 15 := ag _ _ (by decide)
    have e278 : ∀ j, I' 278 j = I 278 j := ro _ (by decide)
    have e279 : ∀ j, I' 279 j = I 279 j := ro _ (by decide)
    have e280 : ∀ j, I' 280 j = I 280 j := ro _ (by decide)
    have e291 : ∀ j, I' 291 j = I 291 j := ro _ (by decide)
    have e293 : ∀ j, I' 293 j = I 293 j := ro _ (by decide)
    have e294 : ∀ j, I' 294 j = I 294 j := ro _ (by decide)
    unfold xVP xV1 xV2 xV3 xV4 xV5 xV6 mPl nPl nFm at kv ⊢
    simp only [e15, e278, e279, e280, e291, e293, e294]
    split at kv
    · exact kv
    · exact kv
    · exact kv
    · exact kv
    · exact kv
    · exact kv
    · have kv : z ≤ (I 275 49).toInt := kv
      show z ≤ (I' 275 49).toInt
      rw [ht, tt] at kv
      rw [hi, ti]
      omega
    · exact kv
    · exact kv
    · intro j hj
      show L' 304 j = wC j
      rw [lq _ _ (fun q => absurd q.1 (by decide))]
      exact kv j hj
    · exact kv
theorem k_reads : xk ys (279, [.inl (2, .ofNat 0, .ofNat 0, 50)], [(0, 49, .ofNat 0, .ofNat 800, 0)], rdW, (false, false), [([], [(0, 50, .ofNat 0, .ofNat 0, 0), (0, 49, .ofNat 1, .ofNat 801, 0)], [], []), ([], [(0, 50, .ofNat 1, .ofNat 1, 0), (0, 49, .ofNat 1, .ofNat 800, 0)], [], []), ([], [(0, 50, .ofNat 2, .ofNat 2, 0), (0, 49, .ofNat 1, .ofNat 800, 0)], [], []), ([], [(0, 50, .ofNat 3, .ofNat 3, 0), (0, 49, .ofNat 1, .ofNat 800, 0)], [], []), ([], [(0, 50, .ofNat 4, .ofNat 4, 0), (0, 49, .ofNat 1, .ofNat 800, 0), (0, 53, .ofNat 1, .ofNat 40, 0)], [], []), ([], [(0, 50, .ofNat 5, .ofNat 5, 0), (0, 49, .ofNat 1, .ofNat 800, 0)], [], [])]) := by
  intro h vs Q iv va fa kk
  obtain ⟨I, L, s, rfl⟩ := x_form iv
  obtain ⟨_, c1, rfl, ⟨a, rfl, ha, _⟩, va1⟩ := vas_c va
  cases vas_n va1
  cases ref_M ha
  obtain ⟨p1, p2, _⟩ := fas1 fa rfl
  obtain ⟨t, ht8, ht⟩ := nat_bd (b := 800) p1 p2
  have ht : I 275 49 = nI t := ht
  obtain ⟨e, he8, he⟩ := g_bd iv (a := 275) (k := 52) (b := 800) (q := (.ofNat 52, .ofNat 52, .ofNat 0, .ofNat 800)) (by decide) (by decide) (by decide) rfl rfl
  have nb := iv.1 275 51 (.ofNat 51, .ofNat 51, .ofNat 0, .ofNat 9999) (by decide) (by decide) (by decide)
  have bb := iv.1 275 53 (.ofNat 53, .ofNat 53, .ofNat 0, .ofNat 800) (by decide) (by decide) (by decide)
  refine M_reads ht ht8 he he8 nb bb (fun I' L' k lq _ => ?_)
  obtain ⟨g1, g2⟩ := dE_iv (L' := L') iv ht ht8 k lq
  obtain ⟨p, i, ⟨ag, hp, hi, hnu, hbi⟩, hp8, hti, hso⟩ := k
  have ti : i ≤ 801 → (I' 275 49).toInt = (i : Int) := fun q => by rw [hi, nI_toInt (by omega)]
  have ga : ∀ (f : sx_F) (z : Int), (I' 275 f.2.1).toInt = z → f.1 = 0 → f.2.2.1 ≤ z → z ≤ f.2.2.2.1 → f.2.2.2.2 = 0 → sx_fa xVP (I', L', g_R s, 306) [.ref 275] f := fun f z h1 h2 h3 h4 h5 => ⟨275, by rw [h2]; rfl, by show _ ≤ (I' 275 f.2.1).toInt; rw [h1]; exact h3, by show (I' 275 f.2.1).toInt ≤ _; rw [h1]; exact h4, Or.inl h5⟩
  have mk : ∀ o : sx_O, o.1 = [] → o.2.2.1 = [] → o.2.2.2 = [] → sx_fas xVP (I', L', g_R s, 306) [.ref 275] o.2.1 → sx_po xtg xVP (I, L, g_R s, 306) (I', L', g_R s, 306) [.ref 275] [] o := fun o h1 h2 h3 h4 => ⟨by rw [h1]; trivial, h4, by rw [h2]; exact fun _ q => (by cases q), by rw [h3]; exact fun _ q => (by cases q)⟩
  rcases hso with ⟨q1, q2⟩ | ⟨so, s1, s2, q1, q2, q3⟩
  · have tt := ti (by omega)
    refine kk _ _ g1 g2 ⟨_, List.mem_cons_self, mk _ rfl rfl rfl (fun f hf => ?_)⟩
    rcases List.mem_cons.mp hf with rfl | hf
    · exact ga _ 0 (by show (I' 275 50).toInt = 0; rw [q1]; rfl) rfl (Int.le_refl _) (Int.le_refl _) rfl
    · rcases List.mem_cons.mp hf with rfl | hf
      · exact ga _ (i : Int) tt rfl (by show (1 : Int) ≤ _; omega) (by show _ ≤ (801 : Int); omega) rfl
      · cases hf
  · have tt := ti (by omega)
    have ts : (I' 275 50).toInt = (so : Int) := by rw [q1, nI_toInt (by omega)]
    have cs : so = 1 ∨ so = 2 ∨ so = 3 ∨ so = 4 ∨ so = 5 := by omega
    rcases cs with rfl | rfl | rfl | rfl | rfl
    · refine kk _ _ g1 g2 ⟨_, List.Mem.tail _ (List.Mem.head _), mk _ rfl rfl rfl (fun f hf => ?_)⟩
      rcases List.mem_cons.mp hf with rfl | hf
      · exact ga _ _ ts rfl (Int.le_refl _) (Int.le_refl _) rfl
      · rcases List.mem_cons.mp hf with rfl | hf
        · exact ga _ (i : Int) tt rfl (by show (1 : Int) ≤ _; omega) (by show _ ≤ (800 : Int); omega) rfl
        · cases hf
    · refine kk _ _ g1 g2 ⟨_, List.Mem.tail _ (List.Mem.tail _ (List.Mem.head _)), mk _ rfl rfl rfl (fun f hf => ?_)⟩
      rcases List.mem_cons.mp hf with rfl | hf
      · exact ga _ _ ts rfl (Int.le_refl _) (Int.le_refl _) rfl
      · rcases List.mem_cons.mp hf with rfl | hf
        · exact ga _ (i : Int) tt rfl (by show (1 : Int) ≤ _; omega) (by show _ ≤ (800 : Int); omega) rfl
        · cases hf
    · refine kk _ _ g1 g2 ⟨_, List.Mem.tail _ (List.Mem.tail _ (List.Mem.tail _ (List.Mem.head _))), mk _ rfl rfl rfl (fun f hf => ?_)⟩
      rcases List.mem_cons.mp hf with rfl | hf
      · exact ga _ _ ts rfl (Int.le_refl _) (Int.le_refl _) rfl
      · rcases List.mem_cons.mp hf with rfl | hf
        · exact ga _ (i : Int) tt rfl (by show (1 : Int) ≤ _; omega) (by show _ ≤ (800 : Int); omega) rfl
        · cases hf
    · refine kk _ _ g1 g2 ⟨_, List.Mem.tail _ (List.Mem.tail _ (List.Mem.tail _ (List.Mem.tail _ (List.Mem.head _)))), mk _ rfl rfl rfl (fun f hf => ?_)⟩
      rcases List.mem_cons.mp hf with rfl | hf
      · exact ga _ _ ts rfl (Int.le_refl _) (Int.le_refl _) rfl
      · rcases List.mem_cons.mp hf with rfl | hf
        · exact ga _ (i : Int) tt rfl (by show (1 : Int) ≤ _; omega) (by show _ ≤ (800 : Int); omega) rfl
        · rcases List.mem_cons.mp hf with rfl | hf
          · exact ga _ _ rfl rfl (q3 rfl).1 (q3 rfl).2 rfl
          · cases hf
    · refine kk _ _ g1 g2 ⟨_, List.Mem.tail _ (List.Mem.tail _ (List.Mem.tail _ (List.Mem.tail _ (List.Mem.tail _ (List.Mem.head _))))), mk _ rfl rfl rfl (fun f hf => ?_)⟩
      rcases List.mem_cons.mp hf with rfl | hf
      · exact ga _ _ ts rfl (Int.le_refl _) (Int.le_refl _) rfl
      · rcases List.mem_cons.mp hf with rfl | hf
        · exact ga _ (i : Int) tt rfl (by show (1 : Int) ≤ _; omega) (by show _ ≤ (800 : Int); omega) rfl
        · cases hf
end IF
