/-! BY HAND: the model's plates -/
section HC
variable {ys : List Int32} {I : Nat → Nat → Int32} {L : Nat → Nat → Int64} {s : Nat → Option Nat} {Q : List Value → pm_H → Prop} {k w v : Nat}
theorem M_wide (hu : I 275 24 = nI k) (hk : k < 6) (kk : Q [.int (I 278 (7 * k))] (I, L, g_R s, 306)) : pm_W (g_P ys) 241 0 [.ref 275] [] (I, L, g_R s, 306) (0, 0) Q := by
  refine ps_aload rfl rfl ?_
  refine ps_aload rfl rfl ?_
  refine ps_gfi 11 24 rfl rfl rfl rfl rfl ?_
  rw [show ((I, L, g_R s, 306) : pm_H).1 275 24 = nI k from hu]
  refine pw_k rfl rfl rfl rfl ⟨Nat.zero_le _, Nat.zero_le _⟩ ?_
  refine M_wideOf hk ?_
  refine ps_iret rfl rfl ?_
  exact kk
theorem M_high (hu : I 275 24 = nI k) (hk : k < 6) (kk : Q [.int (I 278 (7 * k + 1))] (I, L, g_R s, 306)) : pm_W (g_P ys) 240 0 [.ref 275] [] (I, L, g_R s, 306) (0, 0) Q := by
  refine ps_aload rfl rfl ?_
  refine ps_aload rfl rfl ?_
  refine ps_gfi 11 24 rfl rfl rfl rfl rfl ?_
  rw [show ((I, L, g_R s, 306) : pm_H).1 275 24 = nI k from hu]
  refine pw_k rfl rfl rfl rfl ⟨Nat.zero_le _, Nat.zero_le _⟩ ?_
  refine M_highOf hk ?_
  refine ps_iret rfl rfl ?_
  exact kk
theorem M_cells0 (hu : I 275 24 = nI k) (hk : k < 6) (kk : Q [.int (I 278 (7 * k) * I 278 (7 * k + 1))] (I, L, g_R s, 306)) : pm_W (g_P ys) 244 0 [.ref 275] [] (I, L, g_R s, 306) (0, 0) Q := by
  refine ps_aload rfl rfl ?_
  refine ps_aload rfl rfl ?_
  refine ps_gfi 11 24 rfl rfl rfl rfl rfl ?_
  rw [show ((I, L, g_R s, 306) : pm_H).1 275 24 = nI k from hu]
  refine pw_k rfl rfl rfl rfl ⟨Nat.zero_le _, Nat.zero_le _⟩ ?_
  refine M_cellsOf hk ?_
  refine ps_iret rfl rfl ?_
  exact kk
theorem M_cellAt (hu : I 275 24 = nI k) (hp : mPl I k w v) (x y : Int32) (kk : Q [.int (nI (cxy w v x.toInt y.toInt))] (I, L, g_R s, 306)) : pm_W (g_P ys) 239 0 [.ref 275, .int x, .int y] [] (I, L, g_R s, 306) (0, 0) Q := by
  obtain ⟨hk, hw, hv, hw0, hv0, hwv⟩ := id hp
  obtain ⟨hwb, hvb⟩ := hp.b
  have bx := i_bd x
  have by' := i_bd y
  rw [iI_of x, iI_of y]
  refine ps_iload rfl rfl ?_
  refine ps_aload rfl rfl ?_
  refine pw_k rfl rfl rfl rfl ⟨Nat.zero_le _, Nat.zero_le _⟩ ?_
  refine M_high hu hk ?_
  rw [hv, ← iI_nat v]
  refine pw_k rfl rfl rfl rfl ⟨Nat.zero_le _, Nat.zero_le _⟩ ?_
  refine M_round (by omega) (by omega) ?_
  refine ps_aload rfl rfl ?_
  refine pw_k rfl rfl rfl rfl ⟨Nat.zero_le _, Nat.zero_le _⟩ ?_
  refine M_wide hu hk ?_
  refine ps_ar rfl rfl rfl rfl rfl ?_
  refine ps_iload rfl rfl ?_
  refine ps_aload rfl rfl ?_
  refine pw_k rfl rfl rfl rfl ⟨Nat.zero_le _, Nat.zero_le _⟩ ?_
  refine M_wide hu hk ?_
  rw [hw, ← iI_nat w]
  refine pw_k rfl rfl rfl rfl ⟨Nat.zero_le _, Nat.zero_le _⟩ ?_
  refine M_round (by omega) (by omega) ?_
  refine ps_ar rfl rfl rfl rfl rfl ?_
  refine ps_iret rfl rfl ?_
  have e : iI (y.toInt % v) * iI w + iI (x.toInt % w) = nI (cxy w v x.toInt y.toInt) := by
    rw [← iI_nat (cxy w v x.toInt y.toInt), iI_mul, iI_add, cxy_int hw0 hv0]
  rw [e]
  exact kk
end HC
section HD
variable {ys : List Int32} {l : Nat}
theorem k_wideOf (hl : l = 1 ∨ l = 2 ∨ l = 3) : xk ys (196, [.inl (2, .ofNat 0, .ofNat 0, 50), .inl (0, .ofNat 0, .ofNat 5, l)], [], [], (false, false), [([.inl (0, .ofNat 1, .ofNat 289, 0)], [], [], [])]) := by
  intro h vs Q iv va fa kk
  obtain ⟨I, L, s, rfl⟩ := x_form iv
  obtain ⟨_, c1, rfl, ⟨a, rfl, ha, _⟩, va1⟩ := vas_c va
  obtain ⟨_, c2, rfl, ⟨x, rfl, h1, h2, h3⟩, va2⟩ := vas_c va1
  cases vas_n va2
  cases ref_M ha
  obtain ⟨n, w, v, hz, hp⟩ := flag_pl hl h3
  have hp : mPl I n w v := hp
  cases i_nat hz
  have b := hp.b
  have hw0 := hp.2.2.2.1
  have e : (I 278 (7 * n)).toInt = (w : Int) := by rw [hp.2.1, nI_toInt (by omega)]
  exact M_wideOf hp.1 (kk _ _ iv (sx_fr_refl _ _ _ _ _) ⟨_, List.mem_cons_self, po_i (by rw [e]; show (1 : Int) ≤ _; omega) (by rw [e]; show _ ≤ (289 : Int); omega)⟩)
theorem k_highOf (hl : l = 1 ∨ l = 2 ∨ l = 3) : xk ys (197, [.inl (2, .ofNat 0, .ofNat 0, 50), .inl (0, .ofNat 0, .ofNat 5, l)], [], [], (false, false), [([.inl (0, .ofNat 1, .ofNat 289, 0)], [], [], [])]) := by
  intro h vs Q iv va fa kk
  obtain ⟨I, L, s, rfl⟩ := x_form iv
  obtain ⟨_, c1, rfl, ⟨a, rfl, ha, _⟩, va1⟩ := vas_c va
  obtain ⟨_, c2, rfl, ⟨x, rfl, h1, h2, h3⟩, va2⟩ := vas_c va1
  cases vas_n va2
  cases ref_M ha
  obtain ⟨n, w, v, hz, hp⟩ := flag_pl hl h3
  have hp : mPl I n w v := hp
  cases i_nat hz
  have b := hp.b
  have hv0 := hp.2.2.2.2.1
  have e : (I 278 (7 * n + 1)).toInt = (v : Int) := by rw [hp.2.2.1, nI_toInt (by omega)]
  exact M_highOf hp.1 (kk _ _ iv (sx_fr_refl _ _ _ _ _) ⟨_, List.mem_cons_self, po_i (by rw [e]; show (1 : Int) ≤ _; omega) (by rw [e]; show _ ≤ (289 : Int); omega)⟩)
theorem k_cellsOf (hl : l = 1 ∨ l = 2 ∨ l = 3) : xk ys (195, [.inl (2, .ofNat 0, .ofNat 0, 50), .inl (0, .ofNat 0, .ofNat 5, l)], [], [], (false, false), [([.inl (0, .ofNat 1, .ofNat 289, 0)], [], [], [])]) := by
  intro h vs Q iv va fa kk
  obtain ⟨I, L, s, rfl⟩ := x_form iv
  obtain ⟨_, c1, rfl, ⟨a, rfl, ha, _⟩, va1⟩ := vas_c va
  obtain ⟨_, c2, rfl, ⟨x, rfl, h1, h2, h3⟩, va2⟩ := vas_c va1
  cases vas_n va2
  cases ref_M ha
  obtain ⟨n, w, v, hz, hp⟩ := flag_pl hl h3
  have hp : mPl I n w v := hp
  cases i_nat hz
  obtain ⟨hk, hw, hv, hw0, hv0, hwv⟩ := id hp
  have hwv0 : 0 < w * v := Nat.mul_pos hw0 hv0
  have e : (I 278 (7 * n) * I 278 (7 * n + 1)).toInt = ((w * v : Nat) : Int) := by rw [hw, hv, pk_mul, nI_toInt (by omega)]
  exact M_cellsOf hp.1 (kk _ _ iv (sx_fr_refl _ _ _ _ _) ⟨_, List.mem_cons_self, po_i (by rw [e]; show (1 : Int) ≤ _; omega) (by rw [e]; show _ ≤ (289 : Int); omega)⟩)
theorem k_indexOf (hl : l = 1 ∨ l = 2 ∨ l = 3) : xk ys (201, [.inl (2, .ofNat 0, .ofNat 0, 50), .inl (0, .ofNat 0, .ofNat 5, l), .inl (0, .negSucc 2147483647, .ofNat 2147483647, 0), .inl (0, .negSucc 2147483647, .ofNat 2147483647, 0)], [], [], (false, false), [([.inl (0, .ofNat 0, .ofNat 1733, 0)], [], [], [])]) := by
  intro h vs Q iv va fa kk
  obtain ⟨I, L, s, rfl⟩ := x_form iv
  obtain ⟨_, c1, rfl, ⟨a, rfl, ha, _⟩, va1⟩ := vas_c va
  obtain ⟨_, c2, rfl, ⟨x, rfl, h1, h2, h3⟩, va2⟩ := vas_c va1
  obtain ⟨_, c3, rfl, ⟨y, rfl, _⟩, va3⟩ := vas_c va2
  obtain ⟨_, c4, rfl, ⟨z, rfl, _⟩, va4⟩ := vas_c va3
  cases vas_n va4
  cases ref_M ha
  obtain ⟨n, w, v, hz, hp⟩ := flag_pl hl h3
  have hp : mPl I n w v := hp
  cases i_nat hz
  have hb := cxy_lt hp.2.2.2.1 hp.2.2.2.2.1 y.toInt z.toInt
  have hk := hp.1
  have hwv := hp.2.2.2.2.2
  have by' := i_bd y
  have bz := i_bd z
  show pm_W (g_P ys) 201 0 [.ref 275, .int (nI n), .int y, .int z] [] (I, L, g_R s, 306) (0, 0) Q
  rw [iI_of y, iI_of z]
  exact M_indexOf hp (by omega) (by omega) (kk _ _ iv (sx_fr_refl _ _ _ _ _) ⟨_, List.mem_cons_self, po_i (by rw [nI_toInt (by omega)]; show (0 : Int) ≤ _; omega) (by rw [nI_toInt (by omega)]; show _ ≤ (1733 : Int); omega)⟩)
theorem k_cellAt (hl : l = 1 ∨ l = 2 ∨ l = 3) : xk ys (239, [.inl (2, .ofNat 0, .ofNat 0, 50), .inl (0, .negSucc 2147483647, .ofNat 2147483647, 0), .inl (0, .negSucc 2147483647, .ofNat 2147483647, 0)], [(0, 24, .ofNat 0, .ofNat 5, l)], [], (false, false), [([.inl (0, .ofNat 0, .ofNat 288, 0)], [], [], [])]) := by
  intro h vs Q iv va fa kk
  obtain ⟨I, L, s, rfl⟩ := x_form iv
  obtain ⟨_, c1, rfl, ⟨a, rfl, ha, _⟩, va1⟩ := vas_c va
  obtain ⟨_, c3, rfl, ⟨y, rfl, _⟩, va2⟩ := vas_c va1
  obtain ⟨_, c4, rfl, ⟨z, rfl, _⟩, va3⟩ := vas_c va2
  cases vas_n va3
  cases ref_M ha
  obtain ⟨_, _, q3⟩ := fas1 fa rfl
  obtain ⟨n, w, v, hz, hp⟩ := flag_pl hl q3
  have hp : mPl I n w v := hp
  have hu : I 275 24 = nI n := i_nat hz
  have hb := cxy_lt hp.2.2.2.1 hp.2.2.2.2.1 y.toInt z.toInt
  have hwv := hp.2.2.2.2.2
  exact M_cellAt hu hp y z (kk _ _ iv (sx_fr_refl _ _ _ _ _) ⟨_, List.mem_cons_self, po_i (by rw [nI_toInt (by omega)]; show (0 : Int) ≤ _; omega) (by rw [nI_toInt (by omega)]; show _ ≤ (288 : Int); omega)⟩)
theorem k_isPlate : xk ys (194, [.inl (2, .ofNat 0, .ofNat 0, 50), .inl (0, .negSucc 2147483647, .ofNat 2147483647, 0)], [], [], (false, false), [([.inl (0, .ofNat 0, .ofNat 0, 0)], [], [], []), ([.inl (0, .ofNat 1, .ofNat 1, 0)], [], [(1, .ofNat 0, .ofNat 5, 1)], [])]) := by
  intro h vs Q iv va fa kk
  obtain ⟨I, L, s, rfl⟩ := x_form iv
  obtain ⟨_, c1, rfl, ⟨a, rfl, ha, _⟩, va1⟩ := vas_c va
  obtain ⟨_, c2, rfl, ⟨x, rfl, _⟩, va2⟩ := vas_c va1
  cases vas_n va2
  cases ref_M ha
  have pb := iv.1 275 14 (.ofNat 14, .ofNat 14, .ofNat 0, .ofNat 6) (by decide) (by decide) (by decide)
  have pb1 : (0 : Int) ≤ (I 275 14).toInt := pb.1
  have pb2 : (I 275 14).toInt ≤ 6 := pb.2
  refine M_isPlate ?_
  have e : (I 275 14 - 1).toInt64.toInt = (I 275 14).toInt - 1 := by
    have e1 : I 275 14 - 1 = iI ((I 275 14).toInt - 1) := by
      rw [← iI_sub, ← iI_of]
      rfl
    rw [Int32.toInt_toInt64, e1, iI_toInt (by omega) (by omega)]
  cases d : (decide ((0 : Int64) ≤ x.toInt64) && decide (x.toInt64 ≤ (I 275 14 - 1).toInt64)) with
  | false => exact kk _ _ iv (sx_fr_refl _ _ _ _ _) ⟨_, List.mem_cons_self, po_i (Int.le_refl _) (Int.le_refl _)⟩
  | true =>
    rw [Bool.and_eq_true, decide_eq_true_iff, decide_eq_true_iff] at d
    have d1 := Int64.le_iff_toInt_le.mp d.1
    have d2 := Int64.le_iff_toInt_le.mp d.2
    rw [e, Int32.toInt_toInt64] at d2
    rw [Int32.toInt_toInt64] at d1
    have d1' : (0 : Int) ≤ x.toInt := d1
    obtain ⟨⟨w, v, hp⟩, _⟩ := iv.2.2.2.2.2.2.2.1 x.toInt.toNat (by show ((x.toInt.toNat : Nat) : Int) < (I 275 14).toInt; omega)
    have hx : x.toInt = (x.toInt.toNat : Int) := by omega
    have hk := hp.1
    refine kk _ _ iv (sx_fr_refl _ _ _ _ _) ⟨_, List.mem_cons_of_mem _ List.mem_cons_self, ⟨⟨_, rfl, Int.le_refl _, Int.le_refl _, Or.inl rfl⟩, trivial⟩, fun _ q => (by cases q), fun q hq => ?_, fun _ q => (by cases q)⟩
    rcases List.mem_cons.mp hq with rfl | hq
    · exact ⟨x, rfl, d1', by show x.toInt ≤ (5 : Int); omega, Or.inr ⟨_, w, v, hx, hp⟩⟩
    · cases hq
end HD
