/-! PRINTED by wip/p3/gen96.py: the heap behind both constructors, as the run over unknown ints has it -/
def g_I1 : List (Nat × Nat × se_V) := [(275, 45, .inl (.int (-1))), (275, 44, .inl (.int (-1))), (0, 12, .inl (.int (-1))), (0, 11, .inl (.int (-1))), (265, 10, .inl (.int (-1))), (255, 10, .inl (.int (-1))), (251, 6, .inl (.int 1)), (251, 5, .inl (.int 1)), (251, 4, .inl (.int 1)), (247, 6, .inl (.int 1)), (247, 5, .inl (.int 1)), (247, 4, .inl (.int 1)), (243, 6, .inl (.int 1)), (243, 5, .inl (.int 1)), (243, 4, .inl (.int 1)), (239, 6, .inl (.int 1)), (239, 5, .inl (.int 1)), (239, 4, .inl (.int 1)), (235, 6, .inl (.int 1)), (235, 5, .inl (.int 1)), (235, 4, .inl (.int 1)), (231, 6, .inl (.int 1)), (231, 5, .inl (.int 1)), (231, 4, .inl (.int 1)), (210, 6, .inl (.int 1)), (210, 5, .inl (.int 1)), (210, 4, .inl (.int 1)), (206, 6, .inl (.int 1)), (206, 5, .inl (.int 1)), (206, 4, .inl (.int 1)), (202, 6, .inl (.int 1)), (202, 5, .inl (.int 1)), (202, 4, .inl (.int 1)), (198, 6, .inl (.int 1)), (198, 5, .inl (.int 1)), (198, 4, .inl (.int 1)), (194, 6, .inl (.int 1)), (194, 5, .inl (.int 1)), (194, 4, .inl (.int 1)), (190, 6, .inl (.int 1)), (190, 5, .inl (.int 1)), (190, 4, .inl (.int 1)), (5, 5, .inl (.int (-1)))]
def g_L1 : List (Nat × Nat × Int64) := [(304, 12, 14006), (304, 11, 15827), (304, 10, 40187), (304, 9, 10504213), (304, 8, 247664), (304, 7, 281027399), (304, 6, 282078293), (304, 5, 50849), (304, 4, 10348), (304, 3, 409469), (304, 2, 46486), (304, 1, 13550), (304, 0, 8740526)]
def g_F1 : List (Nat × Nat × Option Nat) := [(275, 56, some 305), (275, 55, some 304), (275, 42, some 303), (275, 38, some 302), (275, 37, some 301), (275, 35, some 300), (275, 31, some 299), (275, 30, some 298), (275, 29, some 297), (275, 28, some 296), (275, 27, some 295), (275, 23, some 294), (275, 22, some 293), (275, 21, some 292), (275, 20, some 291), (275, 18, some 290), (275, 17, some 289), (275, 16, some 288), (275, 13, some 287), (275, 12, some 286), (275, 11, some 285), (275, 10, some 284), (275, 9, some 283), (275, 8, some 282), (275, 7, some 281), (275, 6, some 280), (275, 5, some 279), (275, 4, some 278), (275, 3, some 277), (275, 2, some 276), (0, 9, some 265), (265, 14, some 175), (265, 13, some 190), (265, 8, some 274), (265, 7, some 273), (265, 6, some 272), (265, 5, some 271), (265, 4, some 270), (265, 3, some 269), (265, 2, some 268), (265, 1, some 267), (265, 0, some 266), (0, 8, some 255), (255, 14, some 175), (255, 13, some 190), (255, 8, some 264), (255, 7, some 263), (255, 6, some 262), (255, 5, some 261), (255, 4, some 260), (255, 3, some 259), (255, 2, some 258), (255, 1, some 257), (255, 0, some 256), (0, 7, some 214), (215, 5, some 251), (251, 2, some 254), (251, 1, some 253), (251, 0, some 252), (215, 4, some 247), (247, 2, some 250), (247, 1, some 249), (247, 0, some 248), (215, 3, some 243), (243, 2, some 246), (243, 1, some 245), (243, 0, some 244), (215, 2, some 239), (239, 2, some 242), (239, 1, some 241), (239, 0, some 240), (215, 1, some 235), (235, 2, some 238), (235, 1, some 237), (235, 0, some 236), (215, 0, some 231), (231, 2, some 234), (231, 1, some 233), (231, 0, some 232), (214, 2, some 229), (229, 0, some 230), (214, 1, some 216), (216, 2, some 225), (225, 2, some 228), (225, 1, some 227), (225, 0, some 226), (216, 1, some 221), (221, 2, some 224), (221, 1, some 223), (221, 0, some 222), (216, 0, some 217), (217, 2, some 220), (217, 1, some 219), (217, 0, some 218), (214, 0, some 215), (0, 6, some 173), (174, 5, some 210), (210, 2, some 213), (210, 1, some 212), (210, 0, some 211), (174, 4, some 206), (206, 2, some 209), (206, 1, some 208), (206, 0, some 207), (174, 3, some 202), (202, 2, some 205), (202, 1, some 204), (202, 0, some 203), (174, 2, some 198), (198, 2, some 201), (198, 1, some 200), (198, 0, some 199), (174, 1, some 194), (194, 2, some 197), (194, 1, some 196), (194, 0, some 195), (174, 0, some 190), (190, 2, some 193), (190, 1, some 192), (190, 0, some 191), (173, 2, some 188), (188, 0, some 189), (173, 1, some 175), (175, 2, some 184), (184, 2, some 187), (184, 1, some 186), (184, 0, some 185), (175, 1, some 180), (180, 2, some 183), (180, 1, some 182), (180, 0, some 181), (175, 0, some 176), (176, 2, some 179), (176, 1, some 178), (176, 0, some 177), (173, 0, some 174), (0, 5, some 172), (0, 4, some 170), (170, 0, some 171), (0, 3, some 12), (13, 11, some 157), (157, 2, some 166), (166, 2, some 169), (166, 1, some 168), (166, 0, some 167), (157, 1, some 162), (162, 2, some 165), (162, 1, some 164), (162, 0, some 163), (157, 0, some 158), (158, 2, some 161), (158, 1, some 160), (158, 0, some 159), (13, 10, some 144), (144, 2, some 153), (153, 2, some 156), (153, 1, some 155), (153, 0, some 154), (144, 1, some 149), (149, 2, some 152), (149, 1, some 151), (149, 0, some 150), (144, 0, some 145), (145, 2, some 148), (145, 1, some 147), (145, 0, some 146), (13, 9, some 131), (131, 2, some 140), (140, 2, some 143), (140, 1, some 142), (140, 0, some 141), (131, 1, some 136), (136, 2, some 139), (136, 1, some 138), (136, 0, some 137), (131, 0, some 132), (132, 2, some 135), (132, 1, some 134), (132, 0, some 133), (13, 8, some 118), (118, 2, some 127), (127, 2, some 130), (127, 1, some 129), (127, 0, some 128), (118, 1, some 123), (123, 2, some 126), (123, 1, some 125), (123, 0, some 124), (118, 0, some 119), (119, 2, some 122), (119, 1, some 121), (119, 0, some 120), (13, 7, some 105), (105, 2, some 114), (114, 2, some 117), (114, 1, some 116), (114, 0, some 115), (105, 1, some 110), (110, 2, some 113), (110, 1, some 112), (110, 0, some 111), (105, 0, some 106), (106, 2, some 109), (106, 1, some 108), (106, 0, some 107), (13, 6, some 92), (92, 2, some 101), (101, 2, some 104), (101, 1, some 103), (101, 0, some 102), (92, 1, some 97), (97, 2, some 100), (97, 1, some 99), (97, 0, some 98), (92, 0, some 93), (93, 2, some 96), (93, 1, some 95), (93, 0, some 94), (13, 5, some 79), (79, 2, some 88), (88, 2, some 91), (88, 1, some 90), (88, 0, some 89), (79, 1, some 84), (84, 2, some 87), (84, 1, some 86), (84, 0, some 85), (79, 0, some 80), (80, 2, some 83), (80, 1, some 82), (80, 0, some 81), (13, 4, some 66), (66, 2, some 75), (75, 2, some 78), (75, 1, some 77), (75, 0, some 76), (66, 1, some 71), (71, 2, some 74), (71, 1, some 73), (71, 0, some 72), (66, 0, some 67), (67, 2, some 70), (67, 1, some 69), (67, 0, some 68), (13, 3, some 53), (53, 2, some 62), (62, 2, some 65), (62, 1, some 64), (62, 0, some 63), (53, 1, some 58), (58, 2, some 61), (58, 1, some 60), (58, 0, some 59), (53, 0, some 54), (54, 2, some 57), (54, 1, some 56), (54, 0, some 55), (13, 2, some 40), (40, 2, some 49), (49, 2, some 52), (49, 1, some 51), (49, 0, some 50), (40, 1, some 45), (45, 2, some 48), (45, 1, some 47), (45, 0, some 46), (40, 0, some 41), (41, 2, some 44), (41, 1, some 43), (41, 0, some 42), (13, 1, some 27), (27, 2, some 36), (36, 2, some 39), (36, 1, some 38), (36, 0, some 37), (27, 1, some 32), (32, 2, some 35), (32, 1, some 34), (32, 0, some 33), (27, 0, some 28), (28, 2, some 31), (28, 1, some 30), (28, 0, some 29), (13, 0, some 14), (14, 2, some 23), (23, 2, some 26), (23, 1, some 25), (23, 0, some 24), (14, 1, some 19), (19, 2, some 22), (19, 1, some 21), (19, 0, some 20), (14, 0, some 15), (15, 2, some 18), (15, 1, some 17), (15, 0, some 16), (12, 0, some 13), (0, 2, some 5), (5, 1, some 11), (5, 0, some 6), (6, 3, some 10), (6, 2, some 9), (6, 1, some 8), (6, 0, some 7), (0, 1, some 3), (3, 0, some 4), (0, 0, some 1), (1, 0, some 2)]
def g_H1 : se_H := (g_I1, g_L1, g_F1, 306)
def g_c1 : Nat × Nat := (306, 39355)
def se_qI : List (Nat × Nat × se_V) → List (Nat × Nat × se_V) → Bool
  | [], [] => true
  | (a, k, x) :: r, (b, j, y) :: s => Nat.beq a b && Nat.beq k j && se_same x y && se_qI r s
  | _, _ => false
theorem se_qI_ok : ∀ {l m : List (Nat × Nat × se_V)}, se_qI l m = true → l = m
  | [], [], _ => rfl
  | (a, k, x) :: r, (b, j, y) :: s, h => by
    simp only [se_qI, Bool.and_eq_true] at h
    rw [Nat.eq_of_beq_eq_true h.1.1.1, Nat.eq_of_beq_eq_true h.1.1.2, se_same_ok h.1.2, se_qI_ok h.2]
  | [], _ :: _, h => by cases h
  | _ :: _, [], h => by cases h
def se_qL : List (Nat × Nat × Int64) → List (Nat × Nat × Int64) → Bool
  | [], [] => true
  | (a, k, x) :: r, (b, j, y) :: s => Nat.beq a b && Nat.beq k j && decide (x = y) && se_qL r s
  | _, _ => false
theorem se_qL_ok : ∀ {l m : List (Nat × Nat × Int64)}, se_qL l m = true → l = m
  | [], [], _ => rfl
  | (a, k, x) :: r, (b, j, y) :: s, h => by
    simp only [se_qL, Bool.and_eq_true] at h
    rw [Nat.eq_of_beq_eq_true h.1.1.1, Nat.eq_of_beq_eq_true h.1.1.2, of_decide_eq_true h.1.2, se_qL_ok h.2]
  | [], _ :: _, h => by cases h
  | _ :: _, [], h => by cases h
def se_qR : List (Nat × Nat × Option Nat) → List (Nat × Nat × Option Nat) → Bool
  | [], [] => true
  | (a, k, x) :: r, (b, j, y) :: s => Nat.beq a b && Nat.beq k j && (match x, y with | some c, some d => Nat.beq c d | none, none => true | _, _ => false) && se_qR r s
  | _, _ => false
theorem se_qR_ok : ∀ {l m : List (Nat × Nat × Option Nat)}, se_qR l m = true → l = m
  | [], [], _ => rfl
  | (a, k, x) :: r, (b, j, y) :: s, h => by
    simp only [se_qR, Bool.and_eq_true] at h
    obtain ⟨⟨⟨h1, h2⟩, h3⟩, h4⟩ := h
    rw [Nat.eq_of_beq_eq_true h1, Nat.eq_of_beq_eq_true h2, se_qR_ok h4]
    cases x <;> cases y
    · rfl
    · cases h3
    · cases h3
    · rw [Nat.eq_of_beq_eq_true h3]
  | [], _ :: _, h => by cases h
  | _ :: _, [], h => by cases h
/-- the law's locals at its loop's head, and the cells made so far -/
def se_lw (lv st : List se_V) (cs : Nat × Nat) : Bool := match lv, st with
  | [.inl (.ref a), .inl (.ref b), .inl (.ref c), .inl (.int x)], [] => Nat.beq a 99999 && Nat.beq b 0 && Nat.beq c 275 && decide (x = 0) && Nat.beq cs.1 g_c1.1 && Nat.beq cs.2 g_c1.2
  | _, _ => false
abbrev g_lv : List se_V := [.inl (.ref 99999), .inl (.ref 0), .inl (.ref 275), .inl (.int 0)]
theorem se_lw_ok {lv st : List se_V} {cs : Nat × Nat} (h : se_lw lv st cs = true) : lv = g_lv ∧ st = [] ∧ cs = g_c1 := by
  unfold se_lw at h
  split at h
  · simp only [Bool.and_eq_true, decide_eq_true_iff] at h
    obtain ⟨⟨⟨⟨⟨h1, h2⟩, h3⟩, h4⟩, h5⟩, h6⟩ := h
    rw [Nat.eq_of_beq_eq_true h1, Nat.eq_of_beq_eq_true h2, Nat.eq_of_beq_eq_true h3, h4]
    exact ⟨rfl, rfl, Prod.ext (Nat.eq_of_beq_eq_true h5) (Nat.eq_of_beq_eq_true h6)⟩
  · cases h
/-- at a place of the law, nobody waiting -/
def se_at (pc0 : Nat) (m pc : Nat) (fs : List se_F) : Bool := Nat.beq m 0 && Nat.beq pc pc0 && fs.isEmpty
theorem se_at_ok {pc0 m pc : Nat} {fs : List se_F} (h : se_at pc0 m pc fs = true) : m = 0 ∧ pc = pc0 ∧ fs = [] := by
  simp only [se_at, Bool.and_eq_true] at h
  exact ⟨Nat.eq_of_beq_eq_true h.1.1, Nat.eq_of_beq_eq_true h.1.2, List.isEmpty_iff.mp h.2⟩
def se_stp (pc0 : Nat) (m pc : Nat) (_ : List se_V) : Bool := Nat.beq m 0 && Nat.beq pc pc0
def se_fin1 (_ : se_E) (m pc : Nat) (lv st : List se_V) (H : se_H) (cs : Nat × Nat) (fs : List se_F) : Bool := se_at 18 m pc fs && (se_lw lv st cs && se_qI H.1 g_I1 && se_qL H.2.1 g_L1 && se_qR H.2.2.1 g_F1 && Nat.beq H.2.2.2 306)
theorem se_fin1_ok {σ : se_E} {m pc : Nat} {lv st : List se_V} {H : se_H} {cs : Nat × Nat} {fs : List se_F} (h : se_fin1 σ m pc lv st H cs fs = true) : (m = 0 ∧ pc = 18 ∧ fs = []) ∧ lv = g_lv ∧ st = [] ∧ cs = g_c1 ∧ H = g_H1 := by
  rw [se_fin1, Bool.and_eq_true] at h
  obtain ⟨h0, h⟩ := h
  simp only [Bool.and_eq_true] at h
  obtain ⟨⟨⟨⟨h1, h2⟩, h3⟩, h4⟩, h5⟩ := h
  obtain ⟨e1, e2, e3⟩ := se_lw_ok h1
  exact ⟨se_at_ok h0, e1, e2, e3, Prod.ext (se_qI_ok h2) (Prod.ext (se_qL_ok h3) (Prod.ext (se_qR_ok h4) (Nat.eq_of_beq_eq_true h5)))⟩

/-- what asks for the script -/
def se_isr (q : Option ((Value ⊕ Instr) × Nat)) : Bool := match q with
  | some (.inr .caload, _) => true
  | some (.inr .saload, _) => true
  | _ => false
theorem se_he_L {P : pm_P} {L : Nat} {i : Instr} {st : List se_V} {H : se_H} (h1 : ¬ i = .caload) (h2 : ¬ i = .saload) : se_he P L i st H = se_he P 0 i st H := by
  cases i <;> first | rfl | exact absurd rfl h1 | exact absurd rfl h2
theorem se_run_L (P : pm_P) (L : Nat) (stp : Nat → Nat → List se_V → Bool) (hst : ∀ m pc lv, se_isr (pm_cod P m pc) = true → stp m pc lv = true) (fin : se_E → Nat → Nat → List se_V → List se_V → se_H → Nat × Nat → List se_F → Bool) : ∀ (f : Nat) (σ : se_E) (m pc : Nat) (lv st : List se_V) (H : se_H) (cs : Nat × Nat) (fs : List se_F), se_run P L stp fin f σ m pc lv st H cs fs = se_run P 0 stp fin f σ m pc lv st H cs fs := by
  intro f
  induction f with
  | zero => intros; rfl
  | succ f ih =>
    intro σ m pc lv st H cs fs
    simp only [se_run, ih]
    cases hs : stp m pc lv with
    | true => rfl
    | false =>
      simp only [cond_false]
      cases hc : pm_cod P m pc with
      | none => rfl
      | some q =>
        obtain ⟨x, nx⟩ := q
        cases x with
        | inl v => rfl
        | inr i =>
          have n1 : ¬ i = .caload := fun q => by
            have w := hst m pc lv (by rw [hc, q]; rfl)
            rw [w] at hs
            cases hs
          have n2 : ¬ i = .saload := fun q => by
            have w := hst m pc lv (by rw [hc, q]; rfl)
            rw [w] at hs
            cases hs
          have e : se_s P L σ m i nx lv st H cs = se_s P 0 σ m i nx lv st H cs := by
            unfold se_s
            rw [se_he_L n1 n2]
          simp only [e]
def se_stL (m pc : Nat) (lv : List se_V) : Bool := se_stp 18 m pc lv || se_isr (pm_cod (g_P []) m pc)
/-- both constructors -/
theorem ctor_run : se_run (g_P []) 0 se_stL se_fin1 3000 [] 0 0 [.inl (.ref 99999), .inl (.retAddr 0), .inl (.retAddr 0), .inl (.retAddr 0)] [] ([], [], [], 0) (0, 0) [] = true := by decide +kernel
theorem ctor_W {ys : List Int32} {Q : List Value → pm_H → Prop} (kk : ∀ h, se_hr (fun j => ys.getD j 0) g_H1 h → pm_W (g_P ys) 0 18 [.ref 99999, .ref 0, .ref 275, .int 0] [] h g_c1 Q) : pm_W (g_P ys) 0 0 [.ref 99999, .retAddr 0, .retAddr 0, .retAddr 0] [] g_h0 (0, 0) Q := by
  have hc := ctor_run
  rw [← se_run_L (g_P []) ys.length se_stL (fun m pc lv e => by unfold se_stL; rw [e, Bool.or_true])] at hc
  rw [show g_P [] = pm_0 (g_P ys) from rfl, se_run_0] at hc
  refine se_run_ok (P := g_P ys) (L := ys.length) (ρ := fun j => ys.getD j 0) rfl (fun _ => rfl) (Q := Q) ?_ 3000 [] 0 0 [.inl (.ref 99999), .inl (.retAddr 0), .inl (.retAddr 0), .inl (.retAddr 0)] [] ([], [], [], 0) (0, 0) [] g_h0 (fun _ => se_rng _) ⟨fun _ _ => rfl, fun _ _ => rfl, fun _ _ => rfl, rfl⟩ hc
  intro σ m pc lv st H cs fs h' hf _ hr
  obtain ⟨⟨rfl, rfl, rfl⟩, rfl, rfl, rfl, rfl⟩ := se_fin1_ok hf
  exact kk h' hr

