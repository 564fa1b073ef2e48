/-! BY HAND: two ends of one run; bytes on both tapes -/
section LH
theorem pw_and {P : pm_P} {m pc : Nat} {lv st : List Value} {h : pm_H} {cs : Nat × Nat} {Q1 Q2 : List Value → pm_H → Prop} (a : pm_W P m pc lv st h cs Q1) (b : pm_W P m pc lv st h cs Q2) : pm_W P m pc lv st h cs (fun v h' => Q1 v h' ∧ Q2 v h') := by
  obtain ⟨f1, v1, h1, e1, q1⟩ := a
  obtain ⟨f2, v2, h2, e2, q2⟩ := b
  have g1 := pm_mono' (Nat.le_add_right f1 f2) e1
  have g2 := pm_mono' (Nat.le_add_left f2 f1) e2
  have e := Option.some.inj (g1.symm.trans g2)
  have ev : v1 = v2 := congrArg Prod.fst e
  have eh : h1 = h2 := congrArg Prod.snd e
  subst ev eh
  exact ⟨_, _, _, g1, q1, q2⟩
/-- what a contract gives -/
def sfQ (W : sx_W) (D : Bool × Bool) (h : pm_H) (v : List Value) (h' : pm_H) : Prop := sx_IV xT xtg xPH h' ∧ sx_fr xtg xVP W D h h'
theorem and_255 (y : Int32) : (y &&& 255).toInt = y.toInt % 256 := by
  have e1 : (y &&& 255).toInt = (y.toBitVec &&& 255#32).toInt := rfl
  have e2 : y.toInt = y.toBitVec.toInt := rfl
  have b := y.toBitVec.isLt
  have a : (y.toBitVec &&& 255#32).toNat = y.toBitVec.toNat % 256 := by
    rw [BitVec.toNat_and]
    exact Nat.and_two_pow_sub_one_eq_mod y.toBitVec.toNat 8
  rw [e1, e2, BitVec.toInt_eq_toNat_cond, BitVec.toInt_eq_toNat_cond, a]
  split <;> split <;> omega
theorem nar_bm (y : Int32) : (vp_nar .byte y.toInt8.toInt32).toInt = y.toInt.bmod 256 := by
  rw [vp_nar_byte, Int8.toInt_toInt32, Int32.toInt_toInt8, Int8.toInt_toInt32, Int32.toInt_toInt8]
  show ((y.toInt.bmod 256).bmod 256) = _
  exact Int.bmod_bmod
theorem cm_b (v s : Int32) : (cB v s).toInt = (mB v s).toInt % 256 ∧ -128 ≤ (mB v s).toInt ∧ (mB v s).toInt ≤ 127 := by
  refine ⟨?_, mB_bd v s⟩
  unfold cB mB
  rw [and_255, nar_bm]
  unfold Int.bmod
  dsimp only
  split <;> omega
/-- two rows of bytes, alike -/
def bsE : List Int32 → List Int32 → Prop
  | [], [] => True
  | x :: l, y :: m => (x.toInt = y.toInt % 256 ∧ -128 ≤ y.toInt ∧ y.toInt ≤ 127) ∧ bsE l m
  | _, _ => False
theorem bsE_app : ∀ {l m l' m' : List Int32}, bsE l m → bsE l' m' → bsE (l ++ l') (m ++ m')
  | [], [], _, _, _, k => k
  | _ :: _, _ :: _, _, _, h, k => ⟨h.1, bsE_app h.2 k⟩
  | [], _ :: _, _, _, h, _ => h.elim
  | _ :: _, [], _, _, h, _ => h.elim
theorem bsE_4 (v : Int32) : bsE (c4 v) (m4 v) := ⟨cm_b v 24, cm_b v 16, cm_b v 8, cm_b v 0, trivial⟩
theorem bsE_len : ∀ {l m : List Int32}, bsE l m → l.length = m.length
  | [], [], _ => rfl
  | _ :: _, _ :: _, h => by rw [List.length_cons, List.length_cons, bsE_len h.2]
  | [], _ :: _, h => h.elim
  | _ :: _, [], h => h.elim
theorem bsE_get : ∀ {l m : List Int32} {i : Nat}, bsE l m → i < l.length → ∃ x y, l[i]? = some x ∧ m[i]? = some y ∧ x.toInt = y.toInt % 256 ∧ -128 ≤ y.toInt ∧ y.toInt ≤ 127
  | [], [], i, _, hi => absurd hi (by show ¬ i < 0; omega)
  | x :: l, y :: m, 0, h, _ => ⟨x, y, rfl, rfl, h.1⟩
  | x :: l, y :: m, i + 1, h, hi => by
    rw [List.length_cons] at hi
    obtain ⟨a, b, e1, e2, e3⟩ := bsE_get (i := i) h.2 (by omega)
    exact ⟨a, b, e1, e2, e3⟩
  | [], _ :: _, _, h, _ => h.elim
  | _ :: _, [], _, h, _ => h.elim
variable {I I' : Nat → Nat → Int32} {t : Nat}
theorem tpE_feed {l m : List Int32} (h : tpE (fun j => I 2 j) (fun j => I' 303 j) t) (e : bsE l m) : tpE (fun j => cT I t l 2 j) (fun j => mT I' t m 303 j) (t + l.length) := by
  intro j hj
  by_cases q : j < t
  · have e1 : cT I t l 2 j = I 2 j := ptL_o (by omega) (by omega)
    have e2 : mT I' t m 303 j = I' 303 j := ptL_o (by omega) (by omega)
    show (cT I t l 2 j).toInt = (mT I' t m 303 j).toInt % 256 ∧ -128 ≤ (mT I' t m 303 j).toInt ∧ (mT I' t m 303 j).toInt ≤ 127
    rw [e1, e2]
    exact h j q
  · obtain ⟨i, rfl⟩ := Nat.exists_eq_add_of_le (show t ≤ j by omega)
    obtain ⟨x, y, z1, z2, z3⟩ := bsE_get (i := i) e (by omega)
    have e1 : cT I t l 2 (t + i) = x := ptL_get (by decide) z1
    have e2 : mT I' t m 303 (t + i) = y := ptL_get (by decide) z2
    show (cT I t l 2 (t + i)).toInt = (mT I' t m 303 (t + i)).toInt % 256 ∧ -128 ≤ (mT I' t m 303 (t + i)).toInt ∧ (mT I' t m 303 (t + i)).toInt ≤ 127
    rw [e1, e2]
    exact z3
end LH
