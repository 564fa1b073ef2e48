/-! THE TABLES, CHECKED BY COUNTING: a Bool for an instruction, and what it says -/
section CHK
variable (P : pm_P) (byt : Nat → ByteArray) (fr lo : Nat → Nat) (oc : Nat → Nat) (ini fin : Nat → Bool)
  (FL FP ML : Nat → Nat → Option Nat) (knd : Nat → Nat) (NW AW : Nat → Nat → Option Nat) (AT : List Nat) (CI : Nat → Nat → Option Int32) (CJ : Nat → Nat → Option Int64) (CS : Nat → Nat → Option Nat) (OI AC : Nat → Nat → Bool)
def pm_dn (x y : Except String (Instr × Nat)) : Bool := match x, y with
  | .ok a, .ok b => decide (a = b)
  | _, _ => false
/-- one instruction -/
def pm_chk (m pc : Nat) (x : pm_I) (nx : Nat) : Bool := match decode (byt m) pc with
  | .error _ => false
  | .ok (ri, len) => match x with
    | .inl v => match ri with
      | .iconst n => decide (len = 1 ∧ v = .int (Int32.ofInt n) ∧ nx = pc + 1)
      | .bipush n => decide (len = 2 ∧ v = .int (Int8.ofInt n).toInt32 ∧ nx = pc + 2)
      | .sipush n => decide (len = 3 ∧ v = .int (Int16.ofInt n).toInt32 ∧ nx = pc + 3)
      | .lconst n => decide (len = 1 ∧ v = .long (Int64.ofNat (n : Nat)) ∧ nx = pc + 1)
      | .aconst_null => decide (len = 1 ∧ v = .null ∧ nx = pc + 1)
      | .ldc i => match v with
        | .int z => decide (len = 2 ∧ nx = pc + 2 ∧ CI (oc m) i = some z)
        | .ref a => decide (len = 2 ∧ nx = pc + 2 ∧ 100000 ≤ a ∧ CS (oc m) i = some (a - 100000))
        | _ => false
      | .ldc_w i => match v with
        | .int z => decide (len = 3 ∧ nx = pc + 3 ∧ CI (oc m) i = some z)
        | .ref a => decide (len = 3 ∧ nx = pc + 3 ∧ 100000 ≤ a ∧ CS (oc m) i = some (a - 100000))
        | _ => false
      | .ldc2_w i => match v with
        | .long z => decide (len = 3 ∧ nx = pc + 3 ∧ CJ (oc m) i = some z)
        | _ => false
      | _ => false
    | .inr i => match i with
      | .iload k => match ri with
        | .iload_n n => decide (len = 1 ∧ (n : Nat) = k ∧ nx = pc + 1)
        | .iload n => decide (len = 2 ∧ n = k ∧ nx = pc + 2)
        | _ => false
      | .lload k => match ri with
        | .lload_n n => decide (len = 1 ∧ (n : Nat) = k ∧ nx = pc + 1)
        | .lload n => decide (len = 2 ∧ n = k ∧ nx = pc + 2)
        | _ => false
      | .aload k => match ri with
        | .aload_n n => decide (len = 1 ∧ (n : Nat) = k ∧ nx = pc + 1)
        | .aload n => decide (len = 2 ∧ n = k ∧ nx = pc + 2)
        | _ => false
      | .istore k => match ri with
        | .istore_n n => decide (len = 1 ∧ (n : Nat) = k ∧ nx = pc + 1)
        | .istore n => decide (len = 2 ∧ n = k ∧ nx = pc + 2)
        | _ => false
      | .lstore k => match ri with
        | .lstore_n n => decide (len = 1 ∧ (n : Nat) = k ∧ nx = pc + 1)
        | .lstore n => decide (len = 2 ∧ n = k ∧ nx = pc + 2)
        | _ => false
      | .astore k => match ri with
        | .astore_n n => decide (len = 1 ∧ (n : Nat) = k ∧ nx = pc + 1)
        | .astore n => decide (len = 2 ∧ n = k ∧ nx = pc + 2)
        | _ => false
      | .iinc k n => decide (ri = .iinc k n ∧ len = 3 ∧ nx = pc + 3)
      | .goto t => match ri with
        | .goto o => decide (len = 3 ∧ (pc : Int) + o = t ∧ 0 ≤ t)
        | _ => false
      | .ifCond c t => match ri with
        | .ifCond c' o => decide (len = 3 ∧ c' = c ∧ (pc : Int) + o = t ∧ 0 ≤ t ∧ nx = pc + 3)
        | _ => false
      | .if_icmp c t => match ri with
        | .if_icmp c' o => decide (len = 3 ∧ c' = c ∧ (pc : Int) + o = t ∧ 0 ≤ t ∧ nx = pc + 3)
        | _ => false
      | .ifnull t => match ri with
        | .ifnull o => decide (len = 3 ∧ (pc : Int) + o = t ∧ 0 ≤ t ∧ nx = pc + 3)
        | _ => false
      | .ifnonnull t => match ri with
        | .ifnonnull o => decide (len = 3 ∧ (pc : Int) + o = t ∧ 0 ≤ t ∧ nx = pc + 3)
        | _ => false
      | .tableswitch d a b ts => match ri with
        | .tableswitch o a' b' os => decide (a' = a ∧ b' = b ∧ (pc : Int) + o = d ∧ 0 ≤ d ∧ ts = os.map (fun z => (pc : Int) + z) ∧ ∀ z ∈ os, 0 ≤ (pc : Int) + z)
        | _ => false
      | .lookupswitch d qs => match ri with
        | .lookupswitch o ps => decide ((pc : Int) + o = d ∧ 0 ≤ d ∧ qs = ps.map (fun z => (z.1, (pc : Int) + z.2)) ∧ (∀ z ∈ ps, 0 ≤ (pc : Int) + z.2) ∧ (ps.toList.zip (ps.toList.drop 1)).all (fun (a, next) => a.1 < next.1) = true)
        | _ => false
      | .getfield n => match ri with
        | .getfield j => decide (len = 3 ∧ nx = pc + 3 ∧ FL (oc m) j = some n)
        | _ => false
      | .putfield n => match ri with
        | .putfield j => decide (len = 3 ∧ nx = pc + 3 ∧ FP (oc m) j = some n ∧ (fin n = true → ini m = true))
        | _ => false
      | .caload => decide (m = 0 ∧ ri = .arraylength ∧ len = 1 ∧ nx = pc + 1)
      | .saload => decide (m = 0 ∧ ri = .iaload ∧ len = 1 ∧ nx = pc + 1)
      | .new c => match ri with
        | .new j => decide (len = 3 ∧ nx = pc + 3 ∧ NW (oc m) j = some c)
        | _ => false
      | .newarray t => decide (ri = .newarray t ∧ len = 2 ∧ nx = pc + 2 ∧ pm_at t ∈ AT)
      | .anewarray c => match ri with
        | .anewarray j => decide (len = 3 ∧ nx = pc + 3 ∧ AW (oc m) j = some c)
        | _ => false
      | .invokestatic k => match ri with
        | .invokestatic j => decide (len = 3 ∧ nx = pc + 3) && ((decide (k = 9000) && AC (oc m) j && decide (1 ≤ fr m ∧ 8 + (nativeFrameWords "java/lang/System" "arraycopy" 5 + 11) ≤ lo m)) || (decide (0 < k ∧ k < 9000) && decide (ML (oc m) j = some k) && decide (knd k = 1) && decide (fr k + 1 ≤ fr m ∧ 8 + (pm_mxl P k + 11) + lo k ≤ lo m)))
        | _ => false
      | .invokespecial k => match ri with
        | .invokespecial j => decide (len = 3 ∧ nx = pc + 3) && ((decide (k = 9003) && OI (oc m) j && decide (1 ≤ fr m ∧ 20 ≤ lo m)) || (decide (0 < k ∧ k < 9000) && decide (ML (oc m) j = some k) && decide (knd k = 3) && decide (fr k + 1 ≤ fr m ∧ 8 + (pm_mxl P k + 11) + lo k ≤ lo m)))
        | _ => false
      | .invokevirtual k => match ri with
        | .invokevirtual j => decide (len = 3 ∧ nx = pc + 3) && ((decide (9000 < k ∧ k < 9003) && decide (ML (oc m) j = some k) && decide (fr k + 1 ≤ fr m ∧ 8 + (pm_mxl P k + 11) + lo k ≤ lo m)) || (decide (0 < k ∧ k < 9000) && decide (ML (oc m) j = some k) && decide (knd k = 2) && decide (fr k + 1 ≤ fr m ∧ 8 + (pm_mxl P k + 11) + lo k ≤ lo m)))
        | _ => false
      | i => decide (ri = i ∧ len = 1 ∧ nx = pc + 1)
variable {P byt fr lo oc ini fin FL FP ML knd NW AW AT CI CJ CS OI AC}
variable {tbl : List Jvm.Cond} {yN : Nat → MethodName} {rT : Nat → Option FieldType} {cl : List vw_C} {strs : List (String × Nat × Nat)} {nst : List Jvm.Cond} (cn : Nat → String)
/-- what a method that is called has in the tables -/
def pm_kf (P : pm_P) (tbl : List Jvm.Cond) (yN : Nat → MethodName) (byt : Nat → ByteArray) (rT : Nat → Option FieldType) (k n : Nat) : Prop := Jvm.Cond.initialized (yN k).cls ∈ tbl ∧ Jvm.Cond.code (yN k) (byt k) (pm_mxl P k) (rT k) ∈ tbl ∧ ((yN k).cls ≠ "java/lang/invoke/MethodHandle" ∧ (yN k).cls ≠ "java/lang/invoke/VarHandle" ∧ (parseMethodDescriptor (yN k).desc).map (fun d => d.parameters.length) = some n)
set_option maxHeartbeats 8000000 in
theorem pm_chk_ok {m pc nx : Nat} {x : pm_I} (hcn : (yN m).cls = cn (oc m)) (hini : ini m = true → (yN m).name = "<init>")
    (hFL : ∀ c j n, FL c j = some n → pm_fl P tbl cl nst (cn c) j (n / 64) (n % 64)) (hFP : ∀ c j n, FP c j = some n → ∀ nm, (fin n = true → nm = "<init>") → pm_fp P tbl cl nst (cn c) nm j (n / 64) (n % 64))
    (hML : ∀ c j k, ML c j = some k → pm_lk1 tbl yN nst (cn c) j k) (hMS : ∀ c j k, ML c j = some k → 9000 < k → Jvm.Cond.methodLink (cn c) j (yN k) ∈ tbl)
    (hST : ∀ k, knd k = 1 → pm_kf P tbl yN byt rT k (pm_nar P k) ∧ Jvm.Cond.static (yN k) ∈ tbl ∧ pm_me P yN rT k)
    (hVI : ∀ k, knd k = 2 → pm_kf P tbl yN byt rT k (pm_nar P k - 1) ∧ Jvm.Cond.instanceMethod (yN k) ∈ tbl ∧ Jvm.Cond.selects (yN k).cls (yN k) (yN k) ∈ tbl ∧ (∃ (T : u_T) (N : Nat), cl[pm_rcv P k]? = some ((yN k).cls, T, N)) ∧ pm_me P yN rT k)
    (hSP : ∀ k, knd k = 3 → pm_kf P tbl yN byt rT k (pm_nar P k - 1) ∧ Jvm.Cond.instanceMethod (yN k) ∈ tbl ∧ (yN k).name = "<init>" ∧ rT k = none ∧ pm_me P yN rT k)
    (hSM : ∀ k, 9000 < k → k < 9003 → pm_kf P tbl yN byt rT k (k - 9001) ∧ Jvm.Cond.instanceMethod (yN k) ∈ tbl ∧ Jvm.Cond.selects (yN k).cls (yN k) (yN k) ∈ tbl ∧ (yN k).cls = "java/lang/String")
    (hNW : ∀ c j n, NW c j = some n → ∃ (C : String) (T : u_T) (N : Nat) (ty : Nat → FieldType), pm_Cls P tbl cl n C T N ty ∧ Jvm.Cond.classLink (cn c) j C ∈ tbl ∧ Jvm.Cond.instantiable C N ∈ tbl ∧ Jvm.Cond.initialized C ∈ tbl)
    (hAW : ∀ c j n, AW c j = some n → ∃ (C : String) (T : u_T) (N : Nat), cl[n]? = some (C, T, N) ∧ Jvm.Cond.classLink (cn c) j C ∈ tbl ∧ Jvm.Cond.arrayOver (.object C) ∈ nst)
    (hAT : ∀ t : ArrayType, pm_at t ∈ AT → Jvm.Cond.arrayClass (newarray.typeOf t) ∈ tbl) (hCI : ∀ c j z, CI c j = some z → Jvm.Cond.constant (cn c) j z ∈ tbl) (hCJ : ∀ c j z, CJ c j = some z → Jvm.Cond.constantLong (cn c) j z ∈ tbl) (hCS : ∀ c j z, CS c j = some z → (cn c, j, z) ∈ strs)
    (hOI : ∀ c j, OI c j = true → Jvm.Cond.methodLink (cn c) j objectInit ∈ tbl ∧ Jvm.Cond.instanceMethod objectInit ∈ tbl ∧ Jvm.Cond.code objectInit ⟨#[0xb1]⟩ 1 none ∈ tbl)
    (hAC : ∀ c j, AC c j = true → Jvm.Cond.methodLink (cn c) j arraycopyName ∈ tbl ∧ Jvm.Cond.native arraycopyName ∈ tbl ∧ Jvm.Cond.static arraycopyName ∈ tbl ∧ Jvm.Cond.initialized "java/lang/System" ∈ tbl)
    (h : pm_chk P byt fr lo oc ini fin FL FP ML knd NW AW AT CI CJ CS OI AC m pc x nx = true) : pm_Ad P tbl yN byt rT fr lo cl strs nst m pc x nx := by
  unfold pm_chk at h
  split at h
  · cases h
  · rename_i ri len hdec
    split at h
    · rename_i v
      split at h
      · obtain ⟨rfl, h2, h3⟩ := of_decide_eq_true h
        exact Or.inl ⟨_, hdec, h2, h3⟩
      · obtain ⟨rfl, h2, h3⟩ := of_decide_eq_true h
        exact Or.inr (Or.inl ⟨_, hdec, h2, h3⟩)
      · obtain ⟨rfl, h2, h3⟩ := of_decide_eq_true h
        exact Or.inr (Or.inr (Or.inl ⟨_, hdec, h2, h3⟩))
      · obtain ⟨rfl, h2, h3⟩ := of_decide_eq_true h
        exact Or.inr (Or.inr (Or.inr (Or.inl ⟨_, hdec, h2, h3⟩)))
      · obtain ⟨rfl, h2, h3⟩ := of_decide_eq_true h
        exact Or.inr (Or.inr (Or.inr (Or.inr (Or.inl ⟨hdec, h2, h3⟩))))
      · split at h
        · obtain ⟨rfl, h2, h3⟩ := of_decide_eq_true h
          exact Or.inr (Or.inr (Or.inr (Or.inr (Or.inr (Or.inl ⟨_, _, hdec, rfl, h2, by rw [hcn]; exact hCI _ _ _ h3⟩)))))
        · obtain ⟨rfl, h2, h3, h4⟩ := of_decide_eq_true h
          obtain ⟨j, rfl⟩ := Nat.exists_eq_add_of_le h3
          rw [Nat.add_sub_cancel_left] at h4
          exact Or.inr (Or.inr (Or.inr (Or.inr (Or.inr (Or.inr (Or.inr (Or.inr (Or.inl ⟨_, _, hdec, rfl, h2, by rw [hcn]; exact hCS _ _ _ h4⟩))))))))
        · cases h
      · split at h
        · obtain ⟨rfl, h2, h3⟩ := of_decide_eq_true h
          exact Or.inr (Or.inr (Or.inr (Or.inr (Or.inr (Or.inr (Or.inl ⟨_, _, hdec, rfl, h2, by rw [hcn]; exact hCI _ _ _ h3⟩))))))
        · obtain ⟨rfl, h2, h3, h4⟩ := of_decide_eq_true h
          obtain ⟨j, rfl⟩ := Nat.exists_eq_add_of_le h3
          rw [Nat.add_sub_cancel_left] at h4
          exact Or.inr (Or.inr (Or.inr (Or.inr (Or.inr (Or.inr (Or.inr (Or.inr (Or.inr ⟨_, _, hdec, rfl, h2, by rw [hcn]; exact hCS _ _ _ h4⟩))))))))
        · cases h
      · split at h
        · obtain ⟨rfl, h2, h3⟩ := of_decide_eq_true h
          exact Or.inr (Or.inr (Or.inr (Or.inr (Or.inr (Or.inr (Or.inr (Or.inl ⟨_, _, hdec, rfl, h2, by rw [hcn]; exact hCJ _ _ _ h3⟩)))))))
        · cases h
      · cases h
    · rename_i i
      split at h
      · split at h
        · obtain ⟨rfl, h2, h3⟩ := of_decide_eq_true h; exact Or.inl ⟨_, hdec, h2, h3⟩
        · obtain ⟨rfl, rfl, h3⟩ := of_decide_eq_true h; exact Or.inr ⟨hdec, h3⟩
        · cases h
      · split at h
        · obtain ⟨rfl, h2, h3⟩ := of_decide_eq_true h; exact Or.inl ⟨_, hdec, h2, h3⟩
        · obtain ⟨rfl, rfl, h3⟩ := of_decide_eq_true h; exact Or.inr ⟨hdec, h3⟩
        · cases h
      · split at h
        · obtain ⟨rfl, h2, h3⟩ := of_decide_eq_true h; exact Or.inl ⟨_, hdec, h2, h3⟩
        · obtain ⟨rfl, rfl, h3⟩ := of_decide_eq_true h; exact Or.inr ⟨hdec, h3⟩
        · cases h
      · split at h
        · obtain ⟨rfl, h2, h3⟩ := of_decide_eq_true h; exact Or.inl ⟨_, hdec, h2, h3⟩
        · obtain ⟨rfl, rfl, h3⟩ := of_decide_eq_true h; exact Or.inr ⟨hdec, h3⟩
        · cases h
      · split at h
        · obtain ⟨rfl, h2, h3⟩ := of_decide_eq_true h; exact Or.inl ⟨_, hdec, h2, h3⟩
        · obtain ⟨rfl, rfl, h3⟩ := of_decide_eq_true h; exact Or.inr ⟨hdec, h3⟩
        · cases h
      · split at h
        · obtain ⟨rfl, h2, h3⟩ := of_decide_eq_true h; exact Or.inl ⟨_, hdec, h2, h3⟩
        · obtain ⟨rfl, rfl, h3⟩ := of_decide_eq_true h; exact Or.inr ⟨hdec, h3⟩
        · cases h
      · obtain ⟨rfl, rfl, h3⟩ := of_decide_eq_true h; exact ⟨hdec, h3⟩
      · split at h
        · obtain ⟨rfl, h2, h3⟩ := of_decide_eq_true h; exact ⟨_, _, hdec, (Int.toNat_of_nonneg h3).symm, by rw [Int.toNat_of_nonneg h3]; exact h2⟩
        · cases h
      · split at h
        · obtain ⟨rfl, rfl, h2, h3, h4⟩ := of_decide_eq_true h; exact ⟨_, _, hdec, (Int.toNat_of_nonneg h3).symm, by rw [Int.toNat_of_nonneg h3]; exact h2, h4⟩
        · cases h
      · split at h
        · obtain ⟨rfl, rfl, h2, h3, h4⟩ := of_decide_eq_true h; exact ⟨_, _, hdec, (Int.toNat_of_nonneg h3).symm, by rw [Int.toNat_of_nonneg h3]; exact h2, h4⟩
        · cases h
      · split at h
        · obtain ⟨rfl, h2, h3, h4⟩ := of_decide_eq_true h; exact ⟨_, _, hdec, (Int.toNat_of_nonneg h3).symm, by rw [Int.toNat_of_nonneg h3]; exact h2, h4⟩
        · cases h
      · split at h
        · obtain ⟨rfl, h2, h3, h4⟩ := of_decide_eq_true h; exact ⟨_, _, hdec, (Int.toNat_of_nonneg h3).symm, by rw [Int.toNat_of_nonneg h3]; exact h2, h4⟩
        · cases h
      · split at h
        · obtain ⟨rfl, rfl, h2, h3, h4, h5⟩ := of_decide_eq_true h; exact ⟨_, _, _, _, hdec, (Int.toNat_of_nonneg h3).symm, by rw [Int.toNat_of_nonneg h3]; exact h2, h4, h5⟩
        · cases h
      · split at h
        · obtain ⟨h2, h3, h4, h5, h6⟩ := of_decide_eq_true h; exact ⟨_, _, _, _, hdec, (Int.toNat_of_nonneg h3).symm, by rw [Int.toNat_of_nonneg h3]; exact h2, h4, h5, h6⟩
        · cases h
      · split at h
        · obtain ⟨rfl, h2, h3⟩ := of_decide_eq_true h; exact ⟨_, hdec, h2, by rw [hcn]; exact hFL _ _ _ h3⟩
        · cases h
      · split at h
        · obtain ⟨rfl, h2, h3, h4⟩ := of_decide_eq_true h; exact ⟨_, hdec, h2, by rw [hcn]; exact hFP _ _ _ h3 _ (fun q => hini (h4 q))⟩
        · cases h
      · obtain ⟨rfl, rfl, rfl, h3⟩ := of_decide_eq_true h; exact ⟨rfl, hdec, h3⟩
      · obtain ⟨rfl, rfl, rfl, h3⟩ := of_decide_eq_true h; exact ⟨rfl, hdec, h3⟩
      · split at h
        · obtain ⟨rfl, h2, h3⟩ := of_decide_eq_true h
          obtain ⟨C, T, N, ty, g1, g2, g3, g4⟩ := hNW _ _ _ h3
          exact ⟨_, C, T, N, ty, hdec, h2, g1, by rw [hcn]; exact g2, g3, g4⟩
        · cases h
      · obtain ⟨rfl, rfl, h2, h3⟩ := of_decide_eq_true h; exact ⟨hdec, h2, hAT _ h3⟩
      · split at h
        · obtain ⟨rfl, h2, h3⟩ := of_decide_eq_true h
          obtain ⟨C, T, N, g1, g2, g3⟩ := hAW _ _ _ h3
          exact ⟨_, C, T, N, hdec, h2, g1, by rw [hcn]; exact g2, g3⟩
        · cases h
      · split at h
        · rename_i k j
          simp only [Bool.and_eq_true, Bool.or_eq_true, decide_eq_true_eq] at h
          obtain ⟨⟨rfl, h2⟩, h3⟩ := h
          refine ⟨h2, ?_⟩
          rcases h3 with ⟨⟨rfl, g1⟩, g2⟩ | ⟨⟨⟨g0, g1⟩, g2⟩, g3⟩
          · obtain ⟨a1, a2, a3, a4⟩ := hAC _ _ g1
            exact Or.inl ⟨rfl, _, hdec, by rw [hcn]; exact a1, a2, a3, a4, g2.1, g2.2⟩
          · obtain ⟨⟨b1, b2, b3⟩, b4, b5⟩ := hST _ g2
            exact Or.inr ⟨g0.2, _, hdec, by rw [hcn]; exact hML _ _ _ g1, ⟨b1, b2, b3, g0.1, g3.1, g3.2⟩, b4, b5⟩
        · cases h
      · split at h
        · rename_i k j
          simp only [Bool.and_eq_true, Bool.or_eq_true, decide_eq_true_eq] at h
          obtain ⟨⟨rfl, h2⟩, h3⟩ := h
          refine ⟨h2, ?_⟩
          rcases h3 with ⟨⟨rfl, g1⟩, g2⟩ | ⟨⟨⟨g0, g1⟩, g2⟩, g3⟩
          · obtain ⟨a1, a2, a3⟩ := hOI _ _ g1
            exact Or.inl ⟨rfl, _, hdec, by rw [hcn]; exact a1, a2, a3, g2.1, g2.2⟩
          · obtain ⟨⟨b1, b2, b3⟩, b4, b5, b6, b7⟩ := hSP _ g2
            exact Or.inr ⟨g0.2, _, hdec, by rw [hcn]; exact hML _ _ _ g1, ⟨b1, b2, b3, g0.1, g3.1, g3.2⟩, b4, b5, b6, b7⟩
        · cases h
      · split at h
        · rename_i k j
          simp only [Bool.and_eq_true, Bool.or_eq_true, decide_eq_true_eq] at h
          obtain ⟨⟨rfl, h2⟩, h3⟩ := h
          refine ⟨h2, ?_⟩
          rcases h3 with ⟨⟨g0, g1⟩, g3⟩ | ⟨⟨⟨g0, g1⟩, g2⟩, g3⟩
          · obtain ⟨⟨b1, b2, b3⟩, b4, b5, b6⟩ := hSM _ g0.1 g0.2
            exact Or.inl ⟨g0.1, g0.2, _, hdec, by rw [hcn]; exact hMS _ _ _ g1 g0.1, ⟨b1, b2, b3, by omega, g3.1, g3.2⟩, b4, b5, b6⟩
          · obtain ⟨⟨b1, b2, b3⟩, b4, b5, b6, b7⟩ := hVI _ g2
            exact Or.inr ⟨g0.2, _, hdec, by rw [hcn]; exact hML _ _ _ g1, ⟨b1, b2, b3, g0.1, g3.1, g3.2⟩, b4, b5, b6, b7⟩
        · cases h
      · obtain ⟨rfl, rfl, h3⟩ := of_decide_eq_true h
        unfold pm_Ad
        dsimp only
        split
        all_goals first | (exact ⟨hdec, h3⟩; done) | skip
        all_goals (clear hFL hFP hML hMS hST hVI hSP hSM hNW hAW hAT hCI hCJ hCS hOI hAC hcn hini hdec; exfalso; first | (simp_all; done) | solve_by_elim)
end CHK
/-- a list in pieces -/
theorem pm_allc {α : Type} {l : List α} {f : α → Bool} (n c : Nat) (hl : l.length ≤ n * c) (h : ∀ i, i < c → ((l.drop (n * i)).take n).all f = true) : l.all f = true := by
  rw [List.all_eq_true]
  intro x hx
  obtain ⟨j, hj⟩ := List.getElem?_of_mem hx
  have hj2 : j < l.length := (List.getElem?_eq_some_iff.mp hj).1
  have hn : 0 < n := by
    rcases Nat.eq_zero_or_pos n with q | q
    · subst q; simp at hl; subst hl; simp at hx
    · exact q
  have hi : j / n < c := Nat.div_lt_of_lt_mul (Nat.lt_of_lt_of_le hj2 hl)
  have := List.all_eq_true.mp (h (j / n) hi) x
  apply this
  apply List.mem_of_getElem? (i := j % n)
  rw [List.getElem?_take, if_pos (Nat.mod_lt _ hn), List.getElem?_drop, Nat.div_add_mod]
  exact hj
