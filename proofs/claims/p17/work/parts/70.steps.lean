/-! STEPS OF THE PURE MACHINE, a row a kind of instruction -/
section PS
variable {P : pm_P} {m pc nx : Nat} {lv st r : List Value} {h : pm_H} {cs : Nat × Nat} {Q : List Value → pm_H → Prop}
theorem ps_iload {k : Nat} {x : Int32} (hc : pm_cod P m pc = some (.inr (.iload k), nx)) (hl : lv[k]? = some (.int x)) (kk : pm_W P m nx lv (.int x :: st) h cs Q) : pm_W P m pc lv st h cs Q :=
  pw_s hc rfl rfl (by simp only [pm_s, pm_lo, hl]) kk
theorem ps_lload {k : Nat} {x : Int64} (hc : pm_cod P m pc = some (.inr (.lload k), nx)) (hl : lv[k]? = some (.long x)) (kk : pm_W P m nx lv (.long x :: st) h cs Q) : pm_W P m pc lv st h cs Q :=
  pw_s hc rfl rfl (by simp only [pm_s, pm_lo, hl]) kk
theorem ps_aload {k : Nat} {x : Nat} (hc : pm_cod P m pc = some (.inr (.aload k), nx)) (hl : lv[k]? = some (.ref x)) (kk : pm_W P m nx lv (.ref x :: st) h cs Q) : pm_W P m pc lv st h cs Q :=
  pw_s hc rfl rfl (by simp only [pm_s, pm_lo, hl]) kk
theorem ps_aloadN {k : Nat} (hc : pm_cod P m pc = some (.inr (.aload k), nx)) (hl : lv[k]? = some .null) (kk : pm_W P m nx lv (.null :: st) h cs Q) : pm_W P m pc lv st h cs Q :=
  pw_s hc rfl rfl (by simp only [pm_s, pm_lo, hl]) kk
theorem ps_istore {k : Nat} {x : Int32} (hc : pm_cod P m pc = some (.inr (.istore k), nx)) (hk : Nat.blt k lv.length = true) (kk : pm_W P m nx (pm_st1 lv k (.int x)) r h cs Q) : pm_W P m pc lv (.int x :: r) h cs Q :=
  pw_s hc rfl rfl (by simp only [pm_s, pm_lo, Nat.blt_eq.mp hk, if_true]) kk
theorem ps_lstore {k : Nat} {x : Int64} (hc : pm_cod P m pc = some (.inr (.lstore k), nx)) (hk : Nat.blt (k + 1) lv.length = true) (kk : pm_W P m nx (pm_st2 lv k (.long x)) r h cs Q) : pm_W P m pc lv (.long x :: r) h cs Q :=
  pw_s hc rfl rfl (by simp only [pm_s, pm_lo, Nat.blt_eq.mp hk, if_true]) kk
theorem ps_astore {k : Nat} {x : Nat} (hc : pm_cod P m pc = some (.inr (.astore k), nx)) (hk : Nat.blt k lv.length = true) (kk : pm_W P m nx (pm_st1 lv k (.ref x)) r h cs Q) : pm_W P m pc lv (.ref x :: r) h cs Q :=
  pw_s hc rfl rfl (by simp only [pm_s, pm_lo, Nat.blt_eq.mp hk, if_true]) kk
theorem ps_astoreN {k : Nat} (hc : pm_cod P m pc = some (.inr (.astore k), nx)) (hk : Nat.blt k lv.length = true) (kk : pm_W P m nx (pm_st1 lv k .null) r h cs Q) : pm_W P m pc lv (.null :: r) h cs Q :=
  pw_s hc rfl rfl (by simp only [pm_s, pm_lo, Nat.blt_eq.mp hk, if_true]) kk
theorem ps_iinc {k : Nat} {n : Int} {x : Int32} (hc : pm_cod P m pc = some (.inr (.iinc k n), nx)) (hl : lv[k]? = some (.int x)) (kk : pm_W P m nx (pm_st1 lv k (.int (x + Int32.ofInt n))) st h cs Q) : pm_W P m pc lv st h cs Q :=
  pw_s hc rfl rfl (by simp only [pm_s, pm_lo, hl]) kk
/-- the stack alone -/
theorem ps_ar {i : Instr} {st' : List Value} (hc : pm_cod P m pc = some (.inr i, nx)) (hr : pm_re (pm_ret P m) i st = none) (ha : pm_ca P i st h = none) (hl : pm_lo i lv st = none) (hs : pm_ar i st = some st') (kk : pm_W P m nx lv st' h cs Q) : pm_W P m pc lv st h cs Q :=
  pw_s hc hr ha (by simp only [pm_s, hl, hs]) kk
theorem ps_goto {t : Int} (hc : pm_cod P m pc = some (.inr (.goto t), nx)) (kk : pm_W P m t.toNat lv st h cs Q) : pm_W P m pc lv st h cs Q :=
  pw_s hc rfl rfl (by simp only [pm_s, pm_lo, pm_ar, pm_br]) kk
theorem ps_if {c : ClassFile.Cond} {t : Int} {x : Int32} (hc : pm_cod P m pc = some (.inr (.ifCond c t), nx)) (k1 : pm_cmp c x 0 = true → pm_W P m t.toNat lv r h cs Q) (k2 : pm_cmp c x 0 = false → pm_W P m nx lv r h cs Q) : pm_W P m pc lv (.int x :: r) h cs Q := by
  cases e : pm_cmp c x 0 with
  | true => exact pw_s hc rfl rfl (by simp only [pm_s, pm_lo, pm_ar, pm_br, e, if_true]) (k1 e)
  | false => exact pw_s hc rfl rfl (by simp only [pm_s, pm_lo, pm_ar, pm_br, e]; rfl) (k2 e)
theorem ps_icmp {c : ClassFile.Cond} {t : Int} {x y : Int32} (hc : pm_cod P m pc = some (.inr (.if_icmp c t), nx)) (k1 : pm_cmp c x y = true → pm_W P m t.toNat lv r h cs Q) (k2 : pm_cmp c x y = false → pm_W P m nx lv r h cs Q) : pm_W P m pc lv (.int y :: .int x :: r) h cs Q := by
  cases e : pm_cmp c x y with
  | true => exact pw_s hc rfl rfl (by simp only [pm_s, pm_lo, pm_ar, pm_br, e, if_true]) (k1 e)
  | false => exact pw_s hc rfl rfl (by simp only [pm_s, pm_lo, pm_ar, pm_br, e]; rfl) (k2 e)
/-- a branch that goes one way -/
theorem ps_ift {c : ClassFile.Cond} {t : Int} {x : Int32} (hc : pm_cod P m pc = some (.inr (.ifCond c t), nx)) (e : pm_cmp c x 0 = true) (kk : pm_W P m t.toNat lv r h cs Q) : pm_W P m pc lv (.int x :: r) h cs Q := ps_if hc (fun _ => kk) (fun q => absurd (q.symm.trans e) (by decide))
theorem ps_iff {c : ClassFile.Cond} {t : Int} {x : Int32} (hc : pm_cod P m pc = some (.inr (.ifCond c t), nx)) (e : pm_cmp c x 0 = false) (kk : pm_W P m nx lv r h cs Q) : pm_W P m pc lv (.int x :: r) h cs Q := ps_if hc (fun q => absurd (q.symm.trans e) (by decide)) (fun _ => kk)
theorem ps_icmpt {c : ClassFile.Cond} {t : Int} {x y : Int32} (hc : pm_cod P m pc = some (.inr (.if_icmp c t), nx)) (e : pm_cmp c x y = true) (kk : pm_W P m t.toNat lv r h cs Q) : pm_W P m pc lv (.int y :: .int x :: r) h cs Q := ps_icmp hc (fun _ => kk) (fun q => absurd (q.symm.trans e) (by decide))
theorem ps_icmpf {c : ClassFile.Cond} {t : Int} {x y : Int32} (hc : pm_cod P m pc = some (.inr (.if_icmp c t), nx)) (e : pm_cmp c x y = false) (kk : pm_W P m nx lv r h cs Q) : pm_W P m pc lv (.int y :: .int x :: r) h cs Q := ps_icmp hc (fun q => absurd (q.symm.trans e) (by decide)) (fun _ => kk)
theorem ps_ifnull {t : Int} {x : Nat} (hc : pm_cod P m pc = some (.inr (.ifnull t), nx)) (kk : pm_W P m nx lv r h cs Q) : pm_W P m pc lv (.ref x :: r) h cs Q :=
  pw_s hc rfl rfl (by simp only [pm_s, pm_lo, pm_ar, pm_br]) kk
theorem ps_ifnullN {t : Int} (hc : pm_cod P m pc = some (.inr (.ifnull t), nx)) (kk : pm_W P m t.toNat lv r h cs Q) : pm_W P m pc lv (.null :: r) h cs Q :=
  pw_s hc rfl rfl (by simp only [pm_s, pm_lo, pm_ar, pm_br]) kk
theorem ps_ifnonnull {t : Int} {x : Nat} (hc : pm_cod P m pc = some (.inr (.ifnonnull t), nx)) (kk : pm_W P m t.toNat lv r h cs Q) : pm_W P m pc lv (.ref x :: r) h cs Q :=
  pw_s hc rfl rfl (by simp only [pm_s, pm_lo, pm_ar, pm_br]) kk
theorem ps_ifnonnullN {t : Int} (hc : pm_cod P m pc = some (.inr (.ifnonnull t), nx)) (kk : pm_W P m nx lv r h cs Q) : pm_W P m pc lv (.null :: r) h cs Q :=
  pw_s hc rfl rfl (by simp only [pm_s, pm_lo, pm_ar, pm_br]) kk
/-- what the heap does -/
theorem ps_he {i : Instr} {st' : List Value} {h' : pm_H} (hc : pm_cod P m pc = some (.inr i, nx)) (hr : pm_re (pm_ret P m) i st = none) (ha : pm_ca P i st h = none) (hl : pm_lo i lv st = none) (h1 : pm_ar i st = none) (h2 : pm_br i nx st = none) (hs : pm_he P i st h = some (st', h')) (kk : pm_W P m nx lv st' h' cs Q) : pm_W P m pc lv st h cs Q :=
  pw_s hc hr ha (by simp only [pm_s, hl, h1, h2, hs]) kk
theorem ps_gfi (c k : Nat) {n a : Nat} {x : Int32} (hc : pm_cod P m pc = some (.inr (.getfield n), nx)) (hn : n = 64 * c + k) (hk : Nat.blt k 64 = true) (hsh : pm_sh P h a = some (.inl c)) (hv : pm_g (pm_fty P c k) h a k = .int x) (kk : pm_W P m nx lv (.int x :: r) h cs Q) : pm_W P m pc lv (.ref a :: r) h cs Q := by
  have hk := Nat.blt_eq.mp hk
  have e1 : n / 64 = c := by omega
  have e2 : n % 64 = k := by omega
  exact ps_he hc rfl rfl rfl rfl rfl (by simp only [pm_he, e1, e2, hsh, if_true, hv]) kk
theorem ps_gfl (c k : Nat) {n a : Nat} {x : Int64} (hc : pm_cod P m pc = some (.inr (.getfield n), nx)) (hn : n = 64 * c + k) (hk : Nat.blt k 64 = true) (hsh : pm_sh P h a = some (.inl c)) (hv : pm_g (pm_fty P c k) h a k = .long x) (kk : pm_W P m nx lv (.long x :: r) h cs Q) : pm_W P m pc lv (.ref a :: r) h cs Q := by
  have hk := Nat.blt_eq.mp hk
  have e1 : n / 64 = c := by omega
  have e2 : n % 64 = k := by omega
  exact ps_he hc rfl rfl rfl rfl rfl (by simp only [pm_he, e1, e2, hsh, if_true, hv]) kk
theorem ps_gfr (c k : Nat) {n a b : Nat} (hc : pm_cod P m pc = some (.inr (.getfield n), nx)) (hn : n = 64 * c + k) (hk : Nat.blt k 64 = true) (hsh : pm_sh P h a = some (.inl c)) (hf : pm_fty P c k = 2) (hv : h.2.2.1 a k = some b) (kk : pm_W P m nx lv (.ref b :: r) h cs Q) : pm_W P m pc lv (.ref a :: r) h cs Q := by
  have hk := Nat.blt_eq.mp hk
  have e1 : n / 64 = c := by omega
  have e2 : n % 64 = k := by omega
  exact ps_he hc rfl rfl rfl rfl rfl (by simp only [pm_he, e1, e2, hsh, if_true, hf, pm_g, hv, va_rf]) kk
theorem ps_pf (c k : Nat) {n a : Nat} {v : Value} {h' : pm_H} (hc : pm_cod P m pc = some (.inr (.putfield n), nx)) (hn : n = 64 * c + k) (hk : Nat.blt k 64 = true) (hsh : pm_sh P h a = some (.inl c)) (hv : pm_p (pm_fty P c k) h a k v = some h') (kk : pm_W P m nx lv r h' cs Q) : pm_W P m pc lv (v :: .ref a :: r) h cs Q := by
  have hk := Nat.blt_eq.mp hk
  have e1 : n / 64 = c := by omega
  have e2 : n % 64 = k := by omega
  exact ps_he hc rfl rfl rfl rfl rfl (by simp only [pm_he, e1, e2, hsh, if_true, hv, Option.map_some]) kk
theorem ps_pfi (c k : Nat) {n a : Nat} {x : Int32} (hc : pm_cod P m pc = some (.inr (.putfield n), nx)) (hn : n = 64 * c + k) (hk : Nat.blt k 64 = true) (hsh : pm_sh P h a = some (.inl c)) (hf : pm_fty P c k = 0) (kk : pm_W P m nx lv r (pm_sI h a k x) cs Q) : pm_W P m pc lv (.int x :: .ref a :: r) h cs Q := ps_pf c k hc hn hk hsh (by rw [hf]; rfl) kk
theorem ps_pfl (c k : Nat) {n a : Nat} {x : Int64} (hc : pm_cod P m pc = some (.inr (.putfield n), nx)) (hn : n = 64 * c + k) (hk : Nat.blt k 64 = true) (hsh : pm_sh P h a = some (.inl c)) (hf : pm_fty P c k = 1) (kk : pm_W P m nx lv r (pm_sL h a k x) cs Q) : pm_W P m pc lv (.long x :: .ref a :: r) h cs Q := ps_pf c k hc hn hk hsh (by rw [hf]; rfl) kk
theorem ps_pfr (c k : Nat) {n a b : Nat} (hc : pm_cod P m pc = some (.inr (.putfield n), nx)) (hn : n = 64 * c + k) (hk : Nat.blt k 64 = true) (hsh : pm_sh P h a = some (.inl c)) (hf : pm_fty P c k = 2) (kk : pm_W P m nx lv r (pm_sR h a k (some b)) cs Q) : pm_W P m pc lv (.ref b :: .ref a :: r) h cs Q := ps_pf c k hc hn hk hsh (by rw [hf]; rfl) kk
theorem ps_pfz (c k : Nat) {n a : Nat} {x : Int32} (hc : pm_cod P m pc = some (.inr (.putfield n), nx)) (hn : n = 64 * c + k) (hk : Nat.blt k 64 = true) (hsh : pm_sh P h a = some (.inl c)) (hf : pm_fty P c k = 3) (hx : x = 0 ∨ x = 1) (kk : pm_W P m nx lv r (pm_sI h a k x) cs Q) : pm_W P m pc lv (.int x :: .ref a :: r) h cs Q := ps_pf c k hc hn hk hsh (by rw [hf]; simp only [pm_p, if_pos hx]) kk
theorem ps_alen {a t n : Nat} (hc : pm_cod P m pc = some (.inr .arraylength, nx)) (hsh : pm_sh P h a = some (.inr (t, n))) (kk : pm_W P m nx lv (.int (nI n) :: r) h cs Q) : pm_W P m pc lv (.ref a :: r) h cs Q :=
  ps_he hc rfl rfl rfl rfl rfl (by simp only [pm_he, hsh]; rfl) kk
theorem pm_in_nI {i n : Nat} (hi : i < n) (hn : n < 2 ^ 31) : pm_in (nI i) n = true := by
  have h := vp_in_nI hi hn
  unfold vp_in at h
  unfold pm_in
  simp only [not_or] at h
  simp only [decide_eq_false h.1, decide_eq_false h.2, Bool.or_self, Bool.not_false]
theorem ps_iald (i : Nat) {j : Int32} {a n : Nat} (hc : pm_cod P m pc = some (.inr .iaload, nx)) (hsh : pm_sh P h a = some (.inr (0, n))) (hn : Nat.blt n 2147483648 = true) (hj : j = nI i) (hi : i < n) (kk : pm_W P m nx lv (.int (h.1 a i) :: r) h cs Q) : pm_W P m pc lv (.int j :: .ref a :: r) h cs Q := by
  subst hj
  have hn := Nat.blt_eq.mp hn
  exact ps_he hc rfl rfl rfl rfl rfl (by simp only [pm_he, hsh, pm_in_nI hi hn, if_true, nI_clamp (show i < 2 ^ 31 by omega)]) kk
theorem ps_lald (i : Nat) {j : Int32} {a n : Nat} (hc : pm_cod P m pc = some (.inr .laload, nx)) (hsh : pm_sh P h a = some (.inr (1, n))) (hn : Nat.blt n 2147483648 = true) (hj : j = nI i) (hi : i < n) (kk : pm_W P m nx lv (.long (h.2.1 a i) :: r) h cs Q) : pm_W P m pc lv (.int j :: .ref a :: r) h cs Q := by
  subst hj
  have hn := Nat.blt_eq.mp hn
  exact ps_he hc rfl rfl rfl rfl rfl (by simp only [pm_he, hsh, pm_in_nI hi hn, if_true, nI_clamp (show i < 2 ^ 31 by omega)]) kk
theorem ps_bald (i : Nat) {j : Int32} {a n t : Nat} (hc : pm_cod P m pc = some (.inr .baload, nx)) (hsh : pm_sh P h a = some (.inr (t, n))) (ht : t = 2 ∨ t = 3) (hn : Nat.blt n 2147483648 = true) (hj : j = nI i) (hi : i < n) (kk : pm_W P m nx lv (.int (h.1 a i) :: r) h cs Q) : pm_W P m pc lv (.int j :: .ref a :: r) h cs Q := by
  subst hj
  have hn := Nat.blt_eq.mp hn
  rcases ht with rfl | rfl <;> exact ps_he hc rfl rfl rfl rfl rfl (by simp only [pm_he, hsh, pm_in_nI hi hn, if_true, nI_clamp (show i < 2 ^ 31 by omega)]) kk
theorem ps_aald (i : Nat) {j : Int32} {a n t b : Nat} (hc : pm_cod P m pc = some (.inr .aaload, nx)) (hsh : pm_sh P h a = some (.inr (t + 4, n))) (hn : Nat.blt n 2147483648 = true) (hj : j = nI i) (hi : i < n) (hv : h.2.2.1 a i = some b) (kk : pm_W P m nx lv (.ref b :: r) h cs Q) : pm_W P m pc lv (.int j :: .ref a :: r) h cs Q := by
  subst hj
  have hn := Nat.blt_eq.mp hn
  exact ps_he hc rfl rfl rfl rfl rfl (by simp only [pm_he, hsh, pm_in_nI hi hn, if_true, nI_clamp (show i < 2 ^ 31 by omega), hv, va_rf]) kk
theorem ps_iast (i : Nat) {j x : Int32} {a n : Nat} (hc : pm_cod P m pc = some (.inr .iastore, nx)) (hsh : pm_sh P h a = some (.inr (0, n))) (hn : Nat.blt n 2147483648 = true) (hj : j = nI i) (hi : i < n) (kk : pm_W P m nx lv r (pm_sI h a i x) cs Q) : pm_W P m pc lv (.int x :: .int j :: .ref a :: r) h cs Q := by
  subst hj
  have hn := Nat.blt_eq.mp hn
  exact ps_he hc rfl rfl rfl rfl rfl (by simp only [pm_he, hsh, pm_in_nI hi hn, if_true, nI_clamp (show i < 2 ^ 31 by omega)]) kk
theorem ps_last (i : Nat) {j : Int32} {x : Int64} {a n : Nat} (hc : pm_cod P m pc = some (.inr .lastore, nx)) (hsh : pm_sh P h a = some (.inr (1, n))) (hn : Nat.blt n 2147483648 = true) (hj : j = nI i) (hi : i < n) (kk : pm_W P m nx lv r (pm_sL h a i x) cs Q) : pm_W P m pc lv (.long x :: .int j :: .ref a :: r) h cs Q := by
  subst hj
  have hn := Nat.blt_eq.mp hn
  exact ps_he hc rfl rfl rfl rfl rfl (by simp only [pm_he, hsh, pm_in_nI hi hn, if_true, nI_clamp (show i < 2 ^ 31 by omega)]) kk
theorem ps_bast (i : Nat) {j x : Int32} {a n : Nat} (hc : pm_cod P m pc = some (.inr .bastore, nx)) (hsh : pm_sh P h a = some (.inr (2, n))) (hn : Nat.blt n 2147483648 = true) (hj : j = nI i) (hi : i < n) (kk : pm_W P m nx lv r (pm_sI h a i (vp_nar .byte x)) cs Q) : pm_W P m pc lv (.int x :: .int j :: .ref a :: r) h cs Q := by
  subst hj
  have hn := Nat.blt_eq.mp hn
  exact ps_he hc rfl rfl rfl rfl rfl (by simp only [pm_he, hsh, pm_in_nI hi hn, if_true, nI_clamp (show i < 2 ^ 31 by omega)]) kk
theorem ps_zast (i : Nat) {j x : Int32} {a n : Nat} (hc : pm_cod P m pc = some (.inr .bastore, nx)) (hsh : pm_sh P h a = some (.inr (3, n))) (hn : Nat.blt n 2147483648 = true) (hj : j = nI i) (hi : i < n) (kk : pm_W P m nx lv r (pm_sI h a i (vp_nar .boolean x)) cs Q) : pm_W P m pc lv (.int x :: .int j :: .ref a :: r) h cs Q := by
  subst hj
  have hn := Nat.blt_eq.mp hn
  exact ps_he hc rfl rfl rfl rfl rfl (by simp only [pm_he, hsh, pm_in_nI hi hn, if_true, nI_clamp (show i < 2 ^ 31 by omega)]) kk
theorem ps_div {x y : Int32} (hc : pm_cod P m pc = some (.inr .idiv, nx)) (hy : ¬ y = 0) (kk : pm_W P m nx lv (.int (x / y) :: r) h cs Q) : pm_W P m pc lv (.int y :: .int x :: r) h cs Q :=
  ps_ar hc rfl rfl rfl (by simp only [pm_ar, if_neg hy]) kk
theorem ps_rem {x y : Int32} (hc : pm_cod P m pc = some (.inr .irem, nx)) (hy : ¬ y = 0) (kk : pm_W P m nx lv (.int (x - x / y * y) :: r) h cs Q) : pm_W P m pc lv (.int y :: .int x :: r) h cs Q :=
  ps_ar hc rfl rfl rfl (by simp only [pm_ar, if_neg hy]) kk
theorem ps_ldiv {x y : Int64} (hc : pm_cod P m pc = some (.inr .ldiv, nx)) (hy : ¬ y = 0) (kk : pm_W P m nx lv (.long (x / y) :: r) h cs Q) : pm_W P m pc lv (.long y :: .long x :: r) h cs Q :=
  ps_ar hc rfl rfl rfl (by simp only [pm_ar, if_neg hy]) kk
theorem ps_lrem {x y : Int64} (hc : pm_cod P m pc = some (.inr .lrem, nx)) (hy : ¬ y = 0) (kk : pm_W P m nx lv (.long (x - x / y * y) :: r) h cs Q) : pm_W P m pc lv (.long y :: .long x :: r) h cs Q :=
  ps_ar hc rfl rfl rfl (by simp only [pm_ar, if_neg hy]) kk
theorem ps_iret {x : Int32} (hc : pm_cod P m pc = some (.inr .ireturn, nx)) (hr : pm_ret P m = 1) (kk : Q [.int x] h) : pm_W P m pc lv [.int x] h cs Q :=
  pw_r hc (by rw [hr]; rfl) kk
theorem ps_zret {x : Int32} (hc : pm_cod P m pc = some (.inr .ireturn, nx)) (hr : pm_ret P m = 4) (hx : x = 0 ∨ x = 1) (kk : Q [.int x] h) : pm_W P m pc lv [.int x] h cs Q :=
  pw_r hc (by rw [hr]; rcases hx with rfl | rfl <;> rfl) kk
theorem ps_lret {x : Int64} (hc : pm_cod P m pc = some (.inr .lreturn, nx)) (hr : pm_ret P m = 2) (kk : Q [.long x] h) : pm_W P m pc lv [.long x] h cs Q :=
  pw_r hc (by rw [hr]; rfl) kk
theorem ps_aret {x : Nat} (hc : pm_cod P m pc = some (.inr .areturn, nx)) (hr : pm_ret P m = 3) (kk : Q [.ref x] h) : pm_W P m pc lv [.ref x] h cs Q :=
  pw_r hc (by rw [hr]; rfl) kk
theorem ps_aretN (hc : pm_cod P m pc = some (.inr .areturn, nx)) (hr : pm_ret P m = 3) (kk : Q [.null] h) : pm_W P m pc lv [.null] h cs Q :=
  pw_r hc (by rw [hr]; rfl) kk
theorem ps_vret (hc : pm_cod P m pc = some (.inr .return_, nx)) (hr : pm_ret P m = 0) (kk : Q [] h) : pm_W P m pc lv [] h cs Q :=
  pw_r hc (by rw [hr]; rfl) kk
end PS
