/-! A RUN OVER AN UNKNOWN HEAP, fifteenth: a method keeps its contract -/
def sx_lk : List (Nat × sx_U) → Nat → Option sx_U
  | [], _ => none
  | q :: r, pc => bif Nat.beq q.1 pc then some q.2 else sx_lk r pc
theorem sx_lk_mem : ∀ {l : List (Nat × sx_U)} {pc : Nat} {q : sx_U}, sx_lk l pc = some q → (pc, q) ∈ l
  | [], _, _, e => by cases e
  | p :: r, pc, q, e => by
    rw [sx_lk] at e
    cases d : Nat.beq p.1 pc with
    | true =>
      rw [d] at e
      cases e
      rw [← Nat.eq_of_beq_eq_true d]
      exact List.mem_cons_self
    | false =>
      rw [d] at e
      exact List.mem_cons_of_mem _ (sx_lk_mem e)
def sx_cf (m0 : Nat) (cuts : List (Nat × sx_U)) (m pc : Nat) : Option sx_U := bif Nat.beq m m0 then sx_lk cuts pc else none
/-- by how much a place of the object itself grew -/
def sx_dl (T : sx_T) (lv0 : List sx_V) (E0 : sx_E) (E : sx_E) (d : Nat × Nat × Int × Int) : Bool := Nat.beq d.1 0 && (match (lv0[0]? : Option sx_V) with
  | some (.inr (.inr (.inr (.inr (i, t))))) => match sx_fdI T i t d.2.1 E0.2.2.2.2.1 with
    | some (.inr (.inl (n0, .ofNat 0))) => match sx_fdI T i t d.2.1 E.2.2.2.2.1 with
      | some (.inr (.inl (n1, c))) => Nat.beq n0 n1 && (match sx_b E.1 n0 with
        | some (lo, hi) => sx_w (lo, hi) sx_mn sx_mx && sx_w (lo + c, hi + c) sx_mn sx_mx && decide (d.2.2.1 ≤ c) && decide (c ≤ d.2.2.2)
        | none => false)
      | _ => false
    | _ => false
  | _ => false)
def sx_dls (T : sx_T) (lv0 : List sx_V) (E0 : Option sx_E) (E : sx_E) : List (Nat × Nat × Int × Int) → Bool
  | [] => true
  | d :: l => (match E0 with
    | some F => sx_dl T lv0 F E d
    | none => false) && sx_dls T lv0 E0 E l
def sx_z0 : List sx_F → Bool
  | [] => true
  | f :: l => Nat.beq f.1 0 && sx_z0 l
def sx_em0 {α : Type} : List α → Bool
  | [] => true
  | _ :: _ => false
def sx_fin1 (T : sx_T) (lv0 : List sx_V) (E0 : Option sx_E) (E : sx_E) (v : List sx_V) (o : sx_O) : Bool := sx_fts E o.1 v && sx_ffs T E lv0 o.2.1 && sx_z0 o.2.1 && sx_em0 o.2.2.1 && sx_dls T lv0 E0 E o.2.2.2
def sx_fin (T : sx_T) (lv0 : List sx_V) (E0 : Option sx_E) (os : List sx_O) (E : sx_E) (v : List sx_V) : Bool := os.any fun o => sx_fin1 T lv0 E0 E v o
def sx_E0 : sx_E := ([], 0, [], [], [], [])
def sx_chk1 (P : pm_P) (T : sx_T) (tb : Nat → List sx_K) (c : sx_K) (cuts : List (Nat × sx_U)) (fuel : Nat) : Bool := sx_isAs c.2.1 && (match sx_ins sx_E0 c.2.1 with
  | (vs, E1) => match sx_fs E1 vs c.2.2.1 with
    | E2 => match sx_en vs (pm_mxl P c.1) with
      | lv => sx_run P T tb c.2.2.2.1 c.2.2.2.2.1 (sx_cf c.1 cuts) (sx_arr T lv none) (sx_fin T lv (some E2) c.2.2.2.2.2) fuel true E2 c.1 0 lv [] [])
def sx_chk2 (P : pm_P) (T : sx_T) (tb : Nat → List sx_K) (c : sx_K) (cuts : List (Nat × sx_U)) (fuel : Nat) (q : Nat × sx_U) : Bool := match sx_ins sx_E0 q.2.1 with
  | (lv, E1) => match sx_fs E1 lv q.2.2.1 with
    | E2 => match sx_ma T E2 lv q.2.2.2.2 with
      | some p => sx_run P T tb c.2.2.2.1 c.2.2.2.2.1 (sx_cf c.1 cuts) (sx_arr T lv (some (q.2.2.2.1 + p.1, p.2))) (sx_fin T lv none c.2.2.2.2.2) fuel true E2 c.1 q.1 lv [] []
      | none => false
def sx_chk (P : pm_P) (T : sx_T) (tb : Nat → List sx_K) (c : sx_K) (cuts : List (Nat × sx_U)) (fuel : Nat) : Bool := sx_chk1 P T tb c cuts fuel && cuts.all (sx_chk2 P T tb c cuts fuel)
theorem pm_en_0 {vs : List Value} {n a : Nat} (h : (pm_en vs n)[0]? = some (.ref a)) : vs[0]? = some (.ref a) := by
  cases vs with
  | nil =>
    unfold pm_en pm_sl at h
    simp only [List.flatMap_nil, List.nil_append, List.length_nil, Nat.sub_zero] at h
    cases n with
    | zero => simp at h
    | succ n => simp [List.replicate_succ] at h
  | cons v r =>
    unfold pm_en pm_sl at h
    rw [List.flatMap_cons] at h
    split at h
    · simpa using h
    · simpa using h
section XQ
variable {P : pm_P} {T : sx_T} {tg : Nat → Nat} {PH : pm_H → Prop} {VP : pm_H → Nat → Int → Prop}
theorem sx_E0_ok (h : pm_H) : sx_ok tg VP [] h sx_E0 := by
  refine ⟨rfl, ?_, ?_, ?_, ?_, ?_⟩
  · intro i b hb; cases hb
  · intro q hq; cases hq
  · intro q hq; cases hq
  · intro q hq; cases hq
  · intro q hq; cases hq
theorem sx_dl_ok (hC : sx_C P T tg PH VP) {ρ0 e : List Int} {h h' : pm_H} {E0 E : sx_E} (ok0 : sx_ok tg VP ρ0 h E0) (ok : sx_ok tg VP (ρ0 ++ e) h' E) {lv0 : List sx_V} {lc : List Value} (rl : sx_RL tg ρ0 lv0 lc) {d : Nat × Nat × Int × Int} (k : sx_dl T lv0 E0 E d = true) : d.1 = 0 ∧ ∃ a : Nat, lc[0]? = some (.ref a) ∧ d.2.2.1 ≤ (h'.1 a d.2.1).toInt - (h.1 a d.2.1).toInt ∧ (h'.1 a d.2.1).toInt - (h.1 a d.2.1).toInt ≤ d.2.2.2 := by
  unfold sx_dl at k
  rw [Bool.and_eq_true] at k
  refine ⟨Nat.eq_of_beq_eq_true k.1, ?_⟩
  have k := k.2
  split at k
  · rename_i i t ei
    obtain ⟨w, g1, g2⟩ := sx_RL_get rl ei
    have g2 := g2.resolve_left (fun q => by cases q)
    obtain ⟨a, g3, g4, rfl⟩ := sx_evr g2
    split at k
    · rename_i n0 hn0
      split at k
      · rename_i n1 c hn1
        rw [Bool.and_eq_true] at k
        have e1 := Nat.eq_of_beq_eq_true k.1
        subst e1
        have k := k.2
        split at k
        · rename_i lo hi hb
          simp only [Bool.and_eq_true, decide_eq_true_iff] at k
          obtain ⟨⟨⟨k1, k2⟩, k3⟩, k4⟩ := k
          have w1 := sx_w_ok k1
          have w2 := sx_w_ok k2
          have f0 := sx_fdI_ok hC ok0.2.2.2.2.1 hn0 g3 g4
          have f1 := sx_fdI_ok hC ok.2.2.2.2.1 hn1 (sx_gm g3 e) g4
          obtain ⟨z0, q1, q2⟩ := sx_evi f0
          obtain ⟨z1, q3, q4⟩ := sx_evi f1
          have q5 := sx_gm q1 e
          rw [q3] at q5
          cases q5
          have hz := ok.2.1 n0 _ hb z0 q3
          have v1 : lo ≤ z0 := hz.1
          have v2 : z0 ≤ hi := hz.2
          have v3 : sx_mn ≤ lo := w1.1
          have v4 : hi ≤ sx_mx := w1.2
          have v5 : sx_mn ≤ lo + c := w2.1
          have v6 : hi + c ≤ sx_mx := w2.2
          refine ⟨a, g1, ?_⟩
          injection q2 with q2
          injection q4 with q4
          rw [q2, q4, sx_ofInt (by omega) (by omega), show z0 + Int.ofNat 0 = z0 from Int.add_zero z0, sx_ofInt (by omega) (by omega)]
          omega
        · cases k
      · cases k
    · cases k
  · cases k
theorem sx_fin_ok (hC : sx_C P T tg PH VP) {vs : List Value} {n : Nat} {os : List sx_O} {ρ0 e : List Int} {h h' : pm_H} {E : sx_E} (F : Option sx_E) (hF : ∀ E0, F = some E0 → sx_ok tg VP ρ0 h E0) (ok : sx_ok tg VP (ρ0 ++ e) h' E) (iv : sx_IV T tg PH h') {lv0 : List sx_V} {lc : List Value} (rl : sx_RL tg ρ0 lv0 lc) (hl : lc[0]? = (pm_en vs n)[0]?) {v : List sx_V} {vc : List Value} (rv : sx_R tg (ρ0 ++ e) v vc) (k : sx_fin T lv0 F os E v = true) : ∃ o, o ∈ os ∧ sx_po tg VP h h' vs vc o := by
  obtain ⟨o, h1, h2⟩ := List.any_eq_true.mp k
  unfold sx_fin1 at h2
  simp only [Bool.and_eq_true] at h2
  obtain ⟨⟨⟨⟨k1, k2⟩, k3⟩, k4⟩, k5⟩ := h2
  refine ⟨o, h1, sx_fts_ok ok k1 (sx_RL_of rv), ?_, ?_, ?_⟩
  · have g := sx_ffs_ok hC ok iv (sx_RL_mono e rl) k2
    have z : ∀ {l : List sx_F}, sx_z0 l = true → ∀ f, f ∈ l → f.1 = 0 := by
      intro l
      induction l with
      | nil => intro _ f hf; cases hf
      | cons p r ih =>
        intro hz f hf
        rw [sx_z0, Bool.and_eq_true] at hz
        rcases List.mem_cons.mp hf with hf | hf
        · rw [hf]; exact Nat.eq_of_beq_eq_true hz.1
        · exact ih hz.2 f hf
    intro f hf
    obtain ⟨a, g1, g2⟩ := g f hf
    have z0 := z k3 f hf
    rw [z0, hl] at g1
    exact ⟨a, by rw [z0]; exact pm_en_0 g1, g2⟩
  · intro q hq
    cases hz : o.2.2.1 with
    | nil => rw [hz] at hq; cases hq
    | cons p r => rw [hz] at k4; cases k4
  · have z : ∀ {l : List (Nat × Nat × Int × Int)}, sx_dls T lv0 F E l = true → ∀ d, d ∈ l → sx_da1 h h' vs d := by
      intro l
      induction l with
      | nil => intro _ d hd; cases hd
      | cons p r ih =>
        intro hz d hd
        unfold sx_dls at hz
        rw [Bool.and_eq_true] at hz
        rcases List.mem_cons.mp hd with hd | hd
        · have hz1 := hz.1
          split at hz1
          · rename_i E0
            obtain ⟨z0, a, g1, g2⟩ := sx_dl_ok hC (hF E0 rfl) ok rl hz1
            rw [hl] at g1
            rw [hd]
            exact ⟨a, by rw [z0]; exact pm_en_0 g1, g2⟩
          · cases hz1
        · exact ih hz.2 d hd
    exact z k5
theorem sx_arr_ok (hC : sx_C P T tg PH VP) {ρ : List Int} {h : pm_H} {E : sx_E} (ok : sx_ok tg VP ρ h E) (iv : sx_IV T tg PH h) {lv0 lv st : List sx_V} {lc0 lc sc : List Value} (rl0 : sx_RL tg ρ lv0 lc0) (rl : sx_RL tg ρ lv lc) (rs : sx_R tg ρ st sc) {old : Option (Int × List (Int × Nat))} {q : sx_U} (k : sx_arr T lv0 old E lv st q = true) : sc = [] ∧ sx_vas tg VP h q.1 lc ∧ sx_fas VP h lc q.2.1 ∧ lc[0]? = lc0[0]? ∧ 0 ≤ q.2.2.1 + sx_mc lc h q.2.2.2 ∧ ∀ o, old = some o → ∀ z, sx_fm ρ o.2 (z - o.1) → q.2.2.1 + sx_mc lc h q.2.2.2 < z := by
  unfold sx_arr at k
  split at k
  · simp only [Bool.and_eq_true] at k
    obtain ⟨⟨⟨k1, k2⟩, k3⟩, k4⟩ := k
    refine ⟨sx_R_nil rs, sx_fts_ok ok k1 rl, sx_ffs_ok hC ok iv rl k2, ?_, ?_⟩
    · unfold sx_hd at k3
      split at k3
      · rename_i x hx
        split at k3
        · rename_i y hy
          obtain ⟨e1, e2⟩ := sx_eqs_ok k3
          obtain ⟨w1, g1, g2⟩ := sx_RL_get rl hx
          obtain ⟨w2, g3, g4⟩ := sx_RL_get rl0 hy
          have g2 := g2.resolve_left e2
          have g4 := g4.resolve_left (by rw [← e1]; exact e2)
          rw [g1, g3]
          rw [e1, g4] at g2
          exact g2.symm
        · cases k3
      · cases k3
    · split at k4
      · rename_i p hp
        rw [Bool.and_eq_true] at k4
        have m1 := sx_ma_ok hC ok rl hp
        refine ⟨?_, ?_⟩
        · have k5 := k4.1
          split at k5
          · rename_i u hu
            have d := of_decide_eq_true k5
            have m2 := sx_sub_ok m1 (show sx_fm ρ [] 0 from rfl)
            have m3 := sx_ub_ok ok.2.1 m2 hu
            omega
          · cases k5
        · intro o ho z hz
          have k6 := k4.2
          rw [ho] at k6
          split at k6
          · rename_i o' ho'
            cases ho'
            split at k6
            · rename_i u hu
              have d := of_decide_eq_true k6
              have m2 := sx_sub_ok hz m1
              have m3 := sx_ub_ok ok.2.1 m2 hu
              omega
            · cases k6
          · rename_i ho'; cases ho'
      · cases k4
  · cases k
theorem sx_chk_ok (hC : sx_C P T tg PH VP) {tb : Nat → List sx_K} (hT : ∀ k c, c ∈ tb k → sx_con P T tg PH VP c) {c : sx_K} {cuts : List (Nat × sx_U)} {fuel : Nat} (k : sx_chk P T tb c cuts fuel = true) : sx_con P T tg PH VP c := by
  unfold sx_chk at k
  rw [Bool.and_eq_true] at k
  obtain ⟨kA, kB⟩ := k
  intro h vs Q iv va fa kk
  have cutOK : ∀ (N pc : Nat) (q : sx_U), sx_lk cuts pc = some q → ∀ (h' : pm_H) (lc : List Value), sx_IV T tg PH h' → sx_fr tg VP c.2.2.2.1 c.2.2.2.2.1 h h' → sx_vas tg VP h' q.1 lc → sx_fas VP h' lc q.2.1 → lc[0]? = (pm_en vs (pm_mxl P c.1))[0]? → 0 ≤ q.2.2.1 + sx_mc lc h' q.2.2.2 → (q.2.2.1 + sx_mc lc h' q.2.2.2).toNat = N → pm_W P c.1 pc lc [] h' (0, 0) Q := by
    intro N
    induction N using Nat.strongRecOn with
    | ind N ih =>
      intro pc q hq h' lc iv' fr' va' fa' hl hm hN
      have k2 := List.all_eq_true.mp kB _ (sx_lk_mem hq)
      unfold sx_chk2 at k2
      obtain ⟨e1, o1, r1⟩ := sx_ins_ok (sx_E0_ok h') va'
      rw [List.nil_append] at o1 r1
      obtain ⟨e2, o2⟩ := sx_fs_ok o1 r1 fa'
      have r2 := sx_RL_mono e2 r1
      split at k2
      rename_i lv E1 hE
      rw [hE] at o1 r1 o2 r2
      dsimp only at k2 o2 r2
      split at k2
      · rename_i p hp
        have m1 := sx_ma_ok hC o2 r2 hp
        have key := sx_run_ok (P := P) (T := T) (tg := tg) (PH := PH) (VP := VP) hC hT (W := c.2.2.2.1) (D := c.2.2.2.2.1) (cut := sx_cf c.1 cuts) (Q := Q) (h0 := h) (ρ0 := e1 ++ e2)
          (fin := sx_fin T lv none c.2.2.2.2.2) (arr := sx_arr T lv (some (q.2.2.1 + p.1, p.2)))
          (fun e h'' E v vc ok'' iv'' fr'' rv kf => kk vc h'' iv'' fr'' (sx_fin_ok hC none (fun _ z => by cases z) ok'' iv'' r2 hl rv kf))
          (fun e h'' E m' pc' lv' lc' st' sc' q' hcf ok'' iv'' fr'' rl'' rs'' ka => by
            unfold sx_cf at hcf
            cases hb : Nat.beq m' c.1 with
            | false => rw [hb] at hcf; cases hcf
            | true =>
              rw [hb] at hcf
              have hm' := Nat.eq_of_beq_eq_true hb
              subst hm'
              obtain ⟨a1, a2, a3, a4, a5, a6⟩ := sx_arr_ok hC ok'' iv'' (sx_RL_mono e r2) rl'' rs'' ka
              subst a1
              have a7 := a6 _ rfl (q.2.2.1 + sx_mc lc h' q.2.2.2) (by
                have := sx_fm_mono e m1
                have e3 : q.2.2.1 + sx_mc lc h' q.2.2.2 - (q.2.2.1 + p.1) = sx_mc lc h' q.2.2.2 - p.1 := by omega
                show sx_fm _ p.2 (q.2.2.1 + sx_mc lc h' q.2.2.2 - (q.2.2.1 + p.1))
                rw [e3]
                exact this)
              exact ih _ (by omega) pc' q' hcf h'' lc' iv'' fr'' a2 a3 (a4.trans hl) a5 rfl)
        have := key fuel true _ c.1 pc lv [] [] [] h' lc [] [] (by rw [List.append_nil]; exact o2) iv' fr' (by rw [List.append_nil]; exact r2) trivial trivial k2
        exact this
      · cases k2
  unfold sx_chk1 at kA
  rw [Bool.and_eq_true] at kA
  obtain ⟨kA0, kA⟩ := kA
  obtain ⟨e1, o1, r1⟩ := sx_ins_ok (sx_E0_ok h) va
  rw [List.nil_append] at o1 r1
  obtain ⟨e2, o2⟩ := sx_fs_ok o1 r1 fa
  have s1 := sx_R_mono e2 (sx_RL_R kA0 r1)
  split at kA
  rename_i lv E1 hE
  rw [hE] at o2 s1
  dsimp only at kA o2 s1
  have s2 := sx_en_ok s1 (pm_mxl P c.1)
  have r2 := sx_RL_of s2
  have key := sx_run_ok (P := P) (T := T) (tg := tg) (PH := PH) (VP := VP) hC hT (W := c.2.2.2.1) (D := c.2.2.2.2.1) (cut := sx_cf c.1 cuts) (Q := Q) (h0 := h) (ρ0 := e1 ++ e2)
    (fin := sx_fin T (sx_en lv (pm_mxl P c.1)) (some (sx_fs E1 lv c.2.2.1)) c.2.2.2.2.2) (arr := sx_arr T (sx_en lv (pm_mxl P c.1)) none)
    (fun e h'' E v vc ok'' iv'' fr'' rv kf => kk vc h'' iv'' fr'' (sx_fin_ok hC _ (fun _ z => by cases z; exact o2) ok'' iv'' r2 rfl rv kf))
    (fun e h'' E m' pc' lv' lc' st' sc' q' hcf ok'' iv'' fr'' rl'' rs'' ka => by
      unfold sx_cf at hcf
      cases hb : Nat.beq m' c.1 with
      | false => rw [hb] at hcf; cases hcf
      | true =>
        rw [hb] at hcf
        have hm' := Nat.eq_of_beq_eq_true hb
        subst hm'
        obtain ⟨a1, a2, a3, a4, a5, a6⟩ := sx_arr_ok hC ok'' iv'' (sx_RL_mono e r2) rl'' rs'' ka
        subst a1
        exact cutOK _ pc' q' hcf h'' lc' iv'' fr'' a2 a3 a4 a5 rfl)
  exact key fuel true _ c.1 0 _ [] [] [] h _ [] [] (by rw [List.append_nil]; exact o2) iv (sx_fr_refl _ _ _ _ _) (by rw [List.append_nil]; exact r2) trivial trivial kA
end XQ
