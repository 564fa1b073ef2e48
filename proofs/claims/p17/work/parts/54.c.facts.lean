set_option maxRecDepth 20000 in
theorem hfl_1 (xs : List Int32) : ∀ e ∈ gFL_1, pm_fl (g_P xs) gTbl gCl gNst (g_cn 1) e.1 (e.2 / 64) (e.2 % 64) := by
  refine List.forall_mem_cons.mpr ⟨⟨RC0, TC0, 13, yC0, cls_0 xs, by decide, by decide, Or.inl (tb2 153 rfl rfl)⟩, ?_⟩
  refine List.forall_mem_cons.mpr ⟨⟨RC8, TC8, 4, yC8, cls_8 xs, by decide, by decide, Or.inr ⟨_, (nb2 53 rfl rfl)⟩⟩, ?_⟩
  refine List.forall_mem_cons.mpr ⟨⟨RC8, TC8, 4, yC8, cls_8 xs, by decide, by decide, Or.inr ⟨_, (nb2 55 rfl rfl)⟩⟩, ?_⟩
  refine List.forall_mem_cons.mpr ⟨⟨RC0, TC0, 13, yC0, cls_0 xs, by decide, by decide, Or.inl (tb2 157 rfl rfl)⟩, ?_⟩
  refine List.forall_mem_cons.mpr ⟨⟨RC0, TC0, 13, yC0, cls_0 xs, by decide, by decide, Or.inl (tb2 147 rfl rfl)⟩, ?_⟩
  refine List.forall_mem_cons.mpr ⟨⟨RC1, TC1, 2, yC1, cls_1 xs, by decide, by decide, Or.inr ⟨_, (nb1 43 rfl rfl)⟩⟩, ?_⟩
  refine List.forall_mem_cons.mpr ⟨⟨RC0, TC0, 13, yC0, cls_0 xs, by decide, by decide, Or.inl (tb2 149 rfl rfl)⟩, ?_⟩
  refine List.forall_mem_cons.mpr ⟨⟨RC0, TC0, 13, yC0, cls_0 xs, by decide, by decide, Or.inl (tb2 154 rfl rfl)⟩, ?_⟩
  refine List.forall_mem_cons.mpr ⟨⟨RC2, TC2, 6, yC2, cls_2 xs, by decide, by decide, Or.inr ⟨_, (nb1 88 rfl rfl)⟩⟩, ?_⟩
  refine List.forall_mem_cons.mpr ⟨⟨RC2, TC2, 6, yC2, cls_2 xs, by decide, by decide, Or.inr ⟨_, (nb1 90 rfl rfl)⟩⟩, ?_⟩
  refine List.forall_mem_cons.mpr ⟨⟨RC0, TC0, 13, yC0, cls_0 xs, by decide, by decide, Or.inl (tb2 150 rfl rfl)⟩, ?_⟩
  refine List.forall_mem_cons.mpr ⟨⟨RC0, TC0, 13, yC0, cls_0 xs, by decide, by decide, Or.inl (tb2 151 rfl rfl)⟩, ?_⟩
  refine List.forall_mem_cons.mpr ⟨⟨RC0, TC0, 13, yC0, cls_0 xs, by decide, by decide, Or.inl (tb2 155 rfl rfl)⟩, ?_⟩
  refine List.forall_mem_cons.mpr ⟨⟨RC8, TC8, 4, yC8, cls_8 xs, by decide, by decide, Or.inr ⟨_, (nb2 61 rfl rfl)⟩⟩, ?_⟩
  refine List.forall_mem_cons.mpr ⟨⟨RC0, TC0, 13, yC0, cls_0 xs, by decide, by decide, Or.inl (tb2 158 rfl rfl)⟩, ?_⟩
  refine List.forall_mem_cons.mpr ⟨⟨RC0, TC0, 13, yC0, cls_0 xs, by decide, by decide, Or.inl (tb2 159 rfl rfl)⟩, ?_⟩
  refine List.forall_mem_cons.mpr ⟨⟨RC5, TC5, 5, yC5, cls_5 xs, by decide, by decide, Or.inr ⟨_, (nb1 148 rfl rfl)⟩⟩, ?_⟩
  refine List.forall_mem_cons.mpr ⟨⟨RC6, TC6, 4, yC6, cls_6 xs, by decide, by decide, Or.inr ⟨_, (nb1 136 rfl rfl)⟩⟩, ?_⟩
  refine List.forall_mem_cons.mpr ⟨⟨RC5, TC5, 5, yC5, cls_5 xs, by decide, by decide, Or.inr ⟨_, (nb1 153 rfl rfl)⟩⟩, ?_⟩
  refine List.forall_mem_cons.mpr ⟨⟨RC5, TC5, 5, yC5, cls_5 xs, by decide, by decide, Or.inr ⟨_, (nb1 158 rfl rfl)⟩⟩, ?_⟩
  refine List.forall_mem_cons.mpr ⟨⟨RC5, TC5, 5, yC5, cls_5 xs, by decide, by decide, Or.inr ⟨_, (nb1 163 rfl rfl)⟩⟩, ?_⟩
  refine List.forall_mem_cons.mpr ⟨⟨RC5, TC5, 5, yC5, cls_5 xs, by decide, by decide, Or.inr ⟨_, (nb1 167 rfl rfl)⟩⟩, ?_⟩
  refine List.forall_mem_cons.mpr ⟨⟨RC4, TC4, 3, yC4, cls_4 xs, by decide, by decide, Or.inr ⟨_, (nb1 183 rfl rfl)⟩⟩, ?_⟩
  refine List.forall_mem_cons.mpr ⟨⟨RC9, TC9, 12, yC9, cls_9 xs, by decide, by decide, Or.inr ⟨_, (nb2 17 rfl rfl)⟩⟩, ?_⟩
  refine List.forall_mem_cons.mpr ⟨⟨RC9, TC9, 12, yC9, cls_9 xs, by decide, by decide, Or.inr ⟨_, (nb2 10 rfl rfl)⟩⟩, ?_⟩
  refine List.forall_mem_cons.mpr ⟨⟨RC9, TC9, 12, yC9, cls_9 xs, by decide, by decide, Or.inr ⟨_, (nb1 235 rfl rfl)⟩⟩, ?_⟩
  refine List.forall_mem_cons.mpr ⟨⟨RC9, TC9, 12, yC9, cls_9 xs, by decide, by decide, Or.inr ⟨_, (nb1 238 rfl rfl)⟩⟩, ?_⟩
  refine List.forall_mem_cons.mpr ⟨⟨RC9, TC9, 12, yC9, cls_9 xs, by decide, by decide, Or.inr ⟨_, (nb2 1 rfl rfl)⟩⟩, ?_⟩
  refine List.forall_mem_cons.mpr ⟨⟨RC0, TC0, 13, yC0, cls_0 xs, by decide, by decide, Or.inl (tb2 152 rfl rfl)⟩, ?_⟩
  refine List.forall_mem_cons.mpr ⟨⟨RC6, TC6, 4, yC6, cls_6 xs, by decide, by decide, Or.inr ⟨_, (nb1 126 rfl rfl)⟩⟩, ?_⟩
  refine List.forall_mem_cons.mpr ⟨⟨RC6, TC6, 4, yC6, cls_6 xs, by decide, by decide, Or.inr ⟨_, (nb1 129 rfl rfl)⟩⟩, ?_⟩
  refine List.forall_mem_cons.mpr ⟨⟨RC6, TC6, 4, yC6, cls_6 xs, by decide, by decide, Or.inr ⟨_, (nb1 132 rfl rfl)⟩⟩, ?_⟩
  refine List.forall_mem_cons.mpr ⟨⟨RC10, TC10, 19, yC10, cls_10 xs, by decide, by decide, Or.inr ⟨_, (nb2 102 rfl rfl)⟩⟩, ?_⟩
  refine List.forall_mem_cons.mpr ⟨⟨RC9, TC9, 12, yC9, cls_9 xs, by decide, by decide, Or.inr ⟨_, (nb2 20 rfl rfl)⟩⟩, ?_⟩
  refine List.forall_mem_cons.mpr ⟨⟨RC10, TC10, 19, yC10, cls_10 xs, by decide, by decide, Or.inr ⟨_, (nb2 86 rfl rfl)⟩⟩, ?_⟩
  refine List.forall_mem_cons.mpr ⟨⟨RC10, TC10, 19, yC10, cls_10 xs, by decide, by decide, Or.inr ⟨_, (nb2 94 rfl rfl)⟩⟩, ?_⟩
  refine List.forall_mem_cons.mpr ⟨⟨RC10, TC10, 19, yC10, cls_10 xs, by decide, by decide, Or.inr ⟨_, (nb2 92 rfl rfl)⟩⟩, ?_⟩
  refine List.forall_mem_cons.mpr ⟨⟨RC10, TC10, 19, yC10, cls_10 xs, by decide, by decide, Or.inr ⟨_, (nb2 90 rfl rfl)⟩⟩, ?_⟩
  refine List.forall_mem_cons.mpr ⟨⟨RC10, TC10, 19, yC10, cls_10 xs, by decide, by decide, Or.inr ⟨_, (nb2 83 rfl rfl)⟩⟩, ?_⟩
  refine List.forall_mem_cons.mpr ⟨⟨RC7, TC7, 5, yC7, cls_7 xs, by decide, by decide, Or.inr ⟨_, (nb1 204 rfl rfl)⟩⟩, ?_⟩
  refine List.forall_mem_cons.mpr ⟨⟨RC7, TC7, 5, yC7, cls_7 xs, by decide, by decide, Or.inr ⟨_, (nb1 202 rfl rfl)⟩⟩, ?_⟩
  refine List.forall_mem_cons.mpr ⟨⟨RC7, TC7, 5, yC7, cls_7 xs, by decide, by decide, Or.inr ⟨_, (nb1 198 rfl rfl)⟩⟩, ?_⟩
  refine List.forall_mem_cons.mpr ⟨⟨RC10, TC10, 19, yC10, cls_10 xs, by decide, by decide, Or.inr ⟨_, (nb2 80 rfl rfl)⟩⟩, ?_⟩
  refine List.forall_mem_cons.mpr ⟨⟨RC0, TC0, 13, yC0, cls_0 xs, by decide, by decide, Or.inl (tb2 156 rfl rfl)⟩, ?_⟩
  refine List.forall_mem_cons.mpr ⟨⟨RC10, TC10, 19, yC10, cls_10 xs, by decide, by decide, Or.inr ⟨_, (nb2 96 rfl rfl)⟩⟩, ?_⟩
  refine List.forall_mem_cons.mpr ⟨⟨RC10, TC10, 19, yC10, cls_10 xs, by decide, by decide, Or.inr ⟨_, (nb2 98 rfl rfl)⟩⟩, ?_⟩
  refine List.forall_mem_cons.mpr ⟨⟨RC0, TC0, 13, yC0, cls_0 xs, by decide, by decide, Or.inl (tb2 148 rfl rfl)⟩, ?_⟩
  refine List.forall_mem_cons.mpr ⟨⟨RC8, TC8, 4, yC8, cls_8 xs, by decide, by decide, Or.inr ⟨_, (nb2 59 rfl rfl)⟩⟩, ?_⟩
  refine List.forall_mem_cons.mpr ⟨⟨RC9, TC9, 12, yC9, cls_9 xs, by decide, by decide, Or.inr ⟨_, (nb2 6 rfl rfl)⟩⟩, ?_⟩
  refine List.forall_mem_cons.mpr ⟨⟨RC1, TC1, 2, yC1, cls_1 xs, by decide, by decide, Or.inr ⟨_, (nb1 40 rfl rfl)⟩⟩, ?_⟩
  exact fun e he => absurd he List.not_mem_nil
set_option maxRecDepth 20000 in
theorem hfl_2 (xs : List Int32) : ∀ e ∈ gFL_2, pm_fl (g_P xs) gTbl gCl gNst (g_cn 2) e.1 (e.2 / 64) (e.2 % 64) := by
  refine List.forall_mem_cons.mpr ⟨⟨RC1, TC1, 2, yC1, cls_1 xs, by decide, by decide, Or.inl (tb1 41 rfl rfl)⟩, ?_⟩
  refine List.forall_mem_cons.mpr ⟨⟨RC1, TC1, 2, yC1, cls_1 xs, by decide, by decide, Or.inl (tb1 37 rfl rfl)⟩, ?_⟩
  exact fun e he => absurd he List.not_mem_nil
set_option maxRecDepth 20000 in
theorem hfl_4 (xs : List Int32) : ∀ e ∈ gFL_4, pm_fl (g_P xs) gTbl gCl gNst (g_cn 4) e.1 (e.2 / 64) (e.2 % 64) := by
  refine List.forall_mem_cons.mpr ⟨⟨RC2, TC2, 6, yC2, cls_2 xs, by decide, by decide, Or.inl (tb1 83 rfl rfl)⟩, ?_⟩
  refine List.forall_mem_cons.mpr ⟨⟨RC3, TC3, 5, yC3, cls_3 xs, by decide, by decide, Or.inr ⟨_, (nb1 71 rfl rfl)⟩⟩, ?_⟩
  refine List.forall_mem_cons.mpr ⟨⟨RC3, TC3, 5, yC3, cls_3 xs, by decide, by decide, Or.inr ⟨_, (nb1 63 rfl rfl)⟩⟩, ?_⟩
  refine List.forall_mem_cons.mpr ⟨⟨RC2, TC2, 6, yC2, cls_2 xs, by decide, by decide, Or.inl (tb1 86 rfl rfl)⟩, ?_⟩
  refine List.forall_mem_cons.mpr ⟨⟨RC3, TC3, 5, yC3, cls_3 xs, by decide, by decide, Or.inr ⟨_, (nb1 69 rfl rfl)⟩⟩, ?_⟩
  refine List.forall_mem_cons.mpr ⟨⟨RC8, TC8, 4, yC8, cls_8 xs, by decide, by decide, Or.inr ⟨_, (nb2 58 rfl rfl)⟩⟩, ?_⟩
  refine List.forall_mem_cons.mpr ⟨⟨RC8, TC8, 4, yC8, cls_8 xs, by decide, by decide, Or.inr ⟨_, (nb2 56 rfl rfl)⟩⟩, ?_⟩
  refine List.forall_mem_cons.mpr ⟨⟨RC3, TC3, 5, yC3, cls_3 xs, by decide, by decide, Or.inr ⟨_, (nb1 65 rfl rfl)⟩⟩, ?_⟩
  refine List.forall_mem_cons.mpr ⟨⟨RC2, TC2, 6, yC2, cls_2 xs, by decide, by decide, Or.inl (tb1 84 rfl rfl)⟩, ?_⟩
  refine List.forall_mem_cons.mpr ⟨⟨RC9, TC9, 12, yC9, cls_9 xs, by decide, by decide, Or.inr ⟨_, (nb2 9 rfl rfl)⟩⟩, ?_⟩
  refine List.forall_mem_cons.mpr ⟨⟨RC2, TC2, 6, yC2, cls_2 xs, by decide, by decide, Or.inl (tb1 85 rfl rfl)⟩, ?_⟩
  refine List.forall_mem_cons.mpr ⟨⟨RC9, TC9, 12, yC9, cls_9 xs, by decide, by decide, Or.inr ⟨_, (nb1 236 rfl rfl)⟩⟩, ?_⟩
  refine List.forall_mem_cons.mpr ⟨⟨RC1, TC1, 2, yC1, cls_1 xs, by decide, by decide, Or.inr ⟨_, (nb1 39 rfl rfl)⟩⟩, ?_⟩
  refine List.forall_mem_cons.mpr ⟨⟨RC9, TC9, 12, yC9, cls_9 xs, by decide, by decide, Or.inr ⟨_, (nb2 13 rfl rfl)⟩⟩, ?_⟩
  refine List.forall_mem_cons.mpr ⟨⟨RC8, TC8, 4, yC8, cls_8 xs, by decide, by decide, Or.inr ⟨_, (nb2 62 rfl rfl)⟩⟩, ?_⟩
  refine List.forall_mem_cons.mpr ⟨⟨RC3, TC3, 5, yC3, cls_3 xs, by decide, by decide, Or.inr ⟨_, (nb1 67 rfl rfl)⟩⟩, ?_⟩
  refine List.forall_mem_cons.mpr ⟨⟨RC5, TC5, 5, yC5, cls_5 xs, by decide, by decide, Or.inr ⟨_, (nb1 150 rfl rfl)⟩⟩, ?_⟩
  refine List.forall_mem_cons.mpr ⟨⟨RC5, TC5, 5, yC5, cls_5 xs, by decide, by decide, Or.inr ⟨_, (nb1 155 rfl rfl)⟩⟩, ?_⟩
  refine List.forall_mem_cons.mpr ⟨⟨RC5, TC5, 5, yC5, cls_5 xs, by decide, by decide, Or.inr ⟨_, (nb1 160 rfl rfl)⟩⟩, ?_⟩
  exact fun e he => absurd he List.not_mem_nil
set_option maxRecDepth 20000 in
theorem hfl_5 (xs : List Int32) : ∀ e ∈ gFL_5, pm_fl (g_P xs) gTbl gCl gNst (g_cn 5) e.1 (e.2 / 64) (e.2 % 64) := by
  refine List.forall_mem_cons.mpr ⟨⟨RC1, TC1, 2, yC1, cls_1 xs, by decide, by decide, Or.inr ⟨_, (nb1 42 rfl rfl)⟩⟩, ?_⟩
  refine List.forall_mem_cons.mpr ⟨⟨RC1, TC1, 2, yC1, cls_1 xs, by decide, by decide, Or.inr ⟨_, (nb1 38 rfl rfl)⟩⟩, ?_⟩
  refine List.forall_mem_cons.mpr ⟨⟨RC3, TC3, 5, yC3, cls_3 xs, by decide, by decide, Or.inl (tb1 70 rfl rfl)⟩, ?_⟩
  refine List.forall_mem_cons.mpr ⟨⟨RC3, TC3, 5, yC3, cls_3 xs, by decide, by decide, Or.inl (tb1 62 rfl rfl)⟩, ?_⟩
  refine List.forall_mem_cons.mpr ⟨⟨RC3, TC3, 5, yC3, cls_3 xs, by decide, by decide, Or.inl (tb1 64 rfl rfl)⟩, ?_⟩
  refine List.forall_mem_cons.mpr ⟨⟨RC3, TC3, 5, yC3, cls_3 xs, by decide, by decide, Or.inl (tb1 66 rfl rfl)⟩, ?_⟩
  refine List.forall_mem_cons.mpr ⟨⟨RC3, TC3, 5, yC3, cls_3 xs, by decide, by decide, Or.inl (tb1 68 rfl rfl)⟩, ?_⟩
  exact fun e he => absurd he List.not_mem_nil
set_option maxRecDepth 20000 in
theorem hfl_6 (xs : List Int32) : ∀ e ∈ gFL_6, pm_fl (g_P xs) gTbl gCl gNst (g_cn 6) e.1 (e.2 / 64) (e.2 % 64) := by
  refine List.forall_mem_cons.mpr ⟨⟨RC4, TC4, 3, yC4, cls_4 xs, by decide, by decide, Or.inl (tb1 180 rfl rfl)⟩, ?_⟩
  refine List.forall_mem_cons.mpr ⟨⟨RC4, TC4, 3, yC4, cls_4 xs, by decide, by decide, Or.inl (tb1 182 rfl rfl)⟩, ?_⟩
  refine List.forall_mem_cons.mpr ⟨⟨RC4, TC4, 3, yC4, cls_4 xs, by decide, by decide, Or.inl (tb1 181 rfl rfl)⟩, ?_⟩
  exact fun e he => absurd he List.not_mem_nil
set_option maxRecDepth 20000 in
theorem hfl_7 (xs : List Int32) : ∀ e ∈ gFL_7, pm_fl (g_P xs) gTbl gCl gNst (g_cn 7) e.1 (e.2 / 64) (e.2 % 64) := by
  refine List.forall_mem_cons.mpr ⟨⟨RC5, TC5, 5, yC5, cls_5 xs, by decide, by decide, Or.inl (tb1 146 rfl rfl)⟩, ?_⟩
  refine List.forall_mem_cons.mpr ⟨⟨RC5, TC5, 5, yC5, cls_5 xs, by decide, by decide, Or.inl (tb1 151 rfl rfl)⟩, ?_⟩
  refine List.forall_mem_cons.mpr ⟨⟨RC5, TC5, 5, yC5, cls_5 xs, by decide, by decide, Or.inl (tb1 156 rfl rfl)⟩, ?_⟩
  refine List.forall_mem_cons.mpr ⟨⟨RC5, TC5, 5, yC5, cls_5 xs, by decide, by decide, Or.inl (tb1 161 rfl rfl)⟩, ?_⟩
  refine List.forall_mem_cons.mpr ⟨⟨RC5, TC5, 5, yC5, cls_5 xs, by decide, by decide, Or.inl (tb1 165 rfl rfl)⟩, ?_⟩
  exact fun e he => absurd he List.not_mem_nil
set_option maxRecDepth 20000 in
theorem hfl_8 (xs : List Int32) : ∀ e ∈ gFL_8, pm_fl (g_P xs) gTbl gCl gNst (g_cn 8) e.1 (e.2 / 64) (e.2 % 64) := by
  refine List.forall_mem_cons.mpr ⟨⟨RC6, TC6, 4, yC6, cls_6 xs, by decide, by decide, Or.inl (tb1 133 rfl rfl)⟩, ?_⟩
  refine List.forall_mem_cons.mpr ⟨⟨RC6, TC6, 4, yC6, cls_6 xs, by decide, by decide, Or.inl (tb1 124 rfl rfl)⟩, ?_⟩
  refine List.forall_mem_cons.mpr ⟨⟨RC6, TC6, 4, yC6, cls_6 xs, by decide, by decide, Or.inl (tb1 127 rfl rfl)⟩, ?_⟩
  refine List.forall_mem_cons.mpr ⟨⟨RC6, TC6, 4, yC6, cls_6 xs, by decide, by decide, Or.inl (tb1 130 rfl rfl)⟩, ?_⟩
  exact fun e he => absurd he List.not_mem_nil
set_option maxRecDepth 20000 in
theorem hfl_9 (xs : List Int32) : ∀ e ∈ gFL_9, pm_fl (g_P xs) gTbl gCl gNst (g_cn 9) e.1 (e.2 / 64) (e.2 % 64) := by
  refine List.forall_mem_cons.mpr ⟨⟨RC10, TC10, 19, yC10, cls_10 xs, by decide, by decide, Or.inr ⟨_, (nb2 101 rfl rfl)⟩⟩, ?_⟩
  refine List.forall_mem_cons.mpr ⟨⟨RC9, TC9, 12, yC9, cls_9 xs, by decide, by decide, Or.inr ⟨_, (nb2 8 rfl rfl)⟩⟩, ?_⟩
  refine List.forall_mem_cons.mpr ⟨⟨RC9, TC9, 12, yC9, cls_9 xs, by decide, by decide, Or.inr ⟨_, (nb2 12 rfl rfl)⟩⟩, ?_⟩
  refine List.forall_mem_cons.mpr ⟨⟨RC10, TC10, 19, yC10, cls_10 xs, by decide, by decide, Or.inr ⟨_, (nb2 82 rfl rfl)⟩⟩, ?_⟩
  refine List.forall_mem_cons.mpr ⟨⟨RC7, TC7, 5, yC7, cls_7 xs, by decide, by decide, Or.inl (tb1 197 rfl rfl)⟩, ?_⟩
  refine List.forall_mem_cons.mpr ⟨⟨RC9, TC9, 12, yC9, cls_9 xs, by decide, by decide, Or.inr ⟨_, (nb2 16 rfl rfl)⟩⟩, ?_⟩
  refine List.forall_mem_cons.mpr ⟨⟨RC7, TC7, 5, yC7, cls_7 xs, by decide, by decide, Or.inl (tb1 199 rfl rfl)⟩, ?_⟩
  refine List.forall_mem_cons.mpr ⟨⟨RC7, TC7, 5, yC7, cls_7 xs, by decide, by decide, Or.inl (tb1 200 rfl rfl)⟩, ?_⟩
  refine List.forall_mem_cons.mpr ⟨⟨RC7, TC7, 5, yC7, cls_7 xs, by decide, by decide, Or.inl (tb1 203 rfl rfl)⟩, ?_⟩
  exact fun e he => absurd he List.not_mem_nil
set_option maxRecDepth 20000 in
theorem hfl_10 (xs : List Int32) : ∀ e ∈ gFL_10, pm_fl (g_P xs) gTbl gCl gNst (g_cn 10) e.1 (e.2 / 64) (e.2 % 64) := by
  refine List.forall_mem_cons.mpr ⟨⟨RC8, TC8, 4, yC8, cls_8 xs, by decide, by decide, Or.inl (tb2 52 rfl rfl)⟩, ?_⟩
  refine List.forall_mem_cons.mpr ⟨⟨RC8, TC8, 4, yC8, cls_8 xs, by decide, by decide, Or.inl (tb2 54 rfl rfl)⟩, ?_⟩
  refine List.forall_mem_cons.mpr ⟨⟨RC8, TC8, 4, yC8, cls_8 xs, by decide, by decide, Or.inl (tb2 57 rfl rfl)⟩, ?_⟩
  refine List.forall_mem_cons.mpr ⟨⟨RC8, TC8, 4, yC8, cls_8 xs, by decide, by decide, Or.inl (tb2 60 rfl rfl)⟩, ?_⟩
  refine List.forall_mem_cons.mpr ⟨⟨RC5, TC5, 5, yC5, cls_5 xs, by decide, by decide, Or.inr ⟨_, (nb1 149 rfl rfl)⟩⟩, ?_⟩
  refine List.forall_mem_cons.mpr ⟨⟨RC5, TC5, 5, yC5, cls_5 xs, by decide, by decide, Or.inr ⟨_, (nb1 154 rfl rfl)⟩⟩, ?_⟩
  refine List.forall_mem_cons.mpr ⟨⟨RC5, TC5, 5, yC5, cls_5 xs, by decide, by decide, Or.inr ⟨_, (nb1 159 rfl rfl)⟩⟩, ?_⟩
  refine List.forall_mem_cons.mpr ⟨⟨RC9, TC9, 12, yC9, cls_9 xs, by decide, by decide, Or.inr ⟨_, (nb2 4 rfl rfl)⟩⟩, ?_⟩
  refine List.forall_mem_cons.mpr ⟨⟨RC5, TC5, 5, yC5, cls_5 xs, by decide, by decide, Or.inr ⟨_, (nb1 166 rfl rfl)⟩⟩, ?_⟩
  exact fun e he => absurd he List.not_mem_nil
set_option maxRecDepth 20000 in
theorem hfl_11 (xs : List Int32) : ∀ e ∈ gFL_11, pm_fl (g_P xs) gTbl gCl gNst (g_cn 11) e.1 (e.2 / 64) (e.2 % 64) := by
  refine List.forall_mem_cons.mpr ⟨⟨RC9, TC9, 12, yC9, cls_9 xs, by decide, by decide, Or.inl (tb1 233 rfl rfl)⟩, ?_⟩
  refine List.forall_mem_cons.mpr ⟨⟨RC9, TC9, 12, yC9, cls_9 xs, by decide, by decide, Or.inl (tb2 14 rfl rfl)⟩, ?_⟩
  refine List.forall_mem_cons.mpr ⟨⟨RC9, TC9, 12, yC9, cls_9 xs, by decide, by decide, Or.inl (tb2 7 rfl rfl)⟩, ?_⟩
  refine List.forall_mem_cons.mpr ⟨⟨RC9, TC9, 12, yC9, cls_9 xs, by decide, by decide, Or.inl (tb2 11 rfl rfl)⟩, ?_⟩
  refine List.forall_mem_cons.mpr ⟨⟨RC9, TC9, 12, yC9, cls_9 xs, by decide, by decide, Or.inl (tb1 237 rfl rfl)⟩, ?_⟩
  refine List.forall_mem_cons.mpr ⟨⟨RC9, TC9, 12, yC9, cls_9 xs, by decide, by decide, Or.inl (tb2 18 rfl rfl)⟩, ?_⟩
  refine List.forall_mem_cons.mpr ⟨⟨RC9, TC9, 12, yC9, cls_9 xs, by decide, by decide, Or.inl (tb2 21 rfl rfl)⟩, ?_⟩
  refine List.forall_mem_cons.mpr ⟨⟨RC9, TC9, 12, yC9, cls_9 xs, by decide, by decide, Or.inl (tb2 0 rfl rfl)⟩, ?_⟩
  refine List.forall_mem_cons.mpr ⟨⟨RC9, TC9, 12, yC9, cls_9 xs, by decide, by decide, Or.inl (tb2 24 rfl rfl)⟩, ?_⟩
  refine List.forall_mem_cons.mpr ⟨⟨RC9, TC9, 12, yC9, cls_9 xs, by decide, by decide, Or.inl (tb2 26 rfl rfl)⟩, ?_⟩
  refine List.forall_mem_cons.mpr ⟨⟨RC9, TC9, 12, yC9, cls_9 xs, by decide, by decide, Or.inl (tb2 23 rfl rfl)⟩, ?_⟩
  exact fun e he => absurd he List.not_mem_nil
set_option maxRecDepth 20000 in
theorem hfl_12 (xs : List Int32) : ∀ e ∈ gFL_12, pm_fl (g_P xs) gTbl gCl gNst (g_cn 12) e.1 (e.2 / 64) (e.2 % 64) := by
  refine List.forall_mem_cons.mpr ⟨⟨RC10, TC10, 19, yC10, cls_10 xs, by decide, by decide, Or.inl (tb2 104 rfl rfl)⟩, ?_⟩
  refine List.forall_mem_cons.mpr ⟨⟨RC10, TC10, 19, yC10, cls_10 xs, by decide, by decide, Or.inl (tb2 84 rfl rfl)⟩, ?_⟩
  refine List.forall_mem_cons.mpr ⟨⟨RC10, TC10, 19, yC10, cls_10 xs, by decide, by decide, Or.inl (tb2 100 rfl rfl)⟩, ?_⟩
  refine List.forall_mem_cons.mpr ⟨⟨RC9, TC9, 12, yC9, cls_9 xs, by decide, by decide, Or.inr ⟨_, (nb2 15 rfl rfl)⟩⟩, ?_⟩
  refine List.forall_mem_cons.mpr ⟨⟨RC10, TC10, 19, yC10, cls_10 xs, by decide, by decide, Or.inl (tb2 103 rfl rfl)⟩, ?_⟩
  refine List.forall_mem_cons.mpr ⟨⟨RC5, TC5, 5, yC5, cls_5 xs, by decide, by decide, Or.inr ⟨_, (nb1 147 rfl rfl)⟩⟩, ?_⟩
  refine List.forall_mem_cons.mpr ⟨⟨RC10, TC10, 19, yC10, cls_10 xs, by decide, by decide, Or.inl (tb2 79 rfl rfl)⟩, ?_⟩
  refine List.forall_mem_cons.mpr ⟨⟨RC10, TC10, 19, yC10, cls_10 xs, by decide, by decide, Or.inl (tb2 81 rfl rfl)⟩, ?_⟩
  refine List.forall_mem_cons.mpr ⟨⟨RC10, TC10, 19, yC10, cls_10 xs, by decide, by decide, Or.inl (tb2 78 rfl rfl)⟩, ?_⟩
  refine List.forall_mem_cons.mpr ⟨⟨RC5, TC5, 5, yC5, cls_5 xs, by decide, by decide, Or.inr ⟨_, (nb1 152 rfl rfl)⟩⟩, ?_⟩
  refine List.forall_mem_cons.mpr ⟨⟨RC6, TC6, 4, yC6, cls_6 xs, by decide, by decide, Or.inr ⟨_, (nb1 135 rfl rfl)⟩⟩, ?_⟩
  refine List.forall_mem_cons.mpr ⟨⟨RC6, TC6, 4, yC6, cls_6 xs, by decide, by decide, Or.inr ⟨_, (nb1 125 rfl rfl)⟩⟩, ?_⟩
  refine List.forall_mem_cons.mpr ⟨⟨RC6, TC6, 4, yC6, cls_6 xs, by decide, by decide, Or.inr ⟨_, (nb1 128 rfl rfl)⟩⟩, ?_⟩
  refine List.forall_mem_cons.mpr ⟨⟨RC6, TC6, 4, yC6, cls_6 xs, by decide, by decide, Or.inr ⟨_, (nb1 131 rfl rfl)⟩⟩, ?_⟩
  refine List.forall_mem_cons.mpr ⟨⟨RC5, TC5, 5, yC5, cls_5 xs, by decide, by decide, Or.inr ⟨_, (nb1 162 rfl rfl)⟩⟩, ?_⟩
  refine List.forall_mem_cons.mpr ⟨⟨RC9, TC9, 12, yC9, cls_9 xs, by decide, by decide, Or.inr ⟨_, (nb1 234 rfl rfl)⟩⟩, ?_⟩
  refine List.forall_mem_cons.mpr ⟨⟨RC5, TC5, 5, yC5, cls_5 xs, by decide, by decide, Or.inr ⟨_, (nb1 157 rfl rfl)⟩⟩, ?_⟩
  refine List.forall_mem_cons.mpr ⟨⟨RC10, TC10, 19, yC10, cls_10 xs, by decide, by decide, Or.inl (tb2 85 rfl rfl)⟩, ?_⟩
  refine List.forall_mem_cons.mpr ⟨⟨RC10, TC10, 19, yC10, cls_10 xs, by decide, by decide, Or.inl (tb2 87 rfl rfl)⟩, ?_⟩
  refine List.forall_mem_cons.mpr ⟨⟨RC10, TC10, 19, yC10, cls_10 xs, by decide, by decide, Or.inl (tb2 105 rfl rfl)⟩, ?_⟩
  refine List.forall_mem_cons.mpr ⟨⟨RC10, TC10, 19, yC10, cls_10 xs, by decide, by decide, Or.inl (tb2 88 rfl rfl)⟩, ?_⟩
  refine List.forall_mem_cons.mpr ⟨⟨RC10, TC10, 19, yC10, cls_10 xs, by decide, by decide, Or.inl (tb2 99 rfl rfl)⟩, ?_⟩
  refine List.forall_mem_cons.mpr ⟨⟨RC9, TC9, 12, yC9, cls_9 xs, by decide, by decide, Or.inr ⟨_, (nb2 25 rfl rfl)⟩⟩, ?_⟩
  refine List.forall_mem_cons.mpr ⟨⟨RC9, TC9, 12, yC9, cls_9 xs, by decide, by decide, Or.inr ⟨_, (nb2 22 rfl rfl)⟩⟩, ?_⟩
  refine List.forall_mem_cons.mpr ⟨⟨RC9, TC9, 12, yC9, cls_9 xs, by decide, by decide, Or.inr ⟨_, (nb2 19 rfl rfl)⟩⟩, ?_⟩
  refine List.forall_mem_cons.mpr ⟨⟨RC9, TC9, 12, yC9, cls_9 xs, by decide, by decide, Or.inr ⟨_, (nb2 2 rfl rfl)⟩⟩, ?_⟩
  refine List.forall_mem_cons.mpr ⟨⟨RC10, TC10, 19, yC10, cls_10 xs, by decide, by decide, Or.inl (tb2 106 rfl rfl)⟩, ?_⟩
  refine List.forall_mem_cons.mpr ⟨⟨RC10, TC10, 19, yC10, cls_10 xs, by decide, by decide, Or.inl (tb2 89 rfl rfl)⟩, ?_⟩
  refine List.forall_mem_cons.mpr ⟨⟨RC10, TC10, 19, yC10, cls_10 xs, by decide, by decide, Or.inl (tb2 91 rfl rfl)⟩, ?_⟩
  refine List.forall_mem_cons.mpr ⟨⟨RC9, TC9, 12, yC9, cls_9 xs, by decide, by decide, Or.inr ⟨_, (nb1 239 rfl rfl)⟩⟩, ?_⟩
  refine List.forall_mem_cons.mpr ⟨⟨RC10, TC10, 19, yC10, cls_10 xs, by decide, by decide, Or.inl (tb2 93 rfl rfl)⟩, ?_⟩
  refine List.forall_mem_cons.mpr ⟨⟨RC10, TC10, 19, yC10, cls_10 xs, by decide, by decide, Or.inl (tb2 107 rfl rfl)⟩, ?_⟩
  refine List.forall_mem_cons.mpr ⟨⟨RC10, TC10, 19, yC10, cls_10 xs, by decide, by decide, Or.inl (tb2 95 rfl rfl)⟩, ?_⟩
  refine List.forall_mem_cons.mpr ⟨⟨RC10, TC10, 19, yC10, cls_10 xs, by decide, by decide, Or.inl (tb2 97 rfl rfl)⟩, ?_⟩
  exact fun e he => absurd he List.not_mem_nil
set_option maxRecDepth 20000 in
theorem hfl_14 (xs : List Int32) : ∀ e ∈ gFL_14, pm_fl (g_P xs) gTbl gCl gNst (g_cn 14) e.1 (e.2 / 64) (e.2 % 64) := by
  refine List.forall_mem_cons.mpr ⟨⟨RC11, TC11, 58, yC11, cls_11 xs, by decide, by decide, Or.inl (tb6 47 rfl rfl)⟩, ?_⟩
  refine List.forall_mem_cons.mpr ⟨⟨RC11, TC11, 58, yC11, cls_11 xs, by decide, by decide, Or.inl (tb6 61 rfl rfl)⟩, ?_⟩
  refine List.forall_mem_cons.mpr ⟨⟨RC11, TC11, 58, yC11, cls_11 xs, by decide, by decide, Or.inl (tb6 63 rfl rfl)⟩, ?_⟩
  refine List.forall_mem_cons.mpr ⟨⟨RC11, TC11, 58, yC11, cls_11 xs, by decide, by decide, Or.inl (tb6 66 rfl rfl)⟩, ?_⟩
  refine List.forall_mem_cons.mpr ⟨⟨RC11, TC11, 58, yC11, cls_11 xs, by decide, by decide, Or.inl (tb6 69 rfl rfl)⟩, ?_⟩
  refine List.forall_mem_cons.mpr ⟨⟨RC11, TC11, 58, yC11, cls_11 xs, by decide, by decide, Or.inl (tb6 67 rfl rfl)⟩, ?_⟩
  refine List.forall_mem_cons.mpr ⟨⟨RC11, TC11, 58, yC11, cls_11 xs, by decide, by decide, Or.inl (tb6 68 rfl rfl)⟩, ?_⟩
  refine List.forall_mem_cons.mpr ⟨⟨RC11, TC11, 58, yC11, cls_11 xs, by decide, by decide, Or.inl (tb6 51 rfl rfl)⟩, ?_⟩
  refine List.forall_mem_cons.mpr ⟨⟨RC11, TC11, 58, yC11, cls_11 xs, by decide, by decide, Or.inl (tb6 70 rfl rfl)⟩, ?_⟩
  refine List.forall_mem_cons.mpr ⟨⟨RC11, TC11, 58, yC11, cls_11 xs, by decide, by decide, Or.inl (tb6 53 rfl rfl)⟩, ?_⟩
  refine List.forall_mem_cons.mpr ⟨⟨RC11, TC11, 58, yC11, cls_11 xs, by decide, by decide, Or.inl (tb6 55 rfl rfl)⟩, ?_⟩
  refine List.forall_mem_cons.mpr ⟨⟨RC11, TC11, 58, yC11, cls_11 xs, by decide, by decide, Or.inl (tb6 65 rfl rfl)⟩, ?_⟩
  refine List.forall_mem_cons.mpr ⟨⟨RC11, TC11, 58, yC11, cls_11 xs, by decide, by decide, Or.inl (tb6 76 rfl rfl)⟩, ?_⟩
  refine List.forall_mem_cons.mpr ⟨⟨RC11, TC11, 58, yC11, cls_11 xs, by decide, by decide, Or.inl (tb6 75 rfl rfl)⟩, ?_⟩
  refine List.forall_mem_cons.mpr ⟨⟨RC11, TC11, 58, yC11, cls_11 xs, by decide, by decide, Or.inl (tb6 74 rfl rfl)⟩, ?_⟩
  refine List.forall_mem_cons.mpr ⟨⟨RC11, TC11, 58, yC11, cls_11 xs, by decide, by decide, Or.inl (tb6 71 rfl rfl)⟩, ?_⟩
  refine List.forall_mem_cons.mpr ⟨⟨RC11, TC11, 58, yC11, cls_11 xs, by decide, by decide, Or.inl (tb6 72 rfl rfl)⟩, ?_⟩
  refine List.forall_mem_cons.mpr ⟨⟨RC11, TC11, 58, yC11, cls_11 xs, by decide, by decide, Or.inl (tb6 73 rfl rfl)⟩, ?_⟩
  refine List.forall_mem_cons.mpr ⟨⟨RC11, TC11, 58, yC11, cls_11 xs, by decide, by decide, Or.inl (tb6 77 rfl rfl)⟩, ?_⟩
  refine List.forall_mem_cons.mpr ⟨⟨RC11, TC11, 58, yC11, cls_11 xs, by decide, by decide, Or.inl (tb6 79 rfl rfl)⟩, ?_⟩
  refine List.forall_mem_cons.mpr ⟨⟨RC11, TC11, 58, yC11, cls_11 xs, by decide, by decide, Or.inl (tb6 80 rfl rfl)⟩, ?_⟩
  refine List.forall_mem_cons.mpr ⟨⟨RC11, TC11, 58, yC11, cls_11 xs, by decide, by decide, Or.inl (tb6 81 rfl rfl)⟩, ?_⟩
  refine List.forall_mem_cons.mpr ⟨⟨RC11, TC11, 58, yC11, cls_11 xs, by decide, by decide, Or.inl (tb6 83 rfl rfl)⟩, ?_⟩
  refine List.forall_mem_cons.mpr ⟨⟨RC11, TC11, 58, yC11, cls_11 xs, by decide, by decide, Or.inl (tb6 82 rfl rfl)⟩, ?_⟩
  refine List.forall_mem_cons.mpr ⟨⟨RC11, TC11, 58, yC11, cls_11 xs, by decide, by decide, Or.inl (tb6 84 rfl rfl)⟩, ?_⟩
  refine List.forall_mem_cons.mpr ⟨⟨RC11, TC11, 58, yC11, cls_11 xs, by decide, by decide, Or.inl (tb6 85 rfl rfl)⟩, ?_⟩
  refine List.forall_mem_cons.mpr ⟨⟨RC11, TC11, 58, yC11, cls_11 xs, by decide, by decide, Or.inl (tb6 88 rfl rfl)⟩, ?_⟩
  refine List.forall_mem_cons.mpr ⟨⟨RC11, TC11, 58, yC11, cls_11 xs, by decide, by decide, Or.inl (tb6 86 rfl rfl)⟩, ?_⟩
  refine List.forall_mem_cons.mpr ⟨⟨RC11, TC11, 58, yC11, cls_11 xs, by decide, by decide, Or.inl (tb6 87 rfl rfl)⟩, ?_⟩
  refine List.forall_mem_cons.mpr ⟨⟨RC11, TC11, 58, yC11, cls_11 xs, by decide, by decide, Or.inl (tb6 90 rfl rfl)⟩, ?_⟩
  refine List.forall_mem_cons.mpr ⟨⟨RC11, TC11, 58, yC11, cls_11 xs, by decide, by decide, Or.inl (tb6 89 rfl rfl)⟩, ?_⟩
  refine List.forall_mem_cons.mpr ⟨⟨RC11, TC11, 58, yC11, cls_11 xs, by decide, by decide, Or.inl (tb6 64 rfl rfl)⟩, ?_⟩
  refine List.forall_mem_cons.mpr ⟨⟨RC11, TC11, 58, yC11, cls_11 xs, by decide, by decide, Or.inl (tb6 97 rfl rfl)⟩, ?_⟩
  refine List.forall_mem_cons.mpr ⟨⟨RC11, TC11, 58, yC11, cls_11 xs, by decide, by decide, Or.inl (tb6 93 rfl rfl)⟩, ?_⟩
  refine List.forall_mem_cons.mpr ⟨⟨RC11, TC11, 58, yC11, cls_11 xs, by decide, by decide, Or.inl (tb6 94 rfl rfl)⟩, ?_⟩
  refine List.forall_mem_cons.mpr ⟨⟨RC11, TC11, 58, yC11, cls_11 xs, by decide, by decide, Or.inl (tb6 62 rfl rfl)⟩, ?_⟩
  refine List.forall_mem_cons.mpr ⟨⟨RC11, TC11, 58, yC11, cls_11 xs, by decide, by decide, Or.inl (tb6 52 rfl rfl)⟩, ?_⟩
  refine List.forall_mem_cons.mpr ⟨⟨RC11, TC11, 58, yC11, cls_11 xs, by decide, by decide, Or.inl (tb6 54 rfl rfl)⟩, ?_⟩
  refine List.forall_mem_cons.mpr ⟨⟨RC11, TC11, 58, yC11, cls_11 xs, by decide, by decide, Or.inl (tb6 56 rfl rfl)⟩, ?_⟩
  refine List.forall_mem_cons.mpr ⟨⟨RC11, TC11, 58, yC11, cls_11 xs, by decide, by decide, Or.inl (tb6 49 rfl rfl)⟩, ?_⟩
  refine List.forall_mem_cons.mpr ⟨⟨RC11, TC11, 58, yC11, cls_11 xs, by decide, by decide, Or.inl (tb6 50 rfl rfl)⟩, ?_⟩
  refine List.forall_mem_cons.mpr ⟨⟨RC11, TC11, 58, yC11, cls_11 xs, by decide, by decide, Or.inl (tb6 57 rfl rfl)⟩, ?_⟩
  refine List.forall_mem_cons.mpr ⟨⟨RC11, TC11, 58, yC11, cls_11 xs, by decide, by decide, Or.inl (tb6 58 rfl rfl)⟩, ?_⟩
  refine List.forall_mem_cons.mpr ⟨⟨RC11, TC11, 58, yC11, cls_11 xs, by decide, by decide, Or.inl (tb6 59 rfl rfl)⟩, ?_⟩
  refine List.forall_mem_cons.mpr ⟨⟨RC11, TC11, 58, yC11, cls_11 xs, by decide, by decide, Or.inl (tb6 60 rfl rfl)⟩, ?_⟩
  refine List.forall_mem_cons.mpr ⟨⟨RC11, TC11, 58, yC11, cls_11 xs, by decide, by decide, Or.inl (tb6 96 rfl rfl)⟩, ?_⟩
  refine List.forall_mem_cons.mpr ⟨⟨RC11, TC11, 58, yC11, cls_11 xs, by decide, by decide, Or.inl (tb6 95 rfl rfl)⟩, ?_⟩
  refine List.forall_mem_cons.mpr ⟨⟨RC11, TC11, 58, yC11, cls_11 xs, by decide, by decide, Or.inl (tb6 99 rfl rfl)⟩, ?_⟩
  refine List.forall_mem_cons.mpr ⟨⟨RC11, TC11, 58, yC11, cls_11 xs, by decide, by decide, Or.inl (tb6 101 rfl rfl)⟩, ?_⟩
  refine List.forall_mem_cons.mpr ⟨⟨RC11, TC11, 58, yC11, cls_11 xs, by decide, by decide, Or.inl (tb6 98 rfl rfl)⟩, ?_⟩
  refine List.forall_mem_cons.mpr ⟨⟨RC11, TC11, 58, yC11, cls_11 xs, by decide, by decide, Or.inl (tb6 100 rfl rfl)⟩, ?_⟩
  refine List.forall_mem_cons.mpr ⟨⟨RC11, TC11, 58, yC11, cls_11 xs, by decide, by decide, Or.inl (tb6 102 rfl rfl)⟩, ?_⟩
  refine List.forall_mem_cons.mpr ⟨⟨RC11, TC11, 58, yC11, cls_11 xs, by decide, by decide, Or.inl (tb6 91 rfl rfl)⟩, ?_⟩
  refine List.forall_mem_cons.mpr ⟨⟨RC11, TC11, 58, yC11, cls_11 xs, by decide, by decide, Or.inl (tb6 92 rfl rfl)⟩, ?_⟩
  refine List.forall_mem_cons.mpr ⟨⟨RC11, TC11, 58, yC11, cls_11 xs, by decide, by decide, Or.inl (tb6 104 rfl rfl)⟩, ?_⟩
  refine List.forall_mem_cons.mpr ⟨⟨RC11, TC11, 58, yC11, cls_11 xs, by decide, by decide, Or.inl (tb6 103 rfl rfl)⟩, ?_⟩
  exact fun e he => absurd he List.not_mem_nil
set_option maxRecDepth 20000 in
theorem hfp_1 (xs : List Int32) : ∀ e ∈ gFP_1, ∀ nm, (gfin e.2 = true → nm = "<init>") → pm_fp (g_P xs) gTbl gCl gNst (g_cn 1) nm e.1 (e.2 / 64) (e.2 % 64) := by
  refine List.forall_mem_cons.mpr ⟨fun nm h => ⟨RC0, TC0, 13, yC0, cls_0 xs, by decide, by decide, Or.inr ⟨rfl, h rfl, rfl, (tb2 147 rfl rfl)⟩⟩, ?_⟩
  refine List.forall_mem_cons.mpr ⟨fun nm h => ⟨RC0, TC0, 13, yC0, cls_0 xs, by decide, by decide, Or.inr ⟨rfl, h rfl, rfl, (tb2 148 rfl rfl)⟩⟩, ?_⟩
  refine List.forall_mem_cons.mpr ⟨fun nm h => ⟨RC0, TC0, 13, yC0, cls_0 xs, by decide, by decide, Or.inr ⟨rfl, h rfl, rfl, (tb2 149 rfl rfl)⟩⟩, ?_⟩
  refine List.forall_mem_cons.mpr ⟨fun nm h => ⟨RC0, TC0, 13, yC0, cls_0 xs, by decide, by decide, Or.inr ⟨rfl, h rfl, rfl, (tb2 150 rfl rfl)⟩⟩, ?_⟩
  refine List.forall_mem_cons.mpr ⟨fun nm h => ⟨RC0, TC0, 13, yC0, cls_0 xs, by decide, by decide, Or.inr ⟨rfl, h rfl, rfl, (tb2 151 rfl rfl)⟩⟩, ?_⟩
  refine List.forall_mem_cons.mpr ⟨fun nm h => ⟨RC0, TC0, 13, yC0, cls_0 xs, by decide, by decide, Or.inr ⟨rfl, h rfl, rfl, (tb2 152 rfl rfl)⟩⟩, ?_⟩
  refine List.forall_mem_cons.mpr ⟨fun nm h => ⟨RC0, TC0, 13, yC0, cls_0 xs, by decide, by decide, Or.inl ⟨rfl, Or.inl (tb2 153 rfl rfl)⟩⟩, ?_⟩
  refine List.forall_mem_cons.mpr ⟨fun nm h => ⟨RC0, TC0, 13, yC0, cls_0 xs, by decide, by decide, Or.inl ⟨rfl, Or.inl (tb2 154 rfl rfl)⟩⟩, ?_⟩
  refine List.forall_mem_cons.mpr ⟨fun nm h => ⟨RC0, TC0, 13, yC0, cls_0 xs, by decide, by decide, Or.inr ⟨rfl, h rfl, rfl, (tb2 155 rfl rfl)⟩⟩, ?_⟩
  refine List.forall_mem_cons.mpr ⟨fun nm h => ⟨RC0, TC0, 13, yC0, cls_0 xs, by decide, by decide, Or.inr ⟨rfl, h rfl, rfl, (tb2 156 rfl rfl)⟩⟩, ?_⟩
  refine List.forall_mem_cons.mpr ⟨fun nm h => ⟨RC0, TC0, 13, yC0, cls_0 xs, by decide, by decide, Or.inl ⟨rfl, Or.inl (tb2 157 rfl rfl)⟩⟩, ?_⟩
  refine List.forall_mem_cons.mpr ⟨fun nm h => ⟨RC0, TC0, 13, yC0, cls_0 xs, by decide, by decide, Or.inl ⟨rfl, Or.inl (tb2 158 rfl rfl)⟩⟩, ?_⟩
  refine List.forall_mem_cons.mpr ⟨fun nm h => ⟨RC0, TC0, 13, yC0, cls_0 xs, by decide, by decide, Or.inl ⟨rfl, Or.inl (tb2 159 rfl rfl)⟩⟩, ?_⟩
  refine List.forall_mem_cons.mpr ⟨fun nm h => ⟨RC5, TC5, 5, yC5, cls_5 xs, by decide, by decide, Or.inl ⟨rfl, Or.inr ⟨_, (nb1 163 rfl rfl)⟩⟩⟩, ?_⟩
  refine List.forall_mem_cons.mpr ⟨fun nm h => ⟨RC5, TC5, 5, yC5, cls_5 xs, by decide, by decide, Or.inl ⟨rfl, Or.inr ⟨_, (nb1 167 rfl rfl)⟩⟩⟩, ?_⟩
  exact fun e he => absurd he List.not_mem_nil
set_option maxRecDepth 20000 in
theorem hfp_2 (xs : List Int32) : ∀ e ∈ gFP_2, ∀ nm, (gfin e.2 = true → nm = "<init>") → pm_fp (g_P xs) gTbl gCl gNst (g_cn 2) nm e.1 (e.2 / 64) (e.2 % 64) := by
  refine List.forall_mem_cons.mpr ⟨fun nm h => ⟨RC1, TC1, 2, yC1, cls_1 xs, by decide, by decide, Or.inl ⟨rfl, Or.inl (tb1 41 rfl rfl)⟩⟩, ?_⟩
  refine List.forall_mem_cons.mpr ⟨fun nm h => ⟨RC1, TC1, 2, yC1, cls_1 xs, by decide, by decide, Or.inr ⟨rfl, h rfl, rfl, (tb1 37 rfl rfl)⟩⟩, ?_⟩
  exact fun e he => absurd he List.not_mem_nil
set_option maxRecDepth 20000 in
theorem hfp_4 (xs : List Int32) : ∀ e ∈ gFP_4, ∀ nm, (gfin e.2 = true → nm = "<init>") → pm_fp (g_P xs) gTbl gCl gNst (g_cn 4) nm e.1 (e.2 / 64) (e.2 % 64) := by
  refine List.forall_mem_cons.mpr ⟨fun nm h => ⟨RC2, TC2, 6, yC2, cls_2 xs, by decide, by decide, Or.inr ⟨rfl, h rfl, rfl, (tb1 83 rfl rfl)⟩⟩, ?_⟩
  refine List.forall_mem_cons.mpr ⟨fun nm h => ⟨RC2, TC2, 6, yC2, cls_2 xs, by decide, by decide, Or.inr ⟨rfl, h rfl, rfl, (tb1 84 rfl rfl)⟩⟩, ?_⟩
  refine List.forall_mem_cons.mpr ⟨fun nm h => ⟨RC2, TC2, 6, yC2, cls_2 xs, by decide, by decide, Or.inl ⟨rfl, Or.inl (tb1 85 rfl rfl)⟩⟩, ?_⟩
  refine List.forall_mem_cons.mpr ⟨fun nm h => ⟨RC2, TC2, 6, yC2, cls_2 xs, by decide, by decide, Or.inl ⟨rfl, Or.inl (tb1 86 rfl rfl)⟩⟩, ?_⟩
  refine List.forall_mem_cons.mpr ⟨fun nm h => ⟨RC2, TC2, 6, yC2, cls_2 xs, by decide, by decide, Or.inl ⟨rfl, Or.inl (tb1 87 rfl rfl)⟩⟩, ?_⟩
  refine List.forall_mem_cons.mpr ⟨fun nm h => ⟨RC2, TC2, 6, yC2, cls_2 xs, by decide, by decide, Or.inl ⟨rfl, Or.inl (tb1 89 rfl rfl)⟩⟩, ?_⟩
  refine List.forall_mem_cons.mpr ⟨fun nm h => ⟨RC9, TC9, 12, yC9, cls_9 xs, by decide, by decide, Or.inl ⟨rfl, Or.inr ⟨_, (nb2 5 rfl rfl)⟩⟩⟩, ?_⟩
  refine List.forall_mem_cons.mpr ⟨fun nm h => ⟨RC8, TC8, 4, yC8, cls_8 xs, by decide, by decide, Or.inl ⟨rfl, Or.inr ⟨_, (nb2 62 rfl rfl)⟩⟩⟩, ?_⟩
  refine List.forall_mem_cons.mpr ⟨fun nm h => ⟨RC5, TC5, 5, yC5, cls_5 xs, by decide, by decide, Or.inl ⟨rfl, Or.inr ⟨_, (nb1 164 rfl rfl)⟩⟩⟩, ?_⟩
  refine List.forall_mem_cons.mpr ⟨fun nm h => ⟨RC5, TC5, 5, yC5, cls_5 xs, by decide, by decide, Or.inl ⟨rfl, Or.inr ⟨_, (nb1 168 rfl rfl)⟩⟩⟩, ?_⟩
  exact fun e he => absurd he List.not_mem_nil
set_option maxRecDepth 20000 in
theorem hfp_5 (xs : List Int32) : ∀ e ∈ gFP_5, ∀ nm, (gfin e.2 = true → nm = "<init>") → pm_fp (g_P xs) gTbl gCl gNst (g_cn 5) nm e.1 (e.2 / 64) (e.2 % 64) := by
  refine List.forall_mem_cons.mpr ⟨fun nm h => ⟨RC3, TC3, 5, yC3, cls_3 xs, by decide, by decide, Or.inr ⟨rfl, h rfl, rfl, (tb1 62 rfl rfl)⟩⟩, ?_⟩
  refine List.forall_mem_cons.mpr ⟨fun nm h => ⟨RC3, TC3, 5, yC3, cls_3 xs, by decide, by decide, Or.inr ⟨rfl, h rfl, rfl, (tb1 64 rfl rfl)⟩⟩, ?_⟩
  refine List.forall_mem_cons.mpr ⟨fun nm h => ⟨RC3, TC3, 5, yC3, cls_3 xs, by decide, by decide, Or.inr ⟨rfl, h rfl, rfl, (tb1 66 rfl rfl)⟩⟩, ?_⟩
  refine List.forall_mem_cons.mpr ⟨fun nm h => ⟨RC3, TC3, 5, yC3, cls_3 xs, by decide, by decide, Or.inr ⟨rfl, h rfl, rfl, (tb1 68 rfl rfl)⟩⟩, ?_⟩
  refine List.forall_mem_cons.mpr ⟨fun nm h => ⟨RC3, TC3, 5, yC3, cls_3 xs, by decide, by decide, Or.inl ⟨rfl, Or.inl (tb1 70 rfl rfl)⟩⟩, ?_⟩
  exact fun e he => absurd he List.not_mem_nil
set_option maxRecDepth 20000 in
theorem hfp_6 (xs : List Int32) : ∀ e ∈ gFP_6, ∀ nm, (gfin e.2 = true → nm = "<init>") → pm_fp (g_P xs) gTbl gCl gNst (g_cn 6) nm e.1 (e.2 / 64) (e.2 % 64) := by
  refine List.forall_mem_cons.mpr ⟨fun nm h => ⟨RC4, TC4, 3, yC4, cls_4 xs, by decide, by decide, Or.inr ⟨rfl, h rfl, rfl, (tb1 180 rfl rfl)⟩⟩, ?_⟩
  refine List.forall_mem_cons.mpr ⟨fun nm h => ⟨RC4, TC4, 3, yC4, cls_4 xs, by decide, by decide, Or.inl ⟨rfl, Or.inl (tb1 181 rfl rfl)⟩⟩, ?_⟩
  refine List.forall_mem_cons.mpr ⟨fun nm h => ⟨RC4, TC4, 3, yC4, cls_4 xs, by decide, by decide, Or.inl ⟨rfl, Or.inl (tb1 182 rfl rfl)⟩⟩, ?_⟩
  exact fun e he => absurd he List.not_mem_nil
set_option maxRecDepth 20000 in
theorem hfp_7 (xs : List Int32) : ∀ e ∈ gFP_7, ∀ nm, (gfin e.2 = true → nm = "<init>") → pm_fp (g_P xs) gTbl gCl gNst (g_cn 7) nm e.1 (e.2 / 64) (e.2 % 64) := by
  refine List.forall_mem_cons.mpr ⟨fun nm h => ⟨RC5, TC5, 5, yC5, cls_5 xs, by decide, by decide, Or.inr ⟨rfl, h rfl, rfl, (tb1 146 rfl rfl)⟩⟩, ?_⟩
  refine List.forall_mem_cons.mpr ⟨fun nm h => ⟨RC5, TC5, 5, yC5, cls_5 xs, by decide, by decide, Or.inr ⟨rfl, h rfl, rfl, (tb1 151 rfl rfl)⟩⟩, ?_⟩
  refine List.forall_mem_cons.mpr ⟨fun nm h => ⟨RC5, TC5, 5, yC5, cls_5 xs, by decide, by decide, Or.inr ⟨rfl, h rfl, rfl, (tb1 156 rfl rfl)⟩⟩, ?_⟩
  refine List.forall_mem_cons.mpr ⟨fun nm h => ⟨RC5, TC5, 5, yC5, cls_5 xs, by decide, by decide, Or.inl ⟨rfl, Or.inl (tb1 161 rfl rfl)⟩⟩, ?_⟩
  refine List.forall_mem_cons.mpr ⟨fun nm h => ⟨RC5, TC5, 5, yC5, cls_5 xs, by decide, by decide, Or.inl ⟨rfl, Or.inl (tb1 165 rfl rfl)⟩⟩, ?_⟩
  refine List.forall_mem_cons.mpr ⟨fun nm h => ⟨RC6, TC6, 4, yC6, cls_6 xs, by decide, by decide, Or.inl ⟨rfl, Or.inr ⟨_, (nb1 134 rfl rfl)⟩⟩⟩, ?_⟩
  exact fun e he => absurd he List.not_mem_nil
set_option maxRecDepth 20000 in
theorem hfp_8 (xs : List Int32) : ∀ e ∈ gFP_8, ∀ nm, (gfin e.2 = true → nm = "<init>") → pm_fp (g_P xs) gTbl gCl gNst (g_cn 8) nm e.1 (e.2 / 64) (e.2 % 64) := by
  refine List.forall_mem_cons.mpr ⟨fun nm h => ⟨RC6, TC6, 4, yC6, cls_6 xs, by decide, by decide, Or.inl ⟨rfl, Or.inl (tb1 133 rfl rfl)⟩⟩, ?_⟩
  refine List.forall_mem_cons.mpr ⟨fun nm h => ⟨RC6, TC6, 4, yC6, cls_6 xs, by decide, by decide, Or.inr ⟨rfl, h rfl, rfl, (tb1 124 rfl rfl)⟩⟩, ?_⟩
  refine List.forall_mem_cons.mpr ⟨fun nm h => ⟨RC6, TC6, 4, yC6, cls_6 xs, by decide, by decide, Or.inr ⟨rfl, h rfl, rfl, (tb1 127 rfl rfl)⟩⟩, ?_⟩
  refine List.forall_mem_cons.mpr ⟨fun nm h => ⟨RC6, TC6, 4, yC6, cls_6 xs, by decide, by decide, Or.inr ⟨rfl, h rfl, rfl, (tb1 130 rfl rfl)⟩⟩, ?_⟩
  exact fun e he => absurd he List.not_mem_nil
set_option maxRecDepth 20000 in
theorem hfp_9 (xs : List Int32) : ∀ e ∈ gFP_9, ∀ nm, (gfin e.2 = true → nm = "<init>") → pm_fp (g_P xs) gTbl gCl gNst (g_cn 9) nm e.1 (e.2 / 64) (e.2 % 64) := by
  refine List.forall_mem_cons.mpr ⟨fun nm h => ⟨RC7, TC7, 5, yC7, cls_7 xs, by decide, by decide, Or.inr ⟨rfl, h rfl, rfl, (tb1 197 rfl rfl)⟩⟩, ?_⟩
  refine List.forall_mem_cons.mpr ⟨fun nm h => ⟨RC7, TC7, 5, yC7, cls_7 xs, by decide, by decide, Or.inl ⟨rfl, Or.inl (tb1 199 rfl rfl)⟩⟩, ?_⟩
  refine List.forall_mem_cons.mpr ⟨fun nm h => ⟨RC7, TC7, 5, yC7, cls_7 xs, by decide, by decide, Or.inl ⟨rfl, Or.inl (tb1 200 rfl rfl)⟩⟩, ?_⟩
  refine List.forall_mem_cons.mpr ⟨fun nm h => ⟨RC7, TC7, 5, yC7, cls_7 xs, by decide, by decide, Or.inl ⟨rfl, Or.inl (tb1 201 rfl rfl)⟩⟩, ?_⟩
  refine List.forall_mem_cons.mpr ⟨fun nm h => ⟨RC7, TC7, 5, yC7, cls_7 xs, by decide, by decide, Or.inl ⟨rfl, Or.inl (tb1 203 rfl rfl)⟩⟩, ?_⟩
  exact fun e he => absurd he List.not_mem_nil
set_option maxRecDepth 20000 in
theorem hfp_10 (xs : List Int32) : ∀ e ∈ gFP_10, ∀ nm, (gfin e.2 = true → nm = "<init>") → pm_fp (g_P xs) gTbl gCl gNst (g_cn 10) nm e.1 (e.2 / 64) (e.2 % 64) := by
  refine List.forall_mem_cons.mpr ⟨fun nm h => ⟨RC8, TC8, 4, yC8, cls_8 xs, by decide, by decide, Or.inr ⟨rfl, h rfl, rfl, (tb2 52 rfl rfl)⟩⟩, ?_⟩
  refine List.forall_mem_cons.mpr ⟨fun nm h => ⟨RC8, TC8, 4, yC8, cls_8 xs, by decide, by decide, Or.inr ⟨rfl, h rfl, rfl, (tb2 54 rfl rfl)⟩⟩, ?_⟩
  refine List.forall_mem_cons.mpr ⟨fun nm h => ⟨RC8, TC8, 4, yC8, cls_8 xs, by decide, by decide, Or.inr ⟨rfl, h rfl, rfl, (tb2 57 rfl rfl)⟩⟩, ?_⟩
  refine List.forall_mem_cons.mpr ⟨fun nm h => ⟨RC8, TC8, 4, yC8, cls_8 xs, by decide, by decide, Or.inl ⟨rfl, Or.inl (tb2 60 rfl rfl)⟩⟩, ?_⟩
  exact fun e he => absurd he List.not_mem_nil
set_option maxRecDepth 20000 in
theorem hfp_11 (xs : List Int32) : ∀ e ∈ gFP_11, ∀ nm, (gfin e.2 = true → nm = "<init>") → pm_fp (g_P xs) gTbl gCl gNst (g_cn 11) nm e.1 (e.2 / 64) (e.2 % 64) := by
  refine List.forall_mem_cons.mpr ⟨fun nm h => ⟨RC9, TC9, 12, yC9, cls_9 xs, by decide, by decide, Or.inr ⟨rfl, h rfl, rfl, (tb1 233 rfl rfl)⟩⟩, ?_⟩
  refine List.forall_mem_cons.mpr ⟨fun nm h => ⟨RC9, TC9, 12, yC9, cls_9 xs, by decide, by decide, Or.inr ⟨rfl, h rfl, rfl, (tb1 237 rfl rfl)⟩⟩, ?_⟩
  refine List.forall_mem_cons.mpr ⟨fun nm h => ⟨RC9, TC9, 12, yC9, cls_9 xs, by decide, by decide, Or.inr ⟨rfl, h rfl, rfl, (tb2 0 rfl rfl)⟩⟩, ?_⟩
  refine List.forall_mem_cons.mpr ⟨fun nm h => ⟨RC9, TC9, 12, yC9, cls_9 xs, by decide, by decide, Or.inl ⟨rfl, Or.inl (tb2 3 rfl rfl)⟩⟩, ?_⟩
  refine List.forall_mem_cons.mpr ⟨fun nm h => ⟨RC9, TC9, 12, yC9, cls_9 xs, by decide, by decide, Or.inl ⟨rfl, Or.inl (tb2 7 rfl rfl)⟩⟩, ?_⟩
  refine List.forall_mem_cons.mpr ⟨fun nm h => ⟨RC9, TC9, 12, yC9, cls_9 xs, by decide, by decide, Or.inl ⟨rfl, Or.inl (tb2 11 rfl rfl)⟩⟩, ?_⟩
  refine List.forall_mem_cons.mpr ⟨fun nm h => ⟨RC9, TC9, 12, yC9, cls_9 xs, by decide, by decide, Or.inl ⟨rfl, Or.inl (tb2 14 rfl rfl)⟩⟩, ?_⟩
  refine List.forall_mem_cons.mpr ⟨fun nm h => ⟨RC9, TC9, 12, yC9, cls_9 xs, by decide, by decide, Or.inl ⟨rfl, Or.inl (tb2 18 rfl rfl)⟩⟩, ?_⟩
  refine List.forall_mem_cons.mpr ⟨fun nm h => ⟨RC9, TC9, 12, yC9, cls_9 xs, by decide, by decide, Or.inl ⟨rfl, Or.inl (tb2 21 rfl rfl)⟩⟩, ?_⟩
  refine List.forall_mem_cons.mpr ⟨fun nm h => ⟨RC9, TC9, 12, yC9, cls_9 xs, by decide, by decide, Or.inl ⟨rfl, Or.inl (tb2 23 rfl rfl)⟩⟩, ?_⟩
  refine List.forall_mem_cons.mpr ⟨fun nm h => ⟨RC9, TC9, 12, yC9, cls_9 xs, by decide, by decide, Or.inl ⟨rfl, Or.inl (tb2 24 rfl rfl)⟩⟩, ?_⟩
  refine List.forall_mem_cons.mpr ⟨fun nm h => ⟨RC9, TC9, 12, yC9, cls_9 xs, by decide, by decide, Or.inl ⟨rfl, Or.inl (tb2 26 rfl rfl)⟩⟩, ?_⟩
  exact fun e he => absurd he List.not_mem_nil
set_option maxRecDepth 20000 in
theorem hfp_12 (xs : List Int32) : ∀ e ∈ gFP_12, ∀ nm, (gfin e.2 = true → nm = "<init>") → pm_fp (g_P xs) gTbl gCl gNst (g_cn 12) nm e.1 (e.2 / 64) (e.2 % 64) := by
  refine List.forall_mem_cons.mpr ⟨fun nm h => ⟨RC10, TC10, 19, yC10, cls_10 xs, by decide, by decide, Or.inr ⟨rfl, h rfl, rfl, (tb2 78 rfl rfl)⟩⟩, ?_⟩
  refine List.forall_mem_cons.mpr ⟨fun nm h => ⟨RC10, TC10, 19, yC10, cls_10 xs, by decide, by decide, Or.inr ⟨rfl, h rfl, rfl, (tb2 79 rfl rfl)⟩⟩, ?_⟩
  refine List.forall_mem_cons.mpr ⟨fun nm h => ⟨RC10, TC10, 19, yC10, cls_10 xs, by decide, by decide, Or.inr ⟨rfl, h rfl, rfl, (tb2 81 rfl rfl)⟩⟩, ?_⟩
  refine List.forall_mem_cons.mpr ⟨fun nm h => ⟨RC10, TC10, 19, yC10, cls_10 xs, by decide, by decide, Or.inr ⟨rfl, h rfl, rfl, (tb2 84 rfl rfl)⟩⟩, ?_⟩
  refine List.forall_mem_cons.mpr ⟨fun nm h => ⟨RC10, TC10, 19, yC10, cls_10 xs, by decide, by decide, Or.inr ⟨rfl, h rfl, rfl, (tb2 85 rfl rfl)⟩⟩, ?_⟩
  refine List.forall_mem_cons.mpr ⟨fun nm h => ⟨RC10, TC10, 19, yC10, cls_10 xs, by decide, by decide, Or.inr ⟨rfl, h rfl, rfl, (tb2 87 rfl rfl)⟩⟩, ?_⟩
  refine List.forall_mem_cons.mpr ⟨fun nm h => ⟨RC10, TC10, 19, yC10, cls_10 xs, by decide, by decide, Or.inr ⟨rfl, h rfl, rfl, (tb2 88 rfl rfl)⟩⟩, ?_⟩
  refine List.forall_mem_cons.mpr ⟨fun nm h => ⟨RC10, TC10, 19, yC10, cls_10 xs, by decide, by decide, Or.inr ⟨rfl, h rfl, rfl, (tb2 89 rfl rfl)⟩⟩, ?_⟩
  refine List.forall_mem_cons.mpr ⟨fun nm h => ⟨RC10, TC10, 19, yC10, cls_10 xs, by decide, by decide, Or.inr ⟨rfl, h rfl, rfl, (tb2 91 rfl rfl)⟩⟩, ?_⟩
  refine List.forall_mem_cons.mpr ⟨fun nm h => ⟨RC10, TC10, 19, yC10, cls_10 xs, by decide, by decide, Or.inl ⟨rfl, Or.inl (tb2 93 rfl rfl)⟩⟩, ?_⟩
  refine List.forall_mem_cons.mpr ⟨fun nm h => ⟨RC10, TC10, 19, yC10, cls_10 xs, by decide, by decide, Or.inl ⟨rfl, Or.inl (tb2 95 rfl rfl)⟩⟩, ?_⟩
  refine List.forall_mem_cons.mpr ⟨fun nm h => ⟨RC10, TC10, 19, yC10, cls_10 xs, by decide, by decide, Or.inl ⟨rfl, Or.inl (tb2 97 rfl rfl)⟩⟩, ?_⟩
  refine List.forall_mem_cons.mpr ⟨fun nm h => ⟨RC10, TC10, 19, yC10, cls_10 xs, by decide, by decide, Or.inl ⟨rfl, Or.inl (tb2 99 rfl rfl)⟩⟩, ?_⟩
  refine List.forall_mem_cons.mpr ⟨fun nm h => ⟨RC10, TC10, 19, yC10, cls_10 xs, by decide, by decide, Or.inl ⟨rfl, Or.inl (tb2 104 rfl rfl)⟩⟩, ?_⟩
  refine List.forall_mem_cons.mpr ⟨fun nm h => ⟨RC10, TC10, 19, yC10, cls_10 xs, by decide, by decide, Or.inl ⟨rfl, Or.inl (tb2 105 rfl rfl)⟩⟩, ?_⟩
  refine List.forall_mem_cons.mpr ⟨fun nm h => ⟨RC10, TC10, 19, yC10, cls_10 xs, by decide, by decide, Or.inl ⟨rfl, Or.inl (tb2 106 rfl rfl)⟩⟩, ?_⟩
  refine List.forall_mem_cons.mpr ⟨fun nm h => ⟨RC10, TC10, 19, yC10, cls_10 xs, by decide, by decide, Or.inl ⟨rfl, Or.inl (tb2 107 rfl rfl)⟩⟩, ?_⟩
  refine List.forall_mem_cons.mpr ⟨fun nm h => ⟨RC10, TC10, 19, yC10, cls_10 xs, by decide, by decide, Or.inl ⟨rfl, Or.inl (tb2 100 rfl rfl)⟩⟩, ?_⟩
  refine List.forall_mem_cons.mpr ⟨fun nm h => ⟨RC10, TC10, 19, yC10, cls_10 xs, by decide, by decide, Or.inl ⟨rfl, Or.inl (tb2 103 rfl rfl)⟩⟩, ?_⟩
  exact fun e he => absurd he List.not_mem_nil
set_option maxRecDepth 20000 in
theorem hfp_14 (xs : List Int32) : ∀ e ∈ gFP_14, ∀ nm, (gfin e.2 = true → nm = "<init>") → pm_fp (g_P xs) gTbl gCl gNst (g_cn 14) nm e.1 (e.2 / 64) (e.2 % 64) := by
  refine List.forall_mem_cons.mpr ⟨fun nm h => ⟨RC11, TC11, 58, yC11, cls_11 xs, by decide, by decide, Or.inr ⟨rfl, h rfl, rfl, (tb6 49 rfl rfl)⟩⟩, ?_⟩
  refine List.forall_mem_cons.mpr ⟨fun nm h => ⟨RC11, TC11, 58, yC11, cls_11 xs, by decide, by decide, Or.inr ⟨rfl, h rfl, rfl, (tb6 50 rfl rfl)⟩⟩, ?_⟩
  refine List.forall_mem_cons.mpr ⟨fun nm h => ⟨RC11, TC11, 58, yC11, cls_11 xs, by decide, by decide, Or.inr ⟨rfl, h rfl, rfl, (tb6 51 rfl rfl)⟩⟩, ?_⟩
  refine List.forall_mem_cons.mpr ⟨fun nm h => ⟨RC11, TC11, 58, yC11, cls_11 xs, by decide, by decide, Or.inr ⟨rfl, h rfl, rfl, (tb6 52 rfl rfl)⟩⟩, ?_⟩
  refine List.forall_mem_cons.mpr ⟨fun nm h => ⟨RC11, TC11, 58, yC11, cls_11 xs, by decide, by decide, Or.inr ⟨rfl, h rfl, rfl, (tb6 53 rfl rfl)⟩⟩, ?_⟩
  refine List.forall_mem_cons.mpr ⟨fun nm h => ⟨RC11, TC11, 58, yC11, cls_11 xs, by decide, by decide, Or.inr ⟨rfl, h rfl, rfl, (tb6 54 rfl rfl)⟩⟩, ?_⟩
  refine List.forall_mem_cons.mpr ⟨fun nm h => ⟨RC11, TC11, 58, yC11, cls_11 xs, by decide, by decide, Or.inr ⟨rfl, h rfl, rfl, (tb6 55 rfl rfl)⟩⟩, ?_⟩
  refine List.forall_mem_cons.mpr ⟨fun nm h => ⟨RC11, TC11, 58, yC11, cls_11 xs, by decide, by decide, Or.inr ⟨rfl, h rfl, rfl, (tb6 56 rfl rfl)⟩⟩, ?_⟩
  refine List.forall_mem_cons.mpr ⟨fun nm h => ⟨RC11, TC11, 58, yC11, cls_11 xs, by decide, by decide, Or.inr ⟨rfl, h rfl, rfl, (tb6 57 rfl rfl)⟩⟩, ?_⟩
  refine List.forall_mem_cons.mpr ⟨fun nm h => ⟨RC11, TC11, 58, yC11, cls_11 xs, by decide, by decide, Or.inr ⟨rfl, h rfl, rfl, (tb6 58 rfl rfl)⟩⟩, ?_⟩
  refine List.forall_mem_cons.mpr ⟨fun nm h => ⟨RC11, TC11, 58, yC11, cls_11 xs, by decide, by decide, Or.inr ⟨rfl, h rfl, rfl, (tb6 59 rfl rfl)⟩⟩, ?_⟩
  refine List.forall_mem_cons.mpr ⟨fun nm h => ⟨RC11, TC11, 58, yC11, cls_11 xs, by decide, by decide, Or.inr ⟨rfl, h rfl, rfl, (tb6 60 rfl rfl)⟩⟩, ?_⟩
  refine List.forall_mem_cons.mpr ⟨fun nm h => ⟨RC11, TC11, 58, yC11, cls_11 xs, by decide, by decide, Or.inr ⟨rfl, h rfl, rfl, (tb6 63 rfl rfl)⟩⟩, ?_⟩
  refine List.forall_mem_cons.mpr ⟨fun nm h => ⟨RC11, TC11, 58, yC11, cls_11 xs, by decide, by decide, Or.inr ⟨rfl, h rfl, rfl, (tb6 64 rfl rfl)⟩⟩, ?_⟩
  refine List.forall_mem_cons.mpr ⟨fun nm h => ⟨RC11, TC11, 58, yC11, cls_11 xs, by decide, by decide, Or.inr ⟨rfl, h rfl, rfl, (tb6 65 rfl rfl)⟩⟩, ?_⟩
  refine List.forall_mem_cons.mpr ⟨fun nm h => ⟨RC11, TC11, 58, yC11, cls_11 xs, by decide, by decide, Or.inr ⟨rfl, h rfl, rfl, (tb6 67 rfl rfl)⟩⟩, ?_⟩
  refine List.forall_mem_cons.mpr ⟨fun nm h => ⟨RC11, TC11, 58, yC11, cls_11 xs, by decide, by decide, Or.inr ⟨rfl, h rfl, rfl, (tb6 68 rfl rfl)⟩⟩, ?_⟩
  refine List.forall_mem_cons.mpr ⟨fun nm h => ⟨RC11, TC11, 58, yC11, cls_11 xs, by decide, by decide, Or.inr ⟨rfl, h rfl, rfl, (tb6 69 rfl rfl)⟩⟩, ?_⟩
  refine List.forall_mem_cons.mpr ⟨fun nm h => ⟨RC11, TC11, 58, yC11, cls_11 xs, by decide, by decide, Or.inr ⟨rfl, h rfl, rfl, (tb6 70 rfl rfl)⟩⟩, ?_⟩
  refine List.forall_mem_cons.mpr ⟨fun nm h => ⟨RC11, TC11, 58, yC11, cls_11 xs, by decide, by decide, Or.inr ⟨rfl, h rfl, rfl, (tb6 74 rfl rfl)⟩⟩, ?_⟩
  refine List.forall_mem_cons.mpr ⟨fun nm h => ⟨RC11, TC11, 58, yC11, cls_11 xs, by decide, by decide, Or.inr ⟨rfl, h rfl, rfl, (tb6 75 rfl rfl)⟩⟩, ?_⟩
  refine List.forall_mem_cons.mpr ⟨fun nm h => ⟨RC11, TC11, 58, yC11, cls_11 xs, by decide, by decide, Or.inr ⟨rfl, h rfl, rfl, (tb6 76 rfl rfl)⟩⟩, ?_⟩
  refine List.forall_mem_cons.mpr ⟨fun nm h => ⟨RC11, TC11, 58, yC11, cls_11 xs, by decide, by decide, Or.inr ⟨rfl, h rfl, rfl, (tb6 77 rfl rfl)⟩⟩, ?_⟩
  refine List.forall_mem_cons.mpr ⟨fun nm h => ⟨RC11, TC11, 58, yC11, cls_11 xs, by decide, by decide, Or.inr ⟨rfl, h rfl, rfl, (tb6 78 rfl rfl)⟩⟩, ?_⟩
  refine List.forall_mem_cons.mpr ⟨fun nm h => ⟨RC11, TC11, 58, yC11, cls_11 xs, by decide, by decide, Or.inr ⟨rfl, h rfl, rfl, (tb6 82 rfl rfl)⟩⟩, ?_⟩
  refine List.forall_mem_cons.mpr ⟨fun nm h => ⟨RC11, TC11, 58, yC11, cls_11 xs, by decide, by decide, Or.inr ⟨rfl, h rfl, rfl, (tb6 84 rfl rfl)⟩⟩, ?_⟩
  refine List.forall_mem_cons.mpr ⟨fun nm h => ⟨RC11, TC11, 58, yC11, cls_11 xs, by decide, by decide, Or.inr ⟨rfl, h rfl, rfl, (tb6 85 rfl rfl)⟩⟩, ?_⟩
  refine List.forall_mem_cons.mpr ⟨fun nm h => ⟨RC11, TC11, 58, yC11, cls_11 xs, by decide, by decide, Or.inr ⟨rfl, h rfl, rfl, (tb6 89 rfl rfl)⟩⟩, ?_⟩
  refine List.forall_mem_cons.mpr ⟨fun nm h => ⟨RC11, TC11, 58, yC11, cls_11 xs, by decide, by decide, Or.inl ⟨rfl, Or.inl (tb6 91 rfl rfl)⟩⟩, ?_⟩
  refine List.forall_mem_cons.mpr ⟨fun nm h => ⟨RC11, TC11, 58, yC11, cls_11 xs, by decide, by decide, Or.inl ⟨rfl, Or.inl (tb6 92 rfl rfl)⟩⟩, ?_⟩
  refine List.forall_mem_cons.mpr ⟨fun nm h => ⟨RC11, TC11, 58, yC11, cls_11 xs, by decide, by decide, Or.inr ⟨rfl, h rfl, rfl, (tb6 102 rfl rfl)⟩⟩, ?_⟩
  refine List.forall_mem_cons.mpr ⟨fun nm h => ⟨RC11, TC11, 58, yC11, cls_11 xs, by decide, by decide, Or.inr ⟨rfl, h rfl, rfl, (tb6 103 rfl rfl)⟩⟩, ?_⟩
  refine List.forall_mem_cons.mpr ⟨fun nm h => ⟨RC11, TC11, 58, yC11, cls_11 xs, by decide, by decide, Or.inl ⟨rfl, Or.inl (tb6 48 rfl rfl)⟩⟩, ?_⟩
  refine List.forall_mem_cons.mpr ⟨fun nm h => ⟨RC11, TC11, 58, yC11, cls_11 xs, by decide, by decide, Or.inl ⟨rfl, Or.inl (tb6 47 rfl rfl)⟩⟩, ?_⟩
  refine List.forall_mem_cons.mpr ⟨fun nm h => ⟨RC11, TC11, 58, yC11, cls_11 xs, by decide, by decide, Or.inl ⟨rfl, Or.inl (tb6 66 rfl rfl)⟩⟩, ?_⟩
  refine List.forall_mem_cons.mpr ⟨fun nm h => ⟨RC11, TC11, 58, yC11, cls_11 xs, by decide, by decide, Or.inl ⟨rfl, Or.inl (tb6 71 rfl rfl)⟩⟩, ?_⟩
  refine List.forall_mem_cons.mpr ⟨fun nm h => ⟨RC11, TC11, 58, yC11, cls_11 xs, by decide, by decide, Or.inl ⟨rfl, Or.inl (tb6 72 rfl rfl)⟩⟩, ?_⟩
  refine List.forall_mem_cons.mpr ⟨fun nm h => ⟨RC11, TC11, 58, yC11, cls_11 xs, by decide, by decide, Or.inl ⟨rfl, Or.inl (tb6 73 rfl rfl)⟩⟩, ?_⟩
  refine List.forall_mem_cons.mpr ⟨fun nm h => ⟨RC11, TC11, 58, yC11, cls_11 xs, by decide, by decide, Or.inl ⟨rfl, Or.inl (tb6 81 rfl rfl)⟩⟩, ?_⟩
  refine List.forall_mem_cons.mpr ⟨fun nm h => ⟨RC11, TC11, 58, yC11, cls_11 xs, by decide, by decide, Or.inl ⟨rfl, Or.inl (tb6 79 rfl rfl)⟩⟩, ?_⟩
  refine List.forall_mem_cons.mpr ⟨fun nm h => ⟨RC11, TC11, 58, yC11, cls_11 xs, by decide, by decide, Or.inl ⟨rfl, Or.inl (tb6 80 rfl rfl)⟩⟩, ?_⟩
  refine List.forall_mem_cons.mpr ⟨fun nm h => ⟨RC11, TC11, 58, yC11, cls_11 xs, by decide, by decide, Or.inl ⟨rfl, Or.inl (tb6 83 rfl rfl)⟩⟩, ?_⟩
  refine List.forall_mem_cons.mpr ⟨fun nm h => ⟨RC11, TC11, 58, yC11, cls_11 xs, by decide, by decide, Or.inl ⟨rfl, Or.inl (tb6 86 rfl rfl)⟩⟩, ?_⟩
  refine List.forall_mem_cons.mpr ⟨fun nm h => ⟨RC11, TC11, 58, yC11, cls_11 xs, by decide, by decide, Or.inl ⟨rfl, Or.inl (tb6 87 rfl rfl)⟩⟩, ?_⟩
  refine List.forall_mem_cons.mpr ⟨fun nm h => ⟨RC11, TC11, 58, yC11, cls_11 xs, by decide, by decide, Or.inl ⟨rfl, Or.inl (tb6 88 rfl rfl)⟩⟩, ?_⟩
  refine List.forall_mem_cons.mpr ⟨fun nm h => ⟨RC11, TC11, 58, yC11, cls_11 xs, by decide, by decide, Or.inl ⟨rfl, Or.inl (tb6 90 rfl rfl)⟩⟩, ?_⟩
  refine List.forall_mem_cons.mpr ⟨fun nm h => ⟨RC11, TC11, 58, yC11, cls_11 xs, by decide, by decide, Or.inl ⟨rfl, Or.inl (tb6 99 rfl rfl)⟩⟩, ?_⟩
  refine List.forall_mem_cons.mpr ⟨fun nm h => ⟨RC11, TC11, 58, yC11, cls_11 xs, by decide, by decide, Or.inl ⟨rfl, Or.inl (tb6 96 rfl rfl)⟩⟩, ?_⟩
  refine List.forall_mem_cons.mpr ⟨fun nm h => ⟨RC11, TC11, 58, yC11, cls_11 xs, by decide, by decide, Or.inl ⟨rfl, Or.inl (tb6 93 rfl rfl)⟩⟩, ?_⟩
  refine List.forall_mem_cons.mpr ⟨fun nm h => ⟨RC11, TC11, 58, yC11, cls_11 xs, by decide, by decide, Or.inl ⟨rfl, Or.inl (tb6 62 rfl rfl)⟩⟩, ?_⟩
  refine List.forall_mem_cons.mpr ⟨fun nm h => ⟨RC11, TC11, 58, yC11, cls_11 xs, by decide, by decide, Or.inl ⟨rfl, Or.inl (tb6 61 rfl rfl)⟩⟩, ?_⟩
  refine List.forall_mem_cons.mpr ⟨fun nm h => ⟨RC11, TC11, 58, yC11, cls_11 xs, by decide, by decide, Or.inl ⟨rfl, Or.inl (tb6 95 rfl rfl)⟩⟩, ?_⟩
  refine List.forall_mem_cons.mpr ⟨fun nm h => ⟨RC11, TC11, 58, yC11, cls_11 xs, by decide, by decide, Or.inl ⟨rfl, Or.inl (tb6 97 rfl rfl)⟩⟩, ?_⟩
  refine List.forall_mem_cons.mpr ⟨fun nm h => ⟨RC11, TC11, 58, yC11, cls_11 xs, by decide, by decide, Or.inl ⟨rfl, Or.inl (tb6 101 rfl rfl)⟩⟩, ?_⟩
  refine List.forall_mem_cons.mpr ⟨fun nm h => ⟨RC11, TC11, 58, yC11, cls_11 xs, by decide, by decide, Or.inl ⟨rfl, Or.inl (tb6 98 rfl rfl)⟩⟩, ?_⟩
  refine List.forall_mem_cons.mpr ⟨fun nm h => ⟨RC11, TC11, 58, yC11, cls_11 xs, by decide, by decide, Or.inl ⟨rfl, Or.inl (tb6 100 rfl rfl)⟩⟩, ?_⟩
  refine List.forall_mem_cons.mpr ⟨fun nm h => ⟨RC11, TC11, 58, yC11, cls_11 xs, by decide, by decide, Or.inl ⟨rfl, Or.inl (tb6 94 rfl rfl)⟩⟩, ?_⟩
  refine List.forall_mem_cons.mpr ⟨fun nm h => ⟨RC11, TC11, 58, yC11, cls_11 xs, by decide, by decide, Or.inl ⟨rfl, Or.inl (tb6 104 rfl rfl)⟩⟩, ?_⟩
  exact fun e he => absurd he List.not_mem_nil
