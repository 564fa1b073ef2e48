set_option maxRecDepth 20000 in
theorem hfl_1 (xs : List Int32) : ∀ e ∈ gFL_1, pm_fl (g_P xs) gTbl gCl gNst (g_cn 1) e.1 (e.2 / 64) (e.2 % 64) := by
  refine List.forall_mem_cons.mpr ⟨⟨RC0, TC0, 13, yC0, cls_0 xs, by decide, by decide, Or.inl (tb_w 393 rfl rfl)⟩, ?_⟩
  refine List.forall_mem_cons.mpr ⟨⟨RC8, TC8, 4, yC8, cls_8 xs, by decide, by decide, Or.inr ⟨_, (nb_w 293 (List.mem_of_getElem? (i := 78) rfl) rfl)⟩⟩, ?_⟩
  refine List.forall_mem_cons.mpr ⟨⟨RC8, TC8, 4, yC8, cls_8 xs, by decide, by decide, Or.inr ⟨_, (nb_w 295 (List.mem_of_getElem? (i := 79) rfl) rfl)⟩⟩, ?_⟩
  refine List.forall_mem_cons.mpr ⟨⟨RC0, TC0, 13, yC0, cls_0 xs, by decide, by decide, Or.inl (tb_w 397 rfl rfl)⟩, ?_⟩
  refine List.forall_mem_cons.mpr ⟨⟨RC0, TC0, 13, yC0, cls_0 xs, by decide, by decide, Or.inl (tb_w 387 rfl rfl)⟩, ?_⟩
  refine List.forall_mem_cons.mpr ⟨⟨RC1, TC1, 2, yC1, cls_1 xs, by decide, by decide, Or.inr ⟨_, (nb_w 43 (List.mem_of_getElem? (i := 5) rfl) rfl)⟩⟩, ?_⟩
  refine List.forall_mem_cons.mpr ⟨⟨RC0, TC0, 13, yC0, cls_0 xs, by decide, by decide, Or.inl (tb_w 389 rfl rfl)⟩, ?_⟩
  refine List.forall_mem_cons.mpr ⟨⟨RC0, TC0, 13, yC0, cls_0 xs, by decide, by decide, Or.inl (tb_w 394 rfl rfl)⟩, ?_⟩
  refine List.forall_mem_cons.mpr ⟨⟨RC2, TC2, 6, yC2, cls_2 xs, by decide, by decide, Or.inr ⟨_, (nb_w 88 (List.mem_of_getElem? (i := 13) rfl) rfl)⟩⟩, ?_⟩
  refine List.forall_mem_cons.mpr ⟨⟨RC2, TC2, 6, yC2, cls_2 xs, by decide, by decide, Or.inr ⟨_, (nb_w 90 (List.mem_of_getElem? (i := 14) rfl) rfl)⟩⟩, ?_⟩
  refine List.forall_mem_cons.mpr ⟨⟨RC0, TC0, 13, yC0, cls_0 xs, by decide, by decide, Or.inl (tb_w 390 rfl rfl)⟩, ?_⟩
  refine List.forall_mem_cons.mpr ⟨⟨RC0, TC0, 13, yC0, cls_0 xs, by decide, by decide, Or.inl (tb_w 391 rfl rfl)⟩, ?_⟩
  refine List.forall_mem_cons.mpr ⟨⟨RC0, TC0, 13, yC0, cls_0 xs, by decide, by decide, Or.inl (tb_w 395 rfl rfl)⟩, ?_⟩
  refine List.forall_mem_cons.mpr ⟨⟨RC8, TC8, 4, yC8, cls_8 xs, by decide, by decide, Or.inr ⟨_, (nb_w 301 (List.mem_of_getElem? (i := 83) rfl) rfl)⟩⟩, ?_⟩
  refine List.forall_mem_cons.mpr ⟨⟨RC0, TC0, 13, yC0, cls_0 xs, by decide, by decide, Or.inl (tb_w 398 rfl rfl)⟩, ?_⟩
  refine List.forall_mem_cons.mpr ⟨⟨RC0, TC0, 13, yC0, cls_0 xs, by decide, by decide, Or.inl (tb_w 399 rfl rfl)⟩, ?_⟩
  refine List.forall_mem_cons.mpr ⟨⟨RC5, TC5, 5, yC5, cls_5 xs, by decide, by decide, Or.inr ⟨_, (nb_w 148 (List.mem_of_getElem? (i := 29) rfl) rfl)⟩⟩, ?_⟩
  refine List.forall_mem_cons.mpr ⟨⟨RC6, TC6, 4, yC6, cls_6 xs, by decide, by decide, Or.inr ⟨_, (nb_w 136 (List.mem_of_getElem? (i := 27) rfl) rfl)⟩⟩, ?_⟩
  refine List.forall_mem_cons.mpr ⟨⟨RC5, TC5, 5, yC5, cls_5 xs, by decide, by decide, Or.inr ⟨_, (nb_w 153 (List.mem_of_getElem? (i := 33) rfl) rfl)⟩⟩, ?_⟩
  refine List.forall_mem_cons.mpr ⟨⟨RC5, TC5, 5, yC5, cls_5 xs, by decide, by decide, Or.inr ⟨_, (nb_w 158 (List.mem_of_getElem? (i := 37) rfl) rfl)⟩⟩, ?_⟩
  refine List.forall_mem_cons.mpr ⟨⟨RC5, TC5, 5, yC5, cls_5 xs, by decide, by decide, Or.inr ⟨_, (nb_w 163 (List.mem_of_getElem? (i := 41) rfl) rfl)⟩⟩, ?_⟩
  refine List.forall_mem_cons.mpr ⟨⟨RC5, TC5, 5, yC5, cls_5 xs, by decide, by decide, Or.inr ⟨_, (nb_w 167 (List.mem_of_getElem? (i := 44) rfl) rfl)⟩⟩, ?_⟩
  refine List.forall_mem_cons.mpr ⟨⟨RC4, TC4, 3, yC4, cls_4 xs, by decide, by decide, Or.inr ⟨_, (nb_w 183 (List.mem_of_getElem? (i := 46) rfl) rfl)⟩⟩, ?_⟩
  refine List.forall_mem_cons.mpr ⟨⟨RC9, TC9, 12, yC9, cls_9 xs, by decide, by decide, Or.inr ⟨_, (nb_w 257 (List.mem_of_getElem? (i := 73) rfl) rfl)⟩⟩, ?_⟩
  refine List.forall_mem_cons.mpr ⟨⟨RC9, TC9, 12, yC9, cls_9 xs, by decide, by decide, Or.inr ⟨_, (nb_w 250 (List.mem_of_getElem? (i := 68) rfl) rfl)⟩⟩, ?_⟩
  refine List.forall_mem_cons.mpr ⟨⟨RC9, TC9, 12, yC9, cls_9 xs, by decide, by decide, Or.inr ⟨_, (nb_w 235 (List.mem_of_getElem? (i := 57) rfl) rfl)⟩⟩, ?_⟩
  refine List.forall_mem_cons.mpr ⟨⟨RC9, TC9, 12, yC9, cls_9 xs, by decide, by decide, Or.inr ⟨_, (nb_w 238 (List.mem_of_getElem? (i := 59) rfl) rfl)⟩⟩, ?_⟩
  refine List.forall_mem_cons.mpr ⟨⟨RC9, TC9, 12, yC9, cls_9 xs, by decide, by decide, Or.inr ⟨_, (nb_w 241 (List.mem_of_getElem? (i := 61) rfl) rfl)⟩⟩, ?_⟩
  refine List.forall_mem_cons.mpr ⟨⟨RC0, TC0, 13, yC0, cls_0 xs, by decide, by decide, Or.inl (tb_w 392 rfl rfl)⟩, ?_⟩
  refine List.forall_mem_cons.mpr ⟨⟨RC6, TC6, 4, yC6, cls_6 xs, by decide, by decide, Or.inr ⟨_, (nb_w 126 (List.mem_of_getElem? (i := 20) rfl) rfl)⟩⟩, ?_⟩
  refine List.forall_mem_cons.mpr ⟨⟨RC6, TC6, 4, yC6, cls_6 xs, by decide, by decide, Or.inr ⟨_, (nb_w 129 (List.mem_of_getElem? (i := 22) rfl) rfl)⟩⟩, ?_⟩
  refine List.forall_mem_cons.mpr ⟨⟨RC6, TC6, 4, yC6, cls_6 xs, by decide, by decide, Or.inr ⟨_, (nb_w 132 (List.mem_of_getElem? (i := 24) rfl) rfl)⟩⟩, ?_⟩
  refine List.forall_mem_cons.mpr ⟨⟨RC10, TC10, 19, yC10, cls_10 xs, by decide, by decide, Or.inr ⟨_, (nb_w 342 (List.mem_of_getElem? (i := 96) rfl) rfl)⟩⟩, ?_⟩
  refine List.forall_mem_cons.mpr ⟨⟨RC9, TC9, 12, yC9, cls_9 xs, by decide, by decide, Or.inr ⟨_, (nb_w 260 (List.mem_of_getElem? (i := 75) rfl) rfl)⟩⟩, ?_⟩
  refine List.forall_mem_cons.mpr ⟨⟨RC10, TC10, 19, yC10, cls_10 xs, by decide, by decide, Or.inr ⟨_, (nb_w 326 (List.mem_of_getElem? (i := 89) rfl) rfl)⟩⟩, ?_⟩
  refine List.forall_mem_cons.mpr ⟨⟨RC10, TC10, 19, yC10, cls_10 xs, by decide, by decide, Or.inr ⟨_, (nb_w 334 (List.mem_of_getElem? (i := 92) rfl) rfl)⟩⟩, ?_⟩
  refine List.forall_mem_cons.mpr ⟨⟨RC10, TC10, 19, yC10, cls_10 xs, by decide, by decide, Or.inr ⟨_, (nb_w 332 (List.mem_of_getElem? (i := 91) rfl) rfl)⟩⟩, ?_⟩
  refine List.forall_mem_cons.mpr ⟨⟨RC10, TC10, 19, yC10, cls_10 xs, by decide, by decide, Or.inr ⟨_, (nb_w 330 (List.mem_of_getElem? (i := 90) rfl) rfl)⟩⟩, ?_⟩
  refine List.forall_mem_cons.mpr ⟨⟨RC10, TC10, 19, yC10, cls_10 xs, by decide, by decide, Or.inr ⟨_, (nb_w 323 (List.mem_of_getElem? (i := 88) rfl) rfl)⟩⟩, ?_⟩
  refine List.forall_mem_cons.mpr ⟨⟨RC7, TC7, 5, yC7, cls_7 xs, by decide, by decide, Or.inr ⟨_, (nb_w 204 (List.mem_of_getElem? (i := 50) rfl) rfl)⟩⟩, ?_⟩
  refine List.forall_mem_cons.mpr ⟨⟨RC7, TC7, 5, yC7, cls_7 xs, by decide, by decide, Or.inr ⟨_, (nb_w 202 (List.mem_of_getElem? (i := 49) rfl) rfl)⟩⟩, ?_⟩
  refine List.forall_mem_cons.mpr ⟨⟨RC7, TC7, 5, yC7, cls_7 xs, by decide, by decide, Or.inr ⟨_, (nb_w 198 (List.mem_of_getElem? (i := 48) rfl) rfl)⟩⟩, ?_⟩
  refine List.forall_mem_cons.mpr ⟨⟨RC10, TC10, 19, yC10, cls_10 xs, by decide, by decide, Or.inr ⟨_, (nb_w 320 (List.mem_of_getElem? (i := 86) rfl) rfl)⟩⟩, ?_⟩
  refine List.forall_mem_cons.mpr ⟨⟨RC0, TC0, 13, yC0, cls_0 xs, by decide, by decide, Or.inl (tb_w 396 rfl rfl)⟩, ?_⟩
  refine List.forall_mem_cons.mpr ⟨⟨RC10, TC10, 19, yC10, cls_10 xs, by decide, by decide, Or.inr ⟨_, (nb_w 336 (List.mem_of_getElem? (i := 93) rfl) rfl)⟩⟩, ?_⟩
  refine List.forall_mem_cons.mpr ⟨⟨RC10, TC10, 19, yC10, cls_10 xs, by decide, by decide, Or.inr ⟨_, (nb_w 338 (List.mem_of_getElem? (i := 94) rfl) rfl)⟩⟩, ?_⟩
  refine List.forall_mem_cons.mpr ⟨⟨RC0, TC0, 13, yC0, cls_0 xs, by decide, by decide, Or.inl (tb_w 388 rfl rfl)⟩, ?_⟩
  refine List.forall_mem_cons.mpr ⟨⟨RC8, TC8, 4, yC8, cls_8 xs, by decide, by decide, Or.inr ⟨_, (nb_w 299 (List.mem_of_getElem? (i := 82) rfl) rfl)⟩⟩, ?_⟩
  refine List.forall_mem_cons.mpr ⟨⟨RC9, TC9, 12, yC9, cls_9 xs, by decide, by decide, Or.inr ⟨_, (nb_w 246 (List.mem_of_getElem? (i := 65) rfl) rfl)⟩⟩, ?_⟩
  refine List.forall_mem_cons.mpr ⟨⟨RC1, TC1, 2, yC1, cls_1 xs, by decide, by decide, Or.inr ⟨_, (nb_w 40 (List.mem_of_getElem? (i := 3) rfl) rfl)⟩⟩, ?_⟩
  exact fun e he => absurd he List.not_mem_nil
set_option maxRecDepth 20000 in
theorem hfl_2 (xs : List Int32) : ∀ e ∈ gFL_2, pm_fl (g_P xs) gTbl gCl gNst (g_cn 2) e.1 (e.2 / 64) (e.2 % 64) := by
  refine List.forall_mem_cons.mpr ⟨⟨RC1, TC1, 2, yC1, cls_1 xs, by decide, by decide, Or.inl (tb_w 41 rfl rfl)⟩, ?_⟩
  refine List.forall_mem_cons.mpr ⟨⟨RC1, TC1, 2, yC1, cls_1 xs, by decide, by decide, Or.inl (tb_w 37 rfl rfl)⟩, ?_⟩
  exact fun e he => absurd he List.not_mem_nil
set_option maxRecDepth 20000 in
theorem hfl_4 (xs : List Int32) : ∀ e ∈ gFL_4, pm_fl (g_P xs) gTbl gCl gNst (g_cn 4) e.1 (e.2 / 64) (e.2 % 64) := by
  refine List.forall_mem_cons.mpr ⟨⟨RC2, TC2, 6, yC2, cls_2 xs, by decide, by decide, Or.inl (tb_w 83 rfl rfl)⟩, ?_⟩
  refine List.forall_mem_cons.mpr ⟨⟨RC3, TC3, 5, yC3, cls_3 xs, by decide, by decide, Or.inr ⟨_, (nb_w 71 (List.mem_of_getElem? (i := 12) rfl) rfl)⟩⟩, ?_⟩
  refine List.forall_mem_cons.mpr ⟨⟨RC3, TC3, 5, yC3, cls_3 xs, by decide, by decide, Or.inr ⟨_, (nb_w 63 (List.mem_of_getElem? (i := 8) rfl) rfl)⟩⟩, ?_⟩
  refine List.forall_mem_cons.mpr ⟨⟨RC2, TC2, 6, yC2, cls_2 xs, by decide, by decide, Or.inl (tb_w 86 rfl rfl)⟩, ?_⟩
  refine List.forall_mem_cons.mpr ⟨⟨RC3, TC3, 5, yC3, cls_3 xs, by decide, by decide, Or.inr ⟨_, (nb_w 69 (List.mem_of_getElem? (i := 11) rfl) rfl)⟩⟩, ?_⟩
  refine List.forall_mem_cons.mpr ⟨⟨RC8, TC8, 4, yC8, cls_8 xs, by decide, by decide, Or.inr ⟨_, (nb_w 298 (List.mem_of_getElem? (i := 81) rfl) rfl)⟩⟩, ?_⟩
  refine List.forall_mem_cons.mpr ⟨⟨RC8, TC8, 4, yC8, cls_8 xs, by decide, by decide, Or.inr ⟨_, (nb_w 296 (List.mem_of_getElem? (i := 80) rfl) rfl)⟩⟩, ?_⟩
  refine List.forall_mem_cons.mpr ⟨⟨RC3, TC3, 5, yC3, cls_3 xs, by decide, by decide, Or.inr ⟨_, (nb_w 65 (List.mem_of_getElem? (i := 9) rfl) rfl)⟩⟩, ?_⟩
  refine List.forall_mem_cons.mpr ⟨⟨RC2, TC2, 6, yC2, cls_2 xs, by decide, by decide, Or.inl (tb_w 84 rfl rfl)⟩, ?_⟩
  refine List.forall_mem_cons.mpr ⟨⟨RC9, TC9, 12, yC9, cls_9 xs, by decide, by decide, Or.inr ⟨_, (nb_w 249 (List.mem_of_getElem? (i := 67) rfl) rfl)⟩⟩, ?_⟩
  refine List.forall_mem_cons.mpr ⟨⟨RC2, TC2, 6, yC2, cls_2 xs, by decide, by decide, Or.inl (tb_w 85 rfl rfl)⟩, ?_⟩
  refine List.forall_mem_cons.mpr ⟨⟨RC9, TC9, 12, yC9, cls_9 xs, by decide, by decide, Or.inr ⟨_, (nb_w 236 (List.mem_of_getElem? (i := 58) rfl) rfl)⟩⟩, ?_⟩
  refine List.forall_mem_cons.mpr ⟨⟨RC1, TC1, 2, yC1, cls_1 xs, by decide, by decide, Or.inr ⟨_, (nb_w 39 (List.mem_of_getElem? (i := 2) rfl) rfl)⟩⟩, ?_⟩
  refine List.forall_mem_cons.mpr ⟨⟨RC9, TC9, 12, yC9, cls_9 xs, by decide, by decide, Or.inr ⟨_, (nb_w 253 (List.mem_of_getElem? (i := 70) rfl) rfl)⟩⟩, ?_⟩
  refine List.forall_mem_cons.mpr ⟨⟨RC8, TC8, 4, yC8, cls_8 xs, by decide, by decide, Or.inr ⟨_, (nb_w 302 (List.mem_of_getElem? (i := 84) rfl) rfl)⟩⟩, ?_⟩
  refine List.forall_mem_cons.mpr ⟨⟨RC3, TC3, 5, yC3, cls_3 xs, by decide, by decide, Or.inr ⟨_, (nb_w 67 (List.mem_of_getElem? (i := 10) rfl) rfl)⟩⟩, ?_⟩
  refine List.forall_mem_cons.mpr ⟨⟨RC5, TC5, 5, yC5, cls_5 xs, by decide, by decide, Or.inr ⟨_, (nb_w 150 (List.mem_of_getElem? (i := 31) rfl) rfl)⟩⟩, ?_⟩
  refine List.forall_mem_cons.mpr ⟨⟨RC5, TC5, 5, yC5, cls_5 xs, by decide, by decide, Or.inr ⟨_, (nb_w 155 (List.mem_of_getElem? (i := 35) rfl) rfl)⟩⟩, ?_⟩
  refine List.forall_mem_cons.mpr ⟨⟨RC5, TC5, 5, yC5, cls_5 xs, by decide, by decide, Or.inr ⟨_, (nb_w 160 (List.mem_of_getElem? (i := 39) rfl) rfl)⟩⟩, ?_⟩
  exact fun e he => absurd he List.not_mem_nil
set_option maxRecDepth 20000 in
theorem hfl_5 (xs : List Int32) : ∀ e ∈ gFL_5, pm_fl (g_P xs) gTbl gCl gNst (g_cn 5) e.1 (e.2 / 64) (e.2 % 64) := by
  refine List.forall_mem_cons.mpr ⟨⟨RC1, TC1, 2, yC1, cls_1 xs, by decide, by decide, Or.inr ⟨_, (nb_w 42 (List.mem_of_getElem? (i := 4) rfl) rfl)⟩⟩, ?_⟩
  refine List.forall_mem_cons.mpr ⟨⟨RC1, TC1, 2, yC1, cls_1 xs, by decide, by decide, Or.inr ⟨_, (nb_w 38 (List.mem_of_getElem? (i := 1) rfl) rfl)⟩⟩, ?_⟩
  refine List.forall_mem_cons.mpr ⟨⟨RC3, TC3, 5, yC3, cls_3 xs, by decide, by decide, Or.inl (tb_w 70 rfl rfl)⟩, ?_⟩
  refine List.forall_mem_cons.mpr ⟨⟨RC3, TC3, 5, yC3, cls_3 xs, by decide, by decide, Or.inl (tb_w 62 rfl rfl)⟩, ?_⟩
  refine List.forall_mem_cons.mpr ⟨⟨RC3, TC3, 5, yC3, cls_3 xs, by decide, by decide, Or.inl (tb_w 64 rfl rfl)⟩, ?_⟩
  refine List.forall_mem_cons.mpr ⟨⟨RC3, TC3, 5, yC3, cls_3 xs, by decide, by decide, Or.inl (tb_w 66 rfl rfl)⟩, ?_⟩
  refine List.forall_mem_cons.mpr ⟨⟨RC3, TC3, 5, yC3, cls_3 xs, by decide, by decide, Or.inl (tb_w 68 rfl rfl)⟩, ?_⟩
  exact fun e he => absurd he List.not_mem_nil
set_option maxRecDepth 20000 in
theorem hfl_6 (xs : List Int32) : ∀ e ∈ gFL_6, pm_fl (g_P xs) gTbl gCl gNst (g_cn 6) e.1 (e.2 / 64) (e.2 % 64) := by
  refine List.forall_mem_cons.mpr ⟨⟨RC4, TC4, 3, yC4, cls_4 xs, by decide, by decide, Or.inl (tb_w 180 rfl rfl)⟩, ?_⟩
  refine List.forall_mem_cons.mpr ⟨⟨RC4, TC4, 3, yC4, cls_4 xs, by decide, by decide, Or.inl (tb_w 182 rfl rfl)⟩, ?_⟩
  refine List.forall_mem_cons.mpr ⟨⟨RC4, TC4, 3, yC4, cls_4 xs, by decide, by decide, Or.inl (tb_w 181 rfl rfl)⟩, ?_⟩
  exact fun e he => absurd he List.not_mem_nil
set_option maxRecDepth 20000 in
theorem hfl_7 (xs : List Int32) : ∀ e ∈ gFL_7, pm_fl (g_P xs) gTbl gCl gNst (g_cn 7) e.1 (e.2 / 64) (e.2 % 64) := by
  refine List.forall_mem_cons.mpr ⟨⟨RC5, TC5, 5, yC5, cls_5 xs, by decide, by decide, Or.inl (tb_w 146 rfl rfl)⟩, ?_⟩
  refine List.forall_mem_cons.mpr ⟨⟨RC5, TC5, 5, yC5, cls_5 xs, by decide, by decide, Or.inl (tb_w 151 rfl rfl)⟩, ?_⟩
  refine List.forall_mem_cons.mpr ⟨⟨RC5, TC5, 5, yC5, cls_5 xs, by decide, by decide, Or.inl (tb_w 156 rfl rfl)⟩, ?_⟩
  refine List.forall_mem_cons.mpr ⟨⟨RC5, TC5, 5, yC5, cls_5 xs, by decide, by decide, Or.inl (tb_w 161 rfl rfl)⟩, ?_⟩
  refine List.forall_mem_cons.mpr ⟨⟨RC5, TC5, 5, yC5, cls_5 xs, by decide, by decide, Or.inl (tb_w 165 rfl rfl)⟩, ?_⟩
  exact fun e he => absurd he List.not_mem_nil
set_option maxRecDepth 20000 in
theorem hfl_8 (xs : List Int32) : ∀ e ∈ gFL_8, pm_fl (g_P xs) gTbl gCl gNst (g_cn 8) e.1 (e.2 / 64) (e.2 % 64) := by
  refine List.forall_mem_cons.mpr ⟨⟨RC6, TC6, 4, yC6, cls_6 xs, by decide, by decide, Or.inl (tb_w 133 rfl rfl)⟩, ?_⟩
  refine List.forall_mem_cons.mpr ⟨⟨RC6, TC6, 4, yC6, cls_6 xs, by decide, by decide, Or.inl (tb_w 124 rfl rfl)⟩, ?_⟩
  refine List.forall_mem_cons.mpr ⟨⟨RC6, TC6, 4, yC6, cls_6 xs, by decide, by decide, Or.inl (tb_w 127 rfl rfl)⟩, ?_⟩
  refine List.forall_mem_cons.mpr ⟨⟨RC6, TC6, 4, yC6, cls_6 xs, by decide, by decide, Or.inl (tb_w 130 rfl rfl)⟩, ?_⟩
  exact fun e he => absurd he List.not_mem_nil
set_option maxRecDepth 20000 in
theorem hfl_9 (xs : List Int32) : ∀ e ∈ gFL_9, pm_fl (g_P xs) gTbl gCl gNst (g_cn 9) e.1 (e.2 / 64) (e.2 % 64) := by
  refine List.forall_mem_cons.mpr ⟨⟨RC10, TC10, 19, yC10, cls_10 xs, by decide, by decide, Or.inr ⟨_, (nb_w 341 (List.mem_of_getElem? (i := 95) rfl) rfl)⟩⟩, ?_⟩
  refine List.forall_mem_cons.mpr ⟨⟨RC9, TC9, 12, yC9, cls_9 xs, by decide, by decide, Or.inr ⟨_, (nb_w 248 (List.mem_of_getElem? (i := 66) rfl) rfl)⟩⟩, ?_⟩
  refine List.forall_mem_cons.mpr ⟨⟨RC9, TC9, 12, yC9, cls_9 xs, by decide, by decide, Or.inr ⟨_, (nb_w 252 (List.mem_of_getElem? (i := 69) rfl) rfl)⟩⟩, ?_⟩
  refine List.forall_mem_cons.mpr ⟨⟨RC10, TC10, 19, yC10, cls_10 xs, by decide, by decide, Or.inr ⟨_, (nb_w 322 (List.mem_of_getElem? (i := 87) rfl) rfl)⟩⟩, ?_⟩
  refine List.forall_mem_cons.mpr ⟨⟨RC7, TC7, 5, yC7, cls_7 xs, by decide, by decide, Or.inl (tb_w 197 rfl rfl)⟩, ?_⟩
  refine List.forall_mem_cons.mpr ⟨⟨RC9, TC9, 12, yC9, cls_9 xs, by decide, by decide, Or.inr ⟨_, (nb_w 256 (List.mem_of_getElem? (i := 72) rfl) rfl)⟩⟩, ?_⟩
  refine List.forall_mem_cons.mpr ⟨⟨RC7, TC7, 5, yC7, cls_7 xs, by decide, by decide, Or.inl (tb_w 199 rfl rfl)⟩, ?_⟩
  refine List.forall_mem_cons.mpr ⟨⟨RC7, TC7, 5, yC7, cls_7 xs, by decide, by decide, Or.inl (tb_w 200 rfl rfl)⟩, ?_⟩
  refine List.forall_mem_cons.mpr ⟨⟨RC7, TC7, 5, yC7, cls_7 xs, by decide, by decide, Or.inl (tb_w 203 rfl rfl)⟩, ?_⟩
  exact fun e he => absurd he List.not_mem_nil
set_option maxRecDepth 20000 in
theorem hfl_10 (xs : List Int32) : ∀ e ∈ gFL_10, pm_fl (g_P xs) gTbl gCl gNst (g_cn 10) e.1 (e.2 / 64) (e.2 % 64) := by
  refine List.forall_mem_cons.mpr ⟨⟨RC8, TC8, 4, yC8, cls_8 xs, by decide, by decide, Or.inl (tb_w 292 rfl rfl)⟩, ?_⟩
  refine List.forall_mem_cons.mpr ⟨⟨RC8, TC8, 4, yC8, cls_8 xs, by decide, by decide, Or.inl (tb_w 294 rfl rfl)⟩, ?_⟩
  refine List.forall_mem_cons.mpr ⟨⟨RC8, TC8, 4, yC8, cls_8 xs, by decide, by decide, Or.inl (tb_w 297 rfl rfl)⟩, ?_⟩
  refine List.forall_mem_cons.mpr ⟨⟨RC8, TC8, 4, yC8, cls_8 xs, by decide, by decide, Or.inl (tb_w 300 rfl rfl)⟩, ?_⟩
  refine List.forall_mem_cons.mpr ⟨⟨RC5, TC5, 5, yC5, cls_5 xs, by decide, by decide, Or.inr ⟨_, (nb_w 149 (List.mem_of_getElem? (i := 30) rfl) rfl)⟩⟩, ?_⟩
  refine List.forall_mem_cons.mpr ⟨⟨RC5, TC5, 5, yC5, cls_5 xs, by decide, by decide, Or.inr ⟨_, (nb_w 154 (List.mem_of_getElem? (i := 34) rfl) rfl)⟩⟩, ?_⟩
  refine List.forall_mem_cons.mpr ⟨⟨RC5, TC5, 5, yC5, cls_5 xs, by decide, by decide, Or.inr ⟨_, (nb_w 159 (List.mem_of_getElem? (i := 38) rfl) rfl)⟩⟩, ?_⟩
  refine List.forall_mem_cons.mpr ⟨⟨RC9, TC9, 12, yC9, cls_9 xs, by decide, by decide, Or.inr ⟨_, (nb_w 244 (List.mem_of_getElem? (i := 63) rfl) rfl)⟩⟩, ?_⟩
  refine List.forall_mem_cons.mpr ⟨⟨RC5, TC5, 5, yC5, cls_5 xs, by decide, by decide, Or.inr ⟨_, (nb_w 166 (List.mem_of_getElem? (i := 43) rfl) rfl)⟩⟩, ?_⟩
  exact fun e he => absurd he List.not_mem_nil
set_option maxRecDepth 20000 in
theorem hfl_11 (xs : List Int32) : ∀ e ∈ gFL_11, pm_fl (g_P xs) gTbl gCl gNst (g_cn 11) e.1 (e.2 / 64) (e.2 % 64) := by
  refine List.forall_mem_cons.mpr ⟨⟨RC9, TC9, 12, yC9, cls_9 xs, by decide, by decide, Or.inl (tb_w 233 rfl rfl)⟩, ?_⟩
  refine List.forall_mem_cons.mpr ⟨⟨RC9, TC9, 12, yC9, cls_9 xs, by decide, by decide, Or.inl (tb_w 254 rfl rfl)⟩, ?_⟩
  refine List.forall_mem_cons.mpr ⟨⟨RC9, TC9, 12, yC9, cls_9 xs, by decide, by decide, Or.inl (tb_w 247 rfl rfl)⟩, ?_⟩
  refine List.forall_mem_cons.mpr ⟨⟨RC9, TC9, 12, yC9, cls_9 xs, by decide, by decide, Or.inl (tb_w 251 rfl rfl)⟩, ?_⟩
  refine List.forall_mem_cons.mpr ⟨⟨RC9, TC9, 12, yC9, cls_9 xs, by decide, by decide, Or.inl (tb_w 237 rfl rfl)⟩, ?_⟩
  refine List.forall_mem_cons.mpr ⟨⟨RC9, TC9, 12, yC9, cls_9 xs, by decide, by decide, Or.inl (tb_w 258 rfl rfl)⟩, ?_⟩
  refine List.forall_mem_cons.mpr ⟨⟨RC9, TC9, 12, yC9, cls_9 xs, by decide, by decide, Or.inl (tb_w 261 rfl rfl)⟩, ?_⟩
  refine List.forall_mem_cons.mpr ⟨⟨RC9, TC9, 12, yC9, cls_9 xs, by decide, by decide, Or.inl (tb_w 240 rfl rfl)⟩, ?_⟩
  refine List.forall_mem_cons.mpr ⟨⟨RC9, TC9, 12, yC9, cls_9 xs, by decide, by decide, Or.inl (tb_w 264 rfl rfl)⟩, ?_⟩
  refine List.forall_mem_cons.mpr ⟨⟨RC9, TC9, 12, yC9, cls_9 xs, by decide, by decide, Or.inl (tb_w 266 rfl rfl)⟩, ?_⟩
  refine List.forall_mem_cons.mpr ⟨⟨RC9, TC9, 12, yC9, cls_9 xs, by decide, by decide, Or.inl (tb_w 263 rfl rfl)⟩, ?_⟩
  exact fun e he => absurd he List.not_mem_nil
set_option maxRecDepth 20000 in
theorem hfl_12 (xs : List Int32) : ∀ e ∈ gFL_12, pm_fl (g_P xs) gTbl gCl gNst (g_cn 12) e.1 (e.2 / 64) (e.2 % 64) := by
  refine List.forall_mem_cons.mpr ⟨⟨RC10, TC10, 19, yC10, cls_10 xs, by decide, by decide, Or.inl (tb_w 344 rfl rfl)⟩, ?_⟩
  refine List.forall_mem_cons.mpr ⟨⟨RC10, TC10, 19, yC10, cls_10 xs, by decide, by decide, Or.inl (tb_w 324 rfl rfl)⟩, ?_⟩
  refine List.forall_mem_cons.mpr ⟨⟨RC10, TC10, 19, yC10, cls_10 xs, by decide, by decide, Or.inl (tb_w 340 rfl rfl)⟩, ?_⟩
  refine List.forall_mem_cons.mpr ⟨⟨RC9, TC9, 12, yC9, cls_9 xs, by decide, by decide, Or.inr ⟨_, (nb_w 255 (List.mem_of_getElem? (i := 71) rfl) rfl)⟩⟩, ?_⟩
  refine List.forall_mem_cons.mpr ⟨⟨RC10, TC10, 19, yC10, cls_10 xs, by decide, by decide, Or.inl (tb_w 343 rfl rfl)⟩, ?_⟩
  refine List.forall_mem_cons.mpr ⟨⟨RC5, TC5, 5, yC5, cls_5 xs, by decide, by decide, Or.inr ⟨_, (nb_w 147 (List.mem_of_getElem? (i := 28) rfl) rfl)⟩⟩, ?_⟩
  refine List.forall_mem_cons.mpr ⟨⟨RC10, TC10, 19, yC10, cls_10 xs, by decide, by decide, Or.inl (tb_w 319 rfl rfl)⟩, ?_⟩
  refine List.forall_mem_cons.mpr ⟨⟨RC10, TC10, 19, yC10, cls_10 xs, by decide, by decide, Or.inl (tb_w 321 rfl rfl)⟩, ?_⟩
  refine List.forall_mem_cons.mpr ⟨⟨RC10, TC10, 19, yC10, cls_10 xs, by decide, by decide, Or.inl (tb_w 318 rfl rfl)⟩, ?_⟩
  refine List.forall_mem_cons.mpr ⟨⟨RC5, TC5, 5, yC5, cls_5 xs, by decide, by decide, Or.inr ⟨_, (nb_w 152 (List.mem_of_getElem? (i := 32) rfl) rfl)⟩⟩, ?_⟩
  refine List.forall_mem_cons.mpr ⟨⟨RC6, TC6, 4, yC6, cls_6 xs, by decide, by decide, Or.inr ⟨_, (nb_w 135 (List.mem_of_getElem? (i := 26) rfl) rfl)⟩⟩, ?_⟩
  refine List.forall_mem_cons.mpr ⟨⟨RC6, TC6, 4, yC6, cls_6 xs, by decide, by decide, Or.inr ⟨_, (nb_w 125 (List.mem_of_getElem? (i := 19) rfl) rfl)⟩⟩, ?_⟩
  refine List.forall_mem_cons.mpr ⟨⟨RC6, TC6, 4, yC6, cls_6 xs, by decide, by decide, Or.inr ⟨_, (nb_w 128 (List.mem_of_getElem? (i := 21) rfl) rfl)⟩⟩, ?_⟩
  refine List.forall_mem_cons.mpr ⟨⟨RC6, TC6, 4, yC6, cls_6 xs, by decide, by decide, Or.inr ⟨_, (nb_w 131 (List.mem_of_getElem? (i := 23) rfl) rfl)⟩⟩, ?_⟩
  refine List.forall_mem_cons.mpr ⟨⟨RC5, TC5, 5, yC5, cls_5 xs, by decide, by decide, Or.inr ⟨_, (nb_w 162 (List.mem_of_getElem? (i := 40) rfl) rfl)⟩⟩, ?_⟩
  refine List.forall_mem_cons.mpr ⟨⟨RC9, TC9, 12, yC9, cls_9 xs, by decide, by decide, Or.inr ⟨_, (nb_w 234 (List.mem_of_getElem? (i := 56) rfl) rfl)⟩⟩, ?_⟩
  refine List.forall_mem_cons.mpr ⟨⟨RC5, TC5, 5, yC5, cls_5 xs, by decide, by decide, Or.inr ⟨_, (nb_w 157 (List.mem_of_getElem? (i := 36) rfl) rfl)⟩⟩, ?_⟩
  refine List.forall_mem_cons.mpr ⟨⟨RC10, TC10, 19, yC10, cls_10 xs, by decide, by decide, Or.inl (tb_w 325 rfl rfl)⟩, ?_⟩
  refine List.forall_mem_cons.mpr ⟨⟨RC10, TC10, 19, yC10, cls_10 xs, by decide, by decide, Or.inl (tb_w 327 rfl rfl)⟩, ?_⟩
  refine List.forall_mem_cons.mpr ⟨⟨RC10, TC10, 19, yC10, cls_10 xs, by decide, by decide, Or.inl (tb_w 345 rfl rfl)⟩, ?_⟩
  refine List.forall_mem_cons.mpr ⟨⟨RC10, TC10, 19, yC10, cls_10 xs, by decide, by decide, Or.inl (tb_w 328 rfl rfl)⟩, ?_⟩
  refine List.forall_mem_cons.mpr ⟨⟨RC10, TC10, 19, yC10, cls_10 xs, by decide, by decide, Or.inl (tb_w 339 rfl rfl)⟩, ?_⟩
  refine List.forall_mem_cons.mpr ⟨⟨RC9, TC9, 12, yC9, cls_9 xs, by decide, by decide, Or.inr ⟨_, (nb_w 265 (List.mem_of_getElem? (i := 77) rfl) rfl)⟩⟩, ?_⟩
  refine List.forall_mem_cons.mpr ⟨⟨RC9, TC9, 12, yC9, cls_9 xs, by decide, by decide, Or.inr ⟨_, (nb_w 262 (List.mem_of_getElem? (i := 76) rfl) rfl)⟩⟩, ?_⟩
  refine List.forall_mem_cons.mpr ⟨⟨RC9, TC9, 12, yC9, cls_9 xs, by decide, by decide, Or.inr ⟨_, (nb_w 259 (List.mem_of_getElem? (i := 74) rfl) rfl)⟩⟩, ?_⟩
  refine List.forall_mem_cons.mpr ⟨⟨RC9, TC9, 12, yC9, cls_9 xs, by decide, by decide, Or.inr ⟨_, (nb_w 242 (List.mem_of_getElem? (i := 62) rfl) rfl)⟩⟩, ?_⟩
  refine List.forall_mem_cons.mpr ⟨⟨RC10, TC10, 19, yC10, cls_10 xs, by decide, by decide, Or.inl (tb_w 346 rfl rfl)⟩, ?_⟩
  refine List.forall_mem_cons.mpr ⟨⟨RC10, TC10, 19, yC10, cls_10 xs, by decide, by decide, Or.inl (tb_w 329 rfl rfl)⟩, ?_⟩
  refine List.forall_mem_cons.mpr ⟨⟨RC10, TC10, 19, yC10, cls_10 xs, by decide, by decide, Or.inl (tb_w 331 rfl rfl)⟩, ?_⟩
  refine List.forall_mem_cons.mpr ⟨⟨RC9, TC9, 12, yC9, cls_9 xs, by decide, by decide, Or.inr ⟨_, (nb_w 239 (List.mem_of_getElem? (i := 60) rfl) rfl)⟩⟩, ?_⟩
  refine List.forall_mem_cons.mpr ⟨⟨RC10, TC10, 19, yC10, cls_10 xs, by decide, by decide, Or.inl (tb_w 333 rfl rfl)⟩, ?_⟩
  refine List.forall_mem_cons.mpr ⟨⟨RC10, TC10, 19, yC10, cls_10 xs, by decide, by decide, Or.inl (tb_w 347 rfl rfl)⟩, ?_⟩
  refine List.forall_mem_cons.mpr ⟨⟨RC10, TC10, 19, yC10, cls_10 xs, by decide, by decide, Or.inl (tb_w 335 rfl rfl)⟩, ?_⟩
  refine List.forall_mem_cons.mpr ⟨⟨RC10, TC10, 19, yC10, cls_10 xs, by decide, by decide, Or.inl (tb_w 337 rfl rfl)⟩, ?_⟩
  exact fun e he => absurd he List.not_mem_nil
set_option maxRecDepth 20000 in
theorem hfl_14 (xs : List Int32) : ∀ e ∈ gFL_14, pm_fl (g_P xs) gTbl gCl gNst (g_cn 14) e.1 (e.2 / 64) (e.2 % 64) := by
  refine List.forall_mem_cons.mpr ⟨⟨RC11, TC11, 58, yC11, cls_11 xs, by decide, by decide, Or.inl (tb_w 1247 rfl rfl)⟩, ?_⟩
  refine List.forall_mem_cons.mpr ⟨⟨RC11, TC11, 58, yC11, cls_11 xs, by decide, by decide, Or.inl (tb_w 1261 rfl rfl)⟩, ?_⟩
  refine List.forall_mem_cons.mpr ⟨⟨RC11, TC11, 58, yC11, cls_11 xs, by decide, by decide, Or.inl (tb_w 1263 rfl rfl)⟩, ?_⟩
  refine List.forall_mem_cons.mpr ⟨⟨RC11, TC11, 58, yC11, cls_11 xs, by decide, by decide, Or.inl (tb_w 1266 rfl rfl)⟩, ?_⟩
  refine List.forall_mem_cons.mpr ⟨⟨RC11, TC11, 58, yC11, cls_11 xs, by decide, by decide, Or.inl (tb_w 1269 rfl rfl)⟩, ?_⟩
  refine List.forall_mem_cons.mpr ⟨⟨RC11, TC11, 58, yC11, cls_11 xs, by decide, by decide, Or.inl (tb_w 1267 rfl rfl)⟩, ?_⟩
  refine List.forall_mem_cons.mpr ⟨⟨RC11, TC11, 58, yC11, cls_11 xs, by decide, by decide, Or.inl (tb_w 1268 rfl rfl)⟩, ?_⟩
  refine List.forall_mem_cons.mpr ⟨⟨RC11, TC11, 58, yC11, cls_11 xs, by decide, by decide, Or.inl (tb_w 1251 rfl rfl)⟩, ?_⟩
  refine List.forall_mem_cons.mpr ⟨⟨RC11, TC11, 58, yC11, cls_11 xs, by decide, by decide, Or.inl (tb_w 1270 rfl rfl)⟩, ?_⟩
  refine List.forall_mem_cons.mpr ⟨⟨RC11, TC11, 58, yC11, cls_11 xs, by decide, by decide, Or.inl (tb_w 1253 rfl rfl)⟩, ?_⟩
  refine List.forall_mem_cons.mpr ⟨⟨RC11, TC11, 58, yC11, cls_11 xs, by decide, by decide, Or.inl (tb_w 1255 rfl rfl)⟩, ?_⟩
  refine List.forall_mem_cons.mpr ⟨⟨RC11, TC11, 58, yC11, cls_11 xs, by decide, by decide, Or.inl (tb_w 1265 rfl rfl)⟩, ?_⟩
  refine List.forall_mem_cons.mpr ⟨⟨RC11, TC11, 58, yC11, cls_11 xs, by decide, by decide, Or.inl (tb_w 1276 rfl rfl)⟩, ?_⟩
  refine List.forall_mem_cons.mpr ⟨⟨RC11, TC11, 58, yC11, cls_11 xs, by decide, by decide, Or.inl (tb_w 1275 rfl rfl)⟩, ?_⟩
  refine List.forall_mem_cons.mpr ⟨⟨RC11, TC11, 58, yC11, cls_11 xs, by decide, by decide, Or.inl (tb_w 1274 rfl rfl)⟩, ?_⟩
  refine List.forall_mem_cons.mpr ⟨⟨RC11, TC11, 58, yC11, cls_11 xs, by decide, by decide, Or.inl (tb_w 1271 rfl rfl)⟩, ?_⟩
  refine List.forall_mem_cons.mpr ⟨⟨RC11, TC11, 58, yC11, cls_11 xs, by decide, by decide, Or.inl (tb_w 1272 rfl rfl)⟩, ?_⟩
  refine List.forall_mem_cons.mpr ⟨⟨RC11, TC11, 58, yC11, cls_11 xs, by decide, by decide, Or.inl (tb_w 1273 rfl rfl)⟩, ?_⟩
  refine List.forall_mem_cons.mpr ⟨⟨RC11, TC11, 58, yC11, cls_11 xs, by decide, by decide, Or.inl (tb_w 1277 rfl rfl)⟩, ?_⟩
  refine List.forall_mem_cons.mpr ⟨⟨RC11, TC11, 58, yC11, cls_11 xs, by decide, by decide, Or.inl (tb_w 1279 rfl rfl)⟩, ?_⟩
  refine List.forall_mem_cons.mpr ⟨⟨RC11, TC11, 58, yC11, cls_11 xs, by decide, by decide, Or.inl (tb_w 1280 rfl rfl)⟩, ?_⟩
  refine List.forall_mem_cons.mpr ⟨⟨RC11, TC11, 58, yC11, cls_11 xs, by decide, by decide, Or.inl (tb_w 1281 rfl rfl)⟩, ?_⟩
  refine List.forall_mem_cons.mpr ⟨⟨RC11, TC11, 58, yC11, cls_11 xs, by decide, by decide, Or.inl (tb_w 1283 rfl rfl)⟩, ?_⟩
  refine List.forall_mem_cons.mpr ⟨⟨RC11, TC11, 58, yC11, cls_11 xs, by decide, by decide, Or.inl (tb_w 1282 rfl rfl)⟩, ?_⟩
  refine List.forall_mem_cons.mpr ⟨⟨RC11, TC11, 58, yC11, cls_11 xs, by decide, by decide, Or.inl (tb_w 1284 rfl rfl)⟩, ?_⟩
  refine List.forall_mem_cons.mpr ⟨⟨RC11, TC11, 58, yC11, cls_11 xs, by decide, by decide, Or.inl (tb_w 1285 rfl rfl)⟩, ?_⟩
  refine List.forall_mem_cons.mpr ⟨⟨RC11, TC11, 58, yC11, cls_11 xs, by decide, by decide, Or.inl (tb_w 1288 rfl rfl)⟩, ?_⟩
  refine List.forall_mem_cons.mpr ⟨⟨RC11, TC11, 58, yC11, cls_11 xs, by decide, by decide, Or.inl (tb_w 1286 rfl rfl)⟩, ?_⟩
  refine List.forall_mem_cons.mpr ⟨⟨RC11, TC11, 58, yC11, cls_11 xs, by decide, by decide, Or.inl (tb_w 1287 rfl rfl)⟩, ?_⟩
  refine List.forall_mem_cons.mpr ⟨⟨RC11, TC11, 58, yC11, cls_11 xs, by decide, by decide, Or.inl (tb_w 1290 rfl rfl)⟩, ?_⟩
  refine List.forall_mem_cons.mpr ⟨⟨RC11, TC11, 58, yC11, cls_11 xs, by decide, by decide, Or.inl (tb_w 1289 rfl rfl)⟩, ?_⟩
  refine List.forall_mem_cons.mpr ⟨⟨RC11, TC11, 58, yC11, cls_11 xs, by decide, by decide, Or.inl (tb_w 1264 rfl rfl)⟩, ?_⟩
  refine List.forall_mem_cons.mpr ⟨⟨RC11, TC11, 58, yC11, cls_11 xs, by decide, by decide, Or.inl (tb_w 1297 rfl rfl)⟩, ?_⟩
  refine List.forall_mem_cons.mpr ⟨⟨RC11, TC11, 58, yC11, cls_11 xs, by decide, by decide, Or.inl (tb_w 1293 rfl rfl)⟩, ?_⟩
  refine List.forall_mem_cons.mpr ⟨⟨RC11, TC11, 58, yC11, cls_11 xs, by decide, by decide, Or.inl (tb_w 1294 rfl rfl)⟩, ?_⟩
  refine List.forall_mem_cons.mpr ⟨⟨RC11, TC11, 58, yC11, cls_11 xs, by decide, by decide, Or.inl (tb_w 1262 rfl rfl)⟩, ?_⟩
  refine List.forall_mem_cons.mpr ⟨⟨RC11, TC11, 58, yC11, cls_11 xs, by decide, by decide, Or.inl (tb_w 1252 rfl rfl)⟩, ?_⟩
  refine List.forall_mem_cons.mpr ⟨⟨RC11, TC11, 58, yC11, cls_11 xs, by decide, by decide, Or.inl (tb_w 1254 rfl rfl)⟩, ?_⟩
  refine List.forall_mem_cons.mpr ⟨⟨RC11, TC11, 58, yC11, cls_11 xs, by decide, by decide, Or.inl (tb_w 1256 rfl rfl)⟩, ?_⟩
  refine List.forall_mem_cons.mpr ⟨⟨RC11, TC11, 58, yC11, cls_11 xs, by decide, by decide, Or.inl (tb_w 1249 rfl rfl)⟩, ?_⟩
  refine List.forall_mem_cons.mpr ⟨⟨RC11, TC11, 58, yC11, cls_11 xs, by decide, by decide, Or.inl (tb_w 1250 rfl rfl)⟩, ?_⟩
  refine List.forall_mem_cons.mpr ⟨⟨RC11, TC11, 58, yC11, cls_11 xs, by decide, by decide, Or.inl (tb_w 1257 rfl rfl)⟩, ?_⟩
  refine List.forall_mem_cons.mpr ⟨⟨RC11, TC11, 58, yC11, cls_11 xs, by decide, by decide, Or.inl (tb_w 1258 rfl rfl)⟩, ?_⟩
  refine List.forall_mem_cons.mpr ⟨⟨RC11, TC11, 58, yC11, cls_11 xs, by decide, by decide, Or.inl (tb_w 1259 rfl rfl)⟩, ?_⟩
  refine List.forall_mem_cons.mpr ⟨⟨RC11, TC11, 58, yC11, cls_11 xs, by decide, by decide, Or.inl (tb_w 1260 rfl rfl)⟩, ?_⟩
  refine List.forall_mem_cons.mpr ⟨⟨RC11, TC11, 58, yC11, cls_11 xs, by decide, by decide, Or.inl (tb_w 1296 rfl rfl)⟩, ?_⟩
  refine List.forall_mem_cons.mpr ⟨⟨RC11, TC11, 58, yC11, cls_11 xs, by decide, by decide, Or.inl (tb_w 1295 rfl rfl)⟩, ?_⟩
  refine List.forall_mem_cons.mpr ⟨⟨RC11, TC11, 58, yC11, cls_11 xs, by decide, by decide, Or.inl (tb_w 1299 rfl rfl)⟩, ?_⟩
  refine List.forall_mem_cons.mpr ⟨⟨RC11, TC11, 58, yC11, cls_11 xs, by decide, by decide, Or.inl (tb_w 1301 rfl rfl)⟩, ?_⟩
  refine List.forall_mem_cons.mpr ⟨⟨RC11, TC11, 58, yC11, cls_11 xs, by decide, by decide, Or.inl (tb_w 1298 rfl rfl)⟩, ?_⟩
  refine List.forall_mem_cons.mpr ⟨⟨RC11, TC11, 58, yC11, cls_11 xs, by decide, by decide, Or.inl (tb_w 1300 rfl rfl)⟩, ?_⟩
  refine List.forall_mem_cons.mpr ⟨⟨RC11, TC11, 58, yC11, cls_11 xs, by decide, by decide, Or.inl (tb_w 1302 rfl rfl)⟩, ?_⟩
  refine List.forall_mem_cons.mpr ⟨⟨RC11, TC11, 58, yC11, cls_11 xs, by decide, by decide, Or.inl (tb_w 1291 rfl rfl)⟩, ?_⟩
  refine List.forall_mem_cons.mpr ⟨⟨RC11, TC11, 58, yC11, cls_11 xs, by decide, by decide, Or.inl (tb_w 1292 rfl rfl)⟩, ?_⟩
  refine List.forall_mem_cons.mpr ⟨⟨RC11, TC11, 58, yC11, cls_11 xs, by decide, by decide, Or.inl (tb_w 1304 rfl rfl)⟩, ?_⟩
  refine List.forall_mem_cons.mpr ⟨⟨RC11, TC11, 58, yC11, cls_11 xs, by decide, by decide, Or.inl (tb_w 1303 rfl rfl)⟩, ?_⟩
  exact fun e he => absurd he List.not_mem_nil
set_option maxRecDepth 20000 in
theorem hfp_1 (xs : List Int32) : ∀ e ∈ gFP_1, ∀ nm, (gfin e.2 = true → nm = "<init>") → pm_fp (g_P xs) gTbl gCl gNst (g_cn 1) nm e.1 (e.2 / 64) (e.2 % 64) := by
  refine List.forall_mem_cons.mpr ⟨fun nm h => ⟨RC0, TC0, 13, yC0, cls_0 xs, by decide, by decide, Or.inr ⟨rfl, h rfl, rfl, (tb_w 387 rfl rfl)⟩⟩, ?_⟩
  refine List.forall_mem_cons.mpr ⟨fun nm h => ⟨RC0, TC0, 13, yC0, cls_0 xs, by decide, by decide, Or.inr ⟨rfl, h rfl, rfl, (tb_w 388 rfl rfl)⟩⟩, ?_⟩
  refine List.forall_mem_cons.mpr ⟨fun nm h => ⟨RC0, TC0, 13, yC0, cls_0 xs, by decide, by decide, Or.inr ⟨rfl, h rfl, rfl, (tb_w 389 rfl rfl)⟩⟩, ?_⟩
  refine List.forall_mem_cons.mpr ⟨fun nm h => ⟨RC0, TC0, 13, yC0, cls_0 xs, by decide, by decide, Or.inr ⟨rfl, h rfl, rfl, (tb_w 390 rfl rfl)⟩⟩, ?_⟩
  refine List.forall_mem_cons.mpr ⟨fun nm h => ⟨RC0, TC0, 13, yC0, cls_0 xs, by decide, by decide, Or.inr ⟨rfl, h rfl, rfl, (tb_w 391 rfl rfl)⟩⟩, ?_⟩
  refine List.forall_mem_cons.mpr ⟨fun nm h => ⟨RC0, TC0, 13, yC0, cls_0 xs, by decide, by decide, Or.inr ⟨rfl, h rfl, rfl, (tb_w 392 rfl rfl)⟩⟩, ?_⟩
  refine List.forall_mem_cons.mpr ⟨fun nm h => ⟨RC0, TC0, 13, yC0, cls_0 xs, by decide, by decide, Or.inl ⟨rfl, Or.inl (tb_w 393 rfl rfl)⟩⟩, ?_⟩
  refine List.forall_mem_cons.mpr ⟨fun nm h => ⟨RC0, TC0, 13, yC0, cls_0 xs, by decide, by decide, Or.inl ⟨rfl, Or.inl (tb_w 394 rfl rfl)⟩⟩, ?_⟩
  refine List.forall_mem_cons.mpr ⟨fun nm h => ⟨RC0, TC0, 13, yC0, cls_0 xs, by decide, by decide, Or.inr ⟨rfl, h rfl, rfl, (tb_w 395 rfl rfl)⟩⟩, ?_⟩
  refine List.forall_mem_cons.mpr ⟨fun nm h => ⟨RC0, TC0, 13, yC0, cls_0 xs, by decide, by decide, Or.inr ⟨rfl, h rfl, rfl, (tb_w 396 rfl rfl)⟩⟩, ?_⟩
  refine List.forall_mem_cons.mpr ⟨fun nm h => ⟨RC0, TC0, 13, yC0, cls_0 xs, by decide, by decide, Or.inl ⟨rfl, Or.inl (tb_w 397 rfl rfl)⟩⟩, ?_⟩
  refine List.forall_mem_cons.mpr ⟨fun nm h => ⟨RC0, TC0, 13, yC0, cls_0 xs, by decide, by decide, Or.inl ⟨rfl, Or.inl (tb_w 398 rfl rfl)⟩⟩, ?_⟩
  refine List.forall_mem_cons.mpr ⟨fun nm h => ⟨RC0, TC0, 13, yC0, cls_0 xs, by decide, by decide, Or.inl ⟨rfl, Or.inl (tb_w 399 rfl rfl)⟩⟩, ?_⟩
  refine List.forall_mem_cons.mpr ⟨fun nm h => ⟨RC5, TC5, 5, yC5, cls_5 xs, by decide, by decide, Or.inl ⟨rfl, Or.inr ⟨_, (nb_w 163 (List.mem_of_getElem? (i := 41) rfl) rfl)⟩⟩⟩, ?_⟩
  refine List.forall_mem_cons.mpr ⟨fun nm h => ⟨RC5, TC5, 5, yC5, cls_5 xs, by decide, by decide, Or.inl ⟨rfl, Or.inr ⟨_, (nb_w 167 (List.mem_of_getElem? (i := 44) rfl) rfl)⟩⟩⟩, ?_⟩
  exact fun e he => absurd he List.not_mem_nil
set_option maxRecDepth 20000 in
theorem hfp_2 (xs : List Int32) : ∀ e ∈ gFP_2, ∀ nm, (gfin e.2 = true → nm = "<init>") → pm_fp (g_P xs) gTbl gCl gNst (g_cn 2) nm e.1 (e.2 / 64) (e.2 % 64) := by
  refine List.forall_mem_cons.mpr ⟨fun nm h => ⟨RC1, TC1, 2, yC1, cls_1 xs, by decide, by decide, Or.inl ⟨rfl, Or.inl (tb_w 41 rfl rfl)⟩⟩, ?_⟩
  refine List.forall_mem_cons.mpr ⟨fun nm h => ⟨RC1, TC1, 2, yC1, cls_1 xs, by decide, by decide, Or.inr ⟨rfl, h rfl, rfl, (tb_w 37 rfl rfl)⟩⟩, ?_⟩
  exact fun e he => absurd he List.not_mem_nil
set_option maxRecDepth 20000 in
theorem hfp_4 (xs : List Int32) : ∀ e ∈ gFP_4, ∀ nm, (gfin e.2 = true → nm = "<init>") → pm_fp (g_P xs) gTbl gCl gNst (g_cn 4) nm e.1 (e.2 / 64) (e.2 % 64) := by
  refine List.forall_mem_cons.mpr ⟨fun nm h => ⟨RC2, TC2, 6, yC2, cls_2 xs, by decide, by decide, Or.inr ⟨rfl, h rfl, rfl, (tb_w 83 rfl rfl)⟩⟩, ?_⟩
  refine List.forall_mem_cons.mpr ⟨fun nm h => ⟨RC2, TC2, 6, yC2, cls_2 xs, by decide, by decide, Or.inr ⟨rfl, h rfl, rfl, (tb_w 84 rfl rfl)⟩⟩, ?_⟩
  refine List.forall_mem_cons.mpr ⟨fun nm h => ⟨RC2, TC2, 6, yC2, cls_2 xs, by decide, by decide, Or.inl ⟨rfl, Or.inl (tb_w 85 rfl rfl)⟩⟩, ?_⟩
  refine List.forall_mem_cons.mpr ⟨fun nm h => ⟨RC2, TC2, 6, yC2, cls_2 xs, by decide, by decide, Or.inl ⟨rfl, Or.inl (tb_w 86 rfl rfl)⟩⟩, ?_⟩
  refine List.forall_mem_cons.mpr ⟨fun nm h => ⟨RC2, TC2, 6, yC2, cls_2 xs, by decide, by decide, Or.inl ⟨rfl, Or.inl (tb_w 87 rfl rfl)⟩⟩, ?_⟩
  refine List.forall_mem_cons.mpr ⟨fun nm h => ⟨RC2, TC2, 6, yC2, cls_2 xs, by decide, by decide, Or.inl ⟨rfl, Or.inl (tb_w 89 rfl rfl)⟩⟩, ?_⟩
  refine List.forall_mem_cons.mpr ⟨fun nm h => ⟨RC9, TC9, 12, yC9, cls_9 xs, by decide, by decide, Or.inl ⟨rfl, Or.inr ⟨_, (nb_w 245 (List.mem_of_getElem? (i := 64) rfl) rfl)⟩⟩⟩, ?_⟩
  refine List.forall_mem_cons.mpr ⟨fun nm h => ⟨RC8, TC8, 4, yC8, cls_8 xs, by decide, by decide, Or.inl ⟨rfl, Or.inr ⟨_, (nb_w 302 (List.mem_of_getElem? (i := 84) rfl) rfl)⟩⟩⟩, ?_⟩
  refine List.forall_mem_cons.mpr ⟨fun nm h => ⟨RC5, TC5, 5, yC5, cls_5 xs, by decide, by decide, Or.inl ⟨rfl, Or.inr ⟨_, (nb_w 164 (List.mem_of_getElem? (i := 42) rfl) rfl)⟩⟩⟩, ?_⟩
  refine List.forall_mem_cons.mpr ⟨fun nm h => ⟨RC5, TC5, 5, yC5, cls_5 xs, by decide, by decide, Or.inl ⟨rfl, Or.inr ⟨_, (nb_w 168 (List.mem_of_getElem? (i := 45) rfl) rfl)⟩⟩⟩, ?_⟩
  exact fun e he => absurd he List.not_mem_nil
set_option maxRecDepth 20000 in
theorem hfp_5 (xs : List Int32) : ∀ e ∈ gFP_5, ∀ nm, (gfin e.2 = true → nm = "<init>") → pm_fp (g_P xs) gTbl gCl gNst (g_cn 5) nm e.1 (e.2 / 64) (e.2 % 64) := by
  refine List.forall_mem_cons.mpr ⟨fun nm h => ⟨RC3, TC3, 5, yC3, cls_3 xs, by decide, by decide, Or.inr ⟨rfl, h rfl, rfl, (tb_w 62 rfl rfl)⟩⟩, ?_⟩
  refine List.forall_mem_cons.mpr ⟨fun nm h => ⟨RC3, TC3, 5, yC3, cls_3 xs, by decide, by decide, Or.inr ⟨rfl, h rfl, rfl, (tb_w 64 rfl rfl)⟩⟩, ?_⟩
  refine List.forall_mem_cons.mpr ⟨fun nm h => ⟨RC3, TC3, 5, yC3, cls_3 xs, by decide, by decide, Or.inr ⟨rfl, h rfl, rfl, (tb_w 66 rfl rfl)⟩⟩, ?_⟩
  refine List.forall_mem_cons.mpr ⟨fun nm h => ⟨RC3, TC3, 5, yC3, cls_3 xs, by decide, by decide, Or.inr ⟨rfl, h rfl, rfl, (tb_w 68 rfl rfl)⟩⟩, ?_⟩
  refine List.forall_mem_cons.mpr ⟨fun nm h => ⟨RC3, TC3, 5, yC3, cls_3 xs, by decide, by decide, Or.inl ⟨rfl, Or.inl (tb_w 70 rfl rfl)⟩⟩, ?_⟩
  exact fun e he => absurd he List.not_mem_nil
set_option maxRecDepth 20000 in
theorem hfp_6 (xs : List Int32) : ∀ e ∈ gFP_6, ∀ nm, (gfin e.2 = true → nm = "<init>") → pm_fp (g_P xs) gTbl gCl gNst (g_cn 6) nm e.1 (e.2 / 64) (e.2 % 64) := by
  refine List.forall_mem_cons.mpr ⟨fun nm h => ⟨RC4, TC4, 3, yC4, cls_4 xs, by decide, by decide, Or.inr ⟨rfl, h rfl, rfl, (tb_w 180 rfl rfl)⟩⟩, ?_⟩
  refine List.forall_mem_cons.mpr ⟨fun nm h => ⟨RC4, TC4, 3, yC4, cls_4 xs, by decide, by decide, Or.inl ⟨rfl, Or.inl (tb_w 181 rfl rfl)⟩⟩, ?_⟩
  refine List.forall_mem_cons.mpr ⟨fun nm h => ⟨RC4, TC4, 3, yC4, cls_4 xs, by decide, by decide, Or.inl ⟨rfl, Or.inl (tb_w 182 rfl rfl)⟩⟩, ?_⟩
  exact fun e he => absurd he List.not_mem_nil
set_option maxRecDepth 20000 in
theorem hfp_7 (xs : List Int32) : ∀ e ∈ gFP_7, ∀ nm, (gfin e.2 = true → nm = "<init>") → pm_fp (g_P xs) gTbl gCl gNst (g_cn 7) nm e.1 (e.2 / 64) (e.2 % 64) := by
  refine List.forall_mem_cons.mpr ⟨fun nm h => ⟨RC5, TC5, 5, yC5, cls_5 xs, by decide, by decide, Or.inr ⟨rfl, h rfl, rfl, (tb_w 146 rfl rfl)⟩⟩, ?_⟩
  refine List.forall_mem_cons.mpr ⟨fun nm h => ⟨RC5, TC5, 5, yC5, cls_5 xs, by decide, by decide, Or.inr ⟨rfl, h rfl, rfl, (tb_w 151 rfl rfl)⟩⟩, ?_⟩
  refine List.forall_mem_cons.mpr ⟨fun nm h => ⟨RC5, TC5, 5, yC5, cls_5 xs, by decide, by decide, Or.inr ⟨rfl, h rfl, rfl, (tb_w 156 rfl rfl)⟩⟩, ?_⟩
  refine List.forall_mem_cons.mpr ⟨fun nm h => ⟨RC5, TC5, 5, yC5, cls_5 xs, by decide, by decide, Or.inl ⟨rfl, Or.inl (tb_w 161 rfl rfl)⟩⟩, ?_⟩
  refine List.forall_mem_cons.mpr ⟨fun nm h => ⟨RC5, TC5, 5, yC5, cls_5 xs, by decide, by decide, Or.inl ⟨rfl, Or.inl (tb_w 165 rfl rfl)⟩⟩, ?_⟩
  refine List.forall_mem_cons.mpr ⟨fun nm h => ⟨RC6, TC6, 4, yC6, cls_6 xs, by decide, by decide, Or.inl ⟨rfl, Or.inr ⟨_, (nb_w 134 (List.mem_of_getElem? (i := 25) rfl) rfl)⟩⟩⟩, ?_⟩
  exact fun e he => absurd he List.not_mem_nil
set_option maxRecDepth 20000 in
theorem hfp_8 (xs : List Int32) : ∀ e ∈ gFP_8, ∀ nm, (gfin e.2 = true → nm = "<init>") → pm_fp (g_P xs) gTbl gCl gNst (g_cn 8) nm e.1 (e.2 / 64) (e.2 % 64) := by
  refine List.forall_mem_cons.mpr ⟨fun nm h => ⟨RC6, TC6, 4, yC6, cls_6 xs, by decide, by decide, Or.inl ⟨rfl, Or.inl (tb_w 133 rfl rfl)⟩⟩, ?_⟩
  refine List.forall_mem_cons.mpr ⟨fun nm h => ⟨RC6, TC6, 4, yC6, cls_6 xs, by decide, by decide, Or.inr ⟨rfl, h rfl, rfl, (tb_w 124 rfl rfl)⟩⟩, ?_⟩
  refine List.forall_mem_cons.mpr ⟨fun nm h => ⟨RC6, TC6, 4, yC6, cls_6 xs, by decide, by decide, Or.inr ⟨rfl, h rfl, rfl, (tb_w 127 rfl rfl)⟩⟩, ?_⟩
  refine List.forall_mem_cons.mpr ⟨fun nm h => ⟨RC6, TC6, 4, yC6, cls_6 xs, by decide, by decide, Or.inr ⟨rfl, h rfl, rfl, (tb_w 130 rfl rfl)⟩⟩, ?_⟩
  exact fun e he => absurd he List.not_mem_nil
set_option maxRecDepth 20000 in
theorem hfp_9 (xs : List Int32) : ∀ e ∈ gFP_9, ∀ nm, (gfin e.2 = true → nm = "<init>") → pm_fp (g_P xs) gTbl gCl gNst (g_cn 9) nm e.1 (e.2 / 64) (e.2 % 64) := by
  refine List.forall_mem_cons.mpr ⟨fun nm h => ⟨RC7, TC7, 5, yC7, cls_7 xs, by decide, by decide, Or.inr ⟨rfl, h rfl, rfl, (tb_w 197 rfl rfl)⟩⟩, ?_⟩
  refine List.forall_mem_cons.mpr ⟨fun nm h => ⟨RC7, TC7, 5, yC7, cls_7 xs, by decide, by decide, Or.inl ⟨rfl, Or.inl (tb_w 199 rfl rfl)⟩⟩, ?_⟩
  refine List.forall_mem_cons.mpr ⟨fun nm h => ⟨RC7, TC7, 5, yC7, cls_7 xs, by decide, by decide, Or.inl ⟨rfl, Or.inl (tb_w 200 rfl rfl)⟩⟩, ?_⟩
  refine List.forall_mem_cons.mpr ⟨fun nm h => ⟨RC7, TC7, 5, yC7, cls_7 xs, by decide, by decide, Or.inl ⟨rfl, Or.inl (tb_w 201 rfl rfl)⟩⟩, ?_⟩
  refine List.forall_mem_cons.mpr ⟨fun nm h => ⟨RC7, TC7, 5, yC7, cls_7 xs, by decide, by decide, Or.inl ⟨rfl, Or.inl (tb_w 203 rfl rfl)⟩⟩, ?_⟩
  exact fun e he => absurd he List.not_mem_nil
set_option maxRecDepth 20000 in
theorem hfp_10 (xs : List Int32) : ∀ e ∈ gFP_10, ∀ nm, (gfin e.2 = true → nm = "<init>") → pm_fp (g_P xs) gTbl gCl gNst (g_cn 10) nm e.1 (e.2 / 64) (e.2 % 64) := by
  refine List.forall_mem_cons.mpr ⟨fun nm h => ⟨RC8, TC8, 4, yC8, cls_8 xs, by decide, by decide, Or.inr ⟨rfl, h rfl, rfl, (tb_w 292 rfl rfl)⟩⟩, ?_⟩
  refine List.forall_mem_cons.mpr ⟨fun nm h => ⟨RC8, TC8, 4, yC8, cls_8 xs, by decide, by decide, Or.inr ⟨rfl, h rfl, rfl, (tb_w 294 rfl rfl)⟩⟩, ?_⟩
  refine List.forall_mem_cons.mpr ⟨fun nm h => ⟨RC8, TC8, 4, yC8, cls_8 xs, by decide, by decide, Or.inr ⟨rfl, h rfl, rfl, (tb_w 297 rfl rfl)⟩⟩, ?_⟩
  refine List.forall_mem_cons.mpr ⟨fun nm h => ⟨RC8, TC8, 4, yC8, cls_8 xs, by decide, by decide, Or.inl ⟨rfl, Or.inl (tb_w 300 rfl rfl)⟩⟩, ?_⟩
  exact fun e he => absurd he List.not_mem_nil
set_option maxRecDepth 20000 in
theorem hfp_11 (xs : List Int32) : ∀ e ∈ gFP_11, ∀ nm, (gfin e.2 = true → nm = "<init>") → pm_fp (g_P xs) gTbl gCl gNst (g_cn 11) nm e.1 (e.2 / 64) (e.2 % 64) := by
  refine List.forall_mem_cons.mpr ⟨fun nm h => ⟨RC9, TC9, 12, yC9, cls_9 xs, by decide, by decide, Or.inr ⟨rfl, h rfl, rfl, (tb_w 233 rfl rfl)⟩⟩, ?_⟩
  refine List.forall_mem_cons.mpr ⟨fun nm h => ⟨RC9, TC9, 12, yC9, cls_9 xs, by decide, by decide, Or.inr ⟨rfl, h rfl, rfl, (tb_w 237 rfl rfl)⟩⟩, ?_⟩
  refine List.forall_mem_cons.mpr ⟨fun nm h => ⟨RC9, TC9, 12, yC9, cls_9 xs, by decide, by decide, Or.inr ⟨rfl, h rfl, rfl, (tb_w 240 rfl rfl)⟩⟩, ?_⟩
  refine List.forall_mem_cons.mpr ⟨fun nm h => ⟨RC9, TC9, 12, yC9, cls_9 xs, by decide, by decide, Or.inl ⟨rfl, Or.inl (tb_w 243 rfl rfl)⟩⟩, ?_⟩
  refine List.forall_mem_cons.mpr ⟨fun nm h => ⟨RC9, TC9, 12, yC9, cls_9 xs, by decide, by decide, Or.inl ⟨rfl, Or.inl (tb_w 247 rfl rfl)⟩⟩, ?_⟩
  refine List.forall_mem_cons.mpr ⟨fun nm h => ⟨RC9, TC9, 12, yC9, cls_9 xs, by decide, by decide, Or.inl ⟨rfl, Or.inl (tb_w 251 rfl rfl)⟩⟩, ?_⟩
  refine List.forall_mem_cons.mpr ⟨fun nm h => ⟨RC9, TC9, 12, yC9, cls_9 xs, by decide, by decide, Or.inl ⟨rfl, Or.inl (tb_w 254 rfl rfl)⟩⟩, ?_⟩
  refine List.forall_mem_cons.mpr ⟨fun nm h => ⟨RC9, TC9, 12, yC9, cls_9 xs, by decide, by decide, Or.inl ⟨rfl, Or.inl (tb_w 258 rfl rfl)⟩⟩, ?_⟩
  refine List.forall_mem_cons.mpr ⟨fun nm h => ⟨RC9, TC9, 12, yC9, cls_9 xs, by decide, by decide, Or.inl ⟨rfl, Or.inl (tb_w 261 rfl rfl)⟩⟩, ?_⟩
  refine List.forall_mem_cons.mpr ⟨fun nm h => ⟨RC9, TC9, 12, yC9, cls_9 xs, by decide, by decide, Or.inl ⟨rfl, Or.inl (tb_w 263 rfl rfl)⟩⟩, ?_⟩
  refine List.forall_mem_cons.mpr ⟨fun nm h => ⟨RC9, TC9, 12, yC9, cls_9 xs, by decide, by decide, Or.inl ⟨rfl, Or.inl (tb_w 264 rfl rfl)⟩⟩, ?_⟩
  refine List.forall_mem_cons.mpr ⟨fun nm h => ⟨RC9, TC9, 12, yC9, cls_9 xs, by decide, by decide, Or.inl ⟨rfl, Or.inl (tb_w 266 rfl rfl)⟩⟩, ?_⟩
  exact fun e he => absurd he List.not_mem_nil
set_option maxRecDepth 20000 in
theorem hfp_12 (xs : List Int32) : ∀ e ∈ gFP_12, ∀ nm, (gfin e.2 = true → nm = "<init>") → pm_fp (g_P xs) gTbl gCl gNst (g_cn 12) nm e.1 (e.2 / 64) (e.2 % 64) := by
  refine List.forall_mem_cons.mpr ⟨fun nm h => ⟨RC10, TC10, 19, yC10, cls_10 xs, by decide, by decide, Or.inr ⟨rfl, h rfl, rfl, (tb_w 318 rfl rfl)⟩⟩, ?_⟩
  refine List.forall_mem_cons.mpr ⟨fun nm h => ⟨RC10, TC10, 19, yC10, cls_10 xs, by decide, by decide, Or.inr ⟨rfl, h rfl, rfl, (tb_w 319 rfl rfl)⟩⟩, ?_⟩
  refine List.forall_mem_cons.mpr ⟨fun nm h => ⟨RC10, TC10, 19, yC10, cls_10 xs, by decide, by decide, Or.inr ⟨rfl, h rfl, rfl, (tb_w 321 rfl rfl)⟩⟩, ?_⟩
  refine List.forall_mem_cons.mpr ⟨fun nm h => ⟨RC10, TC10, 19, yC10, cls_10 xs, by decide, by decide, Or.inr ⟨rfl, h rfl, rfl, (tb_w 324 rfl rfl)⟩⟩, ?_⟩
  refine List.forall_mem_cons.mpr ⟨fun nm h => ⟨RC10, TC10, 19, yC10, cls_10 xs, by decide, by decide, Or.inr ⟨rfl, h rfl, rfl, (tb_w 325 rfl rfl)⟩⟩, ?_⟩
  refine List.forall_mem_cons.mpr ⟨fun nm h => ⟨RC10, TC10, 19, yC10, cls_10 xs, by decide, by decide, Or.inr ⟨rfl, h rfl, rfl, (tb_w 327 rfl rfl)⟩⟩, ?_⟩
  refine List.forall_mem_cons.mpr ⟨fun nm h => ⟨RC10, TC10, 19, yC10, cls_10 xs, by decide, by decide, Or.inr ⟨rfl, h rfl, rfl, (tb_w 328 rfl rfl)⟩⟩, ?_⟩
  refine List.forall_mem_cons.mpr ⟨fun nm h => ⟨RC10, TC10, 19, yC10, cls_10 xs, by decide, by decide, Or.inr ⟨rfl, h rfl, rfl, (tb_w 329 rfl rfl)⟩⟩, ?_⟩
  refine List.forall_mem_cons.mpr ⟨fun nm h => ⟨RC10, TC10, 19, yC10, cls_10 xs, by decide, by decide, Or.inr ⟨rfl, h rfl, rfl, (tb_w 331 rfl rfl)⟩⟩, ?_⟩
  refine List.forall_mem_cons.mpr ⟨fun nm h => ⟨RC10, TC10, 19, yC10, cls_10 xs, by decide, by decide, Or.inl ⟨rfl, Or.inl (tb_w 333 rfl rfl)⟩⟩, ?_⟩
  refine List.forall_mem_cons.mpr ⟨fun nm h => ⟨RC10, TC10, 19, yC10, cls_10 xs, by decide, by decide, Or.inl ⟨rfl, Or.inl (tb_w 335 rfl rfl)⟩⟩, ?_⟩
  refine List.forall_mem_cons.mpr ⟨fun nm h => ⟨RC10, TC10, 19, yC10, cls_10 xs, by decide, by decide, Or.inl ⟨rfl, Or.inl (tb_w 337 rfl rfl)⟩⟩, ?_⟩
  refine List.forall_mem_cons.mpr ⟨fun nm h => ⟨RC10, TC10, 19, yC10, cls_10 xs, by decide, by decide, Or.inl ⟨rfl, Or.inl (tb_w 339 rfl rfl)⟩⟩, ?_⟩
  refine List.forall_mem_cons.mpr ⟨fun nm h => ⟨RC10, TC10, 19, yC10, cls_10 xs, by decide, by decide, Or.inl ⟨rfl, Or.inl (tb_w 344 rfl rfl)⟩⟩, ?_⟩
  refine List.forall_mem_cons.mpr ⟨fun nm h => ⟨RC10, TC10, 19, yC10, cls_10 xs, by decide, by decide, Or.inl ⟨rfl, Or.inl (tb_w 345 rfl rfl)⟩⟩, ?_⟩
  refine List.forall_mem_cons.mpr ⟨fun nm h => ⟨RC10, TC10, 19, yC10, cls_10 xs, by decide, by decide, Or.inl ⟨rfl, Or.inl (tb_w 346 rfl rfl)⟩⟩, ?_⟩
  refine List.forall_mem_cons.mpr ⟨fun nm h => ⟨RC10, TC10, 19, yC10, cls_10 xs, by decide, by decide, Or.inl ⟨rfl, Or.inl (tb_w 347 rfl rfl)⟩⟩, ?_⟩
  refine List.forall_mem_cons.mpr ⟨fun nm h => ⟨RC10, TC10, 19, yC10, cls_10 xs, by decide, by decide, Or.inl ⟨rfl, Or.inl (tb_w 340 rfl rfl)⟩⟩, ?_⟩
  refine List.forall_mem_cons.mpr ⟨fun nm h => ⟨RC10, TC10, 19, yC10, cls_10 xs, by decide, by decide, Or.inl ⟨rfl, Or.inl (tb_w 343 rfl rfl)⟩⟩, ?_⟩
  exact fun e he => absurd he List.not_mem_nil
set_option maxRecDepth 20000 in
theorem hfp_14 (xs : List Int32) : ∀ e ∈ gFP_14, ∀ nm, (gfin e.2 = true → nm = "<init>") → pm_fp (g_P xs) gTbl gCl gNst (g_cn 14) nm e.1 (e.2 / 64) (e.2 % 64) := by
  refine List.forall_mem_cons.mpr ⟨fun nm h => ⟨RC11, TC11, 58, yC11, cls_11 xs, by decide, by decide, Or.inr ⟨rfl, h rfl, rfl, (tb_w 1249 rfl rfl)⟩⟩, ?_⟩
  refine List.forall_mem_cons.mpr ⟨fun nm h => ⟨RC11, TC11, 58, yC11, cls_11 xs, by decide, by decide, Or.inr ⟨rfl, h rfl, rfl, (tb_w 1250 rfl rfl)⟩⟩, ?_⟩
  refine List.forall_mem_cons.mpr ⟨fun nm h => ⟨RC11, TC11, 58, yC11, cls_11 xs, by decide, by decide, Or.inr ⟨rfl, h rfl, rfl, (tb_w 1251 rfl rfl)⟩⟩, ?_⟩
  refine List.forall_mem_cons.mpr ⟨fun nm h => ⟨RC11, TC11, 58, yC11, cls_11 xs, by decide, by decide, Or.inr ⟨rfl, h rfl, rfl, (tb_w 1252 rfl rfl)⟩⟩, ?_⟩
  refine List.forall_mem_cons.mpr ⟨fun nm h => ⟨RC11, TC11, 58, yC11, cls_11 xs, by decide, by decide, Or.inr ⟨rfl, h rfl, rfl, (tb_w 1253 rfl rfl)⟩⟩, ?_⟩
  refine List.forall_mem_cons.mpr ⟨fun nm h => ⟨RC11, TC11, 58, yC11, cls_11 xs, by decide, by decide, Or.inr ⟨rfl, h rfl, rfl, (tb_w 1254 rfl rfl)⟩⟩, ?_⟩
  refine List.forall_mem_cons.mpr ⟨fun nm h => ⟨RC11, TC11, 58, yC11, cls_11 xs, by decide, by decide, Or.inr ⟨rfl, h rfl, rfl, (tb_w 1255 rfl rfl)⟩⟩, ?_⟩
  refine List.forall_mem_cons.mpr ⟨fun nm h => ⟨RC11, TC11, 58, yC11, cls_11 xs, by decide, by decide, Or.inr ⟨rfl, h rfl, rfl, (tb_w 1256 rfl rfl)⟩⟩, ?_⟩
  refine List.forall_mem_cons.mpr ⟨fun nm h => ⟨RC11, TC11, 58, yC11, cls_11 xs, by decide, by decide, Or.inr ⟨rfl, h rfl, rfl, (tb_w 1257 rfl rfl)⟩⟩, ?_⟩
  refine List.forall_mem_cons.mpr ⟨fun nm h => ⟨RC11, TC11, 58, yC11, cls_11 xs, by decide, by decide, Or.inr ⟨rfl, h rfl, rfl, (tb_w 1258 rfl rfl)⟩⟩, ?_⟩
  refine List.forall_mem_cons.mpr ⟨fun nm h => ⟨RC11, TC11, 58, yC11, cls_11 xs, by decide, by decide, Or.inr ⟨rfl, h rfl, rfl, (tb_w 1259 rfl rfl)⟩⟩, ?_⟩
  refine List.forall_mem_cons.mpr ⟨fun nm h => ⟨RC11, TC11, 58, yC11, cls_11 xs, by decide, by decide, Or.inr ⟨rfl, h rfl, rfl, (tb_w 1260 rfl rfl)⟩⟩, ?_⟩
  refine List.forall_mem_cons.mpr ⟨fun nm h => ⟨RC11, TC11, 58, yC11, cls_11 xs, by decide, by decide, Or.inr ⟨rfl, h rfl, rfl, (tb_w 1263 rfl rfl)⟩⟩, ?_⟩
  refine List.forall_mem_cons.mpr ⟨fun nm h => ⟨RC11, TC11, 58, yC11, cls_11 xs, by decide, by decide, Or.inr ⟨rfl, h rfl, rfl, (tb_w 1264 rfl rfl)⟩⟩, ?_⟩
  refine List.forall_mem_cons.mpr ⟨fun nm h => ⟨RC11, TC11, 58, yC11, cls_11 xs, by decide, by decide, Or.inr ⟨rfl, h rfl, rfl, (tb_w 1265 rfl rfl)⟩⟩, ?_⟩
  refine List.forall_mem_cons.mpr ⟨fun nm h => ⟨RC11, TC11, 58, yC11, cls_11 xs, by decide, by decide, Or.inr ⟨rfl, h rfl, rfl, (tb_w 1267 rfl rfl)⟩⟩, ?_⟩
  refine List.forall_mem_cons.mpr ⟨fun nm h => ⟨RC11, TC11, 58, yC11, cls_11 xs, by decide, by decide, Or.inr ⟨rfl, h rfl, rfl, (tb_w 1268 rfl rfl)⟩⟩, ?_⟩
  refine List.forall_mem_cons.mpr ⟨fun nm h => ⟨RC11, TC11, 58, yC11, cls_11 xs, by decide, by decide, Or.inr ⟨rfl, h rfl, rfl, (tb_w 1269 rfl rfl)⟩⟩, ?_⟩
  refine List.forall_mem_cons.mpr ⟨fun nm h => ⟨RC11, TC11, 58, yC11, cls_11 xs, by decide, by decide, Or.inr ⟨rfl, h rfl, rfl, (tb_w 1270 rfl rfl)⟩⟩, ?_⟩
  refine List.forall_mem_cons.mpr ⟨fun nm h => ⟨RC11, TC11, 58, yC11, cls_11 xs, by decide, by decide, Or.inr ⟨rfl, h rfl, rfl, (tb_w 1274 rfl rfl)⟩⟩, ?_⟩
  refine List.forall_mem_cons.mpr ⟨fun nm h => ⟨RC11, TC11, 58, yC11, cls_11 xs, by decide, by decide, Or.inr ⟨rfl, h rfl, rfl, (tb_w 1275 rfl rfl)⟩⟩, ?_⟩
  refine List.forall_mem_cons.mpr ⟨fun nm h => ⟨RC11, TC11, 58, yC11, cls_11 xs, by decide, by decide, Or.inr ⟨rfl, h rfl, rfl, (tb_w 1276 rfl rfl)⟩⟩, ?_⟩
  refine List.forall_mem_cons.mpr ⟨fun nm h => ⟨RC11, TC11, 58, yC11, cls_11 xs, by decide, by decide, Or.inr ⟨rfl, h rfl, rfl, (tb_w 1277 rfl rfl)⟩⟩, ?_⟩
  refine List.forall_mem_cons.mpr ⟨fun nm h => ⟨RC11, TC11, 58, yC11, cls_11 xs, by decide, by decide, Or.inr ⟨rfl, h rfl, rfl, (tb_w 1278 rfl rfl)⟩⟩, ?_⟩
  refine List.forall_mem_cons.mpr ⟨fun nm h => ⟨RC11, TC11, 58, yC11, cls_11 xs, by decide, by decide, Or.inr ⟨rfl, h rfl, rfl, (tb_w 1282 rfl rfl)⟩⟩, ?_⟩
  refine List.forall_mem_cons.mpr ⟨fun nm h => ⟨RC11, TC11, 58, yC11, cls_11 xs, by decide, by decide, Or.inr ⟨rfl, h rfl, rfl, (tb_w 1284 rfl rfl)⟩⟩, ?_⟩
  refine List.forall_mem_cons.mpr ⟨fun nm h => ⟨RC11, TC11, 58, yC11, cls_11 xs, by decide, by decide, Or.inr ⟨rfl, h rfl, rfl, (tb_w 1285 rfl rfl)⟩⟩, ?_⟩
  refine List.forall_mem_cons.mpr ⟨fun nm h => ⟨RC11, TC11, 58, yC11, cls_11 xs, by decide, by decide, Or.inr ⟨rfl, h rfl, rfl, (tb_w 1289 rfl rfl)⟩⟩, ?_⟩
  refine List.forall_mem_cons.mpr ⟨fun nm h => ⟨RC11, TC11, 58, yC11, cls_11 xs, by decide, by decide, Or.inl ⟨rfl, Or.inl (tb_w 1291 rfl rfl)⟩⟩, ?_⟩
  refine List.forall_mem_cons.mpr ⟨fun nm h => ⟨RC11, TC11, 58, yC11, cls_11 xs, by decide, by decide, Or.inl ⟨rfl, Or.inl (tb_w 1292 rfl rfl)⟩⟩, ?_⟩
  refine List.forall_mem_cons.mpr ⟨fun nm h => ⟨RC11, TC11, 58, yC11, cls_11 xs, by decide, by decide, Or.inr ⟨rfl, h rfl, rfl, (tb_w 1302 rfl rfl)⟩⟩, ?_⟩
  refine List.forall_mem_cons.mpr ⟨fun nm h => ⟨RC11, TC11, 58, yC11, cls_11 xs, by decide, by decide, Or.inr ⟨rfl, h rfl, rfl, (tb_w 1303 rfl rfl)⟩⟩, ?_⟩
  refine List.forall_mem_cons.mpr ⟨fun nm h => ⟨RC11, TC11, 58, yC11, cls_11 xs, by decide, by decide, Or.inl ⟨rfl, Or.inl (tb_w 1248 rfl rfl)⟩⟩, ?_⟩
  refine List.forall_mem_cons.mpr ⟨fun nm h => ⟨RC11, TC11, 58, yC11, cls_11 xs, by decide, by decide, Or.inl ⟨rfl, Or.inl (tb_w 1247 rfl rfl)⟩⟩, ?_⟩
  refine List.forall_mem_cons.mpr ⟨fun nm h => ⟨RC11, TC11, 58, yC11, cls_11 xs, by decide, by decide, Or.inl ⟨rfl, Or.inl (tb_w 1266 rfl rfl)⟩⟩, ?_⟩
  refine List.forall_mem_cons.mpr ⟨fun nm h => ⟨RC11, TC11, 58, yC11, cls_11 xs, by decide, by decide, Or.inl ⟨rfl, Or.inl (tb_w 1271 rfl rfl)⟩⟩, ?_⟩
  refine List.forall_mem_cons.mpr ⟨fun nm h => ⟨RC11, TC11, 58, yC11, cls_11 xs, by decide, by decide, Or.inl ⟨rfl, Or.inl (tb_w 1272 rfl rfl)⟩⟩, ?_⟩
  refine List.forall_mem_cons.mpr ⟨fun nm h => ⟨RC11, TC11, 58, yC11, cls_11 xs, by decide, by decide, Or.inl ⟨rfl, Or.inl (tb_w 1273 rfl rfl)⟩⟩, ?_⟩
  refine List.forall_mem_cons.mpr ⟨fun nm h => ⟨RC11, TC11, 58, yC11, cls_11 xs, by decide, by decide, Or.inl ⟨rfl, Or.inl (tb_w 1281 rfl rfl)⟩⟩, ?_⟩
  refine List.forall_mem_cons.mpr ⟨fun nm h => ⟨RC11, TC11, 58, yC11, cls_11 xs, by decide, by decide, Or.inl ⟨rfl, Or.inl (tb_w 1279 rfl rfl)⟩⟩, ?_⟩
  refine List.forall_mem_cons.mpr ⟨fun nm h => ⟨RC11, TC11, 58, yC11, cls_11 xs, by decide, by decide, Or.inl ⟨rfl, Or.inl (tb_w 1280 rfl rfl)⟩⟩, ?_⟩
  refine List.forall_mem_cons.mpr ⟨fun nm h => ⟨RC11, TC11, 58, yC11, cls_11 xs, by decide, by decide, Or.inl ⟨rfl, Or.inl (tb_w 1283 rfl rfl)⟩⟩, ?_⟩
  refine List.forall_mem_cons.mpr ⟨fun nm h => ⟨RC11, TC11, 58, yC11, cls_11 xs, by decide, by decide, Or.inl ⟨rfl, Or.inl (tb_w 1286 rfl rfl)⟩⟩, ?_⟩
  refine List.forall_mem_cons.mpr ⟨fun nm h => ⟨RC11, TC11, 58, yC11, cls_11 xs, by decide, by decide, Or.inl ⟨rfl, Or.inl (tb_w 1287 rfl rfl)⟩⟩, ?_⟩
  refine List.forall_mem_cons.mpr ⟨fun nm h => ⟨RC11, TC11, 58, yC11, cls_11 xs, by decide, by decide, Or.inl ⟨rfl, Or.inl (tb_w 1288 rfl rfl)⟩⟩, ?_⟩
  refine List.forall_mem_cons.mpr ⟨fun nm h => ⟨RC11, TC11, 58, yC11, cls_11 xs, by decide, by decide, Or.inl ⟨rfl, Or.inl (tb_w 1290 rfl rfl)⟩⟩, ?_⟩
  refine List.forall_mem_cons.mpr ⟨fun nm h => ⟨RC11, TC11, 58, yC11, cls_11 xs, by decide, by decide, Or.inl ⟨rfl, Or.inl (tb_w 1299 rfl rfl)⟩⟩, ?_⟩
  refine List.forall_mem_cons.mpr ⟨fun nm h => ⟨RC11, TC11, 58, yC11, cls_11 xs, by decide, by decide, Or.inl ⟨rfl, Or.inl (tb_w 1296 rfl rfl)⟩⟩, ?_⟩
  refine List.forall_mem_cons.mpr ⟨fun nm h => ⟨RC11, TC11, 58, yC11, cls_11 xs, by decide, by decide, Or.inl ⟨rfl, Or.inl (tb_w 1293 rfl rfl)⟩⟩, ?_⟩
  refine List.forall_mem_cons.mpr ⟨fun nm h => ⟨RC11, TC11, 58, yC11, cls_11 xs, by decide, by decide, Or.inl ⟨rfl, Or.inl (tb_w 1262 rfl rfl)⟩⟩, ?_⟩
  refine List.forall_mem_cons.mpr ⟨fun nm h => ⟨RC11, TC11, 58, yC11, cls_11 xs, by decide, by decide, Or.inl ⟨rfl, Or.inl (tb_w 1261 rfl rfl)⟩⟩, ?_⟩
  refine List.forall_mem_cons.mpr ⟨fun nm h => ⟨RC11, TC11, 58, yC11, cls_11 xs, by decide, by decide, Or.inl ⟨rfl, Or.inl (tb_w 1295 rfl rfl)⟩⟩, ?_⟩
  refine List.forall_mem_cons.mpr ⟨fun nm h => ⟨RC11, TC11, 58, yC11, cls_11 xs, by decide, by decide, Or.inl ⟨rfl, Or.inl (tb_w 1297 rfl rfl)⟩⟩, ?_⟩
  refine List.forall_mem_cons.mpr ⟨fun nm h => ⟨RC11, TC11, 58, yC11, cls_11 xs, by decide, by decide, Or.inl ⟨rfl, Or.inl (tb_w 1301 rfl rfl)⟩⟩, ?_⟩
  refine List.forall_mem_cons.mpr ⟨fun nm h => ⟨RC11, TC11, 58, yC11, cls_11 xs, by decide, by decide, Or.inl ⟨rfl, Or.inl (tb_w 1298 rfl rfl)⟩⟩, ?_⟩
  refine List.forall_mem_cons.mpr ⟨fun nm h => ⟨RC11, TC11, 58, yC11, cls_11 xs, by decide, by decide, Or.inl ⟨rfl, Or.inl (tb_w 1300 rfl rfl)⟩⟩, ?_⟩
  refine List.forall_mem_cons.mpr ⟨fun nm h => ⟨RC11, TC11, 58, yC11, cls_11 xs, by decide, by decide, Or.inl ⟨rfl, Or.inl (tb_w 1294 rfl rfl)⟩⟩, ?_⟩
  refine List.forall_mem_cons.mpr ⟨fun nm h => ⟨RC11, TC11, 58, yC11, cls_11 xs, by decide, by decide, Or.inl ⟨rfl, Or.inl (tb_w 1304 rfl rfl)⟩⟩, ?_⟩
  exact fun e he => absurd he List.not_mem_nil
