def g_Q (k : Nat) : Prop := ∀ (xs : List Int32), (gKnd k = 1 → pm_kf (g_P xs) gTbl g_y g_b g_r k (pm_nar (g_P xs) k) ∧ Jvm.Cond.static (g_y k) ∈ gTbl ∧ pm_me (g_P xs) g_y g_r k) ∧ (gKnd k = 2 → pm_kf (g_P xs) gTbl g_y g_b g_r k (pm_nar (g_P xs) k - 1) ∧ Jvm.Cond.instanceMethod (g_y k) ∈ gTbl ∧ Jvm.Cond.selects (g_y k).cls (g_y k) (g_y k) ∈ gTbl ∧ (∃ (T : u_T) (N : Nat), gCl[pm_rcv (g_P xs) k]? = some ((g_y k).cls, T, N)) ∧ pm_me (g_P xs) g_y g_r k) ∧ (gKnd k = 3 → pm_kf (g_P xs) gTbl g_y g_b g_r k (pm_nar (g_P xs) k - 1) ∧ Jvm.Cond.instanceMethod (g_y k) ∈ gTbl ∧ (g_y k).name = "<init>" ∧ g_r k = none ∧ pm_me (g_P xs) g_y g_r k)
set_option maxRecDepth 20000 in
theorem kf_0 : g_Q 0 := fun xs => ⟨fun h => absurd h (by decide), fun h => absurd h (by decide), fun h => absurd h (by decide)⟩
set_option maxRecDepth 20000 in
theorem kf_1 : g_Q 1 := fun xs => ⟨fun h => absurd h (by decide), fun h => absurd h (by decide), fun _ => ⟨⟨(tb_w 1 rfl rfl), (tb_w 24 rfl rfl), by decide +kernel, by decide +kernel, by decide +kernel⟩, (tb_w 23 rfl rfl), rfl, rfl, ⟨by decide +kernel, rfl⟩⟩⟩
set_option maxRecDepth 20000 in
theorem kf_2 : g_Q 2 := fun xs => ⟨fun h => absurd h (by decide), fun h => absurd h (by decide), fun _ => ⟨⟨(tb_w 2 rfl rfl), (tb_w 32 rfl rfl), by decide +kernel, by decide +kernel, by decide +kernel⟩, (tb_w 31 rfl rfl), rfl, rfl, ⟨by decide +kernel, rfl⟩⟩⟩
set_option maxRecDepth 20000 in
theorem kf_3 : g_Q 3 := fun xs => ⟨fun _ => ⟨⟨(tb_w 3 rfl rfl), (tb_w 36 rfl rfl), by decide +kernel, by decide +kernel, by decide +kernel⟩, (tb_w 35 rfl rfl), ⟨by decide +kernel, rfl⟩⟩, fun h => absurd h (by decide), fun h => absurd h (by decide)⟩
set_option maxRecDepth 20000 in
theorem kf_4 : g_Q 4 := fun xs => ⟨fun h => absurd h (by decide), fun h => absurd h (by decide), fun _ => ⟨⟨(tb_w 4 rfl rfl), (tb_w 54 rfl rfl), by decide +kernel, by decide +kernel, by decide +kernel⟩, (tb_w 53 rfl rfl), rfl, rfl, ⟨by decide +kernel, rfl⟩⟩⟩
set_option maxRecDepth 20000 in
theorem kf_5 : g_Q 5 := fun xs => ⟨fun h => absurd h (by decide), fun h => absurd h (by decide), fun _ => ⟨⟨(tb_w 5 rfl rfl), (tb_w 60 rfl rfl), by decide +kernel, by decide +kernel, by decide +kernel⟩, (tb_w 59 rfl rfl), rfl, rfl, ⟨by decide +kernel, rfl⟩⟩⟩
set_option maxRecDepth 20000 in
theorem kf_6 : g_Q 6 := fun xs => ⟨fun h => absurd h (by decide), fun h => absurd h (by decide), fun _ => ⟨⟨(tb_w 6 rfl rfl), (tb_w 108 rfl rfl), by decide +kernel, by decide +kernel, by decide +kernel⟩, (tb_w 107 rfl rfl), rfl, rfl, ⟨by decide +kernel, rfl⟩⟩⟩
set_option maxRecDepth 20000 in
theorem kf_7 : g_Q 7 := fun xs => ⟨fun h => absurd h (by decide), fun h => absurd h (by decide), fun _ => ⟨⟨(tb_w 7 rfl rfl), (tb_w 115 rfl rfl), by decide +kernel, by decide +kernel, by decide +kernel⟩, (tb_w 114 rfl rfl), rfl, rfl, ⟨by decide +kernel, rfl⟩⟩⟩
set_option maxRecDepth 20000 in
theorem kf_8 : g_Q 8 := fun xs => ⟨fun h => absurd h (by decide), fun h => absurd h (by decide), fun _ => ⟨⟨(tb_w 8 rfl rfl), (tb_w 121 rfl rfl), by decide +kernel, by decide +kernel, by decide +kernel⟩, (tb_w 120 rfl rfl), rfl, rfl, ⟨by decide +kernel, rfl⟩⟩⟩
set_option maxRecDepth 20000 in
theorem kf_9 : g_Q 9 := fun xs => ⟨fun h => absurd h (by decide), fun h => absurd h (by decide), fun _ => ⟨⟨(tb_w 9 rfl rfl), (tb_w 195 rfl rfl), by decide +kernel, by decide +kernel, by decide +kernel⟩, (tb_w 194 rfl rfl), rfl, rfl, ⟨by decide +kernel, rfl⟩⟩⟩
set_option maxRecDepth 20000 in
theorem kf_10 : g_Q 10 := fun xs => ⟨fun h => absurd h (by decide), fun h => absurd h (by decide), fun _ => ⟨⟨(tb_w 10 rfl rfl), (tb_w 220 rfl rfl), by decide +kernel, by decide +kernel, by decide +kernel⟩, (tb_w 219 rfl rfl), rfl, rfl, ⟨by decide +kernel, rfl⟩⟩⟩
set_option maxRecDepth 20000 in
theorem kf_11 : g_Q 11 := fun xs => ⟨fun h => absurd h (by decide), fun h => absurd h (by decide), fun _ => ⟨⟨(tb_w 11 rfl rfl), (tb_w 231 rfl rfl), by decide +kernel, by decide +kernel, by decide +kernel⟩, (tb_w 230 rfl rfl), rfl, rfl, ⟨by decide +kernel, rfl⟩⟩⟩
set_option maxRecDepth 20000 in
theorem kf_12 : g_Q 12 := fun xs => ⟨fun h => absurd h (by decide), fun h => absurd h (by decide), fun _ => ⟨⟨(tb_w 12 rfl rfl), (tb_w 316 rfl rfl), by decide +kernel, by decide +kernel, by decide +kernel⟩, (tb_w 315 rfl rfl), rfl, rfl, ⟨by decide +kernel, rfl⟩⟩⟩
set_option maxRecDepth 20000 in
theorem kf_13 : g_Q 13 := fun xs => ⟨fun h => absurd h (by decide), fun _ => ⟨⟨(tb_w 1 rfl rfl), (tb_w 430 rfl rfl), by decide +kernel, by decide +kernel, by decide +kernel⟩, (tb_w 428 rfl rfl), (tb_w 429 rfl rfl), ⟨_, _, rfl⟩, ⟨by decide +kernel, rfl⟩⟩, fun h => absurd h (by decide)⟩
set_option maxRecDepth 20000 in
theorem kf_14 : g_Q 14 := fun xs => ⟨fun h => absurd h (by decide), fun _ => ⟨⟨(tb_w 1 rfl rfl), (tb_w 434 rfl rfl), by decide +kernel, by decide +kernel, by decide +kernel⟩, (tb_w 432 rfl rfl), (tb_w 433 rfl rfl), ⟨_, _, rfl⟩, ⟨by decide +kernel, rfl⟩⟩, fun h => absurd h (by decide)⟩
set_option maxRecDepth 20000 in
theorem kf_15 : g_Q 15 := fun xs => ⟨fun h => absurd h (by decide), fun _ => ⟨⟨(tb_w 2 rfl rfl), (tb_w 438 rfl rfl), by decide +kernel, by decide +kernel, by decide +kernel⟩, (tb_w 437 rfl rfl), (tb_s 0 rfl rfl), ⟨_, _, rfl⟩, ⟨by decide +kernel, rfl⟩⟩, fun h => absurd h (by decide)⟩
set_option maxRecDepth 20000 in
theorem kf_16 : g_Q 16 := fun xs => ⟨fun h => absurd h (by decide), fun _ => ⟨⟨(tb_w 2 rfl rfl), (tb_w 442 rfl rfl), by decide +kernel, by decide +kernel, by decide +kernel⟩, (tb_w 441 rfl rfl), (tb_s 1 rfl rfl), ⟨_, _, rfl⟩, ⟨by decide +kernel, rfl⟩⟩, fun h => absurd h (by decide)⟩
set_option maxRecDepth 20000 in
theorem kf_17 : g_Q 17 := fun xs => ⟨fun h => absurd h (by decide), fun _ => ⟨⟨(tb_w 1 rfl rfl), (tb_w 446 rfl rfl), by decide +kernel, by decide +kernel, by decide +kernel⟩, (tb_w 444 rfl rfl), (tb_w 445 rfl rfl), ⟨_, _, rfl⟩, ⟨by decide +kernel, rfl⟩⟩, fun h => absurd h (by decide)⟩
set_option maxRecDepth 20000 in
theorem kf_18 : g_Q 18 := fun xs => ⟨fun h => absurd h (by decide), fun _ => ⟨⟨(tb_w 1 rfl rfl), (tb_w 450 rfl rfl), by decide +kernel, by decide +kernel, by decide +kernel⟩, (tb_w 449 rfl rfl), (tb_s 2 rfl rfl), ⟨_, _, rfl⟩, ⟨by decide +kernel, rfl⟩⟩, fun h => absurd h (by decide)⟩
set_option maxRecDepth 20000 in
theorem kf_19 : g_Q 19 := fun xs => ⟨fun h => absurd h (by decide), fun _ => ⟨⟨(tb_w 4 rfl rfl), (tb_w 454 rfl rfl), by decide +kernel, by decide +kernel, by decide +kernel⟩, (tb_w 453 rfl rfl), (tb_s 3 rfl rfl), ⟨_, _, rfl⟩, ⟨by decide +kernel, rfl⟩⟩, fun h => absurd h (by decide)⟩
set_option maxRecDepth 20000 in
theorem kf_20 : g_Q 20 := fun xs => ⟨fun h => absurd h (by decide), fun _ => ⟨⟨(tb_w 10 rfl rfl), (tb_w 458 rfl rfl), by decide +kernel, by decide +kernel, by decide +kernel⟩, (tb_w 457 rfl rfl), (tb_s 4 rfl rfl), ⟨_, _, rfl⟩, ⟨by decide +kernel, rfl⟩⟩, fun h => absurd h (by decide)⟩
set_option maxRecDepth 20000 in
theorem kf_21 : g_Q 21 := fun xs => ⟨fun h => absurd h (by decide), fun _ => ⟨⟨(tb_w 7 rfl rfl), (tb_w 462 rfl rfl), by decide +kernel, by decide +kernel, by decide +kernel⟩, (tb_w 461 rfl rfl), (tb_s 5 rfl rfl), ⟨_, _, rfl⟩, ⟨by decide +kernel, rfl⟩⟩, fun h => absurd h (by decide)⟩
set_option maxRecDepth 20000 in
theorem kf_22 : g_Q 22 := fun xs => ⟨fun h => absurd h (by decide), fun _ => ⟨⟨(tb_w 2 rfl rfl), (tb_w 466 rfl rfl), by decide +kernel, by decide +kernel, by decide +kernel⟩, (tb_w 465 rfl rfl), (tb_s 6 rfl rfl), ⟨_, _, rfl⟩, ⟨by decide +kernel, rfl⟩⟩, fun h => absurd h (by decide)⟩
set_option maxRecDepth 20000 in
theorem kf_23 : g_Q 23 := fun xs => ⟨fun h => absurd h (by decide), fun _ => ⟨⟨(tb_w 5 rfl rfl), (tb_w 470 rfl rfl), by decide +kernel, by decide +kernel, by decide +kernel⟩, (tb_w 469 rfl rfl), (tb_s 7 rfl rfl), ⟨_, _, rfl⟩, ⟨by decide +kernel, rfl⟩⟩, fun h => absurd h (by decide)⟩
set_option maxRecDepth 20000 in
theorem kf_24 : g_Q 24 := fun xs => ⟨fun _ => ⟨⟨(tb_w 3 rfl rfl), (tb_w 473 rfl rfl), by decide +kernel, by decide +kernel, by decide +kernel⟩, (tb_w 472 rfl rfl), ⟨by decide +kernel, rfl⟩⟩, fun h => absurd h (by decide), fun h => absurd h (by decide)⟩
set_option maxRecDepth 20000 in
theorem kf_25 : g_Q 25 := fun xs => ⟨fun h => absurd h (by decide), fun _ => ⟨⟨(tb_w 5 rfl rfl), (tb_w 477 rfl rfl), by decide +kernel, by decide +kernel, by decide +kernel⟩, (tb_w 476 rfl rfl), (tb_s 8 rfl rfl), ⟨_, _, rfl⟩, ⟨by decide +kernel, rfl⟩⟩, fun h => absurd h (by decide)⟩
set_option maxRecDepth 20000 in
theorem kf_26 : g_Q 26 := fun xs => ⟨fun h => absurd h (by decide), fun _ => ⟨⟨(tb_w 2 rfl rfl), (tb_w 481 rfl rfl), by decide +kernel, by decide +kernel, by decide +kernel⟩, (tb_w 480 rfl rfl), (tb_s 9 rfl rfl), ⟨_, _, rfl⟩, ⟨by decide +kernel, rfl⟩⟩, fun h => absurd h (by decide)⟩
set_option maxRecDepth 20000 in
theorem kf_27 : g_Q 27 := fun xs => ⟨fun _ => ⟨⟨(tb_w 5 rfl rfl), (tb_w 484 rfl rfl), by decide +kernel, by decide +kernel, by decide +kernel⟩, (tb_w 483 rfl rfl), ⟨by decide +kernel, rfl⟩⟩, fun h => absurd h (by decide), fun h => absurd h (by decide)⟩
set_option maxRecDepth 20000 in
theorem kf_28 : g_Q 28 := fun xs => ⟨fun _ => ⟨⟨(tb_w 1 rfl rfl), (tb_w 487 rfl rfl), by decide +kernel, by decide +kernel, by decide +kernel⟩, (tb_w 486 rfl rfl), ⟨by decide +kernel, rfl⟩⟩, fun h => absurd h (by decide), fun h => absurd h (by decide)⟩
set_option maxRecDepth 20000 in
theorem kf_29 : g_Q 29 := fun xs => ⟨fun h => absurd h (by decide), fun _ => ⟨⟨(tb_w 5 rfl rfl), (tb_w 491 rfl rfl), by decide +kernel, by decide +kernel, by decide +kernel⟩, (tb_w 490 rfl rfl), (tb_s 10 rfl rfl), ⟨_, _, rfl⟩, ⟨by decide +kernel, rfl⟩⟩, fun h => absurd h (by decide)⟩
set_option maxRecDepth 20000 in
theorem kf_30 : g_Q 30 := fun xs => ⟨fun _ => ⟨⟨(tb_w 5 rfl rfl), (tb_w 494 rfl rfl), by decide +kernel, by decide +kernel, by decide +kernel⟩, (tb_w 493 rfl rfl), ⟨by decide +kernel, rfl⟩⟩, fun h => absurd h (by decide), fun h => absurd h (by decide)⟩
set_option maxRecDepth 20000 in
theorem kf_31 : g_Q 31 := fun xs => ⟨fun h => absurd h (by decide), fun _ => ⟨⟨(tb_w 4 rfl rfl), (tb_w 498 rfl rfl), by decide +kernel, by decide +kernel, by decide +kernel⟩, (tb_w 497 rfl rfl), (tb_s 11 rfl rfl), ⟨_, _, rfl⟩, ⟨by decide +kernel, rfl⟩⟩, fun h => absurd h (by decide)⟩
set_option maxRecDepth 20000 in
theorem kf_32 : g_Q 32 := fun xs => ⟨fun h => absurd h (by decide), fun _ => ⟨⟨(tb_w 4 rfl rfl), (tb_w 502 rfl rfl), by decide +kernel, by decide +kernel, by decide +kernel⟩, (tb_w 501 rfl rfl), (tb_s 12 rfl rfl), ⟨_, _, rfl⟩, ⟨by decide +kernel, rfl⟩⟩, fun h => absurd h (by decide)⟩
set_option maxRecDepth 20000 in
theorem kf_33 : g_Q 33 := fun xs => ⟨fun h => absurd h (by decide), fun _ => ⟨⟨(tb_w 4 rfl rfl), (tb_w 506 rfl rfl), by decide +kernel, by decide +kernel, by decide +kernel⟩, (tb_w 505 rfl rfl), (tb_s 13 rfl rfl), ⟨_, _, rfl⟩, ⟨by decide +kernel, rfl⟩⟩, fun h => absurd h (by decide)⟩
set_option maxRecDepth 20000 in
theorem kf_34 : g_Q 34 := fun xs => ⟨fun h => absurd h (by decide), fun _ => ⟨⟨(tb_w 4 rfl rfl), (tb_w 510 rfl rfl), by decide +kernel, by decide +kernel, by decide +kernel⟩, (tb_w 509 rfl rfl), (tb_s 14 rfl rfl), ⟨_, _, rfl⟩, ⟨by decide +kernel, rfl⟩⟩, fun h => absurd h (by decide)⟩
set_option maxRecDepth 20000 in
theorem kf_35 : g_Q 35 := fun xs => ⟨fun _ => ⟨⟨(tb_w 1 rfl rfl), (tb_w 513 rfl rfl), by decide +kernel, by decide +kernel, by decide +kernel⟩, (tb_w 512 rfl rfl), ⟨by decide +kernel, rfl⟩⟩, fun h => absurd h (by decide), fun h => absurd h (by decide)⟩
set_option maxRecDepth 20000 in
theorem kf_36 : g_Q 36 := fun xs => ⟨fun h => absurd h (by decide), fun _ => ⟨⟨(tb_w 10 rfl rfl), (tb_w 567 rfl rfl), by decide +kernel, by decide +kernel, by decide +kernel⟩, (tb_w 566 rfl rfl), (tb_s 15 rfl rfl), ⟨_, _, rfl⟩, ⟨by decide +kernel, rfl⟩⟩, fun h => absurd h (by decide)⟩
set_option maxRecDepth 20000 in
theorem kf_37 : g_Q 37 := fun xs => ⟨fun h => absurd h (by decide), fun _ => ⟨⟨(tb_w 8 rfl rfl), (tb_w 571 rfl rfl), by decide +kernel, by decide +kernel, by decide +kernel⟩, (tb_w 570 rfl rfl), (tb_s 16 rfl rfl), ⟨_, _, rfl⟩, ⟨by decide +kernel, rfl⟩⟩, fun h => absurd h (by decide)⟩
set_option maxRecDepth 20000 in
theorem kf_38 : g_Q 38 := fun xs => ⟨fun h => absurd h (by decide), fun _ => ⟨⟨(tb_w 4 rfl rfl), (tb_w 575 rfl rfl), by decide +kernel, by decide +kernel, by decide +kernel⟩, (tb_w 574 rfl rfl), (tb_s 17 rfl rfl), ⟨_, _, rfl⟩, ⟨by decide +kernel, rfl⟩⟩, fun h => absurd h (by decide)⟩
set_option maxRecDepth 20000 in
theorem kf_39 : g_Q 39 := fun xs => ⟨fun h => absurd h (by decide), fun _ => ⟨⟨(tb_w 10 rfl rfl), (tb_w 579 rfl rfl), by decide +kernel, by decide +kernel, by decide +kernel⟩, (tb_w 578 rfl rfl), (tb_s 18 rfl rfl), ⟨_, _, rfl⟩, ⟨by decide +kernel, rfl⟩⟩, fun h => absurd h (by decide)⟩
set_option maxRecDepth 20000 in
theorem kf_40 : g_Q 40 := fun xs => ⟨fun h => absurd h (by decide), fun _ => ⟨⟨(tb_w 10 rfl rfl), (tb_w 583 rfl rfl), by decide +kernel, by decide +kernel, by decide +kernel⟩, (tb_w 582 rfl rfl), (tb_s 19 rfl rfl), ⟨_, _, rfl⟩, ⟨by decide +kernel, rfl⟩⟩, fun h => absurd h (by decide)⟩
set_option maxRecDepth 20000 in
theorem kf_41 : g_Q 41 := fun xs => ⟨fun h => absurd h (by decide), fun _ => ⟨⟨(tb_w 4 rfl rfl), (tb_w 588 rfl rfl), by decide +kernel, by decide +kernel, by decide +kernel⟩, (tb_w 587 rfl rfl), (tb_s 20 rfl rfl), ⟨_, _, rfl⟩, ⟨by decide +kernel, rfl⟩⟩, fun h => absurd h (by decide)⟩
set_option maxRecDepth 20000 in
theorem kf_42 : g_Q 42 := fun xs => ⟨fun _ => ⟨⟨(tb_w 4 rfl rfl), (tb_w 591 rfl rfl), by decide +kernel, by decide +kernel, by decide +kernel⟩, (tb_w 590 rfl rfl), ⟨by decide +kernel, rfl⟩⟩, fun h => absurd h (by decide), fun h => absurd h (by decide)⟩
set_option maxRecDepth 20000 in
theorem kf_43 : g_Q 43 := fun xs => ⟨fun h => absurd h (by decide), fun _ => ⟨⟨(tb_w 4 rfl rfl), (tb_w 607 rfl rfl), by decide +kernel, by decide +kernel, by decide +kernel⟩, (tb_w 606 rfl rfl), (tb_s 21 rfl rfl), ⟨_, _, rfl⟩, ⟨by decide +kernel, rfl⟩⟩, fun h => absurd h (by decide)⟩
set_option maxRecDepth 20000 in
theorem kf_44 : g_Q 44 := fun xs => ⟨fun h => absurd h (by decide), fun _ => ⟨⟨(tb_w 4 rfl rfl), (tb_w 611 rfl rfl), by decide +kernel, by decide +kernel, by decide +kernel⟩, (tb_w 610 rfl rfl), (tb_s 22 rfl rfl), ⟨_, _, rfl⟩, ⟨by decide +kernel, rfl⟩⟩, fun h => absurd h (by decide)⟩
set_option maxRecDepth 20000 in
theorem kf_45 : g_Q 45 := fun xs => ⟨fun _ => ⟨⟨(tb_w 1 rfl rfl), (tb_w 614 rfl rfl), by decide +kernel, by decide +kernel, by decide +kernel⟩, (tb_w 613 rfl rfl), ⟨by decide +kernel, rfl⟩⟩, fun h => absurd h (by decide), fun h => absurd h (by decide)⟩
set_option maxRecDepth 20000 in
theorem kf_46 : g_Q 46 := fun xs => ⟨fun h => absurd h (by decide), fun _ => ⟨⟨(tb_w 4 rfl rfl), (tb_w 618 rfl rfl), by decide +kernel, by decide +kernel, by decide +kernel⟩, (tb_w 617 rfl rfl), (tb_s 23 rfl rfl), ⟨_, _, rfl⟩, ⟨by decide +kernel, rfl⟩⟩, fun h => absurd h (by decide)⟩
set_option maxRecDepth 20000 in
theorem kf_47 : g_Q 47 := fun xs => ⟨fun h => absurd h (by decide), fun _ => ⟨⟨(tb_w 4 rfl rfl), (tb_w 622 rfl rfl), by decide +kernel, by decide +kernel, by decide +kernel⟩, (tb_w 621 rfl rfl), (tb_s 24 rfl rfl), ⟨_, _, rfl⟩, ⟨by decide +kernel, rfl⟩⟩, fun h => absurd h (by decide)⟩
set_option maxRecDepth 20000 in
theorem kf_48 : g_Q 48 := fun xs => ⟨fun h => absurd h (by decide), fun _ => ⟨⟨(tb_w 11 rfl rfl), (tb_w 626 rfl rfl), by decide +kernel, by decide +kernel, by decide +kernel⟩, (tb_w 625 rfl rfl), (tb_s 25 rfl rfl), ⟨_, _, rfl⟩, ⟨by decide +kernel, rfl⟩⟩, fun h => absurd h (by decide)⟩
set_option maxRecDepth 20000 in
theorem kf_49 : g_Q 49 := fun xs => ⟨fun h => absurd h (by decide), fun _ => ⟨⟨(tb_w 11 rfl rfl), (tb_w 630 rfl rfl), by decide +kernel, by decide +kernel, by decide +kernel⟩, (tb_w 629 rfl rfl), (tb_s 26 rfl rfl), ⟨_, _, rfl⟩, ⟨by decide +kernel, rfl⟩⟩, fun h => absurd h (by decide)⟩
set_option maxRecDepth 20000 in
theorem kf_50 : g_Q 50 := fun xs => ⟨fun _ => ⟨⟨(tb_w 18 rfl rfl), (tb_w 633 rfl rfl), by decide +kernel, by decide +kernel, by decide +kernel⟩, (tb_w 632 rfl rfl), ⟨by decide +kernel, rfl⟩⟩, fun h => absurd h (by decide), fun h => absurd h (by decide)⟩
set_option maxRecDepth 20000 in
theorem kf_51 : g_Q 51 := fun xs => ⟨fun _ => ⟨⟨(tb_w 18 rfl rfl), (tb_w 636 rfl rfl), by decide +kernel, by decide +kernel, by decide +kernel⟩, (tb_w 635 rfl rfl), ⟨by decide +kernel, rfl⟩⟩, fun h => absurd h (by decide), fun h => absurd h (by decide)⟩
set_option maxRecDepth 20000 in
theorem kf_52 : g_Q 52 := fun xs => ⟨fun h => absurd h (by decide), fun _ => ⟨⟨(tb_w 4 rfl rfl), (tb_w 640 rfl rfl), by decide +kernel, by decide +kernel, by decide +kernel⟩, (tb_w 639 rfl rfl), (tb_s 27 rfl rfl), ⟨_, _, rfl⟩, ⟨by decide +kernel, rfl⟩⟩, fun h => absurd h (by decide)⟩
set_option maxRecDepth 20000 in
theorem kf_53 : g_Q 53 := fun xs => ⟨fun h => absurd h (by decide), fun _ => ⟨⟨(tb_w 4 rfl rfl), (tb_w 644 rfl rfl), by decide +kernel, by decide +kernel, by decide +kernel⟩, (tb_w 643 rfl rfl), (tb_s 28 rfl rfl), ⟨_, _, rfl⟩, ⟨by decide +kernel, rfl⟩⟩, fun h => absurd h (by decide)⟩
set_option maxRecDepth 20000 in
theorem kf_54 : g_Q 54 := fun xs => ⟨fun h => absurd h (by decide), fun _ => ⟨⟨(tb_w 11 rfl rfl), (tb_w 648 rfl rfl), by decide +kernel, by decide +kernel, by decide +kernel⟩, (tb_w 647 rfl rfl), (tb_s 29 rfl rfl), ⟨_, _, rfl⟩, ⟨by decide +kernel, rfl⟩⟩, fun h => absurd h (by decide)⟩
set_option maxRecDepth 20000 in
theorem kf_55 : g_Q 55 := fun xs => ⟨fun h => absurd h (by decide), fun _ => ⟨⟨(tb_w 4 rfl rfl), (tb_w 652 rfl rfl), by decide +kernel, by decide +kernel, by decide +kernel⟩, (tb_w 651 rfl rfl), (tb_s 30 rfl rfl), ⟨_, _, rfl⟩, ⟨by decide +kernel, rfl⟩⟩, fun h => absurd h (by decide)⟩
set_option maxRecDepth 20000 in
theorem kf_56 : g_Q 56 := fun xs => ⟨fun h => absurd h (by decide), fun _ => ⟨⟨(tb_w 10 rfl rfl), (tb_w 656 rfl rfl), by decide +kernel, by decide +kernel, by decide +kernel⟩, (tb_w 655 rfl rfl), (tb_s 31 rfl rfl), ⟨_, _, rfl⟩, ⟨by decide +kernel, rfl⟩⟩, fun h => absurd h (by decide)⟩
set_option maxRecDepth 20000 in
theorem kf_57 : g_Q 57 := fun xs => ⟨fun h => absurd h (by decide), fun _ => ⟨⟨(tb_w 10 rfl rfl), (tb_w 660 rfl rfl), by decide +kernel, by decide +kernel, by decide +kernel⟩, (tb_w 659 rfl rfl), (tb_s 32 rfl rfl), ⟨_, _, rfl⟩, ⟨by decide +kernel, rfl⟩⟩, fun h => absurd h (by decide)⟩
set_option maxRecDepth 20000 in
theorem kf_58 : g_Q 58 := fun xs => ⟨fun h => absurd h (by decide), fun _ => ⟨⟨(tb_w 4 rfl rfl), (tb_w 664 rfl rfl), by decide +kernel, by decide +kernel, by decide +kernel⟩, (tb_w 663 rfl rfl), (tb_s 33 rfl rfl), ⟨_, _, rfl⟩, ⟨by decide +kernel, rfl⟩⟩, fun h => absurd h (by decide)⟩
set_option maxRecDepth 20000 in
theorem kf_59 : g_Q 59 := fun xs => ⟨fun h => absurd h (by decide), fun _ => ⟨⟨(tb_w 4 rfl rfl), (tb_w 668 rfl rfl), by decide +kernel, by decide +kernel, by decide +kernel⟩, (tb_w 667 rfl rfl), (tb_s 34 rfl rfl), ⟨_, _, rfl⟩, ⟨by decide +kernel, rfl⟩⟩, fun h => absurd h (by decide)⟩
set_option maxRecDepth 20000 in
theorem kf_60 : g_Q 60 := fun xs => ⟨fun h => absurd h (by decide), fun _ => ⟨⟨(tb_w 11 rfl rfl), (tb_w 672 rfl rfl), by decide +kernel, by decide +kernel, by decide +kernel⟩, (tb_w 671 rfl rfl), (tb_s 35 rfl rfl), ⟨_, _, rfl⟩, ⟨by decide +kernel, rfl⟩⟩, fun h => absurd h (by decide)⟩
set_option maxRecDepth 20000 in
theorem kf_61 : g_Q 61 := fun xs => ⟨fun _ => ⟨⟨(tb_w 1 rfl rfl), (tb_w 676 rfl rfl), by decide +kernel, by decide +kernel, by decide +kernel⟩, (tb_w 675 rfl rfl), ⟨by decide +kernel, rfl⟩⟩, fun h => absurd h (by decide), fun h => absurd h (by decide)⟩
set_option maxRecDepth 20000 in
theorem kf_62 : g_Q 62 := fun xs => ⟨fun h => absurd h (by decide), fun _ => ⟨⟨(tb_w 11 rfl rfl), (tb_w 680 rfl rfl), by decide +kernel, by decide +kernel, by decide +kernel⟩, (tb_w 679 rfl rfl), (tb_s 36 rfl rfl), ⟨_, _, rfl⟩, ⟨by decide +kernel, rfl⟩⟩, fun h => absurd h (by decide)⟩
set_option maxRecDepth 20000 in
theorem kf_63 : g_Q 63 := fun xs => ⟨fun h => absurd h (by decide), fun _ => ⟨⟨(tb_w 11 rfl rfl), (tb_w 684 rfl rfl), by decide +kernel, by decide +kernel, by decide +kernel⟩, (tb_w 683 rfl rfl), (tb_s 37 rfl rfl), ⟨_, _, rfl⟩, ⟨by decide +kernel, rfl⟩⟩, fun h => absurd h (by decide)⟩
set_option maxRecDepth 20000 in
theorem kf_64 : g_Q 64 := fun xs => ⟨fun h => absurd h (by decide), fun _ => ⟨⟨(tb_w 11 rfl rfl), (tb_w 688 rfl rfl), by decide +kernel, by decide +kernel, by decide +kernel⟩, (tb_w 687 rfl rfl), (tb_s 38 rfl rfl), ⟨_, _, rfl⟩, ⟨by decide +kernel, rfl⟩⟩, fun h => absurd h (by decide)⟩
set_option maxRecDepth 20000 in
theorem kf_65 : g_Q 65 := fun xs => ⟨fun h => absurd h (by decide), fun _ => ⟨⟨(tb_w 11 rfl rfl), (tb_w 692 rfl rfl), by decide +kernel, by decide +kernel, by decide +kernel⟩, (tb_w 691 rfl rfl), (tb_s 39 rfl rfl), ⟨_, _, rfl⟩, ⟨by decide +kernel, rfl⟩⟩, fun h => absurd h (by decide)⟩
set_option maxRecDepth 20000 in
theorem kf_66 : g_Q 66 := fun xs => ⟨fun _ => ⟨⟨(tb_w 3 rfl rfl), (tb_w 695 rfl rfl), by decide +kernel, by decide +kernel, by decide +kernel⟩, (tb_w 694 rfl rfl), ⟨by decide +kernel, rfl⟩⟩, fun h => absurd h (by decide), fun h => absurd h (by decide)⟩
set_option maxRecDepth 20000 in
theorem kf_67 : g_Q 67 := fun xs => ⟨fun h => absurd h (by decide), fun _ => ⟨⟨(tb_w 11 rfl rfl), (tb_w 699 rfl rfl), by decide +kernel, by decide +kernel, by decide +kernel⟩, (tb_w 698 rfl rfl), (tb_s 40 rfl rfl), ⟨_, _, rfl⟩, ⟨by decide +kernel, rfl⟩⟩, fun h => absurd h (by decide)⟩
set_option maxRecDepth 20000 in
theorem kf_68 : g_Q 68 := fun xs => ⟨fun h => absurd h (by decide), fun _ => ⟨⟨(tb_w 11 rfl rfl), (tb_w 703 rfl rfl), by decide +kernel, by decide +kernel, by decide +kernel⟩, (tb_w 702 rfl rfl), (tb_s 41 rfl rfl), ⟨_, _, rfl⟩, ⟨by decide +kernel, rfl⟩⟩, fun h => absurd h (by decide)⟩
set_option maxRecDepth 20000 in
theorem kf_69 : g_Q 69 := fun xs => ⟨fun h => absurd h (by decide), fun _ => ⟨⟨(tb_w 11 rfl rfl), (tb_w 707 rfl rfl), by decide +kernel, by decide +kernel, by decide +kernel⟩, (tb_w 706 rfl rfl), (tb_s 42 rfl rfl), ⟨_, _, rfl⟩, ⟨by decide +kernel, rfl⟩⟩, fun h => absurd h (by decide)⟩
set_option maxRecDepth 20000 in
theorem kf_70 : g_Q 70 := fun xs => ⟨fun h => absurd h (by decide), fun _ => ⟨⟨(tb_w 11 rfl rfl), (tb_w 711 rfl rfl), by decide +kernel, by decide +kernel, by decide +kernel⟩, (tb_w 710 rfl rfl), (tb_s 43 rfl rfl), ⟨_, _, rfl⟩, ⟨by decide +kernel, rfl⟩⟩, fun h => absurd h (by decide)⟩
set_option maxRecDepth 20000 in
theorem kf_71 : g_Q 71 := fun xs => ⟨fun h => absurd h (by decide), fun _ => ⟨⟨(tb_w 11 rfl rfl), (tb_w 716 rfl rfl), by decide +kernel, by decide +kernel, by decide +kernel⟩, (tb_w 715 rfl rfl), (tb_s 44 rfl rfl), ⟨_, _, rfl⟩, ⟨by decide +kernel, rfl⟩⟩, fun h => absurd h (by decide)⟩
set_option maxRecDepth 20000 in
theorem kf_72 : g_Q 72 := fun xs => ⟨fun _ => ⟨⟨(tb_w 1 rfl rfl), (tb_w 719 rfl rfl), by decide +kernel, by decide +kernel, by decide +kernel⟩, (tb_w 718 rfl rfl), ⟨by decide +kernel, rfl⟩⟩, fun h => absurd h (by decide), fun h => absurd h (by decide)⟩
set_option maxRecDepth 20000 in
theorem kf_73 : g_Q 73 := fun xs => ⟨fun h => absurd h (by decide), fun _ => ⟨⟨(tb_w 4 rfl rfl), (tb_w 723 rfl rfl), by decide +kernel, by decide +kernel, by decide +kernel⟩, (tb_w 722 rfl rfl), (tb_s 45 rfl rfl), ⟨_, _, rfl⟩, ⟨by decide +kernel, rfl⟩⟩, fun h => absurd h (by decide)⟩
set_option maxRecDepth 20000 in
theorem kf_74 : g_Q 74 := fun xs => ⟨fun h => absurd h (by decide), fun _ => ⟨⟨(tb_w 2 rfl rfl), (tb_w 727 rfl rfl), by decide +kernel, by decide +kernel, by decide +kernel⟩, (tb_w 726 rfl rfl), (tb_s 46 rfl rfl), ⟨_, _, rfl⟩, ⟨by decide +kernel, rfl⟩⟩, fun h => absurd h (by decide)⟩
set_option maxRecDepth 20000 in
theorem kf_75 : g_Q 75 := fun xs => ⟨fun h => absurd h (by decide), fun _ => ⟨⟨(tb_w 4 rfl rfl), (tb_w 732 rfl rfl), by decide +kernel, by decide +kernel, by decide +kernel⟩, (tb_w 731 rfl rfl), (tb_s 47 rfl rfl), ⟨_, _, rfl⟩, ⟨by decide +kernel, rfl⟩⟩, fun h => absurd h (by decide)⟩
set_option maxRecDepth 20000 in
theorem kf_76 : g_Q 76 := fun xs => ⟨fun h => absurd h (by decide), fun _ => ⟨⟨(tb_w 8 rfl rfl), (tb_w 736 rfl rfl), by decide +kernel, by decide +kernel, by decide +kernel⟩, (tb_w 735 rfl rfl), (tb_s 48 rfl rfl), ⟨_, _, rfl⟩, ⟨by decide +kernel, rfl⟩⟩, fun h => absurd h (by decide)⟩
set_option maxRecDepth 20000 in
theorem kf_77 : g_Q 77 := fun xs => ⟨fun h => absurd h (by decide), fun _ => ⟨⟨(tb_w 6 rfl rfl), (tb_w 742 rfl rfl), by decide +kernel, by decide +kernel, by decide +kernel⟩, (tb_w 741 rfl rfl), (tb_s 49 rfl rfl), ⟨_, _, rfl⟩, ⟨by decide +kernel, rfl⟩⟩, fun h => absurd h (by decide)⟩
set_option maxRecDepth 20000 in
theorem kf_78 : g_Q 78 := fun xs => ⟨fun h => absurd h (by decide), fun _ => ⟨⟨(tb_w 9 rfl rfl), (tb_w 746 rfl rfl), by decide +kernel, by decide +kernel, by decide +kernel⟩, (tb_w 745 rfl rfl), (tb_s 50 rfl rfl), ⟨_, _, rfl⟩, ⟨by decide +kernel, rfl⟩⟩, fun h => absurd h (by decide)⟩
set_option maxRecDepth 20000 in
theorem kf_79 : g_Q 79 := fun xs => ⟨fun h => absurd h (by decide), fun _ => ⟨⟨(tb_w 12 rfl rfl), (tb_w 750 rfl rfl), by decide +kernel, by decide +kernel, by decide +kernel⟩, (tb_w 749 rfl rfl), (tb_s 51 rfl rfl), ⟨_, _, rfl⟩, ⟨by decide +kernel, rfl⟩⟩, fun h => absurd h (by decide)⟩
set_option maxRecDepth 20000 in
theorem kf_80 : g_Q 80 := fun xs => ⟨fun h => absurd h (by decide), fun _ => ⟨⟨(tb_w 1 rfl rfl), (tb_w 754 rfl rfl), by decide +kernel, by decide +kernel, by decide +kernel⟩, (tb_w 753 rfl rfl), (tb_s 52 rfl rfl), ⟨_, _, rfl⟩, ⟨by decide +kernel, rfl⟩⟩, fun h => absurd h (by decide)⟩
set_option maxRecDepth 20000 in
theorem kf_81 : g_Q 81 := fun xs => ⟨fun h => absurd h (by decide), fun _ => ⟨⟨(tb_w 1 rfl rfl), (tb_w 759 rfl rfl), by decide +kernel, by decide +kernel, by decide +kernel⟩, (tb_w 757 rfl rfl), (tb_w 758 rfl rfl), ⟨_, _, rfl⟩, ⟨by decide +kernel, rfl⟩⟩, fun h => absurd h (by decide)⟩
set_option maxRecDepth 20000 in
theorem kf_82 : g_Q 82 := fun xs => ⟨fun h => absurd h (by decide), fun _ => ⟨⟨(tb_w 1 rfl rfl), (tb_w 763 rfl rfl), by decide +kernel, by decide +kernel, by decide +kernel⟩, (tb_w 761 rfl rfl), (tb_w 762 rfl rfl), ⟨_, _, rfl⟩, ⟨by decide +kernel, rfl⟩⟩, fun h => absurd h (by decide)⟩
set_option maxRecDepth 20000 in
theorem kf_83 : g_Q 83 := fun xs => ⟨fun h => absurd h (by decide), fun _ => ⟨⟨(tb_w 1 rfl rfl), (tb_w 767 rfl rfl), by decide +kernel, by decide +kernel, by decide +kernel⟩, (tb_w 765 rfl rfl), (tb_w 766 rfl rfl), ⟨_, _, rfl⟩, ⟨by decide +kernel, rfl⟩⟩, fun h => absurd h (by decide)⟩
set_option maxRecDepth 20000 in
theorem kf_84 : g_Q 84 := fun xs => ⟨fun h => absurd h (by decide), fun _ => ⟨⟨(tb_w 11 rfl rfl), (tb_w 772 rfl rfl), by decide +kernel, by decide +kernel, by decide +kernel⟩, (tb_w 771 rfl rfl), (tb_s 53 rfl rfl), ⟨_, _, rfl⟩, ⟨by decide +kernel, rfl⟩⟩, fun h => absurd h (by decide)⟩
set_option maxRecDepth 20000 in
theorem kf_85 : g_Q 85 := fun xs => ⟨fun h => absurd h (by decide), fun _ => ⟨⟨(tb_w 11 rfl rfl), (tb_w 776 rfl rfl), by decide +kernel, by decide +kernel, by decide +kernel⟩, (tb_w 775 rfl rfl), (tb_s 54 rfl rfl), ⟨_, _, rfl⟩, ⟨by decide +kernel, rfl⟩⟩, fun h => absurd h (by decide)⟩
set_option maxRecDepth 20000 in
theorem kf_86 : g_Q 86 := fun xs => ⟨fun h => absurd h (by decide), fun _ => ⟨⟨(tb_w 11 rfl rfl), (tb_w 780 rfl rfl), by decide +kernel, by decide +kernel, by decide +kernel⟩, (tb_w 779 rfl rfl), (tb_s 55 rfl rfl), ⟨_, _, rfl⟩, ⟨by decide +kernel, rfl⟩⟩, fun h => absurd h (by decide)⟩
set_option maxRecDepth 20000 in
theorem kf_87 : g_Q 87 := fun xs => ⟨fun h => absurd h (by decide), fun _ => ⟨⟨(tb_w 11 rfl rfl), (tb_w 784 rfl rfl), by decide +kernel, by decide +kernel, by decide +kernel⟩, (tb_w 783 rfl rfl), (tb_s 56 rfl rfl), ⟨_, _, rfl⟩, ⟨by decide +kernel, rfl⟩⟩, fun h => absurd h (by decide)⟩
set_option maxRecDepth 20000 in
theorem kf_88 : g_Q 88 := fun xs => ⟨fun h => absurd h (by decide), fun _ => ⟨⟨(tb_w 11 rfl rfl), (tb_w 789 rfl rfl), by decide +kernel, by decide +kernel, by decide +kernel⟩, (tb_w 788 rfl rfl), (tb_s 57 rfl rfl), ⟨_, _, rfl⟩, ⟨by decide +kernel, rfl⟩⟩, fun h => absurd h (by decide)⟩
set_option maxRecDepth 20000 in
theorem kf_89 : g_Q 89 := fun xs => ⟨fun h => absurd h (by decide), fun _ => ⟨⟨(tb_w 1 rfl rfl), (tb_w 794 rfl rfl), by decide +kernel, by decide +kernel, by decide +kernel⟩, (tb_w 792 rfl rfl), (tb_w 793 rfl rfl), ⟨_, _, rfl⟩, ⟨by decide +kernel, rfl⟩⟩, fun h => absurd h (by decide)⟩
set_option maxRecDepth 20000 in
theorem kf_90 : g_Q 90 := fun xs => ⟨fun h => absurd h (by decide), fun _ => ⟨⟨(tb_w 1 rfl rfl), (tb_w 800 rfl rfl), by decide +kernel, by decide +kernel, by decide +kernel⟩, (tb_w 798 rfl rfl), (tb_w 799 rfl rfl), ⟨_, _, rfl⟩, ⟨by decide +kernel, rfl⟩⟩, fun h => absurd h (by decide)⟩
set_option maxRecDepth 20000 in
theorem kf_91 : g_Q 91 := fun xs => ⟨fun h => absurd h (by decide), fun _ => ⟨⟨(tb_w 11 rfl rfl), (tb_w 807 rfl rfl), by decide +kernel, by decide +kernel, by decide +kernel⟩, (tb_w 806 rfl rfl), (tb_s 58 rfl rfl), ⟨_, _, rfl⟩, ⟨by decide +kernel, rfl⟩⟩, fun h => absurd h (by decide)⟩
set_option maxRecDepth 20000 in
theorem kf_92 : g_Q 92 := fun xs => ⟨fun h => absurd h (by decide), fun _ => ⟨⟨(tb_w 1 rfl rfl), (tb_w 811 rfl rfl), by decide +kernel, by decide +kernel, by decide +kernel⟩, (tb_w 809 rfl rfl), (tb_w 810 rfl rfl), ⟨_, _, rfl⟩, ⟨by decide +kernel, rfl⟩⟩, fun h => absurd h (by decide)⟩
set_option maxRecDepth 20000 in
theorem kf_93 : g_Q 93 := fun xs => ⟨fun h => absurd h (by decide), fun _ => ⟨⟨(tb_w 11 rfl rfl), (tb_w 815 rfl rfl), by decide +kernel, by decide +kernel, by decide +kernel⟩, (tb_w 814 rfl rfl), (tb_s 59 rfl rfl), ⟨_, _, rfl⟩, ⟨by decide +kernel, rfl⟩⟩, fun h => absurd h (by decide)⟩
set_option maxRecDepth 20000 in
theorem kf_94 : g_Q 94 := fun xs => ⟨fun h => absurd h (by decide), fun _ => ⟨⟨(tb_w 1 rfl rfl), (tb_w 819 rfl rfl), by decide +kernel, by decide +kernel, by decide +kernel⟩, (tb_w 817 rfl rfl), (tb_w 818 rfl rfl), ⟨_, _, rfl⟩, ⟨by decide +kernel, rfl⟩⟩, fun h => absurd h (by decide)⟩
set_option maxRecDepth 20000 in
theorem kf_95 : g_Q 95 := fun xs => ⟨fun h => absurd h (by decide), fun _ => ⟨⟨(tb_w 11 rfl rfl), (tb_w 823 rfl rfl), by decide +kernel, by decide +kernel, by decide +kernel⟩, (tb_w 822 rfl rfl), (tb_s 60 rfl rfl), ⟨_, _, rfl⟩, ⟨by decide +kernel, rfl⟩⟩, fun h => absurd h (by decide)⟩
set_option maxRecDepth 20000 in
theorem kf_96 : g_Q 96 := fun xs => ⟨fun h => absurd h (by decide), fun _ => ⟨⟨(tb_w 11 rfl rfl), (tb_w 827 rfl rfl), by decide +kernel, by decide +kernel, by decide +kernel⟩, (tb_w 826 rfl rfl), (tb_s 61 rfl rfl), ⟨_, _, rfl⟩, ⟨by decide +kernel, rfl⟩⟩, fun h => absurd h (by decide)⟩
set_option maxRecDepth 20000 in
theorem kf_97 : g_Q 97 := fun xs => ⟨fun h => absurd h (by decide), fun _ => ⟨⟨(tb_w 1 rfl rfl), (tb_w 832 rfl rfl), by decide +kernel, by decide +kernel, by decide +kernel⟩, (tb_w 830 rfl rfl), (tb_w 831 rfl rfl), ⟨_, _, rfl⟩, ⟨by decide +kernel, rfl⟩⟩, fun h => absurd h (by decide)⟩
set_option maxRecDepth 20000 in
theorem kf_98 : g_Q 98 := fun xs => ⟨fun h => absurd h (by decide), fun _ => ⟨⟨(tb_w 1 rfl rfl), (tb_w 838 rfl rfl), by decide +kernel, by decide +kernel, by decide +kernel⟩, (tb_w 836 rfl rfl), (tb_w 837 rfl rfl), ⟨_, _, rfl⟩, ⟨by decide +kernel, rfl⟩⟩, fun h => absurd h (by decide)⟩
set_option maxRecDepth 20000 in
theorem kf_99 : g_Q 99 := fun xs => ⟨fun h => absurd h (by decide), fun _ => ⟨⟨(tb_w 7 rfl rfl), (tb_w 842 rfl rfl), by decide +kernel, by decide +kernel, by decide +kernel⟩, (tb_w 841 rfl rfl), (tb_s 62 rfl rfl), ⟨_, _, rfl⟩, ⟨by decide +kernel, rfl⟩⟩, fun h => absurd h (by decide)⟩
set_option maxRecDepth 20000 in
theorem kf_100 : g_Q 100 := fun xs => ⟨fun h => absurd h (by decide), fun _ => ⟨⟨(tb_w 8 rfl rfl), (tb_w 846 rfl rfl), by decide +kernel, by decide +kernel, by decide +kernel⟩, (tb_w 845 rfl rfl), (tb_s 63 rfl rfl), ⟨_, _, rfl⟩, ⟨by decide +kernel, rfl⟩⟩, fun h => absurd h (by decide)⟩
set_option maxRecDepth 20000 in
theorem kf_101 : g_Q 101 := fun xs => ⟨fun h => absurd h (by decide), fun _ => ⟨⟨(tb_w 1 rfl rfl), (tb_w 850 rfl rfl), by decide +kernel, by decide +kernel, by decide +kernel⟩, (tb_w 848 rfl rfl), (tb_w 849 rfl rfl), ⟨_, _, rfl⟩, ⟨by decide +kernel, rfl⟩⟩, fun h => absurd h (by decide)⟩
set_option maxRecDepth 20000 in
theorem kf_102 : g_Q 102 := fun xs => ⟨fun _ => ⟨⟨(tb_w 1 rfl rfl), (tb_w 853 rfl rfl), by decide +kernel, by decide +kernel, by decide +kernel⟩, (tb_w 852 rfl rfl), ⟨by decide +kernel, rfl⟩⟩, fun h => absurd h (by decide), fun h => absurd h (by decide)⟩
set_option maxRecDepth 20000 in
theorem kf_103 : g_Q 103 := fun xs => ⟨fun _ => ⟨⟨(tb_w 1 rfl rfl), (tb_w 856 rfl rfl), by decide +kernel, by decide +kernel, by decide +kernel⟩, (tb_w 855 rfl rfl), ⟨by decide +kernel, rfl⟩⟩, fun h => absurd h (by decide), fun h => absurd h (by decide)⟩
set_option maxRecDepth 20000 in
theorem kf_104 : g_Q 104 := fun xs => ⟨fun h => absurd h (by decide), fun _ => ⟨⟨(tb_w 1 rfl rfl), (tb_w 861 rfl rfl), by decide +kernel, by decide +kernel, by decide +kernel⟩, (tb_w 860 rfl rfl), (tb_s 64 rfl rfl), ⟨_, _, rfl⟩, ⟨by decide +kernel, rfl⟩⟩, fun h => absurd h (by decide)⟩
set_option maxRecDepth 20000 in
theorem kf_105 : g_Q 105 := fun xs => ⟨fun h => absurd h (by decide), fun _ => ⟨⟨(tb_w 6 rfl rfl), (tb_w 865 rfl rfl), by decide +kernel, by decide +kernel, by decide +kernel⟩, (tb_w 864 rfl rfl), (tb_s 65 rfl rfl), ⟨_, _, rfl⟩, ⟨by decide +kernel, rfl⟩⟩, fun h => absurd h (by decide)⟩
set_option maxRecDepth 20000 in
theorem kf_106 : g_Q 106 := fun xs => ⟨fun h => absurd h (by decide), fun _ => ⟨⟨(tb_w 7 rfl rfl), (tb_w 869 rfl rfl), by decide +kernel, by decide +kernel, by decide +kernel⟩, (tb_w 868 rfl rfl), (tb_s 66 rfl rfl), ⟨_, _, rfl⟩, ⟨by decide +kernel, rfl⟩⟩, fun h => absurd h (by decide)⟩
set_option maxRecDepth 20000 in
theorem kf_107 : g_Q 107 := fun xs => ⟨fun h => absurd h (by decide), fun _ => ⟨⟨(tb_w 8 rfl rfl), (tb_w 873 rfl rfl), by decide +kernel, by decide +kernel, by decide +kernel⟩, (tb_w 872 rfl rfl), (tb_s 67 rfl rfl), ⟨_, _, rfl⟩, ⟨by decide +kernel, rfl⟩⟩, fun h => absurd h (by decide)⟩
set_option maxRecDepth 20000 in
theorem kf_108 : g_Q 108 := fun xs => ⟨fun h => absurd h (by decide), fun _ => ⟨⟨(tb_w 1 rfl rfl), (tb_w 879 rfl rfl), by decide +kernel, by decide +kernel, by decide +kernel⟩, (tb_w 877 rfl rfl), (tb_w 878 rfl rfl), ⟨_, _, rfl⟩, ⟨by decide +kernel, rfl⟩⟩, fun h => absurd h (by decide)⟩
set_option maxRecDepth 20000 in
theorem kf_109 : g_Q 109 := fun xs => ⟨fun h => absurd h (by decide), fun _ => ⟨⟨(tb_w 1 rfl rfl), (tb_w 883 rfl rfl), by decide +kernel, by decide +kernel, by decide +kernel⟩, (tb_w 882 rfl rfl), (tb_s 68 rfl rfl), ⟨_, _, rfl⟩, ⟨by decide +kernel, rfl⟩⟩, fun h => absurd h (by decide)⟩
set_option maxRecDepth 20000 in
theorem kf_110 : g_Q 110 := fun xs => ⟨fun h => absurd h (by decide), fun _ => ⟨⟨(tb_w 8 rfl rfl), (tb_w 887 rfl rfl), by decide +kernel, by decide +kernel, by decide +kernel⟩, (tb_w 886 rfl rfl), (tb_s 69 rfl rfl), ⟨_, _, rfl⟩, ⟨by decide +kernel, rfl⟩⟩, fun h => absurd h (by decide)⟩
set_option maxRecDepth 20000 in
theorem kf_111 : g_Q 111 := fun xs => ⟨fun h => absurd h (by decide), fun _ => ⟨⟨(tb_w 1 rfl rfl), (tb_w 892 rfl rfl), by decide +kernel, by decide +kernel, by decide +kernel⟩, (tb_w 890 rfl rfl), (tb_w 891 rfl rfl), ⟨_, _, rfl⟩, ⟨by decide +kernel, rfl⟩⟩, fun h => absurd h (by decide)⟩
set_option maxRecDepth 20000 in
theorem kf_112 : g_Q 112 := fun xs => ⟨fun h => absurd h (by decide), fun _ => ⟨⟨(tb_w 8 rfl rfl), (tb_w 896 rfl rfl), by decide +kernel, by decide +kernel, by decide +kernel⟩, (tb_w 895 rfl rfl), (tb_s 70 rfl rfl), ⟨_, _, rfl⟩, ⟨by decide +kernel, rfl⟩⟩, fun h => absurd h (by decide)⟩
set_option maxRecDepth 20000 in
theorem kf_113 : g_Q 113 := fun xs => ⟨fun h => absurd h (by decide), fun _ => ⟨⟨(tb_w 1 rfl rfl), (tb_w 900 rfl rfl), by decide +kernel, by decide +kernel, by decide +kernel⟩, (tb_w 898 rfl rfl), (tb_w 899 rfl rfl), ⟨_, _, rfl⟩, ⟨by decide +kernel, rfl⟩⟩, fun h => absurd h (by decide)⟩
set_option maxRecDepth 20000 in
theorem kf_114 : g_Q 114 := fun xs => ⟨fun h => absurd h (by decide), fun _ => ⟨⟨(tb_w 1 rfl rfl), (tb_w 904 rfl rfl), by decide +kernel, by decide +kernel, by decide +kernel⟩, (tb_w 902 rfl rfl), (tb_w 903 rfl rfl), ⟨_, _, rfl⟩, ⟨by decide +kernel, rfl⟩⟩, fun h => absurd h (by decide)⟩
set_option maxRecDepth 20000 in
theorem kf_115 : g_Q 115 := fun xs => ⟨fun h => absurd h (by decide), fun _ => ⟨⟨(tb_w 1 rfl rfl), (tb_w 908 rfl rfl), by decide +kernel, by decide +kernel, by decide +kernel⟩, (tb_w 906 rfl rfl), (tb_w 907 rfl rfl), ⟨_, _, rfl⟩, ⟨by decide +kernel, rfl⟩⟩, fun h => absurd h (by decide)⟩
set_option maxRecDepth 20000 in
theorem kf_116 : g_Q 116 := fun xs => ⟨fun h => absurd h (by decide), fun _ => ⟨⟨(tb_w 1 rfl rfl), (tb_w 912 rfl rfl), by decide +kernel, by decide +kernel, by decide +kernel⟩, (tb_w 910 rfl rfl), (tb_w 911 rfl rfl), ⟨_, _, rfl⟩, ⟨by decide +kernel, rfl⟩⟩, fun h => absurd h (by decide)⟩
set_option maxRecDepth 20000 in
theorem kf_117 : g_Q 117 := fun xs => ⟨fun h => absurd h (by decide), fun _ => ⟨⟨(tb_w 8 rfl rfl), (tb_w 916 rfl rfl), by decide +kernel, by decide +kernel, by decide +kernel⟩, (tb_w 915 rfl rfl), (tb_s 71 rfl rfl), ⟨_, _, rfl⟩, ⟨by decide +kernel, rfl⟩⟩, fun h => absurd h (by decide)⟩
set_option maxRecDepth 20000 in
theorem kf_118 : g_Q 118 := fun xs => ⟨fun h => absurd h (by decide), fun _ => ⟨⟨(tb_w 1 rfl rfl), (tb_w 920 rfl rfl), by decide +kernel, by decide +kernel, by decide +kernel⟩, (tb_w 918 rfl rfl), (tb_w 919 rfl rfl), ⟨_, _, rfl⟩, ⟨by decide +kernel, rfl⟩⟩, fun h => absurd h (by decide)⟩
set_option maxRecDepth 20000 in
theorem kf_119 : g_Q 119 := fun xs => ⟨fun h => absurd h (by decide), fun _ => ⟨⟨(tb_w 6 rfl rfl), (tb_w 924 rfl rfl), by decide +kernel, by decide +kernel, by decide +kernel⟩, (tb_w 923 rfl rfl), (tb_s 72 rfl rfl), ⟨_, _, rfl⟩, ⟨by decide +kernel, rfl⟩⟩, fun h => absurd h (by decide)⟩
set_option maxRecDepth 20000 in
theorem kf_120 : g_Q 120 := fun xs => ⟨fun h => absurd h (by decide), fun _ => ⟨⟨(tb_w 1 rfl rfl), (tb_w 928 rfl rfl), by decide +kernel, by decide +kernel, by decide +kernel⟩, (tb_w 926 rfl rfl), (tb_w 927 rfl rfl), ⟨_, _, rfl⟩, ⟨by decide +kernel, rfl⟩⟩, fun h => absurd h (by decide)⟩
set_option maxRecDepth 20000 in
theorem kf_121 : g_Q 121 := fun xs => ⟨fun h => absurd h (by decide), fun _ => ⟨⟨(tb_w 1 rfl rfl), (tb_w 932 rfl rfl), by decide +kernel, by decide +kernel, by decide +kernel⟩, (tb_w 931 rfl rfl), (tb_s 73 rfl rfl), ⟨_, _, rfl⟩, ⟨by decide +kernel, rfl⟩⟩, fun h => absurd h (by decide)⟩
set_option maxRecDepth 20000 in
theorem kf_122 : g_Q 122 := fun xs => ⟨fun h => absurd h (by decide), fun _ => ⟨⟨(tb_w 1 rfl rfl), (tb_w 936 rfl rfl), by decide +kernel, by decide +kernel, by decide +kernel⟩, (tb_w 935 rfl rfl), (tb_s 74 rfl rfl), ⟨_, _, rfl⟩, ⟨by decide +kernel, rfl⟩⟩, fun h => absurd h (by decide)⟩
set_option maxRecDepth 20000 in
theorem kf_123 : g_Q 123 := fun xs => ⟨fun h => absurd h (by decide), fun _ => ⟨⟨(tb_w 10 rfl rfl), (tb_w 940 rfl rfl), by decide +kernel, by decide +kernel, by decide +kernel⟩, (tb_w 939 rfl rfl), (tb_s 75 rfl rfl), ⟨_, _, rfl⟩, ⟨by decide +kernel, rfl⟩⟩, fun h => absurd h (by decide)⟩
set_option maxRecDepth 20000 in
theorem kf_124 : g_Q 124 := fun xs => ⟨fun h => absurd h (by decide), fun _ => ⟨⟨(tb_w 12 rfl rfl), (tb_w 945 rfl rfl), by decide +kernel, by decide +kernel, by decide +kernel⟩, (tb_w 944 rfl rfl), (tb_s 76 rfl rfl), ⟨_, _, rfl⟩, ⟨by decide +kernel, rfl⟩⟩, fun h => absurd h (by decide)⟩
set_option maxRecDepth 20000 in
theorem kf_125 : g_Q 125 := fun xs => ⟨fun h => absurd h (by decide), fun _ => ⟨⟨(tb_w 12 rfl rfl), (tb_w 949 rfl rfl), by decide +kernel, by decide +kernel, by decide +kernel⟩, (tb_w 948 rfl rfl), (tb_s 77 rfl rfl), ⟨_, _, rfl⟩, ⟨by decide +kernel, rfl⟩⟩, fun h => absurd h (by decide)⟩
set_option maxRecDepth 20000 in
theorem kf_126 : g_Q 126 := fun xs => ⟨fun h => absurd h (by decide), fun _ => ⟨⟨(tb_w 12 rfl rfl), (tb_w 956 rfl rfl), by decide +kernel, by decide +kernel, by decide +kernel⟩, (tb_w 955 rfl rfl), (tb_s 78 rfl rfl), ⟨_, _, rfl⟩, ⟨by decide +kernel, rfl⟩⟩, fun h => absurd h (by decide)⟩
set_option maxRecDepth 20000 in
theorem kf_127 : g_Q 127 := fun xs => ⟨fun h => absurd h (by decide), fun _ => ⟨⟨(tb_w 12 rfl rfl), (tb_w 960 rfl rfl), by decide +kernel, by decide +kernel, by decide +kernel⟩, (tb_w 959 rfl rfl), (tb_s 79 rfl rfl), ⟨_, _, rfl⟩, ⟨by decide +kernel, rfl⟩⟩, fun h => absurd h (by decide)⟩
set_option maxRecDepth 20000 in
theorem kf_128 : g_Q 128 := fun xs => ⟨fun h => absurd h (by decide), fun _ => ⟨⟨(tb_w 1 rfl rfl), (tb_w 965 rfl rfl), by decide +kernel, by decide +kernel, by decide +kernel⟩, (tb_w 964 rfl rfl), (tb_s 80 rfl rfl), ⟨_, _, rfl⟩, ⟨by decide +kernel, rfl⟩⟩, fun h => absurd h (by decide)⟩
set_option maxRecDepth 20000 in
theorem kf_129 : g_Q 129 := fun xs => ⟨fun h => absurd h (by decide), fun _ => ⟨⟨(tb_w 11 rfl rfl), (tb_w 969 rfl rfl), by decide +kernel, by decide +kernel, by decide +kernel⟩, (tb_w 968 rfl rfl), (tb_s 81 rfl rfl), ⟨_, _, rfl⟩, ⟨by decide +kernel, rfl⟩⟩, fun h => absurd h (by decide)⟩
set_option maxRecDepth 20000 in
theorem kf_130 : g_Q 130 := fun xs => ⟨fun h => absurd h (by decide), fun _ => ⟨⟨(tb_w 12 rfl rfl), (tb_w 973 rfl rfl), by decide +kernel, by decide +kernel, by decide +kernel⟩, (tb_w 972 rfl rfl), (tb_s 82 rfl rfl), ⟨_, _, rfl⟩, ⟨by decide +kernel, rfl⟩⟩, fun h => absurd h (by decide)⟩
set_option maxRecDepth 20000 in
theorem kf_131 : g_Q 131 := fun xs => ⟨fun h => absurd h (by decide), fun _ => ⟨⟨(tb_w 12 rfl rfl), (tb_w 977 rfl rfl), by decide +kernel, by decide +kernel, by decide +kernel⟩, (tb_w 976 rfl rfl), (tb_s 83 rfl rfl), ⟨_, _, rfl⟩, ⟨by decide +kernel, rfl⟩⟩, fun h => absurd h (by decide)⟩
set_option maxRecDepth 20000 in
theorem kf_132 : g_Q 132 := fun xs => ⟨fun h => absurd h (by decide), fun _ => ⟨⟨(tb_w 11 rfl rfl), (tb_w 981 rfl rfl), by decide +kernel, by decide +kernel, by decide +kernel⟩, (tb_w 980 rfl rfl), (tb_s 84 rfl rfl), ⟨_, _, rfl⟩, ⟨by decide +kernel, rfl⟩⟩, fun h => absurd h (by decide)⟩
set_option maxRecDepth 20000 in
theorem kf_133 : g_Q 133 := fun xs => ⟨fun h => absurd h (by decide), fun _ => ⟨⟨(tb_w 11 rfl rfl), (tb_w 985 rfl rfl), by decide +kernel, by decide +kernel, by decide +kernel⟩, (tb_w 984 rfl rfl), (tb_s 85 rfl rfl), ⟨_, _, rfl⟩, ⟨by decide +kernel, rfl⟩⟩, fun h => absurd h (by decide)⟩
set_option maxRecDepth 20000 in
theorem kf_134 : g_Q 134 := fun xs => ⟨fun h => absurd h (by decide), fun _ => ⟨⟨(tb_w 12 rfl rfl), (tb_w 989 rfl rfl), by decide +kernel, by decide +kernel, by decide +kernel⟩, (tb_w 988 rfl rfl), (tb_s 86 rfl rfl), ⟨_, _, rfl⟩, ⟨by decide +kernel, rfl⟩⟩, fun h => absurd h (by decide)⟩
set_option maxRecDepth 20000 in
theorem kf_135 : g_Q 135 := fun xs => ⟨fun h => absurd h (by decide), fun _ => ⟨⟨(tb_w 12 rfl rfl), (tb_w 993 rfl rfl), by decide +kernel, by decide +kernel, by decide +kernel⟩, (tb_w 992 rfl rfl), (tb_s 87 rfl rfl), ⟨_, _, rfl⟩, ⟨by decide +kernel, rfl⟩⟩, fun h => absurd h (by decide)⟩
set_option maxRecDepth 20000 in
theorem kf_136 : g_Q 136 := fun xs => ⟨fun h => absurd h (by decide), fun _ => ⟨⟨(tb_w 12 rfl rfl), (tb_w 997 rfl rfl), by decide +kernel, by decide +kernel, by decide +kernel⟩, (tb_w 996 rfl rfl), (tb_s 88 rfl rfl), ⟨_, _, rfl⟩, ⟨by decide +kernel, rfl⟩⟩, fun h => absurd h (by decide)⟩
set_option maxRecDepth 20000 in
theorem kf_137 : g_Q 137 := fun xs => ⟨fun h => absurd h (by decide), fun _ => ⟨⟨(tb_w 12 rfl rfl), (tb_w 1001 rfl rfl), by decide +kernel, by decide +kernel, by decide +kernel⟩, (tb_w 1000 rfl rfl), (tb_s 89 rfl rfl), ⟨_, _, rfl⟩, ⟨by decide +kernel, rfl⟩⟩, fun h => absurd h (by decide)⟩
set_option maxRecDepth 20000 in
theorem kf_138 : g_Q 138 := fun xs => ⟨fun _ => ⟨⟨(tb_w 3 rfl rfl), (tb_w 1004 rfl rfl), by decide +kernel, by decide +kernel, by decide +kernel⟩, (tb_w 1003 rfl rfl), ⟨by decide +kernel, rfl⟩⟩, fun h => absurd h (by decide), fun h => absurd h (by decide)⟩
set_option maxRecDepth 20000 in
theorem kf_139 : g_Q 139 := fun xs => ⟨fun h => absurd h (by decide), fun _ => ⟨⟨(tb_w 12 rfl rfl), (tb_w 1008 rfl rfl), by decide +kernel, by decide +kernel, by decide +kernel⟩, (tb_w 1007 rfl rfl), (tb_s 90 rfl rfl), ⟨_, _, rfl⟩, ⟨by decide +kernel, rfl⟩⟩, fun h => absurd h (by decide)⟩
set_option maxRecDepth 20000 in
theorem kf_140 : g_Q 140 := fun xs => ⟨fun h => absurd h (by decide), fun _ => ⟨⟨(tb_w 1 rfl rfl), (tb_w 1012 rfl rfl), by decide +kernel, by decide +kernel, by decide +kernel⟩, (tb_w 1010 rfl rfl), (tb_w 1011 rfl rfl), ⟨_, _, rfl⟩, ⟨by decide +kernel, rfl⟩⟩, fun h => absurd h (by decide)⟩
set_option maxRecDepth 20000 in
theorem kf_141 : g_Q 141 := fun xs => ⟨fun h => absurd h (by decide), fun _ => ⟨⟨(tb_w 12 rfl rfl), (tb_w 1016 rfl rfl), by decide +kernel, by decide +kernel, by decide +kernel⟩, (tb_w 1015 rfl rfl), (tb_s 91 rfl rfl), ⟨_, _, rfl⟩, ⟨by decide +kernel, rfl⟩⟩, fun h => absurd h (by decide)⟩
set_option maxRecDepth 20000 in
theorem kf_142 : g_Q 142 := fun xs => ⟨fun h => absurd h (by decide), fun _ => ⟨⟨(tb_w 12 rfl rfl), (tb_w 1020 rfl rfl), by decide +kernel, by decide +kernel, by decide +kernel⟩, (tb_w 1019 rfl rfl), (tb_s 92 rfl rfl), ⟨_, _, rfl⟩, ⟨by decide +kernel, rfl⟩⟩, fun h => absurd h (by decide)⟩
set_option maxRecDepth 20000 in
theorem kf_143 : g_Q 143 := fun xs => ⟨fun _ => ⟨⟨(tb_w 3 rfl rfl), (tb_w 1023 rfl rfl), by decide +kernel, by decide +kernel, by decide +kernel⟩, (tb_w 1022 rfl rfl), ⟨by decide +kernel, rfl⟩⟩, fun h => absurd h (by decide), fun h => absurd h (by decide)⟩
set_option maxRecDepth 20000 in
theorem kf_144 : g_Q 144 := fun xs => ⟨fun h => absurd h (by decide), fun _ => ⟨⟨(tb_w 12 rfl rfl), (tb_w 1027 rfl rfl), by decide +kernel, by decide +kernel, by decide +kernel⟩, (tb_w 1026 rfl rfl), (tb_s 93 rfl rfl), ⟨_, _, rfl⟩, ⟨by decide +kernel, rfl⟩⟩, fun h => absurd h (by decide)⟩
set_option maxRecDepth 20000 in
theorem kf_145 : g_Q 145 := fun xs => ⟨fun h => absurd h (by decide), fun _ => ⟨⟨(tb_w 12 rfl rfl), (tb_w 1031 rfl rfl), by decide +kernel, by decide +kernel, by decide +kernel⟩, (tb_w 1030 rfl rfl), (tb_s 94 rfl rfl), ⟨_, _, rfl⟩, ⟨by decide +kernel, rfl⟩⟩, fun h => absurd h (by decide)⟩
set_option maxRecDepth 20000 in
theorem kf_146 : g_Q 146 := fun xs => ⟨fun h => absurd h (by decide), fun _ => ⟨⟨(tb_w 1 rfl rfl), (tb_w 1036 rfl rfl), by decide +kernel, by decide +kernel, by decide +kernel⟩, (tb_w 1034 rfl rfl), (tb_w 1035 rfl rfl), ⟨_, _, rfl⟩, ⟨by decide +kernel, rfl⟩⟩, fun h => absurd h (by decide)⟩
set_option maxRecDepth 20000 in
theorem kf_147 : g_Q 147 := fun xs => ⟨fun h => absurd h (by decide), fun _ => ⟨⟨(tb_w 12 rfl rfl), (tb_w 1041 rfl rfl), by decide +kernel, by decide +kernel, by decide +kernel⟩, (tb_w 1040 rfl rfl), (tb_s 95 rfl rfl), ⟨_, _, rfl⟩, ⟨by decide +kernel, rfl⟩⟩, fun h => absurd h (by decide)⟩
set_option maxRecDepth 20000 in
theorem kf_148 : g_Q 148 := fun xs => ⟨fun h => absurd h (by decide), fun _ => ⟨⟨(tb_w 12 rfl rfl), (tb_w 1045 rfl rfl), by decide +kernel, by decide +kernel, by decide +kernel⟩, (tb_w 1044 rfl rfl), (tb_s 96 rfl rfl), ⟨_, _, rfl⟩, ⟨by decide +kernel, rfl⟩⟩, fun h => absurd h (by decide)⟩
set_option maxRecDepth 20000 in
theorem kf_149 : g_Q 149 := fun xs => ⟨fun h => absurd h (by decide), fun _ => ⟨⟨(tb_w 12 rfl rfl), (tb_w 1049 rfl rfl), by decide +kernel, by decide +kernel, by decide +kernel⟩, (tb_w 1048 rfl rfl), (tb_s 97 rfl rfl), ⟨_, _, rfl⟩, ⟨by decide +kernel, rfl⟩⟩, fun h => absurd h (by decide)⟩
set_option maxRecDepth 20000 in
theorem kf_150 : g_Q 150 := fun xs => ⟨fun h => absurd h (by decide), fun _ => ⟨⟨(tb_w 11 rfl rfl), (tb_w 1053 rfl rfl), by decide +kernel, by decide +kernel, by decide +kernel⟩, (tb_w 1052 rfl rfl), (tb_s 98 rfl rfl), ⟨_, _, rfl⟩, ⟨by decide +kernel, rfl⟩⟩, fun h => absurd h (by decide)⟩
set_option maxRecDepth 20000 in
theorem kf_151 : g_Q 151 := fun xs => ⟨fun h => absurd h (by decide), fun _ => ⟨⟨(tb_w 1 rfl rfl), (tb_w 1057 rfl rfl), by decide +kernel, by decide +kernel, by decide +kernel⟩, (tb_w 1055 rfl rfl), (tb_w 1056 rfl rfl), ⟨_, _, rfl⟩, ⟨by decide +kernel, rfl⟩⟩, fun h => absurd h (by decide)⟩
set_option maxRecDepth 20000 in
theorem kf_152 : g_Q 152 := fun xs => ⟨fun h => absurd h (by decide), fun _ => ⟨⟨(tb_w 12 rfl rfl), (tb_w 1061 rfl rfl), by decide +kernel, by decide +kernel, by decide +kernel⟩, (tb_w 1060 rfl rfl), (tb_s 99 rfl rfl), ⟨_, _, rfl⟩, ⟨by decide +kernel, rfl⟩⟩, fun h => absurd h (by decide)⟩
set_option maxRecDepth 20000 in
theorem kf_153 : g_Q 153 := fun xs => ⟨fun h => absurd h (by decide), fun _ => ⟨⟨(tb_w 12 rfl rfl), (tb_w 1068 rfl rfl), by decide +kernel, by decide +kernel, by decide +kernel⟩, (tb_w 1067 rfl rfl), (tb_s 100 rfl rfl), ⟨_, _, rfl⟩, ⟨by decide +kernel, rfl⟩⟩, fun h => absurd h (by decide)⟩
set_option maxRecDepth 20000 in
theorem kf_154 : g_Q 154 := fun xs => ⟨fun h => absurd h (by decide), fun _ => ⟨⟨(tb_w 12 rfl rfl), (tb_w 1073 rfl rfl), by decide +kernel, by decide +kernel, by decide +kernel⟩, (tb_w 1072 rfl rfl), (tb_s 101 rfl rfl), ⟨_, _, rfl⟩, ⟨by decide +kernel, rfl⟩⟩, fun h => absurd h (by decide)⟩
set_option maxRecDepth 20000 in
theorem kf_155 : g_Q 155 := fun xs => ⟨fun h => absurd h (by decide), fun _ => ⟨⟨(tb_w 1 rfl rfl), (tb_w 1080 rfl rfl), by decide +kernel, by decide +kernel, by decide +kernel⟩, (tb_w 1078 rfl rfl), (tb_w 1079 rfl rfl), ⟨_, _, rfl⟩, ⟨by decide +kernel, rfl⟩⟩, fun h => absurd h (by decide)⟩
set_option maxRecDepth 20000 in
theorem kf_156 : g_Q 156 := fun xs => ⟨fun h => absurd h (by decide), fun _ => ⟨⟨(tb_w 12 rfl rfl), (tb_w 1084 rfl rfl), by decide +kernel, by decide +kernel, by decide +kernel⟩, (tb_w 1083 rfl rfl), (tb_s 102 rfl rfl), ⟨_, _, rfl⟩, ⟨by decide +kernel, rfl⟩⟩, fun h => absurd h (by decide)⟩
set_option maxRecDepth 20000 in
theorem kf_157 : g_Q 157 := fun xs => ⟨fun h => absurd h (by decide), fun _ => ⟨⟨(tb_w 12 rfl rfl), (tb_w 1088 rfl rfl), by decide +kernel, by decide +kernel, by decide +kernel⟩, (tb_w 1087 rfl rfl), (tb_s 103 rfl rfl), ⟨_, _, rfl⟩, ⟨by decide +kernel, rfl⟩⟩, fun h => absurd h (by decide)⟩
set_option maxRecDepth 20000 in
theorem kf_158 : g_Q 158 := fun xs => ⟨fun h => absurd h (by decide), fun _ => ⟨⟨(tb_w 11 rfl rfl), (tb_w 1092 rfl rfl), by decide +kernel, by decide +kernel, by decide +kernel⟩, (tb_w 1091 rfl rfl), (tb_s 104 rfl rfl), ⟨_, _, rfl⟩, ⟨by decide +kernel, rfl⟩⟩, fun h => absurd h (by decide)⟩
set_option maxRecDepth 20000 in
theorem kf_159 : g_Q 159 := fun xs => ⟨fun h => absurd h (by decide), fun _ => ⟨⟨(tb_w 1 rfl rfl), (tb_w 1096 rfl rfl), by decide +kernel, by decide +kernel, by decide +kernel⟩, (tb_w 1094 rfl rfl), (tb_w 1095 rfl rfl), ⟨_, _, rfl⟩, ⟨by decide +kernel, rfl⟩⟩, fun h => absurd h (by decide)⟩
set_option maxRecDepth 20000 in
theorem kf_160 : g_Q 160 := fun xs => ⟨fun h => absurd h (by decide), fun _ => ⟨⟨(tb_w 12 rfl rfl), (tb_w 1100 rfl rfl), by decide +kernel, by decide +kernel, by decide +kernel⟩, (tb_w 1099 rfl rfl), (tb_s 105 rfl rfl), ⟨_, _, rfl⟩, ⟨by decide +kernel, rfl⟩⟩, fun h => absurd h (by decide)⟩
set_option maxRecDepth 20000 in
theorem kf_161 : g_Q 161 := fun xs => ⟨fun h => absurd h (by decide), fun _ => ⟨⟨(tb_w 12 rfl rfl), (tb_w 1105 rfl rfl), by decide +kernel, by decide +kernel, by decide +kernel⟩, (tb_w 1104 rfl rfl), (tb_s 106 rfl rfl), ⟨_, _, rfl⟩, ⟨by decide +kernel, rfl⟩⟩, fun h => absurd h (by decide)⟩
set_option maxRecDepth 20000 in
theorem kf_162 : g_Q 162 := fun xs => ⟨fun h => absurd h (by decide), fun _ => ⟨⟨(tb_w 12 rfl rfl), (tb_w 1109 rfl rfl), by decide +kernel, by decide +kernel, by decide +kernel⟩, (tb_w 1108 rfl rfl), (tb_s 107 rfl rfl), ⟨_, _, rfl⟩, ⟨by decide +kernel, rfl⟩⟩, fun h => absurd h (by decide)⟩
set_option maxRecDepth 20000 in
theorem kf_163 : g_Q 163 := fun xs => ⟨fun h => absurd h (by decide), fun _ => ⟨⟨(tb_w 12 rfl rfl), (tb_w 1113 rfl rfl), by decide +kernel, by decide +kernel, by decide +kernel⟩, (tb_w 1112 rfl rfl), (tb_s 108 rfl rfl), ⟨_, _, rfl⟩, ⟨by decide +kernel, rfl⟩⟩, fun h => absurd h (by decide)⟩
set_option maxRecDepth 20000 in
theorem kf_164 : g_Q 164 := fun xs => ⟨fun h => absurd h (by decide), fun _ => ⟨⟨(tb_w 1 rfl rfl), (tb_w 1117 rfl rfl), by decide +kernel, by decide +kernel, by decide +kernel⟩, (tb_w 1115 rfl rfl), (tb_w 1116 rfl rfl), ⟨_, _, rfl⟩, ⟨by decide +kernel, rfl⟩⟩, fun h => absurd h (by decide)⟩
set_option maxRecDepth 20000 in
theorem kf_165 : g_Q 165 := fun xs => ⟨fun h => absurd h (by decide), fun _ => ⟨⟨(tb_w 1 rfl rfl), (tb_w 1122 rfl rfl), by decide +kernel, by decide +kernel, by decide +kernel⟩, (tb_w 1120 rfl rfl), (tb_w 1121 rfl rfl), ⟨_, _, rfl⟩, ⟨by decide +kernel, rfl⟩⟩, fun h => absurd h (by decide)⟩
set_option maxRecDepth 20000 in
theorem kf_166 : g_Q 166 := fun xs => ⟨fun h => absurd h (by decide), fun _ => ⟨⟨(tb_w 12 rfl rfl), (tb_w 1126 rfl rfl), by decide +kernel, by decide +kernel, by decide +kernel⟩, (tb_w 1125 rfl rfl), (tb_s 109 rfl rfl), ⟨_, _, rfl⟩, ⟨by decide +kernel, rfl⟩⟩, fun h => absurd h (by decide)⟩
set_option maxRecDepth 20000 in
theorem kf_167 : g_Q 167 := fun xs => ⟨fun h => absurd h (by decide), fun _ => ⟨⟨(tb_w 1 rfl rfl), (tb_w 1130 rfl rfl), by decide +kernel, by decide +kernel, by decide +kernel⟩, (tb_w 1128 rfl rfl), (tb_w 1129 rfl rfl), ⟨_, _, rfl⟩, ⟨by decide +kernel, rfl⟩⟩, fun h => absurd h (by decide)⟩
set_option maxRecDepth 20000 in
theorem kf_168 : g_Q 168 := fun xs => ⟨fun h => absurd h (by decide), fun _ => ⟨⟨(tb_w 9 rfl rfl), (tb_w 1134 rfl rfl), by decide +kernel, by decide +kernel, by decide +kernel⟩, (tb_w 1133 rfl rfl), (tb_s 110 rfl rfl), ⟨_, _, rfl⟩, ⟨by decide +kernel, rfl⟩⟩, fun h => absurd h (by decide)⟩
set_option maxRecDepth 20000 in
theorem kf_169 : g_Q 169 := fun xs => ⟨fun h => absurd h (by decide), fun _ => ⟨⟨(tb_w 1 rfl rfl), (tb_w 1139 rfl rfl), by decide +kernel, by decide +kernel, by decide +kernel⟩, (tb_w 1137 rfl rfl), (tb_w 1138 rfl rfl), ⟨_, _, rfl⟩, ⟨by decide +kernel, rfl⟩⟩, fun h => absurd h (by decide)⟩
set_option maxRecDepth 20000 in
theorem kf_170 : g_Q 170 := fun xs => ⟨fun h => absurd h (by decide), fun _ => ⟨⟨(tb_w 9 rfl rfl), (tb_w 1143 rfl rfl), by decide +kernel, by decide +kernel, by decide +kernel⟩, (tb_w 1142 rfl rfl), (tb_s 111 rfl rfl), ⟨_, _, rfl⟩, ⟨by decide +kernel, rfl⟩⟩, fun h => absurd h (by decide)⟩
set_option maxRecDepth 20000 in
theorem kf_171 : g_Q 171 := fun xs => ⟨fun h => absurd h (by decide), fun _ => ⟨⟨(tb_w 9 rfl rfl), (tb_w 1147 rfl rfl), by decide +kernel, by decide +kernel, by decide +kernel⟩, (tb_w 1146 rfl rfl), (tb_s 112 rfl rfl), ⟨_, _, rfl⟩, ⟨by decide +kernel, rfl⟩⟩, fun h => absurd h (by decide)⟩
set_option maxRecDepth 20000 in
theorem kf_172 : g_Q 172 := fun xs => ⟨fun h => absurd h (by decide), fun _ => ⟨⟨(tb_w 9 rfl rfl), (tb_w 1151 rfl rfl), by decide +kernel, by decide +kernel, by decide +kernel⟩, (tb_w 1150 rfl rfl), (tb_s 113 rfl rfl), ⟨_, _, rfl⟩, ⟨by decide +kernel, rfl⟩⟩, fun h => absurd h (by decide)⟩
set_option maxRecDepth 20000 in
theorem kf_173 : g_Q 173 := fun xs => ⟨fun h => absurd h (by decide), fun _ => ⟨⟨(tb_w 1 rfl rfl), (tb_w 1157 rfl rfl), by decide +kernel, by decide +kernel, by decide +kernel⟩, (tb_w 1155 rfl rfl), (tb_w 1156 rfl rfl), ⟨_, _, rfl⟩, ⟨by decide +kernel, rfl⟩⟩, fun h => absurd h (by decide)⟩
set_option maxRecDepth 20000 in
theorem kf_174 : g_Q 174 := fun xs => ⟨fun h => absurd h (by decide), fun _ => ⟨⟨(tb_w 1 rfl rfl), (tb_w 1162 rfl rfl), by decide +kernel, by decide +kernel, by decide +kernel⟩, (tb_w 1160 rfl rfl), (tb_w 1161 rfl rfl), ⟨_, _, rfl⟩, ⟨by decide +kernel, rfl⟩⟩, fun h => absurd h (by decide)⟩
set_option maxRecDepth 20000 in
theorem kf_175 : g_Q 175 := fun xs => ⟨fun h => absurd h (by decide), fun _ => ⟨⟨(tb_w 12 rfl rfl), (tb_w 1167 rfl rfl), by decide +kernel, by decide +kernel, by decide +kernel⟩, (tb_w 1166 rfl rfl), (tb_s 114 rfl rfl), ⟨_, _, rfl⟩, ⟨by decide +kernel, rfl⟩⟩, fun h => absurd h (by decide)⟩
set_option maxRecDepth 20000 in
theorem kf_176 : g_Q 176 := fun xs => ⟨fun h => absurd h (by decide), fun _ => ⟨⟨(tb_w 12 rfl rfl), (tb_w 1173 rfl rfl), by decide +kernel, by decide +kernel, by decide +kernel⟩, (tb_w 1172 rfl rfl), (tb_s 115 rfl rfl), ⟨_, _, rfl⟩, ⟨by decide +kernel, rfl⟩⟩, fun h => absurd h (by decide)⟩
set_option maxRecDepth 20000 in
theorem kf_177 : g_Q 177 := fun xs => ⟨fun h => absurd h (by decide), fun _ => ⟨⟨(tb_w 12 rfl rfl), (tb_w 1177 rfl rfl), by decide +kernel, by decide +kernel, by decide +kernel⟩, (tb_w 1176 rfl rfl), (tb_s 116 rfl rfl), ⟨_, _, rfl⟩, ⟨by decide +kernel, rfl⟩⟩, fun h => absurd h (by decide)⟩
set_option maxRecDepth 20000 in
theorem kf_178 : g_Q 178 := fun xs => ⟨fun h => absurd h (by decide), fun _ => ⟨⟨(tb_w 1 rfl rfl), (tb_w 1182 rfl rfl), by decide +kernel, by decide +kernel, by decide +kernel⟩, (tb_w 1180 rfl rfl), (tb_w 1181 rfl rfl), ⟨_, _, rfl⟩, ⟨by decide +kernel, rfl⟩⟩, fun h => absurd h (by decide)⟩
set_option maxRecDepth 20000 in
theorem kf_179 : g_Q 179 := fun xs => ⟨fun h => absurd h (by decide), fun _ => ⟨⟨(tb_w 1 rfl rfl), (tb_w 1186 rfl rfl), by decide +kernel, by decide +kernel, by decide +kernel⟩, (tb_w 1184 rfl rfl), (tb_w 1185 rfl rfl), ⟨_, _, rfl⟩, ⟨by decide +kernel, rfl⟩⟩, fun h => absurd h (by decide)⟩
set_option maxRecDepth 20000 in
theorem kf_180 : g_Q 180 := fun xs => ⟨fun h => absurd h (by decide), fun _ => ⟨⟨(tb_w 12 rfl rfl), (tb_w 1190 rfl rfl), by decide +kernel, by decide +kernel, by decide +kernel⟩, (tb_w 1189 rfl rfl), (tb_s 117 rfl rfl), ⟨_, _, rfl⟩, ⟨by decide +kernel, rfl⟩⟩, fun h => absurd h (by decide)⟩
set_option maxRecDepth 20000 in
theorem kf_181 : g_Q 181 := fun xs => ⟨fun h => absurd h (by decide), fun _ => ⟨⟨(tb_w 1 rfl rfl), (tb_w 1194 rfl rfl), by decide +kernel, by decide +kernel, by decide +kernel⟩, (tb_w 1192 rfl rfl), (tb_w 1193 rfl rfl), ⟨_, _, rfl⟩, ⟨by decide +kernel, rfl⟩⟩, fun h => absurd h (by decide)⟩
set_option maxRecDepth 20000 in
theorem kf_182 : g_Q 182 := fun xs => ⟨fun h => absurd h (by decide), fun _ => ⟨⟨(tb_w 2 rfl rfl), (tb_w 1198 rfl rfl), by decide +kernel, by decide +kernel, by decide +kernel⟩, (tb_w 1197 rfl rfl), (tb_s 118 rfl rfl), ⟨_, _, rfl⟩, ⟨by decide +kernel, rfl⟩⟩, fun h => absurd h (by decide)⟩
set_option maxRecDepth 20000 in
theorem kf_183 : g_Q 183 := fun xs => ⟨fun h => absurd h (by decide), fun _ => ⟨⟨(tb_w 1 rfl rfl), (tb_w 1203 rfl rfl), by decide +kernel, by decide +kernel, by decide +kernel⟩, (tb_w 1202 rfl rfl), (tb_s 119 rfl rfl), ⟨_, _, rfl⟩, ⟨by decide +kernel, rfl⟩⟩, fun h => absurd h (by decide)⟩
set_option maxRecDepth 20000 in
theorem kf_184 : g_Q 184 := fun xs => ⟨fun h => absurd h (by decide), fun _ => ⟨⟨(tb_w 2 rfl rfl), (tb_w 1207 rfl rfl), by decide +kernel, by decide +kernel, by decide +kernel⟩, (tb_w 1206 rfl rfl), (tb_s 120 rfl rfl), ⟨_, _, rfl⟩, ⟨by decide +kernel, rfl⟩⟩, fun h => absurd h (by decide)⟩
set_option maxRecDepth 20000 in
theorem kf_185 : g_Q 185 := fun xs => ⟨fun h => absurd h (by decide), fun _ => ⟨⟨(tb_w 2 rfl rfl), (tb_w 1214 rfl rfl), by decide +kernel, by decide +kernel, by decide +kernel⟩, (tb_w 1213 rfl rfl), (tb_s 121 rfl rfl), ⟨_, _, rfl⟩, ⟨by decide +kernel, rfl⟩⟩, fun h => absurd h (by decide)⟩
set_option maxRecDepth 20000 in
theorem kf_186 : g_Q 186 := fun xs => ⟨fun h => absurd h (by decide), fun _ => ⟨⟨(tb_w 2 rfl rfl), (tb_w 1223 rfl rfl), by decide +kernel, by decide +kernel, by decide +kernel⟩, (tb_w 1222 rfl rfl), (tb_s 122 rfl rfl), ⟨_, _, rfl⟩, ⟨by decide +kernel, rfl⟩⟩, fun h => absurd h (by decide)⟩
set_option maxRecDepth 20000 in
theorem kf_187 : g_Q 187 := fun xs => ⟨fun h => absurd h (by decide), fun _ => ⟨⟨(tb_w 1 rfl rfl), (tb_w 1227 rfl rfl), by decide +kernel, by decide +kernel, by decide +kernel⟩, (tb_w 1225 rfl rfl), (tb_w 1226 rfl rfl), ⟨_, _, rfl⟩, ⟨by decide +kernel, rfl⟩⟩, fun h => absurd h (by decide)⟩
set_option maxRecDepth 20000 in
theorem kf_188 : g_Q 188 := fun xs => ⟨fun h => absurd h (by decide), fun h => absurd h (by decide), fun _ => ⟨⟨(tb_w 13 rfl rfl), (tb_w 1232 rfl rfl), by decide +kernel, by decide +kernel, by decide +kernel⟩, (tb_w 1231 rfl rfl), rfl, rfl, ⟨by decide +kernel, rfl⟩⟩⟩
set_option maxRecDepth 20000 in
theorem kf_189 : g_Q 189 := fun xs => ⟨fun h => absurd h (by decide), fun _ => ⟨⟨(tb_w 13 rfl rfl), (tb_w 1427 rfl rfl), by decide +kernel, by decide +kernel, by decide +kernel⟩, (tb_w 1425 rfl rfl), (tb_w 1426 rfl rfl), ⟨_, _, rfl⟩, ⟨by decide +kernel, rfl⟩⟩, fun h => absurd h (by decide)⟩
set_option maxRecDepth 20000 in
theorem kf_190 : g_Q 190 := fun xs => ⟨fun h => absurd h (by decide), fun _ => ⟨⟨(tb_w 13 rfl rfl), (tb_w 1431 rfl rfl), by decide +kernel, by decide +kernel, by decide +kernel⟩, (tb_w 1429 rfl rfl), (tb_w 1430 rfl rfl), ⟨_, _, rfl⟩, ⟨by decide +kernel, rfl⟩⟩, fun h => absurd h (by decide)⟩
set_option maxRecDepth 20000 in
theorem kf_191 : g_Q 191 := fun xs => ⟨fun _ => ⟨⟨(tb_w 13 rfl rfl), (tb_w 1435 rfl rfl), by decide +kernel, by decide +kernel, by decide +kernel⟩, (tb_w 1434 rfl rfl), ⟨by decide +kernel, rfl⟩⟩, fun h => absurd h (by decide), fun h => absurd h (by decide)⟩
set_option maxRecDepth 20000 in
theorem kf_192 : g_Q 192 := fun xs => ⟨fun h => absurd h (by decide), fun _ => ⟨⟨(tb_w 13 rfl rfl), (tb_w 1439 rfl rfl), by decide +kernel, by decide +kernel, by decide +kernel⟩, (tb_w 1438 rfl rfl), (tb_s 123 rfl rfl), ⟨_, _, rfl⟩, ⟨by decide +kernel, rfl⟩⟩, fun h => absurd h (by decide)⟩
set_option maxRecDepth 20000 in
theorem kf_193 : g_Q 193 := fun xs => ⟨fun h => absurd h (by decide), fun _ => ⟨⟨(tb_w 13 rfl rfl), (tb_w 1443 rfl rfl), by decide +kernel, by decide +kernel, by decide +kernel⟩, (tb_w 1441 rfl rfl), (tb_w 1442 rfl rfl), ⟨_, _, rfl⟩, ⟨by decide +kernel, rfl⟩⟩, fun h => absurd h (by decide)⟩
set_option maxRecDepth 20000 in
theorem kf_194 : g_Q 194 := fun xs => ⟨fun h => absurd h (by decide), fun _ => ⟨⟨(tb_w 13 rfl rfl), (tb_w 1448 rfl rfl), by decide +kernel, by decide +kernel, by decide +kernel⟩, (tb_w 1447 rfl rfl), (tb_s 124 rfl rfl), ⟨_, _, rfl⟩, ⟨by decide +kernel, rfl⟩⟩, fun h => absurd h (by decide)⟩
set_option maxRecDepth 20000 in
theorem kf_195 : g_Q 195 := fun xs => ⟨fun h => absurd h (by decide), fun _ => ⟨⟨(tb_w 13 rfl rfl), (tb_w 1452 rfl rfl), by decide +kernel, by decide +kernel, by decide +kernel⟩, (tb_w 1451 rfl rfl), (tb_s 125 rfl rfl), ⟨_, _, rfl⟩, ⟨by decide +kernel, rfl⟩⟩, fun h => absurd h (by decide)⟩
set_option maxRecDepth 20000 in
theorem kf_196 : g_Q 196 := fun xs => ⟨fun h => absurd h (by decide), fun _ => ⟨⟨(tb_w 13 rfl rfl), (tb_w 1456 rfl rfl), by decide +kernel, by decide +kernel, by decide +kernel⟩, (tb_w 1455 rfl rfl), (tb_s 126 rfl rfl), ⟨_, _, rfl⟩, ⟨by decide +kernel, rfl⟩⟩, fun h => absurd h (by decide)⟩
set_option maxRecDepth 20000 in
theorem kf_197 : g_Q 197 := fun xs => ⟨fun h => absurd h (by decide), fun _ => ⟨⟨(tb_w 13 rfl rfl), (tb_w 1460 rfl rfl), by decide +kernel, by decide +kernel, by decide +kernel⟩, (tb_w 1459 rfl rfl), (tb_s 127 rfl rfl), ⟨_, _, rfl⟩, ⟨by decide +kernel, rfl⟩⟩, fun h => absurd h (by decide)⟩
set_option maxRecDepth 20000 in
theorem kf_198 : g_Q 198 := fun xs => ⟨fun h => absurd h (by decide), fun _ => ⟨⟨(tb_w 13 rfl rfl), (tb_w 1464 rfl rfl), by decide +kernel, by decide +kernel, by decide +kernel⟩, (tb_w 1463 rfl rfl), (tb_s 128 rfl rfl), ⟨_, _, rfl⟩, ⟨by decide +kernel, rfl⟩⟩, fun h => absurd h (by decide)⟩
set_option maxRecDepth 20000 in
theorem kf_199 : g_Q 199 := fun xs => ⟨fun h => absurd h (by decide), fun _ => ⟨⟨(tb_w 13 rfl rfl), (tb_w 1468 rfl rfl), by decide +kernel, by decide +kernel, by decide +kernel⟩, (tb_w 1467 rfl rfl), (tb_s 129 rfl rfl), ⟨_, _, rfl⟩, ⟨by decide +kernel, rfl⟩⟩, fun h => absurd h (by decide)⟩
set_option maxRecDepth 20000 in
theorem kf_200 : g_Q 200 := fun xs => ⟨fun h => absurd h (by decide), fun _ => ⟨⟨(tb_w 13 rfl rfl), (tb_w 1472 rfl rfl), by decide +kernel, by decide +kernel, by decide +kernel⟩, (tb_w 1471 rfl rfl), (tb_s 130 rfl rfl), ⟨_, _, rfl⟩, ⟨by decide +kernel, rfl⟩⟩, fun h => absurd h (by decide)⟩
set_option maxRecDepth 20000 in
theorem kf_201 : g_Q 201 := fun xs => ⟨fun h => absurd h (by decide), fun _ => ⟨⟨(tb_w 13 rfl rfl), (tb_w 1476 rfl rfl), by decide +kernel, by decide +kernel, by decide +kernel⟩, (tb_w 1475 rfl rfl), (tb_s 131 rfl rfl), ⟨_, _, rfl⟩, ⟨by decide +kernel, rfl⟩⟩, fun h => absurd h (by decide)⟩
set_option maxRecDepth 20000 in
theorem kf_202 : g_Q 202 := fun xs => ⟨fun _ => ⟨⟨(tb_w 13 rfl rfl), (tb_w 1479 rfl rfl), by decide +kernel, by decide +kernel, by decide +kernel⟩, (tb_w 1478 rfl rfl), ⟨by decide +kernel, rfl⟩⟩, fun h => absurd h (by decide), fun h => absurd h (by decide)⟩
set_option maxRecDepth 20000 in
theorem kf_203 : g_Q 203 := fun xs => ⟨fun h => absurd h (by decide), fun _ => ⟨⟨(tb_w 13 rfl rfl), (tb_w 1483 rfl rfl), by decide +kernel, by decide +kernel, by decide +kernel⟩, (tb_w 1482 rfl rfl), (tb_s 132 rfl rfl), ⟨_, _, rfl⟩, ⟨by decide +kernel, rfl⟩⟩, fun h => absurd h (by decide)⟩
set_option maxRecDepth 20000 in
theorem kf_204 : g_Q 204 := fun xs => ⟨fun h => absurd h (by decide), fun _ => ⟨⟨(tb_w 13 rfl rfl), (tb_w 1487 rfl rfl), by decide +kernel, by decide +kernel, by decide +kernel⟩, (tb_w 1486 rfl rfl), (tb_s 133 rfl rfl), ⟨_, _, rfl⟩, ⟨by decide +kernel, rfl⟩⟩, fun h => absurd h (by decide)⟩
set_option maxRecDepth 20000 in
theorem kf_205 : g_Q 205 := fun xs => ⟨fun h => absurd h (by decide), fun _ => ⟨⟨(tb_w 13 rfl rfl), (tb_w 1491 rfl rfl), by decide +kernel, by decide +kernel, by decide +kernel⟩, (tb_w 1490 rfl rfl), (tb_s 134 rfl rfl), ⟨_, _, rfl⟩, ⟨by decide +kernel, rfl⟩⟩, fun h => absurd h (by decide)⟩
set_option maxRecDepth 20000 in
theorem kf_206 : g_Q 206 := fun xs => ⟨fun h => absurd h (by decide), fun _ => ⟨⟨(tb_w 13 rfl rfl), (tb_w 1495 rfl rfl), by decide +kernel, by decide +kernel, by decide +kernel⟩, (tb_w 1494 rfl rfl), (tb_s 135 rfl rfl), ⟨_, _, rfl⟩, ⟨by decide +kernel, rfl⟩⟩, fun h => absurd h (by decide)⟩
set_option maxRecDepth 20000 in
theorem kf_207 : g_Q 207 := fun xs => ⟨fun h => absurd h (by decide), fun _ => ⟨⟨(tb_w 13 rfl rfl), (tb_w 1499 rfl rfl), by decide +kernel, by decide +kernel, by decide +kernel⟩, (tb_w 1497 rfl rfl), (tb_w 1498 rfl rfl), ⟨_, _, rfl⟩, ⟨by decide +kernel, rfl⟩⟩, fun h => absurd h (by decide)⟩
set_option maxRecDepth 20000 in
theorem kf_208 : g_Q 208 := fun xs => ⟨fun h => absurd h (by decide), fun _ => ⟨⟨(tb_w 13 rfl rfl), (tb_w 1504 rfl rfl), by decide +kernel, by decide +kernel, by decide +kernel⟩, (tb_w 1503 rfl rfl), (tb_s 136 rfl rfl), ⟨_, _, rfl⟩, ⟨by decide +kernel, rfl⟩⟩, fun h => absurd h (by decide)⟩
set_option maxRecDepth 20000 in
theorem kf_209 : g_Q 209 := fun xs => ⟨fun h => absurd h (by decide), fun _ => ⟨⟨(tb_w 13 rfl rfl), (tb_w 1508 rfl rfl), by decide +kernel, by decide +kernel, by decide +kernel⟩, (tb_w 1506 rfl rfl), (tb_w 1507 rfl rfl), ⟨_, _, rfl⟩, ⟨by decide +kernel, rfl⟩⟩, fun h => absurd h (by decide)⟩
set_option maxRecDepth 20000 in
theorem kf_210 : g_Q 210 := fun xs => ⟨fun h => absurd h (by decide), fun _ => ⟨⟨(tb_w 13 rfl rfl), (tb_w 1512 rfl rfl), by decide +kernel, by decide +kernel, by decide +kernel⟩, (tb_w 1511 rfl rfl), (tb_s 137 rfl rfl), ⟨_, _, rfl⟩, ⟨by decide +kernel, rfl⟩⟩, fun h => absurd h (by decide)⟩
set_option maxRecDepth 20000 in
theorem kf_211 : g_Q 211 := fun xs => ⟨fun h => absurd h (by decide), fun _ => ⟨⟨(tb_w 13 rfl rfl), (tb_w 1516 rfl rfl), by decide +kernel, by decide +kernel, by decide +kernel⟩, (tb_w 1514 rfl rfl), (tb_w 1515 rfl rfl), ⟨_, _, rfl⟩, ⟨by decide +kernel, rfl⟩⟩, fun h => absurd h (by decide)⟩
set_option maxRecDepth 20000 in
theorem kf_212 : g_Q 212 := fun xs => ⟨fun _ => ⟨⟨(tb_w 13 rfl rfl), (tb_w 1519 rfl rfl), by decide +kernel, by decide +kernel, by decide +kernel⟩, (tb_w 1518 rfl rfl), ⟨by decide +kernel, rfl⟩⟩, fun h => absurd h (by decide), fun h => absurd h (by decide)⟩
set_option maxRecDepth 20000 in
theorem kf_213 : g_Q 213 := fun xs => ⟨fun _ => ⟨⟨(tb_w 13 rfl rfl), (tb_w 1524 rfl rfl), by decide +kernel, by decide +kernel, by decide +kernel⟩, (tb_w 1523 rfl rfl), ⟨by decide +kernel, rfl⟩⟩, fun h => absurd h (by decide), fun h => absurd h (by decide)⟩
set_option maxRecDepth 20000 in
theorem kf_214 : g_Q 214 := fun xs => ⟨fun h => absurd h (by decide), fun _ => ⟨⟨(tb_w 13 rfl rfl), (tb_w 1528 rfl rfl), by decide +kernel, by decide +kernel, by decide +kernel⟩, (tb_w 1526 rfl rfl), (tb_w 1527 rfl rfl), ⟨_, _, rfl⟩, ⟨by decide +kernel, rfl⟩⟩, fun h => absurd h (by decide)⟩
set_option maxRecDepth 20000 in
theorem kf_215 : g_Q 215 := fun xs => ⟨fun h => absurd h (by decide), fun _ => ⟨⟨(tb_w 13 rfl rfl), (tb_w 1532 rfl rfl), by decide +kernel, by decide +kernel, by decide +kernel⟩, (tb_w 1531 rfl rfl), (tb_s 138 rfl rfl), ⟨_, _, rfl⟩, ⟨by decide +kernel, rfl⟩⟩, fun h => absurd h (by decide)⟩
set_option maxRecDepth 20000 in
theorem kf_216 : g_Q 216 := fun xs => ⟨fun h => absurd h (by decide), fun _ => ⟨⟨(tb_w 13 rfl rfl), (tb_w 1536 rfl rfl), by decide +kernel, by decide +kernel, by decide +kernel⟩, (tb_w 1534 rfl rfl), (tb_w 1535 rfl rfl), ⟨_, _, rfl⟩, ⟨by decide +kernel, rfl⟩⟩, fun h => absurd h (by decide)⟩
set_option maxRecDepth 20000 in
theorem kf_217 : g_Q 217 := fun xs => ⟨fun h => absurd h (by decide), fun _ => ⟨⟨(tb_w 13 rfl rfl), (tb_w 1541 rfl rfl), by decide +kernel, by decide +kernel, by decide +kernel⟩, (tb_w 1539 rfl rfl), (tb_w 1540 rfl rfl), ⟨_, _, rfl⟩, ⟨by decide +kernel, rfl⟩⟩, fun h => absurd h (by decide)⟩
set_option maxRecDepth 20000 in
theorem kf_218 : g_Q 218 := fun xs => ⟨fun h => absurd h (by decide), fun _ => ⟨⟨(tb_w 13 rfl rfl), (tb_w 1545 rfl rfl), by decide +kernel, by decide +kernel, by decide +kernel⟩, (tb_w 1544 rfl rfl), (tb_s 139 rfl rfl), ⟨_, _, rfl⟩, ⟨by decide +kernel, rfl⟩⟩, fun h => absurd h (by decide)⟩
set_option maxRecDepth 20000 in
theorem kf_219 : g_Q 219 := fun xs => ⟨fun _ => ⟨⟨(tb_w 13 rfl rfl), (tb_w 1548 rfl rfl), by decide +kernel, by decide +kernel, by decide +kernel⟩, (tb_w 1547 rfl rfl), ⟨by decide +kernel, rfl⟩⟩, fun h => absurd h (by decide), fun h => absurd h (by decide)⟩
set_option maxRecDepth 20000 in
theorem kf_220 : g_Q 220 := fun xs => ⟨fun _ => ⟨⟨(tb_w 13 rfl rfl), (tb_w 1551 rfl rfl), by decide +kernel, by decide +kernel, by decide +kernel⟩, (tb_w 1550 rfl rfl), ⟨by decide +kernel, rfl⟩⟩, fun h => absurd h (by decide), fun h => absurd h (by decide)⟩
set_option maxRecDepth 20000 in
theorem kf_221 : g_Q 221 := fun xs => ⟨fun h => absurd h (by decide), fun _ => ⟨⟨(tb_w 13 rfl rfl), (tb_w 1555 rfl rfl), by decide +kernel, by decide +kernel, by decide +kernel⟩, (tb_w 1553 rfl rfl), (tb_w 1554 rfl rfl), ⟨_, _, rfl⟩, ⟨by decide +kernel, rfl⟩⟩, fun h => absurd h (by decide)⟩
set_option maxRecDepth 20000 in
theorem kf_222 : g_Q 222 := fun xs => ⟨fun h => absurd h (by decide), fun _ => ⟨⟨(tb_w 13 rfl rfl), (tb_w 1560 rfl rfl), by decide +kernel, by decide +kernel, by decide +kernel⟩, (tb_w 1559 rfl rfl), (tb_s 140 rfl rfl), ⟨_, _, rfl⟩, ⟨by decide +kernel, rfl⟩⟩, fun h => absurd h (by decide)⟩
set_option maxRecDepth 20000 in
theorem kf_223 : g_Q 223 := fun xs => ⟨fun h => absurd h (by decide), fun _ => ⟨⟨(tb_w 13 rfl rfl), (tb_w 1564 rfl rfl), by decide +kernel, by decide +kernel, by decide +kernel⟩, (tb_w 1563 rfl rfl), (tb_s 141 rfl rfl), ⟨_, _, rfl⟩, ⟨by decide +kernel, rfl⟩⟩, fun h => absurd h (by decide)⟩
set_option maxRecDepth 20000 in
theorem kf_224 : g_Q 224 := fun xs => ⟨fun h => absurd h (by decide), fun _ => ⟨⟨(tb_w 13 rfl rfl), (tb_w 1568 rfl rfl), by decide +kernel, by decide +kernel, by decide +kernel⟩, (tb_w 1566 rfl rfl), (tb_w 1567 rfl rfl), ⟨_, _, rfl⟩, ⟨by decide +kernel, rfl⟩⟩, fun h => absurd h (by decide)⟩
set_option maxRecDepth 20000 in
theorem kf_225 : g_Q 225 := fun xs => ⟨fun h => absurd h (by decide), fun _ => ⟨⟨(tb_w 13 rfl rfl), (tb_w 1572 rfl rfl), by decide +kernel, by decide +kernel, by decide +kernel⟩, (tb_w 1571 rfl rfl), (tb_s 142 rfl rfl), ⟨_, _, rfl⟩, ⟨by decide +kernel, rfl⟩⟩, fun h => absurd h (by decide)⟩
set_option maxRecDepth 20000 in
theorem kf_226 : g_Q 226 := fun xs => ⟨fun h => absurd h (by decide), fun _ => ⟨⟨(tb_w 13 rfl rfl), (tb_w 1576 rfl rfl), by decide +kernel, by decide +kernel, by decide +kernel⟩, (tb_w 1574 rfl rfl), (tb_w 1575 rfl rfl), ⟨_, _, rfl⟩, ⟨by decide +kernel, rfl⟩⟩, fun h => absurd h (by decide)⟩
set_option maxRecDepth 20000 in
theorem kf_227 : g_Q 227 := fun xs => ⟨fun h => absurd h (by decide), fun _ => ⟨⟨(tb_w 13 rfl rfl), (tb_w 1580 rfl rfl), by decide +kernel, by decide +kernel, by decide +kernel⟩, (tb_w 1578 rfl rfl), (tb_w 1579 rfl rfl), ⟨_, _, rfl⟩, ⟨by decide +kernel, rfl⟩⟩, fun h => absurd h (by decide)⟩
set_option maxRecDepth 20000 in
theorem kf_228 : g_Q 228 := fun xs => ⟨fun h => absurd h (by decide), fun _ => ⟨⟨(tb_w 13 rfl rfl), (tb_w 1584 rfl rfl), by decide +kernel, by decide +kernel, by decide +kernel⟩, (tb_w 1582 rfl rfl), (tb_w 1583 rfl rfl), ⟨_, _, rfl⟩, ⟨by decide +kernel, rfl⟩⟩, fun h => absurd h (by decide)⟩
set_option maxRecDepth 20000 in
theorem kf_229 : g_Q 229 := fun xs => ⟨fun h => absurd h (by decide), fun _ => ⟨⟨(tb_w 13 rfl rfl), (tb_w 1588 rfl rfl), by decide +kernel, by decide +kernel, by decide +kernel⟩, (tb_w 1587 rfl rfl), (tb_s 143 rfl rfl), ⟨_, _, rfl⟩, ⟨by decide +kernel, rfl⟩⟩, fun h => absurd h (by decide)⟩
set_option maxRecDepth 20000 in
theorem kf_230 : g_Q 230 := fun xs => ⟨fun h => absurd h (by decide), fun _ => ⟨⟨(tb_w 13 rfl rfl), (tb_w 1592 rfl rfl), by decide +kernel, by decide +kernel, by decide +kernel⟩, (tb_w 1590 rfl rfl), (tb_w 1591 rfl rfl), ⟨_, _, rfl⟩, ⟨by decide +kernel, rfl⟩⟩, fun h => absurd h (by decide)⟩
set_option maxRecDepth 20000 in
theorem kf_231 : g_Q 231 := fun xs => ⟨fun h => absurd h (by decide), fun _ => ⟨⟨(tb_w 13 rfl rfl), (tb_w 1596 rfl rfl), by decide +kernel, by decide +kernel, by decide +kernel⟩, (tb_w 1594 rfl rfl), (tb_w 1595 rfl rfl), ⟨_, _, rfl⟩, ⟨by decide +kernel, rfl⟩⟩, fun h => absurd h (by decide)⟩
set_option maxRecDepth 20000 in
theorem kf_232 : g_Q 232 := fun xs => ⟨fun h => absurd h (by decide), fun _ => ⟨⟨(tb_w 13 rfl rfl), (tb_w 1600 rfl rfl), by decide +kernel, by decide +kernel, by decide +kernel⟩, (tb_w 1598 rfl rfl), (tb_w 1599 rfl rfl), ⟨_, _, rfl⟩, ⟨by decide +kernel, rfl⟩⟩, fun h => absurd h (by decide)⟩
set_option maxRecDepth 20000 in
theorem kf_233 : g_Q 233 := fun xs => ⟨fun h => absurd h (by decide), fun _ => ⟨⟨(tb_w 13 rfl rfl), (tb_w 1604 rfl rfl), by decide +kernel, by decide +kernel, by decide +kernel⟩, (tb_w 1602 rfl rfl), (tb_w 1603 rfl rfl), ⟨_, _, rfl⟩, ⟨by decide +kernel, rfl⟩⟩, fun h => absurd h (by decide)⟩
set_option maxRecDepth 20000 in
theorem kf_234 : g_Q 234 := fun xs => ⟨fun h => absurd h (by decide), fun _ => ⟨⟨(tb_w 13 rfl rfl), (tb_w 1609 rfl rfl), by decide +kernel, by decide +kernel, by decide +kernel⟩, (tb_w 1608 rfl rfl), (tb_s 144 rfl rfl), ⟨_, _, rfl⟩, ⟨by decide +kernel, rfl⟩⟩, fun h => absurd h (by decide)⟩
set_option maxRecDepth 20000 in
theorem kf_235 : g_Q 235 := fun xs => ⟨fun h => absurd h (by decide), fun _ => ⟨⟨(tb_w 13 rfl rfl), (tb_w 1613 rfl rfl), by decide +kernel, by decide +kernel, by decide +kernel⟩, (tb_w 1612 rfl rfl), (tb_s 145 rfl rfl), ⟨_, _, rfl⟩, ⟨by decide +kernel, rfl⟩⟩, fun h => absurd h (by decide)⟩
set_option maxRecDepth 20000 in
theorem kf_236 : g_Q 236 := fun xs => ⟨fun h => absurd h (by decide), fun _ => ⟨⟨(tb_w 13 rfl rfl), (tb_w 1617 rfl rfl), by decide +kernel, by decide +kernel, by decide +kernel⟩, (tb_w 1616 rfl rfl), (tb_s 146 rfl rfl), ⟨_, _, rfl⟩, ⟨by decide +kernel, rfl⟩⟩, fun h => absurd h (by decide)⟩
set_option maxRecDepth 20000 in
theorem kf_237 : g_Q 237 := fun xs => ⟨fun h => absurd h (by decide), fun _ => ⟨⟨(tb_w 13 rfl rfl), (tb_w 1621 rfl rfl), by decide +kernel, by decide +kernel, by decide +kernel⟩, (tb_w 1620 rfl rfl), (tb_s 147 rfl rfl), ⟨_, _, rfl⟩, ⟨by decide +kernel, rfl⟩⟩, fun h => absurd h (by decide)⟩
set_option maxRecDepth 20000 in
theorem kf_238 : g_Q 238 := fun xs => ⟨fun h => absurd h (by decide), fun _ => ⟨⟨(tb_w 13 rfl rfl), (tb_w 1625 rfl rfl), by decide +kernel, by decide +kernel, by decide +kernel⟩, (tb_w 1624 rfl rfl), (tb_s 148 rfl rfl), ⟨_, _, rfl⟩, ⟨by decide +kernel, rfl⟩⟩, fun h => absurd h (by decide)⟩
set_option maxRecDepth 20000 in
theorem kf_239 : g_Q 239 := fun xs => ⟨fun h => absurd h (by decide), fun _ => ⟨⟨(tb_w 13 rfl rfl), (tb_w 1629 rfl rfl), by decide +kernel, by decide +kernel, by decide +kernel⟩, (tb_w 1628 rfl rfl), (tb_s 149 rfl rfl), ⟨_, _, rfl⟩, ⟨by decide +kernel, rfl⟩⟩, fun h => absurd h (by decide)⟩
set_option maxRecDepth 20000 in
theorem kf_240 : g_Q 240 := fun xs => ⟨fun h => absurd h (by decide), fun _ => ⟨⟨(tb_w 13 rfl rfl), (tb_w 1633 rfl rfl), by decide +kernel, by decide +kernel, by decide +kernel⟩, (tb_w 1632 rfl rfl), (tb_s 150 rfl rfl), ⟨_, _, rfl⟩, ⟨by decide +kernel, rfl⟩⟩, fun h => absurd h (by decide)⟩
set_option maxRecDepth 20000 in
theorem kf_241 : g_Q 241 := fun xs => ⟨fun h => absurd h (by decide), fun _ => ⟨⟨(tb_w 13 rfl rfl), (tb_w 1637 rfl rfl), by decide +kernel, by decide +kernel, by decide +kernel⟩, (tb_w 1636 rfl rfl), (tb_s 151 rfl rfl), ⟨_, _, rfl⟩, ⟨by decide +kernel, rfl⟩⟩, fun h => absurd h (by decide)⟩
set_option maxRecDepth 20000 in
theorem kf_242 : g_Q 242 := fun xs => ⟨fun h => absurd h (by decide), fun _ => ⟨⟨(tb_w 13 rfl rfl), (tb_w 1641 rfl rfl), by decide +kernel, by decide +kernel, by decide +kernel⟩, (tb_w 1640 rfl rfl), (tb_s 152 rfl rfl), ⟨_, _, rfl⟩, ⟨by decide +kernel, rfl⟩⟩, fun h => absurd h (by decide)⟩
set_option maxRecDepth 20000 in
theorem kf_243 : g_Q 243 := fun xs => ⟨fun h => absurd h (by decide), fun _ => ⟨⟨(tb_w 13 rfl rfl), (tb_w 1645 rfl rfl), by decide +kernel, by decide +kernel, by decide +kernel⟩, (tb_w 1644 rfl rfl), (tb_s 153 rfl rfl), ⟨_, _, rfl⟩, ⟨by decide +kernel, rfl⟩⟩, fun h => absurd h (by decide)⟩
set_option maxRecDepth 20000 in
theorem kf_244 : g_Q 244 := fun xs => ⟨fun h => absurd h (by decide), fun _ => ⟨⟨(tb_w 13 rfl rfl), (tb_w 1649 rfl rfl), by decide +kernel, by decide +kernel, by decide +kernel⟩, (tb_w 1648 rfl rfl), (tb_s 154 rfl rfl), ⟨_, _, rfl⟩, ⟨by decide +kernel, rfl⟩⟩, fun h => absurd h (by decide)⟩
set_option maxRecDepth 20000 in
theorem kf_245 : g_Q 245 := fun xs => ⟨fun h => absurd h (by decide), fun _ => ⟨⟨(tb_w 13 rfl rfl), (tb_w 1653 rfl rfl), by decide +kernel, by decide +kernel, by decide +kernel⟩, (tb_w 1652 rfl rfl), (tb_s 155 rfl rfl), ⟨_, _, rfl⟩, ⟨by decide +kernel, rfl⟩⟩, fun h => absurd h (by decide)⟩
set_option maxRecDepth 20000 in
theorem kf_246 : g_Q 246 := fun xs => ⟨fun h => absurd h (by decide), fun _ => ⟨⟨(tb_w 13 rfl rfl), (tb_w 1657 rfl rfl), by decide +kernel, by decide +kernel, by decide +kernel⟩, (tb_w 1656 rfl rfl), (tb_s 156 rfl rfl), ⟨_, _, rfl⟩, ⟨by decide +kernel, rfl⟩⟩, fun h => absurd h (by decide)⟩
set_option maxRecDepth 20000 in
theorem kf_247 : g_Q 247 := fun xs => ⟨fun h => absurd h (by decide), fun _ => ⟨⟨(tb_w 13 rfl rfl), (tb_w 1661 rfl rfl), by decide +kernel, by decide +kernel, by decide +kernel⟩, (tb_w 1660 rfl rfl), (tb_s 157 rfl rfl), ⟨_, _, rfl⟩, ⟨by decide +kernel, rfl⟩⟩, fun h => absurd h (by decide)⟩
set_option maxRecDepth 20000 in
theorem kf_248 : g_Q 248 := fun xs => ⟨fun h => absurd h (by decide), fun _ => ⟨⟨(tb_w 13 rfl rfl), (tb_w 1665 rfl rfl), by decide +kernel, by decide +kernel, by decide +kernel⟩, (tb_w 1664 rfl rfl), (tb_s 158 rfl rfl), ⟨_, _, rfl⟩, ⟨by decide +kernel, rfl⟩⟩, fun h => absurd h (by decide)⟩
set_option maxRecDepth 20000 in
theorem kf_249 : g_Q 249 := fun xs => ⟨fun _ => ⟨⟨(tb_w 13 rfl rfl), (tb_w 1668 rfl rfl), by decide +kernel, by decide +kernel, by decide +kernel⟩, (tb_w 1667 rfl rfl), ⟨by decide +kernel, rfl⟩⟩, fun h => absurd h (by decide), fun h => absurd h (by decide)⟩
set_option maxRecDepth 20000 in
theorem kf_250 : g_Q 250 := fun xs => ⟨fun h => absurd h (by decide), fun _ => ⟨⟨(tb_w 13 rfl rfl), (tb_w 1672 rfl rfl), by decide +kernel, by decide +kernel, by decide +kernel⟩, (tb_w 1671 rfl rfl), (tb_s 159 rfl rfl), ⟨_, _, rfl⟩, ⟨by decide +kernel, rfl⟩⟩, fun h => absurd h (by decide)⟩
set_option maxRecDepth 20000 in
theorem kf_251 : g_Q 251 := fun xs => ⟨fun h => absurd h (by decide), fun _ => ⟨⟨(tb_w 13 rfl rfl), (tb_w 1676 rfl rfl), by decide +kernel, by decide +kernel, by decide +kernel⟩, (tb_w 1674 rfl rfl), (tb_w 1675 rfl rfl), ⟨_, _, rfl⟩, ⟨by decide +kernel, rfl⟩⟩, fun h => absurd h (by decide)⟩
set_option maxRecDepth 20000 in
theorem kf_252 : g_Q 252 := fun xs => ⟨fun h => absurd h (by decide), fun _ => ⟨⟨(tb_w 13 rfl rfl), (tb_w 1680 rfl rfl), by decide +kernel, by decide +kernel, by decide +kernel⟩, (tb_w 1679 rfl rfl), (tb_s 160 rfl rfl), ⟨_, _, rfl⟩, ⟨by decide +kernel, rfl⟩⟩, fun h => absurd h (by decide)⟩
set_option maxRecDepth 20000 in
theorem kf_253 : g_Q 253 := fun xs => ⟨fun h => absurd h (by decide), fun _ => ⟨⟨(tb_w 13 rfl rfl), (tb_w 1684 rfl rfl), by decide +kernel, by decide +kernel, by decide +kernel⟩, (tb_w 1683 rfl rfl), (tb_s 161 rfl rfl), ⟨_, _, rfl⟩, ⟨by decide +kernel, rfl⟩⟩, fun h => absurd h (by decide)⟩
set_option maxRecDepth 20000 in
theorem kf_254 : g_Q 254 := fun xs => ⟨fun h => absurd h (by decide), fun _ => ⟨⟨(tb_w 13 rfl rfl), (tb_w 1688 rfl rfl), by decide +kernel, by decide +kernel, by decide +kernel⟩, (tb_w 1687 rfl rfl), (tb_s 162 rfl rfl), ⟨_, _, rfl⟩, ⟨by decide +kernel, rfl⟩⟩, fun h => absurd h (by decide)⟩
set_option maxRecDepth 20000 in
theorem kf_255 : g_Q 255 := fun xs => ⟨fun h => absurd h (by decide), fun _ => ⟨⟨(tb_w 13 rfl rfl), (tb_w 1692 rfl rfl), by decide +kernel, by decide +kernel, by decide +kernel⟩, (tb_w 1691 rfl rfl), (tb_s 163 rfl rfl), ⟨_, _, rfl⟩, ⟨by decide +kernel, rfl⟩⟩, fun h => absurd h (by decide)⟩
set_option maxRecDepth 20000 in
theorem kf_256 : g_Q 256 := fun xs => ⟨fun h => absurd h (by decide), fun _ => ⟨⟨(tb_w 13 rfl rfl), (tb_w 1696 rfl rfl), by decide +kernel, by decide +kernel, by decide +kernel⟩, (tb_w 1695 rfl rfl), (tb_s 164 rfl rfl), ⟨_, _, rfl⟩, ⟨by decide +kernel, rfl⟩⟩, fun h => absurd h (by decide)⟩
set_option maxRecDepth 20000 in
theorem kf_257 : g_Q 257 := fun xs => ⟨fun h => absurd h (by decide), fun _ => ⟨⟨(tb_w 13 rfl rfl), (tb_w 1700 rfl rfl), by decide +kernel, by decide +kernel, by decide +kernel⟩, (tb_w 1698 rfl rfl), (tb_w 1699 rfl rfl), ⟨_, _, rfl⟩, ⟨by decide +kernel, rfl⟩⟩, fun h => absurd h (by decide)⟩
set_option maxRecDepth 20000 in
theorem kf_258 : g_Q 258 := fun xs => ⟨fun h => absurd h (by decide), fun _ => ⟨⟨(tb_w 13 rfl rfl), (tb_w 1704 rfl rfl), by decide +kernel, by decide +kernel, by decide +kernel⟩, (tb_w 1703 rfl rfl), (tb_s 165 rfl rfl), ⟨_, _, rfl⟩, ⟨by decide +kernel, rfl⟩⟩, fun h => absurd h (by decide)⟩
set_option maxRecDepth 20000 in
theorem kf_259 : g_Q 259 := fun xs => ⟨fun h => absurd h (by decide), fun _ => ⟨⟨(tb_w 13 rfl rfl), (tb_w 1708 rfl rfl), by decide +kernel, by decide +kernel, by decide +kernel⟩, (tb_w 1706 rfl rfl), (tb_w 1707 rfl rfl), ⟨_, _, rfl⟩, ⟨by decide +kernel, rfl⟩⟩, fun h => absurd h (by decide)⟩
set_option maxRecDepth 20000 in
theorem kf_260 : g_Q 260 := fun xs => ⟨fun h => absurd h (by decide), fun _ => ⟨⟨(tb_w 13 rfl rfl), (tb_w 1712 rfl rfl), by decide +kernel, by decide +kernel, by decide +kernel⟩, (tb_w 1711 rfl rfl), (tb_s 166 rfl rfl), ⟨_, _, rfl⟩, ⟨by decide +kernel, rfl⟩⟩, fun h => absurd h (by decide)⟩
set_option maxRecDepth 20000 in
theorem kf_261 : g_Q 261 := fun xs => ⟨fun h => absurd h (by decide), fun _ => ⟨⟨(tb_w 13 rfl rfl), (tb_w 1716 rfl rfl), by decide +kernel, by decide +kernel, by decide +kernel⟩, (tb_w 1715 rfl rfl), (tb_s 167 rfl rfl), ⟨_, _, rfl⟩, ⟨by decide +kernel, rfl⟩⟩, fun h => absurd h (by decide)⟩
set_option maxRecDepth 20000 in
theorem kf_262 : g_Q 262 := fun xs => ⟨fun h => absurd h (by decide), fun _ => ⟨⟨(tb_w 13 rfl rfl), (tb_w 1720 rfl rfl), by decide +kernel, by decide +kernel, by decide +kernel⟩, (tb_w 1718 rfl rfl), (tb_w 1719 rfl rfl), ⟨_, _, rfl⟩, ⟨by decide +kernel, rfl⟩⟩, fun h => absurd h (by decide)⟩
set_option maxRecDepth 20000 in
theorem kf_263 : g_Q 263 := fun xs => ⟨fun h => absurd h (by decide), fun _ => ⟨⟨(tb_w 13 rfl rfl), (tb_w 1724 rfl rfl), by decide +kernel, by decide +kernel, by decide +kernel⟩, (tb_w 1723 rfl rfl), (tb_s 168 rfl rfl), ⟨_, _, rfl⟩, ⟨by decide +kernel, rfl⟩⟩, fun h => absurd h (by decide)⟩
set_option maxRecDepth 20000 in
theorem kf_264 : g_Q 264 := fun xs => ⟨fun h => absurd h (by decide), fun _ => ⟨⟨(tb_w 13 rfl rfl), (tb_w 1728 rfl rfl), by decide +kernel, by decide +kernel, by decide +kernel⟩, (tb_w 1726 rfl rfl), (tb_w 1727 rfl rfl), ⟨_, _, rfl⟩, ⟨by decide +kernel, rfl⟩⟩, fun h => absurd h (by decide)⟩
set_option maxRecDepth 20000 in
theorem kf_265 : g_Q 265 := fun xs => ⟨fun h => absurd h (by decide), fun _ => ⟨⟨(tb_w 13 rfl rfl), (tb_w 1732 rfl rfl), by decide +kernel, by decide +kernel, by decide +kernel⟩, (tb_w 1730 rfl rfl), (tb_w 1731 rfl rfl), ⟨_, _, rfl⟩, ⟨by decide +kernel, rfl⟩⟩, fun h => absurd h (by decide)⟩
set_option maxRecDepth 20000 in
theorem kf_266 : g_Q 266 := fun xs => ⟨fun h => absurd h (by decide), fun _ => ⟨⟨(tb_w 13 rfl rfl), (tb_w 1737 rfl rfl), by decide +kernel, by decide +kernel, by decide +kernel⟩, (tb_w 1735 rfl rfl), (tb_w 1736 rfl rfl), ⟨_, _, rfl⟩, ⟨by decide +kernel, rfl⟩⟩, fun h => absurd h (by decide)⟩
set_option maxRecDepth 20000 in
theorem kf_267 : g_Q 267 := fun xs => ⟨fun h => absurd h (by decide), fun _ => ⟨⟨(tb_w 13 rfl rfl), (tb_w 1741 rfl rfl), by decide +kernel, by decide +kernel, by decide +kernel⟩, (tb_w 1739 rfl rfl), (tb_w 1740 rfl rfl), ⟨_, _, rfl⟩, ⟨by decide +kernel, rfl⟩⟩, fun h => absurd h (by decide)⟩
set_option maxRecDepth 20000 in
theorem kf_268 : g_Q 268 := fun xs => ⟨fun h => absurd h (by decide), fun _ => ⟨⟨(tb_w 13 rfl rfl), (tb_w 1745 rfl rfl), by decide +kernel, by decide +kernel, by decide +kernel⟩, (tb_w 1743 rfl rfl), (tb_w 1744 rfl rfl), ⟨_, _, rfl⟩, ⟨by decide +kernel, rfl⟩⟩, fun h => absurd h (by decide)⟩
set_option maxRecDepth 20000 in
theorem kf_269 : g_Q 269 := fun xs => ⟨fun h => absurd h (by decide), fun _ => ⟨⟨(tb_w 13 rfl rfl), (tb_w 1749 rfl rfl), by decide +kernel, by decide +kernel, by decide +kernel⟩, (tb_w 1748 rfl rfl), (tb_s 169 rfl rfl), ⟨_, _, rfl⟩, ⟨by decide +kernel, rfl⟩⟩, fun h => absurd h (by decide)⟩
set_option maxRecDepth 20000 in
theorem kf_270 : g_Q 270 := fun xs => ⟨fun h => absurd h (by decide), fun _ => ⟨⟨(tb_w 13 rfl rfl), (tb_w 1754 rfl rfl), by decide +kernel, by decide +kernel, by decide +kernel⟩, (tb_w 1753 rfl rfl), (tb_s 170 rfl rfl), ⟨_, _, rfl⟩, ⟨by decide +kernel, rfl⟩⟩, fun h => absurd h (by decide)⟩
set_option maxRecDepth 20000 in
theorem kf_271 : g_Q 271 := fun xs => ⟨fun h => absurd h (by decide), fun _ => ⟨⟨(tb_w 13 rfl rfl), (tb_w 1758 rfl rfl), by decide +kernel, by decide +kernel, by decide +kernel⟩, (tb_w 1756 rfl rfl), (tb_w 1757 rfl rfl), ⟨_, _, rfl⟩, ⟨by decide +kernel, rfl⟩⟩, fun h => absurd h (by decide)⟩
set_option maxRecDepth 20000 in
theorem kf_272 : g_Q 272 := fun xs => ⟨fun h => absurd h (by decide), fun _ => ⟨⟨(tb_w 13 rfl rfl), (tb_w 1762 rfl rfl), by decide +kernel, by decide +kernel, by decide +kernel⟩, (tb_w 1760 rfl rfl), (tb_w 1761 rfl rfl), ⟨_, _, rfl⟩, ⟨by decide +kernel, rfl⟩⟩, fun h => absurd h (by decide)⟩
set_option maxRecDepth 20000 in
theorem kf_273 : g_Q 273 := fun xs => ⟨fun h => absurd h (by decide), fun _ => ⟨⟨(tb_w 13 rfl rfl), (tb_w 1770 rfl rfl), by decide +kernel, by decide +kernel, by decide +kernel⟩, (tb_w 1769 rfl rfl), (tb_s 171 rfl rfl), ⟨_, _, rfl⟩, ⟨by decide +kernel, rfl⟩⟩, fun h => absurd h (by decide)⟩
set_option maxRecDepth 20000 in
theorem kf_274 : g_Q 274 := fun xs => ⟨fun h => absurd h (by decide), fun _ => ⟨⟨(tb_w 13 rfl rfl), (tb_w 1774 rfl rfl), by decide +kernel, by decide +kernel, by decide +kernel⟩, (tb_w 1772 rfl rfl), (tb_w 1773 rfl rfl), ⟨_, _, rfl⟩, ⟨by decide +kernel, rfl⟩⟩, fun h => absurd h (by decide)⟩
set_option maxRecDepth 20000 in
theorem kf_275 : g_Q 275 := fun xs => ⟨fun h => absurd h (by decide), fun _ => ⟨⟨(tb_w 13 rfl rfl), (tb_w 1778 rfl rfl), by decide +kernel, by decide +kernel, by decide +kernel⟩, (tb_w 1776 rfl rfl), (tb_w 1777 rfl rfl), ⟨_, _, rfl⟩, ⟨by decide +kernel, rfl⟩⟩, fun h => absurd h (by decide)⟩
set_option maxRecDepth 20000 in
theorem kf_276 : g_Q 276 := fun xs => ⟨fun h => absurd h (by decide), fun _ => ⟨⟨(tb_w 13 rfl rfl), (tb_w 1782 rfl rfl), by decide +kernel, by decide +kernel, by decide +kernel⟩, (tb_w 1780 rfl rfl), (tb_w 1781 rfl rfl), ⟨_, _, rfl⟩, ⟨by decide +kernel, rfl⟩⟩, fun h => absurd h (by decide)⟩
set_option maxRecDepth 20000 in
theorem kf_277 : g_Q 277 := fun xs => ⟨fun h => absurd h (by decide), fun _ => ⟨⟨(tb_w 13 rfl rfl), (tb_w 1786 rfl rfl), by decide +kernel, by decide +kernel, by decide +kernel⟩, (tb_w 1785 rfl rfl), (tb_s 172 rfl rfl), ⟨_, _, rfl⟩, ⟨by decide +kernel, rfl⟩⟩, fun h => absurd h (by decide)⟩
set_option maxRecDepth 20000 in
theorem kf_278 : g_Q 278 := fun xs => ⟨fun h => absurd h (by decide), fun _ => ⟨⟨(tb_w 13 rfl rfl), (tb_w 1790 rfl rfl), by decide +kernel, by decide +kernel, by decide +kernel⟩, (tb_w 1788 rfl rfl), (tb_w 1789 rfl rfl), ⟨_, _, rfl⟩, ⟨by decide +kernel, rfl⟩⟩, fun h => absurd h (by decide)⟩
set_option maxRecDepth 20000 in
theorem kf_279 : g_Q 279 := fun xs => ⟨fun h => absurd h (by decide), fun _ => ⟨⟨(tb_w 13 rfl rfl), (tb_w 1794 rfl rfl), by decide +kernel, by decide +kernel, by decide +kernel⟩, (tb_w 1793 rfl rfl), (tb_s 173 rfl rfl), ⟨_, _, rfl⟩, ⟨by decide +kernel, rfl⟩⟩, fun h => absurd h (by decide)⟩
set_option maxRecDepth 20000 in
theorem kf_280 : g_Q 280 := fun xs => ⟨fun h => absurd h (by decide), fun _ => ⟨⟨(tb_w 13 rfl rfl), (tb_w 1798 rfl rfl), by decide +kernel, by decide +kernel, by decide +kernel⟩, (tb_w 1797 rfl rfl), (tb_s 174 rfl rfl), ⟨_, _, rfl⟩, ⟨by decide +kernel, rfl⟩⟩, fun h => absurd h (by decide)⟩
set_option maxRecDepth 20000 in
theorem kf_281 : g_Q 281 := fun xs => ⟨fun h => absurd h (by decide), fun _ => ⟨⟨(tb_w 13 rfl rfl), (tb_w 1806 rfl rfl), by decide +kernel, by decide +kernel, by decide +kernel⟩, (tb_w 1805 rfl rfl), (tb_s 175 rfl rfl), ⟨_, _, rfl⟩, ⟨by decide +kernel, rfl⟩⟩, fun h => absurd h (by decide)⟩
set_option maxRecDepth 20000 in
theorem kf_282 : g_Q 282 := fun xs => ⟨fun h => absurd h (by decide), fun _ => ⟨⟨(tb_w 13 rfl rfl), (tb_w 1810 rfl rfl), by decide +kernel, by decide +kernel, by decide +kernel⟩, (tb_w 1809 rfl rfl), (tb_s 176 rfl rfl), ⟨_, _, rfl⟩, ⟨by decide +kernel, rfl⟩⟩, fun h => absurd h (by decide)⟩
set_option maxRecDepth 20000 in
theorem kf_283 : g_Q 283 := fun xs => ⟨fun h => absurd h (by decide), fun _ => ⟨⟨(tb_w 13 rfl rfl), (tb_w 1814 rfl rfl), by decide +kernel, by decide +kernel, by decide +kernel⟩, (tb_w 1813 rfl rfl), (tb_s 177 rfl rfl), ⟨_, _, rfl⟩, ⟨by decide +kernel, rfl⟩⟩, fun h => absurd h (by decide)⟩
set_option maxRecDepth 20000 in
theorem kf_284 : g_Q 284 := fun xs => ⟨fun h => absurd h (by decide), fun _ => ⟨⟨(tb_w 13 rfl rfl), (tb_w 1818 rfl rfl), by decide +kernel, by decide +kernel, by decide +kernel⟩, (tb_w 1817 rfl rfl), (tb_s 178 rfl rfl), ⟨_, _, rfl⟩, ⟨by decide +kernel, rfl⟩⟩, fun h => absurd h (by decide)⟩
set_option maxRecDepth 20000 in
theorem kf_285 : g_Q 285 := fun xs => ⟨fun h => absurd h (by decide), fun _ => ⟨⟨(tb_w 13 rfl rfl), (tb_w 1822 rfl rfl), by decide +kernel, by decide +kernel, by decide +kernel⟩, (tb_w 1821 rfl rfl), (tb_s 179 rfl rfl), ⟨_, _, rfl⟩, ⟨by decide +kernel, rfl⟩⟩, fun h => absurd h (by decide)⟩
set_option maxRecDepth 20000 in
theorem kf_286 : g_Q 286 := fun xs => ⟨fun h => absurd h (by decide), fun _ => ⟨⟨(tb_w 13 rfl rfl), (tb_w 1826 rfl rfl), by decide +kernel, by decide +kernel, by decide +kernel⟩, (tb_w 1825 rfl rfl), (tb_s 180 rfl rfl), ⟨_, _, rfl⟩, ⟨by decide +kernel, rfl⟩⟩, fun h => absurd h (by decide)⟩
set_option maxRecDepth 20000 in
theorem kf_287 : g_Q 287 := fun xs => ⟨fun h => absurd h (by decide), fun _ => ⟨⟨(tb_w 13 rfl rfl), (tb_w 1830 rfl rfl), by decide +kernel, by decide +kernel, by decide +kernel⟩, (tb_w 1829 rfl rfl), (tb_s 181 rfl rfl), ⟨_, _, rfl⟩, ⟨by decide +kernel, rfl⟩⟩, fun h => absurd h (by decide)⟩
set_option maxRecDepth 20000 in
theorem kf_288 : g_Q 288 := fun xs => ⟨fun h => absurd h (by decide), fun _ => ⟨⟨(tb_w 13 rfl rfl), (tb_w 1834 rfl rfl), by decide +kernel, by decide +kernel, by decide +kernel⟩, (tb_w 1833 rfl rfl), (tb_s 182 rfl rfl), ⟨_, _, rfl⟩, ⟨by decide +kernel, rfl⟩⟩, fun h => absurd h (by decide)⟩
set_option maxRecDepth 20000 in
theorem kf_289 : g_Q 289 := fun xs => ⟨fun h => absurd h (by decide), fun _ => ⟨⟨(tb_w 13 rfl rfl), (tb_w 1838 rfl rfl), by decide +kernel, by decide +kernel, by decide +kernel⟩, (tb_w 1837 rfl rfl), (tb_s 183 rfl rfl), ⟨_, _, rfl⟩, ⟨by decide +kernel, rfl⟩⟩, fun h => absurd h (by decide)⟩
set_option maxRecDepth 20000 in
theorem kf_290 : g_Q 290 := fun xs => ⟨fun h => absurd h (by decide), fun _ => ⟨⟨(tb_w 13 rfl rfl), (tb_w 1842 rfl rfl), by decide +kernel, by decide +kernel, by decide +kernel⟩, (tb_w 1841 rfl rfl), (tb_s 184 rfl rfl), ⟨_, _, rfl⟩, ⟨by decide +kernel, rfl⟩⟩, fun h => absurd h (by decide)⟩
set_option maxRecDepth 20000 in
theorem kf_291 : g_Q 291 := fun xs => ⟨fun h => absurd h (by decide), fun _ => ⟨⟨(tb_w 13 rfl rfl), (tb_w 1846 rfl rfl), by decide +kernel, by decide +kernel, by decide +kernel⟩, (tb_w 1845 rfl rfl), (tb_s 185 rfl rfl), ⟨_, _, rfl⟩, ⟨by decide +kernel, rfl⟩⟩, fun h => absurd h (by decide)⟩
set_option maxRecDepth 20000 in
theorem kf_292 : g_Q 292 := fun xs => ⟨fun h => absurd h (by decide), fun _ => ⟨⟨(tb_w 13 rfl rfl), (tb_w 1850 rfl rfl), by decide +kernel, by decide +kernel, by decide +kernel⟩, (tb_w 1849 rfl rfl), (tb_s 186 rfl rfl), ⟨_, _, rfl⟩, ⟨by decide +kernel, rfl⟩⟩, fun h => absurd h (by decide)⟩
set_option maxRecDepth 20000 in
theorem kf_293 : g_Q 293 := fun xs => ⟨fun h => absurd h (by decide), fun _ => ⟨⟨(tb_w 13 rfl rfl), (tb_w 1854 rfl rfl), by decide +kernel, by decide +kernel, by decide +kernel⟩, (tb_w 1853 rfl rfl), (tb_s 187 rfl rfl), ⟨_, _, rfl⟩, ⟨by decide +kernel, rfl⟩⟩, fun h => absurd h (by decide)⟩
set_option maxRecDepth 20000 in
theorem kf_294 : g_Q 294 := fun xs => ⟨fun h => absurd h (by decide), fun _ => ⟨⟨(tb_w 13 rfl rfl), (tb_w 1858 rfl rfl), by decide +kernel, by decide +kernel, by decide +kernel⟩, (tb_w 1857 rfl rfl), (tb_s 188 rfl rfl), ⟨_, _, rfl⟩, ⟨by decide +kernel, rfl⟩⟩, fun h => absurd h (by decide)⟩
set_option maxRecDepth 20000 in
theorem kf_295 : g_Q 295 := fun xs => ⟨fun _ => ⟨⟨(tb_w 13 rfl rfl), (tb_w 1861 rfl rfl), by decide +kernel, by decide +kernel, by decide +kernel⟩, (tb_w 1860 rfl rfl), ⟨by decide +kernel, rfl⟩⟩, fun h => absurd h (by decide), fun h => absurd h (by decide)⟩
set_option maxRecDepth 20000 in
theorem kf_296 : g_Q 296 := fun xs => ⟨fun h => absurd h (by decide), fun _ => ⟨⟨(tb_w 13 rfl rfl), (tb_w 1865 rfl rfl), by decide +kernel, by decide +kernel, by decide +kernel⟩, (tb_w 1864 rfl rfl), (tb_s 189 rfl rfl), ⟨_, _, rfl⟩, ⟨by decide +kernel, rfl⟩⟩, fun h => absurd h (by decide)⟩
set_option maxRecDepth 20000 in
theorem kf_297 : g_Q 297 := fun xs => ⟨fun h => absurd h (by decide), fun _ => ⟨⟨(tb_w 13 rfl rfl), (tb_w 1869 rfl rfl), by decide +kernel, by decide +kernel, by decide +kernel⟩, (tb_w 1868 rfl rfl), (tb_s 190 rfl rfl), ⟨_, _, rfl⟩, ⟨by decide +kernel, rfl⟩⟩, fun h => absurd h (by decide)⟩
set_option maxRecDepth 20000 in
theorem kf_298 : g_Q 298 := fun xs => ⟨fun h => absurd h (by decide), fun _ => ⟨⟨(tb_w 13 rfl rfl), (tb_w 1873 rfl rfl), by decide +kernel, by decide +kernel, by decide +kernel⟩, (tb_w 1872 rfl rfl), (tb_s 191 rfl rfl), ⟨_, _, rfl⟩, ⟨by decide +kernel, rfl⟩⟩, fun h => absurd h (by decide)⟩
set_option maxRecDepth 20000 in
theorem kf_299 : g_Q 299 := fun xs => ⟨fun h => absurd h (by decide), fun _ => ⟨⟨(tb_w 13 rfl rfl), (tb_w 1877 rfl rfl), by decide +kernel, by decide +kernel, by decide +kernel⟩, (tb_w 1876 rfl rfl), (tb_s 192 rfl rfl), ⟨_, _, rfl⟩, ⟨by decide +kernel, rfl⟩⟩, fun h => absurd h (by decide)⟩
set_option maxRecDepth 20000 in
theorem kf_300 : g_Q 300 := fun xs => ⟨fun h => absurd h (by decide), fun _ => ⟨⟨(tb_w 13 rfl rfl), (tb_w 1881 rfl rfl), by decide +kernel, by decide +kernel, by decide +kernel⟩, (tb_w 1880 rfl rfl), (tb_s 193 rfl rfl), ⟨_, _, rfl⟩, ⟨by decide +kernel, rfl⟩⟩, fun h => absurd h (by decide)⟩
set_option maxRecDepth 20000 in
theorem kf_301 : g_Q 301 := fun xs => ⟨fun h => absurd h (by decide), fun _ => ⟨⟨(tb_w 13 rfl rfl), (tb_w 1885 rfl rfl), by decide +kernel, by decide +kernel, by decide +kernel⟩, (tb_w 1884 rfl rfl), (tb_s 194 rfl rfl), ⟨_, _, rfl⟩, ⟨by decide +kernel, rfl⟩⟩, fun h => absurd h (by decide)⟩
set_option maxRecDepth 20000 in
theorem kf_302 : g_Q 302 := fun xs => ⟨fun h => absurd h (by decide), fun _ => ⟨⟨(tb_w 13 rfl rfl), (tb_w 1889 rfl rfl), by decide +kernel, by decide +kernel, by decide +kernel⟩, (tb_w 1888 rfl rfl), (tb_s 195 rfl rfl), ⟨_, _, rfl⟩, ⟨by decide +kernel, rfl⟩⟩, fun h => absurd h (by decide)⟩
set_option maxRecDepth 20000 in
theorem kf_303 : g_Q 303 := fun xs => ⟨fun h => absurd h (by decide), fun _ => ⟨⟨(tb_w 13 rfl rfl), (tb_w 1893 rfl rfl), by decide +kernel, by decide +kernel, by decide +kernel⟩, (tb_w 1892 rfl rfl), (tb_s 196 rfl rfl), ⟨_, _, rfl⟩, ⟨by decide +kernel, rfl⟩⟩, fun h => absurd h (by decide)⟩
set_option maxRecDepth 20000 in
theorem kf_304 : g_Q 304 := fun xs => ⟨fun h => absurd h (by decide), fun _ => ⟨⟨(tb_w 13 rfl rfl), (tb_w 1897 rfl rfl), by decide +kernel, by decide +kernel, by decide +kernel⟩, (tb_w 1896 rfl rfl), (tb_s 197 rfl rfl), ⟨_, _, rfl⟩, ⟨by decide +kernel, rfl⟩⟩, fun h => absurd h (by decide)⟩
set_option maxRecDepth 20000 in
theorem kf_305 : g_Q 305 := fun xs => ⟨fun h => absurd h (by decide), fun _ => ⟨⟨(tb_w 13 rfl rfl), (tb_w 1901 rfl rfl), by decide +kernel, by decide +kernel, by decide +kernel⟩, (tb_w 1900 rfl rfl), (tb_s 198 rfl rfl), ⟨_, _, rfl⟩, ⟨by decide +kernel, rfl⟩⟩, fun h => absurd h (by decide)⟩
set_option maxRecDepth 20000 in
theorem kf_306 : g_Q 306 := fun xs => ⟨fun h => absurd h (by decide), fun _ => ⟨⟨(tb_w 13 rfl rfl), (tb_w 1905 rfl rfl), by decide +kernel, by decide +kernel, by decide +kernel⟩, (tb_w 1903 rfl rfl), (tb_w 1904 rfl rfl), ⟨_, _, rfl⟩, ⟨by decide +kernel, rfl⟩⟩, fun h => absurd h (by decide)⟩
set_option maxRecDepth 20000 in
theorem kf_307 : g_Q 307 := fun xs => ⟨fun h => absurd h (by decide), fun _ => ⟨⟨(tb_w 13 rfl rfl), (tb_w 1909 rfl rfl), by decide +kernel, by decide +kernel, by decide +kernel⟩, (tb_w 1907 rfl rfl), (tb_w 1908 rfl rfl), ⟨_, _, rfl⟩, ⟨by decide +kernel, rfl⟩⟩, fun h => absurd h (by decide)⟩
set_option maxRecDepth 20000 in
theorem kf_308 : g_Q 308 := fun xs => ⟨fun h => absurd h (by decide), fun _ => ⟨⟨(tb_w 13 rfl rfl), (tb_w 1913 rfl rfl), by decide +kernel, by decide +kernel, by decide +kernel⟩, (tb_w 1912 rfl rfl), (tb_s 199 rfl rfl), ⟨_, _, rfl⟩, ⟨by decide +kernel, rfl⟩⟩, fun h => absurd h (by decide)⟩
set_option maxRecDepth 20000 in
theorem kf_309 : g_Q 309 := fun xs => ⟨fun h => absurd h (by decide), fun _ => ⟨⟨(tb_w 13 rfl rfl), (tb_w 1917 rfl rfl), by decide +kernel, by decide +kernel, by decide +kernel⟩, (tb_w 1916 rfl rfl), (tb_s 200 rfl rfl), ⟨_, _, rfl⟩, ⟨by decide +kernel, rfl⟩⟩, fun h => absurd h (by decide)⟩
set_option maxRecDepth 20000 in
theorem kf_310 : g_Q 310 := fun xs => ⟨fun h => absurd h (by decide), fun _ => ⟨⟨(tb_w 13 rfl rfl), (tb_w 1921 rfl rfl), by decide +kernel, by decide +kernel, by decide +kernel⟩, (tb_w 1920 rfl rfl), (tb_s 201 rfl rfl), ⟨_, _, rfl⟩, ⟨by decide +kernel, rfl⟩⟩, fun h => absurd h (by decide)⟩
set_option maxRecDepth 20000 in
theorem kf_311 : g_Q 311 := fun xs => ⟨fun h => absurd h (by decide), fun _ => ⟨⟨(tb_w 13 rfl rfl), (tb_w 1925 rfl rfl), by decide +kernel, by decide +kernel, by decide +kernel⟩, (tb_w 1924 rfl rfl), (tb_s 202 rfl rfl), ⟨_, _, rfl⟩, ⟨by decide +kernel, rfl⟩⟩, fun h => absurd h (by decide)⟩
set_option maxRecDepth 20000 in
theorem kf_312 : g_Q 312 := fun xs => ⟨fun h => absurd h (by decide), fun _ => ⟨⟨(tb_w 13 rfl rfl), (tb_w 1929 rfl rfl), by decide +kernel, by decide +kernel, by decide +kernel⟩, (tb_w 1928 rfl rfl), (tb_s 203 rfl rfl), ⟨_, _, rfl⟩, ⟨by decide +kernel, rfl⟩⟩, fun h => absurd h (by decide)⟩
set_option maxRecDepth 20000 in
theorem kf_313 : g_Q 313 := fun xs => ⟨fun h => absurd h (by decide), fun _ => ⟨⟨(tb_w 13 rfl rfl), (tb_w 1933 rfl rfl), by decide +kernel, by decide +kernel, by decide +kernel⟩, (tb_w 1932 rfl rfl), (tb_s 204 rfl rfl), ⟨_, _, rfl⟩, ⟨by decide +kernel, rfl⟩⟩, fun h => absurd h (by decide)⟩
set_option maxRecDepth 20000 in
theorem kf_314 : g_Q 314 := fun xs => ⟨fun h => absurd h (by decide), fun _ => ⟨⟨(tb_w 13 rfl rfl), (tb_w 1937 rfl rfl), by decide +kernel, by decide +kernel, by decide +kernel⟩, (tb_w 1935 rfl rfl), (tb_w 1936 rfl rfl), ⟨_, _, rfl⟩, ⟨by decide +kernel, rfl⟩⟩, fun h => absurd h (by decide)⟩
theorem kfA_64 : ∀ a, a < 64 → g_Q a := (lt_s (lt_s (lt_s (lt_s (lt_s (lt_s (lt_s (lt_s (lt_s (lt_s (lt_s (lt_s (lt_s (lt_s (lt_s (lt_s (lt_s (lt_s (lt_s (lt_s (lt_s (lt_s (lt_s (lt_s (lt_s (lt_s (lt_s (lt_s (lt_s (lt_s (lt_s (lt_s (lt_s (lt_s (lt_s (lt_s (lt_s (lt_s (lt_s (lt_s (lt_s (lt_s (lt_s (lt_s (lt_s (lt_s (lt_s (lt_s (lt_s (lt_s (lt_s (lt_s (lt_s (lt_s (lt_s (lt_s (lt_s (lt_s (lt_s (lt_s (lt_s (lt_s (lt_s (lt_s lt_0 kf_0) kf_1) kf_2) kf_3) kf_4) kf_5) kf_6) kf_7) kf_8) kf_9) kf_10) kf_11) kf_12) kf_13) kf_14) kf_15) kf_16) kf_17) kf_18) kf_19) kf_20) kf_21) kf_22) kf_23) kf_24) kf_25) kf_26) kf_27) kf_28) kf_29) kf_30) kf_31) kf_32) kf_33) kf_34) kf_35) kf_36) kf_37) kf_38) kf_39) kf_40) kf_41) kf_42) kf_43) kf_44) kf_45) kf_46) kf_47) kf_48) kf_49) kf_50) kf_51) kf_52) kf_53) kf_54) kf_55) kf_56) kf_57) kf_58) kf_59) kf_60) kf_61) kf_62) kf_63)
theorem kfA_128 : ∀ a, a < 128 → g_Q a := (lt_s (lt_s (lt_s (lt_s (lt_s (lt_s (lt_s (lt_s (lt_s (lt_s (lt_s (lt_s (lt_s (lt_s (lt_s (lt_s (lt_s (lt_s (lt_s (lt_s (lt_s (lt_s (lt_s (lt_s (lt_s (lt_s (lt_s (lt_s (lt_s (lt_s (lt_s (lt_s (lt_s (lt_s (lt_s (lt_s (lt_s (lt_s (lt_s (lt_s (lt_s (lt_s (lt_s (lt_s (lt_s (lt_s (lt_s (lt_s (lt_s (lt_s (lt_s (lt_s (lt_s (lt_s (lt_s (lt_s (lt_s (lt_s (lt_s (lt_s (lt_s (lt_s (lt_s (lt_s kfA_64 kf_64) kf_65) kf_66) kf_67) kf_68) kf_69) kf_70) kf_71) kf_72) kf_73) kf_74) kf_75) kf_76) kf_77) kf_78) kf_79) kf_80) kf_81) kf_82) kf_83) kf_84) kf_85) kf_86) kf_87) kf_88) kf_89) kf_90) kf_91) kf_92) kf_93) kf_94) kf_95) kf_96) kf_97) kf_98) kf_99) kf_100) kf_101) kf_102) kf_103) kf_104) kf_105) kf_106) kf_107) kf_108) kf_109) kf_110) kf_111) kf_112) kf_113) kf_114) kf_115) kf_116) kf_117) kf_118) kf_119) kf_120) kf_121) kf_122) kf_123) kf_124) kf_125) kf_126) kf_127)
theorem kfA_192 : ∀ a, a < 192 → g_Q a := (lt_s (lt_s (lt_s (lt_s (lt_s (lt_s (lt_s (lt_s (lt_s (lt_s (lt_s (lt_s (lt_s (lt_s (lt_s (lt_s (lt_s (lt_s (lt_s (lt_s (lt_s (lt_s (lt_s (lt_s (lt_s (lt_s (lt_s (lt_s (lt_s (lt_s (lt_s (lt_s (lt_s (lt_s (lt_s (lt_s (lt_s (lt_s (lt_s (lt_s (lt_s (lt_s (lt_s (lt_s (lt_s (lt_s (lt_s (lt_s (lt_s (lt_s (lt_s (lt_s (lt_s (lt_s (lt_s (lt_s (lt_s (lt_s (lt_s (lt_s (lt_s (lt_s (lt_s (lt_s kfA_128 kf_128) kf_129) kf_130) kf_131) kf_132) kf_133) kf_134) kf_135) kf_136) kf_137) kf_138) kf_139) kf_140) kf_141) kf_142) kf_143) kf_144) kf_145) kf_146) kf_147) kf_148) kf_149) kf_150) kf_151) kf_152) kf_153) kf_154) kf_155) kf_156) kf_157) kf_158) kf_159) kf_160) kf_161) kf_162) kf_163) kf_164) kf_165) kf_166) kf_167) kf_168) kf_169) kf_170) kf_171) kf_172) kf_173) kf_174) kf_175) kf_176) kf_177) kf_178) kf_179) kf_180) kf_181) kf_182) kf_183) kf_184) kf_185) kf_186) kf_187) kf_188) kf_189) kf_190) kf_191)
theorem kfA_256 : ∀ a, a < 256 → g_Q a := (lt_s (lt_s (lt_s (lt_s (lt_s (lt_s (lt_s (lt_s (lt_s (lt_s (lt_s (lt_s (lt_s (lt_s (lt_s (lt_s (lt_s (lt_s (lt_s (lt_s (lt_s (lt_s (lt_s (lt_s (lt_s (lt_s (lt_s (lt_s (lt_s (lt_s (lt_s (lt_s (lt_s (lt_s (lt_s (lt_s (lt_s (lt_s (lt_s (lt_s (lt_s (lt_s (lt_s (lt_s (lt_s (lt_s (lt_s (lt_s (lt_s (lt_s (lt_s (lt_s (lt_s (lt_s (lt_s (lt_s (lt_s (lt_s (lt_s (lt_s (lt_s (lt_s (lt_s (lt_s kfA_192 kf_192) kf_193) kf_194) kf_195) kf_196) kf_197) kf_198) kf_199) kf_200) kf_201) kf_202) kf_203) kf_204) kf_205) kf_206) kf_207) kf_208) kf_209) kf_210) kf_211) kf_212) kf_213) kf_214) kf_215) kf_216) kf_217) kf_218) kf_219) kf_220) kf_221) kf_222) kf_223) kf_224) kf_225) kf_226) kf_227) kf_228) kf_229) kf_230) kf_231) kf_232) kf_233) kf_234) kf_235) kf_236) kf_237) kf_238) kf_239) kf_240) kf_241) kf_242) kf_243) kf_244) kf_245) kf_246) kf_247) kf_248) kf_249) kf_250) kf_251) kf_252) kf_253) kf_254) kf_255)
theorem kfA_315 : ∀ a, a < 315 → g_Q a := (lt_s (lt_s (lt_s (lt_s (lt_s (lt_s (lt_s (lt_s (lt_s (lt_s (lt_s (lt_s (lt_s (lt_s (lt_s (lt_s (lt_s (lt_s (lt_s (lt_s (lt_s (lt_s (lt_s (lt_s (lt_s (lt_s (lt_s (lt_s (lt_s (lt_s (lt_s (lt_s (lt_s (lt_s (lt_s (lt_s (lt_s (lt_s (lt_s (lt_s (lt_s (lt_s (lt_s (lt_s (lt_s (lt_s (lt_s (lt_s (lt_s (lt_s (lt_s (lt_s (lt_s (lt_s (lt_s (lt_s (lt_s (lt_s (lt_s kfA_256 kf_256) kf_257) kf_258) kf_259) kf_260) kf_261) kf_262) kf_263) kf_264) kf_265) kf_266) kf_267) kf_268) kf_269) kf_270) kf_271) kf_272) kf_273) kf_274) kf_275) kf_276) kf_277) kf_278) kf_279) kf_280) kf_281) kf_282) kf_283) kf_284) kf_285) kf_286) kf_287) kf_288) kf_289) kf_290) kf_291) kf_292) kf_293) kf_294) kf_295) kf_296) kf_297) kf_298) kf_299) kf_300) kf_301) kf_302) kf_303) kf_304) kf_305) kf_306) kf_307) kf_308) kf_309) kf_310) kf_311) kf_312) kf_313) kf_314)
theorem kfA : ∀ k, g_Q k := by
  intro k
  by_cases h : k < 315
  · exact kfA_315 k h
  · have e : gKnd k = 0 := by
      unfold gKnd
      rw [List.getD_eq_getElem?_getD, List.getElem?_eq_none_iff.mpr (by have : gKn.length = 315 := by decide +kernel
                                                                        omega)]
      rfl
    intro xs
    rw [e]
    exact ⟨fun h => absurd h (by decide), fun h => absurd h (by decide), fun h => absurd h (by decide)⟩
