theorem k_0_0 : ((c_0.drop 0).take 10).all (fun z => z.2.all (g_chk code 0)) = true := by decide +kernel
theorem k_0_10 : ((c_0.drop 10).take 10).all (fun z => z.2.all (g_chk code 0)) = true := by decide +kernel
theorem k_0_20 : ((c_0.drop 20).take 10).all (fun z => z.2.all (g_chk code 0)) = true := by decide +kernel
theorem k_0_30 : ((c_0.drop 30).take 10).all (fun z => z.2.all (g_chk code 0)) = true := by decide +kernel
theorem k_0_40 : ((c_0.drop 40).take 10).all (fun z => z.2.all (g_chk code 0)) = true := by decide +kernel
theorem k_0_50 : ((c_0.drop 50).take 10).all (fun z => z.2.all (g_chk code 0)) = true := by decide +kernel
theorem k_0_60 : ((c_0.drop 60).take 10).all (fun z => z.2.all (g_chk code 0)) = true := by decide +kernel
theorem k_0_70 : ((c_0.drop 70).take 10).all (fun z => z.2.all (g_chk code 0)) = true := by decide +kernel
theorem k_0 : c_0.all (fun z => z.2.all (g_chk code 0)) = true := pm_allc 10 8 (by decide +kernel) (fun i hi => by
  match i, hi with
  | 0, _ => exact k_0_0
  | 1, _ => exact k_0_10
  | 2, _ => exact k_0_20
  | 3, _ => exact k_0_30
  | 4, _ => exact k_0_40
  | 5, _ => exact k_0_50
  | 6, _ => exact k_0_60
  | 7, _ => exact k_0_70
  | i + 8, hi => exact absurd hi (by omega))
theorem k_1 : c_1.all (fun z => z.2.all (g_chk prog_1_method_1_code 1)) = true := by decide +kernel
theorem k_2 : c_2.all (fun z => z.2.all (g_chk prog_7_method_1_code 2)) = true := by decide +kernel
theorem k_3 : c_3.all (fun z => z.2.all (g_chk prog_14_method_65_code 3)) = true := by decide +kernel
theorem k_4 : c_4.all (fun z => z.2.all (g_chk prog_5_method_1_code 4)) = true := by decide +kernel
theorem k_5 : c_5.all (fun z => z.2.all (g_chk prog_11_method_1_code 5)) = true := by decide +kernel
theorem k_6 : c_6.all (fun z => z.2.all (g_chk prog_4_method_1_code 6)) = true := by decide +kernel
theorem k_7 : c_7.all (fun z => z.2.all (g_chk prog_10_method_1_code 7)) = true := by decide +kernel
theorem k_8 : c_8.all (fun z => z.2.all (g_chk prog_6_method_1_code 8)) = true := by decide +kernel
theorem k_9 : c_9.all (fun z => z.2.all (g_chk prog_8_method_1_code 9)) = true := by decide +kernel
theorem k_10 : c_10.all (fun z => z.2.all (g_chk prog_2_method_1_code 10)) = true := by decide +kernel
theorem k_11 : c_11.all (fun z => z.2.all (g_chk prog_9_method_1_code 11)) = true := by decide +kernel
theorem k_12 : c_12.all (fun z => z.2.all (g_chk prog_3_method_1_code 12)) = true := by decide +kernel
theorem k_13 : c_13.all (fun z => z.2.all (g_chk prog_1_method_2_code 13)) = true := by decide +kernel
theorem k_14 : c_14.all (fun z => z.2.all (g_chk prog_1_method_3_code 14)) = true := by decide +kernel
theorem k_15 : c_15.all (fun z => z.2.all (g_chk prog_7_method_4_code 15)) = true := by decide +kernel
theorem k_16 : c_16.all (fun z => z.2.all (g_chk prog_7_method_3_code 16)) = true := by decide +kernel
theorem k_17 : c_17.all (fun z => z.2.all (g_chk prog_1_method_4_code 17)) = true := by decide +kernel
theorem k_18 : c_18.all (fun z => z.2.all (g_chk prog_1_method_39_code 18)) = true := by decide +kernel
theorem k_19 : c_19.all (fun z => z.2.all (g_chk prog_5_method_2_code 19)) = true := by decide +kernel
theorem k_20 : c_20.all (fun z => z.2.all (g_chk prog_2_method_2_code 20)) = true := by decide +kernel
theorem k_21 : c_21.all (fun z => z.2.all (g_chk prog_10_method_3_code 21)) = true := by decide +kernel
theorem k_22 : c_22.all (fun z => z.2.all (g_chk prog_7_method_2_code 22)) = true := by decide +kernel
theorem k_23 : c_23.all (fun z => z.2.all (g_chk prog_11_method_2_code 23)) = true := by decide +kernel
theorem k_24 : c_24.all (fun z => z.2.all (g_chk prog_14_method_69_code 24)) = true := by decide +kernel
theorem k_25 : c_25.all (fun z => z.2.all (g_chk prog_11_method_3_code 25)) = true := by decide +kernel
theorem k_26 : c_26.all (fun z => z.2.all (g_chk prog_7_method_6_code 26)) = true := by decide +kernel
theorem k_27 : c_27.all (fun z => z.2.all (g_chk prog_11_method_5_code 27)) = true := by decide +kernel
theorem k_28 : c_28.all (fun z => z.2.all (g_chk prog_1_method_51_code 28)) = true := by decide +kernel
theorem k_29 : c_29.all (fun z => z.2.all (g_chk prog_11_method_4_code 29)) = true := by decide +kernel
theorem k_30 : c_30.all (fun z => z.2.all (g_chk prog_11_method_6_code 30)) = true := by decide +kernel
theorem k_31 : c_31.all (fun z => z.2.all (g_chk prog_5_method_3_code 31)) = true := by decide +kernel
theorem k_32 : c_32.all (fun z => z.2.all (g_chk prog_5_method_6_code 32)) = true := by decide +kernel
theorem k_33 : c_33.all (fun z => z.2.all (g_chk prog_5_method_16_code 33)) = true := by decide +kernel
theorem k_34 : c_34.all (fun z => z.2.all (g_chk prog_5_method_17_code 34)) = true := by decide +kernel
theorem k_35 : c_35.all (fun z => z.2.all (g_chk prog_1_method_52_code 35)) = true := by decide +kernel
theorem k_36 : c_36.all (fun z => z.2.all (g_chk prog_2_method_7_code 36)) = true := by decide +kernel
theorem k_37 : c_37.all (fun z => z.2.all (g_chk prog_6_method_3_code 37)) = true := by decide +kernel
theorem k_38 : c_38.all (fun z => z.2.all (g_chk prog_5_method_8_code 38)) = true := by decide +kernel
theorem k_39 : c_39.all (fun z => z.2.all (g_chk prog_2_method_8_code 39)) = true := by decide +kernel
theorem k_40 : c_40.all (fun z => z.2.all (g_chk prog_2_method_6_code 40)) = true := by decide +kernel
theorem k_41 : c_41.all (fun z => z.2.all (g_chk prog_5_method_7_code 41)) = true := by decide +kernel
theorem k_42 : c_42.all (fun z => z.2.all (g_chk prog_5_method_4_code 42)) = true := by decide +kernel
theorem k_43 : c_43.all (fun z => z.2.all (g_chk prog_5_method_5_code 43)) = true := by decide +kernel
theorem k_44 : c_44.all (fun z => z.2.all (g_chk prog_5_method_11_code 44)) = true := by decide +kernel
theorem k_45 : c_45.all (fun z => z.2.all (g_chk prog_1_method_49_code 45)) = true := by decide +kernel
theorem k_46 : c_46.all (fun z => z.2.all (g_chk prog_5_method_15_code 46)) = true := by decide +kernel
theorem k_47 : c_47.all (fun z => z.2.all (g_chk prog_5_method_12_code 47)) = true := by decide +kernel
theorem k_48 : c_48.all (fun z => z.2.all (g_chk prog_9_method_7_code 48)) = true := by decide +kernel
theorem k_49 : c_49.all (fun z => z.2.all (g_chk prog_9_method_13_code 49)) = true := by decide +kernel
theorem k_50 : c_50.all (fun z => z.2.all (g_chk prog_19_method_104_code 50)) = true := by decide +kernel
theorem k_51 : c_51.all (fun z => z.2.all (g_chk prog_19_method_30_code 51)) = true := by decide +kernel
theorem k_52 : c_52.all (fun z => z.2.all (g_chk prog_5_method_10_code 52)) = true := by decide +kernel
theorem k_53 : c_53.all (fun z => z.2.all (g_chk prog_5_method_13_code 53)) = true := by decide +kernel
theorem k_54 : c_54.all (fun z => z.2.all (g_chk prog_9_method_2_code 54)) = true := by decide +kernel
theorem k_55 : c_55.all (fun z => z.2.all (g_chk prog_5_method_9_code 55)) = true := by decide +kernel
theorem k_56 : c_56.all (fun z => z.2.all (g_chk prog_2_method_3_code 56)) = true := by decide +kernel
theorem k_57 : c_57.all (fun z => z.2.all (g_chk prog_2_method_5_code 57)) = true := by decide +kernel
theorem k_58 : c_58.all (fun z => z.2.all (g_chk prog_5_method_14_code 58)) = true := by decide +kernel
theorem k_59 : c_59.all (fun z => z.2.all (g_chk prog_5_method_18_code 59)) = true := by decide +kernel
theorem k_60 : c_60.all (fun z => z.2.all (g_chk prog_9_method_8_code 60)) = true := by decide +kernel
theorem k_61 : c_61.all (fun z => z.2.all (g_chk prog_1_method_50_code 61)) = true := by decide +kernel
theorem k_62 : c_62.all (fun z => z.2.all (g_chk prog_9_method_14_code 62)) = true := by decide +kernel
theorem k_63 : c_63.all (fun z => z.2.all (g_chk prog_9_method_9_code 63)) = true := by decide +kernel
theorem k_64 : c_64.all (fun z => z.2.all (g_chk prog_9_method_10_code 64)) = true := by decide +kernel
theorem k_65 : c_65.all (fun z => z.2.all (g_chk prog_9_method_16_code 65)) = true := by decide +kernel
theorem k_66 : c_66.all (fun z => z.2.all (g_chk prog_14_method_50_code 66)) = true := by decide +kernel
theorem k_67 : c_67.all (fun z => z.2.all (g_chk prog_9_method_11_code 67)) = true := by decide +kernel
theorem k_68 : c_68.all (fun z => z.2.all (g_chk prog_9_method_12_code 68)) = true := by decide +kernel
theorem k_69 : c_69.all (fun z => z.2.all (g_chk prog_9_method_4_code 69)) = true := by decide +kernel
theorem k_70 : c_70.all (fun z => z.2.all (g_chk prog_9_method_5_code 70)) = true := by decide +kernel
theorem k_71 : c_71.all (fun z => z.2.all (g_chk prog_9_method_15_code 71)) = true := by decide +kernel
theorem k_72 : c_72.all (fun z => z.2.all (g_chk prog_1_method_48_code 72)) = true := by decide +kernel
theorem k_73 : c_73.all (fun z => z.2.all (g_chk prog_5_method_20_code 73)) = true := by decide +kernel
theorem k_74 : c_74.all (fun z => z.2.all (g_chk prog_7_method_7_code 74)) = true := by decide +kernel
theorem k_75 : c_75.all (fun z => z.2.all (g_chk prog_5_method_19_code 75)) = true := by decide +kernel
