theorem k_260 : c_260.all (fun z => z.2.all (g_chk prog_13_method_74_code 260)) = true := by decide +kernel
theorem k_261 : c_261.all (fun z => z.2.all (g_chk prog_13_method_4_code 261)) = true := by decide +kernel
theorem k_262 : c_262.all (fun z => z.2.all (g_chk prog_13_method_77_code 262)) = true := by decide +kernel
theorem k_263 : c_263.all (fun z => z.2.all (g_chk prog_13_method_76_code 263)) = true := by decide +kernel
theorem k_264 : c_264.all (fun z => z.2.all (g_chk prog_13_method_78_code 264)) = true := by decide +kernel
theorem k_265 : c_265.all (fun z => z.2.all (g_chk prog_13_method_79_code 265)) = true := by decide +kernel
theorem k_266 : c_266.all (fun z => z.2.all (g_chk prog_13_method_80_code 266)) = true := by decide +kernel
theorem k_267 : c_267.all (fun z => z.2.all (g_chk prog_13_method_81_code 267)) = true := by decide +kernel
theorem k_268 : c_268.all (fun z => z.2.all (g_chk prog_13_method_84_code 268)) = true := by decide +kernel
theorem k_269 : c_269.all (fun z => z.2.all (g_chk prog_13_method_82_code 269)) = true := by decide +kernel
theorem k_270 : c_270.all (fun z => z.2.all (g_chk prog_13_method_83_code 270)) = true := by decide +kernel
theorem k_271 : c_271.all (fun z => z.2.all (g_chk prog_13_method_85_code 271)) = true := by decide +kernel
theorem k_272 : c_272.all (fun z => z.2.all (g_chk prog_13_method_87_code 272)) = true := by decide +kernel
theorem k_273 : c_273.all (fun z => z.2.all (g_chk prog_13_method_86_code 273)) = true := by decide +kernel
theorem k_274 : c_274.all (fun z => z.2.all (g_chk prog_13_method_88_code 274)) = true := by decide +kernel
theorem k_275 : c_275.all (fun z => z.2.all (g_chk prog_13_method_89_code 275)) = true := by decide +kernel
theorem k_276 : c_276.all (fun z => z.2.all (g_chk prog_13_method_91_code 276)) = true := by decide +kernel
theorem k_277 : c_277.all (fun z => z.2.all (g_chk prog_13_method_90_code 277)) = true := by decide +kernel
theorem k_278_0 : ((c_278.drop 0).take 10).all (fun z => z.2.all (g_chk prog_13_method_119_code 278)) = true := by decide +kernel
theorem k_278_10 : ((c_278.drop 10).take 10).all (fun z => z.2.all (g_chk prog_13_method_119_code 278)) = true := by decide +kernel
theorem k_278 : c_278.all (fun z => z.2.all (g_chk prog_13_method_119_code 278)) = true := pm_allc 10 2 (by decide +kernel) (fun i hi => by
  match i, hi with
  | 0, _ => exact k_278_0
  | 1, _ => exact k_278_10
  | i + 2, hi => exact absurd hi (by omega))
theorem k_279_0 : ((c_279.drop 0).take 10).all (fun z => z.2.all (g_chk prog_13_method_93_code 279)) = true := by decide +kernel
theorem k_279_10 : ((c_279.drop 10).take 10).all (fun z => z.2.all (g_chk prog_13_method_93_code 279)) = true := by decide +kernel
theorem k_279_20 : ((c_279.drop 20).take 10).all (fun z => z.2.all (g_chk prog_13_method_93_code 279)) = true := by decide +kernel
theorem k_279 : c_279.all (fun z => z.2.all (g_chk prog_13_method_93_code 279)) = true := pm_allc 10 3 (by decide +kernel) (fun i hi => by
  match i, hi with
  | 0, _ => exact k_279_0
  | 1, _ => exact k_279_10
  | 2, _ => exact k_279_20
  | i + 3, hi => exact absurd hi (by omega))
theorem k_280 : c_280.all (fun z => z.2.all (g_chk prog_13_method_92_code 280)) = true := by decide +kernel
theorem k_281 : c_281.all (fun z => z.2.all (g_chk prog_13_method_94_code 281)) = true := by decide +kernel
theorem k_282 : c_282.all (fun z => z.2.all (g_chk prog_13_method_118_code 282)) = true := by decide +kernel
theorem k_283 : c_283.all (fun z => z.2.all (g_chk prog_13_method_97_code 283)) = true := by decide +kernel
theorem k_284 : c_284.all (fun z => z.2.all (g_chk prog_13_method_116_code 284)) = true := by decide +kernel
theorem k_285 : c_285.all (fun z => z.2.all (g_chk prog_13_method_102_code 285)) = true := by decide +kernel
theorem k_286 : c_286.all (fun z => z.2.all (g_chk prog_13_method_95_code 286)) = true := by decide +kernel
theorem k_287 : c_287.all (fun z => z.2.all (g_chk prog_13_method_96_code 287)) = true := by decide +kernel
theorem k_288 : c_288.all (fun z => z.2.all (g_chk prog_13_method_98_code 288)) = true := by decide +kernel
theorem k_289 : c_289.all (fun z => z.2.all (g_chk prog_13_method_100_code 289)) = true := by decide +kernel
theorem k_290 : c_290.all (fun z => z.2.all (g_chk prog_13_method_115_code 290)) = true := by decide +kernel
theorem k_291 : c_291.all (fun z => z.2.all (g_chk prog_13_method_114_code 291)) = true := by decide +kernel
theorem k_292 : c_292.all (fun z => z.2.all (g_chk prog_13_method_107_code 292)) = true := by decide +kernel
theorem k_293 : c_293.all (fun z => z.2.all (g_chk prog_13_method_104_code 293)) = true := by decide +kernel
theorem k_294 : c_294.all (fun z => z.2.all (g_chk prog_13_method_103_code 294)) = true := by decide +kernel
theorem k_295 : c_295.all (fun z => z.2.all (g_chk prog_13_method_106_code 295)) = true := by decide +kernel
theorem k_296 : c_296.all (fun z => z.2.all (g_chk prog_13_method_105_code 296)) = true := by decide +kernel
theorem k_297 : c_297.all (fun z => z.2.all (g_chk prog_13_method_108_code 297)) = true := by decide +kernel
theorem k_298 : c_298.all (fun z => z.2.all (g_chk prog_13_method_109_code 298)) = true := by decide +kernel
theorem k_299 : c_299.all (fun z => z.2.all (g_chk prog_13_method_110_code 299)) = true := by decide +kernel
theorem k_300 : c_300.all (fun z => z.2.all (g_chk prog_13_method_99_code 300)) = true := by decide +kernel
theorem k_301 : c_301.all (fun z => z.2.all (g_chk prog_13_method_101_code 301)) = true := by decide +kernel
theorem k_302 : c_302.all (fun z => z.2.all (g_chk prog_13_method_111_code 302)) = true := by decide +kernel
theorem k_303 : c_303.all (fun z => z.2.all (g_chk prog_13_method_112_code 303)) = true := by decide +kernel
theorem k_304 : c_304.all (fun z => z.2.all (g_chk prog_13_method_113_code 304)) = true := by decide +kernel
theorem k_305 : c_305.all (fun z => z.2.all (g_chk prog_13_method_117_code 305)) = true := by decide +kernel
theorem k_306 : c_306.all (fun z => z.2.all (g_chk prog_13_method_120_code 306)) = true := by decide +kernel
theorem k_307 : c_307.all (fun z => z.2.all (g_chk prog_13_method_127_code 307)) = true := by decide +kernel
theorem k_308_0 : ((c_308.drop 0).take 10).all (fun z => z.2.all (g_chk prog_13_method_125_code 308)) = true := by decide +kernel
theorem k_308_10 : ((c_308.drop 10).take 10).all (fun z => z.2.all (g_chk prog_13_method_125_code 308)) = true := by decide +kernel
theorem k_308 : c_308.all (fun z => z.2.all (g_chk prog_13_method_125_code 308)) = true := pm_allc 10 2 (by decide +kernel) (fun i hi => by
  match i, hi with
  | 0, _ => exact k_308_0
  | 1, _ => exact k_308_10
  | i + 2, hi => exact absurd hi (by omega))
theorem k_309 : c_309.all (fun z => z.2.all (g_chk prog_13_method_122_code 309)) = true := by decide +kernel
theorem k_310 : c_310.all (fun z => z.2.all (g_chk prog_13_method_121_code 310)) = true := by decide +kernel
theorem k_311 : c_311.all (fun z => z.2.all (g_chk prog_13_method_123_code 311)) = true := by decide +kernel
theorem k_312 : c_312.all (fun z => z.2.all (g_chk prog_13_method_124_code 312)) = true := by decide +kernel
theorem k_313 : c_313.all (fun z => z.2.all (g_chk prog_13_method_126_code 313)) = true := by decide +kernel
theorem k_314 : c_314.all (fun z => z.2.all (g_chk prog_13_method_128_code 314)) = true := by decide +kernel
