/-! the walk of the law -/
theorem zw_lcmp {v : Int64} : lg_cmp v v = 0 := by
  unfold lg_cmp
  rw [if_neg (fun w => Int64.lt_irrefl w), if_pos rfl]
set_option maxRecDepth 20000 in
theorem zw_count {L i : Nat} {xs : Nat → Int32} {I : Nat → Nat → Int32} {tg : Option Nat} {P : Option Value → zk_M → Prop} (hJ : zJJ I) (hi : i + 7 ≤ L) (hL : L ≤ 3584) (K : ∀ I2 tg2, zJJ I2 → zk_R (some (L, xs)) 900 217 1412 [some (.ref (1000 : Nat)), some (.ref (0 : Nat)), some (.ref (60 : Nat)), some (.int (nI i))] [] (zk_mk I2 tg2) P) : zk_R (some (L, xs)) 900 217 208 [some (.ref (1000 : Nat)), some (.ref (0 : Nat)), some (.ref (60 : Nat)), some (.int (nI i))] [] (zk_mk I tg) P := by
  have z1 : zk_inb (nI (i + 1)) L = true := by rw [zn_in (by omega)]; omega
  have y1 : (nI (i + 1)).toNatClampNeg = i + 1 := zn_cl (by omega)
  have p1 : (nI i + 1 : Int32) = nI (i + 1) := zn_add i 1
  have h1000 : (83 ≤ 1000) = True := by decide
  simp only [u217_208, u217_209, u217_210, u217_211, u217_212, u217_213, u217_214, u217_217, u217_218, u217_219, u217_220, u217_221, u217_222, u217_223, u217_226, u217_229, u217_230, zk_mk_1, zk_mk_I, zk_mk_R, zk_mk_set, zk_mk_setR, zk_mk_cpy, zk_rv_some, zk_rv_none, Option.toList_some, Option.toList_none, List.cons_append, List.nil_append, reduceIte, eq_self, Nat.reduceLT, Nat.reduceEqDiff, and_true, true_and, reduceCtorEq, zsh_0, zsh_60, h1000, z1, y1, p1]
  refine zo_count hJ _ ?_
  intro v I1 tg1 hA
  simp only [u217_208, u217_209, u217_210, u217_211, u217_212, u217_213, u217_214, u217_217, u217_218, u217_219, u217_220, u217_221, u217_222, u217_223, u217_226, u217_229, u217_230, zk_mk_1, zk_mk_I, zk_mk_R, zk_mk_set, zk_mk_setR, zk_mk_cpy, zk_rv_some, zk_rv_none, Option.toList_some, Option.toList_none, List.cons_append, List.nil_append, reduceIte, eq_self, Nat.reduceLT, Nat.reduceEqDiff, and_true, true_and, reduceCtorEq, zsh_0, zsh_60, h1000, z1, y1, p1]
  refine hA _ ?_
  intro I2 tg2 hJ2
  simp only [u217_208, u217_209, u217_210, u217_211, u217_212, u217_213, u217_214, u217_217, u217_218, u217_219, u217_220, u217_221, u217_222, u217_223, u217_226, u217_229, u217_230, zk_mk_1, zk_mk_I, zk_mk_R, zk_mk_set, zk_mk_setR, zk_mk_cpy, zk_rv_some, zk_rv_none, Option.toList_some, Option.toList_none, List.cons_append, List.nil_append, reduceIte, eq_self, Nat.reduceLT, Nat.reduceEqDiff, and_true, true_and, reduceCtorEq]
  exact K I2 tg2 hJ2
set_option maxRecDepth 20000 in
theorem zw_feed {L i : Nat} {xs : Nat → Int32} {I : Nat → Nat → Int32} {tg : Option Nat} {P : Option Value → zk_M → Prop} (hJ : zJJ I) (hi : i + 7 ≤ L) (hL : L ≤ 3584) (K : ∀ I2 tg2, zJJ I2 → zk_R (some (L, xs)) 900 217 1412 [some (.ref (1000 : Nat)), some (.ref (0 : Nat)), some (.ref (60 : Nat)), some (.int (nI i))] [] (zk_mk I2 tg2) P) : zk_R (some (L, xs)) 900 217 231 [some (.ref (1000 : Nat)), some (.ref (0 : Nat)), some (.ref (60 : Nat)), some (.int (nI i))] [] (zk_mk I tg) P := by
  have z1 : zk_inb (nI (i + 1)) L = true := by rw [zn_in (by omega)]; omega
  have y1 : (nI (i + 1)).toNatClampNeg = i + 1 := zn_cl (by omega)
  have p1 : (nI i + 1 : Int32) = nI (i + 1) := zn_add i 1
  have z2 : zk_inb (nI (i + 2)) L = true := by rw [zn_in (by omega)]; omega
  have y2 : (nI (i + 2)).toNatClampNeg = i + 2 := zn_cl (by omega)
  have p2 : (nI i + 2 : Int32) = nI (i + 2) := zn_add i 2
  have z3 : zk_inb (nI (i + 3)) L = true := by rw [zn_in (by omega)]; omega
  have y3 : (nI (i + 3)).toNatClampNeg = i + 3 := zn_cl (by omega)
  have p3 : (nI i + 3 : Int32) = nI (i + 3) := zn_add i 3
  have z4 : zk_inb (nI (i + 4)) L = true := by rw [zn_in (by omega)]; omega
  have y4 : (nI (i + 4)).toNatClampNeg = i + 4 := zn_cl (by omega)
  have p4 : (nI i + 4 : Int32) = nI (i + 4) := zn_add i 4
  have z5 : zk_inb (nI (i + 5)) L = true := by rw [zn_in (by omega)]; omega
  have y5 : (nI (i + 5)).toNatClampNeg = i + 5 := zn_cl (by omega)
  have p5 : (nI i + 5 : Int32) = nI (i + 5) := zn_add i 5
  have z6 : zk_inb (nI (i + 6)) L = true := by rw [zn_in (by omega)]; omega
  have y6 : (nI (i + 6)).toNatClampNeg = i + 6 := zn_cl (by omega)
  have p6 : (nI i + 6 : Int32) = nI (i + 6) := zn_add i 6
  have h1000 : (83 ≤ 1000) = True := by decide
  simp only [u217_231, u217_232, u217_233, u217_234, u217_235, u217_236, u217_237, u217_238, u217_239, u217_240, u217_241, u217_242, u217_243, u217_244, u217_245, u217_246, u217_247, u217_248, u217_249, u217_250, u217_251, u217_252, u217_253, u217_254, u217_255, u217_256, u217_257, u217_258, u217_259, u217_261, u217_262, u217_263, u217_266, u217_267, u217_268, u217_269, u217_270, u217_271, u217_272, u217_273, u217_274, u217_275, u217_276, u217_277, u217_278, u217_279, u217_280, u217_281, u217_282, u217_283, u217_284, u217_285, u217_286, u217_287, u217_288, u217_289, u217_290, u217_291, u217_292, u217_293, u217_294, u217_296, u217_297, u217_298, u217_301, u217_304, u217_305, zk_mk_1, zk_mk_I, zk_mk_R, zk_mk_set, zk_mk_setR, zk_mk_cpy, zk_rv_some, zk_rv_none, Option.toList_some, Option.toList_none, List.cons_append, List.nil_append, reduceIte, eq_self, Nat.reduceLT, Nat.reduceEqDiff, and_true, true_and, reduceCtorEq, zsh_0, zsh_60, h1000, z1, y1, p1, z2, y2, p2, z3, y3, p3, z4, y4, p4, z5, y5, p5, z6, y6, p6]
  refine zo_feed hJ _ ?_
  intro v I1 tg1 hA
  simp only [u217_231, u217_232, u217_233, u217_234, u217_235, u217_236, u217_237, u217_238, u217_239, u217_240, u217_241, u217_242, u217_243, u217_244, u217_245, u217_246, u217_247, u217_248, u217_249, u217_250, u217_251, u217_252, u217_253, u217_254, u217_255, u217_256, u217_257, u217_258, u217_259, u217_261, u217_262, u217_263, u217_266, u217_267, u217_268, u217_269, u217_270, u217_271, u217_272, u217_273, u217_274, u217_275, u217_276, u217_277, u217_278, u217_279, u217_280, u217_281, u217_282, u217_283, u217_284, u217_285, u217_286, u217_287, u217_288, u217_289, u217_290, u217_291, u217_292, u217_293, u217_294, u217_296, u217_297, u217_298, u217_301, u217_304, u217_305, zk_mk_1, zk_mk_I, zk_mk_R, zk_mk_set, zk_mk_setR, zk_mk_cpy, zk_rv_some, zk_rv_none, Option.toList_some, Option.toList_none, List.cons_append, List.nil_append, reduceIte, eq_self, Nat.reduceLT, Nat.reduceEqDiff, and_true, true_and, reduceCtorEq, zsh_0, zsh_60, h1000, z1, y1, p1, z2, y2, p2, z3, y3, p3, z4, y4, p4, z5, y5, p5, z6, y6, p6]
  refine hA _ ?_
  intro I2 tg2 hJ2
  simp only [u217_231, u217_232, u217_233, u217_234, u217_235, u217_236, u217_237, u217_238, u217_239, u217_240, u217_241, u217_242, u217_243, u217_244, u217_245, u217_246, u217_247, u217_248, u217_249, u217_250, u217_251, u217_252, u217_253, u217_254, u217_255, u217_256, u217_257, u217_258, u217_259, u217_261, u217_262, u217_263, u217_266, u217_267, u217_268, u217_269, u217_270, u217_271, u217_272, u217_273, u217_274, u217_275, u217_276, u217_277, u217_278, u217_279, u217_280, u217_281, u217_282, u217_283, u217_284, u217_285, u217_286, u217_287, u217_288, u217_289, u217_290, u217_291, u217_292, u217_293, u217_294, u217_296, u217_297, u217_298, u217_301, u217_304, u217_305, zk_mk_1, zk_mk_I, zk_mk_R, zk_mk_set, zk_mk_setR, zk_mk_cpy, zk_rv_some, zk_rv_none, Option.toList_some, Option.toList_none, List.cons_append, List.nil_append, reduceIte, eq_self, Nat.reduceLT, Nat.reduceEqDiff, and_true, true_and, reduceCtorEq]
  exact K I2 tg2 hJ2
set_option maxRecDepth 20000 in
theorem zw_text {L i : Nat} {xs : Nat → Int32} {I : Nat → Nat → Int32} {tg : Option Nat} {P : Option Value → zk_M → Prop} (hJ : zJJ I) (hi : i + 7 ≤ L) (hL : L ≤ 3584) (K : ∀ I2 tg2, zJJ I2 → zk_R (some (L, xs)) 900 217 1412 [some (.ref (1000 : Nat)), some (.ref (0 : Nat)), some (.ref (60 : Nat)), some (.int (nI i))] [] (zk_mk I2 tg2) P) : zk_R (some (L, xs)) 900 217 306 [some (.ref (1000 : Nat)), some (.ref (0 : Nat)), some (.ref (60 : Nat)), some (.int (nI i))] [] (zk_mk I tg) P := by
  have h1000 : (83 ≤ 1000) = True := by decide
  simp only [u217_306, u217_307, u217_310, u217_311, u217_314, u217_317, u217_318, zk_mk_1, zk_mk_I, zk_mk_R, zk_mk_set, zk_mk_setR, zk_mk_cpy, zk_rv_some, zk_rv_none, Option.toList_some, Option.toList_none, List.cons_append, List.nil_append, reduceIte, eq_self, Nat.reduceLT, Nat.reduceEqDiff, and_true, true_and, reduceCtorEq, zsh_0, zsh_60, h1000]
  refine zo_text hJ _ ?_
  intro v I1 tg1 hA
  simp only [u217_306, u217_307, u217_310, u217_311, u217_314, u217_317, u217_318, zk_mk_1, zk_mk_I, zk_mk_R, zk_mk_set, zk_mk_setR, zk_mk_cpy, zk_rv_some, zk_rv_none, Option.toList_some, Option.toList_none, List.cons_append, List.nil_append, reduceIte, eq_self, Nat.reduceLT, Nat.reduceEqDiff, and_true, true_and, reduceCtorEq, zsh_0, zsh_60, h1000]
  refine hA _ ?_
  intro I2 tg2 hJ2
  simp only [u217_306, u217_307, u217_310, u217_311, u217_314, u217_317, u217_318, zk_mk_1, zk_mk_I, zk_mk_R, zk_mk_set, zk_mk_setR, zk_mk_cpy, zk_rv_some, zk_rv_none, Option.toList_some, Option.toList_none, List.cons_append, List.nil_append, reduceIte, eq_self, Nat.reduceLT, Nat.reduceEqDiff, and_true, true_and, reduceCtorEq]
  exact K I2 tg2 hJ2
set_option maxRecDepth 20000 in
theorem zw_force {L i : Nat} {xs : Nat → Int32} {I : Nat → Nat → Int32} {tg : Option Nat} {P : Option Value → zk_M → Prop} (hJ : zJJ I) (hi : i + 7 ≤ L) (hL : L ≤ 3584) (K : ∀ I2 tg2, zJJ I2 → zk_R (some (L, xs)) 900 217 1412 [some (.ref (1000 : Nat)), some (.ref (0 : Nat)), some (.ref (60 : Nat)), some (.int (nI i))] [] (zk_mk I2 tg2) P) : zk_R (some (L, xs)) 900 217 319 [some (.ref (1000 : Nat)), some (.ref (0 : Nat)), some (.ref (60 : Nat)), some (.int (nI i))] [] (zk_mk I tg) P := by
  have z1 : zk_inb (nI (i + 1)) L = true := by rw [zn_in (by omega)]; omega
  have y1 : (nI (i + 1)).toNatClampNeg = i + 1 := zn_cl (by omega)
  have p1 : (nI i + 1 : Int32) = nI (i + 1) := zn_add i 1
  have h1000 : (83 ≤ 1000) = True := by decide
  simp only [u217_319, u217_320, u217_321, u217_322, u217_323, u217_324, u217_325, u217_328, u217_329, u217_330, u217_331, u217_332, u217_333, u217_334, u217_337, u217_340, u217_341, zk_mk_1, zk_mk_I, zk_mk_R, zk_mk_set, zk_mk_setR, zk_mk_cpy, zk_rv_some, zk_rv_none, Option.toList_some, Option.toList_none, List.cons_append, List.nil_append, reduceIte, eq_self, Nat.reduceLT, Nat.reduceEqDiff, and_true, true_and, reduceCtorEq, zsh_0, zsh_60, h1000, z1, y1, p1]
  refine zo_force hJ _ ?_
  intro v I1 tg1 hA
  simp only [u217_319, u217_320, u217_321, u217_322, u217_323, u217_324, u217_325, u217_328, u217_329, u217_330, u217_331, u217_332, u217_333, u217_334, u217_337, u217_340, u217_341, zk_mk_1, zk_mk_I, zk_mk_R, zk_mk_set, zk_mk_setR, zk_mk_cpy, zk_rv_some, zk_rv_none, Option.toList_some, Option.toList_none, List.cons_append, List.nil_append, reduceIte, eq_self, Nat.reduceLT, Nat.reduceEqDiff, and_true, true_and, reduceCtorEq, zsh_0, zsh_60, h1000, z1, y1, p1]
  refine hA _ ?_
  intro I2 tg2 hJ2
  simp only [u217_319, u217_320, u217_321, u217_322, u217_323, u217_324, u217_325, u217_328, u217_329, u217_330, u217_331, u217_332, u217_333, u217_334, u217_337, u217_340, u217_341, zk_mk_1, zk_mk_I, zk_mk_R, zk_mk_set, zk_mk_setR, zk_mk_cpy, zk_rv_some, zk_rv_none, Option.toList_some, Option.toList_none, List.cons_append, List.nil_append, reduceIte, eq_self, Nat.reduceLT, Nat.reduceEqDiff, and_true, true_and, reduceCtorEq]
  exact K I2 tg2 hJ2
set_option maxRecDepth 20000 in
theorem zw_asks {L i : Nat} {xs : Nat → Int32} {I : Nat → Nat → Int32} {tg : Option Nat} {P : Option Value → zk_M → Prop} (hJ : zJJ I) (hi : i + 7 ≤ L) (hL : L ≤ 3584) (K : ∀ I2 tg2, zJJ I2 → zk_R (some (L, xs)) 900 217 1412 [some (.ref (1000 : Nat)), some (.ref (0 : Nat)), some (.ref (60 : Nat)), some (.int (nI i))] [] (zk_mk I2 tg2) P) : zk_R (some (L, xs)) 900 217 342 [some (.ref (1000 : Nat)), some (.ref (0 : Nat)), some (.ref (60 : Nat)), some (.int (nI i))] [] (zk_mk I tg) P := by
  have z1 : zk_inb (nI (i + 1)) L = true := by rw [zn_in (by omega)]; omega
  have y1 : (nI (i + 1)).toNatClampNeg = i + 1 := zn_cl (by omega)
  have p1 : (nI i + 1 : Int32) = nI (i + 1) := zn_add i 1
  have z2 : zk_inb (nI (i + 2)) L = true := by rw [zn_in (by omega)]; omega
  have y2 : (nI (i + 2)).toNatClampNeg = i + 2 := zn_cl (by omega)
  have p2 : (nI i + 2 : Int32) = nI (i + 2) := zn_add i 2
  have z3 : zk_inb (nI (i + 3)) L = true := by rw [zn_in (by omega)]; omega
  have y3 : (nI (i + 3)).toNatClampNeg = i + 3 := zn_cl (by omega)
  have p3 : (nI i + 3 : Int32) = nI (i + 3) := zn_add i 3
  have h1000 : (83 ≤ 1000) = True := by decide
  simp only [u217_342, u217_343, u217_344, u217_345, u217_346, u217_347, u217_348, u217_349, u217_350, u217_351, u217_352, u217_353, u217_354, u217_355, u217_356, u217_357, u217_358, u217_361, u217_362, u217_363, u217_364, u217_365, u217_366, u217_367, u217_368, u217_369, u217_370, u217_371, u217_372, u217_373, u217_374, u217_375, u217_376, u217_377, u217_380, u217_383, u217_384, zk_mk_1, zk_mk_I, zk_mk_R, zk_mk_set, zk_mk_setR, zk_mk_cpy, zk_rv_some, zk_rv_none, Option.toList_some, Option.toList_none, List.cons_append, List.nil_append, reduceIte, eq_self, Nat.reduceLT, Nat.reduceEqDiff, and_true, true_and, reduceCtorEq, zsh_0, zsh_60, h1000, z1, y1, p1, z2, y2, p2, z3, y3, p3]
  refine zo_asks hJ _ ?_
  intro v I1 tg1 hA
  simp only [u217_342, u217_343, u217_344, u217_345, u217_346, u217_347, u217_348, u217_349, u217_350, u217_351, u217_352, u217_353, u217_354, u217_355, u217_356, u217_357, u217_358, u217_361, u217_362, u217_363, u217_364, u217_365, u217_366, u217_367, u217_368, u217_369, u217_370, u217_371, u217_372, u217_373, u217_374, u217_375, u217_376, u217_377, u217_380, u217_383, u217_384, zk_mk_1, zk_mk_I, zk_mk_R, zk_mk_set, zk_mk_setR, zk_mk_cpy, zk_rv_some, zk_rv_none, Option.toList_some, Option.toList_none, List.cons_append, List.nil_append, reduceIte, eq_self, Nat.reduceLT, Nat.reduceEqDiff, and_true, true_and, reduceCtorEq, zsh_0, zsh_60, h1000, z1, y1, p1, z2, y2, p2, z3, y3, p3]
  refine hA _ ?_
  intro I2 tg2 hJ2
  simp only [u217_342, u217_343, u217_344, u217_345, u217_346, u217_347, u217_348, u217_349, u217_350, u217_351, u217_352, u217_353, u217_354, u217_355, u217_356, u217_357, u217_358, u217_361, u217_362, u217_363, u217_364, u217_365, u217_366, u217_367, u217_368, u217_369, u217_370, u217_371, u217_372, u217_373, u217_374, u217_375, u217_376, u217_377, u217_380, u217_383, u217_384, zk_mk_1, zk_mk_I, zk_mk_R, zk_mk_set, zk_mk_setR, zk_mk_cpy, zk_rv_some, zk_rv_none, Option.toList_some, Option.toList_none, List.cons_append, List.nil_append, reduceIte, eq_self, Nat.reduceLT, Nat.reduceEqDiff, and_true, true_and, reduceCtorEq]
  exact K I2 tg2 hJ2
set_option maxRecDepth 20000 in
theorem zw_card {L i : Nat} {xs : Nat → Int32} {I : Nat → Nat → Int32} {tg : Option Nat} {P : Option Value → zk_M → Prop} (hJ : zJJ I) (hi : i + 7 ≤ L) (hL : L ≤ 3584) (K : ∀ I2 tg2, zJJ I2 → zk_R (some (L, xs)) 900 217 1412 [some (.ref (1000 : Nat)), some (.ref (0 : Nat)), some (.ref (60 : Nat)), some (.int (nI i))] [] (zk_mk I2 tg2) P) : zk_R (some (L, xs)) 900 217 385 [some (.ref (1000 : Nat)), some (.ref (0 : Nat)), some (.ref (60 : Nat)), some (.int (nI i))] [] (zk_mk I tg) P := by
  have z1 : zk_inb (nI (i + 1)) L = true := by rw [zn_in (by omega)]; omega
  have y1 : (nI (i + 1)).toNatClampNeg = i + 1 := zn_cl (by omega)
  have p1 : (nI i + 1 : Int32) = nI (i + 1) := zn_add i 1
  have z2 : zk_inb (nI (i + 2)) L = true := by rw [zn_in (by omega)]; omega
  have y2 : (nI (i + 2)).toNatClampNeg = i + 2 := zn_cl (by omega)
  have p2 : (nI i + 2 : Int32) = nI (i + 2) := zn_add i 2
  have h1000 : (83 ≤ 1000) = True := by decide
  simp only [u217_385, u217_386, u217_387, u217_388, u217_389, u217_390, u217_391, u217_392, u217_393, u217_394, u217_395, u217_396, u217_399, u217_400, u217_401, u217_402, u217_403, u217_404, u217_405, u217_406, u217_407, u217_408, u217_409, u217_410, u217_413, u217_416, u217_417, zk_mk_1, zk_mk_I, zk_mk_R, zk_mk_set, zk_mk_setR, zk_mk_cpy, zk_rv_some, zk_rv_none, Option.toList_some, Option.toList_none, List.cons_append, List.nil_append, reduceIte, eq_self, Nat.reduceLT, Nat.reduceEqDiff, and_true, true_and, reduceCtorEq, zsh_0, zsh_60, h1000, z1, y1, p1, z2, y2, p2]
  refine zo_card hJ _ ?_
  intro v I1 tg1 hA
  simp only [u217_385, u217_386, u217_387, u217_388, u217_389, u217_390, u217_391, u217_392, u217_393, u217_394, u217_395, u217_396, u217_399, u217_400, u217_401, u217_402, u217_403, u217_404, u217_405, u217_406, u217_407, u217_408, u217_409, u217_410, u217_413, u217_416, u217_417, zk_mk_1, zk_mk_I, zk_mk_R, zk_mk_set, zk_mk_setR, zk_mk_cpy, zk_rv_some, zk_rv_none, Option.toList_some, Option.toList_none, List.cons_append, List.nil_append, reduceIte, eq_self, Nat.reduceLT, Nat.reduceEqDiff, and_true, true_and, reduceCtorEq, zsh_0, zsh_60, h1000, z1, y1, p1, z2, y2, p2]
  refine hA _ ?_
  intro I2 tg2 hJ2
  simp only [u217_385, u217_386, u217_387, u217_388, u217_389, u217_390, u217_391, u217_392, u217_393, u217_394, u217_395, u217_396, u217_399, u217_400, u217_401, u217_402, u217_403, u217_404, u217_405, u217_406, u217_407, u217_408, u217_409, u217_410, u217_413, u217_416, u217_417, zk_mk_1, zk_mk_I, zk_mk_R, zk_mk_set, zk_mk_setR, zk_mk_cpy, zk_rv_some, zk_rv_none, Option.toList_some, Option.toList_none, List.cons_append, List.nil_append, reduceIte, eq_self, Nat.reduceLT, Nat.reduceEqDiff, and_true, true_and, reduceCtorEq]
  exact K I2 tg2 hJ2
set_option maxRecDepth 20000 in
theorem zw_drop {L i : Nat} {xs : Nat → Int32} {I : Nat → Nat → Int32} {tg : Option Nat} {P : Option Value → zk_M → Prop} (hJ : zJJ I) (hi : i + 7 ≤ L) (hL : L ≤ 3584) (K : ∀ I2 tg2, zJJ I2 → zk_R (some (L, xs)) 900 217 1412 [some (.ref (1000 : Nat)), some (.ref (0 : Nat)), some (.ref (60 : Nat)), some (.int (nI i))] [] (zk_mk I2 tg2) P) : zk_R (some (L, xs)) 900 217 418 [some (.ref (1000 : Nat)), some (.ref (0 : Nat)), some (.ref (60 : Nat)), some (.int (nI i))] [] (zk_mk I tg) P := by
  have h1000 : (83 ≤ 1000) = True := by decide
  simp only [u217_418, u217_419, u217_422, u217_423, u217_426, u217_429, u217_430, zk_mk_1, zk_mk_I, zk_mk_R, zk_mk_set, zk_mk_setR, zk_mk_cpy, zk_rv_some, zk_rv_none, Option.toList_some, Option.toList_none, List.cons_append, List.nil_append, reduceIte, eq_self, Nat.reduceLT, Nat.reduceEqDiff, and_true, true_and, reduceCtorEq, zsh_0, zsh_60, h1000]
  refine zo_drop hJ _ ?_
  intro v I1 tg1 hA
  simp only [u217_418, u217_419, u217_422, u217_423, u217_426, u217_429, u217_430, zk_mk_1, zk_mk_I, zk_mk_R, zk_mk_set, zk_mk_setR, zk_mk_cpy, zk_rv_some, zk_rv_none, Option.toList_some, Option.toList_none, List.cons_append, List.nil_append, reduceIte, eq_self, Nat.reduceLT, Nat.reduceEqDiff, and_true, true_and, reduceCtorEq, zsh_0, zsh_60, h1000]
  refine hA _ ?_
  intro I2 tg2 hJ2
  simp only [u217_418, u217_419, u217_422, u217_423, u217_426, u217_429, u217_430, zk_mk_1, zk_mk_I, zk_mk_R, zk_mk_set, zk_mk_setR, zk_mk_cpy, zk_rv_some, zk_rv_none, Option.toList_some, Option.toList_none, List.cons_append, List.nil_append, reduceIte, eq_self, Nat.reduceLT, Nat.reduceEqDiff, and_true, true_and, reduceCtorEq]
  exact K I2 tg2 hJ2
set_option maxRecDepth 20000 in
theorem zw_lay {L i : Nat} {xs : Nat → Int32} {I : Nat → Nat → Int32} {tg : Option Nat} {P : Option Value → zk_M → Prop} (hJ : zJJ I) (hi : i + 7 ≤ L) (hL : L ≤ 3584) (K : ∀ I2 tg2, zJJ I2 → zk_R (some (L, xs)) 900 217 1412 [some (.ref (1000 : Nat)), some (.ref (0 : Nat)), some (.ref (60 : Nat)), some (.int (nI i))] [] (zk_mk I2 tg2) P) : zk_R (some (L, xs)) 900 217 431 [some (.ref (1000 : Nat)), some (.ref (0 : Nat)), some (.ref (60 : Nat)), some (.int (nI i))] [] (zk_mk I tg) P := by
  have z1 : zk_inb (nI (i + 1)) L = true := by rw [zn_in (by omega)]; omega
  have y1 : (nI (i + 1)).toNatClampNeg = i + 1 := zn_cl (by omega)
  have p1 : (nI i + 1 : Int32) = nI (i + 1) := zn_add i 1
  have z2 : zk_inb (nI (i + 2)) L = true := by rw [zn_in (by omega)]; omega
  have y2 : (nI (i + 2)).toNatClampNeg = i + 2 := zn_cl (by omega)
  have p2 : (nI i + 2 : Int32) = nI (i + 2) := zn_add i 2
  have h1000 : (83 ≤ 1000) = True := by decide
  simp only [u217_431, u217_432, u217_433, u217_434, u217_435, u217_436, u217_437, u217_438, u217_439, u217_440, u217_441, u217_442, u217_445, u217_446, u217_447, u217_448, u217_449, u217_450, u217_451, u217_452, u217_453, u217_454, u217_455, u217_456, u217_459, u217_462, u217_463, zk_mk_1, zk_mk_I, zk_mk_R, zk_mk_set, zk_mk_setR, zk_mk_cpy, zk_rv_some, zk_rv_none, Option.toList_some, Option.toList_none, List.cons_append, List.nil_append, reduceIte, eq_self, Nat.reduceLT, Nat.reduceEqDiff, and_true, true_and, reduceCtorEq, zsh_0, zsh_60, h1000, z1, y1, p1, z2, y2, p2]
  refine zo_lay hJ _ ?_
  intro v I1 tg1 hA
  simp only [u217_431, u217_432, u217_433, u217_434, u217_435, u217_436, u217_437, u217_438, u217_439, u217_440, u217_441, u217_442, u217_445, u217_446, u217_447, u217_448, u217_449, u217_450, u217_451, u217_452, u217_453, u217_454, u217_455, u217_456, u217_459, u217_462, u217_463, zk_mk_1, zk_mk_I, zk_mk_R, zk_mk_set, zk_mk_setR, zk_mk_cpy, zk_rv_some, zk_rv_none, Option.toList_some, Option.toList_none, List.cons_append, List.nil_append, reduceIte, eq_self, Nat.reduceLT, Nat.reduceEqDiff, and_true, true_and, reduceCtorEq, zsh_0, zsh_60, h1000, z1, y1, p1, z2, y2, p2]
  refine hA _ ?_
  intro I2 tg2 hJ2
  simp only [u217_431, u217_432, u217_433, u217_434, u217_435, u217_436, u217_437, u217_438, u217_439, u217_440, u217_441, u217_442, u217_445, u217_446, u217_447, u217_448, u217_449, u217_450, u217_451, u217_452, u217_453, u217_454, u217_455, u217_456, u217_459, u217_462, u217_463, zk_mk_1, zk_mk_I, zk_mk_R, zk_mk_set, zk_mk_setR, zk_mk_cpy, zk_rv_some, zk_rv_none, Option.toList_some, Option.toList_none, List.cons_append, List.nil_append, reduceIte, eq_self, Nat.reduceLT, Nat.reduceEqDiff, and_true, true_and, reduceCtorEq]
  exact K I2 tg2 hJ2
set_option maxRecDepth 20000 in
theorem zw_told {L i : Nat} {xs : Nat → Int32} {I : Nat → Nat → Int32} {tg : Option Nat} {P : Option Value → zk_M → Prop} (hJ : zJJ I) (hi : i + 7 ≤ L) (hL : L ≤ 3584) (K : ∀ I2 tg2, zJJ I2 → zk_R (some (L, xs)) 900 217 1412 [some (.ref (1000 : Nat)), some (.ref (0 : Nat)), some (.ref (60 : Nat)), some (.int (nI i))] [] (zk_mk I2 tg2) P) : zk_R (some (L, xs)) 900 217 464 [some (.ref (1000 : Nat)), some (.ref (0 : Nat)), some (.ref (60 : Nat)), some (.int (nI i))] [] (zk_mk I tg) P := by
  have z1 : zk_inb (nI (i + 1)) L = true := by rw [zn_in (by omega)]; omega
  have y1 : (nI (i + 1)).toNatClampNeg = i + 1 := zn_cl (by omega)
  have p1 : (nI i + 1 : Int32) = nI (i + 1) := zn_add i 1
  have z2 : zk_inb (nI (i + 2)) L = true := by rw [zn_in (by omega)]; omega
  have y2 : (nI (i + 2)).toNatClampNeg = i + 2 := zn_cl (by omega)
  have p2 : (nI i + 2 : Int32) = nI (i + 2) := zn_add i 2
  have h1000 : (83 ≤ 1000) = True := by decide
  simp only [u217_464, u217_465, u217_466, u217_467, u217_468, u217_469, u217_470, u217_471, u217_472, u217_473, u217_474, u217_475, u217_478, u217_479, u217_480, u217_481, u217_482, u217_483, u217_484, u217_485, u217_486, u217_487, u217_488, u217_489, u217_492, u217_495, u217_496, zk_mk_1, zk_mk_I, zk_mk_R, zk_mk_set, zk_mk_setR, zk_mk_cpy, zk_rv_some, zk_rv_none, Option.toList_some, Option.toList_none, List.cons_append, List.nil_append, reduceIte, eq_self, Nat.reduceLT, Nat.reduceEqDiff, and_true, true_and, reduceCtorEq, zsh_0, zsh_60, h1000, z1, y1, p1, z2, y2, p2]
  refine zo_told hJ _ ?_
  intro v I1 tg1 hA
  simp only [u217_464, u217_465, u217_466, u217_467, u217_468, u217_469, u217_470, u217_471, u217_472, u217_473, u217_474, u217_475, u217_478, u217_479, u217_480, u217_481, u217_482, u217_483, u217_484, u217_485, u217_486, u217_487, u217_488, u217_489, u217_492, u217_495, u217_496, zk_mk_1, zk_mk_I, zk_mk_R, zk_mk_set, zk_mk_setR, zk_mk_cpy, zk_rv_some, zk_rv_none, Option.toList_some, Option.toList_none, List.cons_append, List.nil_append, reduceIte, eq_self, Nat.reduceLT, Nat.reduceEqDiff, and_true, true_and, reduceCtorEq, zsh_0, zsh_60, h1000, z1, y1, p1, z2, y2, p2]
  refine hA _ ?_
  intro I2 tg2 hJ2
  simp only [u217_464, u217_465, u217_466, u217_467, u217_468, u217_469, u217_470, u217_471, u217_472, u217_473, u217_474, u217_475, u217_478, u217_479, u217_480, u217_481, u217_482, u217_483, u217_484, u217_485, u217_486, u217_487, u217_488, u217_489, u217_492, u217_495, u217_496, zk_mk_1, zk_mk_I, zk_mk_R, zk_mk_set, zk_mk_setR, zk_mk_cpy, zk_rv_some, zk_rv_none, Option.toList_some, Option.toList_none, List.cons_append, List.nil_append, reduceIte, eq_self, Nat.reduceLT, Nat.reduceEqDiff, and_true, true_and, reduceCtorEq]
  exact K I2 tg2 hJ2
set_option maxRecDepth 20000 in
theorem zw_heap {L i : Nat} {xs : Nat → Int32} {I : Nat → Nat → Int32} {tg : Option Nat} {P : Option Value → zk_M → Prop} (hJ : zJJ I) (hi : i + 7 ≤ L) (hL : L ≤ 3584) (K : ∀ I2 tg2, zJJ I2 → zk_R (some (L, xs)) 900 217 1412 [some (.ref (1000 : Nat)), some (.ref (0 : Nat)), some (.ref (60 : Nat)), some (.int (nI i))] [] (zk_mk I2 tg2) P) : zk_R (some (L, xs)) 900 217 497 [some (.ref (1000 : Nat)), some (.ref (0 : Nat)), some (.ref (60 : Nat)), some (.int (nI i))] [] (zk_mk I tg) P := by
  have z1 : zk_inb (nI (i + 1)) L = true := by rw [zn_in (by omega)]; omega
  have y1 : (nI (i + 1)).toNatClampNeg = i + 1 := zn_cl (by omega)
  have p1 : (nI i + 1 : Int32) = nI (i + 1) := zn_add i 1
  have z2 : zk_inb (nI (i + 2)) L = true := by rw [zn_in (by omega)]; omega
  have y2 : (nI (i + 2)).toNatClampNeg = i + 2 := zn_cl (by omega)
  have p2 : (nI i + 2 : Int32) = nI (i + 2) := zn_add i 2
  have h1000 : (83 ≤ 1000) = True := by decide
  simp only [u217_497, u217_498, u217_499, u217_500, u217_501, u217_502, u217_503, u217_504, u217_505, u217_506, u217_507, u217_508, u217_511, u217_512, u217_513, u217_514, u217_515, u217_516, u217_517, u217_518, u217_519, u217_520, u217_521, u217_522, u217_525, u217_528, u217_529, zk_mk_1, zk_mk_I, zk_mk_R, zk_mk_set, zk_mk_setR, zk_mk_cpy, zk_rv_some, zk_rv_none, Option.toList_some, Option.toList_none, List.cons_append, List.nil_append, reduceIte, eq_self, Nat.reduceLT, Nat.reduceEqDiff, and_true, true_and, reduceCtorEq, zsh_0, zsh_60, h1000, z1, y1, p1, z2, y2, p2]
  refine zo_heap hJ _ ?_
  intro v I1 tg1 hA
  simp only [u217_497, u217_498, u217_499, u217_500, u217_501, u217_502, u217_503, u217_504, u217_505, u217_506, u217_507, u217_508, u217_511, u217_512, u217_513, u217_514, u217_515, u217_516, u217_517, u217_518, u217_519, u217_520, u217_521, u217_522, u217_525, u217_528, u217_529, zk_mk_1, zk_mk_I, zk_mk_R, zk_mk_set, zk_mk_setR, zk_mk_cpy, zk_rv_some, zk_rv_none, Option.toList_some, Option.toList_none, List.cons_append, List.nil_append, reduceIte, eq_self, Nat.reduceLT, Nat.reduceEqDiff, and_true, true_and, reduceCtorEq, zsh_0, zsh_60, h1000, z1, y1, p1, z2, y2, p2]
  refine hA _ ?_
  intro I2 tg2 hJ2
  simp only [u217_497, u217_498, u217_499, u217_500, u217_501, u217_502, u217_503, u217_504, u217_505, u217_506, u217_507, u217_508, u217_511, u217_512, u217_513, u217_514, u217_515, u217_516, u217_517, u217_518, u217_519, u217_520, u217_521, u217_522, u217_525, u217_528, u217_529, zk_mk_1, zk_mk_I, zk_mk_R, zk_mk_set, zk_mk_setR, zk_mk_cpy, zk_rv_some, zk_rv_none, Option.toList_some, Option.toList_none, List.cons_append, List.nil_append, reduceIte, eq_self, Nat.reduceLT, Nat.reduceEqDiff, and_true, true_and, reduceCtorEq]
  exact K I2 tg2 hJ2
set_option maxRecDepth 20000 in
theorem zw_apart {L i : Nat} {xs : Nat → Int32} {I : Nat → Nat → Int32} {tg : Option Nat} {P : Option Value → zk_M → Prop} (hJ : zJJ I) (hi : i + 7 ≤ L) (hL : L ≤ 3584) (K : ∀ I2 tg2, zJJ I2 → zk_R (some (L, xs)) 900 217 1412 [some (.ref (1000 : Nat)), some (.ref (0 : Nat)), some (.ref (60 : Nat)), some (.int (nI i))] [] (zk_mk I2 tg2) P) : zk_R (some (L, xs)) 900 217 530 [some (.ref (1000 : Nat)), some (.ref (0 : Nat)), some (.ref (60 : Nat)), some (.int (nI i))] [] (zk_mk I tg) P := by
  have h1000 : (83 ≤ 1000) = True := by decide
  simp only [u217_530, u217_531, u217_534, u217_535, u217_538, u217_541, u217_542, zk_mk_1, zk_mk_I, zk_mk_R, zk_mk_set, zk_mk_setR, zk_mk_cpy, zk_rv_some, zk_rv_none, Option.toList_some, Option.toList_none, List.cons_append, List.nil_append, reduceIte, eq_self, Nat.reduceLT, Nat.reduceEqDiff, and_true, true_and, reduceCtorEq, zsh_0, zsh_60, h1000]
  refine zo_apart hJ _ ?_
  intro v I1 tg1 hA
  simp only [u217_530, u217_531, u217_534, u217_535, u217_538, u217_541, u217_542, zk_mk_1, zk_mk_I, zk_mk_R, zk_mk_set, zk_mk_setR, zk_mk_cpy, zk_rv_some, zk_rv_none, Option.toList_some, Option.toList_none, List.cons_append, List.nil_append, reduceIte, eq_self, Nat.reduceLT, Nat.reduceEqDiff, and_true, true_and, reduceCtorEq, zsh_0, zsh_60, h1000]
  refine hA _ ?_
  intro I2 tg2 hJ2
  simp only [u217_530, u217_531, u217_534, u217_535, u217_538, u217_541, u217_542, zk_mk_1, zk_mk_I, zk_mk_R, zk_mk_set, zk_mk_setR, zk_mk_cpy, zk_rv_some, zk_rv_none, Option.toList_some, Option.toList_none, List.cons_append, List.nil_append, reduceIte, eq_self, Nat.reduceLT, Nat.reduceEqDiff, and_true, true_and, reduceCtorEq]
  exact K I2 tg2 hJ2
set_option maxRecDepth 20000 in
theorem zw_must {L i : Nat} {xs : Nat → Int32} {I : Nat → Nat → Int32} {tg : Option Nat} {P : Option Value → zk_M → Prop} (hJ : zJJ I) (hi : i + 7 ≤ L) (hL : L ≤ 3584) (K : ∀ I2 tg2, zJJ I2 → zk_R (some (L, xs)) 900 217 1412 [some (.ref (1000 : Nat)), some (.ref (0 : Nat)), some (.ref (60 : Nat)), some (.int (nI i))] [] (zk_mk I2 tg2) P) : zk_R (some (L, xs)) 900 217 543 [some (.ref (1000 : Nat)), some (.ref (0 : Nat)), some (.ref (60 : Nat)), some (.int (nI i))] [] (zk_mk I tg) P := by
  have h1000 : (83 ≤ 1000) = True := by decide
  simp only [u217_543, u217_544, u217_547, u217_548, u217_551, u217_554, u217_555, zk_mk_1, zk_mk_I, zk_mk_R, zk_mk_set, zk_mk_setR, zk_mk_cpy, zk_rv_some, zk_rv_none, Option.toList_some, Option.toList_none, List.cons_append, List.nil_append, reduceIte, eq_self, Nat.reduceLT, Nat.reduceEqDiff, and_true, true_and, reduceCtorEq, zsh_0, zsh_60, h1000]
  refine zo_must hJ _ ?_
  intro v I1 tg1 hA
  simp only [u217_543, u217_544, u217_547, u217_548, u217_551, u217_554, u217_555, zk_mk_1, zk_mk_I, zk_mk_R, zk_mk_set, zk_mk_setR, zk_mk_cpy, zk_rv_some, zk_rv_none, Option.toList_some, Option.toList_none, List.cons_append, List.nil_append, reduceIte, eq_self, Nat.reduceLT, Nat.reduceEqDiff, and_true, true_and, reduceCtorEq, zsh_0, zsh_60, h1000]
  refine hA _ ?_
  intro I2 tg2 hJ2
  simp only [u217_543, u217_544, u217_547, u217_548, u217_551, u217_554, u217_555, zk_mk_1, zk_mk_I, zk_mk_R, zk_mk_set, zk_mk_setR, zk_mk_cpy, zk_rv_some, zk_rv_none, Option.toList_some, Option.toList_none, List.cons_append, List.nil_append, reduceIte, eq_self, Nat.reduceLT, Nat.reduceEqDiff, and_true, true_and, reduceCtorEq]
  exact K I2 tg2 hJ2
set_option maxRecDepth 20000 in
theorem zw_alike {L i : Nat} {xs : Nat → Int32} {I : Nat → Nat → Int32} {tg : Option Nat} {P : Option Value → zk_M → Prop} (hJ : zJJ I) (hi : i + 7 ≤ L) (hL : L ≤ 3584) (K : ∀ I2 tg2, zJJ I2 → zk_R (some (L, xs)) 900 217 1412 [some (.ref (1000 : Nat)), some (.ref (0 : Nat)), some (.ref (60 : Nat)), some (.int (nI i))] [] (zk_mk I2 tg2) P) : zk_R (some (L, xs)) 900 217 556 [some (.ref (1000 : Nat)), some (.ref (0 : Nat)), some (.ref (60 : Nat)), some (.int (nI i))] [] (zk_mk I tg) P := by
  have z1 : zk_inb (nI (i + 1)) L = true := by rw [zn_in (by omega)]; omega
  have y1 : (nI (i + 1)).toNatClampNeg = i + 1 := zn_cl (by omega)
  have p1 : (nI i + 1 : Int32) = nI (i + 1) := zn_add i 1
  have z2 : zk_inb (nI (i + 2)) L = true := by rw [zn_in (by omega)]; omega
  have y2 : (nI (i + 2)).toNatClampNeg = i + 2 := zn_cl (by omega)
  have p2 : (nI i + 2 : Int32) = nI (i + 2) := zn_add i 2
  have h1000 : (83 ≤ 1000) = True := by decide
  simp only [u217_556, u217_557, u217_558, u217_559, u217_560, u217_561, u217_562, u217_563, u217_564, u217_565, u217_566, u217_567, u217_570, u217_571, u217_572, u217_573, u217_574, u217_575, u217_576, u217_577, u217_578, u217_579, u217_580, u217_581, u217_584, u217_587, u217_588, zk_mk_1, zk_mk_I, zk_mk_R, zk_mk_set, zk_mk_setR, zk_mk_cpy, zk_rv_some, zk_rv_none, Option.toList_some, Option.toList_none, List.cons_append, List.nil_append, reduceIte, eq_self, Nat.reduceLT, Nat.reduceEqDiff, and_true, true_and, reduceCtorEq, zsh_0, zsh_60, h1000, z1, y1, p1, z2, y2, p2]
  refine zo_alike hJ _ ?_
  intro v I1 tg1 hA
  simp only [u217_556, u217_557, u217_558, u217_559, u217_560, u217_561, u217_562, u217_563, u217_564, u217_565, u217_566, u217_567, u217_570, u217_571, u217_572, u217_573, u217_574, u217_575, u217_576, u217_577, u217_578, u217_579, u217_580, u217_581, u217_584, u217_587, u217_588, zk_mk_1, zk_mk_I, zk_mk_R, zk_mk_set, zk_mk_setR, zk_mk_cpy, zk_rv_some, zk_rv_none, Option.toList_some, Option.toList_none, List.cons_append, List.nil_append, reduceIte, eq_self, Nat.reduceLT, Nat.reduceEqDiff, and_true, true_and, reduceCtorEq, zsh_0, zsh_60, h1000, z1, y1, p1, z2, y2, p2]
  refine hA _ ?_
  intro I2 tg2 hJ2
  simp only [u217_556, u217_557, u217_558, u217_559, u217_560, u217_561, u217_562, u217_563, u217_564, u217_565, u217_566, u217_567, u217_570, u217_571, u217_572, u217_573, u217_574, u217_575, u217_576, u217_577, u217_578, u217_579, u217_580, u217_581, u217_584, u217_587, u217_588, zk_mk_1, zk_mk_I, zk_mk_R, zk_mk_set, zk_mk_setR, zk_mk_cpy, zk_rv_some, zk_rv_none, Option.toList_some, Option.toList_none, List.cons_append, List.nil_append, reduceIte, eq_self, Nat.reduceLT, Nat.reduceEqDiff, and_true, true_and, reduceCtorEq]
  exact K I2 tg2 hJ2
set_option maxRecDepth 20000 in
theorem zw_three {L i : Nat} {xs : Nat → Int32} {I : Nat → Nat → Int32} {tg : Option Nat} {P : Option Value → zk_M → Prop} (hJ : zJJ I) (hi : i + 7 ≤ L) (hL : L ≤ 3584) (K : ∀ I2 tg2, zJJ I2 → zk_R (some (L, xs)) 900 217 1412 [some (.ref (1000 : Nat)), some (.ref (0 : Nat)), some (.ref (60 : Nat)), some (.int (nI i))] [] (zk_mk I2 tg2) P) : zk_R (some (L, xs)) 900 217 589 [some (.ref (1000 : Nat)), some (.ref (0 : Nat)), some (.ref (60 : Nat)), some (.int (nI i))] [] (zk_mk I tg) P := by
  have z1 : zk_inb (nI (i + 1)) L = true := by rw [zn_in (by omega)]; omega
  have y1 : (nI (i + 1)).toNatClampNeg = i + 1 := zn_cl (by omega)
  have p1 : (nI i + 1 : Int32) = nI (i + 1) := zn_add i 1
  have h1000 : (83 ≤ 1000) = True := by decide
  simp only [u217_589, u217_590, u217_591, u217_592, u217_593, u217_594, u217_595, u217_598, u217_599, u217_600, u217_601, u217_602, u217_603, u217_604, u217_607, u217_610, u217_611, zk_mk_1, zk_mk_I, zk_mk_R, zk_mk_set, zk_mk_setR, zk_mk_cpy, zk_rv_some, zk_rv_none, Option.toList_some, Option.toList_none, List.cons_append, List.nil_append, reduceIte, eq_self, Nat.reduceLT, Nat.reduceEqDiff, and_true, true_and, reduceCtorEq, zsh_0, zsh_60, h1000, z1, y1, p1]
  refine zo_three hJ _ ?_
  intro v I1 tg1 hA
  simp only [u217_589, u217_590, u217_591, u217_592, u217_593, u217_594, u217_595, u217_598, u217_599, u217_600, u217_601, u217_602, u217_603, u217_604, u217_607, u217_610, u217_611, zk_mk_1, zk_mk_I, zk_mk_R, zk_mk_set, zk_mk_setR, zk_mk_cpy, zk_rv_some, zk_rv_none, Option.toList_some, Option.toList_none, List.cons_append, List.nil_append, reduceIte, eq_self, Nat.reduceLT, Nat.reduceEqDiff, and_true, true_and, reduceCtorEq, zsh_0, zsh_60, h1000, z1, y1, p1]
  refine hA _ ?_
  intro I2 tg2 hJ2
  simp only [u217_589, u217_590, u217_591, u217_592, u217_593, u217_594, u217_595, u217_598, u217_599, u217_600, u217_601, u217_602, u217_603, u217_604, u217_607, u217_610, u217_611, zk_mk_1, zk_mk_I, zk_mk_R, zk_mk_set, zk_mk_setR, zk_mk_cpy, zk_rv_some, zk_rv_none, Option.toList_some, Option.toList_none, List.cons_append, List.nil_append, reduceIte, eq_self, Nat.reduceLT, Nat.reduceEqDiff, and_true, true_and, reduceCtorEq]
  exact K I2 tg2 hJ2
set_option maxRecDepth 20000 in
theorem zw_fair {L i : Nat} {xs : Nat → Int32} {I : Nat → Nat → Int32} {tg : Option Nat} {P : Option Value → zk_M → Prop} (hJ : zJJ I) (hi : i + 7 ≤ L) (hL : L ≤ 3584) (K : ∀ I2 tg2, zJJ I2 → zk_R (some (L, xs)) 900 217 1412 [some (.ref (1000 : Nat)), some (.ref (0 : Nat)), some (.ref (60 : Nat)), some (.int (nI i))] [] (zk_mk I2 tg2) P) : zk_R (some (L, xs)) 900 217 612 [some (.ref (1000 : Nat)), some (.ref (0 : Nat)), some (.ref (60 : Nat)), some (.int (nI i))] [] (zk_mk I tg) P := by
  have z1 : zk_inb (nI (i + 1)) L = true := by rw [zn_in (by omega)]; omega
  have y1 : (nI (i + 1)).toNatClampNeg = i + 1 := zn_cl (by omega)
  have p1 : (nI i + 1 : Int32) = nI (i + 1) := zn_add i 1
  have z2 : zk_inb (nI (i + 2)) L = true := by rw [zn_in (by omega)]; omega
  have y2 : (nI (i + 2)).toNatClampNeg = i + 2 := zn_cl (by omega)
  have p2 : (nI i + 2 : Int32) = nI (i + 2) := zn_add i 2
  have h1000 : (83 ≤ 1000) = True := by decide
  simp only [u217_612, u217_613, u217_614, u217_615, u217_616, u217_617, u217_618, u217_619, u217_620, u217_621, u217_622, u217_623, u217_626, u217_627, u217_628, u217_629, u217_630, u217_631, u217_632, u217_633, u217_634, u217_635, u217_636, u217_637, u217_640, u217_643, u217_644, zk_mk_1, zk_mk_I, zk_mk_R, zk_mk_set, zk_mk_setR, zk_mk_cpy, zk_rv_some, zk_rv_none, Option.toList_some, Option.toList_none, List.cons_append, List.nil_append, reduceIte, eq_self, Nat.reduceLT, Nat.reduceEqDiff, and_true, true_and, reduceCtorEq, zsh_0, zsh_60, h1000, z1, y1, p1, z2, y2, p2]
  refine zo_fair hJ _ ?_
  intro v I1 tg1 hA
  simp only [u217_612, u217_613, u217_614, u217_615, u217_616, u217_617, u217_618, u217_619, u217_620, u217_621, u217_622, u217_623, u217_626, u217_627, u217_628, u217_629, u217_630, u217_631, u217_632, u217_633, u217_634, u217_635, u217_636, u217_637, u217_640, u217_643, u217_644, zk_mk_1, zk_mk_I, zk_mk_R, zk_mk_set, zk_mk_setR, zk_mk_cpy, zk_rv_some, zk_rv_none, Option.toList_some, Option.toList_none, List.cons_append, List.nil_append, reduceIte, eq_self, Nat.reduceLT, Nat.reduceEqDiff, and_true, true_and, reduceCtorEq, zsh_0, zsh_60, h1000, z1, y1, p1, z2, y2, p2]
  refine hA _ ?_
  intro I2 tg2 hJ2
  simp only [u217_612, u217_613, u217_614, u217_615, u217_616, u217_617, u217_618, u217_619, u217_620, u217_621, u217_622, u217_623, u217_626, u217_627, u217_628, u217_629, u217_630, u217_631, u217_632, u217_633, u217_634, u217_635, u217_636, u217_637, u217_640, u217_643, u217_644, zk_mk_1, zk_mk_I, zk_mk_R, zk_mk_set, zk_mk_setR, zk_mk_cpy, zk_rv_some, zk_rv_none, Option.toList_some, Option.toList_none, List.cons_append, List.nil_append, reduceIte, eq_self, Nat.reduceLT, Nat.reduceEqDiff, and_true, true_and, reduceCtorEq]
  exact K I2 tg2 hJ2
set_option maxRecDepth 20000 in
theorem zw_thirds {L i : Nat} {xs : Nat → Int32} {I : Nat → Nat → Int32} {tg : Option Nat} {P : Option Value → zk_M → Prop} (hJ : zJJ I) (hi : i + 7 ≤ L) (hL : L ≤ 3584) (K : ∀ I2 tg2, zJJ I2 → zk_R (some (L, xs)) 900 217 1412 [some (.ref (1000 : Nat)), some (.ref (0 : Nat)), some (.ref (60 : Nat)), some (.int (nI i))] [] (zk_mk I2 tg2) P) : zk_R (some (L, xs)) 900 217 645 [some (.ref (1000 : Nat)), some (.ref (0 : Nat)), some (.ref (60 : Nat)), some (.int (nI i))] [] (zk_mk I tg) P := by
  have z1 : zk_inb (nI (i + 1)) L = true := by rw [zn_in (by omega)]; omega
  have y1 : (nI (i + 1)).toNatClampNeg = i + 1 := zn_cl (by omega)
  have p1 : (nI i + 1 : Int32) = nI (i + 1) := zn_add i 1
  have h1000 : (83 ≤ 1000) = True := by decide
  simp only [u217_645, u217_646, u217_647, u217_648, u217_649, u217_650, u217_651, u217_654, u217_655, u217_656, u217_657, u217_658, u217_659, u217_660, u217_663, u217_666, u217_667, zk_mk_1, zk_mk_I, zk_mk_R, zk_mk_set, zk_mk_setR, zk_mk_cpy, zk_rv_some, zk_rv_none, Option.toList_some, Option.toList_none, List.cons_append, List.nil_append, reduceIte, eq_self, Nat.reduceLT, Nat.reduceEqDiff, and_true, true_and, reduceCtorEq, zsh_0, zsh_60, h1000, z1, y1, p1]
  refine zo_thirds hJ _ ?_
  intro v I1 tg1 hA
  simp only [u217_645, u217_646, u217_647, u217_648, u217_649, u217_650, u217_651, u217_654, u217_655, u217_656, u217_657, u217_658, u217_659, u217_660, u217_663, u217_666, u217_667, zk_mk_1, zk_mk_I, zk_mk_R, zk_mk_set, zk_mk_setR, zk_mk_cpy, zk_rv_some, zk_rv_none, Option.toList_some, Option.toList_none, List.cons_append, List.nil_append, reduceIte, eq_self, Nat.reduceLT, Nat.reduceEqDiff, and_true, true_and, reduceCtorEq, zsh_0, zsh_60, h1000, z1, y1, p1]
  refine hA _ ?_
  intro I2 tg2 hJ2
  simp only [u217_645, u217_646, u217_647, u217_648, u217_649, u217_650, u217_651, u217_654, u217_655, u217_656, u217_657, u217_658, u217_659, u217_660, u217_663, u217_666, u217_667, zk_mk_1, zk_mk_I, zk_mk_R, zk_mk_set, zk_mk_setR, zk_mk_cpy, zk_rv_some, zk_rv_none, Option.toList_some, Option.toList_none, List.cons_append, List.nil_append, reduceIte, eq_self, Nat.reduceLT, Nat.reduceEqDiff, and_true, true_and, reduceCtorEq]
  exact K I2 tg2 hJ2
set_option maxRecDepth 20000 in
theorem zw_swap {L i : Nat} {xs : Nat → Int32} {I : Nat → Nat → Int32} {tg : Option Nat} {P : Option Value → zk_M → Prop} (hJ : zJJ I) (hi : i + 7 ≤ L) (hL : L ≤ 3584) (K : ∀ I2 tg2, zJJ I2 → zk_R (some (L, xs)) 900 217 1412 [some (.ref (1000 : Nat)), some (.ref (0 : Nat)), some (.ref (60 : Nat)), some (.int (nI i))] [] (zk_mk I2 tg2) P) : zk_R (some (L, xs)) 900 217 668 [some (.ref (1000 : Nat)), some (.ref (0 : Nat)), some (.ref (60 : Nat)), some (.int (nI i))] [] (zk_mk I tg) P := by
  have z1 : zk_inb (nI (i + 1)) L = true := by rw [zn_in (by omega)]; omega
  have y1 : (nI (i + 1)).toNatClampNeg = i + 1 := zn_cl (by omega)
  have p1 : (nI i + 1 : Int32) = nI (i + 1) := zn_add i 1
  have h1000 : (83 ≤ 1000) = True := by decide
  simp only [u217_668, u217_669, u217_670, u217_671, u217_672, u217_673, u217_674, u217_677, u217_678, u217_679, u217_680, u217_681, u217_682, u217_683, u217_686, u217_689, u217_690, zk_mk_1, zk_mk_I, zk_mk_R, zk_mk_set, zk_mk_setR, zk_mk_cpy, zk_rv_some, zk_rv_none, Option.toList_some, Option.toList_none, List.cons_append, List.nil_append, reduceIte, eq_self, Nat.reduceLT, Nat.reduceEqDiff, and_true, true_and, reduceCtorEq, zsh_0, zsh_60, h1000, z1, y1, p1]
  refine zo_swap hJ _ ?_
  intro v I1 tg1 hA
  simp only [u217_668, u217_669, u217_670, u217_671, u217_672, u217_673, u217_674, u217_677, u217_678, u217_679, u217_680, u217_681, u217_682, u217_683, u217_686, u217_689, u217_690, zk_mk_1, zk_mk_I, zk_mk_R, zk_mk_set, zk_mk_setR, zk_mk_cpy, zk_rv_some, zk_rv_none, Option.toList_some, Option.toList_none, List.cons_append, List.nil_append, reduceIte, eq_self, Nat.reduceLT, Nat.reduceEqDiff, and_true, true_and, reduceCtorEq, zsh_0, zsh_60, h1000, z1, y1, p1]
  refine hA _ ?_
  intro I2 tg2 hJ2
  simp only [u217_668, u217_669, u217_670, u217_671, u217_672, u217_673, u217_674, u217_677, u217_678, u217_679, u217_680, u217_681, u217_682, u217_683, u217_686, u217_689, u217_690, zk_mk_1, zk_mk_I, zk_mk_R, zk_mk_set, zk_mk_setR, zk_mk_cpy, zk_rv_some, zk_rv_none, Option.toList_some, Option.toList_none, List.cons_append, List.nil_append, reduceIte, eq_self, Nat.reduceLT, Nat.reduceEqDiff, and_true, true_and, reduceCtorEq]
  exact K I2 tg2 hJ2
set_option maxRecDepth 20000 in
theorem zw_mend {L i : Nat} {xs : Nat → Int32} {I : Nat → Nat → Int32} {tg : Option Nat} {P : Option Value → zk_M → Prop} (hJ : zJJ I) (hi : i + 7 ≤ L) (hL : L ≤ 3584) (K : ∀ I2 tg2, zJJ I2 → zk_R (some (L, xs)) 900 217 1412 [some (.ref (1000 : Nat)), some (.ref (0 : Nat)), some (.ref (60 : Nat)), some (.int (nI i))] [] (zk_mk I2 tg2) P) : zk_R (some (L, xs)) 900 217 691 [some (.ref (1000 : Nat)), some (.ref (0 : Nat)), some (.ref (60 : Nat)), some (.int (nI i))] [] (zk_mk I tg) P := by
  have z1 : zk_inb (nI (i + 1)) L = true := by rw [zn_in (by omega)]; omega
  have y1 : (nI (i + 1)).toNatClampNeg = i + 1 := zn_cl (by omega)
  have p1 : (nI i + 1 : Int32) = nI (i + 1) := zn_add i 1
  have z2 : zk_inb (nI (i + 2)) L = true := by rw [zn_in (by omega)]; omega
  have y2 : (nI (i + 2)).toNatClampNeg = i + 2 := zn_cl (by omega)
  have p2 : (nI i + 2 : Int32) = nI (i + 2) := zn_add i 2
  have h1000 : (83 ≤ 1000) = True := by decide
  simp only [u217_691, u217_692, u217_693, u217_694, u217_695, u217_696, u217_697, u217_698, u217_699, u217_700, u217_701, u217_702, u217_705, u217_706, u217_707, u217_708, u217_709, u217_710, u217_711, u217_712, u217_713, u217_714, u217_715, u217_716, u217_719, u217_722, u217_723, zk_mk_1, zk_mk_I, zk_mk_R, zk_mk_set, zk_mk_setR, zk_mk_cpy, zk_rv_some, zk_rv_none, Option.toList_some, Option.toList_none, List.cons_append, List.nil_append, reduceIte, eq_self, Nat.reduceLT, Nat.reduceEqDiff, and_true, true_and, reduceCtorEq, zsh_0, zsh_60, h1000, z1, y1, p1, z2, y2, p2]
  refine zo_mend hJ _ ?_
  intro v I1 tg1 hA
  simp only [u217_691, u217_692, u217_693, u217_694, u217_695, u217_696, u217_697, u217_698, u217_699, u217_700, u217_701, u217_702, u217_705, u217_706, u217_707, u217_708, u217_709, u217_710, u217_711, u217_712, u217_713, u217_714, u217_715, u217_716, u217_719, u217_722, u217_723, zk_mk_1, zk_mk_I, zk_mk_R, zk_mk_set, zk_mk_setR, zk_mk_cpy, zk_rv_some, zk_rv_none, Option.toList_some, Option.toList_none, List.cons_append, List.nil_append, reduceIte, eq_self, Nat.reduceLT, Nat.reduceEqDiff, and_true, true_and, reduceCtorEq, zsh_0, zsh_60, h1000, z1, y1, p1, z2, y2, p2]
  refine hA _ ?_
  intro I2 tg2 hJ2
  simp only [u217_691, u217_692, u217_693, u217_694, u217_695, u217_696, u217_697, u217_698, u217_699, u217_700, u217_701, u217_702, u217_705, u217_706, u217_707, u217_708, u217_709, u217_710, u217_711, u217_712, u217_713, u217_714, u217_715, u217_716, u217_719, u217_722, u217_723, zk_mk_1, zk_mk_I, zk_mk_R, zk_mk_set, zk_mk_setR, zk_mk_cpy, zk_rv_some, zk_rv_none, Option.toList_some, Option.toList_none, List.cons_append, List.nil_append, reduceIte, eq_self, Nat.reduceLT, Nat.reduceEqDiff, and_true, true_and, reduceCtorEq]
  exact K I2 tg2 hJ2
set_option maxRecDepth 20000 in
theorem zw_unlike {L i : Nat} {xs : Nat → Int32} {I : Nat → Nat → Int32} {tg : Option Nat} {P : Option Value → zk_M → Prop} (hJ : zJJ I) (hi : i + 7 ≤ L) (hL : L ≤ 3584) (K : ∀ I2 tg2, zJJ I2 → zk_R (some (L, xs)) 900 217 1412 [some (.ref (1000 : Nat)), some (.ref (0 : Nat)), some (.ref (60 : Nat)), some (.int (nI i))] [] (zk_mk I2 tg2) P) : zk_R (some (L, xs)) 900 217 724 [some (.ref (1000 : Nat)), some (.ref (0 : Nat)), some (.ref (60 : Nat)), some (.int (nI i))] [] (zk_mk I tg) P := by
  have z1 : zk_inb (nI (i + 1)) L = true := by rw [zn_in (by omega)]; omega
  have y1 : (nI (i + 1)).toNatClampNeg = i + 1 := zn_cl (by omega)
  have p1 : (nI i + 1 : Int32) = nI (i + 1) := zn_add i 1
  have h1000 : (83 ≤ 1000) = True := by decide
  simp only [u217_724, u217_725, u217_726, u217_727, u217_728, u217_729, u217_730, u217_733, u217_734, u217_735, u217_736, u217_737, u217_738, u217_739, u217_742, u217_745, u217_746, zk_mk_1, zk_mk_I, zk_mk_R, zk_mk_set, zk_mk_setR, zk_mk_cpy, zk_rv_some, zk_rv_none, Option.toList_some, Option.toList_none, List.cons_append, List.nil_append, reduceIte, eq_self, Nat.reduceLT, Nat.reduceEqDiff, and_true, true_and, reduceCtorEq, zsh_0, zsh_60, h1000, z1, y1, p1]
  refine zo_unlike hJ _ ?_
  intro v I1 tg1 hA
  simp only [u217_724, u217_725, u217_726, u217_727, u217_728, u217_729, u217_730, u217_733, u217_734, u217_735, u217_736, u217_737, u217_738, u217_739, u217_742, u217_745, u217_746, zk_mk_1, zk_mk_I, zk_mk_R, zk_mk_set, zk_mk_setR, zk_mk_cpy, zk_rv_some, zk_rv_none, Option.toList_some, Option.toList_none, List.cons_append, List.nil_append, reduceIte, eq_self, Nat.reduceLT, Nat.reduceEqDiff, and_true, true_and, reduceCtorEq, zsh_0, zsh_60, h1000, z1, y1, p1]
  refine hA _ ?_
  intro I2 tg2 hJ2
  simp only [u217_724, u217_725, u217_726, u217_727, u217_728, u217_729, u217_730, u217_733, u217_734, u217_735, u217_736, u217_737, u217_738, u217_739, u217_742, u217_745, u217_746, zk_mk_1, zk_mk_I, zk_mk_R, zk_mk_set, zk_mk_setR, zk_mk_cpy, zk_rv_some, zk_rv_none, Option.toList_some, Option.toList_none, List.cons_append, List.nil_append, reduceIte, eq_self, Nat.reduceLT, Nat.reduceEqDiff, and_true, true_and, reduceCtorEq]
  exact K I2 tg2 hJ2
set_option maxRecDepth 20000 in
theorem zw_next {L i : Nat} {xs : Nat → Int32} {I : Nat → Nat → Int32} {tg : Option Nat} {P : Option Value → zk_M → Prop} (hJ : zJJ I) (hi : i + 7 ≤ L) (hL : L ≤ 3584) (K : ∀ I2 tg2, zJJ I2 → zk_R (some (L, xs)) 900 217 1412 [some (.ref (1000 : Nat)), some (.ref (0 : Nat)), some (.ref (60 : Nat)), some (.int (nI i))] [] (zk_mk I2 tg2) P) : zk_R (some (L, xs)) 900 217 747 [some (.ref (1000 : Nat)), some (.ref (0 : Nat)), some (.ref (60 : Nat)), some (.int (nI i))] [] (zk_mk I tg) P := by
  have h1000 : (83 ≤ 1000) = True := by decide
  simp only [u217_747, u217_748, u217_751, u217_752, u217_755, u217_758, u217_759, zk_mk_1, zk_mk_I, zk_mk_R, zk_mk_set, zk_mk_setR, zk_mk_cpy, zk_rv_some, zk_rv_none, Option.toList_some, Option.toList_none, List.cons_append, List.nil_append, reduceIte, eq_self, Nat.reduceLT, Nat.reduceEqDiff, and_true, true_and, reduceCtorEq, zsh_0, zsh_60, h1000]
  refine zo_next hJ _ ?_
  intro v I1 tg1 hA
  simp only [u217_747, u217_748, u217_751, u217_752, u217_755, u217_758, u217_759, zk_mk_1, zk_mk_I, zk_mk_R, zk_mk_set, zk_mk_setR, zk_mk_cpy, zk_rv_some, zk_rv_none, Option.toList_some, Option.toList_none, List.cons_append, List.nil_append, reduceIte, eq_self, Nat.reduceLT, Nat.reduceEqDiff, and_true, true_and, reduceCtorEq, zsh_0, zsh_60, h1000]
  refine hA _ ?_
  intro I2 tg2 hJ2
  simp only [u217_747, u217_748, u217_751, u217_752, u217_755, u217_758, u217_759, zk_mk_1, zk_mk_I, zk_mk_R, zk_mk_set, zk_mk_setR, zk_mk_cpy, zk_rv_some, zk_rv_none, Option.toList_some, Option.toList_none, List.cons_append, List.nil_append, reduceIte, eq_self, Nat.reduceLT, Nat.reduceEqDiff, and_true, true_and, reduceCtorEq]
  exact K I2 tg2 hJ2
set_option maxRecDepth 20000 in
theorem zw_spread {L i : Nat} {xs : Nat → Int32} {I : Nat → Nat → Int32} {tg : Option Nat} {P : Option Value → zk_M → Prop} (hJ : zJJ I) (hi : i + 7 ≤ L) (hL : L ≤ 3584) (K : ∀ I2 tg2, zJJ I2 → zk_R (some (L, xs)) 900 217 1412 [some (.ref (1000 : Nat)), some (.ref (0 : Nat)), some (.ref (60 : Nat)), some (.int (nI i))] [] (zk_mk I2 tg2) P) : zk_R (some (L, xs)) 900 217 760 [some (.ref (1000 : Nat)), some (.ref (0 : Nat)), some (.ref (60 : Nat)), some (.int (nI i))] [] (zk_mk I tg) P := by
  have h1000 : (83 ≤ 1000) = True := by decide
  simp only [u217_760, u217_761, u217_764, u217_765, u217_768, u217_771, u217_772, zk_mk_1, zk_mk_I, zk_mk_R, zk_mk_set, zk_mk_setR, zk_mk_cpy, zk_rv_some, zk_rv_none, Option.toList_some, Option.toList_none, List.cons_append, List.nil_append, reduceIte, eq_self, Nat.reduceLT, Nat.reduceEqDiff, and_true, true_and, reduceCtorEq, zsh_0, zsh_60, h1000]
  refine zo_spread hJ _ ?_
  intro v I1 tg1 hA
  simp only [u217_760, u217_761, u217_764, u217_765, u217_768, u217_771, u217_772, zk_mk_1, zk_mk_I, zk_mk_R, zk_mk_set, zk_mk_setR, zk_mk_cpy, zk_rv_some, zk_rv_none, Option.toList_some, Option.toList_none, List.cons_append, List.nil_append, reduceIte, eq_self, Nat.reduceLT, Nat.reduceEqDiff, and_true, true_and, reduceCtorEq, zsh_0, zsh_60, h1000]
  refine hA _ ?_
  intro I2 tg2 hJ2
  simp only [u217_760, u217_761, u217_764, u217_765, u217_768, u217_771, u217_772, zk_mk_1, zk_mk_I, zk_mk_R, zk_mk_set, zk_mk_setR, zk_mk_cpy, zk_rv_some, zk_rv_none, Option.toList_some, Option.toList_none, List.cons_append, List.nil_append, reduceIte, eq_self, Nat.reduceLT, Nat.reduceEqDiff, and_true, true_and, reduceCtorEq]
  exact K I2 tg2 hJ2
set_option maxRecDepth 20000 in
theorem zw_key {L i : Nat} {xs : Nat → Int32} {I : Nat → Nat → Int32} {tg : Option Nat} {P : Option Value → zk_M → Prop} (hJ : zJJ I) (hi : i + 7 ≤ L) (hL : L ≤ 3584) (K : ∀ I2 tg2, zJJ I2 → zk_R (some (L, xs)) 900 217 1412 [some (.ref (1000 : Nat)), some (.ref (0 : Nat)), some (.ref (60 : Nat)), some (.int (nI i))] [] (zk_mk I2 tg2) P) : zk_R (some (L, xs)) 900 217 773 [some (.ref (1000 : Nat)), some (.ref (0 : Nat)), some (.ref (60 : Nat)), some (.int (nI i))] [] (zk_mk I tg) P := by
  have z1 : zk_inb (nI (i + 1)) L = true := by rw [zn_in (by omega)]; omega
  have y1 : (nI (i + 1)).toNatClampNeg = i + 1 := zn_cl (by omega)
  have p1 : (nI i + 1 : Int32) = nI (i + 1) := zn_add i 1
  have z2 : zk_inb (nI (i + 2)) L = true := by rw [zn_in (by omega)]; omega
  have y2 : (nI (i + 2)).toNatClampNeg = i + 2 := zn_cl (by omega)
  have p2 : (nI i + 2 : Int32) = nI (i + 2) := zn_add i 2
  have h1000 : (83 ≤ 1000) = True := by decide
  simp only [u217_773, u217_774, u217_775, u217_776, u217_777, u217_778, u217_779, u217_780, u217_781, u217_782, u217_783, u217_784, u217_787, u217_788, u217_789, u217_790, u217_791, u217_792, u217_793, u217_794, u217_795, u217_796, u217_797, u217_798, u217_801, u217_804, u217_805, zk_mk_1, zk_mk_I, zk_mk_R, zk_mk_set, zk_mk_setR, zk_mk_cpy, zk_rv_some, zk_rv_none, Option.toList_some, Option.toList_none, List.cons_append, List.nil_append, reduceIte, eq_self, Nat.reduceLT, Nat.reduceEqDiff, and_true, true_and, reduceCtorEq, zsh_0, zsh_60, h1000, z1, y1, p1, z2, y2, p2]
  refine zo_key hJ _ ?_
  intro v I1 tg1 hA
  simp only [u217_773, u217_774, u217_775, u217_776, u217_777, u217_778, u217_779, u217_780, u217_781, u217_782, u217_783, u217_784, u217_787, u217_788, u217_789, u217_790, u217_791, u217_792, u217_793, u217_794, u217_795, u217_796, u217_797, u217_798, u217_801, u217_804, u217_805, zk_mk_1, zk_mk_I, zk_mk_R, zk_mk_set, zk_mk_setR, zk_mk_cpy, zk_rv_some, zk_rv_none, Option.toList_some, Option.toList_none, List.cons_append, List.nil_append, reduceIte, eq_self, Nat.reduceLT, Nat.reduceEqDiff, and_true, true_and, reduceCtorEq, zsh_0, zsh_60, h1000, z1, y1, p1, z2, y2, p2]
  refine hA _ ?_
  intro I2 tg2 hJ2
  simp only [u217_773, u217_774, u217_775, u217_776, u217_777, u217_778, u217_779, u217_780, u217_781, u217_782, u217_783, u217_784, u217_787, u217_788, u217_789, u217_790, u217_791, u217_792, u217_793, u217_794, u217_795, u217_796, u217_797, u217_798, u217_801, u217_804, u217_805, zk_mk_1, zk_mk_I, zk_mk_R, zk_mk_set, zk_mk_setR, zk_mk_cpy, zk_rv_some, zk_rv_none, Option.toList_some, Option.toList_none, List.cons_append, List.nil_append, reduceIte, eq_self, Nat.reduceLT, Nat.reduceEqDiff, and_true, true_and, reduceCtorEq]
  exact K I2 tg2 hJ2
set_option maxRecDepth 20000 in
theorem zw_pigeon {L i : Nat} {xs : Nat → Int32} {I : Nat → Nat → Int32} {tg : Option Nat} {P : Option Value → zk_M → Prop} (hJ : zJJ I) (hi : i + 7 ≤ L) (hL : L ≤ 3584) (K : ∀ I2 tg2, zJJ I2 → zk_R (some (L, xs)) 900 217 1412 [some (.ref (1000 : Nat)), some (.ref (0 : Nat)), some (.ref (60 : Nat)), some (.int (nI i))] [] (zk_mk I2 tg2) P) : zk_R (some (L, xs)) 900 217 806 [some (.ref (1000 : Nat)), some (.ref (0 : Nat)), some (.ref (60 : Nat)), some (.int (nI i))] [] (zk_mk I tg) P := by
  have z1 : zk_inb (nI (i + 1)) L = true := by rw [zn_in (by omega)]; omega
  have y1 : (nI (i + 1)).toNatClampNeg = i + 1 := zn_cl (by omega)
  have p1 : (nI i + 1 : Int32) = nI (i + 1) := zn_add i 1
  have h1000 : (83 ≤ 1000) = True := by decide
  simp only [u217_806, u217_807, u217_808, u217_809, u217_810, u217_811, u217_812, u217_815, u217_816, u217_817, u217_818, u217_819, u217_820, u217_821, u217_824, u217_827, u217_828, zk_mk_1, zk_mk_I, zk_mk_R, zk_mk_set, zk_mk_setR, zk_mk_cpy, zk_rv_some, zk_rv_none, Option.toList_some, Option.toList_none, List.cons_append, List.nil_append, reduceIte, eq_self, Nat.reduceLT, Nat.reduceEqDiff, and_true, true_and, reduceCtorEq, zsh_0, zsh_60, h1000, z1, y1, p1]
  refine zo_pigeon hJ _ ?_
  intro v I1 tg1 hA
  simp only [u217_806, u217_807, u217_808, u217_809, u217_810, u217_811, u217_812, u217_815, u217_816, u217_817, u217_818, u217_819, u217_820, u217_821, u217_824, u217_827, u217_828, zk_mk_1, zk_mk_I, zk_mk_R, zk_mk_set, zk_mk_setR, zk_mk_cpy, zk_rv_some, zk_rv_none, Option.toList_some, Option.toList_none, List.cons_append, List.nil_append, reduceIte, eq_self, Nat.reduceLT, Nat.reduceEqDiff, and_true, true_and, reduceCtorEq, zsh_0, zsh_60, h1000, z1, y1, p1]
  refine hA _ ?_
  intro I2 tg2 hJ2
  simp only [u217_806, u217_807, u217_808, u217_809, u217_810, u217_811, u217_812, u217_815, u217_816, u217_817, u217_818, u217_819, u217_820, u217_821, u217_824, u217_827, u217_828, zk_mk_1, zk_mk_I, zk_mk_R, zk_mk_set, zk_mk_setR, zk_mk_cpy, zk_rv_some, zk_rv_none, Option.toList_some, Option.toList_none, List.cons_append, List.nil_append, reduceIte, eq_self, Nat.reduceLT, Nat.reduceEqDiff, and_true, true_and, reduceCtorEq]
  exact K I2 tg2 hJ2
set_option maxRecDepth 20000 in
theorem zw_question {L i : Nat} {xs : Nat → Int32} {I : Nat → Nat → Int32} {tg : Option Nat} {P : Option Value → zk_M → Prop} (hJ : zJJ I) (hi : i + 7 ≤ L) (hL : L ≤ 3584) (K : ∀ I2 tg2, zJJ I2 → zk_R (some (L, xs)) 900 217 1412 [some (.ref (1000 : Nat)), some (.ref (0 : Nat)), some (.ref (60 : Nat)), some (.int (nI i))] [] (zk_mk I2 tg2) P) : zk_R (some (L, xs)) 900 217 829 [some (.ref (1000 : Nat)), some (.ref (0 : Nat)), some (.ref (60 : Nat)), some (.int (nI i))] [] (zk_mk I tg) P := by
  have z1 : zk_inb (nI (i + 1)) L = true := by rw [zn_in (by omega)]; omega
  have y1 : (nI (i + 1)).toNatClampNeg = i + 1 := zn_cl (by omega)
  have p1 : (nI i + 1 : Int32) = nI (i + 1) := zn_add i 1
  have z2 : zk_inb (nI (i + 2)) L = true := by rw [zn_in (by omega)]; omega
  have y2 : (nI (i + 2)).toNatClampNeg = i + 2 := zn_cl (by omega)
  have p2 : (nI i + 2 : Int32) = nI (i + 2) := zn_add i 2
  have h1000 : (83 ≤ 1000) = True := by decide
  simp only [u217_829, u217_830, u217_831, u217_832, u217_833, u217_834, u217_835, u217_836, u217_837, u217_838, u217_839, u217_840, u217_843, u217_844, u217_845, u217_846, u217_847, u217_848, u217_849, u217_850, u217_851, u217_852, u217_853, u217_854, u217_857, u217_860, u217_861, zk_mk_1, zk_mk_I, zk_mk_R, zk_mk_set, zk_mk_setR, zk_mk_cpy, zk_rv_some, zk_rv_none, Option.toList_some, Option.toList_none, List.cons_append, List.nil_append, reduceIte, eq_self, Nat.reduceLT, Nat.reduceEqDiff, and_true, true_and, reduceCtorEq, zsh_0, zsh_60, h1000, z1, y1, p1, z2, y2, p2]
  refine zo_question hJ _ ?_
  intro v I1 tg1 hA
  simp only [u217_829, u217_830, u217_831, u217_832, u217_833, u217_834, u217_835, u217_836, u217_837, u217_838, u217_839, u217_840, u217_843, u217_844, u217_845, u217_846, u217_847, u217_848, u217_849, u217_850, u217_851, u217_852, u217_853, u217_854, u217_857, u217_860, u217_861, zk_mk_1, zk_mk_I, zk_mk_R, zk_mk_set, zk_mk_setR, zk_mk_cpy, zk_rv_some, zk_rv_none, Option.toList_some, Option.toList_none, List.cons_append, List.nil_append, reduceIte, eq_self, Nat.reduceLT, Nat.reduceEqDiff, and_true, true_and, reduceCtorEq, zsh_0, zsh_60, h1000, z1, y1, p1, z2, y2, p2]
  refine hA _ ?_
  intro I2 tg2 hJ2
  simp only [u217_829, u217_830, u217_831, u217_832, u217_833, u217_834, u217_835, u217_836, u217_837, u217_838, u217_839, u217_840, u217_843, u217_844, u217_845, u217_846, u217_847, u217_848, u217_849, u217_850, u217_851, u217_852, u217_853, u217_854, u217_857, u217_860, u217_861, zk_mk_1, zk_mk_I, zk_mk_R, zk_mk_set, zk_mk_setR, zk_mk_cpy, zk_rv_some, zk_rv_none, Option.toList_some, Option.toList_none, List.cons_append, List.nil_append, reduceIte, eq_self, Nat.reduceLT, Nat.reduceEqDiff, and_true, true_and, reduceCtorEq]
  exact K I2 tg2 hJ2
set_option maxRecDepth 20000 in
theorem zw_judge {L i : Nat} {xs : Nat → Int32} {I : Nat → Nat → Int32} {tg : Option Nat} {P : Option Value → zk_M → Prop} (hJ : zJJ I) (hi : i + 7 ≤ L) (hL : L ≤ 3584) (K : ∀ I2 tg2, zJJ I2 → zk_R (some (L, xs)) 900 217 1412 [some (.ref (1000 : Nat)), some (.ref (0 : Nat)), some (.ref (60 : Nat)), some (.int (nI i))] [] (zk_mk I2 tg2) P) : zk_R (some (L, xs)) 900 217 862 [some (.ref (1000 : Nat)), some (.ref (0 : Nat)), some (.ref (60 : Nat)), some (.int (nI i))] [] (zk_mk I tg) P := by
  have z1 : zk_inb (nI (i + 1)) L = true := by rw [zn_in (by omega)]; omega
  have y1 : (nI (i + 1)).toNatClampNeg = i + 1 := zn_cl (by omega)
  have p1 : (nI i + 1 : Int32) = nI (i + 1) := zn_add i 1
  have h1000 : (83 ≤ 1000) = True := by decide
  simp only [u217_862, u217_863, u217_864, u217_865, u217_866, u217_867, u217_868, u217_871, u217_872, u217_873, u217_874, u217_875, u217_876, u217_877, u217_880, u217_883, u217_884, zk_mk_1, zk_mk_I, zk_mk_R, zk_mk_set, zk_mk_setR, zk_mk_cpy, zk_rv_some, zk_rv_none, Option.toList_some, Option.toList_none, List.cons_append, List.nil_append, reduceIte, eq_self, Nat.reduceLT, Nat.reduceEqDiff, and_true, true_and, reduceCtorEq, zsh_0, zsh_60, h1000, z1, y1, p1]
  refine zo_judge hJ _ ?_
  intro v I1 tg1 hA
  simp only [u217_862, u217_863, u217_864, u217_865, u217_866, u217_867, u217_868, u217_871, u217_872, u217_873, u217_874, u217_875, u217_876, u217_877, u217_880, u217_883, u217_884, zk_mk_1, zk_mk_I, zk_mk_R, zk_mk_set, zk_mk_setR, zk_mk_cpy, zk_rv_some, zk_rv_none, Option.toList_some, Option.toList_none, List.cons_append, List.nil_append, reduceIte, eq_self, Nat.reduceLT, Nat.reduceEqDiff, and_true, true_and, reduceCtorEq, zsh_0, zsh_60, h1000, z1, y1, p1]
  refine hA _ ?_
  intro I2 tg2 hJ2
  simp only [u217_862, u217_863, u217_864, u217_865, u217_866, u217_867, u217_868, u217_871, u217_872, u217_873, u217_874, u217_875, u217_876, u217_877, u217_880, u217_883, u217_884, zk_mk_1, zk_mk_I, zk_mk_R, zk_mk_set, zk_mk_setR, zk_mk_cpy, zk_rv_some, zk_rv_none, Option.toList_some, Option.toList_none, List.cons_append, List.nil_append, reduceIte, eq_self, Nat.reduceLT, Nat.reduceEqDiff, and_true, true_and, reduceCtorEq]
  exact K I2 tg2 hJ2
set_option maxRecDepth 20000 in
theorem zw_blame {L i : Nat} {xs : Nat → Int32} {I : Nat → Nat → Int32} {tg : Option Nat} {P : Option Value → zk_M → Prop} (hJ : zJJ I) (hi : i + 7 ≤ L) (hL : L ≤ 3584) (K : ∀ I2 tg2, zJJ I2 → zk_R (some (L, xs)) 900 217 1412 [some (.ref (1000 : Nat)), some (.ref (0 : Nat)), some (.ref (60 : Nat)), some (.int (nI i))] [] (zk_mk I2 tg2) P) : zk_R (some (L, xs)) 900 217 885 [some (.ref (1000 : Nat)), some (.ref (0 : Nat)), some (.ref (60 : Nat)), some (.int (nI i))] [] (zk_mk I tg) P := by
  have z1 : zk_inb (nI (i + 1)) L = true := by rw [zn_in (by omega)]; omega
  have y1 : (nI (i + 1)).toNatClampNeg = i + 1 := zn_cl (by omega)
  have p1 : (nI i + 1 : Int32) = nI (i + 1) := zn_add i 1
  have h1000 : (83 ≤ 1000) = True := by decide
  simp only [u217_885, u217_886, u217_887, u217_888, u217_889, u217_890, u217_891, u217_894, u217_895, u217_896, u217_897, u217_898, u217_899, u217_900, u217_903, u217_906, u217_907, zk_mk_1, zk_mk_I, zk_mk_R, zk_mk_set, zk_mk_setR, zk_mk_cpy, zk_rv_some, zk_rv_none, Option.toList_some, Option.toList_none, List.cons_append, List.nil_append, reduceIte, eq_self, Nat.reduceLT, Nat.reduceEqDiff, and_true, true_and, reduceCtorEq, zsh_0, zsh_60, h1000, z1, y1, p1]
  refine zo_blame hJ _ ?_
  intro v I1 tg1 hA
  simp only [u217_885, u217_886, u217_887, u217_888, u217_889, u217_890, u217_891, u217_894, u217_895, u217_896, u217_897, u217_898, u217_899, u217_900, u217_903, u217_906, u217_907, zk_mk_1, zk_mk_I, zk_mk_R, zk_mk_set, zk_mk_setR, zk_mk_cpy, zk_rv_some, zk_rv_none, Option.toList_some, Option.toList_none, List.cons_append, List.nil_append, reduceIte, eq_self, Nat.reduceLT, Nat.reduceEqDiff, and_true, true_and, reduceCtorEq, zsh_0, zsh_60, h1000, z1, y1, p1]
  refine hA _ ?_
  intro I2 tg2 hJ2
  simp only [u217_885, u217_886, u217_887, u217_888, u217_889, u217_890, u217_891, u217_894, u217_895, u217_896, u217_897, u217_898, u217_899, u217_900, u217_903, u217_906, u217_907, zk_mk_1, zk_mk_I, zk_mk_R, zk_mk_set, zk_mk_setR, zk_mk_cpy, zk_rv_some, zk_rv_none, Option.toList_some, Option.toList_none, List.cons_append, List.nil_append, reduceIte, eq_self, Nat.reduceLT, Nat.reduceEqDiff, and_true, true_and, reduceCtorEq]
  exact K I2 tg2 hJ2
set_option maxRecDepth 20000 in
theorem zw_more {L i : Nat} {xs : Nat → Int32} {I : Nat → Nat → Int32} {tg : Option Nat} {P : Option Value → zk_M → Prop} (hJ : zJJ I) (hi : i + 7 ≤ L) (hL : L ≤ 3584) (K : ∀ I2 tg2, zJJ I2 → zk_R (some (L, xs)) 900 217 1412 [some (.ref (1000 : Nat)), some (.ref (0 : Nat)), some (.ref (60 : Nat)), some (.int (nI i))] [] (zk_mk I2 tg2) P) : zk_R (some (L, xs)) 900 217 908 [some (.ref (1000 : Nat)), some (.ref (0 : Nat)), some (.ref (60 : Nat)), some (.int (nI i))] [] (zk_mk I tg) P := by
  have z1 : zk_inb (nI (i + 1)) L = true := by rw [zn_in (by omega)]; omega
  have y1 : (nI (i + 1)).toNatClampNeg = i + 1 := zn_cl (by omega)
  have p1 : (nI i + 1 : Int32) = nI (i + 1) := zn_add i 1
  have z2 : zk_inb (nI (i + 2)) L = true := by rw [zn_in (by omega)]; omega
  have y2 : (nI (i + 2)).toNatClampNeg = i + 2 := zn_cl (by omega)
  have p2 : (nI i + 2 : Int32) = nI (i + 2) := zn_add i 2
  have h1000 : (83 ≤ 1000) = True := by decide
  simp only [u217_908, u217_909, u217_910, u217_911, u217_912, u217_913, u217_914, u217_915, u217_916, u217_917, u217_918, u217_919, u217_922, u217_923, u217_924, u217_925, u217_926, u217_927, u217_928, u217_929, u217_930, u217_931, u217_932, u217_933, u217_936, u217_937, u217_940, u217_941, zk_mk_1, zk_mk_I, zk_mk_R, zk_mk_set, zk_mk_setR, zk_mk_cpy, zk_rv_some, zk_rv_none, Option.toList_some, Option.toList_none, List.cons_append, List.nil_append, reduceIte, eq_self, Nat.reduceLT, Nat.reduceEqDiff, and_true, true_and, reduceCtorEq, zsh_0, zsh_60, h1000, z1, y1, p1, z2, y2, p2]
  refine zo_more hJ _ ?_
  intro v I1 tg1 hA
  simp only [u217_908, u217_909, u217_910, u217_911, u217_912, u217_913, u217_914, u217_915, u217_916, u217_917, u217_918, u217_919, u217_922, u217_923, u217_924, u217_925, u217_926, u217_927, u217_928, u217_929, u217_930, u217_931, u217_932, u217_933, u217_936, u217_937, u217_940, u217_941, zk_mk_1, zk_mk_I, zk_mk_R, zk_mk_set, zk_mk_setR, zk_mk_cpy, zk_rv_some, zk_rv_none, Option.toList_some, Option.toList_none, List.cons_append, List.nil_append, reduceIte, eq_self, Nat.reduceLT, Nat.reduceEqDiff, and_true, true_and, reduceCtorEq, zsh_0, zsh_60, h1000, z1, y1, p1, z2, y2, p2]
  refine hA _ ?_
  intro I2 tg2 hJ2
  simp only [u217_908, u217_909, u217_910, u217_911, u217_912, u217_913, u217_914, u217_915, u217_916, u217_917, u217_918, u217_919, u217_922, u217_923, u217_924, u217_925, u217_926, u217_927, u217_928, u217_929, u217_930, u217_931, u217_932, u217_933, u217_936, u217_937, u217_940, u217_941, zk_mk_1, zk_mk_I, zk_mk_R, zk_mk_set, zk_mk_setR, zk_mk_cpy, zk_rv_some, zk_rv_none, Option.toList_some, Option.toList_none, List.cons_append, List.nil_append, reduceIte, eq_self, Nat.reduceLT, Nat.reduceEqDiff, and_true, true_and, reduceCtorEq, zw_lcmp]
  exact K I2 tg2 hJ2
set_option maxRecDepth 20000 in
theorem zw_laws {L i : Nat} {xs : Nat → Int32} {I : Nat → Nat → Int32} {tg : Option Nat} {P : Option Value → zk_M → Prop} (hJ : zJJ I) (hi : i + 7 ≤ L) (hL : L ≤ 3584) (K : ∀ I2 tg2, zJJ I2 → zk_R (some (L, xs)) 900 217 1412 [some (.ref (1000 : Nat)), some (.ref (0 : Nat)), some (.ref (60 : Nat)), some (.int (nI i))] [] (zk_mk I2 tg2) P) : zk_R (some (L, xs)) 900 217 942 [some (.ref (1000 : Nat)), some (.ref (0 : Nat)), some (.ref (60 : Nat)), some (.int (nI i))] [] (zk_mk I tg) P := by
  have z1 : zk_inb (nI (i + 1)) L = true := by rw [zn_in (by omega)]; omega
  have y1 : (nI (i + 1)).toNatClampNeg = i + 1 := zn_cl (by omega)
  have p1 : (nI i + 1 : Int32) = nI (i + 1) := zn_add i 1
  have h1000 : (83 ≤ 1000) = True := by decide
  simp only [u217_942, u217_943, u217_944, u217_945, u217_946, u217_947, u217_948, u217_951, u217_952, u217_953, u217_954, u217_955, u217_956, u217_957, u217_960, u217_963, u217_964, zk_mk_1, zk_mk_I, zk_mk_R, zk_mk_set, zk_mk_setR, zk_mk_cpy, zk_rv_some, zk_rv_none, Option.toList_some, Option.toList_none, List.cons_append, List.nil_append, reduceIte, eq_self, Nat.reduceLT, Nat.reduceEqDiff, and_true, true_and, reduceCtorEq, zsh_0, zsh_60, h1000, z1, y1, p1]
  refine zo_laws hJ _ ?_
  intro v I1 tg1 hA
  simp only [u217_942, u217_943, u217_944, u217_945, u217_946, u217_947, u217_948, u217_951, u217_952, u217_953, u217_954, u217_955, u217_956, u217_957, u217_960, u217_963, u217_964, zk_mk_1, zk_mk_I, zk_mk_R, zk_mk_set, zk_mk_setR, zk_mk_cpy, zk_rv_some, zk_rv_none, Option.toList_some, Option.toList_none, List.cons_append, List.nil_append, reduceIte, eq_self, Nat.reduceLT, Nat.reduceEqDiff, and_true, true_and, reduceCtorEq, zsh_0, zsh_60, h1000, z1, y1, p1]
  refine hA _ ?_
  intro I2 tg2 hJ2
  simp only [u217_942, u217_943, u217_944, u217_945, u217_946, u217_947, u217_948, u217_951, u217_952, u217_953, u217_954, u217_955, u217_956, u217_957, u217_960, u217_963, u217_964, zk_mk_1, zk_mk_I, zk_mk_R, zk_mk_set, zk_mk_setR, zk_mk_cpy, zk_rv_some, zk_rv_none, Option.toList_some, Option.toList_none, List.cons_append, List.nil_append, reduceIte, eq_self, Nat.reduceLT, Nat.reduceEqDiff, and_true, true_and, reduceCtorEq]
  exact K I2 tg2 hJ2
set_option maxRecDepth 20000 in
theorem zw_film {L i : Nat} {xs : Nat → Int32} {I : Nat → Nat → Int32} {tg : Option Nat} {P : Option Value → zk_M → Prop} (hJ : zJJ I) (hi : i + 7 ≤ L) (hL : L ≤ 3584) (K : ∀ I2 tg2, zJJ I2 → zk_R (some (L, xs)) 900 217 1412 [some (.ref (1000 : Nat)), some (.ref (0 : Nat)), some (.ref (60 : Nat)), some (.int (nI i))] [] (zk_mk I2 tg2) P) : zk_R (some (L, xs)) 900 217 965 [some (.ref (1000 : Nat)), some (.ref (0 : Nat)), some (.ref (60 : Nat)), some (.int (nI i))] [] (zk_mk I tg) P := by
  have z1 : zk_inb (nI (i + 1)) L = true := by rw [zn_in (by omega)]; omega
  have y1 : (nI (i + 1)).toNatClampNeg = i + 1 := zn_cl (by omega)
  have p1 : (nI i + 1 : Int32) = nI (i + 1) := zn_add i 1
  have z2 : zk_inb (nI (i + 2)) L = true := by rw [zn_in (by omega)]; omega
  have y2 : (nI (i + 2)).toNatClampNeg = i + 2 := zn_cl (by omega)
  have p2 : (nI i + 2 : Int32) = nI (i + 2) := zn_add i 2
  have z3 : zk_inb (nI (i + 3)) L = true := by rw [zn_in (by omega)]; omega
  have y3 : (nI (i + 3)).toNatClampNeg = i + 3 := zn_cl (by omega)
  have p3 : (nI i + 3 : Int32) = nI (i + 3) := zn_add i 3
  have h1000 : (83 ≤ 1000) = True := by decide
  simp only [u217_965, u217_966, u217_967, u217_968, u217_969, u217_970, u217_971, u217_972, u217_973, u217_974, u217_975, u217_976, u217_977, u217_978, u217_979, u217_980, u217_981, u217_984, u217_985, u217_986, u217_987, u217_988, u217_989, u217_990, u217_991, u217_992, u217_993, u217_994, u217_995, u217_996, u217_997, u217_998, u217_999, u217_1000, u217_1003, u217_1006, u217_1007, zk_mk_1, zk_mk_I, zk_mk_R, zk_mk_set, zk_mk_setR, zk_mk_cpy, zk_rv_some, zk_rv_none, Option.toList_some, Option.toList_none, List.cons_append, List.nil_append, reduceIte, eq_self, Nat.reduceLT, Nat.reduceEqDiff, and_true, true_and, reduceCtorEq, zsh_0, zsh_60, h1000, z1, y1, p1, z2, y2, p2, z3, y3, p3]
  refine zo_film hJ _ ?_
  intro v I1 tg1 hA
  simp only [u217_965, u217_966, u217_967, u217_968, u217_969, u217_970, u217_971, u217_972, u217_973, u217_974, u217_975, u217_976, u217_977, u217_978, u217_979, u217_980, u217_981, u217_984, u217_985, u217_986, u217_987, u217_988, u217_989, u217_990, u217_991, u217_992, u217_993, u217_994, u217_995, u217_996, u217_997, u217_998, u217_999, u217_1000, u217_1003, u217_1006, u217_1007, zk_mk_1, zk_mk_I, zk_mk_R, zk_mk_set, zk_mk_setR, zk_mk_cpy, zk_rv_some, zk_rv_none, Option.toList_some, Option.toList_none, List.cons_append, List.nil_append, reduceIte, eq_self, Nat.reduceLT, Nat.reduceEqDiff, and_true, true_and, reduceCtorEq, zsh_0, zsh_60, h1000, z1, y1, p1, z2, y2, p2, z3, y3, p3]
  refine hA _ ?_
  intro I2 tg2 hJ2
  simp only [u217_965, u217_966, u217_967, u217_968, u217_969, u217_970, u217_971, u217_972, u217_973, u217_974, u217_975, u217_976, u217_977, u217_978, u217_979, u217_980, u217_981, u217_984, u217_985, u217_986, u217_987, u217_988, u217_989, u217_990, u217_991, u217_992, u217_993, u217_994, u217_995, u217_996, u217_997, u217_998, u217_999, u217_1000, u217_1003, u217_1006, u217_1007, zk_mk_1, zk_mk_I, zk_mk_R, zk_mk_set, zk_mk_setR, zk_mk_cpy, zk_rv_some, zk_rv_none, Option.toList_some, Option.toList_none, List.cons_append, List.nil_append, reduceIte, eq_self, Nat.reduceLT, Nat.reduceEqDiff, and_true, true_and, reduceCtorEq]
  exact K I2 tg2 hJ2
set_option maxRecDepth 20000 in
theorem zw_seen {L i : Nat} {xs : Nat → Int32} {I : Nat → Nat → Int32} {tg : Option Nat} {P : Option Value → zk_M → Prop} (hJ : zJJ I) (hi : i + 7 ≤ L) (hL : L ≤ 3584) (K : ∀ I2 tg2, zJJ I2 → zk_R (some (L, xs)) 900 217 1412 [some (.ref (1000 : Nat)), some (.ref (0 : Nat)), some (.ref (60 : Nat)), some (.int (nI i))] [] (zk_mk I2 tg2) P) : zk_R (some (L, xs)) 900 217 1008 [some (.ref (1000 : Nat)), some (.ref (0 : Nat)), some (.ref (60 : Nat)), some (.int (nI i))] [] (zk_mk I tg) P := by
  have z1 : zk_inb (nI (i + 1)) L = true := by rw [zn_in (by omega)]; omega
  have y1 : (nI (i + 1)).toNatClampNeg = i + 1 := zn_cl (by omega)
  have p1 : (nI i + 1 : Int32) = nI (i + 1) := zn_add i 1
  have z2 : zk_inb (nI (i + 2)) L = true := by rw [zn_in (by omega)]; omega
  have y2 : (nI (i + 2)).toNatClampNeg = i + 2 := zn_cl (by omega)
  have p2 : (nI i + 2 : Int32) = nI (i + 2) := zn_add i 2
  have h1000 : (83 ≤ 1000) = True := by decide
  simp only [u217_1008, u217_1009, u217_1010, u217_1011, u217_1012, u217_1013, u217_1014, u217_1015, u217_1016, u217_1017, u217_1018, u217_1019, u217_1022, u217_1023, u217_1024, u217_1025, u217_1026, u217_1027, u217_1028, u217_1029, u217_1030, u217_1031, u217_1032, u217_1033, u217_1036, u217_1039, u217_1040, zk_mk_1, zk_mk_I, zk_mk_R, zk_mk_set, zk_mk_setR, zk_mk_cpy, zk_rv_some, zk_rv_none, Option.toList_some, Option.toList_none, List.cons_append, List.nil_append, reduceIte, eq_self, Nat.reduceLT, Nat.reduceEqDiff, and_true, true_and, reduceCtorEq, zsh_0, zsh_60, h1000, z1, y1, p1, z2, y2, p2]
  refine zo_seen hJ _ ?_
  intro v I1 tg1 hA
  simp only [u217_1008, u217_1009, u217_1010, u217_1011, u217_1012, u217_1013, u217_1014, u217_1015, u217_1016, u217_1017, u217_1018, u217_1019, u217_1022, u217_1023, u217_1024, u217_1025, u217_1026, u217_1027, u217_1028, u217_1029, u217_1030, u217_1031, u217_1032, u217_1033, u217_1036, u217_1039, u217_1040, zk_mk_1, zk_mk_I, zk_mk_R, zk_mk_set, zk_mk_setR, zk_mk_cpy, zk_rv_some, zk_rv_none, Option.toList_some, Option.toList_none, List.cons_append, List.nil_append, reduceIte, eq_self, Nat.reduceLT, Nat.reduceEqDiff, and_true, true_and, reduceCtorEq, zsh_0, zsh_60, h1000, z1, y1, p1, z2, y2, p2]
  refine hA _ ?_
  intro I2 tg2 hJ2
  simp only [u217_1008, u217_1009, u217_1010, u217_1011, u217_1012, u217_1013, u217_1014, u217_1015, u217_1016, u217_1017, u217_1018, u217_1019, u217_1022, u217_1023, u217_1024, u217_1025, u217_1026, u217_1027, u217_1028, u217_1029, u217_1030, u217_1031, u217_1032, u217_1033, u217_1036, u217_1039, u217_1040, zk_mk_1, zk_mk_I, zk_mk_R, zk_mk_set, zk_mk_setR, zk_mk_cpy, zk_rv_some, zk_rv_none, Option.toList_some, Option.toList_none, List.cons_append, List.nil_append, reduceIte, eq_self, Nat.reduceLT, Nat.reduceEqDiff, and_true, true_and, reduceCtorEq]
  exact K I2 tg2 hJ2
set_option maxRecDepth 20000 in
theorem zw_drawn {L i : Nat} {xs : Nat → Int32} {I : Nat → Nat → Int32} {tg : Option Nat} {P : Option Value → zk_M → Prop} (hJ : zJJ I) (hi : i + 7 ≤ L) (hL : L ≤ 3584) (K : ∀ I2 tg2, zJJ I2 → zk_R (some (L, xs)) 900 217 1412 [some (.ref (1000 : Nat)), some (.ref (0 : Nat)), some (.ref (60 : Nat)), some (.int (nI i))] [] (zk_mk I2 tg2) P) : zk_R (some (L, xs)) 900 217 1041 [some (.ref (1000 : Nat)), some (.ref (0 : Nat)), some (.ref (60 : Nat)), some (.int (nI i))] [] (zk_mk I tg) P := by
  have z1 : zk_inb (nI (i + 1)) L = true := by rw [zn_in (by omega)]; omega
  have y1 : (nI (i + 1)).toNatClampNeg = i + 1 := zn_cl (by omega)
  have p1 : (nI i + 1 : Int32) = nI (i + 1) := zn_add i 1
  have z2 : zk_inb (nI (i + 2)) L = true := by rw [zn_in (by omega)]; omega
  have y2 : (nI (i + 2)).toNatClampNeg = i + 2 := zn_cl (by omega)
  have p2 : (nI i + 2 : Int32) = nI (i + 2) := zn_add i 2
  have h1000 : (83 ≤ 1000) = True := by decide
  simp only [u217_1041, u217_1042, u217_1043, u217_1044, u217_1045, u217_1046, u217_1047, u217_1048, u217_1049, u217_1050, u217_1051, u217_1052, u217_1055, u217_1056, u217_1057, u217_1058, u217_1059, u217_1060, u217_1061, u217_1062, u217_1063, u217_1064, u217_1065, u217_1066, u217_1069, u217_1072, u217_1073, zk_mk_1, zk_mk_I, zk_mk_R, zk_mk_set, zk_mk_setR, zk_mk_cpy, zk_rv_some, zk_rv_none, Option.toList_some, Option.toList_none, List.cons_append, List.nil_append, reduceIte, eq_self, Nat.reduceLT, Nat.reduceEqDiff, and_true, true_and, reduceCtorEq, zsh_0, zsh_60, h1000, z1, y1, p1, z2, y2, p2]
  refine zo_drawn hJ _ ?_
  intro v I1 tg1 hA
  simp only [u217_1041, u217_1042, u217_1043, u217_1044, u217_1045, u217_1046, u217_1047, u217_1048, u217_1049, u217_1050, u217_1051, u217_1052, u217_1055, u217_1056, u217_1057, u217_1058, u217_1059, u217_1060, u217_1061, u217_1062, u217_1063, u217_1064, u217_1065, u217_1066, u217_1069, u217_1072, u217_1073, zk_mk_1, zk_mk_I, zk_mk_R, zk_mk_set, zk_mk_setR, zk_mk_cpy, zk_rv_some, zk_rv_none, Option.toList_some, Option.toList_none, List.cons_append, List.nil_append, reduceIte, eq_self, Nat.reduceLT, Nat.reduceEqDiff, and_true, true_and, reduceCtorEq, zsh_0, zsh_60, h1000, z1, y1, p1, z2, y2, p2]
  refine hA _ ?_
  intro I2 tg2 hJ2
  simp only [u217_1041, u217_1042, u217_1043, u217_1044, u217_1045, u217_1046, u217_1047, u217_1048, u217_1049, u217_1050, u217_1051, u217_1052, u217_1055, u217_1056, u217_1057, u217_1058, u217_1059, u217_1060, u217_1061, u217_1062, u217_1063, u217_1064, u217_1065, u217_1066, u217_1069, u217_1072, u217_1073, zk_mk_1, zk_mk_I, zk_mk_R, zk_mk_set, zk_mk_setR, zk_mk_cpy, zk_rv_some, zk_rv_none, Option.toList_some, Option.toList_none, List.cons_append, List.nil_append, reduceIte, eq_self, Nat.reduceLT, Nat.reduceEqDiff, and_true, true_and, reduceCtorEq]
  exact K I2 tg2 hJ2
set_option maxRecDepth 20000 in
theorem zw_deal {L i : Nat} {xs : Nat → Int32} {I : Nat → Nat → Int32} {tg : Option Nat} {P : Option Value → zk_M → Prop} (hJ : zJJ I) (hi : i + 7 ≤ L) (hL : L ≤ 3584) (K : ∀ I2 tg2, zJJ I2 → zk_R (some (L, xs)) 900 217 1412 [some (.ref (1000 : Nat)), some (.ref (0 : Nat)), some (.ref (60 : Nat)), some (.int (nI i))] [] (zk_mk I2 tg2) P) : zk_R (some (L, xs)) 900 217 1074 [some (.ref (1000 : Nat)), some (.ref (0 : Nat)), some (.ref (60 : Nat)), some (.int (nI i))] [] (zk_mk I tg) P := by
  have z1 : zk_inb (nI (i + 1)) L = true := by rw [zn_in (by omega)]; omega
  have y1 : (nI (i + 1)).toNatClampNeg = i + 1 := zn_cl (by omega)
  have p1 : (nI i + 1 : Int32) = nI (i + 1) := zn_add i 1
  have h1000 : (83 ≤ 1000) = True := by decide
  simp only [u217_1074, u217_1075, u217_1076, u217_1077, u217_1078, u217_1079, u217_1080, u217_1083, u217_1084, u217_1085, u217_1086, u217_1087, u217_1088, u217_1089, u217_1092, u217_1095, u217_1096, zk_mk_1, zk_mk_I, zk_mk_R, zk_mk_set, zk_mk_setR, zk_mk_cpy, zk_rv_some, zk_rv_none, Option.toList_some, Option.toList_none, List.cons_append, List.nil_append, reduceIte, eq_self, Nat.reduceLT, Nat.reduceEqDiff, and_true, true_and, reduceCtorEq, zsh_0, zsh_60, h1000, z1, y1, p1]
  refine zo_deal hJ _ ?_
  intro v I1 tg1 hA
  simp only [u217_1074, u217_1075, u217_1076, u217_1077, u217_1078, u217_1079, u217_1080, u217_1083, u217_1084, u217_1085, u217_1086, u217_1087, u217_1088, u217_1089, u217_1092, u217_1095, u217_1096, zk_mk_1, zk_mk_I, zk_mk_R, zk_mk_set, zk_mk_setR, zk_mk_cpy, zk_rv_some, zk_rv_none, Option.toList_some, Option.toList_none, List.cons_append, List.nil_append, reduceIte, eq_self, Nat.reduceLT, Nat.reduceEqDiff, and_true, true_and, reduceCtorEq, zsh_0, zsh_60, h1000, z1, y1, p1]
  refine hA _ ?_
  intro I2 tg2 hJ2
  simp only [u217_1074, u217_1075, u217_1076, u217_1077, u217_1078, u217_1079, u217_1080, u217_1083, u217_1084, u217_1085, u217_1086, u217_1087, u217_1088, u217_1089, u217_1092, u217_1095, u217_1096, zk_mk_1, zk_mk_I, zk_mk_R, zk_mk_set, zk_mk_setR, zk_mk_cpy, zk_rv_some, zk_rv_none, Option.toList_some, Option.toList_none, List.cons_append, List.nil_append, reduceIte, eq_self, Nat.reduceLT, Nat.reduceEqDiff, and_true, true_and, reduceCtorEq]
  exact K I2 tg2 hJ2
set_option maxRecDepth 20000 in
theorem zw_odds {L i : Nat} {xs : Nat → Int32} {I : Nat → Nat → Int32} {tg : Option Nat} {P : Option Value → zk_M → Prop} (hJ : zJJ I) (hi : i + 7 ≤ L) (hL : L ≤ 3584) (K : ∀ I2 tg2, zJJ I2 → zk_R (some (L, xs)) 900 217 1412 [some (.ref (1000 : Nat)), some (.ref (0 : Nat)), some (.ref (60 : Nat)), some (.int (nI i))] [] (zk_mk I2 tg2) P) : zk_R (some (L, xs)) 900 217 1097 [some (.ref (1000 : Nat)), some (.ref (0 : Nat)), some (.ref (60 : Nat)), some (.int (nI i))] [] (zk_mk I tg) P := by
  have z1 : zk_inb (nI (i + 1)) L = true := by rw [zn_in (by omega)]; omega
  have y1 : (nI (i + 1)).toNatClampNeg = i + 1 := zn_cl (by omega)
  have p1 : (nI i + 1 : Int32) = nI (i + 1) := zn_add i 1
  have z2 : zk_inb (nI (i + 2)) L = true := by rw [zn_in (by omega)]; omega
  have y2 : (nI (i + 2)).toNatClampNeg = i + 2 := zn_cl (by omega)
  have p2 : (nI i + 2 : Int32) = nI (i + 2) := zn_add i 2
  have z3 : zk_inb (nI (i + 3)) L = true := by rw [zn_in (by omega)]; omega
  have y3 : (nI (i + 3)).toNatClampNeg = i + 3 := zn_cl (by omega)
  have p3 : (nI i + 3 : Int32) = nI (i + 3) := zn_add i 3
  have z4 : zk_inb (nI (i + 4)) L = true := by rw [zn_in (by omega)]; omega
  have y4 : (nI (i + 4)).toNatClampNeg = i + 4 := zn_cl (by omega)
  have p4 : (nI i + 4 : Int32) = nI (i + 4) := zn_add i 4
  have h1000 : (83 ≤ 1000) = True := by decide
  simp only [u217_1097, u217_1098, u217_1099, u217_1100, u217_1101, u217_1102, u217_1103, u217_1104, u217_1105, u217_1106, u217_1107, u217_1108, u217_1109, u217_1110, u217_1111, u217_1112, u217_1113, u217_1114, u217_1115, u217_1116, u217_1117, u217_1118, u217_1121, u217_1122, u217_1123, u217_1124, u217_1125, u217_1126, u217_1127, u217_1128, u217_1129, u217_1130, u217_1131, u217_1132, u217_1133, u217_1134, u217_1135, u217_1136, u217_1137, u217_1138, u217_1139, u217_1140, u217_1141, u217_1142, u217_1145, u217_1146, u217_1149, u217_1150, zk_mk_1, zk_mk_I, zk_mk_R, zk_mk_set, zk_mk_setR, zk_mk_cpy, zk_rv_some, zk_rv_none, Option.toList_some, Option.toList_none, List.cons_append, List.nil_append, reduceIte, eq_self, Nat.reduceLT, Nat.reduceEqDiff, and_true, true_and, reduceCtorEq, zsh_0, zsh_60, h1000, z1, y1, p1, z2, y2, p2, z3, y3, p3, z4, y4, p4]
  refine zo_odds hJ _ ?_
  intro v I1 tg1 hA
  simp only [u217_1097, u217_1098, u217_1099, u217_1100, u217_1101, u217_1102, u217_1103, u217_1104, u217_1105, u217_1106, u217_1107, u217_1108, u217_1109, u217_1110, u217_1111, u217_1112, u217_1113, u217_1114, u217_1115, u217_1116, u217_1117, u217_1118, u217_1121, u217_1122, u217_1123, u217_1124, u217_1125, u217_1126, u217_1127, u217_1128, u217_1129, u217_1130, u217_1131, u217_1132, u217_1133, u217_1134, u217_1135, u217_1136, u217_1137, u217_1138, u217_1139, u217_1140, u217_1141, u217_1142, u217_1145, u217_1146, u217_1149, u217_1150, zk_mk_1, zk_mk_I, zk_mk_R, zk_mk_set, zk_mk_setR, zk_mk_cpy, zk_rv_some, zk_rv_none, Option.toList_some, Option.toList_none, List.cons_append, List.nil_append, reduceIte, eq_self, Nat.reduceLT, Nat.reduceEqDiff, and_true, true_and, reduceCtorEq, zsh_0, zsh_60, h1000, z1, y1, p1, z2, y2, p2, z3, y3, p3, z4, y4, p4]
  refine hA _ ?_
  intro I2 tg2 hJ2
  simp only [u217_1097, u217_1098, u217_1099, u217_1100, u217_1101, u217_1102, u217_1103, u217_1104, u217_1105, u217_1106, u217_1107, u217_1108, u217_1109, u217_1110, u217_1111, u217_1112, u217_1113, u217_1114, u217_1115, u217_1116, u217_1117, u217_1118, u217_1121, u217_1122, u217_1123, u217_1124, u217_1125, u217_1126, u217_1127, u217_1128, u217_1129, u217_1130, u217_1131, u217_1132, u217_1133, u217_1134, u217_1135, u217_1136, u217_1137, u217_1138, u217_1139, u217_1140, u217_1141, u217_1142, u217_1145, u217_1146, u217_1149, u217_1150, zk_mk_1, zk_mk_I, zk_mk_R, zk_mk_set, zk_mk_setR, zk_mk_cpy, zk_rv_some, zk_rv_none, Option.toList_some, Option.toList_none, List.cons_append, List.nil_append, reduceIte, eq_self, Nat.reduceLT, Nat.reduceEqDiff, and_true, true_and, reduceCtorEq, zw_lcmp]
  exact K I2 tg2 hJ2
set_option maxRecDepth 20000 in
theorem zw_image {L i : Nat} {xs : Nat → Int32} {I : Nat → Nat → Int32} {tg : Option Nat} {P : Option Value → zk_M → Prop} (hJ : zJJ I) (hi : i + 7 ≤ L) (hL : L ≤ 3584) (K : ∀ I2 tg2, zJJ I2 → zk_R (some (L, xs)) 900 217 1412 [some (.ref (1000 : Nat)), some (.ref (0 : Nat)), some (.ref (60 : Nat)), some (.int (nI i))] [] (zk_mk I2 tg2) P) : zk_R (some (L, xs)) 900 217 1151 [some (.ref (1000 : Nat)), some (.ref (0 : Nat)), some (.ref (60 : Nat)), some (.int (nI i))] [] (zk_mk I tg) P := by
  have h1000 : (83 ≤ 1000) = True := by decide
  simp only [u217_1151, u217_1152, u217_1155, u217_1156, u217_1159, u217_1162, u217_1163, zk_mk_1, zk_mk_I, zk_mk_R, zk_mk_set, zk_mk_setR, zk_mk_cpy, zk_rv_some, zk_rv_none, Option.toList_some, Option.toList_none, List.cons_append, List.nil_append, reduceIte, eq_self, Nat.reduceLT, Nat.reduceEqDiff, and_true, true_and, reduceCtorEq, zsh_0, zsh_60, h1000]
  refine zo_image hJ _ ?_
  intro v I1 tg1 hA
  simp only [u217_1151, u217_1152, u217_1155, u217_1156, u217_1159, u217_1162, u217_1163, zk_mk_1, zk_mk_I, zk_mk_R, zk_mk_set, zk_mk_setR, zk_mk_cpy, zk_rv_some, zk_rv_none, Option.toList_some, Option.toList_none, List.cons_append, List.nil_append, reduceIte, eq_self, Nat.reduceLT, Nat.reduceEqDiff, and_true, true_and, reduceCtorEq, zsh_0, zsh_60, h1000]
  refine hA _ ?_
  intro I2 tg2 hJ2
  simp only [u217_1151, u217_1152, u217_1155, u217_1156, u217_1159, u217_1162, u217_1163, zk_mk_1, zk_mk_I, zk_mk_R, zk_mk_set, zk_mk_setR, zk_mk_cpy, zk_rv_some, zk_rv_none, Option.toList_some, Option.toList_none, List.cons_append, List.nil_append, reduceIte, eq_self, Nat.reduceLT, Nat.reduceEqDiff, and_true, true_and, reduceCtorEq]
  exact K I2 tg2 hJ2
set_option maxRecDepth 20000 in
theorem zw_back {L i : Nat} {xs : Nat → Int32} {I : Nat → Nat → Int32} {tg : Option Nat} {P : Option Value → zk_M → Prop} (hJ : zJJ I) (hi : i + 7 ≤ L) (hL : L ≤ 3584) (K : ∀ I2 tg2, zJJ I2 → zk_R (some (L, xs)) 900 217 1412 [some (.ref (1000 : Nat)), some (.ref (0 : Nat)), some (.ref (60 : Nat)), some (.int (nI i))] [] (zk_mk I2 tg2) P) : zk_R (some (L, xs)) 900 217 1164 [some (.ref (1000 : Nat)), some (.ref (0 : Nat)), some (.ref (60 : Nat)), some (.int (nI i))] [] (zk_mk I tg) P := by
  have h1000 : (83 ≤ 1000) = True := by decide
  simp only [u217_1164, u217_1165, u217_1168, u217_1169, u217_1172, u217_1175, u217_1176, zk_mk_1, zk_mk_I, zk_mk_R, zk_mk_set, zk_mk_setR, zk_mk_cpy, zk_rv_some, zk_rv_none, Option.toList_some, Option.toList_none, List.cons_append, List.nil_append, reduceIte, eq_self, Nat.reduceLT, Nat.reduceEqDiff, and_true, true_and, reduceCtorEq, zsh_0, zsh_60, h1000]
  refine zo_back hJ _ ?_
  intro v I1 tg1 hA
  simp only [u217_1164, u217_1165, u217_1168, u217_1169, u217_1172, u217_1175, u217_1176, zk_mk_1, zk_mk_I, zk_mk_R, zk_mk_set, zk_mk_setR, zk_mk_cpy, zk_rv_some, zk_rv_none, Option.toList_some, Option.toList_none, List.cons_append, List.nil_append, reduceIte, eq_self, Nat.reduceLT, Nat.reduceEqDiff, and_true, true_and, reduceCtorEq, zsh_0, zsh_60, h1000]
  refine hA _ ?_
  intro I2 tg2 hJ2
  simp only [u217_1164, u217_1165, u217_1168, u217_1169, u217_1172, u217_1175, u217_1176, zk_mk_1, zk_mk_I, zk_mk_R, zk_mk_set, zk_mk_setR, zk_mk_cpy, zk_rv_some, zk_rv_none, Option.toList_some, Option.toList_none, List.cons_append, List.nil_append, reduceIte, eq_self, Nat.reduceLT, Nat.reduceEqDiff, and_true, true_and, reduceCtorEq]
  exact K I2 tg2 hJ2
set_option maxRecDepth 20000 in
theorem zw_sheet {L i : Nat} {xs : Nat → Int32} {I : Nat → Nat → Int32} {tg : Option Nat} {P : Option Value → zk_M → Prop} (hJ : zJJ I) (hi : i + 7 ≤ L) (hL : L ≤ 3584) (K : ∀ I2 tg2, zJJ I2 → zk_R (some (L, xs)) 900 217 1412 [some (.ref (1000 : Nat)), some (.ref (0 : Nat)), some (.ref (60 : Nat)), some (.int (nI i))] [] (zk_mk I2 tg2) P) : zk_R (some (L, xs)) 900 217 1177 [some (.ref (1000 : Nat)), some (.ref (0 : Nat)), some (.ref (60 : Nat)), some (.int (nI i))] [] (zk_mk I tg) P := by
  have z1 : zk_inb (nI (i + 1)) L = true := by rw [zn_in (by omega)]; omega
  have y1 : (nI (i + 1)).toNatClampNeg = i + 1 := zn_cl (by omega)
  have p1 : (nI i + 1 : Int32) = nI (i + 1) := zn_add i 1
  have z2 : zk_inb (nI (i + 2)) L = true := by rw [zn_in (by omega)]; omega
  have y2 : (nI (i + 2)).toNatClampNeg = i + 2 := zn_cl (by omega)
  have p2 : (nI i + 2 : Int32) = nI (i + 2) := zn_add i 2
  have z3 : zk_inb (nI (i + 3)) L = true := by rw [zn_in (by omega)]; omega
  have y3 : (nI (i + 3)).toNatClampNeg = i + 3 := zn_cl (by omega)
  have p3 : (nI i + 3 : Int32) = nI (i + 3) := zn_add i 3
  have h1000 : (83 ≤ 1000) = True := by decide
  simp only [u217_1177, u217_1178, u217_1179, u217_1180, u217_1181, u217_1182, u217_1183, u217_1184, u217_1185, u217_1186, u217_1187, u217_1188, u217_1189, u217_1190, u217_1191, u217_1192, u217_1193, u217_1196, u217_1197, u217_1198, u217_1199, u217_1200, u217_1201, u217_1202, u217_1203, u217_1204, u217_1205, u217_1206, u217_1207, u217_1208, u217_1209, u217_1210, u217_1211, u217_1212, u217_1215, u217_1218, u217_1219, zk_mk_1, zk_mk_I, zk_mk_R, zk_mk_set, zk_mk_setR, zk_mk_cpy, zk_rv_some, zk_rv_none, Option.toList_some, Option.toList_none, List.cons_append, List.nil_append, reduceIte, eq_self, Nat.reduceLT, Nat.reduceEqDiff, and_true, true_and, reduceCtorEq, zsh_0, zsh_60, h1000, z1, y1, p1, z2, y2, p2, z3, y3, p3]
  refine zo_sheet hJ _ ?_
  intro v I1 tg1 hA
  simp only [u217_1177, u217_1178, u217_1179, u217_1180, u217_1181, u217_1182, u217_1183, u217_1184, u217_1185, u217_1186, u217_1187, u217_1188, u217_1189, u217_1190, u217_1191, u217_1192, u217_1193, u217_1196, u217_1197, u217_1198, u217_1199, u217_1200, u217_1201, u217_1202, u217_1203, u217_1204, u217_1205, u217_1206, u217_1207, u217_1208, u217_1209, u217_1210, u217_1211, u217_1212, u217_1215, u217_1218, u217_1219, zk_mk_1, zk_mk_I, zk_mk_R, zk_mk_set, zk_mk_setR, zk_mk_cpy, zk_rv_some, zk_rv_none, Option.toList_some, Option.toList_none, List.cons_append, List.nil_append, reduceIte, eq_self, Nat.reduceLT, Nat.reduceEqDiff, and_true, true_and, reduceCtorEq, zsh_0, zsh_60, h1000, z1, y1, p1, z2, y2, p2, z3, y3, p3]
  refine hA _ ?_
  intro I2 tg2 hJ2
  simp only [u217_1177, u217_1178, u217_1179, u217_1180, u217_1181, u217_1182, u217_1183, u217_1184, u217_1185, u217_1186, u217_1187, u217_1188, u217_1189, u217_1190, u217_1191, u217_1192, u217_1193, u217_1196, u217_1197, u217_1198, u217_1199, u217_1200, u217_1201, u217_1202, u217_1203, u217_1204, u217_1205, u217_1206, u217_1207, u217_1208, u217_1209, u217_1210, u217_1211, u217_1212, u217_1215, u217_1218, u217_1219, zk_mk_1, zk_mk_I, zk_mk_R, zk_mk_set, zk_mk_setR, zk_mk_cpy, zk_rv_some, zk_rv_none, Option.toList_some, Option.toList_none, List.cons_append, List.nil_append, reduceIte, eq_self, Nat.reduceLT, Nat.reduceEqDiff, and_true, true_and, reduceCtorEq]
  exact K I2 tg2 hJ2
set_option maxRecDepth 20000 in
theorem zw_cell {L i : Nat} {xs : Nat → Int32} {I : Nat → Nat → Int32} {tg : Option Nat} {P : Option Value → zk_M → Prop} (hJ : zJJ I) (hi : i + 7 ≤ L) (hL : L ≤ 3584) (K : ∀ I2 tg2, zJJ I2 → zk_R (some (L, xs)) 900 217 1412 [some (.ref (1000 : Nat)), some (.ref (0 : Nat)), some (.ref (60 : Nat)), some (.int (nI i))] [] (zk_mk I2 tg2) P) : zk_R (some (L, xs)) 900 217 1220 [some (.ref (1000 : Nat)), some (.ref (0 : Nat)), some (.ref (60 : Nat)), some (.int (nI i))] [] (zk_mk I tg) P := by
  have z1 : zk_inb (nI (i + 1)) L = true := by rw [zn_in (by omega)]; omega
  have y1 : (nI (i + 1)).toNatClampNeg = i + 1 := zn_cl (by omega)
  have p1 : (nI i + 1 : Int32) = nI (i + 1) := zn_add i 1
  have z2 : zk_inb (nI (i + 2)) L = true := by rw [zn_in (by omega)]; omega
  have y2 : (nI (i + 2)).toNatClampNeg = i + 2 := zn_cl (by omega)
  have p2 : (nI i + 2 : Int32) = nI (i + 2) := zn_add i 2
  have z3 : zk_inb (nI (i + 3)) L = true := by rw [zn_in (by omega)]; omega
  have y3 : (nI (i + 3)).toNatClampNeg = i + 3 := zn_cl (by omega)
  have p3 : (nI i + 3 : Int32) = nI (i + 3) := zn_add i 3
  have h1000 : (83 ≤ 1000) = True := by decide
  simp only [u217_1220, u217_1221, u217_1222, u217_1223, u217_1224, u217_1225, u217_1226, u217_1227, u217_1228, u217_1229, u217_1230, u217_1231, u217_1232, u217_1233, u217_1234, u217_1235, u217_1236, u217_1239, u217_1240, u217_1241, u217_1242, u217_1243, u217_1244, u217_1245, u217_1246, u217_1247, u217_1248, u217_1249, u217_1250, u217_1251, u217_1252, u217_1253, u217_1254, u217_1255, u217_1258, u217_1261, u217_1262, zk_mk_1, zk_mk_I, zk_mk_R, zk_mk_set, zk_mk_setR, zk_mk_cpy, zk_rv_some, zk_rv_none, Option.toList_some, Option.toList_none, List.cons_append, List.nil_append, reduceIte, eq_self, Nat.reduceLT, Nat.reduceEqDiff, and_true, true_and, reduceCtorEq, zsh_0, zsh_60, h1000, z1, y1, p1, z2, y2, p2, z3, y3, p3]
  refine zo_cell hJ _ ?_
  intro v I1 tg1 hA
  simp only [u217_1220, u217_1221, u217_1222, u217_1223, u217_1224, u217_1225, u217_1226, u217_1227, u217_1228, u217_1229, u217_1230, u217_1231, u217_1232, u217_1233, u217_1234, u217_1235, u217_1236, u217_1239, u217_1240, u217_1241, u217_1242, u217_1243, u217_1244, u217_1245, u217_1246, u217_1247, u217_1248, u217_1249, u217_1250, u217_1251, u217_1252, u217_1253, u217_1254, u217_1255, u217_1258, u217_1261, u217_1262, zk_mk_1, zk_mk_I, zk_mk_R, zk_mk_set, zk_mk_setR, zk_mk_cpy, zk_rv_some, zk_rv_none, Option.toList_some, Option.toList_none, List.cons_append, List.nil_append, reduceIte, eq_self, Nat.reduceLT, Nat.reduceEqDiff, and_true, true_and, reduceCtorEq, zsh_0, zsh_60, h1000, z1, y1, p1, z2, y2, p2, z3, y3, p3]
  refine hA _ ?_
  intro I2 tg2 hJ2
  simp only [u217_1220, u217_1221, u217_1222, u217_1223, u217_1224, u217_1225, u217_1226, u217_1227, u217_1228, u217_1229, u217_1230, u217_1231, u217_1232, u217_1233, u217_1234, u217_1235, u217_1236, u217_1239, u217_1240, u217_1241, u217_1242, u217_1243, u217_1244, u217_1245, u217_1246, u217_1247, u217_1248, u217_1249, u217_1250, u217_1251, u217_1252, u217_1253, u217_1254, u217_1255, u217_1258, u217_1261, u217_1262, zk_mk_1, zk_mk_I, zk_mk_R, zk_mk_set, zk_mk_setR, zk_mk_cpy, zk_rv_some, zk_rv_none, Option.toList_some, Option.toList_none, List.cons_append, List.nil_append, reduceIte, eq_self, Nat.reduceLT, Nat.reduceEqDiff, and_true, true_and, reduceCtorEq]
  exact K I2 tg2 hJ2
set_option maxRecDepth 20000 in
theorem zw_copy {L i : Nat} {xs : Nat → Int32} {I : Nat → Nat → Int32} {tg : Option Nat} {P : Option Value → zk_M → Prop} (hJ : zJJ I) (hi : i + 7 ≤ L) (hL : L ≤ 3584) (K : ∀ I2 tg2, zJJ I2 → zk_R (some (L, xs)) 900 217 1412 [some (.ref (1000 : Nat)), some (.ref (0 : Nat)), some (.ref (60 : Nat)), some (.int (nI i))] [] (zk_mk I2 tg2) P) : zk_R (some (L, xs)) 900 217 1263 [some (.ref (1000 : Nat)), some (.ref (0 : Nat)), some (.ref (60 : Nat)), some (.int (nI i))] [] (zk_mk I tg) P := by
  have z1 : zk_inb (nI (i + 1)) L = true := by rw [zn_in (by omega)]; omega
  have y1 : (nI (i + 1)).toNatClampNeg = i + 1 := zn_cl (by omega)
  have p1 : (nI i + 1 : Int32) = nI (i + 1) := zn_add i 1
  have z2 : zk_inb (nI (i + 2)) L = true := by rw [zn_in (by omega)]; omega
  have y2 : (nI (i + 2)).toNatClampNeg = i + 2 := zn_cl (by omega)
  have p2 : (nI i + 2 : Int32) = nI (i + 2) := zn_add i 2
  have z3 : zk_inb (nI (i + 3)) L = true := by rw [zn_in (by omega)]; omega
  have y3 : (nI (i + 3)).toNatClampNeg = i + 3 := zn_cl (by omega)
  have p3 : (nI i + 3 : Int32) = nI (i + 3) := zn_add i 3
  have z4 : zk_inb (nI (i + 4)) L = true := by rw [zn_in (by omega)]; omega
  have y4 : (nI (i + 4)).toNatClampNeg = i + 4 := zn_cl (by omega)
  have p4 : (nI i + 4 : Int32) = nI (i + 4) := zn_add i 4
  have z5 : zk_inb (nI (i + 5)) L = true := by rw [zn_in (by omega)]; omega
  have y5 : (nI (i + 5)).toNatClampNeg = i + 5 := zn_cl (by omega)
  have p5 : (nI i + 5 : Int32) = nI (i + 5) := zn_add i 5
  have h1000 : (83 ≤ 1000) = True := by decide
  simp only [u217_1263, u217_1264, u217_1265, u217_1266, u217_1267, u217_1268, u217_1269, u217_1270, u217_1271, u217_1272, u217_1273, u217_1274, u217_1275, u217_1276, u217_1277, u217_1278, u217_1279, u217_1280, u217_1281, u217_1282, u217_1283, u217_1284, u217_1285, u217_1286, u217_1287, u217_1288, u217_1289, u217_1292, u217_1293, u217_1294, u217_1295, u217_1296, u217_1297, u217_1298, u217_1299, u217_1300, u217_1301, u217_1302, u217_1303, u217_1304, u217_1305, u217_1306, u217_1307, u217_1308, u217_1309, u217_1310, u217_1311, u217_1312, u217_1313, u217_1314, u217_1315, u217_1316, u217_1317, u217_1318, u217_1321, u217_1324, u217_1325, zk_mk_1, zk_mk_I, zk_mk_R, zk_mk_set, zk_mk_setR, zk_mk_cpy, zk_rv_some, zk_rv_none, Option.toList_some, Option.toList_none, List.cons_append, List.nil_append, reduceIte, eq_self, Nat.reduceLT, Nat.reduceEqDiff, and_true, true_and, reduceCtorEq, zsh_0, zsh_60, h1000, z1, y1, p1, z2, y2, p2, z3, y3, p3, z4, y4, p4, z5, y5, p5]
  refine zo_copy hJ _ ?_
  intro v I1 tg1 hA
  simp only [u217_1263, u217_1264, u217_1265, u217_1266, u217_1267, u217_1268, u217_1269, u217_1270, u217_1271, u217_1272, u217_1273, u217_1274, u217_1275, u217_1276, u217_1277, u217_1278, u217_1279, u217_1280, u217_1281, u217_1282, u217_1283, u217_1284, u217_1285, u217_1286, u217_1287, u217_1288, u217_1289, u217_1292, u217_1293, u217_1294, u217_1295, u217_1296, u217_1297, u217_1298, u217_1299, u217_1300, u217_1301, u217_1302, u217_1303, u217_1304, u217_1305, u217_1306, u217_1307, u217_1308, u217_1309, u217_1310, u217_1311, u217_1312, u217_1313, u217_1314, u217_1315, u217_1316, u217_1317, u217_1318, u217_1321, u217_1324, u217_1325, zk_mk_1, zk_mk_I, zk_mk_R, zk_mk_set, zk_mk_setR, zk_mk_cpy, zk_rv_some, zk_rv_none, Option.toList_some, Option.toList_none, List.cons_append, List.nil_append, reduceIte, eq_self, Nat.reduceLT, Nat.reduceEqDiff, and_true, true_and, reduceCtorEq, zsh_0, zsh_60, h1000, z1, y1, p1, z2, y2, p2, z3, y3, p3, z4, y4, p4, z5, y5, p5]
  refine hA _ ?_
  intro I2 tg2 hJ2
  simp only [u217_1263, u217_1264, u217_1265, u217_1266, u217_1267, u217_1268, u217_1269, u217_1270, u217_1271, u217_1272, u217_1273, u217_1274, u217_1275, u217_1276, u217_1277, u217_1278, u217_1279, u217_1280, u217_1281, u217_1282, u217_1283, u217_1284, u217_1285, u217_1286, u217_1287, u217_1288, u217_1289, u217_1292, u217_1293, u217_1294, u217_1295, u217_1296, u217_1297, u217_1298, u217_1299, u217_1300, u217_1301, u217_1302, u217_1303, u217_1304, u217_1305, u217_1306, u217_1307, u217_1308, u217_1309, u217_1310, u217_1311, u217_1312, u217_1313, u217_1314, u217_1315, u217_1316, u217_1317, u217_1318, u217_1321, u217_1324, u217_1325, zk_mk_1, zk_mk_I, zk_mk_R, zk_mk_set, zk_mk_setR, zk_mk_cpy, zk_rv_some, zk_rv_none, Option.toList_some, Option.toList_none, List.cons_append, List.nil_append, reduceIte, eq_self, Nat.reduceLT, Nat.reduceEqDiff, and_true, true_and, reduceCtorEq]
  exact K I2 tg2 hJ2
set_option maxRecDepth 20000 in
theorem zw_cardsBy {L i : Nat} {xs : Nat → Int32} {I : Nat → Nat → Int32} {tg : Option Nat} {P : Option Value → zk_M → Prop} (hJ : zJJ I) (hi : i + 7 ≤ L) (hL : L ≤ 3584) (K : ∀ I2 tg2, zJJ I2 → zk_R (some (L, xs)) 900 217 1412 [some (.ref (1000 : Nat)), some (.ref (0 : Nat)), some (.ref (60 : Nat)), some (.int (nI i))] [] (zk_mk I2 tg2) P) : zk_R (some (L, xs)) 900 217 1326 [some (.ref (1000 : Nat)), some (.ref (0 : Nat)), some (.ref (60 : Nat)), some (.int (nI i))] [] (zk_mk I tg) P := by
  have z1 : zk_inb (nI (i + 1)) L = true := by rw [zn_in (by omega)]; omega
  have y1 : (nI (i + 1)).toNatClampNeg = i + 1 := zn_cl (by omega)
  have p1 : (nI i + 1 : Int32) = nI (i + 1) := zn_add i 1
  have z2 : zk_inb (nI (i + 2)) L = true := by rw [zn_in (by omega)]; omega
  have y2 : (nI (i + 2)).toNatClampNeg = i + 2 := zn_cl (by omega)
  have p2 : (nI i + 2 : Int32) = nI (i + 2) := zn_add i 2
  have z3 : zk_inb (nI (i + 3)) L = true := by rw [zn_in (by omega)]; omega
  have y3 : (nI (i + 3)).toNatClampNeg = i + 3 := zn_cl (by omega)
  have p3 : (nI i + 3 : Int32) = nI (i + 3) := zn_add i 3
  have z4 : zk_inb (nI (i + 4)) L = true := by rw [zn_in (by omega)]; omega
  have y4 : (nI (i + 4)).toNatClampNeg = i + 4 := zn_cl (by omega)
  have p4 : (nI i + 4 : Int32) = nI (i + 4) := zn_add i 4
  have h1000 : (83 ≤ 1000) = True := by decide
  simp only [u217_1326, u217_1327, u217_1328, u217_1329, u217_1330, u217_1331, u217_1332, u217_1333, u217_1334, u217_1335, u217_1336, u217_1337, u217_1338, u217_1339, u217_1340, u217_1341, u217_1342, u217_1343, u217_1344, u217_1345, u217_1346, u217_1347, u217_1350, u217_1351, u217_1352, u217_1353, u217_1354, u217_1355, u217_1356, u217_1357, u217_1358, u217_1359, u217_1360, u217_1361, u217_1362, u217_1363, u217_1364, u217_1365, u217_1366, u217_1367, u217_1368, u217_1369, u217_1370, u217_1371, u217_1374, u217_1377, u217_1378, zk_mk_1, zk_mk_I, zk_mk_R, zk_mk_set, zk_mk_setR, zk_mk_cpy, zk_rv_some, zk_rv_none, Option.toList_some, Option.toList_none, List.cons_append, List.nil_append, reduceIte, eq_self, Nat.reduceLT, Nat.reduceEqDiff, and_true, true_and, reduceCtorEq, zsh_0, zsh_60, h1000, z1, y1, p1, z2, y2, p2, z3, y3, p3, z4, y4, p4]
  refine zo_cardsBy hJ _ ?_
  intro v I1 tg1 hA
  simp only [u217_1326, u217_1327, u217_1328, u217_1329, u217_1330, u217_1331, u217_1332, u217_1333, u217_1334, u217_1335, u217_1336, u217_1337, u217_1338, u217_1339, u217_1340, u217_1341, u217_1342, u217_1343, u217_1344, u217_1345, u217_1346, u217_1347, u217_1350, u217_1351, u217_1352, u217_1353, u217_1354, u217_1355, u217_1356, u217_1357, u217_1358, u217_1359, u217_1360, u217_1361, u217_1362, u217_1363, u217_1364, u217_1365, u217_1366, u217_1367, u217_1368, u217_1369, u217_1370, u217_1371, u217_1374, u217_1377, u217_1378, zk_mk_1, zk_mk_I, zk_mk_R, zk_mk_set, zk_mk_setR, zk_mk_cpy, zk_rv_some, zk_rv_none, Option.toList_some, Option.toList_none, List.cons_append, List.nil_append, reduceIte, eq_self, Nat.reduceLT, Nat.reduceEqDiff, and_true, true_and, reduceCtorEq, zsh_0, zsh_60, h1000, z1, y1, p1, z2, y2, p2, z3, y3, p3, z4, y4, p4]
  refine hA _ ?_
  intro I2 tg2 hJ2
  simp only [u217_1326, u217_1327, u217_1328, u217_1329, u217_1330, u217_1331, u217_1332, u217_1333, u217_1334, u217_1335, u217_1336, u217_1337, u217_1338, u217_1339, u217_1340, u217_1341, u217_1342, u217_1343, u217_1344, u217_1345, u217_1346, u217_1347, u217_1350, u217_1351, u217_1352, u217_1353, u217_1354, u217_1355, u217_1356, u217_1357, u217_1358, u217_1359, u217_1360, u217_1361, u217_1362, u217_1363, u217_1364, u217_1365, u217_1366, u217_1367, u217_1368, u217_1369, u217_1370, u217_1371, u217_1374, u217_1377, u217_1378, zk_mk_1, zk_mk_I, zk_mk_R, zk_mk_set, zk_mk_setR, zk_mk_cpy, zk_rv_some, zk_rv_none, Option.toList_some, Option.toList_none, List.cons_append, List.nil_append, reduceIte, eq_self, Nat.reduceLT, Nat.reduceEqDiff, and_true, true_and, reduceCtorEq]
  exact K I2 tg2 hJ2
set_option maxRecDepth 20000 in
theorem zw_taken {L i : Nat} {xs : Nat → Int32} {I : Nat → Nat → Int32} {tg : Option Nat} {P : Option Value → zk_M → Prop} (hJ : zJJ I) (hi : i + 7 ≤ L) (hL : L ≤ 3584) (K : ∀ I2 tg2, zJJ I2 → zk_R (some (L, xs)) 900 217 1412 [some (.ref (1000 : Nat)), some (.ref (0 : Nat)), some (.ref (60 : Nat)), some (.int (nI i))] [] (zk_mk I2 tg2) P) : zk_R (some (L, xs)) 900 217 1379 [some (.ref (1000 : Nat)), some (.ref (0 : Nat)), some (.ref (60 : Nat)), some (.int (nI i))] [] (zk_mk I tg) P := by
  have z1 : zk_inb (nI (i + 1)) L = true := by rw [zn_in (by omega)]; omega
  have y1 : (nI (i + 1)).toNatClampNeg = i + 1 := zn_cl (by omega)
  have p1 : (nI i + 1 : Int32) = nI (i + 1) := zn_add i 1
  have z2 : zk_inb (nI (i + 2)) L = true := by rw [zn_in (by omega)]; omega
  have y2 : (nI (i + 2)).toNatClampNeg = i + 2 := zn_cl (by omega)
  have p2 : (nI i + 2 : Int32) = nI (i + 2) := zn_add i 2
  have h1000 : (83 ≤ 1000) = True := by decide
  simp only [u217_1379, u217_1380, u217_1381, u217_1382, u217_1383, u217_1384, u217_1385, u217_1386, u217_1387, u217_1388, u217_1389, u217_1390, u217_1393, u217_1394, u217_1395, u217_1396, u217_1397, u217_1398, u217_1399, u217_1400, u217_1401, u217_1402, u217_1403, u217_1404, u217_1407, u217_1410, u217_1411, zk_mk_1, zk_mk_I, zk_mk_R, zk_mk_set, zk_mk_setR, zk_mk_cpy, zk_rv_some, zk_rv_none, Option.toList_some, Option.toList_none, List.cons_append, List.nil_append, reduceIte, eq_self, Nat.reduceLT, Nat.reduceEqDiff, and_true, true_and, reduceCtorEq, zsh_0, zsh_60, h1000, z1, y1, p1, z2, y2, p2]
  refine zo_taken hJ _ ?_
  intro v I1 tg1 hA
  simp only [u217_1379, u217_1380, u217_1381, u217_1382, u217_1383, u217_1384, u217_1385, u217_1386, u217_1387, u217_1388, u217_1389, u217_1390, u217_1393, u217_1394, u217_1395, u217_1396, u217_1397, u217_1398, u217_1399, u217_1400, u217_1401, u217_1402, u217_1403, u217_1404, u217_1407, u217_1410, u217_1411, zk_mk_1, zk_mk_I, zk_mk_R, zk_mk_set, zk_mk_setR, zk_mk_cpy, zk_rv_some, zk_rv_none, Option.toList_some, Option.toList_none, List.cons_append, List.nil_append, reduceIte, eq_self, Nat.reduceLT, Nat.reduceEqDiff, and_true, true_and, reduceCtorEq, zsh_0, zsh_60, h1000, z1, y1, p1, z2, y2, p2]
  refine hA _ ?_
  intro I2 tg2 hJ2
  simp only [u217_1379, u217_1380, u217_1381, u217_1382, u217_1383, u217_1384, u217_1385, u217_1386, u217_1387, u217_1388, u217_1389, u217_1390, u217_1393, u217_1394, u217_1395, u217_1396, u217_1397, u217_1398, u217_1399, u217_1400, u217_1401, u217_1402, u217_1403, u217_1404, u217_1407, u217_1410, u217_1411, zk_mk_1, zk_mk_I, zk_mk_R, zk_mk_set, zk_mk_setR, zk_mk_cpy, zk_rv_some, zk_rv_none, Option.toList_some, Option.toList_none, List.cons_append, List.nil_append, reduceIte, eq_self, Nat.reduceLT, Nat.reduceEqDiff, and_true, true_and, reduceCtorEq]
  exact K I2 tg2 hJ2
