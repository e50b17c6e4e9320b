/-! The law's body: one turn of its loop. -/
section BODY
variable {w u v : jmW} {L i : Nat} {xs : Nat → Int} {tl : jmL} {P : jmF → Prop}
/-- as ints are -/
def XB (xs : Nat → Int) : Prop := ∀ j, -2147483648 ≤ xs j ∧ xs j < 2147483648
theorem LI.s7 (hL : LI L i xs w) : mS w 64 = (1, 7, 0) := by
  obtain ⟨hB, cnt, T, ft, pl, tr, hc, hm, ht, l0 | ⟨h, H, s, l⟩⟩ := hL
  · exact l0.1.1.s
  · exact l.1.s64
theorem LI.s9 (hL : LI L i xs w) : mS w 238 = (1, 9, 0) := by
  obtain ⟨hB, cnt, T, ft, pl, tr, hc, hm, ht, l⟩ := hL
  exact hm.1.s0
theorem lw_head (hB : LB L i xs w) (hL2 : L ≤ 3072) (h6 : 6 * i + 6 ≤ L) : jto P (25, (0, jvr 0) :: (1, jvr 64) :: (2, jvr 238) :: (3, jvr 252) :: (4, .inl (6 * (i : Int))) :: tl, [.inl (6 * (i : Int))], w) = jto P (40, (0, jvr 0) :: (1, jvr 64) :: (2, jvr 238) :: (3, jvr 252) :: (4, .inl (6 * (i : Int))) :: tl, [.inl (ji_and (xs (6 * (i : Int)).toNat) 63)], w) := by
  obtain ⟨y1, y2, y3, y4, y5, y6⟩ := hB
  simp (disch := omega) only [z312_25, z312_26, z312_27, z312_29, z312_30, z312_33, z312_34, z312_36, z312_37, z312_39, jwd_c, jwd_0, Nat.reduceLeDiff, Nat.reduceEqDiff, Nat.reduceAdd, Nat.reduceSub, Nat.reduceMul, Int.reduceAdd, Int.reduceSub, Int.reduceMul, Int.reduceNeg, Int.reduceEq, Int.reduceLT, Int.reduceLE, jp_ldi_i, jp_lda_a, jp_inc_i, jp_gb_t, jp_gr_4, jp_gw_2, jp_cs_t, jp_c_i, jp_c_n, jg_c, jg_n, js_c, js_n, jrm_c, jrm_n, j2_i, j2_l, j2_a, jin_t, jix_t, jwd_le, ↓reduceIte, decide_true, or_true, true_or, and_self, false_or, or_false, reduceCtorEq, Bool.false_eq_true, and_false, false_and, eq_self, true_and, and_true, zero_ne, ↓br_lt_t, ↓br_lt_f, ↓br_eq_t, ↓br_eq_f, ↓br_lz_t, ↓br_lz_f, ↓br_ez_t, ↓br_ez_f, ↓br_gz_t, ↓br_gz_f, y1, y2]
theorem lw_exit (hB : LB L i xs w) (hL2 : L ≤ 3072) (h6 : ¬ 6 * i + 6 ≤ L) (hi : i ≤ 512) : jto P (25, (0, jvr 0) :: (1, jvr 64) :: (2, jvr 238) :: (3, jvr 252) :: (4, .inl (6 * (i : Int))) :: tl, [.inl (6 * (i : Int))], w) = jto P (1597, (0, jvr 0) :: (1, jvr 64) :: (2, jvr 238) :: (3, jvr 252) :: (4, .inl (6 * (i : Int))) :: tl, [.inl 1], w) := by
  obtain ⟨y1, y2, y3, y4, y5, y6⟩ := hB
  simp (disch := omega) only [z312_25, z312_26, z312_27, z312_29, z312_30, z312_1596, jwd_c, jwd_0, Nat.reduceLeDiff, Nat.reduceEqDiff, Nat.reduceAdd, Nat.reduceSub, Nat.reduceMul, Int.reduceAdd, Int.reduceSub, Int.reduceMul, Int.reduceNeg, Int.reduceEq, Int.reduceLT, Int.reduceLE, jp_ldi_i, jp_lda_a, jp_inc_i, jp_gb_t, jp_gr_4, jp_gw_2, jp_cs_t, jp_c_i, jp_c_n, jg_c, jg_n, js_c, js_n, jrm_c, jrm_n, j2_i, j2_l, j2_a, jin_t, jix_t, jwd_le, ↓reduceIte, decide_true, or_true, true_or, and_self, false_or, or_false, reduceCtorEq, Bool.false_eq_true, and_false, false_and, eq_self, true_and, and_true, zero_ne, ↓br_lt_t, ↓br_lt_f, ↓br_eq_t, ↓br_eq_f, ↓br_lz_t, ↓br_lz_f, ↓br_ez_t, ↓br_ez_f, ↓br_gz_t, ↓br_gz_f, y1, y2]
theorem lw_inc (hj : jrm tl 4 = tl) : jto P (1590, (0, jvr 0) :: (1, jvr 64) :: (2, jvr 238) :: (3, jvr 252) :: (4, .inl (6 * (i : Int))) :: tl, [], w) = jto P (23, (0, jvr 0) :: (1, jvr 64) :: (2, jvr 238) :: (3, jvr 252) :: (4, .inl (6 * (i : Int) + 6)) :: tl, [], w) := by
  simp (disch := omega) only [z312_1590, z312_1593, jwd_c, jwd_0, Nat.reduceLeDiff, Nat.reduceEqDiff, Nat.reduceAdd, Nat.reduceSub, Nat.reduceMul, Int.reduceAdd, Int.reduceSub, Int.reduceMul, Int.reduceNeg, Int.reduceEq, Int.reduceLT, Int.reduceLE, jp_ldi_i, jp_lda_a, jp_inc_i, jp_gb_t, jp_gr_4, jp_gw_2, jp_cs_t, jp_c_i, jp_c_n, jg_c, jg_n, js_c, js_n, jrm_c, jrm_n, j2_i, j2_l, j2_a, jin_t, jix_t, jwd_le, ↓reduceIte, decide_true, or_true, true_or, and_self, false_or, or_false, reduceCtorEq, Bool.false_eq_true, and_false, false_and, eq_self, true_and, and_true, zero_ne, hj]
theorem lwc_0 (hL : LI L i xs w) (hL2 : L ≤ 3072) (hi : i < 512) (hx : XB xs) (h6 : 6 * i + 6 ≤ L) (hj : jrm tl 4 = tl) (hP : ∀ v, LI L (i + 1) xs v → P (23, (0, jvr 0) :: (1, jvr 64) :: (2, jvr 238) :: (3, jvr 252) :: (4, .inl (6 * (i : Int) + 6)) :: tl, [], v)) : jto P (40, (0, jvr 0) :: (1, jvr 64) :: (2, jvr 238) :: (3, jvr 252) :: (4, .inl (6 * (i : Int))) :: tl, [.inl 0], w) := by
  obtain ⟨y1, y2, y3, y4, y5, y6⟩ := hL.1
  have s7 := hL.s7
  have s9 := hL.s9
  obtain ⟨a, u, v, e1, e2, su, iu, hv⟩ := rL_feed (a := xs (6 * (i : Int) + 1).toNat) (b := xs (6 * (i : Int) + 2).toNat) (c := xs (6 * (i : Int) + 3).toNat) (d := xs (6 * (i : Int) + 4).toNat) (e := xs (6 * (i : Int) + 5).toNat) hL
  have z1 : mS u 0 = (4, 0, L) := by rw [su]; exact y1
  have z2 : mI u 0 = xs := iu.trans y2
  have z9 : mS u 238 = (1, 9, 0) := by rw [su]; exact s9
  have e : jto P (40, (0, jvr 0) :: (1, jvr 64) :: (2, jvr 238) :: (3, jvr 252) :: (4, .inl (6 * (i : Int))) :: tl, [.inl 0], w) = jto P (23, (0, jvr 0) :: (1, jvr 64) :: (2, jvr 238) :: (3, jvr 252) :: (4, .inl (6 * (i : Int) + 6)) :: tl, [], v) := by
    simp (disch := omega) only [z312_40_0, z312_260, z312_261, z312_262, z312_264, z312_265, z312_266, z312_267, z312_268, z312_270, z312_271, z312_272, z312_273, z312_274, z312_276, z312_277, z312_278, z312_279, z312_280, z312_282, z312_283, z312_284, z312_285, z312_286, z312_288, z312_289, z312_290, z312_291, z312_294, z312_295, z312_296, z312_298, z312_299, z312_300, z312_301, z312_302, z312_304, z312_305, z312_306, z312_307, z312_308, z312_310, z312_311, z312_312, z312_313, z312_314, z312_316, z312_317, z312_318, z312_319, z312_320, z312_322, z312_323, z312_324, z312_325, z312_328, z312_331, z312_1590, z312_1593, jwd_c, jwd_0, Nat.reduceLeDiff, Nat.reduceEqDiff, Nat.reduceAdd, Nat.reduceSub, Nat.reduceMul, Int.reduceAdd, Int.reduceSub, Int.reduceMul, Int.reduceNeg, Int.reduceEq, Int.reduceLT, Int.reduceLE, jp_ldi_i, jp_lda_a, jp_inc_i, jp_gb_t, jp_gr_4, jp_gw_2, jp_cs_t, jp_c_i, jp_c_n, jg_c, jg_n, js_c, js_n, jrm_c, jrm_n, j2_i, j2_l, j2_a, jin_t, jix_t, jwd_le, ↓reduceIte, decide_true, or_true, true_or, and_self, false_or, or_false, reduceCtorEq, Bool.false_eq_true, and_false, false_and, eq_self, true_and, and_true, zero_ne, hj, y1, y2, s7, z1, z2, z9, e1, e2]
  rw [e]
  exact jto_stop rfl (hP v hv)
theorem lwc_1 (hL : LI L i xs w) (hL2 : L ≤ 3072) (hi : i < 512) (hx : XB xs) (h6 : 6 * i + 6 ≤ L) (hj : jrm tl 4 = tl) (hP : ∀ v, LI L (i + 1) xs v → P (23, (0, jvr 0) :: (1, jvr 64) :: (2, jvr 238) :: (3, jvr 252) :: (4, .inl (6 * (i : Int) + 6)) :: tl, [], v)) : jto P (40, (0, jvr 0) :: (1, jvr 64) :: (2, jvr 238) :: (3, jvr 252) :: (4, .inl (6 * (i : Int))) :: tl, [.inl 1], w) := by
  obtain ⟨y1, y2, y3, y4, y5, y6⟩ := hL.1
  have s7 := hL.s7
  have s9 := hL.s9
  obtain ⟨a, u, v, e1, e2, su, iu, hv⟩ := rL_hall (x := xs (6 * (i : Int) + 1).toNat) hL hi (hx (6 * (i : Int) + 1).toNat).1 (hx (6 * (i : Int) + 1).toNat).2
  have z1 : mS u 0 = (4, 0, L) := by rw [su]; exact y1
  have z2 : mI u 0 = xs := iu.trans y2
  have z9 : mS u 238 = (1, 9, 0) := by rw [su]; exact s9
  have e : jto P (40, (0, jvr 0) :: (1, jvr 64) :: (2, jvr 238) :: (3, jvr 252) :: (4, .inl (6 * (i : Int))) :: tl, [.inl 1], w) = jto P (23, (0, jvr 0) :: (1, jvr 64) :: (2, jvr 238) :: (3, jvr 252) :: (4, .inl (6 * (i : Int) + 6)) :: tl, [], v) := by
    simp (disch := omega) only [z312_40_1, z312_333, z312_334, z312_335, z312_337, z312_338, z312_339, z312_340, z312_343, z312_344, z312_345, z312_347, z312_348, z312_349, z312_350, z312_353, z312_356, z312_1590, z312_1593, jwd_c, jwd_0, Nat.reduceLeDiff, Nat.reduceEqDiff, Nat.reduceAdd, Nat.reduceSub, Nat.reduceMul, Int.reduceAdd, Int.reduceSub, Int.reduceMul, Int.reduceNeg, Int.reduceEq, Int.reduceLT, Int.reduceLE, jp_ldi_i, jp_lda_a, jp_inc_i, jp_gb_t, jp_gr_4, jp_gw_2, jp_cs_t, jp_c_i, jp_c_n, jg_c, jg_n, js_c, js_n, jrm_c, jrm_n, j2_i, j2_l, j2_a, jin_t, jix_t, jwd_le, ↓reduceIte, decide_true, or_true, true_or, and_self, false_or, or_false, reduceCtorEq, Bool.false_eq_true, and_false, false_and, eq_self, true_and, and_true, zero_ne, hj, y1, y2, s7, z1, z2, z9, e1, e2]
  rw [e]
  exact jto_stop rfl (hP v hv)
theorem lwc_2 (hL : LI L i xs w) (hL2 : L ≤ 3072) (hi : i < 512) (hx : XB xs) (h6 : 6 * i + 6 ≤ L) (hj : jrm tl 4 = tl) (hP : ∀ v, LI L (i + 1) xs v → P (23, (0, jvr 0) :: (1, jvr 64) :: (2, jvr 238) :: (3, jvr 252) :: (4, .inl (6 * (i : Int) + 6)) :: tl, [], v)) : jto P (40, (0, jvr 0) :: (1, jvr 64) :: (2, jvr 238) :: (3, jvr 252) :: (4, .inl (6 * (i : Int))) :: tl, [.inl 2], w) := by
  obtain ⟨y1, y2, y3, y4, y5, y6⟩ := hL.1
  have s7 := hL.s7
  have s9 := hL.s9
  obtain ⟨a, u, v, e1, e2, su, iu, hv⟩ := rL_fault hL
  have z1 : mS u 0 = (4, 0, L) := by rw [su]; exact y1
  have z2 : mI u 0 = xs := iu.trans y2
  have z9 : mS u 238 = (1, 9, 0) := by rw [su]; exact s9
  have e : jto P (40, (0, jvr 0) :: (1, jvr 64) :: (2, jvr 238) :: (3, jvr 252) :: (4, .inl (6 * (i : Int))) :: tl, [.inl 2], w) = jto P (23, (0, jvr 0) :: (1, jvr 64) :: (2, jvr 238) :: (3, jvr 252) :: (4, .inl (6 * (i : Int) + 6)) :: tl, [], v) := by
    simp (disch := omega) only [z312_40_2, z312_358, z312_359, z312_362, z312_363, z312_366, z312_369, z312_1590, z312_1593, jwd_c, jwd_0, Nat.reduceLeDiff, Nat.reduceEqDiff, Nat.reduceAdd, Nat.reduceSub, Nat.reduceMul, Int.reduceAdd, Int.reduceSub, Int.reduceMul, Int.reduceNeg, Int.reduceEq, Int.reduceLT, Int.reduceLE, jp_ldi_i, jp_lda_a, jp_inc_i, jp_gb_t, jp_gr_4, jp_gw_2, jp_cs_t, jp_c_i, jp_c_n, jg_c, jg_n, js_c, js_n, jrm_c, jrm_n, j2_i, j2_l, j2_a, jin_t, jix_t, jwd_le, ↓reduceIte, decide_true, or_true, true_or, and_self, false_or, or_false, reduceCtorEq, Bool.false_eq_true, and_false, false_and, eq_self, true_and, and_true, zero_ne, hj, y1, y2, s7, z1, z2, z9, e1, e2]
  rw [e]
  exact jto_stop rfl (hP v hv)
theorem lwc_3 (hL : LI L i xs w) (hL2 : L ≤ 3072) (hi : i < 512) (hx : XB xs) (h6 : 6 * i + 6 ≤ L) (hj : jrm tl 4 = tl) (hP : ∀ v, LI L (i + 1) xs v → P (23, (0, jvr 0) :: (1, jvr 64) :: (2, jvr 238) :: (3, jvr 252) :: (4, .inl (6 * (i : Int) + 6)) :: tl, [], v)) : jto P (40, (0, jvr 0) :: (1, jvr 64) :: (2, jvr 238) :: (3, jvr 252) :: (4, .inl (6 * (i : Int))) :: tl, [.inl 3], w) := by
  obtain ⟨y1, y2, y3, y4, y5, y6⟩ := hL.1
  have s7 := hL.s7
  have s9 := hL.s9
  obtain ⟨a, u, v, e1, e2, su, iu, hv⟩ := rL_where hL
  have z1 : mS u 0 = (4, 0, L) := by rw [su]; exact y1
  have z2 : mI u 0 = xs := iu.trans y2
  have z9 : mS u 238 = (1, 9, 0) := by rw [su]; exact s9
  have e : jto P (40, (0, jvr 0) :: (1, jvr 64) :: (2, jvr 238) :: (3, jvr 252) :: (4, .inl (6 * (i : Int))) :: tl, [.inl 3], w) = jto P (23, (0, jvr 0) :: (1, jvr 64) :: (2, jvr 238) :: (3, jvr 252) :: (4, .inl (6 * (i : Int) + 6)) :: tl, [], v) := by
    simp (disch := omega) only [z312_40_3, z312_371, z312_372, z312_375, z312_376, z312_379, z312_382, z312_1590, z312_1593, jwd_c, jwd_0, Nat.reduceLeDiff, Nat.reduceEqDiff, Nat.reduceAdd, Nat.reduceSub, Nat.reduceMul, Int.reduceAdd, Int.reduceSub, Int.reduceMul, Int.reduceNeg, Int.reduceEq, Int.reduceLT, Int.reduceLE, jp_ldi_i, jp_lda_a, jp_inc_i, jp_gb_t, jp_gr_4, jp_gw_2, jp_cs_t, jp_c_i, jp_c_n, jg_c, jg_n, js_c, js_n, jrm_c, jrm_n, j2_i, j2_l, j2_a, jin_t, jix_t, jwd_le, ↓reduceIte, decide_true, or_true, true_or, and_self, false_or, or_false, reduceCtorEq, Bool.false_eq_true, and_false, false_and, eq_self, true_and, and_true, zero_ne, hj, y1, y2, s7, z1, z2, z9, e1, e2]
  rw [e]
  exact jto_stop rfl (hP v hv)
theorem lwc_4 (hL : LI L i xs w) (hL2 : L ≤ 3072) (hi : i < 512) (hx : XB xs) (h6 : 6 * i + 6 ≤ L) (hj : jrm tl 4 = tl) (hP : ∀ v, LI L (i + 1) xs v → P (23, (0, jvr 0) :: (1, jvr 64) :: (2, jvr 238) :: (3, jvr 252) :: (4, .inl (6 * (i : Int) + 6)) :: tl, [], v)) : jto P (40, (0, jvr 0) :: (1, jvr 64) :: (2, jvr 238) :: (3, jvr 252) :: (4, .inl (6 * (i : Int))) :: tl, [.inl 4], w) := by
  obtain ⟨y1, y2, y3, y4, y5, y6⟩ := hL.1
  have s7 := hL.s7
  have s9 := hL.s9
  obtain ⟨a, u, v, e1, e2, su, iu, hv⟩ := rL_cell (x := xs (6 * (i : Int) + 1).toNat) (y := xs (6 * (i : Int) + 2).toNat) hL hi (hx (6 * (i : Int) + 1).toNat).1 (hx (6 * (i : Int) + 1).toNat).2 (hx (6 * (i : Int) + 2).toNat).1 (hx (6 * (i : Int) + 2).toNat).2
  have z1 : mS u 0 = (4, 0, L) := by rw [su]; exact y1
  have z2 : mI u 0 = xs := iu.trans y2
  have z9 : mS u 238 = (1, 9, 0) := by rw [su]; exact s9
  have e : jto P (40, (0, jvr 0) :: (1, jvr 64) :: (2, jvr 238) :: (3, jvr 252) :: (4, .inl (6 * (i : Int))) :: tl, [.inl 4], w) = jto P (23, (0, jvr 0) :: (1, jvr 64) :: (2, jvr 238) :: (3, jvr 252) :: (4, .inl (6 * (i : Int) + 6)) :: tl, [], v) := by
    simp (disch := omega) only [z312_40_4, z312_384, z312_385, z312_386, z312_388, z312_389, z312_390, z312_391, z312_392, z312_394, z312_395, z312_396, z312_397, z312_400, z312_401, z312_402, z312_404, z312_405, z312_406, z312_407, z312_408, z312_410, z312_411, z312_412, z312_413, z312_416, z312_419, z312_1590, z312_1593, jwd_c, jwd_0, Nat.reduceLeDiff, Nat.reduceEqDiff, Nat.reduceAdd, Nat.reduceSub, Nat.reduceMul, Int.reduceAdd, Int.reduceSub, Int.reduceMul, Int.reduceNeg, Int.reduceEq, Int.reduceLT, Int.reduceLE, jp_ldi_i, jp_lda_a, jp_inc_i, jp_gb_t, jp_gr_4, jp_gw_2, jp_cs_t, jp_c_i, jp_c_n, jg_c, jg_n, js_c, js_n, jrm_c, jrm_n, j2_i, j2_l, j2_a, jin_t, jix_t, jwd_le, ↓reduceIte, decide_true, or_true, true_or, and_self, false_or, or_false, reduceCtorEq, Bool.false_eq_true, and_false, false_and, eq_self, true_and, and_true, zero_ne, hj, y1, y2, s7, z1, z2, z9, e1, e2]
  rw [e]
  exact jto_stop rfl (hP v hv)
theorem lwc_5 (hL : LI L i xs w) (hL2 : L ≤ 3072) (hi : i < 512) (hx : XB xs) (h6 : 6 * i + 6 ≤ L) (hj : jrm tl 4 = tl) (hP : ∀ v, LI L (i + 1) xs v → P (23, (0, jvr 0) :: (1, jvr 64) :: (2, jvr 238) :: (3, jvr 252) :: (4, .inl (6 * (i : Int) + 6)) :: tl, [], v)) : jto P (40, (0, jvr 0) :: (1, jvr 64) :: (2, jvr 238) :: (3, jvr 252) :: (4, .inl (6 * (i : Int))) :: tl, [.inl 5], w) := by
  obtain ⟨y1, y2, y3, y4, y5, y6⟩ := hL.1
  have s7 := hL.s7
  have s9 := hL.s9
  obtain ⟨a, u, v, e1, e2, su, iu, hv⟩ := rL_many hL hi
  have z1 : mS u 0 = (4, 0, L) := by rw [su]; exact y1
  have z2 : mI u 0 = xs := iu.trans y2
  have z9 : mS u 238 = (1, 9, 0) := by rw [su]; exact s9
  have e : jto P (40, (0, jvr 0) :: (1, jvr 64) :: (2, jvr 238) :: (3, jvr 252) :: (4, .inl (6 * (i : Int))) :: tl, [.inl 5], w) = jto P (23, (0, jvr 0) :: (1, jvr 64) :: (2, jvr 238) :: (3, jvr 252) :: (4, .inl (6 * (i : Int) + 6)) :: tl, [], v) := by
    simp (disch := omega) only [z312_40_5, z312_421, z312_422, z312_425, z312_426, z312_429, z312_432, z312_1590, z312_1593, jwd_c, jwd_0, Nat.reduceLeDiff, Nat.reduceEqDiff, Nat.reduceAdd, Nat.reduceSub, Nat.reduceMul, Int.reduceAdd, Int.reduceSub, Int.reduceMul, Int.reduceNeg, Int.reduceEq, Int.reduceLT, Int.reduceLE, jp_ldi_i, jp_lda_a, jp_inc_i, jp_gb_t, jp_gr_4, jp_gw_2, jp_cs_t, jp_c_i, jp_c_n, jg_c, jg_n, js_c, js_n, jrm_c, jrm_n, j2_i, j2_l, j2_a, jin_t, jix_t, jwd_le, ↓reduceIte, decide_true, or_true, true_or, and_self, false_or, or_false, reduceCtorEq, Bool.false_eq_true, and_false, false_and, eq_self, true_and, and_true, zero_ne, hj, y1, y2, s7, z1, z2, z9, e1, e2]
  rw [e]
  exact jto_stop rfl (hP v hv)
theorem lwc_6 (hL : LI L i xs w) (hL2 : L ≤ 3072) (hi : i < 512) (hx : XB xs) (h6 : 6 * i + 6 ≤ L) (hj : jrm tl 4 = tl) (hP : ∀ v, LI L (i + 1) xs v → P (23, (0, jvr 0) :: (1, jvr 64) :: (2, jvr 238) :: (3, jvr 252) :: (4, .inl (6 * (i : Int) + 6)) :: tl, [], v)) : jto P (40, (0, jvr 0) :: (1, jvr 64) :: (2, jvr 238) :: (3, jvr 252) :: (4, .inl (6 * (i : Int))) :: tl, [.inl 6], w) := by
  obtain ⟨y1, y2, y3, y4, y5, y6⟩ := hL.1
  have s7 := hL.s7
  have s9 := hL.s9
  obtain ⟨a, u, v, e1, e2, su, iu, hv⟩ := rL_dancer (x := xs (6 * (i : Int) + 1).toNat) (y := xs (6 * (i : Int) + 2).toNat) hL hi (hx (6 * (i : Int) + 1).toNat).1 (hx (6 * (i : Int) + 1).toNat).2 (hx (6 * (i : Int) + 2).toNat).1 (hx (6 * (i : Int) + 2).toNat).2
  have z1 : mS u 0 = (4, 0, L) := by rw [su]; exact y1
  have z2 : mI u 0 = xs := iu.trans y2
  have z9 : mS u 238 = (1, 9, 0) := by rw [su]; exact s9
  have e : jto P (40, (0, jvr 0) :: (1, jvr 64) :: (2, jvr 238) :: (3, jvr 252) :: (4, .inl (6 * (i : Int))) :: tl, [.inl 6], w) = jto P (23, (0, jvr 0) :: (1, jvr 64) :: (2, jvr 238) :: (3, jvr 252) :: (4, .inl (6 * (i : Int) + 6)) :: tl, [], v) := by
    simp (disch := omega) only [z312_40_6, z312_434, z312_435, z312_436, z312_438, z312_439, z312_440, z312_441, z312_442, z312_444, z312_445, z312_446, z312_447, z312_450, z312_451, z312_452, z312_454, z312_455, z312_456, z312_457, z312_458, z312_460, z312_461, z312_462, z312_463, z312_466, z312_469, z312_1590, z312_1593, jwd_c, jwd_0, Nat.reduceLeDiff, Nat.reduceEqDiff, Nat.reduceAdd, Nat.reduceSub, Nat.reduceMul, Int.reduceAdd, Int.reduceSub, Int.reduceMul, Int.reduceNeg, Int.reduceEq, Int.reduceLT, Int.reduceLE, jp_ldi_i, jp_lda_a, jp_inc_i, jp_gb_t, jp_gr_4, jp_gw_2, jp_cs_t, jp_c_i, jp_c_n, jg_c, jg_n, js_c, js_n, jrm_c, jrm_n, j2_i, j2_l, j2_a, jin_t, jix_t, jwd_le, ↓reduceIte, decide_true, or_true, true_or, and_self, false_or, or_false, reduceCtorEq, Bool.false_eq_true, and_false, false_and, eq_self, true_and, and_true, zero_ne, hj, y1, y2, s7, z1, z2, z9, e1, e2]
  rw [e]
  exact jto_stop rfl (hP v hv)
theorem lwc_7 (hL : LI L i xs w) (hL2 : L ≤ 3072) (hi : i < 512) (hx : XB xs) (h6 : 6 * i + 6 ≤ L) (hj : jrm tl 4 = tl) (hP : ∀ v, LI L (i + 1) xs v → P (23, (0, jvr 0) :: (1, jvr 64) :: (2, jvr 238) :: (3, jvr 252) :: (4, .inl (6 * (i : Int) + 6)) :: tl, [], v)) : jto P (40, (0, jvr 0) :: (1, jvr 64) :: (2, jvr 238) :: (3, jvr 252) :: (4, .inl (6 * (i : Int))) :: tl, [.inl 7], w) := by
  obtain ⟨y1, y2, y3, y4, y5, y6⟩ := hL.1
  have s7 := hL.s7
  have s9 := hL.s9
  obtain ⟨a, u, v, e1, e2, su, iu, hv⟩ := rL_stands (x := xs (6 * (i : Int) + 1).toNat) (y := xs (6 * (i : Int) + 2).toNat) hL hi (hx (6 * (i : Int) + 1).toNat).1 (hx (6 * (i : Int) + 1).toNat).2 (hx (6 * (i : Int) + 2).toNat).1 (hx (6 * (i : Int) + 2).toNat).2
  have z1 : mS u 0 = (4, 0, L) := by rw [su]; exact y1
  have z2 : mI u 0 = xs := iu.trans y2
  have z9 : mS u 238 = (1, 9, 0) := by rw [su]; exact s9
  have e : jto P (40, (0, jvr 0) :: (1, jvr 64) :: (2, jvr 238) :: (3, jvr 252) :: (4, .inl (6 * (i : Int))) :: tl, [.inl 7], w) = jto P (23, (0, jvr 0) :: (1, jvr 64) :: (2, jvr 238) :: (3, jvr 252) :: (4, .inl (6 * (i : Int) + 6)) :: tl, [], v) := by
    simp (disch := omega) only [z312_40_7, z312_471, z312_472, z312_473, z312_475, z312_476, z312_477, z312_478, z312_479, z312_481, z312_482, z312_483, z312_484, z312_487, z312_488, z312_489, z312_491, z312_492, z312_493, z312_494, z312_495, z312_497, z312_498, z312_499, z312_500, z312_503, z312_506, z312_1590, z312_1593, jwd_c, jwd_0, Nat.reduceLeDiff, Nat.reduceEqDiff, Nat.reduceAdd, Nat.reduceSub, Nat.reduceMul, Int.reduceAdd, Int.reduceSub, Int.reduceMul, Int.reduceNeg, Int.reduceEq, Int.reduceLT, Int.reduceLE, jp_ldi_i, jp_lda_a, jp_inc_i, jp_gb_t, jp_gr_4, jp_gw_2, jp_cs_t, jp_c_i, jp_c_n, jg_c, jg_n, js_c, js_n, jrm_c, jrm_n, j2_i, j2_l, j2_a, jin_t, jix_t, jwd_le, ↓reduceIte, decide_true, or_true, true_or, and_self, false_or, or_false, reduceCtorEq, Bool.false_eq_true, and_false, false_and, eq_self, true_and, and_true, zero_ne, hj, y1, y2, s7, z1, z2, z9, e1, e2]
  rw [e]
  exact jto_stop rfl (hP v hv)
theorem lwc_8 (hL : LI L i xs w) (hL2 : L ≤ 3072) (hi : i < 512) (hx : XB xs) (h6 : 6 * i + 6 ≤ L) (hj : jrm tl 4 = tl) (hP : ∀ v, LI L (i + 1) xs v → P (23, (0, jvr 0) :: (1, jvr 64) :: (2, jvr 238) :: (3, jvr 252) :: (4, .inl (6 * (i : Int) + 6)) :: tl, [], v)) : jto P (40, (0, jvr 0) :: (1, jvr 64) :: (2, jvr 238) :: (3, jvr 252) :: (4, .inl (6 * (i : Int))) :: tl, [.inl 8], w) := by
  obtain ⟨y1, y2, y3, y4, y5, y6⟩ := hL.1
  have s7 := hL.s7
  have s9 := hL.s9
  obtain ⟨a, u, v, e1, e2, su, iu, hv⟩ := rL_way (x := xs (6 * (i : Int) + 1).toNat) hL hi (hx (6 * (i : Int) + 1).toNat).1 (hx (6 * (i : Int) + 1).toNat).2
  have z1 : mS u 0 = (4, 0, L) := by rw [su]; exact y1
  have z2 : mI u 0 = xs := iu.trans y2
  have z9 : mS u 238 = (1, 9, 0) := by rw [su]; exact s9
  have e : jto P (40, (0, jvr 0) :: (1, jvr 64) :: (2, jvr 238) :: (3, jvr 252) :: (4, .inl (6 * (i : Int))) :: tl, [.inl 8], w) = jto P (23, (0, jvr 0) :: (1, jvr 64) :: (2, jvr 238) :: (3, jvr 252) :: (4, .inl (6 * (i : Int) + 6)) :: tl, [], v) := by
    simp (disch := omega) only [z312_40_8, z312_508, z312_509, z312_510, z312_512, z312_513, z312_514, z312_515, z312_518, z312_519, z312_520, z312_522, z312_523, z312_524, z312_525, z312_528, z312_531, z312_1590, z312_1593, jwd_c, jwd_0, Nat.reduceLeDiff, Nat.reduceEqDiff, Nat.reduceAdd, Nat.reduceSub, Nat.reduceMul, Int.reduceAdd, Int.reduceSub, Int.reduceMul, Int.reduceNeg, Int.reduceEq, Int.reduceLT, Int.reduceLE, jp_ldi_i, jp_lda_a, jp_inc_i, jp_gb_t, jp_gr_4, jp_gw_2, jp_cs_t, jp_c_i, jp_c_n, jg_c, jg_n, js_c, js_n, jrm_c, jrm_n, j2_i, j2_l, j2_a, jin_t, jix_t, jwd_le, ↓reduceIte, decide_true, or_true, true_or, and_self, false_or, or_false, reduceCtorEq, Bool.false_eq_true, and_false, false_and, eq_self, true_and, and_true, zero_ne, hj, y1, y2, s7, z1, z2, z9, e1, e2]
  rw [e]
  exact jto_stop rfl (hP v hv)
theorem lwc_9 (hL : LI L i xs w) (hL2 : L ≤ 3072) (hi : i < 512) (hx : XB xs) (h6 : 6 * i + 6 ≤ L) (hj : jrm tl 4 = tl) (hP : ∀ v, LI L (i + 1) xs v → P (23, (0, jvr 0) :: (1, jvr 64) :: (2, jvr 238) :: (3, jvr 252) :: (4, .inl (6 * (i : Int) + 6)) :: tl, [], v)) : jto P (40, (0, jvr 0) :: (1, jvr 64) :: (2, jvr 238) :: (3, jvr 252) :: (4, .inl (6 * (i : Int))) :: tl, [.inl 9], w) := by
  obtain ⟨y1, y2, y3, y4, y5, y6⟩ := hL.1
  have s7 := hL.s7
  have s9 := hL.s9
  obtain ⟨a, u, v, e1, e2, su, iu, hv⟩ := rL_length hL hi
  have z1 : mS u 0 = (4, 0, L) := by rw [su]; exact y1
  have z2 : mI u 0 = xs := iu.trans y2
  have z9 : mS u 238 = (1, 9, 0) := by rw [su]; exact s9
  have e : jto P (40, (0, jvr 0) :: (1, jvr 64) :: (2, jvr 238) :: (3, jvr 252) :: (4, .inl (6 * (i : Int))) :: tl, [.inl 9], w) = jto P (23, (0, jvr 0) :: (1, jvr 64) :: (2, jvr 238) :: (3, jvr 252) :: (4, .inl (6 * (i : Int) + 6)) :: tl, [], v) := by
    simp (disch := omega) only [z312_40_9, z312_533, z312_534, z312_537, z312_538, z312_541, z312_544, z312_1590, z312_1593, jwd_c, jwd_0, Nat.reduceLeDiff, Nat.reduceEqDiff, Nat.reduceAdd, Nat.reduceSub, Nat.reduceMul, Int.reduceAdd, Int.reduceSub, Int.reduceMul, Int.reduceNeg, Int.reduceEq, Int.reduceLT, Int.reduceLE, jp_ldi_i, jp_lda_a, jp_inc_i, jp_gb_t, jp_gr_4, jp_gw_2, jp_cs_t, jp_c_i, jp_c_n, jg_c, jg_n, js_c, js_n, jrm_c, jrm_n, j2_i, j2_l, j2_a, jin_t, jix_t, jwd_le, ↓reduceIte, decide_true, or_true, true_or, and_self, false_or, or_false, reduceCtorEq, Bool.false_eq_true, and_false, false_and, eq_self, true_and, and_true, zero_ne, hj, y1, y2, s7, z1, z2, z9, e1, e2]
  rw [e]
  exact jto_stop rfl (hP v hv)
theorem lwc_10 (hL : LI L i xs w) (hL2 : L ≤ 3072) (hi : i < 512) (hx : XB xs) (h6 : 6 * i + 6 ≤ L) (hj : jrm tl 4 = tl) (hP : ∀ v, LI L (i + 1) xs v → P (23, (0, jvr 0) :: (1, jvr 64) :: (2, jvr 238) :: (3, jvr 252) :: (4, .inl (6 * (i : Int) + 6)) :: tl, [], v)) : jto P (40, (0, jvr 0) :: (1, jvr 64) :: (2, jvr 238) :: (3, jvr 252) :: (4, .inl (6 * (i : Int))) :: tl, [.inl 10], w) := by
  obtain ⟨y1, y2, y3, y4, y5, y6⟩ := hL.1
  have s7 := hL.s7
  have s9 := hL.s9
  obtain ⟨a, u, v, e1, e2, su, iu, hv⟩ := rL_corners hL hi
  have z1 : mS u 0 = (4, 0, L) := by rw [su]; exact y1
  have z2 : mI u 0 = xs := iu.trans y2
  have z9 : mS u 238 = (1, 9, 0) := by rw [su]; exact s9
  have e : jto P (40, (0, jvr 0) :: (1, jvr 64) :: (2, jvr 238) :: (3, jvr 252) :: (4, .inl (6 * (i : Int))) :: tl, [.inl 10], w) = jto P (23, (0, jvr 0) :: (1, jvr 64) :: (2, jvr 238) :: (3, jvr 252) :: (4, .inl (6 * (i : Int) + 6)) :: tl, [], v) := by
    simp (disch := omega) only [z312_40_10, z312_546, z312_547, z312_550, z312_551, z312_554, z312_557, z312_1590, z312_1593, jwd_c, jwd_0, Nat.reduceLeDiff, Nat.reduceEqDiff, Nat.reduceAdd, Nat.reduceSub, Nat.reduceMul, Int.reduceAdd, Int.reduceSub, Int.reduceMul, Int.reduceNeg, Int.reduceEq, Int.reduceLT, Int.reduceLE, jp_ldi_i, jp_lda_a, jp_inc_i, jp_gb_t, jp_gr_4, jp_gw_2, jp_cs_t, jp_c_i, jp_c_n, jg_c, jg_n, js_c, js_n, jrm_c, jrm_n, j2_i, j2_l, j2_a, jin_t, jix_t, jwd_le, ↓reduceIte, decide_true, or_true, true_or, and_self, false_or, or_false, reduceCtorEq, Bool.false_eq_true, and_false, false_and, eq_self, true_and, and_true, zero_ne, hj, y1, y2, s7, z1, z2, z9, e1, e2]
  rw [e]
  exact jto_stop rfl (hP v hv)
theorem lwc_11 (hL : LI L i xs w) (hL2 : L ≤ 3072) (hi : i < 512) (hx : XB xs) (h6 : 6 * i + 6 ≤ L) (hj : jrm tl 4 = tl) (hP : ∀ v, LI L (i + 1) xs v → P (23, (0, jvr 0) :: (1, jvr 64) :: (2, jvr 238) :: (3, jvr 252) :: (4, .inl (6 * (i : Int) + 6)) :: tl, [], v)) : jto P (40, (0, jvr 0) :: (1, jvr 64) :: (2, jvr 238) :: (3, jvr 252) :: (4, .inl (6 * (i : Int))) :: tl, [.inl 11], w) := by
  obtain ⟨y1, y2, y3, y4, y5, y6⟩ := hL.1
  have s7 := hL.s7
  have s9 := hL.s9
  obtain ⟨a, u, v, e1, e2, su, iu, hv⟩ := rL_sits (x := xs (6 * (i : Int) + 1).toNat) hL hi (hx (6 * (i : Int) + 1).toNat).1 (hx (6 * (i : Int) + 1).toNat).2
  have z1 : mS u 0 = (4, 0, L) := by rw [su]; exact y1
  have z2 : mI u 0 = xs := iu.trans y2
  have z9 : mS u 238 = (1, 9, 0) := by rw [su]; exact s9
  have e : jto P (40, (0, jvr 0) :: (1, jvr 64) :: (2, jvr 238) :: (3, jvr 252) :: (4, .inl (6 * (i : Int))) :: tl, [.inl 11], w) = jto P (23, (0, jvr 0) :: (1, jvr 64) :: (2, jvr 238) :: (3, jvr 252) :: (4, .inl (6 * (i : Int) + 6)) :: tl, [], v) := by
    simp (disch := omega) only [z312_40_11, z312_559, z312_560, z312_561, z312_563, z312_564, z312_565, z312_566, z312_569, z312_570, z312_571, z312_573, z312_574, z312_575, z312_576, z312_579, z312_582, z312_1590, z312_1593, jwd_c, jwd_0, Nat.reduceLeDiff, Nat.reduceEqDiff, Nat.reduceAdd, Nat.reduceSub, Nat.reduceMul, Int.reduceAdd, Int.reduceSub, Int.reduceMul, Int.reduceNeg, Int.reduceEq, Int.reduceLT, Int.reduceLE, jp_ldi_i, jp_lda_a, jp_inc_i, jp_gb_t, jp_gr_4, jp_gw_2, jp_cs_t, jp_c_i, jp_c_n, jg_c, jg_n, js_c, js_n, jrm_c, jrm_n, j2_i, j2_l, j2_a, jin_t, jix_t, jwd_le, ↓reduceIte, decide_true, or_true, true_or, and_self, false_or, or_false, reduceCtorEq, Bool.false_eq_true, and_false, false_and, eq_self, true_and, and_true, zero_ne, hj, y1, y2, s7, z1, z2, z9, e1, e2]
  rw [e]
  exact jto_stop rfl (hP v hv)
theorem lwc_12 (hL : LI L i xs w) (hL2 : L ≤ 3072) (hi : i < 512) (hx : XB xs) (h6 : 6 * i + 6 ≤ L) (hj : jrm tl 4 = tl) (hP : ∀ v, LI L (i + 1) xs v → P (23, (0, jvr 0) :: (1, jvr 64) :: (2, jvr 238) :: (3, jvr 252) :: (4, .inl (6 * (i : Int) + 6)) :: tl, [], v)) : jto P (40, (0, jvr 0) :: (1, jvr 64) :: (2, jvr 238) :: (3, jvr 252) :: (4, .inl (6 * (i : Int))) :: tl, [.inl 12], w) := by
  obtain ⟨y1, y2, y3, y4, y5, y6⟩ := hL.1
  have s7 := hL.s7
  have s9 := hL.s9
  obtain ⟨a, u, v, e1, e2, su, iu, hv⟩ := rL_over hL hi
  have z1 : mS u 0 = (4, 0, L) := by rw [su]; exact y1
  have z2 : mI u 0 = xs := iu.trans y2
  have z9 : mS u 238 = (1, 9, 0) := by rw [su]; exact s9
  have e : jto P (40, (0, jvr 0) :: (1, jvr 64) :: (2, jvr 238) :: (3, jvr 252) :: (4, .inl (6 * (i : Int))) :: tl, [.inl 12], w) = jto P (23, (0, jvr 0) :: (1, jvr 64) :: (2, jvr 238) :: (3, jvr 252) :: (4, .inl (6 * (i : Int) + 6)) :: tl, [], v) := by
    simp (disch := omega) only [z312_40_12, z312_584, z312_585, z312_588, z312_589, z312_592, z312_595, z312_1590, z312_1593, jwd_c, jwd_0, Nat.reduceLeDiff, Nat.reduceEqDiff, Nat.reduceAdd, Nat.reduceSub, Nat.reduceMul, Int.reduceAdd, Int.reduceSub, Int.reduceMul, Int.reduceNeg, Int.reduceEq, Int.reduceLT, Int.reduceLE, jp_ldi_i, jp_lda_a, jp_inc_i, jp_gb_t, jp_gr_4, jp_gw_2, jp_cs_t, jp_c_i, jp_c_n, jg_c, jg_n, js_c, js_n, jrm_c, jrm_n, j2_i, j2_l, j2_a, jin_t, jix_t, jwd_le, ↓reduceIte, decide_true, or_true, true_or, and_self, false_or, or_false, reduceCtorEq, Bool.false_eq_true, and_false, false_and, eq_self, true_and, and_true, zero_ne, hj, y1, y2, s7, z1, z2, z9, e1, e2]
  rw [e]
  exact jto_stop rfl (hP v hv)
theorem lwc_13 (hL : LI L i xs w) (hL2 : L ≤ 3072) (hi : i < 512) (hx : XB xs) (h6 : 6 * i + 6 ≤ L) (hj : jrm tl 4 = tl) (hP : ∀ v, LI L (i + 1) xs v → P (23, (0, jvr 0) :: (1, jvr 64) :: (2, jvr 238) :: (3, jvr 252) :: (4, .inl (6 * (i : Int) + 6)) :: tl, [], v)) : jto P (40, (0, jvr 0) :: (1, jvr 64) :: (2, jvr 238) :: (3, jvr 252) :: (4, .inl (6 * (i : Int))) :: tl, [.inl 13], w) := by
  obtain ⟨y1, y2, y3, y4, y5, y6⟩ := hL.1
  have s7 := hL.s7
  have s9 := hL.s9
  obtain ⟨a, u, v, e1, e2, su, iu, hv⟩ := rL_manyIn (x := xs (6 * (i : Int) + 1).toNat) hL hi (hx (6 * (i : Int) + 1).toNat).1 (hx (6 * (i : Int) + 1).toNat).2
  have z1 : mS u 0 = (4, 0, L) := by rw [su]; exact y1
  have z2 : mI u 0 = xs := iu.trans y2
  have z9 : mS u 238 = (1, 9, 0) := by rw [su]; exact s9
  have e : jto P (40, (0, jvr 0) :: (1, jvr 64) :: (2, jvr 238) :: (3, jvr 252) :: (4, .inl (6 * (i : Int))) :: tl, [.inl 13], w) = jto P (23, (0, jvr 0) :: (1, jvr 64) :: (2, jvr 238) :: (3, jvr 252) :: (4, .inl (6 * (i : Int) + 6)) :: tl, [], v) := by
    simp (disch := omega) only [z312_40_13, z312_597, z312_598, z312_599, z312_601, z312_602, z312_603, z312_604, z312_607, z312_608, z312_609, z312_611, z312_612, z312_613, z312_614, z312_617, z312_620, z312_1590, z312_1593, jwd_c, jwd_0, Nat.reduceLeDiff, Nat.reduceEqDiff, Nat.reduceAdd, Nat.reduceSub, Nat.reduceMul, Int.reduceAdd, Int.reduceSub, Int.reduceMul, Int.reduceNeg, Int.reduceEq, Int.reduceLT, Int.reduceLE, jp_ldi_i, jp_lda_a, jp_inc_i, jp_gb_t, jp_gr_4, jp_gw_2, jp_cs_t, jp_c_i, jp_c_n, jg_c, jg_n, js_c, js_n, jrm_c, jrm_n, j2_i, j2_l, j2_a, jin_t, jix_t, jwd_le, ↓reduceIte, decide_true, or_true, true_or, and_self, false_or, or_false, reduceCtorEq, Bool.false_eq_true, and_false, false_and, eq_self, true_and, and_true, zero_ne, hj, y1, y2, s7, z1, z2, z9, e1, e2]
  rw [e]
  exact jto_stop rfl (hP v hv)
theorem lwc_14 (hL : LI L i xs w) (hL2 : L ≤ 3072) (hi : i < 512) (hx : XB xs) (h6 : 6 * i + 6 ≤ L) (hj : jrm tl 4 = tl) (hP : ∀ v, LI L (i + 1) xs v → P (23, (0, jvr 0) :: (1, jvr 64) :: (2, jvr 238) :: (3, jvr 252) :: (4, .inl (6 * (i : Int) + 6)) :: tl, [], v)) : jto P (40, (0, jvr 0) :: (1, jvr 64) :: (2, jvr 238) :: (3, jvr 252) :: (4, .inl (6 * (i : Int))) :: tl, [.inl 14], w) := by
  obtain ⟨y1, y2, y3, y4, y5, y6⟩ := hL.1
  have s7 := hL.s7
  have s9 := hL.s9
  obtain ⟨a, u, v, e1, e2, su, iu, hv⟩ := rL_at (x := xs (6 * (i : Int) + 1).toNat) (y := xs (6 * (i : Int) + 2).toNat) hL hi (hx (6 * (i : Int) + 1).toNat).1 (hx (6 * (i : Int) + 1).toNat).2 (hx (6 * (i : Int) + 2).toNat).1 (hx (6 * (i : Int) + 2).toNat).2
  have z1 : mS u 0 = (4, 0, L) := by rw [su]; exact y1
  have z2 : mI u 0 = xs := iu.trans y2
  have z9 : mS u 238 = (1, 9, 0) := by rw [su]; exact s9
  have e : jto P (40, (0, jvr 0) :: (1, jvr 64) :: (2, jvr 238) :: (3, jvr 252) :: (4, .inl (6 * (i : Int))) :: tl, [.inl 14], w) = jto P (23, (0, jvr 0) :: (1, jvr 64) :: (2, jvr 238) :: (3, jvr 252) :: (4, .inl (6 * (i : Int) + 6)) :: tl, [], v) := by
    simp (disch := omega) only [z312_40_14, z312_622, z312_623, z312_624, z312_626, z312_627, z312_628, z312_629, z312_630, z312_632, z312_633, z312_634, z312_635, z312_638, z312_639, z312_640, z312_642, z312_643, z312_644, z312_645, z312_646, z312_648, z312_649, z312_650, z312_651, z312_654, z312_657, z312_1590, z312_1593, jwd_c, jwd_0, Nat.reduceLeDiff, Nat.reduceEqDiff, Nat.reduceAdd, Nat.reduceSub, Nat.reduceMul, Int.reduceAdd, Int.reduceSub, Int.reduceMul, Int.reduceNeg, Int.reduceEq, Int.reduceLT, Int.reduceLE, jp_ldi_i, jp_lda_a, jp_inc_i, jp_gb_t, jp_gr_4, jp_gw_2, jp_cs_t, jp_c_i, jp_c_n, jg_c, jg_n, js_c, js_n, jrm_c, jrm_n, j2_i, j2_l, j2_a, jin_t, jix_t, jwd_le, ↓reduceIte, decide_true, or_true, true_or, and_self, false_or, or_false, reduceCtorEq, Bool.false_eq_true, and_false, false_and, eq_self, true_and, and_true, zero_ne, hj, y1, y2, s7, z1, z2, z9, e1, e2]
  rw [e]
  exact jto_stop rfl (hP v hv)
theorem lwc_15 (hL : LI L i xs w) (hL2 : L ≤ 3072) (hi : i < 512) (hx : XB xs) (h6 : 6 * i + 6 ≤ L) (hj : jrm tl 4 = tl) (hP : ∀ v, LI L (i + 1) xs v → P (23, (0, jvr 0) :: (1, jvr 64) :: (2, jvr 238) :: (3, jvr 252) :: (4, .inl (6 * (i : Int) + 6)) :: tl, [], v)) : jto P (40, (0, jvr 0) :: (1, jvr 64) :: (2, jvr 238) :: (3, jvr 252) :: (4, .inl (6 * (i : Int))) :: tl, [.inl 15], w) := by
  obtain ⟨y1, y2, y3, y4, y5, y6⟩ := hL.1
  have s7 := hL.s7
  have s9 := hL.s9
  obtain ⟨a, u, v, e1, e2, su, iu, hv⟩ := rL_ran (x := xs (6 * (i : Int) + 1).toNat) (y := xs (6 * (i : Int) + 2).toNat) hL hi (hx (6 * (i : Int) + 1).toNat).1 (hx (6 * (i : Int) + 1).toNat).2 (hx (6 * (i : Int) + 2).toNat).1 (hx (6 * (i : Int) + 2).toNat).2
  have z1 : mS u 0 = (4, 0, L) := by rw [su]; exact y1
  have z2 : mI u 0 = xs := iu.trans y2
  have z9 : mS u 238 = (1, 9, 0) := by rw [su]; exact s9
  have e : jto P (40, (0, jvr 0) :: (1, jvr 64) :: (2, jvr 238) :: (3, jvr 252) :: (4, .inl (6 * (i : Int))) :: tl, [.inl 15], w) = jto P (23, (0, jvr 0) :: (1, jvr 64) :: (2, jvr 238) :: (3, jvr 252) :: (4, .inl (6 * (i : Int) + 6)) :: tl, [], v) := by
    simp (disch := omega) only [z312_40_15, z312_659, z312_660, z312_661, z312_663, z312_664, z312_665, z312_666, z312_667, z312_669, z312_670, z312_671, z312_672, z312_675, z312_676, z312_677, z312_679, z312_680, z312_681, z312_682, z312_683, z312_685, z312_686, z312_687, z312_688, z312_691, z312_694, z312_1590, z312_1593, jwd_c, jwd_0, Nat.reduceLeDiff, Nat.reduceEqDiff, Nat.reduceAdd, Nat.reduceSub, Nat.reduceMul, Int.reduceAdd, Int.reduceSub, Int.reduceMul, Int.reduceNeg, Int.reduceEq, Int.reduceLT, Int.reduceLE, jp_ldi_i, jp_lda_a, jp_inc_i, jp_gb_t, jp_gr_4, jp_gw_2, jp_cs_t, jp_c_i, jp_c_n, jg_c, jg_n, js_c, js_n, jrm_c, jrm_n, j2_i, j2_l, j2_a, jin_t, jix_t, jwd_le, ↓reduceIte, decide_true, or_true, true_or, and_self, false_or, or_false, reduceCtorEq, Bool.false_eq_true, and_false, false_and, eq_self, true_and, and_true, zero_ne, hj, y1, y2, s7, z1, z2, z9, e1, e2]
  rw [e]
  exact jto_stop rfl (hP v hv)
theorem lwc_16 (hL : LI L i xs w) (hL2 : L ≤ 3072) (hi : i < 512) (hx : XB xs) (h6 : 6 * i + 6 ≤ L) (hj : jrm tl 4 = tl) (hP : ∀ v, LI L (i + 1) xs v → P (23, (0, jvr 0) :: (1, jvr 64) :: (2, jvr 238) :: (3, jvr 252) :: (4, .inl (6 * (i : Int) + 6)) :: tl, [], v)) : jto P (40, (0, jvr 0) :: (1, jvr 64) :: (2, jvr 238) :: (3, jvr 252) :: (4, .inl (6 * (i : Int))) :: tl, [.inl 16], w) := by
  obtain ⟨y1, y2, y3, y4, y5, y6⟩ := hL.1
  have s7 := hL.s7
  have s9 := hL.s9
  obtain ⟨a, u, v, e1, e2, su, iu, hv⟩ := rL_runner (x := xs (6 * (i : Int) + 1).toNat) hL hi (hx (6 * (i : Int) + 1).toNat).1 (hx (6 * (i : Int) + 1).toNat).2
  have z1 : mS u 0 = (4, 0, L) := by rw [su]; exact y1
  have z2 : mI u 0 = xs := iu.trans y2
  have z9 : mS u 238 = (1, 9, 0) := by rw [su]; exact s9
  have e : jto P (40, (0, jvr 0) :: (1, jvr 64) :: (2, jvr 238) :: (3, jvr 252) :: (4, .inl (6 * (i : Int))) :: tl, [.inl 16], w) = jto P (23, (0, jvr 0) :: (1, jvr 64) :: (2, jvr 238) :: (3, jvr 252) :: (4, .inl (6 * (i : Int) + 6)) :: tl, [], v) := by
    simp (disch := omega) only [z312_40_16, z312_696, z312_697, z312_698, z312_700, z312_701, z312_702, z312_703, z312_706, z312_707, z312_708, z312_710, z312_711, z312_712, z312_713, z312_716, z312_719, z312_1590, z312_1593, jwd_c, jwd_0, Nat.reduceLeDiff, Nat.reduceEqDiff, Nat.reduceAdd, Nat.reduceSub, Nat.reduceMul, Int.reduceAdd, Int.reduceSub, Int.reduceMul, Int.reduceNeg, Int.reduceEq, Int.reduceLT, Int.reduceLE, jp_ldi_i, jp_lda_a, jp_inc_i, jp_gb_t, jp_gr_4, jp_gw_2, jp_cs_t, jp_c_i, jp_c_n, jg_c, jg_n, js_c, js_n, jrm_c, jrm_n, j2_i, j2_l, j2_a, jin_t, jix_t, jwd_le, ↓reduceIte, decide_true, or_true, true_or, and_self, false_or, or_false, reduceCtorEq, Bool.false_eq_true, and_false, false_and, eq_self, true_and, and_true, zero_ne, hj, y1, y2, s7, z1, z2, z9, e1, e2]
  rw [e]
  exact jto_stop rfl (hP v hv)
theorem lwc_17 (hL : LI L i xs w) (hL2 : L ≤ 3072) (hi : i < 512) (hx : XB xs) (h6 : 6 * i + 6 ≤ L) (hj : jrm tl 4 = tl) (hP : ∀ v, LI L (i + 1) xs v → P (23, (0, jvr 0) :: (1, jvr 64) :: (2, jvr 238) :: (3, jvr 252) :: (4, .inl (6 * (i : Int) + 6)) :: tl, [], v)) : jto P (40, (0, jvr 0) :: (1, jvr 64) :: (2, jvr 238) :: (3, jvr 252) :: (4, .inl (6 * (i : Int))) :: tl, [.inl 17], w) := by
  obtain ⟨y1, y2, y3, y4, y5, y6⟩ := hL.1
  have s7 := hL.s7
  have s9 := hL.s9
  obtain ⟨a, u, v, e1, e2, su, iu, hv⟩ := rL_widest (x := xs (6 * (i : Int) + 1).toNat) hL hi (hx (6 * (i : Int) + 1).toNat).1 (hx (6 * (i : Int) + 1).toNat).2
  have z1 : mS u 0 = (4, 0, L) := by rw [su]; exact y1
  have z2 : mI u 0 = xs := iu.trans y2
  have z9 : mS u 238 = (1, 9, 0) := by rw [su]; exact s9
  have e : jto P (40, (0, jvr 0) :: (1, jvr 64) :: (2, jvr 238) :: (3, jvr 252) :: (4, .inl (6 * (i : Int))) :: tl, [.inl 17], w) = jto P (23, (0, jvr 0) :: (1, jvr 64) :: (2, jvr 238) :: (3, jvr 252) :: (4, .inl (6 * (i : Int) + 6)) :: tl, [], v) := by
    simp (disch := omega) only [z312_40_17, z312_721, z312_722, z312_723, z312_725, z312_726, z312_727, z312_728, z312_731, z312_732, z312_733, z312_735, z312_736, z312_737, z312_738, z312_741, z312_744, z312_1590, z312_1593, jwd_c, jwd_0, Nat.reduceLeDiff, Nat.reduceEqDiff, Nat.reduceAdd, Nat.reduceSub, Nat.reduceMul, Int.reduceAdd, Int.reduceSub, Int.reduceMul, Int.reduceNeg, Int.reduceEq, Int.reduceLT, Int.reduceLE, jp_ldi_i, jp_lda_a, jp_inc_i, jp_gb_t, jp_gr_4, jp_gw_2, jp_cs_t, jp_c_i, jp_c_n, jg_c, jg_n, js_c, js_n, jrm_c, jrm_n, j2_i, j2_l, j2_a, jin_t, jix_t, jwd_le, ↓reduceIte, decide_true, or_true, true_or, and_self, false_or, or_false, reduceCtorEq, Bool.false_eq_true, and_false, false_and, eq_self, true_and, and_true, zero_ne, hj, y1, y2, s7, z1, z2, z9, e1, e2]
  rw [e]
  exact jto_stop rfl (hP v hv)
theorem lwc_18 (hL : LI L i xs w) (hL2 : L ≤ 3072) (hi : i < 512) (hx : XB xs) (h6 : 6 * i + 6 ≤ L) (hj : jrm tl 4 = tl) (hP : ∀ v, LI L (i + 1) xs v → P (23, (0, jvr 0) :: (1, jvr 64) :: (2, jvr 238) :: (3, jvr 252) :: (4, .inl (6 * (i : Int) + 6)) :: tl, [], v)) : jto P (40, (0, jvr 0) :: (1, jvr 64) :: (2, jvr 238) :: (3, jvr 252) :: (4, .inl (6 * (i : Int))) :: tl, [.inl 18], w) := by
  obtain ⟨y1, y2, y3, y4, y5, y6⟩ := hL.1
  have s7 := hL.s7
  have s9 := hL.s9
  obtain ⟨a, u, v, e1, e2, su, iu, hv⟩ := rL_torn (x := xs (6 * (i : Int) + 1).toNat) hL hi (hx (6 * (i : Int) + 1).toNat).1 (hx (6 * (i : Int) + 1).toNat).2
  have z1 : mS u 0 = (4, 0, L) := by rw [su]; exact y1
  have z2 : mI u 0 = xs := iu.trans y2
  have z9 : mS u 238 = (1, 9, 0) := by rw [su]; exact s9
  have e : jto P (40, (0, jvr 0) :: (1, jvr 64) :: (2, jvr 238) :: (3, jvr 252) :: (4, .inl (6 * (i : Int))) :: tl, [.inl 18], w) = jto P (23, (0, jvr 0) :: (1, jvr 64) :: (2, jvr 238) :: (3, jvr 252) :: (4, .inl (6 * (i : Int) + 6)) :: tl, [], v) := by
    simp (disch := omega) only [z312_40_18, z312_746, z312_747, z312_748, z312_750, z312_751, z312_752, z312_753, z312_756, z312_757, z312_758, z312_760, z312_761, z312_762, z312_763, z312_766, z312_769, z312_1590, z312_1593, jwd_c, jwd_0, Nat.reduceLeDiff, Nat.reduceEqDiff, Nat.reduceAdd, Nat.reduceSub, Nat.reduceMul, Int.reduceAdd, Int.reduceSub, Int.reduceMul, Int.reduceNeg, Int.reduceEq, Int.reduceLT, Int.reduceLE, jp_ldi_i, jp_lda_a, jp_inc_i, jp_gb_t, jp_gr_4, jp_gw_2, jp_cs_t, jp_c_i, jp_c_n, jg_c, jg_n, js_c, js_n, jrm_c, jrm_n, j2_i, j2_l, j2_a, jin_t, jix_t, jwd_le, ↓reduceIte, decide_true, or_true, true_or, and_self, false_or, or_false, reduceCtorEq, Bool.false_eq_true, and_false, false_and, eq_self, true_and, and_true, zero_ne, hj, y1, y2, s7, z1, z2, z9, e1, e2]
  rw [e]
  exact jto_stop rfl (hP v hv)
theorem lwc_19 (hL : LI L i xs w) (hL2 : L ≤ 3072) (hi : i < 512) (hx : XB xs) (h6 : 6 * i + 6 ≤ L) (hj : jrm tl 4 = tl) (hP : ∀ v, LI L (i + 1) xs v → P (23, (0, jvr 0) :: (1, jvr 64) :: (2, jvr 238) :: (3, jvr 252) :: (4, .inl (6 * (i : Int) + 6)) :: tl, [], v)) : jto P (40, (0, jvr 0) :: (1, jvr 64) :: (2, jvr 238) :: (3, jvr 252) :: (4, .inl (6 * (i : Int))) :: tl, [.inl 19], w) := by
  obtain ⟨y1, y2, y3, y4, y5, y6⟩ := hL.1
  have s7 := hL.s7
  have s9 := hL.s9
  obtain ⟨a, u, v, e1, e2, su, iu, hv⟩ := rL_tornBy (x := xs (6 * (i : Int) + 1).toNat) hL hi (hx (6 * (i : Int) + 1).toNat).1 (hx (6 * (i : Int) + 1).toNat).2
  have z1 : mS u 0 = (4, 0, L) := by rw [su]; exact y1
  have z2 : mI u 0 = xs := iu.trans y2
  have z9 : mS u 238 = (1, 9, 0) := by rw [su]; exact s9
  have e : jto P (40, (0, jvr 0) :: (1, jvr 64) :: (2, jvr 238) :: (3, jvr 252) :: (4, .inl (6 * (i : Int))) :: tl, [.inl 19], w) = jto P (23, (0, jvr 0) :: (1, jvr 64) :: (2, jvr 238) :: (3, jvr 252) :: (4, .inl (6 * (i : Int) + 6)) :: tl, [], v) := by
    simp (disch := omega) only [z312_40_19, z312_771, z312_772, z312_773, z312_775, z312_776, z312_777, z312_778, z312_781, z312_782, z312_783, z312_785, z312_786, z312_787, z312_788, z312_791, z312_794, z312_1590, z312_1593, jwd_c, jwd_0, Nat.reduceLeDiff, Nat.reduceEqDiff, Nat.reduceAdd, Nat.reduceSub, Nat.reduceMul, Int.reduceAdd, Int.reduceSub, Int.reduceMul, Int.reduceNeg, Int.reduceEq, Int.reduceLT, Int.reduceLE, jp_ldi_i, jp_lda_a, jp_inc_i, jp_gb_t, jp_gr_4, jp_gw_2, jp_cs_t, jp_c_i, jp_c_n, jg_c, jg_n, js_c, js_n, jrm_c, jrm_n, j2_i, j2_l, j2_a, jin_t, jix_t, jwd_le, ↓reduceIte, decide_true, or_true, true_or, and_self, false_or, or_false, reduceCtorEq, Bool.false_eq_true, and_false, false_and, eq_self, true_and, and_true, zero_ne, hj, y1, y2, s7, z1, z2, z9, e1, e2]
  rw [e]
  exact jto_stop rfl (hP v hv)
theorem lwc_20 (hL : LI L i xs w) (hL2 : L ≤ 3072) (hi : i < 512) (hx : XB xs) (h6 : 6 * i + 6 ≤ L) (hj : jrm tl 4 = tl) (hP : ∀ v, LI L (i + 1) xs v → P (23, (0, jvr 0) :: (1, jvr 64) :: (2, jvr 238) :: (3, jvr 252) :: (4, .inl (6 * (i : Int) + 6)) :: tl, [], v)) : jto P (40, (0, jvr 0) :: (1, jvr 64) :: (2, jvr 238) :: (3, jvr 252) :: (4, .inl (6 * (i : Int))) :: tl, [.inl 20], w) := by
  obtain ⟨y1, y2, y3, y4, y5, y6⟩ := hL.1
  have s7 := hL.s7
  have s9 := hL.s9
  obtain ⟨a, u, v, e1, e2, su, iu, hv⟩ := rL_joined (x := xs (6 * (i : Int) + 1).toNat) hL hi (hx (6 * (i : Int) + 1).toNat).1 (hx (6 * (i : Int) + 1).toNat).2
  have z1 : mS u 0 = (4, 0, L) := by rw [su]; exact y1
  have z2 : mI u 0 = xs := iu.trans y2
  have z9 : mS u 238 = (1, 9, 0) := by rw [su]; exact s9
  have e : jto P (40, (0, jvr 0) :: (1, jvr 64) :: (2, jvr 238) :: (3, jvr 252) :: (4, .inl (6 * (i : Int))) :: tl, [.inl 20], w) = jto P (23, (0, jvr 0) :: (1, jvr 64) :: (2, jvr 238) :: (3, jvr 252) :: (4, .inl (6 * (i : Int) + 6)) :: tl, [], v) := by
    simp (disch := omega) only [z312_40_20, z312_796, z312_797, z312_798, z312_800, z312_801, z312_802, z312_803, z312_806, z312_807, z312_808, z312_810, z312_811, z312_812, z312_813, z312_816, z312_819, z312_1590, z312_1593, jwd_c, jwd_0, Nat.reduceLeDiff, Nat.reduceEqDiff, Nat.reduceAdd, Nat.reduceSub, Nat.reduceMul, Int.reduceAdd, Int.reduceSub, Int.reduceMul, Int.reduceNeg, Int.reduceEq, Int.reduceLT, Int.reduceLE, jp_ldi_i, jp_lda_a, jp_inc_i, jp_gb_t, jp_gr_4, jp_gw_2, jp_cs_t, jp_c_i, jp_c_n, jg_c, jg_n, js_c, js_n, jrm_c, jrm_n, j2_i, j2_l, j2_a, jin_t, jix_t, jwd_le, ↓reduceIte, decide_true, or_true, true_or, and_self, false_or, or_false, reduceCtorEq, Bool.false_eq_true, and_false, false_and, eq_self, true_and, and_true, zero_ne, hj, y1, y2, s7, z1, z2, z9, e1, e2]
  rw [e]
  exact jto_stop rfl (hP v hv)
theorem lwc_21 (hL : LI L i xs w) (hL2 : L ≤ 3072) (hi : i < 512) (hx : XB xs) (h6 : 6 * i + 6 ≤ L) (hj : jrm tl 4 = tl) (hP : ∀ v, LI L (i + 1) xs v → P (23, (0, jvr 0) :: (1, jvr 64) :: (2, jvr 238) :: (3, jvr 252) :: (4, .inl (6 * (i : Int) + 6)) :: tl, [], v)) : jto P (40, (0, jvr 0) :: (1, jvr 64) :: (2, jvr 238) :: (3, jvr 252) :: (4, .inl (6 * (i : Int))) :: tl, [.inl 21], w) := by
  obtain ⟨y1, y2, y3, y4, y5, y6⟩ := hL.1
  have s7 := hL.s7
  have s9 := hL.s9
  obtain ⟨a, u, v, e1, e2, su, iu, hv⟩ := rL_ring (x := xs (6 * (i : Int) + 1).toNat) hL hi (hx (6 * (i : Int) + 1).toNat).1 (hx (6 * (i : Int) + 1).toNat).2
  have z1 : mS u 0 = (4, 0, L) := by rw [su]; exact y1
  have z2 : mI u 0 = xs := iu.trans y2
  have z9 : mS u 238 = (1, 9, 0) := by rw [su]; exact s9
  have e : jto P (40, (0, jvr 0) :: (1, jvr 64) :: (2, jvr 238) :: (3, jvr 252) :: (4, .inl (6 * (i : Int))) :: tl, [.inl 21], w) = jto P (23, (0, jvr 0) :: (1, jvr 64) :: (2, jvr 238) :: (3, jvr 252) :: (4, .inl (6 * (i : Int) + 6)) :: tl, [], v) := by
    simp (disch := omega) only [z312_40_21, z312_821, z312_822, z312_823, z312_825, z312_826, z312_827, z312_828, z312_831, z312_832, z312_833, z312_835, z312_836, z312_837, z312_838, z312_841, z312_844, z312_1590, z312_1593, jwd_c, jwd_0, Nat.reduceLeDiff, Nat.reduceEqDiff, Nat.reduceAdd, Nat.reduceSub, Nat.reduceMul, Int.reduceAdd, Int.reduceSub, Int.reduceMul, Int.reduceNeg, Int.reduceEq, Int.reduceLT, Int.reduceLE, jp_ldi_i, jp_lda_a, jp_inc_i, jp_gb_t, jp_gr_4, jp_gw_2, jp_cs_t, jp_c_i, jp_c_n, jg_c, jg_n, js_c, js_n, jrm_c, jrm_n, j2_i, j2_l, j2_a, jin_t, jix_t, jwd_le, ↓reduceIte, decide_true, or_true, true_or, and_self, false_or, or_false, reduceCtorEq, Bool.false_eq_true, and_false, false_and, eq_self, true_and, and_true, zero_ne, hj, y1, y2, s7, z1, z2, z9, e1, e2]
  rw [e]
  exact jto_stop rfl (hP v hv)
theorem lwc_22 (hL : LI L i xs w) (hL2 : L ≤ 3072) (hi : i < 512) (hx : XB xs) (h6 : 6 * i + 6 ≤ L) (hj : jrm tl 4 = tl) (hP : ∀ v, LI L (i + 1) xs v → P (23, (0, jvr 0) :: (1, jvr 64) :: (2, jvr 238) :: (3, jvr 252) :: (4, .inl (6 * (i : Int) + 6)) :: tl, [], v)) : jto P (40, (0, jvr 0) :: (1, jvr 64) :: (2, jvr 238) :: (3, jvr 252) :: (4, .inl (6 * (i : Int))) :: tl, [.inl 22], w) := by
  obtain ⟨y1, y2, y3, y4, y5, y6⟩ := hL.1
  have s7 := hL.s7
  have s9 := hL.s9
  obtain ⟨a, u, v, e1, e2, su, iu, hv⟩ := rL_jolt (x := xs (6 * (i : Int) + 1).toNat) (y := xs (6 * (i : Int) + 2).toNat) hL hi (hx (6 * (i : Int) + 1).toNat).1 (hx (6 * (i : Int) + 1).toNat).2 (hx (6 * (i : Int) + 2).toNat).1 (hx (6 * (i : Int) + 2).toNat).2
  have z1 : mS u 0 = (4, 0, L) := by rw [su]; exact y1
  have z2 : mI u 0 = xs := iu.trans y2
  have z9 : mS u 238 = (1, 9, 0) := by rw [su]; exact s9
  have e : jto P (40, (0, jvr 0) :: (1, jvr 64) :: (2, jvr 238) :: (3, jvr 252) :: (4, .inl (6 * (i : Int))) :: tl, [.inl 22], w) = jto P (23, (0, jvr 0) :: (1, jvr 64) :: (2, jvr 238) :: (3, jvr 252) :: (4, .inl (6 * (i : Int) + 6)) :: tl, [], v) := by
    simp (disch := omega) only [z312_40_22, z312_846, z312_847, z312_848, z312_850, z312_851, z312_852, z312_853, z312_854, z312_856, z312_857, z312_858, z312_859, z312_862, z312_863, z312_864, z312_866, z312_867, z312_868, z312_869, z312_870, z312_872, z312_873, z312_874, z312_875, z312_878, z312_881, z312_1590, z312_1593, jwd_c, jwd_0, Nat.reduceLeDiff, Nat.reduceEqDiff, Nat.reduceAdd, Nat.reduceSub, Nat.reduceMul, Int.reduceAdd, Int.reduceSub, Int.reduceMul, Int.reduceNeg, Int.reduceEq, Int.reduceLT, Int.reduceLE, jp_ldi_i, jp_lda_a, jp_inc_i, jp_gb_t, jp_gr_4, jp_gw_2, jp_cs_t, jp_c_i, jp_c_n, jg_c, jg_n, js_c, js_n, jrm_c, jrm_n, j2_i, j2_l, j2_a, jin_t, jix_t, jwd_le, ↓reduceIte, decide_true, or_true, true_or, and_self, false_or, or_false, reduceCtorEq, Bool.false_eq_true, and_false, false_and, eq_self, true_and, and_true, zero_ne, hj, y1, y2, s7, z1, z2, z9, e1, e2]
  rw [e]
  exact jto_stop rfl (hP v hv)
theorem lwc_23 (hL : LI L i xs w) (hL2 : L ≤ 3072) (hi : i < 512) (hx : XB xs) (h6 : 6 * i + 6 ≤ L) (hj : jrm tl 4 = tl) (hP : ∀ v, LI L (i + 1) xs v → P (23, (0, jvr 0) :: (1, jvr 64) :: (2, jvr 238) :: (3, jvr 252) :: (4, .inl (6 * (i : Int) + 6)) :: tl, [], v)) : jto P (40, (0, jvr 0) :: (1, jvr 64) :: (2, jvr 238) :: (3, jvr 252) :: (4, .inl (6 * (i : Int))) :: tl, [.inl 23], w) := by
  obtain ⟨y1, y2, y3, y4, y5, y6⟩ := hL.1
  have s7 := hL.s7
  have s9 := hL.s9
  obtain ⟨a, u, v, e1, e2, su, iu, hv⟩ := rL_grows (x := xs (6 * (i : Int) + 1).toNat) (y := xs (6 * (i : Int) + 2).toNat) hL hi (hx (6 * (i : Int) + 1).toNat).1 (hx (6 * (i : Int) + 1).toNat).2 (hx (6 * (i : Int) + 2).toNat).1 (hx (6 * (i : Int) + 2).toNat).2
  have z1 : mS u 0 = (4, 0, L) := by rw [su]; exact y1
  have z2 : mI u 0 = xs := iu.trans y2
  have z9 : mS u 238 = (1, 9, 0) := by rw [su]; exact s9
  have e : jto P (40, (0, jvr 0) :: (1, jvr 64) :: (2, jvr 238) :: (3, jvr 252) :: (4, .inl (6 * (i : Int))) :: tl, [.inl 23], w) = jto P (23, (0, jvr 0) :: (1, jvr 64) :: (2, jvr 238) :: (3, jvr 252) :: (4, .inl (6 * (i : Int) + 6)) :: tl, [], v) := by
    simp (disch := omega) only [z312_40_23, z312_883, z312_884, z312_885, z312_887, z312_888, z312_889, z312_890, z312_891, z312_893, z312_894, z312_895, z312_896, z312_899, z312_900, z312_901, z312_903, z312_904, z312_905, z312_906, z312_907, z312_909, z312_910, z312_911, z312_912, z312_915, z312_918, z312_1590, z312_1593, jwd_c, jwd_0, Nat.reduceLeDiff, Nat.reduceEqDiff, Nat.reduceAdd, Nat.reduceSub, Nat.reduceMul, Int.reduceAdd, Int.reduceSub, Int.reduceMul, Int.reduceNeg, Int.reduceEq, Int.reduceLT, Int.reduceLE, jp_ldi_i, jp_lda_a, jp_inc_i, jp_gb_t, jp_gr_4, jp_gw_2, jp_cs_t, jp_c_i, jp_c_n, jg_c, jg_n, js_c, js_n, jrm_c, jrm_n, j2_i, j2_l, j2_a, jin_t, jix_t, jwd_le, ↓reduceIte, decide_true, or_true, true_or, and_self, false_or, or_false, reduceCtorEq, Bool.false_eq_true, and_false, false_and, eq_self, true_and, and_true, zero_ne, hj, y1, y2, s7, z1, z2, z9, e1, e2]
  rw [e]
  exact jto_stop rfl (hP v hv)
theorem lwc_24 (hL : LI L i xs w) (hL2 : L ≤ 3072) (hi : i < 512) (hx : XB xs) (h6 : 6 * i + 6 ≤ L) (hj : jrm tl 4 = tl) (hP : ∀ v, LI L (i + 1) xs v → P (23, (0, jvr 0) :: (1, jvr 64) :: (2, jvr 238) :: (3, jvr 252) :: (4, .inl (6 * (i : Int) + 6)) :: tl, [], v)) : jto P (40, (0, jvr 0) :: (1, jvr 64) :: (2, jvr 238) :: (3, jvr 252) :: (4, .inl (6 * (i : Int))) :: tl, [.inl 24], w) := by
  obtain ⟨y1, y2, y3, y4, y5, y6⟩ := hL.1
  have s7 := hL.s7
  have s9 := hL.s9
  obtain ⟨a, u, v, e1, e2, su, iu, hv⟩ := rL_holds hL hi
  have z1 : mS u 0 = (4, 0, L) := by rw [su]; exact y1
  have z2 : mI u 0 = xs := iu.trans y2
  have z9 : mS u 238 = (1, 9, 0) := by rw [su]; exact s9
  have e : jto P (40, (0, jvr 0) :: (1, jvr 64) :: (2, jvr 238) :: (3, jvr 252) :: (4, .inl (6 * (i : Int))) :: tl, [.inl 24], w) = jto P (23, (0, jvr 0) :: (1, jvr 64) :: (2, jvr 238) :: (3, jvr 252) :: (4, .inl (6 * (i : Int) + 6)) :: tl, [], v) := by
    simp (disch := omega) only [z312_40_24, z312_920, z312_921, z312_924, z312_925, z312_928, z312_931, z312_1590, z312_1593, jwd_c, jwd_0, Nat.reduceLeDiff, Nat.reduceEqDiff, Nat.reduceAdd, Nat.reduceSub, Nat.reduceMul, Int.reduceAdd, Int.reduceSub, Int.reduceMul, Int.reduceNeg, Int.reduceEq, Int.reduceLT, Int.reduceLE, jp_ldi_i, jp_lda_a, jp_inc_i, jp_gb_t, jp_gr_4, jp_gw_2, jp_cs_t, jp_c_i, jp_c_n, jg_c, jg_n, js_c, js_n, jrm_c, jrm_n, j2_i, j2_l, j2_a, jin_t, jix_t, jwd_le, ↓reduceIte, decide_true, or_true, true_or, and_self, false_or, or_false, reduceCtorEq, Bool.false_eq_true, and_false, false_and, eq_self, true_and, and_true, zero_ne, hj, y1, y2, s7, z1, z2, z9, e1, e2]
  rw [e]
  exact jto_stop rfl (hP v hv)
theorem lwc_25 (hL : LI L i xs w) (hL2 : L ≤ 3072) (hi : i < 512) (hx : XB xs) (h6 : 6 * i + 6 ≤ L) (hj : jrm tl 4 = tl) (hP : ∀ v, LI L (i + 1) xs v → P (23, (0, jvr 0) :: (1, jvr 64) :: (2, jvr 238) :: (3, jvr 252) :: (4, .inl (6 * (i : Int) + 6)) :: tl, [], v)) : jto P (40, (0, jvr 0) :: (1, jvr 64) :: (2, jvr 238) :: (3, jvr 252) :: (4, .inl (6 * (i : Int))) :: tl, [.inl 25], w) := by
  obtain ⟨y1, y2, y3, y4, y5, y6⟩ := hL.1
  have s7 := hL.s7
  have s9 := hL.s9
  obtain ⟨a, u, v, e1, e2, su, iu, hv⟩ := rL_order hL hi
  have z1 : mS u 0 = (4, 0, L) := by rw [su]; exact y1
  have z2 : mI u 0 = xs := iu.trans y2
  have z9 : mS u 238 = (1, 9, 0) := by rw [su]; exact s9
  have e : jto P (40, (0, jvr 0) :: (1, jvr 64) :: (2, jvr 238) :: (3, jvr 252) :: (4, .inl (6 * (i : Int))) :: tl, [.inl 25], w) = jto P (23, (0, jvr 0) :: (1, jvr 64) :: (2, jvr 238) :: (3, jvr 252) :: (4, .inl (6 * (i : Int) + 6)) :: tl, [], v) := by
    simp (disch := omega) only [z312_40_25, z312_933, z312_934, z312_937, z312_938, z312_941, z312_944, z312_1590, z312_1593, jwd_c, jwd_0, Nat.reduceLeDiff, Nat.reduceEqDiff, Nat.reduceAdd, Nat.reduceSub, Nat.reduceMul, Int.reduceAdd, Int.reduceSub, Int.reduceMul, Int.reduceNeg, Int.reduceEq, Int.reduceLT, Int.reduceLE, jp_ldi_i, jp_lda_a, jp_inc_i, jp_gb_t, jp_gr_4, jp_gw_2, jp_cs_t, jp_c_i, jp_c_n, jg_c, jg_n, js_c, js_n, jrm_c, jrm_n, j2_i, j2_l, j2_a, jin_t, jix_t, jwd_le, ↓reduceIte, decide_true, or_true, true_or, and_self, false_or, or_false, reduceCtorEq, Bool.false_eq_true, and_false, false_and, eq_self, true_and, and_true, zero_ne, hj, y1, y2, s7, z1, z2, z9, e1, e2]
  rw [e]
  exact jto_stop rfl (hP v hv)
theorem lwc_26 (hL : LI L i xs w) (hL2 : L ≤ 3072) (hi : i < 512) (hx : XB xs) (h6 : 6 * i + 6 ≤ L) (hj : jrm tl 4 = tl) (hP : ∀ v, LI L (i + 1) xs v → P (23, (0, jvr 0) :: (1, jvr 64) :: (2, jvr 238) :: (3, jvr 252) :: (4, .inl (6 * (i : Int) + 6)) :: tl, [], v)) : jto P (40, (0, jvr 0) :: (1, jvr 64) :: (2, jvr 238) :: (3, jvr 252) :: (4, .inl (6 * (i : Int))) :: tl, [.inl 26], w) := by
  obtain ⟨y1, y2, y3, y4, y5, y6⟩ := hL.1
  have s7 := hL.s7
  have s9 := hL.s9
  obtain ⟨a, u, v, e1, e2, su, iu, hv⟩ := rL_orderAt (x := xs (6 * (i : Int) + 1).toNat) hL hi (hx (6 * (i : Int) + 1).toNat).1 (hx (6 * (i : Int) + 1).toNat).2
  have z1 : mS u 0 = (4, 0, L) := by rw [su]; exact y1
  have z2 : mI u 0 = xs := iu.trans y2
  have z9 : mS u 238 = (1, 9, 0) := by rw [su]; exact s9
  have e : jto P (40, (0, jvr 0) :: (1, jvr 64) :: (2, jvr 238) :: (3, jvr 252) :: (4, .inl (6 * (i : Int))) :: tl, [.inl 26], w) = jto P (23, (0, jvr 0) :: (1, jvr 64) :: (2, jvr 238) :: (3, jvr 252) :: (4, .inl (6 * (i : Int) + 6)) :: tl, [], v) := by
    simp (disch := omega) only [z312_40_26, z312_946, z312_947, z312_948, z312_950, z312_951, z312_952, z312_953, z312_956, z312_957, z312_958, z312_960, z312_961, z312_962, z312_963, z312_966, z312_969, z312_1590, z312_1593, jwd_c, jwd_0, Nat.reduceLeDiff, Nat.reduceEqDiff, Nat.reduceAdd, Nat.reduceSub, Nat.reduceMul, Int.reduceAdd, Int.reduceSub, Int.reduceMul, Int.reduceNeg, Int.reduceEq, Int.reduceLT, Int.reduceLE, jp_ldi_i, jp_lda_a, jp_inc_i, jp_gb_t, jp_gr_4, jp_gw_2, jp_cs_t, jp_c_i, jp_c_n, jg_c, jg_n, js_c, js_n, jrm_c, jrm_n, j2_i, j2_l, j2_a, jin_t, jix_t, jwd_le, ↓reduceIte, decide_true, or_true, true_or, and_self, false_or, or_false, reduceCtorEq, Bool.false_eq_true, and_false, false_and, eq_self, true_and, and_true, zero_ne, hj, y1, y2, s7, z1, z2, z9, e1, e2]
  rw [e]
  exact jto_stop rfl (hP v hv)
theorem lwc_27 (hL : LI L i xs w) (hL2 : L ≤ 3072) (hi : i < 512) (hx : XB xs) (h6 : 6 * i + 6 ≤ L) (hj : jrm tl 4 = tl) (hP : ∀ v, LI L (i + 1) xs v → P (23, (0, jvr 0) :: (1, jvr 64) :: (2, jvr 238) :: (3, jvr 252) :: (4, .inl (6 * (i : Int) + 6)) :: tl, [], v)) : jto P (40, (0, jvr 0) :: (1, jvr 64) :: (2, jvr 238) :: (3, jvr 252) :: (4, .inl (6 * (i : Int))) :: tl, [.inl 27], w) := by
  obtain ⟨y1, y2, y3, y4, y5, y6⟩ := hL.1
  have s7 := hL.s7
  have s9 := hL.s9
  obtain ⟨a, u, v, e1, e2, su, iu, hv⟩ := rL_leader (x := xs (6 * (i : Int) + 1).toNat) hL hi (hx (6 * (i : Int) + 1).toNat).1 (hx (6 * (i : Int) + 1).toNat).2
  have z1 : mS u 0 = (4, 0, L) := by rw [su]; exact y1
  have z2 : mI u 0 = xs := iu.trans y2
  have z9 : mS u 238 = (1, 9, 0) := by rw [su]; exact s9
  have e : jto P (40, (0, jvr 0) :: (1, jvr 64) :: (2, jvr 238) :: (3, jvr 252) :: (4, .inl (6 * (i : Int))) :: tl, [.inl 27], w) = jto P (23, (0, jvr 0) :: (1, jvr 64) :: (2, jvr 238) :: (3, jvr 252) :: (4, .inl (6 * (i : Int) + 6)) :: tl, [], v) := by
    simp (disch := omega) only [z312_40_27, z312_971, z312_972, z312_973, z312_975, z312_976, z312_977, z312_978, z312_981, z312_982, z312_983, z312_985, z312_986, z312_987, z312_988, z312_991, z312_994, z312_1590, z312_1593, jwd_c, jwd_0, Nat.reduceLeDiff, Nat.reduceEqDiff, Nat.reduceAdd, Nat.reduceSub, Nat.reduceMul, Int.reduceAdd, Int.reduceSub, Int.reduceMul, Int.reduceNeg, Int.reduceEq, Int.reduceLT, Int.reduceLE, jp_ldi_i, jp_lda_a, jp_inc_i, jp_gb_t, jp_gr_4, jp_gw_2, jp_cs_t, jp_c_i, jp_c_n, jg_c, jg_n, js_c, js_n, jrm_c, jrm_n, j2_i, j2_l, j2_a, jin_t, jix_t, jwd_le, ↓reduceIte, decide_true, or_true, true_or, and_self, false_or, or_false, reduceCtorEq, Bool.false_eq_true, and_false, false_and, eq_self, true_and, and_true, zero_ne, hj, y1, y2, s7, z1, z2, z9, e1, e2]
  rw [e]
  exact jto_stop rfl (hP v hv)
theorem lwc_28 (hL : LI L i xs w) (hL2 : L ≤ 3072) (hi : i < 512) (hx : XB xs) (h6 : 6 * i + 6 ≤ L) (hj : jrm tl 4 = tl) (hP : ∀ v, LI L (i + 1) xs v → P (23, (0, jvr 0) :: (1, jvr 64) :: (2, jvr 238) :: (3, jvr 252) :: (4, .inl (6 * (i : Int) + 6)) :: tl, [], v)) : jto P (40, (0, jvr 0) :: (1, jvr 64) :: (2, jvr 238) :: (3, jvr 252) :: (4, .inl (6 * (i : Int))) :: tl, [.inl 28], w) := by
  obtain ⟨y1, y2, y3, y4, y5, y6⟩ := hL.1
  have s7 := hL.s7
  have s9 := hL.s9
  obtain ⟨a, u, v, e1, e2, su, iu, hv⟩ := rL_plan (x := xs (6 * (i : Int) + 1).toNat) hL hi (hx (6 * (i : Int) + 1).toNat).1 (hx (6 * (i : Int) + 1).toNat).2
  have z1 : mS u 0 = (4, 0, L) := by rw [su]; exact y1
  have z2 : mI u 0 = xs := iu.trans y2
  have z9 : mS u 238 = (1, 9, 0) := by rw [su]; exact s9
  have e : jto P (40, (0, jvr 0) :: (1, jvr 64) :: (2, jvr 238) :: (3, jvr 252) :: (4, .inl (6 * (i : Int))) :: tl, [.inl 28], w) = jto P (23, (0, jvr 0) :: (1, jvr 64) :: (2, jvr 238) :: (3, jvr 252) :: (4, .inl (6 * (i : Int) + 6)) :: tl, [], v) := by
    simp (disch := omega) only [z312_40_28, z312_996, z312_997, z312_998, z312_1000, z312_1001, z312_1002, z312_1003, z312_1006, z312_1007, z312_1008, z312_1010, z312_1011, z312_1012, z312_1013, z312_1016, z312_1019, z312_1590, z312_1593, jwd_c, jwd_0, Nat.reduceLeDiff, Nat.reduceEqDiff, Nat.reduceAdd, Nat.reduceSub, Nat.reduceMul, Int.reduceAdd, Int.reduceSub, Int.reduceMul, Int.reduceNeg, Int.reduceEq, Int.reduceLT, Int.reduceLE, jp_ldi_i, jp_lda_a, jp_inc_i, jp_gb_t, jp_gr_4, jp_gw_2, jp_cs_t, jp_c_i, jp_c_n, jg_c, jg_n, js_c, js_n, jrm_c, jrm_n, j2_i, j2_l, j2_a, jin_t, jix_t, jwd_le, ↓reduceIte, decide_true, or_true, true_or, and_self, false_or, or_false, reduceCtorEq, Bool.false_eq_true, and_false, false_and, eq_self, true_and, and_true, zero_ne, hj, y1, y2, s7, z1, z2, z9, e1, e2]
  rw [e]
  exact jto_stop rfl (hP v hv)
theorem lwc_29 (hL : LI L i xs w) (hL2 : L ≤ 3072) (hi : i < 512) (hx : XB xs) (h6 : 6 * i + 6 ≤ L) (hj : jrm tl 4 = tl) (hP : ∀ v, LI L (i + 1) xs v → P (23, (0, jvr 0) :: (1, jvr 64) :: (2, jvr 238) :: (3, jvr 252) :: (4, .inl (6 * (i : Int) + 6)) :: tl, [], v)) : jto P (40, (0, jvr 0) :: (1, jvr 64) :: (2, jvr 238) :: (3, jvr 252) :: (4, .inl (6 * (i : Int))) :: tl, [.inl 29], w) := by
  obtain ⟨y1, y2, y3, y4, y5, y6⟩ := hL.1
  have s7 := hL.s7
  have s9 := hL.s9
  obtain ⟨a, u, v, e1, e2, su, iu, hv⟩ := rL_planAt (x := xs (6 * (i : Int) + 1).toNat) (y := xs (6 * (i : Int) + 2).toNat) hL hi (hx (6 * (i : Int) + 1).toNat).1 (hx (6 * (i : Int) + 1).toNat).2 (hx (6 * (i : Int) + 2).toNat).1 (hx (6 * (i : Int) + 2).toNat).2
  have z1 : mS u 0 = (4, 0, L) := by rw [su]; exact y1
  have z2 : mI u 0 = xs := iu.trans y2
  have z9 : mS u 238 = (1, 9, 0) := by rw [su]; exact s9
  have e : jto P (40, (0, jvr 0) :: (1, jvr 64) :: (2, jvr 238) :: (3, jvr 252) :: (4, .inl (6 * (i : Int))) :: tl, [.inl 29], w) = jto P (23, (0, jvr 0) :: (1, jvr 64) :: (2, jvr 238) :: (3, jvr 252) :: (4, .inl (6 * (i : Int) + 6)) :: tl, [], v) := by
    simp (disch := omega) only [z312_40_29, z312_1021, z312_1022, z312_1023, z312_1025, z312_1026, z312_1027, z312_1028, z312_1029, z312_1031, z312_1032, z312_1033, z312_1034, z312_1037, z312_1038, z312_1039, z312_1041, z312_1042, z312_1043, z312_1044, z312_1045, z312_1047, z312_1048, z312_1049, z312_1050, z312_1053, z312_1056, z312_1590, z312_1593, jwd_c, jwd_0, Nat.reduceLeDiff, Nat.reduceEqDiff, Nat.reduceAdd, Nat.reduceSub, Nat.reduceMul, Int.reduceAdd, Int.reduceSub, Int.reduceMul, Int.reduceNeg, Int.reduceEq, Int.reduceLT, Int.reduceLE, jp_ldi_i, jp_lda_a, jp_inc_i, jp_gb_t, jp_gr_4, jp_gw_2, jp_cs_t, jp_c_i, jp_c_n, jg_c, jg_n, js_c, js_n, jrm_c, jrm_n, j2_i, j2_l, j2_a, jin_t, jix_t, jwd_le, ↓reduceIte, decide_true, or_true, true_or, and_self, false_or, or_false, reduceCtorEq, Bool.false_eq_true, and_false, false_and, eq_self, true_and, and_true, zero_ne, hj, y1, y2, s7, z1, z2, z9, e1, e2]
  rw [e]
  exact jto_stop rfl (hP v hv)
theorem lwc_30 (hL : LI L i xs w) (hL2 : L ≤ 3072) (hi : i < 512) (hx : XB xs) (h6 : 6 * i + 6 ≤ L) (hj : jrm tl 4 = tl) (hP : ∀ v, LI L (i + 1) xs v → P (23, (0, jvr 0) :: (1, jvr 64) :: (2, jvr 238) :: (3, jvr 252) :: (4, .inl (6 * (i : Int) + 6)) :: tl, [], v)) : jto P (40, (0, jvr 0) :: (1, jvr 64) :: (2, jvr 238) :: (3, jvr 252) :: (4, .inl (6 * (i : Int))) :: tl, [.inl 30], w) := by
  obtain ⟨y1, y2, y3, y4, y5, y6⟩ := hL.1
  have s7 := hL.s7
  have s9 := hL.s9
  obtain ⟨a, u, v, e1, e2, su, iu, hv⟩ := rL_mean (x := xs (6 * (i : Int) + 1).toNat) (y := xs (6 * (i : Int) + 2).toNat) (z := xs (6 * (i : Int) + 3).toNat) hL hi (hx (6 * (i : Int) + 1).toNat).1 (hx (6 * (i : Int) + 1).toNat).2 (hx (6 * (i : Int) + 2).toNat).1 (hx (6 * (i : Int) + 2).toNat).2 (hx (6 * (i : Int) + 3).toNat).1 (hx (6 * (i : Int) + 3).toNat).2
  have z1 : mS u 0 = (4, 0, L) := by rw [su]; exact y1
  have z2 : mI u 0 = xs := iu.trans y2
  have z9 : mS u 238 = (1, 9, 0) := by rw [su]; exact s9
  have e : jto P (40, (0, jvr 0) :: (1, jvr 64) :: (2, jvr 238) :: (3, jvr 252) :: (4, .inl (6 * (i : Int))) :: tl, [.inl 30], w) = jto P (23, (0, jvr 0) :: (1, jvr 64) :: (2, jvr 238) :: (3, jvr 252) :: (4, .inl (6 * (i : Int) + 6)) :: tl, [], v) := by
    simp (disch := omega) only [z312_40_30, z312_1058, z312_1059, z312_1060, z312_1062, z312_1063, z312_1064, z312_1065, z312_1066, z312_1068, z312_1069, z312_1070, z312_1071, z312_1072, z312_1074, z312_1075, z312_1076, z312_1077, z312_1080, z312_1081, z312_1082, z312_1084, z312_1085, z312_1086, z312_1087, z312_1088, z312_1090, z312_1091, z312_1092, z312_1093, z312_1094, z312_1096, z312_1097, z312_1098, z312_1099, z312_1102, z312_1105, z312_1590, z312_1593, jwd_c, jwd_0, Nat.reduceLeDiff, Nat.reduceEqDiff, Nat.reduceAdd, Nat.reduceSub, Nat.reduceMul, Int.reduceAdd, Int.reduceSub, Int.reduceMul, Int.reduceNeg, Int.reduceEq, Int.reduceLT, Int.reduceLE, jp_ldi_i, jp_lda_a, jp_inc_i, jp_gb_t, jp_gr_4, jp_gw_2, jp_cs_t, jp_c_i, jp_c_n, jg_c, jg_n, js_c, js_n, jrm_c, jrm_n, j2_i, j2_l, j2_a, jin_t, jix_t, jwd_le, ↓reduceIte, decide_true, or_true, true_or, and_self, false_or, or_false, reduceCtorEq, Bool.false_eq_true, and_false, false_and, eq_self, true_and, and_true, zero_ne, hj, y1, y2, s7, z1, z2, z9, e1, e2]
  rw [e]
  exact jto_stop rfl (hP v hv)
theorem lwc_31 (hL : LI L i xs w) (hL2 : L ≤ 3072) (hi : i < 512) (hx : XB xs) (h6 : 6 * i + 6 ≤ L) (hj : jrm tl 4 = tl) (hP : ∀ v, LI L (i + 1) xs v → P (23, (0, jvr 0) :: (1, jvr 64) :: (2, jvr 238) :: (3, jvr 252) :: (4, .inl (6 * (i : Int) + 6)) :: tl, [], v)) : jto P (40, (0, jvr 0) :: (1, jvr 64) :: (2, jvr 238) :: (3, jvr 252) :: (4, .inl (6 * (i : Int))) :: tl, [.inl 31], w) := by
  obtain ⟨y1, y2, y3, y4, y5, y6⟩ := hL.1
  have s7 := hL.s7
  have s9 := hL.s9
  obtain ⟨a, u, v, e1, e2, su, iu, hv⟩ := rL_late (x := xs (6 * (i : Int) + 1).toNat) (y := xs (6 * (i : Int) + 2).toNat) hL hi (hx (6 * (i : Int) + 1).toNat).1 (hx (6 * (i : Int) + 1).toNat).2 (hx (6 * (i : Int) + 2).toNat).1 (hx (6 * (i : Int) + 2).toNat).2
  have z1 : mS u 0 = (4, 0, L) := by rw [su]; exact y1
  have z2 : mI u 0 = xs := iu.trans y2
  have z9 : mS u 238 = (1, 9, 0) := by rw [su]; exact s9
  have e : jto P (40, (0, jvr 0) :: (1, jvr 64) :: (2, jvr 238) :: (3, jvr 252) :: (4, .inl (6 * (i : Int))) :: tl, [.inl 31], w) = jto P (23, (0, jvr 0) :: (1, jvr 64) :: (2, jvr 238) :: (3, jvr 252) :: (4, .inl (6 * (i : Int) + 6)) :: tl, [], v) := by
    simp (disch := omega) only [z312_40_31, z312_1107, z312_1108, z312_1109, z312_1111, z312_1112, z312_1113, z312_1114, z312_1115, z312_1117, z312_1118, z312_1119, z312_1120, z312_1123, z312_1124, z312_1125, z312_1127, z312_1128, z312_1129, z312_1130, z312_1131, z312_1133, z312_1134, z312_1135, z312_1136, z312_1139, z312_1142, z312_1590, z312_1593, jwd_c, jwd_0, Nat.reduceLeDiff, Nat.reduceEqDiff, Nat.reduceAdd, Nat.reduceSub, Nat.reduceMul, Int.reduceAdd, Int.reduceSub, Int.reduceMul, Int.reduceNeg, Int.reduceEq, Int.reduceLT, Int.reduceLE, jp_ldi_i, jp_lda_a, jp_inc_i, jp_gb_t, jp_gr_4, jp_gw_2, jp_cs_t, jp_c_i, jp_c_n, jg_c, jg_n, js_c, js_n, jrm_c, jrm_n, j2_i, j2_l, j2_a, jin_t, jix_t, jwd_le, ↓reduceIte, decide_true, or_true, true_or, and_self, false_or, or_false, reduceCtorEq, Bool.false_eq_true, and_false, false_and, eq_self, true_and, and_true, zero_ne, hj, y1, y2, s7, z1, z2, z9, e1, e2]
  rw [e]
  exact jto_stop rfl (hP v hv)
theorem lwc_32 (hL : LI L i xs w) (hL2 : L ≤ 3072) (hi : i < 512) (hx : XB xs) (h6 : 6 * i + 6 ≤ L) (hj : jrm tl 4 = tl) (hP : ∀ v, LI L (i + 1) xs v → P (23, (0, jvr 0) :: (1, jvr 64) :: (2, jvr 238) :: (3, jvr 252) :: (4, .inl (6 * (i : Int) + 6)) :: tl, [], v)) : jto P (40, (0, jvr 0) :: (1, jvr 64) :: (2, jvr 238) :: (3, jvr 252) :: (4, .inl (6 * (i : Int))) :: tl, [.inl 32], w) := by
  obtain ⟨y1, y2, y3, y4, y5, y6⟩ := hL.1
  have s7 := hL.s7
  have s9 := hL.s9
  obtain ⟨a, u, v, e1, e2, su, iu, hv⟩ := rL_kicks hL hi
  have z1 : mS u 0 = (4, 0, L) := by rw [su]; exact y1
  have z2 : mI u 0 = xs := iu.trans y2
  have z9 : mS u 238 = (1, 9, 0) := by rw [su]; exact s9
  have e : jto P (40, (0, jvr 0) :: (1, jvr 64) :: (2, jvr 238) :: (3, jvr 252) :: (4, .inl (6 * (i : Int))) :: tl, [.inl 32], w) = jto P (23, (0, jvr 0) :: (1, jvr 64) :: (2, jvr 238) :: (3, jvr 252) :: (4, .inl (6 * (i : Int) + 6)) :: tl, [], v) := by
    simp (disch := omega) only [z312_40_32, z312_1144, z312_1145, z312_1148, z312_1149, z312_1152, z312_1155, z312_1590, z312_1593, jwd_c, jwd_0, Nat.reduceLeDiff, Nat.reduceEqDiff, Nat.reduceAdd, Nat.reduceSub, Nat.reduceMul, Int.reduceAdd, Int.reduceSub, Int.reduceMul, Int.reduceNeg, Int.reduceEq, Int.reduceLT, Int.reduceLE, jp_ldi_i, jp_lda_a, jp_inc_i, jp_gb_t, jp_gr_4, jp_gw_2, jp_cs_t, jp_c_i, jp_c_n, jg_c, jg_n, js_c, js_n, jrm_c, jrm_n, j2_i, j2_l, j2_a, jin_t, jix_t, jwd_le, ↓reduceIte, decide_true, or_true, true_or, and_self, false_or, or_false, reduceCtorEq, Bool.false_eq_true, and_false, false_and, eq_self, true_and, and_true, zero_ne, hj, y1, y2, s7, z1, z2, z9, e1, e2]
  rw [e]
  exact jto_stop rfl (hP v hv)
theorem lwc_33 (hL : LI L i xs w) (hL2 : L ≤ 3072) (hi : i < 512) (hx : XB xs) (h6 : 6 * i + 6 ≤ L) (hj : jrm tl 4 = tl) (hP : ∀ v, LI L (i + 1) xs v → P (23, (0, jvr 0) :: (1, jvr 64) :: (2, jvr 238) :: (3, jvr 252) :: (4, .inl (6 * (i : Int) + 6)) :: tl, [], v)) : jto P (40, (0, jvr 0) :: (1, jvr 64) :: (2, jvr 238) :: (3, jvr 252) :: (4, .inl (6 * (i : Int))) :: tl, [.inl 33], w) := by
  obtain ⟨y1, y2, y3, y4, y5, y6⟩ := hL.1
  have s7 := hL.s7
  have s9 := hL.s9
  obtain ⟨a, u, v, e1, e2, su, iu, hv⟩ := rL_inTime hL hi
  have z1 : mS u 0 = (4, 0, L) := by rw [su]; exact y1
  have z2 : mI u 0 = xs := iu.trans y2
  have z9 : mS u 238 = (1, 9, 0) := by rw [su]; exact s9
  have e : jto P (40, (0, jvr 0) :: (1, jvr 64) :: (2, jvr 238) :: (3, jvr 252) :: (4, .inl (6 * (i : Int))) :: tl, [.inl 33], w) = jto P (23, (0, jvr 0) :: (1, jvr 64) :: (2, jvr 238) :: (3, jvr 252) :: (4, .inl (6 * (i : Int) + 6)) :: tl, [], v) := by
    simp (disch := omega) only [z312_40_33, z312_1157, z312_1158, z312_1161, z312_1162, z312_1165, z312_1168, z312_1590, z312_1593, jwd_c, jwd_0, Nat.reduceLeDiff, Nat.reduceEqDiff, Nat.reduceAdd, Nat.reduceSub, Nat.reduceMul, Int.reduceAdd, Int.reduceSub, Int.reduceMul, Int.reduceNeg, Int.reduceEq, Int.reduceLT, Int.reduceLE, jp_ldi_i, jp_lda_a, jp_inc_i, jp_gb_t, jp_gr_4, jp_gw_2, jp_cs_t, jp_c_i, jp_c_n, jg_c, jg_n, js_c, js_n, jrm_c, jrm_n, j2_i, j2_l, j2_a, jin_t, jix_t, jwd_le, ↓reduceIte, decide_true, or_true, true_or, and_self, false_or, or_false, reduceCtorEq, Bool.false_eq_true, and_false, false_and, eq_self, true_and, and_true, zero_ne, hj, y1, y2, s7, z1, z2, z9, e1, e2]
  rw [e]
  exact jto_stop rfl (hP v hv)
theorem lwc_34 (hL : LI L i xs w) (hL2 : L ≤ 3072) (hi : i < 512) (hx : XB xs) (h6 : 6 * i + 6 ≤ L) (hj : jrm tl 4 = tl) (hP : ∀ v, LI L (i + 1) xs v → P (23, (0, jvr 0) :: (1, jvr 64) :: (2, jvr 238) :: (3, jvr 252) :: (4, .inl (6 * (i : Int) + 6)) :: tl, [], v)) : jto P (40, (0, jvr 0) :: (1, jvr 64) :: (2, jvr 238) :: (3, jvr 252) :: (4, .inl (6 * (i : Int))) :: tl, [.inl 34], w) := by
  obtain ⟨y1, y2, y3, y4, y5, y6⟩ := hL.1
  have s7 := hL.s7
  have s9 := hL.s9
  obtain ⟨a, u, v, e1, e2, su, iu, hv⟩ := rL_bestBand hL hi
  have z1 : mS u 0 = (4, 0, L) := by rw [su]; exact y1
  have z2 : mI u 0 = xs := iu.trans y2
  have z9 : mS u 238 = (1, 9, 0) := by rw [su]; exact s9
  have e : jto P (40, (0, jvr 0) :: (1, jvr 64) :: (2, jvr 238) :: (3, jvr 252) :: (4, .inl (6 * (i : Int))) :: tl, [.inl 34], w) = jto P (23, (0, jvr 0) :: (1, jvr 64) :: (2, jvr 238) :: (3, jvr 252) :: (4, .inl (6 * (i : Int) + 6)) :: tl, [], v) := by
    simp (disch := omega) only [z312_40_34, z312_1170, z312_1171, z312_1174, z312_1175, z312_1178, z312_1181, z312_1590, z312_1593, jwd_c, jwd_0, Nat.reduceLeDiff, Nat.reduceEqDiff, Nat.reduceAdd, Nat.reduceSub, Nat.reduceMul, Int.reduceAdd, Int.reduceSub, Int.reduceMul, Int.reduceNeg, Int.reduceEq, Int.reduceLT, Int.reduceLE, jp_ldi_i, jp_lda_a, jp_inc_i, jp_gb_t, jp_gr_4, jp_gw_2, jp_cs_t, jp_c_i, jp_c_n, jg_c, jg_n, js_c, js_n, jrm_c, jrm_n, j2_i, j2_l, j2_a, jin_t, jix_t, jwd_le, ↓reduceIte, decide_true, or_true, true_or, and_self, false_or, or_false, reduceCtorEq, Bool.false_eq_true, and_false, false_and, eq_self, true_and, and_true, zero_ne, hj, y1, y2, s7, z1, z2, z9, e1, e2]
  rw [e]
  exact jto_stop rfl (hP v hv)
theorem lwc_35 (hL : LI L i xs w) (hL2 : L ≤ 3072) (hi : i < 512) (hx : XB xs) (h6 : 6 * i + 6 ≤ L) (hj : jrm tl 4 = tl) (hP : ∀ v, LI L (i + 1) xs v → P (23, (0, jvr 0) :: (1, jvr 64) :: (2, jvr 238) :: (3, jvr 252) :: (4, .inl (6 * (i : Int) + 6)) :: tl, [], v)) : jto P (40, (0, jvr 0) :: (1, jvr 64) :: (2, jvr 238) :: (3, jvr 252) :: (4, .inl (6 * (i : Int))) :: tl, [.inl 35], w) := by
  obtain ⟨y1, y2, y3, y4, y5, y6⟩ := hL.1
  have s7 := hL.s7
  have s9 := hL.s9
  obtain ⟨a, u, v, e1, e2, su, iu, hv⟩ := rL_out hL hi
  have z1 : mS u 0 = (4, 0, L) := by rw [su]; exact y1
  have z2 : mI u 0 = xs := iu.trans y2
  have z9 : mS u 238 = (1, 9, 0) := by rw [su]; exact s9
  have e : jto P (40, (0, jvr 0) :: (1, jvr 64) :: (2, jvr 238) :: (3, jvr 252) :: (4, .inl (6 * (i : Int))) :: tl, [.inl 35], w) = jto P (23, (0, jvr 0) :: (1, jvr 64) :: (2, jvr 238) :: (3, jvr 252) :: (4, .inl (6 * (i : Int) + 6)) :: tl, [], v) := by
    simp (disch := omega) only [z312_40_35, z312_1183, z312_1184, z312_1187, z312_1188, z312_1191, z312_1194, z312_1590, z312_1593, jwd_c, jwd_0, Nat.reduceLeDiff, Nat.reduceEqDiff, Nat.reduceAdd, Nat.reduceSub, Nat.reduceMul, Int.reduceAdd, Int.reduceSub, Int.reduceMul, Int.reduceNeg, Int.reduceEq, Int.reduceLT, Int.reduceLE, jp_ldi_i, jp_lda_a, jp_inc_i, jp_gb_t, jp_gr_4, jp_gw_2, jp_cs_t, jp_c_i, jp_c_n, jg_c, jg_n, js_c, js_n, jrm_c, jrm_n, j2_i, j2_l, j2_a, jin_t, jix_t, jwd_le, ↓reduceIte, decide_true, or_true, true_or, and_self, false_or, or_false, reduceCtorEq, Bool.false_eq_true, and_false, false_and, eq_self, true_and, and_true, zero_ne, hj, y1, y2, s7, z1, z2, z9, e1, e2]
  rw [e]
  exact jto_stop rfl (hP v hv)
theorem lwc_36 (hL : LI L i xs w) (hL2 : L ≤ 3072) (hi : i < 512) (hx : XB xs) (h6 : 6 * i + 6 ≤ L) (hj : jrm tl 4 = tl) (hP : ∀ v, LI L (i + 1) xs v → P (23, (0, jvr 0) :: (1, jvr 64) :: (2, jvr 238) :: (3, jvr 252) :: (4, .inl (6 * (i : Int) + 6)) :: tl, [], v)) : jto P (40, (0, jvr 0) :: (1, jvr 64) :: (2, jvr 238) :: (3, jvr 252) :: (4, .inl (6 * (i : Int))) :: tl, [.inl 36], w) := by
  obtain ⟨y1, y2, y3, y4, y5, y6⟩ := hL.1
  have s7 := hL.s7
  have s9 := hL.s9
  obtain ⟨a, u, v, e1, e2, su, iu, hv⟩ := rL_fits hL hi
  have z1 : mS u 0 = (4, 0, L) := by rw [su]; exact y1
  have z2 : mI u 0 = xs := iu.trans y2
  have z9 : mS u 238 = (1, 9, 0) := by rw [su]; exact s9
  have e : jto P (40, (0, jvr 0) :: (1, jvr 64) :: (2, jvr 238) :: (3, jvr 252) :: (4, .inl (6 * (i : Int))) :: tl, [.inl 36], w) = jto P (23, (0, jvr 0) :: (1, jvr 64) :: (2, jvr 238) :: (3, jvr 252) :: (4, .inl (6 * (i : Int) + 6)) :: tl, [], v) := by
    simp (disch := omega) only [z312_40_36, z312_1196, z312_1197, z312_1200, z312_1201, z312_1204, z312_1207, z312_1590, z312_1593, jwd_c, jwd_0, Nat.reduceLeDiff, Nat.reduceEqDiff, Nat.reduceAdd, Nat.reduceSub, Nat.reduceMul, Int.reduceAdd, Int.reduceSub, Int.reduceMul, Int.reduceNeg, Int.reduceEq, Int.reduceLT, Int.reduceLE, jp_ldi_i, jp_lda_a, jp_inc_i, jp_gb_t, jp_gr_4, jp_gw_2, jp_cs_t, jp_c_i, jp_c_n, jg_c, jg_n, js_c, js_n, jrm_c, jrm_n, j2_i, j2_l, j2_a, jin_t, jix_t, jwd_le, ↓reduceIte, decide_true, or_true, true_or, and_self, false_or, or_false, reduceCtorEq, Bool.false_eq_true, and_false, false_and, eq_self, true_and, and_true, zero_ne, hj, y1, y2, s7, z1, z2, z9, e1, e2]
  rw [e]
  exact jto_stop rfl (hP v hv)
theorem lwc_37 (hL : LI L i xs w) (hL2 : L ≤ 3072) (hi : i < 512) (hx : XB xs) (h6 : 6 * i + 6 ≤ L) (hj : jrm tl 4 = tl) (hP : ∀ v, LI L (i + 1) xs v → P (23, (0, jvr 0) :: (1, jvr 64) :: (2, jvr 238) :: (3, jvr 252) :: (4, .inl (6 * (i : Int) + 6)) :: tl, [], v)) : jto P (40, (0, jvr 0) :: (1, jvr 64) :: (2, jvr 238) :: (3, jvr 252) :: (4, .inl (6 * (i : Int))) :: tl, [.inl 37], w) := by
  obtain ⟨y1, y2, y3, y4, y5, y6⟩ := hL.1
  have s7 := hL.s7
  have s9 := hL.s9
  obtain ⟨a, u, v, e1, e2, su, iu, hv⟩ := rL_dance (x := xs (6 * (i : Int) + 1).toNat) hL hi (hx (6 * (i : Int) + 1).toNat).1 (hx (6 * (i : Int) + 1).toNat).2
  have z1 : mS u 0 = (4, 0, L) := by rw [su]; exact y1
  have z2 : mI u 0 = xs := iu.trans y2
  have z9 : mS u 238 = (1, 9, 0) := by rw [su]; exact s9
  have e : jto P (40, (0, jvr 0) :: (1, jvr 64) :: (2, jvr 238) :: (3, jvr 252) :: (4, .inl (6 * (i : Int))) :: tl, [.inl 37], w) = jto P (23, (0, jvr 0) :: (1, jvr 64) :: (2, jvr 238) :: (3, jvr 252) :: (4, .inl (6 * (i : Int) + 6)) :: tl, [], v) := by
    simp (disch := omega) only [z312_40_37, z312_1209, z312_1210, z312_1211, z312_1213, z312_1214, z312_1215, z312_1216, z312_1219, z312_1220, z312_1221, z312_1223, z312_1224, z312_1225, z312_1226, z312_1229, z312_1232, z312_1590, z312_1593, jwd_c, jwd_0, Nat.reduceLeDiff, Nat.reduceEqDiff, Nat.reduceAdd, Nat.reduceSub, Nat.reduceMul, Int.reduceAdd, Int.reduceSub, Int.reduceMul, Int.reduceNeg, Int.reduceEq, Int.reduceLT, Int.reduceLE, jp_ldi_i, jp_lda_a, jp_inc_i, jp_gb_t, jp_gr_4, jp_gw_2, jp_cs_t, jp_c_i, jp_c_n, jg_c, jg_n, js_c, js_n, jrm_c, jrm_n, j2_i, j2_l, j2_a, jin_t, jix_t, jwd_le, ↓reduceIte, decide_true, or_true, true_or, and_self, false_or, or_false, reduceCtorEq, Bool.false_eq_true, and_false, false_and, eq_self, true_and, and_true, zero_ne, hj, y1, y2, s7, z1, z2, z9, e1, e2]
  rw [e]
  exact jto_stop rfl (hP v hv)
theorem lwc_38 (hL : LI L i xs w) (hL2 : L ≤ 3072) (hi : i < 512) (hx : XB xs) (h6 : 6 * i + 6 ≤ L) (hj : jrm tl 4 = tl) (hP : ∀ v, LI L (i + 1) xs v → P (23, (0, jvr 0) :: (1, jvr 64) :: (2, jvr 238) :: (3, jvr 252) :: (4, .inl (6 * (i : Int) + 6)) :: tl, [], v)) : jto P (40, (0, jvr 0) :: (1, jvr 64) :: (2, jvr 238) :: (3, jvr 252) :: (4, .inl (6 * (i : Int))) :: tl, [.inl 38], w) := by
  obtain ⟨y1, y2, y3, y4, y5, y6⟩ := hL.1
  have s7 := hL.s7
  have s9 := hL.s9
  obtain ⟨a, u, v, e1, e2, su, iu, hv⟩ := rL_lead (x := xs (6 * (i : Int) + 1).toNat) hL hi (hx (6 * (i : Int) + 1).toNat).1 (hx (6 * (i : Int) + 1).toNat).2
  have z1 : mS u 0 = (4, 0, L) := by rw [su]; exact y1
  have z2 : mI u 0 = xs := iu.trans y2
  have z9 : mS u 238 = (1, 9, 0) := by rw [su]; exact s9
  have e : jto P (40, (0, jvr 0) :: (1, jvr 64) :: (2, jvr 238) :: (3, jvr 252) :: (4, .inl (6 * (i : Int))) :: tl, [.inl 38], w) = jto P (23, (0, jvr 0) :: (1, jvr 64) :: (2, jvr 238) :: (3, jvr 252) :: (4, .inl (6 * (i : Int) + 6)) :: tl, [], v) := by
    simp (disch := omega) only [z312_40_38, z312_1234, z312_1235, z312_1236, z312_1238, z312_1239, z312_1240, z312_1241, z312_1244, z312_1245, z312_1246, z312_1248, z312_1249, z312_1250, z312_1251, z312_1254, z312_1257, z312_1590, z312_1593, jwd_c, jwd_0, Nat.reduceLeDiff, Nat.reduceEqDiff, Nat.reduceAdd, Nat.reduceSub, Nat.reduceMul, Int.reduceAdd, Int.reduceSub, Int.reduceMul, Int.reduceNeg, Int.reduceEq, Int.reduceLT, Int.reduceLE, jp_ldi_i, jp_lda_a, jp_inc_i, jp_gb_t, jp_gr_4, jp_gw_2, jp_cs_t, jp_c_i, jp_c_n, jg_c, jg_n, js_c, js_n, jrm_c, jrm_n, j2_i, j2_l, j2_a, jin_t, jix_t, jwd_le, ↓reduceIte, decide_true, or_true, true_or, and_self, false_or, or_false, reduceCtorEq, Bool.false_eq_true, and_false, false_and, eq_self, true_and, and_true, zero_ne, hj, y1, y2, s7, z1, z2, z9, e1, e2]
  rw [e]
  exact jto_stop rfl (hP v hv)
theorem lwc_39 (hL : LI L i xs w) (hL2 : L ≤ 3072) (hi : i < 512) (hx : XB xs) (h6 : 6 * i + 6 ≤ L) (hj : jrm tl 4 = tl) (hP : ∀ v, LI L (i + 1) xs v → P (23, (0, jvr 0) :: (1, jvr 64) :: (2, jvr 238) :: (3, jvr 252) :: (4, .inl (6 * (i : Int) + 6)) :: tl, [], v)) : jto P (40, (0, jvr 0) :: (1, jvr 64) :: (2, jvr 238) :: (3, jvr 252) :: (4, .inl (6 * (i : Int))) :: tl, [.inl 39], w) := by
  obtain ⟨y1, y2, y3, y4, y5, y6⟩ := hL.1
  have s7 := hL.s7
  have s9 := hL.s9
  obtain ⟨a, u, v, e1, e2, su, iu, hv⟩ := rL_change (x := xs (6 * (i : Int) + 1).toNat) (y := xs (6 * (i : Int) + 2).toNat) hL hi (hx (6 * (i : Int) + 1).toNat).1 (hx (6 * (i : Int) + 1).toNat).2 (hx (6 * (i : Int) + 2).toNat).1 (hx (6 * (i : Int) + 2).toNat).2
  have z1 : mS u 0 = (4, 0, L) := by rw [su]; exact y1
  have z2 : mI u 0 = xs := iu.trans y2
  have z9 : mS u 238 = (1, 9, 0) := by rw [su]; exact s9
  have e : jto P (40, (0, jvr 0) :: (1, jvr 64) :: (2, jvr 238) :: (3, jvr 252) :: (4, .inl (6 * (i : Int))) :: tl, [.inl 39], w) = jto P (23, (0, jvr 0) :: (1, jvr 64) :: (2, jvr 238) :: (3, jvr 252) :: (4, .inl (6 * (i : Int) + 6)) :: tl, [], v) := by
    simp (disch := omega) only [z312_40_39, z312_1259, z312_1260, z312_1261, z312_1263, z312_1264, z312_1265, z312_1266, z312_1267, z312_1269, z312_1270, z312_1271, z312_1272, z312_1275, z312_1276, z312_1277, z312_1279, z312_1280, z312_1281, z312_1282, z312_1283, z312_1285, z312_1286, z312_1287, z312_1288, z312_1291, z312_1294, z312_1590, z312_1593, jwd_c, jwd_0, Nat.reduceLeDiff, Nat.reduceEqDiff, Nat.reduceAdd, Nat.reduceSub, Nat.reduceMul, Int.reduceAdd, Int.reduceSub, Int.reduceMul, Int.reduceNeg, Int.reduceEq, Int.reduceLT, Int.reduceLE, jp_ldi_i, jp_lda_a, jp_inc_i, jp_gb_t, jp_gr_4, jp_gw_2, jp_cs_t, jp_c_i, jp_c_n, jg_c, jg_n, js_c, js_n, jrm_c, jrm_n, j2_i, j2_l, j2_a, jin_t, jix_t, jwd_le, ↓reduceIte, decide_true, or_true, true_or, and_self, false_or, or_false, reduceCtorEq, Bool.false_eq_true, and_false, false_and, eq_self, true_and, and_true, zero_ne, hj, y1, y2, s7, z1, z2, z9, e1, e2]
  rw [e]
  exact jto_stop rfl (hP v hv)
theorem lwc_40 (hL : LI L i xs w) (hL2 : L ≤ 3072) (hi : i < 512) (hx : XB xs) (h6 : 6 * i + 6 ≤ L) (hj : jrm tl 4 = tl) (hP : ∀ v, LI L (i + 1) xs v → P (23, (0, jvr 0) :: (1, jvr 64) :: (2, jvr 238) :: (3, jvr 252) :: (4, .inl (6 * (i : Int) + 6)) :: tl, [], v)) : jto P (40, (0, jvr 0) :: (1, jvr 64) :: (2, jvr 238) :: (3, jvr 252) :: (4, .inl (6 * (i : Int))) :: tl, [.inl 40], w) := by
  obtain ⟨y1, y2, y3, y4, y5, y6⟩ := hL.1
  have s7 := hL.s7
  have s9 := hL.s9
  obtain ⟨a, u, v, e1, e2, su, iu, hv⟩ := rL_letGo (x := xs (6 * (i : Int) + 1).toNat) hL hi (hx (6 * (i : Int) + 1).toNat).1 (hx (6 * (i : Int) + 1).toNat).2
  have z1 : mS u 0 = (4, 0, L) := by rw [su]; exact y1
  have z2 : mI u 0 = xs := iu.trans y2
  have z9 : mS u 238 = (1, 9, 0) := by rw [su]; exact s9
  have e : jto P (40, (0, jvr 0) :: (1, jvr 64) :: (2, jvr 238) :: (3, jvr 252) :: (4, .inl (6 * (i : Int))) :: tl, [.inl 40], w) = jto P (23, (0, jvr 0) :: (1, jvr 64) :: (2, jvr 238) :: (3, jvr 252) :: (4, .inl (6 * (i : Int) + 6)) :: tl, [], v) := by
    simp (disch := omega) only [z312_40_40, z312_1296, z312_1297, z312_1298, z312_1300, z312_1301, z312_1302, z312_1303, z312_1306, z312_1307, z312_1308, z312_1310, z312_1311, z312_1312, z312_1313, z312_1316, z312_1319, z312_1590, z312_1593, jwd_c, jwd_0, Nat.reduceLeDiff, Nat.reduceEqDiff, Nat.reduceAdd, Nat.reduceSub, Nat.reduceMul, Int.reduceAdd, Int.reduceSub, Int.reduceMul, Int.reduceNeg, Int.reduceEq, Int.reduceLT, Int.reduceLE, jp_ldi_i, jp_lda_a, jp_inc_i, jp_gb_t, jp_gr_4, jp_gw_2, jp_cs_t, jp_c_i, jp_c_n, jg_c, jg_n, js_c, js_n, jrm_c, jrm_n, j2_i, j2_l, j2_a, jin_t, jix_t, jwd_le, ↓reduceIte, decide_true, or_true, true_or, and_self, false_or, or_false, reduceCtorEq, Bool.false_eq_true, and_false, false_and, eq_self, true_and, and_true, zero_ne, hj, y1, y2, s7, z1, z2, z9, e1, e2]
  rw [e]
  exact jto_stop rfl (hP v hv)
theorem lwc_41 (hL : LI L i xs w) (hL2 : L ≤ 3072) (hi : i < 512) (hx : XB xs) (h6 : 6 * i + 6 ≤ L) (hj : jrm tl 4 = tl) (hP : ∀ v, LI L (i + 1) xs v → P (23, (0, jvr 0) :: (1, jvr 64) :: (2, jvr 238) :: (3, jvr 252) :: (4, .inl (6 * (i : Int) + 6)) :: tl, [], v)) : jto P (40, (0, jvr 0) :: (1, jvr 64) :: (2, jvr 238) :: (3, jvr 252) :: (4, .inl (6 * (i : Int))) :: tl, [.inl 41], w) := by
  obtain ⟨y1, y2, y3, y4, y5, y6⟩ := hL.1
  have s7 := hL.s7
  have s9 := hL.s9
  obtain ⟨a, u, v, e1, e2, su, iu, hv⟩ := rL_band (x := xs (6 * (i : Int) + 1).toNat) (y := xs (6 * (i : Int) + 2).toNat) hL hi (hx (6 * (i : Int) + 1).toNat).1 (hx (6 * (i : Int) + 1).toNat).2 (hx (6 * (i : Int) + 2).toNat).1 (hx (6 * (i : Int) + 2).toNat).2
  have z1 : mS u 0 = (4, 0, L) := by rw [su]; exact y1
  have z2 : mI u 0 = xs := iu.trans y2
  have z9 : mS u 238 = (1, 9, 0) := by rw [su]; exact s9
  have e : jto P (40, (0, jvr 0) :: (1, jvr 64) :: (2, jvr 238) :: (3, jvr 252) :: (4, .inl (6 * (i : Int))) :: tl, [.inl 41], w) = jto P (23, (0, jvr 0) :: (1, jvr 64) :: (2, jvr 238) :: (3, jvr 252) :: (4, .inl (6 * (i : Int) + 6)) :: tl, [], v) := by
    simp (disch := omega) only [z312_40_41, z312_1321, z312_1322, z312_1323, z312_1325, z312_1326, z312_1327, z312_1328, z312_1329, z312_1331, z312_1332, z312_1333, z312_1334, z312_1337, z312_1338, z312_1339, z312_1341, z312_1342, z312_1343, z312_1344, z312_1345, z312_1347, z312_1348, z312_1349, z312_1350, z312_1353, z312_1356, z312_1590, z312_1593, jwd_c, jwd_0, Nat.reduceLeDiff, Nat.reduceEqDiff, Nat.reduceAdd, Nat.reduceSub, Nat.reduceMul, Int.reduceAdd, Int.reduceSub, Int.reduceMul, Int.reduceNeg, Int.reduceEq, Int.reduceLT, Int.reduceLE, jp_ldi_i, jp_lda_a, jp_inc_i, jp_gb_t, jp_gr_4, jp_gw_2, jp_cs_t, jp_c_i, jp_c_n, jg_c, jg_n, js_c, js_n, jrm_c, jrm_n, j2_i, j2_l, j2_a, jin_t, jix_t, jwd_le, ↓reduceIte, decide_true, or_true, true_or, and_self, false_or, or_false, reduceCtorEq, Bool.false_eq_true, and_false, false_and, eq_self, true_and, and_true, zero_ne, hj, y1, y2, s7, z1, z2, z9, e1, e2]
  rw [e]
  exact jto_stop rfl (hP v hv)
theorem lwc_42 (hL : LI L i xs w) (hL2 : L ≤ 3072) (hi : i < 512) (hx : XB xs) (h6 : 6 * i + 6 ≤ L) (hj : jrm tl 4 = tl) (hP : ∀ v, LI L (i + 1) xs v → P (23, (0, jvr 0) :: (1, jvr 64) :: (2, jvr 238) :: (3, jvr 252) :: (4, .inl (6 * (i : Int) + 6)) :: tl, [], v)) : jto P (40, (0, jvr 0) :: (1, jvr 64) :: (2, jvr 238) :: (3, jvr 252) :: (4, .inl (6 * (i : Int))) :: tl, [.inl 42], w) := by
  obtain ⟨y1, y2, y3, y4, y5, y6⟩ := hL.1
  have s7 := hL.s7
  have s9 := hL.s9
  obtain ⟨a, u, v, e1, e2, su, iu, hv⟩ := rL_seed (x := xs (6 * (i : Int) + 1).toNat) hL hi (hx (6 * (i : Int) + 1).toNat).1 (hx (6 * (i : Int) + 1).toNat).2
  have z1 : mS u 0 = (4, 0, L) := by rw [su]; exact y1
  have z2 : mI u 0 = xs := iu.trans y2
  have z9 : mS u 238 = (1, 9, 0) := by rw [su]; exact s9
  have e : jto P (40, (0, jvr 0) :: (1, jvr 64) :: (2, jvr 238) :: (3, jvr 252) :: (4, .inl (6 * (i : Int))) :: tl, [.inl 42], w) = jto P (23, (0, jvr 0) :: (1, jvr 64) :: (2, jvr 238) :: (3, jvr 252) :: (4, .inl (6 * (i : Int) + 6)) :: tl, [], v) := by
    simp (disch := omega) only [z312_40_42, z312_1358, z312_1359, z312_1360, z312_1362, z312_1363, z312_1364, z312_1365, z312_1368, z312_1369, z312_1370, z312_1372, z312_1373, z312_1374, z312_1375, z312_1378, z312_1381, z312_1590, z312_1593, jwd_c, jwd_0, Nat.reduceLeDiff, Nat.reduceEqDiff, Nat.reduceAdd, Nat.reduceSub, Nat.reduceMul, Int.reduceAdd, Int.reduceSub, Int.reduceMul, Int.reduceNeg, Int.reduceEq, Int.reduceLT, Int.reduceLE, jp_ldi_i, jp_lda_a, jp_inc_i, jp_gb_t, jp_gr_4, jp_gw_2, jp_cs_t, jp_c_i, jp_c_n, jg_c, jg_n, js_c, js_n, jrm_c, jrm_n, j2_i, j2_l, j2_a, jin_t, jix_t, jwd_le, ↓reduceIte, decide_true, or_true, true_or, and_self, false_or, or_false, reduceCtorEq, Bool.false_eq_true, and_false, false_and, eq_self, true_and, and_true, zero_ne, hj, y1, y2, s7, z1, z2, z9, e1, e2]
  rw [e]
  exact jto_stop rfl (hP v hv)
theorem lwc_43 (hL : LI L i xs w) (hL2 : L ≤ 3072) (hi : i < 512) (hx : XB xs) (h6 : 6 * i + 6 ≤ L) (hj : jrm tl 4 = tl) (hP : ∀ v, LI L (i + 1) xs v → P (23, (0, jvr 0) :: (1, jvr 64) :: (2, jvr 238) :: (3, jvr 252) :: (4, .inl (6 * (i : Int) + 6)) :: tl, [], v)) : jto P (40, (0, jvr 0) :: (1, jvr 64) :: (2, jvr 238) :: (3, jvr 252) :: (4, .inl (6 * (i : Int))) :: tl, [.inl 43], w) := by
  obtain ⟨y1, y2, y3, y4, y5, y6⟩ := hL.1
  have s7 := hL.s7
  have s9 := hL.s9
  obtain ⟨a, u, v, e1, e2, su, iu, hv⟩ := rL_undo hL hi
  have z1 : mS u 0 = (4, 0, L) := by rw [su]; exact y1
  have z2 : mI u 0 = xs := iu.trans y2
  have z9 : mS u 238 = (1, 9, 0) := by rw [su]; exact s9
  have e : jto P (40, (0, jvr 0) :: (1, jvr 64) :: (2, jvr 238) :: (3, jvr 252) :: (4, .inl (6 * (i : Int))) :: tl, [.inl 43], w) = jto P (23, (0, jvr 0) :: (1, jvr 64) :: (2, jvr 238) :: (3, jvr 252) :: (4, .inl (6 * (i : Int) + 6)) :: tl, [], v) := by
    simp (disch := omega) only [z312_40_43, z312_1383, z312_1384, z312_1387, z312_1388, z312_1391, z312_1394, z312_1590, z312_1593, jwd_c, jwd_0, Nat.reduceLeDiff, Nat.reduceEqDiff, Nat.reduceAdd, Nat.reduceSub, Nat.reduceMul, Int.reduceAdd, Int.reduceSub, Int.reduceMul, Int.reduceNeg, Int.reduceEq, Int.reduceLT, Int.reduceLE, jp_ldi_i, jp_lda_a, jp_inc_i, jp_gb_t, jp_gr_4, jp_gw_2, jp_cs_t, jp_c_i, jp_c_n, jg_c, jg_n, js_c, js_n, jrm_c, jrm_n, j2_i, j2_l, j2_a, jin_t, jix_t, jwd_le, ↓reduceIte, decide_true, or_true, true_or, and_self, false_or, or_false, reduceCtorEq, Bool.false_eq_true, and_false, false_and, eq_self, true_and, and_true, zero_ne, hj, y1, y2, s7, z1, z2, z9, e1, e2]
  rw [e]
  exact jto_stop rfl (hP v hv)
theorem lwc_44 (hL : LI L i xs w) (hL2 : L ≤ 3072) (hi : i < 512) (hx : XB xs) (h6 : 6 * i + 6 ≤ L) (hj : jrm tl 4 = tl) (hP : ∀ v, LI L (i + 1) xs v → P (23, (0, jvr 0) :: (1, jvr 64) :: (2, jvr 238) :: (3, jvr 252) :: (4, .inl (6 * (i : Int) + 6)) :: tl, [], v)) : jto P (40, (0, jvr 0) :: (1, jvr 64) :: (2, jvr 238) :: (3, jvr 252) :: (4, .inl (6 * (i : Int))) :: tl, [.inl 44], w) := by
  obtain ⟨y1, y2, y3, y4, y5, y6⟩ := hL.1
  have s7 := hL.s7
  have s9 := hL.s9
  obtain ⟨a, u, v, e1, e2, su, iu, hv⟩ := rL_mark hL hi
  have z1 : mS u 0 = (4, 0, L) := by rw [su]; exact y1
  have z2 : mI u 0 = xs := iu.trans y2
  have z9 : mS u 238 = (1, 9, 0) := by rw [su]; exact s9
  have e : jto P (40, (0, jvr 0) :: (1, jvr 64) :: (2, jvr 238) :: (3, jvr 252) :: (4, .inl (6 * (i : Int))) :: tl, [.inl 44], w) = jto P (23, (0, jvr 0) :: (1, jvr 64) :: (2, jvr 238) :: (3, jvr 252) :: (4, .inl (6 * (i : Int) + 6)) :: tl, [], v) := by
    simp (disch := omega) only [z312_40_44, z312_1396, z312_1397, z312_1400, z312_1401, z312_1404, z312_1407, z312_1590, z312_1593, jwd_c, jwd_0, Nat.reduceLeDiff, Nat.reduceEqDiff, Nat.reduceAdd, Nat.reduceSub, Nat.reduceMul, Int.reduceAdd, Int.reduceSub, Int.reduceMul, Int.reduceNeg, Int.reduceEq, Int.reduceLT, Int.reduceLE, jp_ldi_i, jp_lda_a, jp_inc_i, jp_gb_t, jp_gr_4, jp_gw_2, jp_cs_t, jp_c_i, jp_c_n, jg_c, jg_n, js_c, js_n, jrm_c, jrm_n, j2_i, j2_l, j2_a, jin_t, jix_t, jwd_le, ↓reduceIte, decide_true, or_true, true_or, and_self, false_or, or_false, reduceCtorEq, Bool.false_eq_true, and_false, false_and, eq_self, true_and, and_true, zero_ne, hj, y1, y2, s7, z1, z2, z9, e1, e2]
  rw [e]
  exact jto_stop rfl (hP v hv)
theorem lwc_45 (hL : LI L i xs w) (hL2 : L ≤ 3072) (hi : i < 512) (hx : XB xs) (h6 : 6 * i + 6 ≤ L) (hj : jrm tl 4 = tl) (hP : ∀ v, LI L (i + 1) xs v → P (23, (0, jvr 0) :: (1, jvr 64) :: (2, jvr 238) :: (3, jvr 252) :: (4, .inl (6 * (i : Int) + 6)) :: tl, [], v)) : jto P (40, (0, jvr 0) :: (1, jvr 64) :: (2, jvr 238) :: (3, jvr 252) :: (4, .inl (6 * (i : Int))) :: tl, [.inl 45], w) := by
  obtain ⟨y1, y2, y3, y4, y5, y6⟩ := hL.1
  have s7 := hL.s7
  have s9 := hL.s9
  obtain ⟨a, u, v, e1, e2, su, iu, hv⟩ := rL_back (x := xs (6 * (i : Int) + 1).toNat) hL hi (hx (6 * (i : Int) + 1).toNat).1 (hx (6 * (i : Int) + 1).toNat).2
  have z1 : mS u 0 = (4, 0, L) := by rw [su]; exact y1
  have z2 : mI u 0 = xs := iu.trans y2
  have z9 : mS u 238 = (1, 9, 0) := by rw [su]; exact s9
  have e : jto P (40, (0, jvr 0) :: (1, jvr 64) :: (2, jvr 238) :: (3, jvr 252) :: (4, .inl (6 * (i : Int))) :: tl, [.inl 45], w) = jto P (23, (0, jvr 0) :: (1, jvr 64) :: (2, jvr 238) :: (3, jvr 252) :: (4, .inl (6 * (i : Int) + 6)) :: tl, [], v) := by
    simp (disch := omega) only [z312_40_45, z312_1409, z312_1410, z312_1411, z312_1413, z312_1414, z312_1415, z312_1416, z312_1419, z312_1420, z312_1421, z312_1423, z312_1424, z312_1425, z312_1426, z312_1429, z312_1432, z312_1590, z312_1593, jwd_c, jwd_0, Nat.reduceLeDiff, Nat.reduceEqDiff, Nat.reduceAdd, Nat.reduceSub, Nat.reduceMul, Int.reduceAdd, Int.reduceSub, Int.reduceMul, Int.reduceNeg, Int.reduceEq, Int.reduceLT, Int.reduceLE, jp_ldi_i, jp_lda_a, jp_inc_i, jp_gb_t, jp_gr_4, jp_gw_2, jp_cs_t, jp_c_i, jp_c_n, jg_c, jg_n, js_c, js_n, jrm_c, jrm_n, j2_i, j2_l, j2_a, jin_t, jix_t, jwd_le, ↓reduceIte, decide_true, or_true, true_or, and_self, false_or, or_false, reduceCtorEq, Bool.false_eq_true, and_false, false_and, eq_self, true_and, and_true, zero_ne, hj, y1, y2, s7, z1, z2, z9, e1, e2]
  rw [e]
  exact jto_stop rfl (hP v hv)
theorem lwc_46 (hL : LI L i xs w) (hL2 : L ≤ 3072) (hi : i < 512) (hx : XB xs) (h6 : 6 * i + 6 ≤ L) (hj : jrm tl 4 = tl) (hP : ∀ v, LI L (i + 1) xs v → P (23, (0, jvr 0) :: (1, jvr 64) :: (2, jvr 238) :: (3, jvr 252) :: (4, .inl (6 * (i : Int) + 6)) :: tl, [], v)) : jto P (40, (0, jvr 0) :: (1, jvr 64) :: (2, jvr 238) :: (3, jvr 252) :: (4, .inl (6 * (i : Int))) :: tl, [.inl 46], w) := by
  obtain ⟨y1, y2, y3, y4, y5, y6⟩ := hL.1
  have s7 := hL.s7
  have s9 := hL.s9
  obtain ⟨a, u, v, e1, e2, su, iu, hv⟩ := rL_table (x := xs (6 * (i : Int) + 1).toNat) (y := xs (6 * (i : Int) + 2).toNat) hL hi (hx (6 * (i : Int) + 1).toNat).1 (hx (6 * (i : Int) + 1).toNat).2 (hx (6 * (i : Int) + 2).toNat).1 (hx (6 * (i : Int) + 2).toNat).2
  have z1 : mS u 0 = (4, 0, L) := by rw [su]; exact y1
  have z2 : mI u 0 = xs := iu.trans y2
  have z9 : mS u 238 = (1, 9, 0) := by rw [su]; exact s9
  have e : jto P (40, (0, jvr 0) :: (1, jvr 64) :: (2, jvr 238) :: (3, jvr 252) :: (4, .inl (6 * (i : Int))) :: tl, [.inl 46], w) = jto P (23, (0, jvr 0) :: (1, jvr 64) :: (2, jvr 238) :: (3, jvr 252) :: (4, .inl (6 * (i : Int) + 6)) :: tl, [], v) := by
    simp (disch := omega) only [z312_40_46, z312_1434, z312_1435, z312_1436, z312_1438, z312_1439, z312_1440, z312_1441, z312_1442, z312_1444, z312_1445, z312_1446, z312_1447, z312_1450, z312_1451, z312_1452, z312_1454, z312_1455, z312_1456, z312_1457, z312_1458, z312_1460, z312_1461, z312_1462, z312_1463, z312_1466, z312_1469, z312_1590, z312_1593, jwd_c, jwd_0, Nat.reduceLeDiff, Nat.reduceEqDiff, Nat.reduceAdd, Nat.reduceSub, Nat.reduceMul, Int.reduceAdd, Int.reduceSub, Int.reduceMul, Int.reduceNeg, Int.reduceEq, Int.reduceLT, Int.reduceLE, jp_ldi_i, jp_lda_a, jp_inc_i, jp_gb_t, jp_gr_4, jp_gw_2, jp_cs_t, jp_c_i, jp_c_n, jg_c, jg_n, js_c, js_n, jrm_c, jrm_n, j2_i, j2_l, j2_a, jin_t, jix_t, jwd_le, ↓reduceIte, decide_true, or_true, true_or, and_self, false_or, or_false, reduceCtorEq, Bool.false_eq_true, and_false, false_and, eq_self, true_and, and_true, zero_ne, hj, y1, y2, s7, z1, z2, z9, e1, e2]
  rw [e]
  exact jto_stop rfl (hP v hv)
theorem lwc_47 (hL : LI L i xs w) (hL2 : L ≤ 3072) (hi : i < 512) (hx : XB xs) (h6 : 6 * i + 6 ≤ L) (hj : jrm tl 4 = tl) (hP : ∀ v, LI L (i + 1) xs v → P (23, (0, jvr 0) :: (1, jvr 64) :: (2, jvr 238) :: (3, jvr 252) :: (4, .inl (6 * (i : Int) + 6)) :: tl, [], v)) : jto P (40, (0, jvr 0) :: (1, jvr 64) :: (2, jvr 238) :: (3, jvr 252) :: (4, .inl (6 * (i : Int))) :: tl, [.inl 47], w) := by
  obtain ⟨y1, y2, y3, y4, y5, y6⟩ := hL.1
  have s7 := hL.s7
  have s9 := hL.s9
  obtain ⟨a, u, v, e1, e2, su, iu, hv⟩ := rL_steps (x := xs (6 * (i : Int) + 1).toNat) hL hi (hx (6 * (i : Int) + 1).toNat).1 (hx (6 * (i : Int) + 1).toNat).2
  have z1 : mS u 0 = (4, 0, L) := by rw [su]; exact y1
  have z2 : mI u 0 = xs := iu.trans y2
  have z9 : mS u 238 = (1, 9, 0) := by rw [su]; exact s9
  have e : jto P (40, (0, jvr 0) :: (1, jvr 64) :: (2, jvr 238) :: (3, jvr 252) :: (4, .inl (6 * (i : Int))) :: tl, [.inl 47], w) = jto P (23, (0, jvr 0) :: (1, jvr 64) :: (2, jvr 238) :: (3, jvr 252) :: (4, .inl (6 * (i : Int) + 6)) :: tl, [], v) := by
    simp (disch := omega) only [z312_40_47, z312_1471, z312_1472, z312_1473, z312_1475, z312_1476, z312_1477, z312_1478, z312_1481, z312_1482, z312_1483, z312_1485, z312_1486, z312_1487, z312_1488, z312_1491, z312_1494, z312_1590, z312_1593, jwd_c, jwd_0, Nat.reduceLeDiff, Nat.reduceEqDiff, Nat.reduceAdd, Nat.reduceSub, Nat.reduceMul, Int.reduceAdd, Int.reduceSub, Int.reduceMul, Int.reduceNeg, Int.reduceEq, Int.reduceLT, Int.reduceLE, jp_ldi_i, jp_lda_a, jp_inc_i, jp_gb_t, jp_gr_4, jp_gw_2, jp_cs_t, jp_c_i, jp_c_n, jg_c, jg_n, js_c, js_n, jrm_c, jrm_n, j2_i, j2_l, j2_a, jin_t, jix_t, jwd_le, ↓reduceIte, decide_true, or_true, true_or, and_self, false_or, or_false, reduceCtorEq, Bool.false_eq_true, and_false, false_and, eq_self, true_and, and_true, zero_ne, hj, y1, y2, s7, z1, z2, z9, e1, e2]
  rw [e]
  exact jto_stop rfl (hP v hv)
theorem lwc_49 (hL : LI L i xs w) (hL2 : L ≤ 3072) (hi : i < 512) (hx : XB xs) (h6 : 6 * i + 6 ≤ L) (hj : jrm tl 4 = tl) (hP : ∀ v, LI L (i + 1) xs v → P (23, (0, jvr 0) :: (1, jvr 64) :: (2, jvr 238) :: (3, jvr 252) :: (4, .inl (6 * (i : Int) + 6)) :: tl, [], v)) : jto P (40, (0, jvr 0) :: (1, jvr 64) :: (2, jvr 238) :: (3, jvr 252) :: (4, .inl (6 * (i : Int))) :: tl, [.inl 49], w) := by
  obtain ⟨y1, y2, y3, y4, y5, y6⟩ := hL.1
  have s7 := hL.s7
  have s9 := hL.s9
  obtain ⟨a, u, v, e1, e2, su, iu, hv⟩ := rL_size (x := xs (6 * (i : Int) + 1).toNat) hL (hx (6 * (i : Int) + 1).toNat).1 (hx (6 * (i : Int) + 1).toNat).2
  have z1 : mS u 0 = (4, 0, L) := by rw [su]; exact y1
  have z2 : mI u 0 = xs := iu.trans y2
  have z9 : mS u 238 = (1, 9, 0) := by rw [su]; exact s9
  have e : jto P (40, (0, jvr 0) :: (1, jvr 64) :: (2, jvr 238) :: (3, jvr 252) :: (4, .inl (6 * (i : Int))) :: tl, [.inl 49], w) = jto P (23, (0, jvr 0) :: (1, jvr 64) :: (2, jvr 238) :: (3, jvr 252) :: (4, .inl (6 * (i : Int) + 6)) :: tl, [], v) := by
    simp (disch := omega) only [z312_40_49, z312_1552, z312_1553, z312_1554, z312_1556, z312_1557, z312_1558, z312_1559, z312_1562, z312_1563, z312_1564, z312_1566, z312_1567, z312_1568, z312_1569, z312_1572, z312_1575, z312_1590, z312_1593, jwd_c, jwd_0, Nat.reduceLeDiff, Nat.reduceEqDiff, Nat.reduceAdd, Nat.reduceSub, Nat.reduceMul, Int.reduceAdd, Int.reduceSub, Int.reduceMul, Int.reduceNeg, Int.reduceEq, Int.reduceLT, Int.reduceLE, jp_ldi_i, jp_lda_a, jp_inc_i, jp_gb_t, jp_gr_4, jp_gw_2, jp_cs_t, jp_c_i, jp_c_n, jg_c, jg_n, js_c, js_n, jrm_c, jrm_n, j2_i, j2_l, j2_a, jin_t, jix_t, jwd_le, ↓reduceIte, decide_true, or_true, true_or, and_self, false_or, or_false, reduceCtorEq, Bool.false_eq_true, and_false, false_and, eq_self, true_and, and_true, zero_ne, hj, y1, y2, s7, z1, z2, z9, e1, e2]
  rw [e]
  exact jto_stop rfl (hP v hv)
theorem lwc_50 (hL : LI L i xs w) (hL2 : L ≤ 3072) (hi : i < 512) (hx : XB xs) (h6 : 6 * i + 6 ≤ L) (hj : jrm tl 4 = tl) (hP : ∀ v, LI L (i + 1) xs v → P (23, (0, jvr 0) :: (1, jvr 64) :: (2, jvr 238) :: (3, jvr 252) :: (4, .inl (6 * (i : Int) + 6)) :: tl, [], v)) : jto P (40, (0, jvr 0) :: (1, jvr 64) :: (2, jvr 238) :: (3, jvr 252) :: (4, .inl (6 * (i : Int))) :: tl, [.inl 50], w) := by
  obtain ⟨y1, y2, y3, y4, y5, y6⟩ := hL.1
  have s7 := hL.s7
  have s9 := hL.s9
  obtain ⟨a, u, v, e1, e2, su, iu, hv⟩ := rL_trouble hL
  have z1 : mS u 0 = (4, 0, L) := by rw [su]; exact y1
  have z2 : mI u 0 = xs := iu.trans y2
  have z9 : mS u 238 = (1, 9, 0) := by rw [su]; exact s9
  have e : jto P (40, (0, jvr 0) :: (1, jvr 64) :: (2, jvr 238) :: (3, jvr 252) :: (4, .inl (6 * (i : Int))) :: tl, [.inl 50], w) = jto P (23, (0, jvr 0) :: (1, jvr 64) :: (2, jvr 238) :: (3, jvr 252) :: (4, .inl (6 * (i : Int) + 6)) :: tl, [], v) := by
    simp (disch := omega) only [z312_40_50, z312_1577, z312_1578, z312_1581, z312_1582, z312_1585, z312_1588, z312_1590, z312_1593, jwd_c, jwd_0, Nat.reduceLeDiff, Nat.reduceEqDiff, Nat.reduceAdd, Nat.reduceSub, Nat.reduceMul, Int.reduceAdd, Int.reduceSub, Int.reduceMul, Int.reduceNeg, Int.reduceEq, Int.reduceLT, Int.reduceLE, jp_ldi_i, jp_lda_a, jp_inc_i, jp_gb_t, jp_gr_4, jp_gw_2, jp_cs_t, jp_c_i, jp_c_n, jg_c, jg_n, js_c, js_n, jrm_c, jrm_n, j2_i, j2_l, j2_a, jin_t, jix_t, jwd_le, ↓reduceIte, decide_true, or_true, true_or, and_self, false_or, or_false, reduceCtorEq, Bool.false_eq_true, and_false, false_and, eq_self, true_and, and_true, zero_ne, hj, y1, y2, s7, z1, z2, z9, e1, e2]
  rw [e]
  exact jto_stop rfl (hP v hv)
theorem lw_led1 (hL : LI L i xs w) (hL2 : L ≤ 3072) (h6 : 6 * i + 6 ≤ L) (hP : P (1504, (0, jvr 0) :: (1, jvr 64) :: (2, jvr 238) :: (3, jvr 252) :: (4, .inl (6 * (i : Int))) :: tl, [jvr 252, .inl (xs (6 * (i : Int) + 1).toNat), jvr 64], w)) : jto P (40, (0, jvr 0) :: (1, jvr 64) :: (2, jvr 238) :: (3, jvr 252) :: (4, .inl (6 * (i : Int))) :: tl, [.inl 48], w) := by
  obtain ⟨y1, y2, y3, y4, y5, y6⟩ := hL.1
  have e : jto P (40, (0, jvr 0) :: (1, jvr 64) :: (2, jvr 238) :: (3, jvr 252) :: (4, .inl (6 * (i : Int))) :: tl, [.inl 48], w) = jto P (1504, (0, jvr 0) :: (1, jvr 64) :: (2, jvr 238) :: (3, jvr 252) :: (4, .inl (6 * (i : Int))) :: tl, [jvr 252, .inl (xs (6 * (i : Int) + 1).toNat), jvr 64], w) := by
    simp (disch := omega) only [z312_40_48, z312_1496, z312_1497, z312_1498, z312_1500, z312_1501, z312_1502, z312_1503, jwd_c, jwd_0, Nat.reduceLeDiff, Nat.reduceEqDiff, Nat.reduceAdd, Nat.reduceSub, Nat.reduceMul, Int.reduceAdd, Int.reduceSub, Int.reduceMul, Int.reduceNeg, Int.reduceEq, Int.reduceLT, Int.reduceLE, jp_ldi_i, jp_lda_a, jp_inc_i, jp_gb_t, jp_gr_4, jp_gw_2, jp_cs_t, jp_c_i, jp_c_n, jg_c, jg_n, js_c, js_n, jrm_c, jrm_n, j2_i, j2_l, j2_a, jin_t, jix_t, jwd_le, ↓reduceIte, decide_true, or_true, true_or, and_self, false_or, or_false, reduceCtorEq, Bool.false_eq_true, and_false, false_and, eq_self, true_and, and_true, zero_ne, y1, y2]
  rw [e]
  exact jto_stop rfl hP
/-- behind led that answered, that threw -/
theorem lw_led2 (y1 : mS w 0 = (4, 0, L)) (y2 : mI w 0 = xs) (y3 : mS w 252 = (2, 2, 1)) (hL2 : L ≤ 3072) (h6 : 6 * i + 6 ≤ L) {k b : Int} (s9 : mS w 238 = (1, 9, 0)) (e : rn 309 (0, [(0, jvr 238), (1, .inl (xs (6 * (i : Int) + 1).toNat))], [], w) = some (some (.inl b), u)) (su : mS u = mS w) (iu : mI u 238 0 = k) (hk : (k = 0 ∧ mJ u 252 0 = jw b) ∨ k = 1) (ht : tk 5 tl) (hP : ∀ t, tk 5 t → P (23, (0, jvr 0) :: (1, jvr 64) :: (2, jvr 238) :: (3, jvr 252) :: (4, .inl (6 * (i : Int) + 6)) :: t, [], u)) : jto P (1507, (0, jvr 0) :: (1, jvr 64) :: (2, jvr 238) :: (3, jvr 252) :: (4, .inl (6 * (i : Int))) :: tl, [.inl k], w) := by
  obtain ⟨t1, h1, ht1⟩ := tk_js ht
  obtain ⟨t2, h2, ht2⟩ := tk_js ht1
  have h1 := h1 k
  have h2 := h2 b
  have z9 : mS u 238 = (1, 9, 0) := by rw [su]; exact s9
  have z3 : mS u 252 = (2, 2, 1) := by rw [su]; exact y3
  have eT : rn 173 (0, [(0, jvr 238)], [], u) = some (some (.inl k), u) := by
    simp only [p173_0, p173_1, p173_4, jwd_c, jwd_0, Nat.reduceLeDiff, Nat.reduceEqDiff, Nat.reduceAdd, Nat.reduceSub, Nat.reduceMul, Int.reduceAdd, Int.reduceSub, Int.reduceMul, Int.reduceNeg, Int.reduceEq, Int.reduceLT, Int.reduceLE, jq_ldi_i, jq_ldl_l, jq_lda_a, jq_inc_i, jq_gs_t, jq_gsb_t, jq_gb_t, jq_gr_2, jq_gr_4, jq_gw_2, jq_s_t, jq_b_t, jg_c, jg_n, js_c, js_n, jrm_c, jrm_n, j2_i, j2_l, j2_a, jq_c_i, jq_c_l, jq_c_0, jq_c_n, jwd_le, jw_c0, mS_I, mS_R, mS_J, mN_I, mN_R, mN_J, mR_I, mI_R, mJ_I, mJ_R, mI_J, mR_J, ↓reduceIte, decide_true, or_true, true_or, and_self, false_or, or_false, reduceCtorEq, Bool.false_eq_true, and_false, false_and, eq_self, true_and, and_true, zero_ne, z9, iu]
  have hj : jrm t2 4 = t2 := tk_jrm _ _ _ ht2 (by omega)
  have e1 : jto P (1507, (0, jvr 0) :: (1, jvr 64) :: (2, jvr 238) :: (3, jvr 252) :: (4, .inl (6 * (i : Int))) :: tl, [.inl k], w) = jto P (1532, (0, jvr 0) :: (1, jvr 64) :: (2, jvr 238) :: (3, jvr 252) :: (4, .inl (6 * (i : Int))) :: (5, .inl k) :: (6, .inl b) :: t2, [], u) := by
    simp (disch := omega) only [z312_1507, z312_1509, z312_1510, z312_1511, z312_1513, z312_1514, z312_1515, z312_1516, z312_1519, z312_1521, z312_1522, z312_1525, z312_1527, jwd_c, jwd_0, Nat.reduceLeDiff, Nat.reduceEqDiff, Nat.reduceAdd, Nat.reduceSub, Nat.reduceMul, Int.reduceAdd, Int.reduceSub, Int.reduceMul, Int.reduceNeg, Int.reduceEq, Int.reduceLT, Int.reduceLE, jp_ldi_i, jp_lda_a, jp_inc_i, jp_gb_t, jp_gr_4, jp_gw_2, jp_cs_t, jp_c_i, jp_c_n, jg_c, jg_n, js_c, js_n, jrm_c, jrm_n, j2_i, j2_l, j2_a, jin_t, jix_t, jwd_le, ↓reduceIte, decide_true, or_true, true_or, and_self, false_or, or_false, reduceCtorEq, Bool.false_eq_true, and_false, false_and, eq_self, true_and, and_true, zero_ne, y1, y2, y3, s9, z9, h1, h2, e, eT]
  have e2 : jto P (1590, (0, jvr 0) :: (1, jvr 64) :: (2, jvr 238) :: (3, jvr 252) :: (4, .inl (6 * (i : Int))) :: (5, .inl k) :: (6, .inl b) :: t2, [], u) = jto P (23, (0, jvr 0) :: (1, jvr 64) :: (2, jvr 238) :: (3, jvr 252) :: (4, .inl (6 * (i : Int) + 6)) :: (5, .inl k) :: (6, .inl b) :: t2, [], u) := by
    simp (disch := omega) only [z312_1590, z312_1593, jwd_c, jwd_0, Nat.reduceLeDiff, Nat.reduceEqDiff, Nat.reduceAdd, Nat.reduceSub, Nat.reduceMul, Int.reduceAdd, Int.reduceSub, Int.reduceMul, Int.reduceNeg, Int.reduceEq, Int.reduceLT, Int.reduceLE, jp_ldi_i, jp_lda_a, jp_inc_i, jp_gb_t, jp_gr_4, jp_gw_2, jp_cs_t, jp_c_i, jp_c_n, jg_c, jg_n, js_c, js_n, jrm_c, jrm_n, j2_i, j2_l, j2_a, jin_t, jix_t, jwd_le, ↓reduceIte, decide_true, or_true, true_or, and_self, false_or, or_false, reduceCtorEq, Bool.false_eq_true, and_false, false_and, eq_self, true_and, and_true, zero_ne, hj]
  have e3 : jto P (1532, (0, jvr 0) :: (1, jvr 64) :: (2, jvr 238) :: (3, jvr 252) :: (4, .inl (6 * (i : Int))) :: (5, .inl k) :: (6, .inl b) :: t2, [], u) = jto P (1590, (0, jvr 0) :: (1, jvr 64) :: (2, jvr 238) :: (3, jvr 252) :: (4, .inl (6 * (i : Int))) :: (5, .inl k) :: (6, .inl b) :: t2, [], u) := by
    rcases hk with ⟨k0, j0⟩ | k1
    · subst k0
      have x0 : jix 0 = 0 := by decide
      have lt : ¬ jwl (jw b) < jwl (jw b) := by omega
      simp (disch := omega) only [z312_1532, z312_1534, z312_1537, z312_1538, z312_1539, z312_1540, z312_1542, z312_1543, z312_1544, z312_1547, z312_1549, jwd_c, jwd_0, Nat.reduceLeDiff, Nat.reduceEqDiff, Nat.reduceAdd, Nat.reduceSub, Nat.reduceMul, Int.reduceAdd, Int.reduceSub, Int.reduceMul, Int.reduceNeg, Int.reduceEq, Int.reduceLT, Int.reduceLE, jp_ldi_i, jp_lda_a, jp_inc_i, jp_gb_t, jp_gr_4, jp_gw_2, jp_cs_t, jp_c_i, jp_c_n, jg_c, jg_n, js_c, js_n, jrm_c, jrm_n, j2_i, j2_l, j2_a, jin_t, jix_t, jwd_le, ↓reduceIte, decide_true, or_true, true_or, and_self, false_or, or_false, reduceCtorEq, Bool.false_eq_true, and_false, false_and, eq_self, true_and, and_true, zero_ne, ↓br_lt_t, ↓br_lt_f, ↓br_eq_t, ↓br_eq_f, ↓br_lz_t, ↓br_lz_f, ↓br_ez_t, ↓br_ez_f, ↓br_gz_t, ↓br_gz_f, z3, x0, j0, lt, Int.toNat_zero, if_false, if_true]
    · subst k1
      simp (disch := omega) only [z312_1532, z312_1534, z312_1537, z312_1538, z312_1539, z312_1540, z312_1542, z312_1543, z312_1544, z312_1547, z312_1549, jwd_c, jwd_0, Nat.reduceLeDiff, Nat.reduceEqDiff, Nat.reduceAdd, Nat.reduceSub, Nat.reduceMul, Int.reduceAdd, Int.reduceSub, Int.reduceMul, Int.reduceNeg, Int.reduceEq, Int.reduceLT, Int.reduceLE, jp_ldi_i, jp_lda_a, jp_inc_i, jp_gb_t, jp_gr_4, jp_gw_2, jp_cs_t, jp_c_i, jp_c_n, jg_c, jg_n, js_c, js_n, jrm_c, jrm_n, j2_i, j2_l, j2_a, jin_t, jix_t, jwd_le, ↓reduceIte, decide_true, or_true, true_or, and_self, false_or, or_false, reduceCtorEq, Bool.false_eq_true, and_false, false_and, eq_self, true_and, and_true, zero_ne, ↓br_lt_t, ↓br_lt_f, ↓br_eq_t, ↓br_eq_f, ↓br_lz_t, ↓br_lz_f, ↓br_ez_t, ↓br_ez_f, ↓br_gz_t, ↓br_gz_f]
  rw [e1, e3, e2]
  exact jto_stop rfl (hP _ (tk_c (tk_c ht2)))
end BODY
