/-! The class: rows kept. -/
theorem xor_nn {x y : Int} (x1 : 0 ≤ x) (x2 : x < 2147483648) (y1 : 0 ≤ y) (y2 : y < 2147483648) : 0 ≤ ji_xor x y ∧ ji_xor x y < 2147483648 := by
  have key : ∀ z : Int, 0 ≤ z → z < 2147483648 → (BitVec.ofInt 32 z).msb = false := by
    intro z z1 z2
    rw [BitVec.msb_eq_toInt, BitVec.toInt_ofInt]
    simp only [decide_eq_false_iff_not, Int.not_lt]
    rw [Int.bmod_eq_of_le (by omega) (by omega)]
    exact z1
  have m : ((BitVec.ofInt 32 x) ^^^ (BitVec.ofInt 32 y)).msb = false := by
    rw [BitVec.msb_xor, key x x1 x2, key y y1 y2]
    rfl
  rw [BitVec.msb_eq_toInt] at m
  simp only [decide_eq_false_iff_not, Int.not_lt] at m
  have e : ji_xor x y = ((BitVec.ofInt 32 x) ^^^ (BitVec.ofInt 32 y)).toInt := rfl
  rw [e]
  have := BitVec.toInt_lt (x := (BitVec.ofInt 32 x) ^^^ (BitVec.ofInt 32 y))
  exact ⟨m, by omega⟩
theorem mm_fm {x n : Int} {w : jmW} (x1 : 0 ≤ x) (x2 : x < 2147483648) (n1 : 0 < n) (n2 : n < 1000) : rn 151 (0, [(0, .inl x), (1, .inl n)], [], w) = some (some (.inl (x % n)), w) := by
  have t := tmod_nn (x := x) (y := n) x1
  have b := xor_nn x1 x2 (y := n) (by omega) (by omega)
  simp (disch := omega) only [p151_0, p151_1, p151_2, p151_3, p151_4, p151_5, p151_6, p151_7, p151_10, p151_11, p151_14, p151_15, p151_16, p151_17, p151_18, p151_19, jwd_c, jwd_0, Nat.reduceLeDiff, Nat.reduceEqDiff, Nat.reduceAdd, Nat.reduceSub, Nat.reduceMul, Int.reduceAdd, Int.reduceSub, Int.reduceMul, Int.reduceNeg, Int.reduceEq, Int.reduceLT, Int.reduceLE, jq_ldi_i, jq_ldl_l, jq_lda_a, jq_inc_i, jq_gs_t, jq_gsb_t, jq_gb_t, jq_gr_2, jq_gr_4, jq_gw_2, jq_s_t, jq_b_t, jg_c, jg_n, js_c, js_n, jrm_c, jrm_n, j2_i, j2_l, j2_a, jq_c_i, jq_c_l, jq_c_0, jq_c_n, jwd_le, jw_c0, mS_I, mS_R, mS_J, mN_I, mN_R, mN_J, mR_I, mI_R, mJ_I, mJ_R, mI_J, mR_J, ↓reduceIte, decide_true, or_true, true_or, and_self, false_or, or_false, reduceCtorEq, Bool.false_eq_true, and_false, false_and, eq_self, true_and, and_true, zero_ne, ↓br_lt_t, ↓br_lt_f, ↓br_eq_t, ↓br_eq_f, ↓br_lz_t, ↓br_lz_f, ↓br_ez_t, ↓br_ez_f, ↓br_gz_t, ↓br_gz_f, jw_id, jin_t, jix_t, ↓ite_t, ↓ite_f, t]
/-- a Shelf for n rows: kept k of them, the oldest first -/
def CSh (w : jmW) (s n : Nat) (k : Nat) (Q : Nat → Nat → Int) (T : Nat) (Bt : Int) : Prop := ∃ bt : Nat, mS w s = (1, 6, 0) ∧ mR w s 0 = some (s + 1) ∧ mS w (s + 1) = (2, 3, n) ∧ (∀ i, i < n → mR w (s + 1) i = some (s + 2 + 7 * i)) ∧ mI w s 1 = bt ∧ (bt : Int) ≤ Bt ∧ mI w s 2 = k ∧ k ≤ n ∧ (∀ i, i < n → ∃ T c r, CR w (s + 2 + 7 * i) T c r) ∧ ∀ i, i < k → CR w (s + 2 + 7 * ((bt + i) % n)) T (gOver (Q i)) (Q i)
/-- a row more -/
def gPuQ (n k : Nat) (Q : Nat → Nat → Int) (r : Nat → Int) : Nat → Nat → Int := fun i => if k = n then (if i + 1 < n then Q (i + 1) else r) else (if i < k then Q i else r)
def gPuK (n k : Nat) : Nat := if k = n then n else k + 1
section SHELF
variable {w u : jmW} {s n k T a : Nat} {Q : Nat → Nat → Int} {Bt : Int} {r : Nat → Int}
theorem CSh.fr {P : Nat → Prop} (h : CSh w s n k Q T Bt) (f : Fr P w u) (hP : ∀ b, s ≤ b → b ≤ s + 1 + 7 * n → ¬ P b) : CSh u s n k Q T Bt := by
  obtain ⟨bt, h1, h2, h3, h4, h5, h6, h7, h8, h9, h10⟩ := h
  refine ⟨bt, by rw [f.q]; exact h1, by rw [f.Rq (hP _ (by omega) (by omega))]; exact h2, by rw [f.q]; exact h3, fun i hi => by rw [f.Rq (hP _ (by omega) (by omega))]; exact h4 i hi, by rw [f.Iq (hP _ (by omega) (by omega))]; exact h5, h6, by rw [f.Iq (hP _ (by omega) (by omega))]; exact h7, h8, fun i hi => ?_, fun i hi => ?_⟩
  · obtain ⟨T2, c2, r2, h⟩ := h9 i hi
    exact ⟨T2, c2, r2, h.fr f (fun b b1 b2 => hP b (by omega) (by omega))⟩
  · have := Nat.mod_lt (bt + i) (show 0 < n by omega)
    exact (h10 i hi).fr f (fun b b1 b2 => hP b (by omega) (by omega))
theorem CSh.mo {Bt2 : Int} (h : CSh w s n k Q T Bt) (hB : Bt ≤ Bt2) : CSh w s n k Q T Bt2 := by
  obtain ⟨bt, h1, h2, h3, h4, h5, h6, h7⟩ := h
  exact ⟨bt, h1, h2, h3, h4, h5, by omega, h7⟩
theorem CSh.T0 {T2 : Nat} (h : CSh w s n 0 Q T Bt) : CSh w s n 0 Q T2 Bt := by
  obtain ⟨bt, h1, h2, h3, h4, h5, h6, h7, h8, h9, h10⟩ := h
  exact ⟨bt, h1, h2, h3, h4, h5, h6, h7, h8, h9, fun i hi => absurd hi (by omega)⟩
theorem CSh.ex (h : CSh w s n k Q T Bt) : mS w s = (1, 6, 0) ∧ mI w s 2 = k ∧ k ≤ n := by
  obtain ⟨bt, h1, h2, h3, h4, h5, h6, h7, h8, h9, h10⟩ := h
  exact ⟨h1, h7, h8⟩
theorem sh_cnt (h : CSh w s n k Q T Bt) : rn 163 (0, [(0, jvr s)], [], w) = some (some (.inl (k : Int)), w) := by
  have e := h.ex
  have e1 := e.1
  have e2 := e.2.1
  simp (disch := omega) only [p163_0, p163_1, p163_4, jwd_c, jwd_0, Nat.reduceLeDiff, Nat.reduceEqDiff, Nat.reduceAdd, Nat.reduceSub, Nat.reduceMul, Int.reduceAdd, Int.reduceSub, Int.reduceMul, Int.reduceNeg, Int.reduceEq, Int.reduceLT, Int.reduceLE, jq_ldi_i, jq_ldl_l, jq_lda_a, jq_inc_i, jq_gs_t, jq_gsb_t, jq_gb_t, jq_gr_2, jq_gr_4, jq_gw_2, jq_s_t, jq_b_t, jg_c, jg_n, js_c, js_n, jrm_c, jrm_n, j2_i, j2_l, j2_a, jq_c_i, jq_c_l, jq_c_0, jq_c_n, jwd_le, jw_c0, mS_I, mS_R, mS_J, mN_I, mN_R, mN_J, mR_I, mI_R, mJ_I, mJ_R, mI_J, mR_J, ↓reduceIte, decide_true, or_true, true_or, and_self, false_or, or_false, reduceCtorEq, Bool.false_eq_true, and_false, false_and, eq_self, true_and, and_true, zero_ne, ↓br_lt_t, ↓br_lt_f, ↓br_eq_t, ↓br_eq_f, ↓br_lz_t, ↓br_lz_f, ↓br_ez_t, ↓br_ez_f, ↓br_gz_t, ↓br_gz_f, jw_id, jin_t, jix_t, ↓ite_t, ↓ite_f, e1, e2]
theorem sh_full (h : CSh w s n k Q T Bt) (hn : n < 1000) : rn 149 (0, [(0, jvr s)], [], w) = some (some (.inl (if k = n then 1 else 0)), w) := by
  obtain ⟨bt, h1, h2, h3, h4, h5, h6, h7, h8, h9, h10⟩ := h
  by_cases q : k = n
  · rw [if_pos q]
    simp (disch := omega) only [p149_0, p149_1, p149_4, p149_5, p149_8, p149_9, p149_12, p149_13, p149_16, p149_17, jwd_c, jwd_0, Nat.reduceLeDiff, Nat.reduceEqDiff, Nat.reduceAdd, Nat.reduceSub, Nat.reduceMul, Int.reduceAdd, Int.reduceSub, Int.reduceMul, Int.reduceNeg, Int.reduceEq, Int.reduceLT, Int.reduceLE, jq_ldi_i, jq_ldl_l, jq_lda_a, jq_inc_i, jq_gs_t, jq_gsb_t, jq_gb_t, jq_gr_2, jq_gr_4, jq_gw_2, jq_s_t, jq_b_t, jg_c, jg_n, js_c, js_n, jrm_c, jrm_n, j2_i, j2_l, j2_a, jq_c_i, jq_c_l, jq_c_0, jq_c_n, jwd_le, jw_c0, mS_I, mS_R, mS_J, mN_I, mN_R, mN_J, mR_I, mI_R, mJ_I, mJ_R, mI_J, mR_J, ↓reduceIte, decide_true, or_true, true_or, and_self, false_or, or_false, reduceCtorEq, Bool.false_eq_true, and_false, false_and, eq_self, true_and, and_true, zero_ne, ↓br_lt_t, ↓br_lt_f, ↓br_eq_t, ↓br_eq_f, ↓br_lz_t, ↓br_lz_f, ↓br_ez_t, ↓br_ez_f, ↓br_gz_t, ↓br_gz_f, jw_id, jin_t, jix_t, ↓ite_t, ↓ite_f, h1, h2, h3, h7]
  · rw [if_neg q]
    simp (disch := omega) only [p149_0, p149_1, p149_4, p149_5, p149_8, p149_9, p149_12, p149_13, p149_16, p149_17, jwd_c, jwd_0, Nat.reduceLeDiff, Nat.reduceEqDiff, Nat.reduceAdd, Nat.reduceSub, Nat.reduceMul, Int.reduceAdd, Int.reduceSub, Int.reduceMul, Int.reduceNeg, Int.reduceEq, Int.reduceLT, Int.reduceLE, jq_ldi_i, jq_ldl_l, jq_lda_a, jq_inc_i, jq_gs_t, jq_gsb_t, jq_gb_t, jq_gr_2, jq_gr_4, jq_gw_2, jq_s_t, jq_b_t, jg_c, jg_n, js_c, js_n, jrm_c, jrm_n, j2_i, j2_l, j2_a, jq_c_i, jq_c_l, jq_c_0, jq_c_n, jwd_le, jw_c0, mS_I, mS_R, mS_J, mN_I, mN_R, mN_J, mR_I, mI_R, mJ_I, mJ_R, mI_J, mR_J, ↓reduceIte, decide_true, or_true, true_or, and_self, false_or, or_false, reduceCtorEq, Bool.false_eq_true, and_false, false_and, eq_self, true_and, and_true, zero_ne, ↓br_lt_t, ↓br_lt_f, ↓br_eq_t, ↓br_eq_f, ↓br_lz_t, ↓br_lz_f, ↓br_ez_t, ↓br_ez_f, ↓br_gz_t, ↓br_gz_f, jw_id, jin_t, jix_t, ↓ite_t, ↓ite_f, h1, h2, h3, h7]
theorem sh_clear (h : CSh w s n k Q T Bt) : ∃ u, rn 61 (0, [(0, jvr s)], [], w) = some (none, u) ∧ (∀ T2 Q2, CSh u s n 0 Q2 T2 Bt) ∧ Fr (fun b => b = s) w u := by
  obtain ⟨bt, h1, h2, h3, h4, h5, h6, h7, h8, h9, h10⟩ := h
  have f : Fr (fun b => b = s) w (setI w s 2 0) := Fr.I rfl
  refine ⟨setI w s 2 0, ?_, fun T2 Q2 => ⟨bt, h1, h2, h3, h4, by rw [mI_nk (by omega)]; exact h5, h6, mI_s _ _ _ _, by omega, fun i hi => ?_, fun i hi => absurd hi (by omega)⟩, f⟩
  · simp (disch := omega) only [p61_0, p61_1, p61_2, p61_5, jwd_c, jwd_0, Nat.reduceLeDiff, Nat.reduceEqDiff, Nat.reduceAdd, Nat.reduceSub, Nat.reduceMul, Int.reduceAdd, Int.reduceSub, Int.reduceMul, Int.reduceNeg, Int.reduceEq, Int.reduceLT, Int.reduceLE, jq_ldi_i, jq_ldl_l, jq_lda_a, jq_inc_i, jq_gs_t, jq_gsb_t, jq_gb_t, jq_gr_2, jq_gr_4, jq_gw_2, jq_s_t, jq_b_t, jg_c, jg_n, js_c, js_n, jrm_c, jrm_n, j2_i, j2_l, j2_a, jq_c_i, jq_c_l, jq_c_0, jq_c_n, jwd_le, jw_c0, mS_I, mS_R, mS_J, mN_I, mN_R, mN_J, mR_I, mI_R, mJ_I, mJ_R, mI_J, mR_J, ↓reduceIte, decide_true, or_true, true_or, and_self, false_or, or_false, reduceCtorEq, Bool.false_eq_true, and_false, false_and, eq_self, true_and, and_true, zero_ne, ↓br_lt_t, ↓br_lt_f, ↓br_eq_t, ↓br_eq_f, ↓br_lz_t, ↓br_lz_f, ↓br_ez_t, ↓br_ez_f, ↓br_gz_t, ↓br_gz_f, jw_id, jin_t, jix_t, ↓ite_t, ↓ite_f, h1]
  · obtain ⟨T2, c2, r2, h⟩ := h9 i hi
    exact ⟨T2, c2, r2, h.fr f (fun b b1 b2 => by omega)⟩
theorem sh_row (h1 : mS w s = (1, 6, 0)) (h2 : mR w s 0 = some (s + 1)) (h3 : mS w (s + 1) = (2, 3, n)) (h4 : ∀ i, i < n → mR w (s + 1) i = some (s + 2 + 7 * i)) {bt : Nat} (h5 : mI w s 1 = bt) (n1 : 1 ≤ n) (n2 : n < 100) (hb : (bt : Int) < 1000000) {i : Nat} (i2 : i < 1000) : rn 150 (0, [(0, jvr s), (1, .inl (i : Int))], [], w) = some (some (jvr (s + 2 + 7 * ((bt + i) % n))), w) := by
  have e := mm_fm (w := w) (x := (bt : Int) + (i : Int)) (n := (n : Int)) (by omega) (by omega) (by omega) (by omega)
  have m := Nat.mod_lt (bt + i) (show 0 < n by omega)
  have e2 : ((bt : Int) + (i : Int)) % (n : Int) = (((bt + i) % n : Nat) : Int) := by
    rw [← Int.natCast_add]
    rfl
  rw [e2] at e
  have e3 := h4 _ m
  generalize (bt + i) % n = j at *
  simp (disch := omega) only [p150_0, p150_1, p150_4, p150_5, p150_6, p150_9, p150_10, p150_11, p150_12, p150_15, p150_16, p150_17, p150_18, p150_21, p150_22, p150_25, p150_26, p150_27, p150_28, p150_31, p150_32, p150_35, p150_36, p150_39, p150_40, p150_41, p150_44, p150_45, jwd_c, jwd_0, Nat.reduceLeDiff, Nat.reduceEqDiff, Nat.reduceAdd, Nat.reduceSub, Nat.reduceMul, Int.reduceAdd, Int.reduceSub, Int.reduceMul, Int.reduceNeg, Int.reduceEq, Int.reduceLT, Int.reduceLE, jq_ldi_i, jq_ldl_l, jq_lda_a, jq_inc_i, jq_gs_t, jq_gsb_t, jq_gb_t, jq_gr_2, jq_gr_4, jq_gw_2, jq_s_t, jq_b_t, jg_c, jg_n, js_c, js_n, jrm_c, jrm_n, j2_i, j2_l, j2_a, jq_c_i, jq_c_l, jq_c_0, jq_c_n, jwd_le, jw_c0, mS_I, mS_R, mS_J, mN_I, mN_R, mN_J, mR_I, mI_R, mJ_I, mJ_R, mI_J, mR_J, ↓reduceIte, decide_true, or_true, true_or, and_self, false_or, or_false, reduceCtorEq, Bool.false_eq_true, and_false, false_and, eq_self, true_and, and_true, zero_ne, jq_c_a, ↓br_lt_t, ↓br_lt_f, ↓br_eq_t, ↓br_eq_f, ↓br_lz_t, ↓br_lz_f, ↓br_ez_t, ↓br_ez_f, ↓br_gz_t, ↓br_gz_f, jw_id, jin_t, jix_t, ↓ite_t, ↓ite_f, h1, h2, h3, h5, e, Int.toNat_natCast, e3]
theorem mod_inj {n x y : Nat} (hx : x < y) (hy : y < x + n) : x % n ≠ y % n := by
  intro h
  have h2 : (y - x) % n = 0 := Nat.sub_mod_eq_zero_of_mod_eq h.symm
  rw [Nat.mod_eq_of_lt (by omega)] at h2
  omega
theorem shf_push (h : CSh w s n k Q T Bt) (hr : CR w a T (gOver r) r) (n1 : 1 ≤ n) (n2 : n < 100) (hB : Bt < 100000) (hd : a + 6 < s ∨ s + 1 + 7 * n < a) : ∃ u, rn 148 (0, [(0, jvr s), (1, jvr a)], [], w) = some (none, u) ∧ CSh u s n (gPuK n k) (gPuQ n k Q r) T (Bt + 1) ∧ Fr (fun b => s ≤ b ∧ b ≤ s + 1 + 7 * n) w u := by
  have ef := sh_full h (by omega)
  obtain ⟨bt, h1, h2, h3, h4, h5, h6, h7, h8, h9, h10⟩ := h
  by_cases q : k = n
  · rw [if_pos q] at ef
    have g0 : Fr (fun b => b = s) w (setI (setI w s 1 (bt + 1)) s 2 (k - 1)) := Fr.tr (P := fun b => b = s) (Fr.I rfl) (Fr.I rfl)
    generalize hw0 : setI (setI w s 1 (bt + 1)) s 2 (k - 1) = w0 at *
    have i1 : mI w0 s 1 = ((bt + 1 : Nat) : Int) := by
      rw [← hw0, mI_nk (by omega), mI_s]
      omega
    have i2 : mI w0 s 2 = ((k - 1 : Nat) : Int) := by
      rw [← hw0, mI_s]
      omega
    have s0 : mS w0 = mS w := g0.q
    have r0 : mR w0 = mR w := by rw [← hw0]; rfl
    have e1 := sh_row (w := w0) (s := s) (n := n) (by rw [s0]; exact h1) (by rw [r0]; exact h2) (by rw [s0]; exact h3) (by rw [r0]; exact h4) i1 n1 n2 (by omega) (i := k - 1) (by omega)
    have m := Nat.mod_lt (bt + 1 + (k - 1)) (show 0 < n by omega)
    generalize hj : (bt + 1 + (k - 1)) % n = j at *
    obtain ⟨T2, c2, r2, hj2⟩ := h9 j m
    have hj3 := hj2.fr g0 (fun b b1 b2 => by omega)
    have hr3 := hr.fr g0 (fun b b1 b2 => by omega)
    obtain ⟨w1, e2, c1, f1⟩ := r_copy hj3 hr3 (by omega)
    have i3 : mI w1 s = mI w0 s := f1.Iq (fun z => by unfold rP at z; omega)
    have g1 : Fr (fun b => b = s) w1 (setI w1 s 2 (((k - 1 : Nat) : Int) + 1)) := Fr.I rfl
    have f01 : Fr (fun b => b = s ∨ rP (s + 2 + 7 * j) b) w (setI w1 s 2 (((k - 1 : Nat) : Int) + 1)) := ((g0.mo (fun b hb => Or.inl hb)).tr (f1.mo (fun b hb => Or.inr hb))).tr (g1.mo (fun b hb => Or.inl hb))
    refine ⟨setI w1 s 2 (((k - 1 : Nat) : Int) + 1), ?_, ⟨bt + 1, by rw [f01.q]; exact h1, ?_, by rw [f01.q]; exact h3, ?_, ?_, by omega, ?_, ?_, ?_, ?_⟩, f01.mo (fun b hb => by unfold rP at hb; omega)⟩
    · have kk : (k : Int) - 1 = ((k - 1 : Nat) : Int) := by omega
      have x1 := g0.q
      have x2 := f1.q
      have x3 : mS w0 s = (1, 6, 0) := by rw [x1]; exact h1
      have x4 : mS w1 s = (1, 6, 0) := by rw [x2]; exact x3
      have x5 : mS w0 (s + 2 + 7 * j) = (1, 4, 0) := by rw [x1]; exact hj2.s0
      simp (disch := omega) only [p148_0, p148_1, p148_4, p148_7, p148_8i, p148_8a, p148_9, p148_12, p148_13, p148_14, p148_17, p148_18i, p148_18a, p148_19, p148_22, p148_23, p148_24, p148_27, p148_28, p148_29, p148_32, p148_35, p148_36, p148_37n, p148_37s, p148_40, p148_41, p148_42, p148_45, p148_46i, p148_46a, p148_47, p148_50, p148_51, p148_52, p148_55, jwd_c, jwd_0, Nat.reduceLeDiff, Nat.reduceEqDiff, Nat.reduceAdd, Nat.reduceSub, Nat.reduceMul, Int.reduceAdd, Int.reduceSub, Int.reduceMul, Int.reduceNeg, Int.reduceEq, Int.reduceLT, Int.reduceLE, jq_ldi_i, jq_ldl_l, jq_lda_a, jq_inc_i, jq_gs_t, jq_gsb_t, jq_gb_t, jq_gr_2, jq_gr_4, jq_gw_2, jq_s_t, jq_b_t, jg_c, jg_n, js_c, js_n, jrm_c, jrm_n, j2_i, j2_l, j2_a, jq_c_i, jq_c_l, jq_c_0, jq_c_n, jwd_le, jw_c0, mS_I, mS_R, mS_J, mN_I, mN_R, mN_J, mR_I, mI_R, mJ_I, mJ_R, mI_J, mR_J, ↓reduceIte, decide_true, or_true, true_or, and_self, false_or, or_false, reduceCtorEq, Bool.false_eq_true, and_false, false_and, eq_self, true_and, and_true, zero_ne, jq_c_a, ↓br_lt_t, ↓br_lt_f, ↓br_eq_t, ↓br_eq_f, ↓br_lz_t, ↓br_lz_f, ↓br_ez_t, ↓br_ez_f, ↓br_gz_t, ↓br_gz_f, jw_id, jin_t, jix_t, ↓ite_t, ↓ite_f, ef, h1, h5, mI_nk, h7, hw0, x3, x4, x5, i2, e1, e2, i3]
    · rw [mR_I, f1.Rq (fun z => by unfold rP at z; omega), r0]
      exact h2
    · intro i hi
      rw [mR_I, f1.Rq (fun z => by unfold rP at z; omega), r0]
      exact h4 i hi
    · rw [mI_nk (by omega), i3, i1]
    · rw [mI_s]
      unfold gPuK
      rw [if_pos q]
      omega
    · unfold gPuK
      rw [if_pos q]
      omega
    · intro i hi
      by_cases z : i = j
      · subst z
        exact ⟨_, _, _, c1.fr g1 (fun b b1 b2 => by omega)⟩
      · obtain ⟨T3, c3, r3, h3'⟩ := h9 i hi
        exact ⟨_, _, _, h3'.fr f01 (fun b b1 b2 y => by unfold rP at y; omega)⟩
    · intro i hi
      unfold gPuK at hi
      rw [if_pos q] at hi
      unfold gPuQ
      rw [if_pos q]
      by_cases z : i + 1 < n
      · rw [if_pos z]
        have h := h10 (i + 1) (by omega)
        have ne : (bt + 1 + i) % n ≠ j := by
          rw [← hj]
          exact mod_inj (by omega) (by omega)
        have m2 := Nat.mod_lt (bt + 1 + i) (show 0 < n by omega)
        rw [show bt + (i + 1) = bt + 1 + i by omega] at h
        exact h.fr f01 (fun b b1 b2 y => by unfold rP at y; omega)
      · rw [if_neg z]
        have ej : bt + 1 + i = bt + 1 + (k - 1) := by omega
        rw [ej, hj]
        exact c1.fr g1 (fun b b1 b2 => by omega)
  · rw [if_neg q] at ef
    have e1 := sh_row (w := w) (s := s) (n := n) h1 h2 h3 h4 h5 n1 n2 (by omega) (i := k) (by omega)
    have m := Nat.mod_lt (bt + k) (show 0 < n by omega)
    generalize hj : (bt + k) % n = j at *
    obtain ⟨T2, c2, r2, hj2⟩ := h9 j m
    obtain ⟨w1, e2, c1, f1⟩ := r_copy hj2 hr (by omega)
    have i3 : mI w1 s = mI w s := f1.Iq (fun z => by unfold rP at z; omega)
    have g1 : Fr (fun b => b = s) w1 (setI w1 s 2 ((k : Int) + 1)) := Fr.I rfl
    have f01 : Fr (fun b => b = s ∨ rP (s + 2 + 7 * j) b) w (setI w1 s 2 ((k : Int) + 1)) := (f1.mo (fun b hb => Or.inr hb)).tr (g1.mo (fun b hb => Or.inl hb))
    refine ⟨setI w1 s 2 ((k : Int) + 1), ?_, ⟨bt, by rw [f01.q]; exact h1, ?_, by rw [f01.q]; exact h3, ?_, ?_, by omega, ?_, ?_, ?_, ?_⟩, f01.mo (fun b hb => by unfold rP at hb; omega)⟩
    · have x2 := f1.q
      have x4 : mS w1 s = (1, 6, 0) := by rw [x2]; exact h1
      have x5 : mS w (s + 2 + 7 * j) = (1, 4, 0) := hj2.s0
      simp (disch := omega) only [p148_0, p148_1, p148_4, p148_7, p148_8i, p148_8a, p148_9, p148_12, p148_13, p148_14, p148_17, p148_18i, p148_18a, p148_19, p148_22, p148_23, p148_24, p148_27, p148_28, p148_29, p148_32, p148_35, p148_36, p148_37n, p148_37s, p148_40, p148_41, p148_42, p148_45, p148_46i, p148_46a, p148_47, p148_50, p148_51, p148_52, p148_55, jwd_c, jwd_0, Nat.reduceLeDiff, Nat.reduceEqDiff, Nat.reduceAdd, Nat.reduceSub, Nat.reduceMul, Int.reduceAdd, Int.reduceSub, Int.reduceMul, Int.reduceNeg, Int.reduceEq, Int.reduceLT, Int.reduceLE, jq_ldi_i, jq_ldl_l, jq_lda_a, jq_inc_i, jq_gs_t, jq_gsb_t, jq_gb_t, jq_gr_2, jq_gr_4, jq_gw_2, jq_s_t, jq_b_t, jg_c, jg_n, js_c, js_n, jrm_c, jrm_n, j2_i, j2_l, j2_a, jq_c_i, jq_c_l, jq_c_0, jq_c_n, jwd_le, jw_c0, mS_I, mS_R, mS_J, mN_I, mN_R, mN_J, mR_I, mI_R, mJ_I, mJ_R, mI_J, mR_J, ↓reduceIte, decide_true, or_true, true_or, and_self, false_or, or_false, reduceCtorEq, Bool.false_eq_true, and_false, false_and, eq_self, true_and, and_true, zero_ne, jq_c_a, ↓br_lt_t, ↓br_lt_f, ↓br_eq_t, ↓br_eq_f, ↓br_lz_t, ↓br_lz_f, ↓br_ez_t, ↓br_ez_f, ↓br_gz_t, ↓br_gz_f, jw_id, jin_t, jix_t, ↓ite_t, ↓ite_f, ef, h1, h5, h7, x4, x5, e1, e2, i3]
    · rw [mR_I, f1.Rq (fun z => by unfold rP at z; omega)]
      exact h2
    · intro i hi
      rw [mR_I, f1.Rq (fun z => by unfold rP at z; omega)]
      exact h4 i hi
    · rw [mI_nk (by omega), i3, h5]
    · rw [mI_s]
      unfold gPuK
      rw [if_neg q]
      omega
    · unfold gPuK
      rw [if_neg q]
      omega
    · intro i hi
      by_cases z : i = j
      · subst z
        exact ⟨_, _, _, c1.fr g1 (fun b b1 b2 => by omega)⟩
      · obtain ⟨T3, c3, r3, h3'⟩ := h9 i hi
        exact ⟨_, _, _, h3'.fr f01 (fun b b1 b2 y => by unfold rP at y; omega)⟩
    · intro i hi
      unfold gPuK at hi
      rw [if_neg q] at hi
      unfold gPuQ
      rw [if_neg q]
      by_cases z : i < k
      · rw [if_pos z]
        have h := h10 i z
        have ne : (bt + i) % n ≠ j := by
          rw [← hj]
          exact mod_inj (by omega) (by omega)
        have m2 := Nat.mod_lt (bt + i) (show 0 < n by omega)
        exact h.fr f01 (fun b b1 b2 y => by unfold rP at y; omega)
      · rw [if_neg z]
        have ej : i = k := by omega
        rw [ej, hj]
        exact c1.fr g1 (fun b b1 b2 => by omega)
/-- a kept row shown -/
theorem sh_show (h : CSh w s n k Q T Bt) {Ta : Nat} {c : Int} (hr : CR w a Ta c r) (n1 : 1 ≤ n) (n2 : n < 100) (hB : Bt < 100000) (hd : a + 6 < s ∨ s + 1 + 7 * n < a) {i : Int} (i1 : 0 ≤ i) (i2 : i < k) : ∃ u, rn 161 (0, [(0, jvr s), (1, .inl i), (2, jvr a)], [], w) = some (some (.inl 1), u) ∧ CR u a T (gOver (Q i.toNat)) (Q i.toNat) ∧ Fr (rP a) w u := by
  obtain ⟨bt, h1, h2, h3, h4, h5, h6, h7, h8, h9, h10⟩ := h
  have e1 := sh_row (w := w) (s := s) (n := n) h1 h2 h3 h4 h5 n1 n2 (by omega) (i := i.toNat) (by omega)
  rw [show ((i.toNat : Nat) : Int) = i by omega] at e1
  have m := Nat.mod_lt (bt + i.toNat) (show 0 < n by omega)
  have hj := h10 i.toNat (by omega)
  generalize (bt + i.toNat) % n = j at *
  obtain ⟨u, e2, c1, f1⟩ := r_copy hr hj (by omega)
  refine ⟨u, ?_, c1, f1⟩
  have x1 := hr.s0
  have x5 : mS w (s + 2 + 7 * j) = (1, 4, 0) := hj.s0
  simp (disch := omega) only [p161_0, p161_1, p161_4, p161_5, p161_6, p161_9, p161_12, p161_13, p161_16, p161_17, p161_18, p161_21, p161_22, p161_23n, p161_23s, p161_26, p161_27n, p161_27s, p161_30, p161_31, p161_32, p161_33, p161_34, p161_37, p161_38, jwd_c, jwd_0, Nat.reduceLeDiff, Nat.reduceEqDiff, Nat.reduceAdd, Nat.reduceSub, Nat.reduceMul, Int.reduceAdd, Int.reduceSub, Int.reduceMul, Int.reduceNeg, Int.reduceEq, Int.reduceLT, Int.reduceLE, jq_ldi_i, jq_ldl_l, jq_lda_a, jq_inc_i, jq_gs_t, jq_gsb_t, jq_gb_t, jq_gr_2, jq_gr_4, jq_gw_2, jq_s_t, jq_b_t, jg_c, jg_n, js_c, js_n, jrm_c, jrm_n, j2_i, j2_l, j2_a, jq_c_i, jq_c_l, jq_c_0, jq_c_n, jwd_le, jw_c0, mS_I, mS_R, mS_J, mN_I, mN_R, mN_J, mR_I, mI_R, mJ_I, mJ_R, mI_J, mR_J, ↓reduceIte, decide_true, or_true, true_or, and_self, false_or, or_false, reduceCtorEq, Bool.false_eq_true, and_false, false_and, eq_self, true_and, and_true, zero_ne, jq_c_a, ↓br_lt_t, ↓br_lt_f, ↓br_eq_t, ↓br_eq_f, ↓br_lz_t, ↓br_lz_f, ↓br_ez_t, ↓br_ez_f, ↓br_gz_t, ↓br_gz_f, jw_id, jin_t, jix_t, ↓ite_t, ↓ite_f, h1, h7, e1, x1, x5, e2]
theorem sh_noshow (h1 : mS w s = (1, 6, 0)) (h7 : mI w s 2 = k) (hk : k < 1000) {i : Int} {o : Option Nat} (x1 : -2147483648 ≤ i) (x2 : i < 2147483648) (hi : i < 0 ∨ (k : Int) ≤ i) : rn 161 (0, [(0, jvr s), (1, .inl i), (2, .inr (.inr o))], [], w) = some (some (.inl 0), w) := by
  by_cases q : i < 0
  · simp (disch := omega) only [p161_0, p161_1, p161_4, p161_5, p161_6, p161_9, p161_12, p161_13, p161_16, p161_17, p161_18, p161_21, p161_22, p161_23n, p161_23s, p161_26, p161_27n, p161_27s, p161_30, p161_31, p161_32, p161_33, p161_34, p161_37, p161_38, jwd_c, jwd_0, Nat.reduceLeDiff, Nat.reduceEqDiff, Nat.reduceAdd, Nat.reduceSub, Nat.reduceMul, Int.reduceAdd, Int.reduceSub, Int.reduceMul, Int.reduceNeg, Int.reduceEq, Int.reduceLT, Int.reduceLE, jq_ldi_i, jq_ldl_l, jq_lda_a, jq_inc_i, jq_gs_t, jq_gsb_t, jq_gb_t, jq_gr_2, jq_gr_4, jq_gw_2, jq_s_t, jq_b_t, jg_c, jg_n, js_c, js_n, jrm_c, jrm_n, j2_i, j2_l, j2_a, jq_c_i, jq_c_l, jq_c_0, jq_c_n, jwd_le, jw_c0, mS_I, mS_R, mS_J, mN_I, mN_R, mN_J, mR_I, mI_R, mJ_I, mJ_R, mI_J, mR_J, ↓reduceIte, decide_true, or_true, true_or, and_self, false_or, or_false, reduceCtorEq, Bool.false_eq_true, and_false, false_and, eq_self, true_and, and_true, zero_ne, ↓br_lt_t, ↓br_lt_f, ↓br_eq_t, ↓br_eq_f, ↓br_lz_t, ↓br_lz_f, ↓br_ez_t, ↓br_ez_f, ↓br_gz_t, ↓br_gz_f, jw_id, jin_t, jix_t, ↓ite_t, ↓ite_f, h1, h7]
  · simp (disch := omega) only [p161_0, p161_1, p161_4, p161_5, p161_6, p161_9, p161_12, p161_13, p161_16, p161_17, p161_18, p161_21, p161_22, p161_23n, p161_23s, p161_26, p161_27n, p161_27s, p161_30, p161_31, p161_32, p161_33, p161_34, p161_37, p161_38, jwd_c, jwd_0, Nat.reduceLeDiff, Nat.reduceEqDiff, Nat.reduceAdd, Nat.reduceSub, Nat.reduceMul, Int.reduceAdd, Int.reduceSub, Int.reduceMul, Int.reduceNeg, Int.reduceEq, Int.reduceLT, Int.reduceLE, jq_ldi_i, jq_ldl_l, jq_lda_a, jq_inc_i, jq_gs_t, jq_gsb_t, jq_gb_t, jq_gr_2, jq_gr_4, jq_gw_2, jq_s_t, jq_b_t, jg_c, jg_n, js_c, js_n, jrm_c, jrm_n, j2_i, j2_l, j2_a, jq_c_i, jq_c_l, jq_c_0, jq_c_n, jwd_le, jw_c0, mS_I, mS_R, mS_J, mN_I, mN_R, mN_J, mR_I, mI_R, mJ_I, mJ_R, mI_J, mR_J, ↓reduceIte, decide_true, or_true, true_or, and_self, false_or, or_false, reduceCtorEq, Bool.false_eq_true, and_false, false_and, eq_self, true_and, and_true, zero_ne, ↓br_lt_t, ↓br_lt_f, ↓br_eq_t, ↓br_eq_f, ↓br_lz_t, ↓br_lz_f, ↓br_ez_t, ↓br_ez_f, ↓br_gz_t, ↓br_gz_f, jw_id, jin_t, jix_t, ↓ite_t, ↓ite_f, h1, h7]
end SHELF
