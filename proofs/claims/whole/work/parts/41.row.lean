/-! The class: a Row, and what it says. -/
def CR (w : jmW) (a T : Nat) (c : Int) (r : Nat → Int) : Prop :=
  mS w a = (1, 4, 0) ∧ mR w a 0 = some (a + 1) ∧ mR w a 1 = some (a + 3) ∧ mR w a 2 = some (a + 5) ∧ Sg w (a + 1) 1 208 (r 288).toNat (fun i _ => r i) ∧ Sg w (a + 3) 5 16 (r 289).toNat (fun i j => r (204 + 16 * j + i)) ∧ Sg w (a + 5) 1 4 T (fun i _ => r (284 + i)) ∧
  mI w a 3 = r 294 ∧ mI w a 4 = r 295 ∧ mI w a 5 = r 291 ∧ mI w a 6 = r 292 ∧ mI w a 7 = r 293 ∧ mI w a 8 = r 290 ∧ mI w a 9 = c ∧ mI w a 10 = r 296
/-- a Row's cells -/
def rP (a : Nat) : Nat → Prop := fun b => a ≤ b ∧ b ≤ a + 6
noncomputable def gIx (r : Nat → Int) (v : Int) : Nat → Int → Int
  | 0, _ => -1
  | n + 1, i => if r (204 + i).toNat = v then i else gIx r v n (i + 1)
section ROW
variable {w u : jmW} {a T : Nat} {c : Int} {r : Nat → Int} {H : Nat → Nat → Int} {B : Int}
theorem CR.fr {P : Nat → Prop} (h : CR w a T c r) (hf : Fr P w u) (hP : ∀ b, a ≤ b → b ≤ a + 6 → ¬ P b) : CR u a T c r := by
  obtain ⟨h1, h2, h3, h4, h5, h6, h7, h8⟩ := h
  have p0 := hP a (by omega) (by omega)
  unfold CR
  rw [hf.q, hf.Rq p0, hf.Iq p0]
  exact ⟨h1, h2, h3, h4, h5.fr hf (hP _ (by omega) (by omega)) (hP _ (by omega) (by omega)), h6.fr hf (hP _ (by omega) (by omega)) (hP _ (by omega) (by omega)), h7.fr hf (hP _ (by omega) (by omega)) (hP _ (by omega) (by omega)), h8⟩
theorem CR.s0 (h : CR w a T c r) : mS w a = (1, 4, 0) := h.1
theorem CR.p (h : CR w a T c r) : mR w a 0 = some (a + 1) := h.2.1
theorem CR.k (h : CR w a T c r) : mR w a 1 = some (a + 3) := h.2.2.1
theorem CR.t (h : CR w a T c r) : mR w a 2 = some (a + 5) := h.2.2.2.1
theorem CR.s1 (h : CR w a T c r) : mS w (a + 1) = (1, 5, 0) := h.2.2.2.2.1.1
theorem CR.s3 (h : CR w a T c r) : mS w (a + 3) = (1, 5, 0) := h.2.2.2.2.2.1.1
theorem CR.s5 (h : CR w a T c r) : mS w (a + 5) = (1, 5, 0) := h.2.2.2.2.2.2.1.1
theorem cr_n (h : CR w a T c r) (h1 : 0 ≤ r 289) : rn 12 (0, [(0, jvr (a + 3))], [], w) = some (some (.inl (r 289)), w) := by
  have e := sg_count h.2.2.2.2.2.1
  rw [show (((r 289).toNat : Nat) : Int) = r 289 by omega] at e
  exact e
theorem cr_l (h : CR w a T c r) (h1 : 0 ≤ r 288) : rn 12 (0, [(0, jvr (a + 1))], [], w) = some (some (.inl (r 288)), w) := by
  have e := sg_count h.2.2.2.2.1
  rw [show (((r 288).toNat : Nat) : Int) = r 288 by omega] at e
  exact e
theorem cr_get (h : CR w a T c r) {i k : Int} (i1 : 0 ≤ i) (i2 : i < r 289) (k1 : 0 ≤ k) (k2 : k < 5) : rn 23 (0, [(0, jvr (a + 3)), (1, .inl i), (2, .inl k)], [], w) = some (some (.inl (r (204 + 16 * k + i).toNat)), w) := by
  have e := sg_in h.2.2.2.2.2.1 (l := i) (k := k) i1 (by omega) k1 (by omega)
  rw [e]
  have : 204 + 16 * k.toNat + i.toNat = (204 + 16 * k + i).toNat := by omega
  show some (some (Sum.inl (r (204 + 16 * k.toNat + i.toNat))), w) = _
  rw [this]
theorem cr_way (h : CR w a T c r) {k : Int} (k1 : 0 ≤ k) (k2 : k < r 288) : rn 23 (0, [(0, jvr (a + 1)), (1, .inl k), (2, .inl 0)], [], w) = some (some (.inl (r k.toNat)), w) := sg_in h.2.2.2.2.1 (l := k) (k := 0) k1 (by omega) (by omega) (by omega)
theorem r_cell (h : CR w a T c r) (ra : RA H B r) (rb : RB r) {i : Int} (i1 : 0 ≤ i) (i2 : i < r 289) : rn 70 (0, [(0, jvr a), (1, .inl i)], [], w) = some (some (.inl (gCell r i)), w) := by
  have h16 := ra.1
  have b := (rb i i1 i2).2.1
  have e1 := cr_get h (k := 1) i1 i2 (by omega) (by omega)
  rw [show (204 + 16 * (1 : Int) + i).toNat = (220 + i).toNat by omega] at e1
  have e2 := cr_way h b.1 b.2
  have e3 : gCell r i = r (r (220 + i).toNat).toNat := by
    unfold gCell
    rw [Int.zero_add]
  rw [e3]
  simp (disch := omega) only [p70_0, p70_1, p70_4, p70_5, p70_8, p70_9, p70_10, p70_13, p70_14, p70_17, jwd_c, jwd_0, Nat.reduceLeDiff, Nat.reduceEqDiff, Nat.reduceAdd, Nat.reduceSub, Nat.reduceMul, Int.reduceAdd, Int.reduceSub, Int.reduceMul, Int.reduceNeg, Int.reduceEq, Int.reduceLT, Int.reduceLE, jq_ldi_i, jq_ldl_l, jq_lda_a, jq_inc_i, jq_gs_t, jq_gsb_t, jq_gb_t, jq_gr_2, jq_gr_4, jq_gw_2, jq_s_t, jq_b_t, jg_c, jg_n, js_c, js_n, jrm_c, jrm_n, j2_i, j2_l, j2_a, jq_c_i, jq_c_l, jq_c_0, jq_c_n, jwd_le, jw_c0, mS_I, mS_R, mS_J, mN_I, mN_R, mN_J, mR_I, mI_R, mJ_I, mJ_R, mI_J, mR_J, ↓reduceIte, decide_true, or_true, true_or, and_self, false_or, or_false, reduceCtorEq, Bool.false_eq_true, and_false, false_and, eq_self, true_and, and_true, zero_ne, ↓br_lt_t, ↓br_lt_f, ↓br_eq_t, ↓br_eq_f, ↓br_lz_t, ↓br_lz_f, ↓br_ez_t, ↓br_ez_f, ↓br_gz_t, ↓br_gz_f, jw_id, jin_t, jix_t, CR.s0 h, CR.p h, CR.k h, CR.t h, CR.s1 h, CR.s3 h, CR.s5 h, e1, e2]
theorem r_gap (h : CR w a T c r) (ra : RA H B r) (rb : RB r) {i : Int} (i1 : 1 ≤ i) (i2 : i < r 289) : rn 71 (0, [(0, jvr a), (1, .inl i)], [], w) = some (some (.inl (gGap r i)), w) := by
  have h16 := ra.1
  have e1 := cr_get h (i := i) (k := 1) (by omega) i2 (by omega) (by omega)
  have e2 := cr_get h (i := i - 1) (k := 1) (by omega) (by omega) (by omega) (by omega)
  rw [show (204 + 16 * (1 : Int) + i).toNat = (220 + i).toNat by omega] at e1
  rw [show (204 + 16 * (1 : Int) + (i - 1)).toNat = (220 + i - 1).toNat by omega] at e2
  unfold gGap
  simp (disch := omega) only [p71_0, p71_1, p71_2, p71_5, p71_7, p71_10, p71_11, p71_14, p71_15, p71_16, p71_17, p71_18, p71_21, p71_22, p71_25, p71_26, p71_27, p71_30, p71_31, p71_32, p71_33, jwd_c, jwd_0, Nat.reduceLeDiff, Nat.reduceEqDiff, Nat.reduceAdd, Nat.reduceSub, Nat.reduceMul, Int.reduceAdd, Int.reduceSub, Int.reduceMul, Int.reduceNeg, Int.reduceEq, Int.reduceLT, Int.reduceLE, jq_ldi_i, jq_ldl_l, jq_lda_a, jq_inc_i, jq_gs_t, jq_gsb_t, jq_gb_t, jq_gr_2, jq_gr_4, jq_gw_2, jq_s_t, jq_b_t, jg_c, jg_n, js_c, js_n, jrm_c, jrm_n, j2_i, j2_l, j2_a, jq_c_i, jq_c_l, jq_c_0, jq_c_n, jwd_le, jw_c0, mS_I, mS_R, mS_J, mN_I, mN_R, mN_J, mR_I, mI_R, mJ_I, mJ_R, mI_J, mR_J, ↓reduceIte, decide_true, or_true, true_or, and_self, false_or, or_false, reduceCtorEq, Bool.false_eq_true, and_false, false_and, eq_self, true_and, and_true, zero_ne, ↓br_lt_t, ↓br_lt_f, ↓br_eq_t, ↓br_eq_f, ↓br_lz_t, ↓br_lz_f, ↓br_ez_t, ↓br_ez_f, ↓br_gz_t, ↓br_gz_f, jw_id, jin_t, jix_t, CR.s0 h, CR.p h, CR.k h, CR.t h, CR.s1 h, CR.s3 h, CR.s5 h, e1, e2]
theorem r_gap0 : rn 71 (0, [(0, jvr a), (1, .inl 0)], [], w) = some (some (.inl (-2)), w) := by
  simp (disch := omega) only [p71_0, p71_1, p71_2, p71_5, p71_7, p71_10, p71_11, p71_14, p71_15, p71_16, p71_17, p71_18, p71_21, p71_22, p71_25, p71_26, p71_27, p71_30, p71_31, p71_32, p71_33, jwd_c, jwd_0, Nat.reduceLeDiff, Nat.reduceEqDiff, Nat.reduceAdd, Nat.reduceSub, Nat.reduceMul, Int.reduceAdd, Int.reduceSub, Int.reduceMul, Int.reduceNeg, Int.reduceEq, Int.reduceLT, Int.reduceLE, jq_ldi_i, jq_ldl_l, jq_lda_a, jq_inc_i, jq_gs_t, jq_gsb_t, jq_gb_t, jq_gr_2, jq_gr_4, jq_gw_2, jq_s_t, jq_b_t, jg_c, jg_n, js_c, js_n, jrm_c, jrm_n, j2_i, j2_l, j2_a, jq_c_i, jq_c_l, jq_c_0, jq_c_n, jwd_le, jw_c0, mS_I, mS_R, mS_J, mN_I, mN_R, mN_J, mR_I, mI_R, mJ_I, mJ_R, mI_J, mR_J, ↓reduceIte, decide_true, or_true, true_or, and_self, false_or, or_false, reduceCtorEq, Bool.false_eq_true, and_false, false_and, eq_self, true_and, and_true, zero_ne, ↓br_lt_t, ↓br_lt_f, ↓br_eq_t, ↓br_eq_f, ↓br_lz_t, ↓br_lz_f, ↓br_ez_t, ↓br_ez_f, ↓br_gz_t, ↓br_gz_f, jw_id, jin_t, jix_t]
theorem find_loop (h : CR w a T c r) (ra : RA H B r) (rb : RB r) {v : Int} (v1 : -2147483648 ≤ v) (v2 : v < 2147483648) : ∀ (n : Nat) (i : Int), 0 ≤ i → i + n = r 289 → rn 105 (2, [(0, jvr a), (1, .inl v), (2, .inl i)], [], w) = some (some (.inl (gIx r v n i)), w) := by
  have h16 := ra.1
  have h290 := ra.2.1
  have e0 := cr_n h (by omega)
  intro n
  induction n with
  | zero =>
    intro i i1 i2
    have e : gIx r v 0 i = -1 := rfl
    rw [e, p105_2]
    simp (disch := omega) only [p105_0, p105_1, p105_3, p105_4, p105_7, p105_10, p105_13, p105_14, p105_17, p105_18, p105_19, p105_22, p105_23, p105_26, p105_27, p105_28, p105_31, p105_34, p105_35, jwd_c, jwd_0, Nat.reduceLeDiff, Nat.reduceEqDiff, Nat.reduceAdd, Nat.reduceSub, Nat.reduceMul, Int.reduceAdd, Int.reduceSub, Int.reduceMul, Int.reduceNeg, Int.reduceEq, Int.reduceLT, Int.reduceLE, jq_ldi_i, jq_ldl_l, jq_lda_a, jq_inc_i, jq_gs_t, jq_gsb_t, jq_gb_t, jq_gr_2, jq_gr_4, jq_gw_2, jq_s_t, jq_b_t, jg_c, jg_n, js_c, js_n, jrm_c, jrm_n, j2_i, j2_l, j2_a, jq_c_i, jq_c_l, jq_c_0, jq_c_n, jwd_le, jw_c0, mS_I, mS_R, mS_J, mN_I, mN_R, mN_J, mR_I, mI_R, mJ_I, mJ_R, mI_J, mR_J, ↓reduceIte, decide_true, or_true, true_or, and_self, false_or, or_false, reduceCtorEq, Bool.false_eq_true, and_false, false_and, eq_self, true_and, and_true, zero_ne, ↓br_lt_t, ↓br_lt_f, ↓br_eq_t, ↓br_eq_f, ↓br_lz_t, ↓br_lz_f, ↓br_ez_t, ↓br_ez_f, ↓br_gz_t, ↓br_gz_f, jw_id, jin_t, jix_t, CR.s0 h, CR.p h, CR.k h, CR.t h, CR.s1 h, CR.s3 h, CR.s5 h, e0]
  | succ n ih =>
    intro i i1 i2
    have e : gIx r v (n + 1) i = if r (204 + i).toNat = v then i else gIx r v n (i + 1) := rfl
    have b := (rb i i1 (by omega)).1
    have e1 := cr_get h (i := i) (k := 0) (by omega) (by omega) (by omega) (by omega)
    rw [show (204 + 16 * (0 : Int) + i).toNat = (204 + i).toNat by omega] at e1
    rw [e, p105_2]
    by_cases q : r (204 + i).toNat = v
    · rw [if_pos q]
      simp (disch := omega) only [p105_0, p105_1, p105_3, p105_4, p105_7, p105_10, p105_13, p105_14, p105_17, p105_18, p105_19, p105_22, p105_23, p105_26, p105_27, p105_28, p105_31, p105_34, p105_35, jwd_c, jwd_0, Nat.reduceLeDiff, Nat.reduceEqDiff, Nat.reduceAdd, Nat.reduceSub, Nat.reduceMul, Int.reduceAdd, Int.reduceSub, Int.reduceMul, Int.reduceNeg, Int.reduceEq, Int.reduceLT, Int.reduceLE, jq_ldi_i, jq_ldl_l, jq_lda_a, jq_inc_i, jq_gs_t, jq_gsb_t, jq_gb_t, jq_gr_2, jq_gr_4, jq_gw_2, jq_s_t, jq_b_t, jg_c, jg_n, js_c, js_n, jrm_c, jrm_n, j2_i, j2_l, j2_a, jq_c_i, jq_c_l, jq_c_0, jq_c_n, jwd_le, jw_c0, mS_I, mS_R, mS_J, mN_I, mN_R, mN_J, mR_I, mI_R, mJ_I, mJ_R, mI_J, mR_J, ↓reduceIte, decide_true, or_true, true_or, and_self, false_or, or_false, reduceCtorEq, Bool.false_eq_true, and_false, false_and, eq_self, true_and, and_true, zero_ne, ↓br_lt_t, ↓br_lt_f, ↓br_eq_t, ↓br_eq_f, ↓br_lz_t, ↓br_lz_f, ↓br_ez_t, ↓br_ez_f, ↓br_gz_t, ↓br_gz_f, jw_id, jin_t, jix_t, CR.s0 h, CR.p h, CR.k h, CR.t h, CR.s1 h, CR.s3 h, CR.s5 h, e0, e1]
    · rw [if_neg q]
      have e2 := ih (i + 1) (by omega) (by omega)
      simp (disch := omega) only [p105_0, p105_1, p105_3, p105_4, p105_7, p105_10, p105_13, p105_14, p105_17, p105_18, p105_19, p105_22, p105_23, p105_26, p105_27, p105_28, p105_31, p105_34, p105_35, jwd_c, jwd_0, Nat.reduceLeDiff, Nat.reduceEqDiff, Nat.reduceAdd, Nat.reduceSub, Nat.reduceMul, Int.reduceAdd, Int.reduceSub, Int.reduceMul, Int.reduceNeg, Int.reduceEq, Int.reduceLT, Int.reduceLE, jq_ldi_i, jq_ldl_l, jq_lda_a, jq_inc_i, jq_gs_t, jq_gsb_t, jq_gb_t, jq_gr_2, jq_gr_4, jq_gw_2, jq_s_t, jq_b_t, jg_c, jg_n, js_c, js_n, jrm_c, jrm_n, j2_i, j2_l, j2_a, jq_c_i, jq_c_l, jq_c_0, jq_c_n, jwd_le, jw_c0, mS_I, mS_R, mS_J, mN_I, mN_R, mN_J, mR_I, mI_R, mJ_I, mJ_R, mI_J, mR_J, ↓reduceIte, decide_true, or_true, true_or, and_self, false_or, or_false, reduceCtorEq, Bool.false_eq_true, and_false, false_and, eq_self, true_and, and_true, zero_ne, ↓br_lt_t, ↓br_lt_f, ↓br_eq_t, ↓br_eq_f, ↓br_lz_t, ↓br_lz_f, ↓br_ez_t, ↓br_ez_f, ↓br_gz_t, ↓br_gz_f, jw_id, jin_t, jix_t, CR.s0 h, CR.p h, CR.k h, CR.t h, CR.s1 h, CR.s3 h, CR.s5 h, e0, e1, e2]
theorem r_find (h : CR w a T c r) (ra : RA H B r) (rb : RB r) {v : Int} (v1 : -2147483648 ≤ v) (v2 : v < 2147483648) : rn 105 (0, [(0, jvr a), (1, .inl v)], [], w) = some (some (.inl (gIx r v (r 289).toNat 0)), w) := by
  have h16 := ra.1
  have e := find_loop h ra rb v1 v2 (r 289).toNat 0 (by omega) (by omega)
  simp (disch := omega) only [p105_0, p105_1, p105_3, p105_4, p105_7, p105_10, p105_13, p105_14, p105_17, p105_18, p105_19, p105_22, p105_23, p105_26, p105_27, p105_28, p105_31, p105_34, p105_35, jwd_c, jwd_0, Nat.reduceLeDiff, Nat.reduceEqDiff, Nat.reduceAdd, Nat.reduceSub, Nat.reduceMul, Int.reduceAdd, Int.reduceSub, Int.reduceMul, Int.reduceNeg, Int.reduceEq, Int.reduceLT, Int.reduceLE, jq_ldi_i, jq_ldl_l, jq_lda_a, jq_inc_i, jq_gs_t, jq_gsb_t, jq_gb_t, jq_gr_2, jq_gr_4, jq_gw_2, jq_s_t, jq_b_t, jg_c, jg_n, js_c, js_n, jrm_c, jrm_n, j2_i, j2_l, j2_a, jq_c_i, jq_c_l, jq_c_0, jq_c_n, jwd_le, jw_c0, mS_I, mS_R, mS_J, mN_I, mN_R, mN_J, mR_I, mI_R, mJ_I, mJ_R, mI_J, mR_J, ↓reduceIte, decide_true, or_true, true_or, and_self, false_or, or_false, reduceCtorEq, Bool.false_eq_true, and_false, false_and, eq_self, true_and, and_true, zero_ne, e]
theorem r_turn (h : CR w a T c r) (hk : HOK H) (ra : RA H B r) (rw0 : RW H r) {k : Int} (k1 : -1 ≤ k) (k2 : k < 300) : rn 76 (0, [(0, jvr a), (1, .inl k)], [], w) = some (some (.inl (bi (gTurn r k))), w) := by
  have h16 := ra.1
  have kc := hk.1.2.2.2.2.2.2
  have e0 := cr_l h (by omega)
  by_cases q1 : 0 < k
  · by_cases q2 : k + 1 < r 288
    · have e1 := cr_way h (k := k) (by omega) (by omega)
      have e2 := cr_way h (k := k - 1) (by omega) (by omega)
      have e3 := cr_way h (k := k + 1) (by omega) (by omega)
      have c1 := rw0.1 k (by omega) (by omega)
      have c2 := rw0.1 (k - 1) (by omega) (by omega)
      have c3 := rw0.1 (k + 1) (by omega) (by omega)
      rw [show (0 + k).toNat = k.toNat by omega] at c1
      rw [show (0 + (k - 1)).toNat = (k - 1).toNat by omega] at c2
      rw [show (0 + (k + 1)).toNat = (k + 1).toNat by omega] at c3
      by_cases q3 : r k.toNat - r (k - 1).toNat = r (k + 1).toNat - r k.toNat
      · rw [bi_f (fun z => z.2.2 q3)]
        simp (disch := omega) only [p76_0, p76_1, p76_2, p76_5, p76_6, p76_7, p76_8, p76_9, p76_12, p76_15, p76_18, p76_19, p76_20, p76_21, p76_24, p76_25, p76_26, p76_29, p76_30, p76_31, p76_32, p76_35, p76_36, p76_37, p76_38, p76_39, p76_42, p76_43, p76_44, p76_47, p76_48, p76_49, p76_50, p76_51, p76_54, p76_55, p76_56, p76_59, p76_60, p76_63, p76_64, jwd_c, jwd_0, Nat.reduceLeDiff, Nat.reduceEqDiff, Nat.reduceAdd, Nat.reduceSub, Nat.reduceMul, Int.reduceAdd, Int.reduceSub, Int.reduceMul, Int.reduceNeg, Int.reduceEq, Int.reduceLT, Int.reduceLE, jq_ldi_i, jq_ldl_l, jq_lda_a, jq_inc_i, jq_gs_t, jq_gsb_t, jq_gb_t, jq_gr_2, jq_gr_4, jq_gw_2, jq_s_t, jq_b_t, jg_c, jg_n, js_c, js_n, jrm_c, jrm_n, j2_i, j2_l, j2_a, jq_c_i, jq_c_l, jq_c_0, jq_c_n, jwd_le, jw_c0, mS_I, mS_R, mS_J, mN_I, mN_R, mN_J, mR_I, mI_R, mJ_I, mJ_R, mI_J, mR_J, ↓reduceIte, decide_true, or_true, true_or, and_self, false_or, or_false, reduceCtorEq, Bool.false_eq_true, and_false, false_and, eq_self, true_and, and_true, zero_ne, ↓br_lt_t, ↓br_lt_f, ↓br_eq_t, ↓br_eq_f, ↓br_lz_t, ↓br_lz_f, ↓br_ez_t, ↓br_ez_f, ↓br_gz_t, ↓br_gz_f, jw_id, jin_t, jix_t, CR.s0 h, CR.p h, CR.k h, CR.t h, CR.s1 h, CR.s3 h, CR.s5 h, e0, e1, e2, e3]
      · rw [bi_t ⟨q1, q2, q3⟩]
        simp (disch := omega) only [p76_0, p76_1, p76_2, p76_5, p76_6, p76_7, p76_8, p76_9, p76_12, p76_15, p76_18, p76_19, p76_20, p76_21, p76_24, p76_25, p76_26, p76_29, p76_30, p76_31, p76_32, p76_35, p76_36, p76_37, p76_38, p76_39, p76_42, p76_43, p76_44, p76_47, p76_48, p76_49, p76_50, p76_51, p76_54, p76_55, p76_56, p76_59, p76_60, p76_63, p76_64, jwd_c, jwd_0, Nat.reduceLeDiff, Nat.reduceEqDiff, Nat.reduceAdd, Nat.reduceSub, Nat.reduceMul, Int.reduceAdd, Int.reduceSub, Int.reduceMul, Int.reduceNeg, Int.reduceEq, Int.reduceLT, Int.reduceLE, jq_ldi_i, jq_ldl_l, jq_lda_a, jq_inc_i, jq_gs_t, jq_gsb_t, jq_gb_t, jq_gr_2, jq_gr_4, jq_gw_2, jq_s_t, jq_b_t, jg_c, jg_n, js_c, js_n, jrm_c, jrm_n, j2_i, j2_l, j2_a, jq_c_i, jq_c_l, jq_c_0, jq_c_n, jwd_le, jw_c0, mS_I, mS_R, mS_J, mN_I, mN_R, mN_J, mR_I, mI_R, mJ_I, mJ_R, mI_J, mR_J, ↓reduceIte, decide_true, or_true, true_or, and_self, false_or, or_false, reduceCtorEq, Bool.false_eq_true, and_false, false_and, eq_self, true_and, and_true, zero_ne, ↓br_lt_t, ↓br_lt_f, ↓br_eq_t, ↓br_eq_f, ↓br_lz_t, ↓br_lz_f, ↓br_ez_t, ↓br_ez_f, ↓br_gz_t, ↓br_gz_f, jw_id, jin_t, jix_t, CR.s0 h, CR.p h, CR.k h, CR.t h, CR.s1 h, CR.s3 h, CR.s5 h, e0, e1, e2, e3]
    · rw [bi_f (fun z => q2 z.2.1)]
      simp (disch := omega) only [p76_0, p76_1, p76_2, p76_5, p76_6, p76_7, p76_8, p76_9, p76_12, p76_15, p76_18, p76_19, p76_20, p76_21, p76_24, p76_25, p76_26, p76_29, p76_30, p76_31, p76_32, p76_35, p76_36, p76_37, p76_38, p76_39, p76_42, p76_43, p76_44, p76_47, p76_48, p76_49, p76_50, p76_51, p76_54, p76_55, p76_56, p76_59, p76_60, p76_63, p76_64, jwd_c, jwd_0, Nat.reduceLeDiff, Nat.reduceEqDiff, Nat.reduceAdd, Nat.reduceSub, Nat.reduceMul, Int.reduceAdd, Int.reduceSub, Int.reduceMul, Int.reduceNeg, Int.reduceEq, Int.reduceLT, Int.reduceLE, jq_ldi_i, jq_ldl_l, jq_lda_a, jq_inc_i, jq_gs_t, jq_gsb_t, jq_gb_t, jq_gr_2, jq_gr_4, jq_gw_2, jq_s_t, jq_b_t, jg_c, jg_n, js_c, js_n, jrm_c, jrm_n, j2_i, j2_l, j2_a, jq_c_i, jq_c_l, jq_c_0, jq_c_n, jwd_le, jw_c0, mS_I, mS_R, mS_J, mN_I, mN_R, mN_J, mR_I, mI_R, mJ_I, mJ_R, mI_J, mR_J, ↓reduceIte, decide_true, or_true, true_or, and_self, false_or, or_false, reduceCtorEq, Bool.false_eq_true, and_false, false_and, eq_self, true_and, and_true, zero_ne, ↓br_lt_t, ↓br_lt_f, ↓br_eq_t, ↓br_eq_f, ↓br_lz_t, ↓br_lz_f, ↓br_ez_t, ↓br_ez_f, ↓br_gz_t, ↓br_gz_f, jw_id, jin_t, jix_t, CR.s0 h, CR.p h, CR.k h, CR.t h, CR.s1 h, CR.s3 h, CR.s5 h, e0]
  · rw [bi_f (fun z => q1 z.1)]
    simp (disch := omega) only [p76_0, p76_1, p76_2, p76_5, p76_6, p76_7, p76_8, p76_9, p76_12, p76_15, p76_18, p76_19, p76_20, p76_21, p76_24, p76_25, p76_26, p76_29, p76_30, p76_31, p76_32, p76_35, p76_36, p76_37, p76_38, p76_39, p76_42, p76_43, p76_44, p76_47, p76_48, p76_49, p76_50, p76_51, p76_54, p76_55, p76_56, p76_59, p76_60, p76_63, p76_64, jwd_c, jwd_0, Nat.reduceLeDiff, Nat.reduceEqDiff, Nat.reduceAdd, Nat.reduceSub, Nat.reduceMul, Int.reduceAdd, Int.reduceSub, Int.reduceMul, Int.reduceNeg, Int.reduceEq, Int.reduceLT, Int.reduceLE, jq_ldi_i, jq_ldl_l, jq_lda_a, jq_inc_i, jq_gs_t, jq_gsb_t, jq_gb_t, jq_gr_2, jq_gr_4, jq_gw_2, jq_s_t, jq_b_t, jg_c, jg_n, js_c, js_n, jrm_c, jrm_n, j2_i, j2_l, j2_a, jq_c_i, jq_c_l, jq_c_0, jq_c_n, jwd_le, jw_c0, mS_I, mS_R, mS_J, mN_I, mN_R, mN_J, mR_I, mI_R, mJ_I, mJ_R, mI_J, mR_J, ↓reduceIte, decide_true, or_true, true_or, and_self, false_or, or_false, reduceCtorEq, Bool.false_eq_true, and_false, false_and, eq_self, true_and, and_true, zero_ne, ↓br_lt_t, ↓br_lt_f, ↓br_eq_t, ↓br_eq_f, ↓br_lz_t, ↓br_lz_f, ↓br_ez_t, ↓br_ez_f, ↓br_gz_t, ↓br_gz_f, jw_id, jin_t, jix_t, CR.s0 h, CR.p h, CR.k h, CR.t h, CR.s1 h, CR.s3 h, CR.s5 h, e0]
theorem r_cost (h : CR w a T c r) (hk : HOK H) (ra : RA H B r) (rw0 : RW H r) {k kind : Int} (k1 : -1 ≤ k) (k2 : k < 300) (d1 : 0 ≤ kind) (d2 : kind ≤ 3) : rn 97 (0, [(0, jvr a), (1, .inl k), (2, .inl kind)], [], w) = some (some (.inl (gTk r kind k)), w) := by
  have e := r_turn h hk ra rw0 k1 k2
  unfold gTk
  by_cases q1 : kind = 2
  · rw [ci_f (fun z => z.2 q1)]
    simp (disch := omega) only [p97_0, p97_1, p97_2, p97_5, p97_6, p97_7, p97_10, p97_13, p97_14, p97_15, p97_16, p97_17, p97_20, p97_21, p97_24, p97_25, jwd_c, jwd_0, Nat.reduceLeDiff, Nat.reduceEqDiff, Nat.reduceAdd, Nat.reduceSub, Nat.reduceMul, Int.reduceAdd, Int.reduceSub, Int.reduceMul, Int.reduceNeg, Int.reduceEq, Int.reduceLT, Int.reduceLE, jq_ldi_i, jq_ldl_l, jq_lda_a, jq_inc_i, jq_gs_t, jq_gsb_t, jq_gb_t, jq_gr_2, jq_gr_4, jq_gw_2, jq_s_t, jq_b_t, jg_c, jg_n, js_c, js_n, jrm_c, jrm_n, j2_i, j2_l, j2_a, jq_c_i, jq_c_l, jq_c_0, jq_c_n, jwd_le, jw_c0, mS_I, mS_R, mS_J, mN_I, mN_R, mN_J, mR_I, mI_R, mJ_I, mJ_R, mI_J, mR_J, ↓reduceIte, decide_true, or_true, true_or, and_self, false_or, or_false, reduceCtorEq, Bool.false_eq_true, and_false, false_and, eq_self, true_and, and_true, zero_ne, ↓br_lt_t, ↓br_lt_f, ↓br_eq_t, ↓br_eq_f, ↓br_lz_t, ↓br_lz_f, ↓br_ez_t, ↓br_ez_f, ↓br_gz_t, ↓br_gz_f, jw_id, jin_t, jix_t, CR.s0 h, CR.p h, CR.k h, CR.t h, CR.s1 h, CR.s3 h, CR.s5 h]
  · by_cases q2 : gTurn r k
    · rw [bi_t q2] at e
      rw [ci_t ⟨q2, q1⟩]
      by_cases q3 : kind = 3
      · rw [if_pos q3]
        simp (disch := omega) only [p97_0, p97_1, p97_2, p97_5, p97_6, p97_7, p97_10, p97_13, p97_14, p97_15, p97_16, p97_17, p97_20, p97_21, p97_24, p97_25, jwd_c, jwd_0, Nat.reduceLeDiff, Nat.reduceEqDiff, Nat.reduceAdd, Nat.reduceSub, Nat.reduceMul, Int.reduceAdd, Int.reduceSub, Int.reduceMul, Int.reduceNeg, Int.reduceEq, Int.reduceLT, Int.reduceLE, jq_ldi_i, jq_ldl_l, jq_lda_a, jq_inc_i, jq_gs_t, jq_gsb_t, jq_gb_t, jq_gr_2, jq_gr_4, jq_gw_2, jq_s_t, jq_b_t, jg_c, jg_n, js_c, js_n, jrm_c, jrm_n, j2_i, j2_l, j2_a, jq_c_i, jq_c_l, jq_c_0, jq_c_n, jwd_le, jw_c0, mS_I, mS_R, mS_J, mN_I, mN_R, mN_J, mR_I, mI_R, mJ_I, mJ_R, mI_J, mR_J, ↓reduceIte, decide_true, or_true, true_or, and_self, false_or, or_false, reduceCtorEq, Bool.false_eq_true, and_false, false_and, eq_self, true_and, and_true, zero_ne, ↓br_lt_t, ↓br_lt_f, ↓br_eq_t, ↓br_eq_f, ↓br_lz_t, ↓br_lz_f, ↓br_ez_t, ↓br_ez_f, ↓br_gz_t, ↓br_gz_f, jw_id, jin_t, jix_t, CR.s0 h, CR.p h, CR.k h, CR.t h, CR.s1 h, CR.s3 h, CR.s5 h, e]
      · rw [if_neg q3]
        simp (disch := omega) only [p97_0, p97_1, p97_2, p97_5, p97_6, p97_7, p97_10, p97_13, p97_14, p97_15, p97_16, p97_17, p97_20, p97_21, p97_24, p97_25, jwd_c, jwd_0, Nat.reduceLeDiff, Nat.reduceEqDiff, Nat.reduceAdd, Nat.reduceSub, Nat.reduceMul, Int.reduceAdd, Int.reduceSub, Int.reduceMul, Int.reduceNeg, Int.reduceEq, Int.reduceLT, Int.reduceLE, jq_ldi_i, jq_ldl_l, jq_lda_a, jq_inc_i, jq_gs_t, jq_gsb_t, jq_gb_t, jq_gr_2, jq_gr_4, jq_gw_2, jq_s_t, jq_b_t, jg_c, jg_n, js_c, js_n, jrm_c, jrm_n, j2_i, j2_l, j2_a, jq_c_i, jq_c_l, jq_c_0, jq_c_n, jwd_le, jw_c0, mS_I, mS_R, mS_J, mN_I, mN_R, mN_J, mR_I, mI_R, mJ_I, mJ_R, mI_J, mR_J, ↓reduceIte, decide_true, or_true, true_or, and_self, false_or, or_false, reduceCtorEq, Bool.false_eq_true, and_false, false_and, eq_self, true_and, and_true, zero_ne, ↓br_lt_t, ↓br_lt_f, ↓br_eq_t, ↓br_eq_f, ↓br_lz_t, ↓br_lz_f, ↓br_ez_t, ↓br_ez_f, ↓br_gz_t, ↓br_gz_f, jw_id, jin_t, jix_t, CR.s0 h, CR.p h, CR.k h, CR.t h, CR.s1 h, CR.s3 h, CR.s5 h, e]
    · rw [bi_f q2] at e
      rw [ci_f (fun z => q2 z.1)]
      simp (disch := omega) only [p97_0, p97_1, p97_2, p97_5, p97_6, p97_7, p97_10, p97_13, p97_14, p97_15, p97_16, p97_17, p97_20, p97_21, p97_24, p97_25, jwd_c, jwd_0, Nat.reduceLeDiff, Nat.reduceEqDiff, Nat.reduceAdd, Nat.reduceSub, Nat.reduceMul, Int.reduceAdd, Int.reduceSub, Int.reduceMul, Int.reduceNeg, Int.reduceEq, Int.reduceLT, Int.reduceLE, jq_ldi_i, jq_ldl_l, jq_lda_a, jq_inc_i, jq_gs_t, jq_gsb_t, jq_gb_t, jq_gr_2, jq_gr_4, jq_gw_2, jq_s_t, jq_b_t, jg_c, jg_n, js_c, js_n, jrm_c, jrm_n, j2_i, j2_l, j2_a, jq_c_i, jq_c_l, jq_c_0, jq_c_n, jwd_le, jw_c0, mS_I, mS_R, mS_J, mN_I, mN_R, mN_J, mR_I, mI_R, mJ_I, mJ_R, mI_J, mR_J, ↓reduceIte, decide_true, or_true, true_or, and_self, false_or, or_false, reduceCtorEq, Bool.false_eq_true, and_false, false_and, eq_self, true_and, and_true, zero_ne, ↓br_lt_t, ↓br_lt_f, ↓br_eq_t, ↓br_eq_f, ↓br_lz_t, ↓br_lz_f, ↓br_ez_t, ↓br_ez_f, ↓br_gz_t, ↓br_gz_f, jw_id, jin_t, jix_t, CR.s0 h, CR.p h, CR.k h, CR.t h, CR.s1 h, CR.s3 h, CR.s5 h, e]
/-- a number of one who dances set -/
theorem CR.putc (h : CR w a T c r) (h16 : r 289 ≤ 16 ∧ r 288 ≤ 204) {i k v : Int} (i1 : 0 ≤ i) (i2 : i < r 289) (k1 : 0 ≤ k) (k2 : k < 5) : ∃ u, rn 17 (0, [(0, jvr (a + 3)), (1, .inl i), (2, .inl k), (3, .inl v)], [], w) = some (none, u) ∧ CR u a T c (up1 r (204 + 16 * k + i).toNat v) ∧ Fr (sP (a + 3)) w u := by
  obtain ⟨h1, h2, h3, h4, h5, h6, h7, h8⟩ := h
  obtain ⟨u, e, s, f⟩ := sg_put (v := v) h6 i1 (l := i) (by omega) k1 (k := k) (by omega)
  have p0 : ¬ sP (a + 3) a := fun z => by unfold sP at z; omega
  refine ⟨u, e, ?_, f⟩
  have g : ∀ n : Nat, (n < 204 ∨ 284 ≤ n) → up1 r (204 + 16 * k + i).toNat v n = r n := fun n hn => up1_n (by omega)
  unfold CR
  rw [f.q, f.Rq p0, f.Iq p0, g 288 (by omega), g 289 (by omega), g 290 (by omega), g 291 (by omega), g 292 (by omega), g 293 (by omega), g 294 (by omega), g 295 (by omega), g 296 (by omega)]
  refine ⟨h1, h2, h3, h4, ?_, ?_, ?_, h8⟩
  · refine (h5.fr f (fun z => by unfold sP at z; omega) (fun z => by unfold sP at z; omega)).mk2 (fun x y hx hy => ?_)
    show r x = up1 r _ v x
    rw [g x (by omega)]
  · refine s.mk2 (fun x y hx hy => ?_)
    show (if x = i.toNat ∧ y = k.toNat then v else r (204 + 16 * y + x)) = _
    by_cases z : x = i.toNat ∧ y = k.toNat
    · rw [if_pos z, z.1, z.2, show 204 + 16 * k.toNat + i.toNat = (204 + 16 * k + i).toNat by omega, up1_s]
    · rw [if_neg z, up1_n (by omega)]
  · refine (h7.fr f (fun z => by unfold sP at z; omega) (fun z => by unfold sP at z; omega)).mk2 (fun x y hx hy => ?_)
    exact (g _ (by omega)).symm
end ROW
