/-! The model: a side by lot, a side told. -/
theorem gCell_c {r q : Nat → Int} {i : Int} (h1 : ∀ k, k < 204 → q k = r k) (h2 : ∀ k, 220 ≤ k → k < 236 → q k = r k) (i1 : 0 ≤ i) (i2 : i < 16) (p1 : 0 ≤ r (220 + i).toNat) (p2 : r (220 + i).toNat < 204) : gCell q i = gCell r i := by
  unfold gCell
  rw [h2 (220 + i).toNat (by omega) (by omega)]
  exact h1 _ (by omega)
section LOT
variable {w : jmW} {a h : Nat} {H : Nat → Nat → Int} {r : Nat → Int} {B : Int}
theorem gSO_c {q : Nat → Int} {c but : Int} (h1 : ∀ k, k < 204 → q k = r k) (h2 : ∀ k, 220 ≤ k → k < 236 → q k = r k) (h4 : q 289 = r 289) (ra : RA H B r) (rb : RB r) : gSO q c but ↔ gSO r c but := by
  have h16 := ra.1
  have e : ∀ i : Int, 0 ≤ i → i < r 289 → gCell q i = gCell r i := by
    intro i i1 i2
    have := (rb i i1 i2).2.1
    exact gCell_c h1 h2 i1 (by omega) (by omega) (by omega)
  unfold gSO
  rw [h4]
  constructor
  · rintro ⟨i, i1, i2, i3, i4⟩
    exact ⟨i, i1, i2, i3, by rw [← e i i1 i2]; exact i4⟩
  · rintro ⟨i, i1, i2, i3, i4⟩
    exact ⟨i, i1, i2, i3, by rw [e i i1 i2]; exact i4⟩
theorem gCG_c {q : Nat → Int} (h1 : ∀ k, k < 204 → q k = r k) (h2 : ∀ k, 220 ≤ k → k < 236 → q k = r k) (h3 : q 288 = r 288) (h4 : q 289 = r 289) (ra : RA H B r) (rb : RB r) (s : Int) : gCG H q s ↔ gCG H r s := by
  have h16 := ra.1
  have e : ∀ i : Int, 0 ≤ i → i < r 289 → gCell q i = gCell r i := by
    intro i i1 i2
    have := (rb i i1 i2).2.1
    exact gCell_c h1 h2 i1 (by omega) (by omega) (by omega)
  have e1 : gHere q = gHere r := by
    unfold gHere
    rw [h3]
    exact h1 _ (by omega)
  have e2 : ∀ c, gCloses q c ↔ gCloses r c := by
    intro c
    unfold gCloses
    rw [h4]
    constructor
    · rintro ⟨i1, i2⟩
      exact ⟨i1, by rw [← e _ (by omega) (by omega)]; exact i2⟩
    · rintro ⟨i1, i2⟩
      exact ⟨i1, by rw [e _ (by omega) (by omega)]; exact i2⟩
  unfold gCG
  rw [e1, gSO_c h1 h2 h4 ra rb, e2]
theorem RB_c {q : Nat → Int} (h : ∀ k, 204 ≤ k → k < 291 → q k = r k) (ra : RA H B r) (rb : RB r) : RB q := by
  have h16 := ra.1
  intro i i1 i2
  rw [h 289 (by omega) (by omega)] at i2
  have := rb i i1 i2
  rw [h _ (by omega) (by omega), h _ (by omega) (by omega), h _ (by omega) (by omega), h _ (by omega) (by omega), h _ (by omega) (by omega), h _ (by omega) (by omega), h _ (by omega) (by omega)]
  exact this
theorem RW_c {q : Nat → Int} (h : ∀ k, k < 204 → q k = r k) (h3 : q 288 = r 288) (ra : RA H B r) (rw0 : RW H r) : RW H q := by
  have h16 := ra.1
  refine ⟨fun k k1 k2 => ?_, fun k k1 k2 => ?_⟩
  · rw [h3] at k2
    rw [h _ (by omega)]
    exact rw0.1 k k1 k2
  · rw [h3] at k2
    rw [h _ (by omega), h _ (by omega)]
    exact rw0.2 k k1 k2
noncomputable def gCnt (p : Int → Prop) : Nat → Int → Int
  | 0, _ => 0
  | k + 1, s => bi (p s) + gCnt p k (s + 1)
noncomputable def gNth (p : Int → Prop) : Nat → Int → Int → Int
  | 0, _, _ => -1
  | k + 1, s, l => ci (p s ∧ l ≤ 0) s (gNth p k (s + 1) (l - bi (p s)))
theorem gCnt_bd (p : Int → Prop) : ∀ (k : Nat) (s : Int), 0 ≤ gCnt p k s ∧ gCnt p k s ≤ k := by
  intro k
  induction k with
  | zero => intro s; exact ⟨by show (0 : Int) ≤ 0; omega, by show (0 : Int) ≤ 0; omega⟩
  | succ k ih =>
    intro s
    have := ih (s + 1)
    have h2 := bi_01 (p s)
    show 0 ≤ bi (p s) + gCnt p k (s + 1) ∧ bi (p s) + gCnt p k (s + 1) ≤ (k + 1 : Nat)
    omega
theorem lot_cnt (hm : MO w) (hh : MH w h H) (h3 : mR w 238 3 = some h) (hs : mS w a = (2, 0, 298)) (hr : mI w a = r) (hk : HOK H) (ra : RA H B r) (rb : RB r) (rw0 : RW H r) : ∀ (k : Nat) (n s : Int), 0 ≤ s → s + k = 4 → 0 ≤ n → n ≤ s → rn 245 (4, [(0, jvr 238), (1, jvr a), (2, .inl n), (3, .inl s)], [], w) = rn 245 (32, [(0, jvr 238), (1, jvr a), (2, .inl (n + gCnt (gCG H r) k s)), (3, .inl 4)], [], w) := by
  intro k
  induction k with
  | zero =>
    intro n s s1 s2 n1 n2
    have e : gCnt (gCG H r) 0 s = 0 := rfl
    have e2 : s = 4 := by omega
    subst e2
    rw [e, p245_4]
    simp (disch := omega) only [p245_5, p245_6, jwd_c, jwd_0, Nat.reduceLeDiff, Nat.reduceEqDiff, Nat.reduceAdd, Nat.reduceSub, Nat.reduceMul, Int.reduceAdd, Int.reduceSub, Int.reduceMul, Int.reduceNeg, Int.reduceEq, Int.reduceLT, Int.reduceLE, jq_ldi_i, jq_ldl_l, jq_lda_a, jq_inc_i, jq_gs_t, jq_gsb_t, jq_gb_t, jq_gr_2, jq_gr_4, jq_gw_2, jq_s_t, jq_b_t, jg_c, jg_n, js_c, js_n, jrm_c, jrm_n, j2_i, j2_l, j2_a, jq_c_i, jq_c_l, jq_c_0, jq_c_n, jwd_le, jw_c0, mS_I, mS_R, mS_J, mN_I, mN_R, mN_J, mR_I, mI_R, mJ_I, mJ_R, mI_J, mR_J, ↓reduceIte, decide_true, or_true, true_or, and_self, false_or, or_false, reduceCtorEq, Bool.false_eq_true, and_false, false_and, eq_self, true_and, and_true, zero_ne, ↓br_lt_t, ↓br_lt_f, ↓br_eq_t, ↓br_eq_f, ↓br_lz_t, ↓br_lz_f, ↓br_ez_t, ↓br_ez_f, ↓br_gz_t, ↓br_gz_f, jw_id, jin_t, jix_t, Int.add_zero]
  | succ k ih =>
    intro n s s1 s2 n1 n2
    have e : gCnt (gCG H r) (k + 1) s = bi (gCG H r s) + gCnt (gCG H r) k (s + 1) := rfl
    have e1 := m_can hm hh h3 hs hr hk ra rb rw0 (s := s) s1 (by omega)
    rw [e, p245_4]
    by_cases q : gCG H r s
    · rw [bi_t q] at e1 ⊢
      have e3 := ih (n + 1) (s + 1) (by omega) (by omega) (by omega) (by omega)
      simp (disch := omega) only [p245_5, p245_6, p245_9, p245_10, p245_11, p245_12, p245_13, p245_16, p245_19, p245_20, p245_23, p245_24, p245_25, p245_26, p245_29, jwd_c, jwd_0, Nat.reduceLeDiff, Nat.reduceEqDiff, Nat.reduceAdd, Nat.reduceSub, Nat.reduceMul, Int.reduceAdd, Int.reduceSub, Int.reduceMul, Int.reduceNeg, Int.reduceEq, Int.reduceLT, Int.reduceLE, jq_ldi_i, jq_ldl_l, jq_lda_a, jq_inc_i, jq_gs_t, jq_gsb_t, jq_gb_t, jq_gr_2, jq_gr_4, jq_gw_2, jq_s_t, jq_b_t, jg_c, jg_n, js_c, js_n, jrm_c, jrm_n, j2_i, j2_l, j2_a, jq_c_i, jq_c_l, jq_c_0, jq_c_n, jwd_le, jw_c0, mS_I, mS_R, mS_J, mN_I, mN_R, mN_J, mR_I, mI_R, mJ_I, mJ_R, mI_J, mR_J, ↓reduceIte, decide_true, or_true, true_or, and_self, false_or, or_false, reduceCtorEq, Bool.false_eq_true, and_false, false_and, eq_self, true_and, and_true, zero_ne, ↓br_lt_t, ↓br_lt_f, ↓br_eq_t, ↓br_eq_f, ↓br_lz_t, ↓br_lz_f, ↓br_ez_t, ↓br_ez_f, ↓br_gz_t, ↓br_gz_f, jw_id, jin_t, jix_t, MO.s0 hm, MO.s1 hm, MO.s2 hm, MO.s3 hm, MO.s4 hm, MO.s5 hm, MO.s6 hm, MO.s7 hm, MO.s8 hm, MO.s9 hm, MO.s10 hm, MO.s11 hm, MO.s12 hm, MO.s13 hm, MO.r1 hm, MO.r2 hm, MO.r3 hm, MO.r4 hm, MO.r5 hm, MO.r6 hm, MO.r7 hm, MO.r8 hm, MO.r9 hm, MO.r10 hm, MO.r11 hm, MO.r12 hm, MO.r13 hm, e1, e3]
      rw [Int.add_assoc]
    · rw [bi_f q] at e1 ⊢
      have e3 := ih (n + 0) (s + 1) (by omega) (by omega) (by omega) (by omega)
      simp (disch := omega) only [p245_5, p245_6, p245_9, p245_10, p245_11, p245_12, p245_13, p245_16, p245_19, p245_20, p245_23, p245_24, p245_25, p245_26, p245_29, jwd_c, jwd_0, Nat.reduceLeDiff, Nat.reduceEqDiff, Nat.reduceAdd, Nat.reduceSub, Nat.reduceMul, Int.reduceAdd, Int.reduceSub, Int.reduceMul, Int.reduceNeg, Int.reduceEq, Int.reduceLT, Int.reduceLE, jq_ldi_i, jq_ldl_l, jq_lda_a, jq_inc_i, jq_gs_t, jq_gsb_t, jq_gb_t, jq_gr_2, jq_gr_4, jq_gw_2, jq_s_t, jq_b_t, jg_c, jg_n, js_c, js_n, jrm_c, jrm_n, j2_i, j2_l, j2_a, jq_c_i, jq_c_l, jq_c_0, jq_c_n, jwd_le, jw_c0, mS_I, mS_R, mS_J, mN_I, mN_R, mN_J, mR_I, mI_R, mJ_I, mJ_R, mI_J, mR_J, ↓reduceIte, decide_true, or_true, true_or, and_self, false_or, or_false, reduceCtorEq, Bool.false_eq_true, and_false, false_and, eq_self, true_and, and_true, zero_ne, ↓br_lt_t, ↓br_lt_f, ↓br_eq_t, ↓br_eq_f, ↓br_lz_t, ↓br_lz_f, ↓br_ez_t, ↓br_ez_f, ↓br_gz_t, ↓br_gz_f, jw_id, jin_t, jix_t, MO.s0 hm, MO.s1 hm, MO.s2 hm, MO.s3 hm, MO.s4 hm, MO.s5 hm, MO.s6 hm, MO.s7 hm, MO.s8 hm, MO.s9 hm, MO.s10 hm, MO.s11 hm, MO.s12 hm, MO.s13 hm, MO.r1 hm, MO.r2 hm, MO.r3 hm, MO.r4 hm, MO.r5 hm, MO.r6 hm, MO.r7 hm, MO.r8 hm, MO.r9 hm, MO.r10 hm, MO.r11 hm, MO.r12 hm, MO.r13 hm, e1, e3]
      rw [Int.add_assoc]
theorem lot_nth (hm : MO w) (hh : MH w h H) (h3 : mR w 238 3 = some h) (hs : mS w a = (2, 0, 298)) (hr : mI w a = r) (hk : HOK H) (ra : RA H B r) (rb : RB r) (rw0 : RW H r) {n : Int} : ∀ (k : Nat) (l s : Int), 0 ≤ s → s + k = 4 → 0 ≤ l → l ≤ 4 → l < gCnt (gCG H r) k s → rn 245 (48, [(0, jvr 238), (1, jvr a), (2, .inl n), (3, .inl l), (4, .inl s)], [], w) = some (some (.inl (gNth (gCG H r) k s l)), w) := by
  intro k
  induction k with
  | zero =>
    intro l s s1 s2 l1 l2 l3
    have e : gCnt (gCG H r) 0 s = 0 := rfl
    omega
  | succ k ih =>
    intro l s s1 s2 l1 l2 l3
    have e : gCnt (gCG H r) (k + 1) s = bi (gCG H r s) + gCnt (gCG H r) k (s + 1) := rfl
    have e4 : gNth (gCG H r) (k + 1) s l = ci (gCG H r s ∧ l ≤ 0) s (gNth (gCG H r) k (s + 1) (l - bi (gCG H r s))) := rfl
    have e1 := m_can hm hh h3 hs hr hk ra rb rw0 (s := s) s1 (by omega)
    rw [e] at l3
    rw [e4, p245_48]
    by_cases q : gCG H r s
    · rw [bi_t q] at e1 l3 ⊢
      by_cases q2 : l ≤ 0
      · rw [ci_t ⟨q, q2⟩]
        simp (disch := omega) only [p245_0, p245_1, p245_2, p245_3, p245_4, p245_5, p245_6, p245_9, p245_10, p245_11, p245_12, p245_13, p245_16, p245_19, p245_20, p245_23, p245_24, p245_25, p245_26, p245_29, p245_32, p245_33, p245_36, p245_37, p245_38, p245_39, p245_42, p245_43, p245_44, p245_45, p245_46, p245_49, p245_50, p245_52, p245_55, p245_58, p245_59, p245_62, p245_63, p245_64, p245_65, p245_67, p245_70, p245_73, p245_74, p245_77, p245_78, p245_79, p245_80, p245_83, p245_86, p245_88, jwd_c, jwd_0, Nat.reduceLeDiff, Nat.reduceEqDiff, Nat.reduceAdd, Nat.reduceSub, Nat.reduceMul, Int.reduceAdd, Int.reduceSub, Int.reduceMul, Int.reduceNeg, Int.reduceEq, Int.reduceLT, Int.reduceLE, jq_ldi_i, jq_ldl_l, jq_lda_a, jq_inc_i, jq_gs_t, jq_gsb_t, jq_gb_t, jq_gr_2, jq_gr_4, jq_gw_2, jq_s_t, jq_b_t, jg_c, jg_n, js_c, js_n, jrm_c, jrm_n, j2_i, j2_l, j2_a, jq_c_i, jq_c_l, jq_c_0, jq_c_n, jwd_le, jw_c0, mS_I, mS_R, mS_J, mN_I, mN_R, mN_J, mR_I, mI_R, mJ_I, mJ_R, mI_J, mR_J, ↓reduceIte, decide_true, or_true, true_or, and_self, false_or, or_false, reduceCtorEq, Bool.false_eq_true, and_false, false_and, eq_self, true_and, and_true, zero_ne, ↓br_lt_t, ↓br_lt_f, ↓br_eq_t, ↓br_eq_f, ↓br_lz_t, ↓br_lz_f, ↓br_ez_t, ↓br_ez_f, ↓br_gz_t, ↓br_gz_f, jw_id, jin_t, jix_t, MO.s0 hm, MO.s1 hm, MO.s2 hm, MO.s3 hm, MO.s4 hm, MO.s5 hm, MO.s6 hm, MO.s7 hm, MO.s8 hm, MO.s9 hm, MO.s10 hm, MO.s11 hm, MO.s12 hm, MO.s13 hm, MO.r1 hm, MO.r2 hm, MO.r3 hm, MO.r4 hm, MO.r5 hm, MO.r6 hm, MO.r7 hm, MO.r8 hm, MO.r9 hm, MO.r10 hm, MO.r11 hm, MO.r12 hm, MO.r13 hm, e1]
      · have e3 := ih (l - 1) (s + 1) (by omega) (by omega) (by omega) (by omega) (by omega)
        rw [ci_f (fun z => q2 z.2)]
        simp (disch := omega) only [p245_0, p245_1, p245_2, p245_3, p245_4, p245_5, p245_6, p245_9, p245_10, p245_11, p245_12, p245_13, p245_16, p245_19, p245_20, p245_23, p245_24, p245_25, p245_26, p245_29, p245_32, p245_33, p245_36, p245_37, p245_38, p245_39, p245_42, p245_43, p245_44, p245_45, p245_46, p245_49, p245_50, p245_52, p245_55, p245_58, p245_59, p245_62, p245_63, p245_64, p245_65, p245_67, p245_70, p245_73, p245_74, p245_77, p245_78, p245_79, p245_80, p245_83, p245_86, p245_88, jwd_c, jwd_0, Nat.reduceLeDiff, Nat.reduceEqDiff, Nat.reduceAdd, Nat.reduceSub, Nat.reduceMul, Int.reduceAdd, Int.reduceSub, Int.reduceMul, Int.reduceNeg, Int.reduceEq, Int.reduceLT, Int.reduceLE, jq_ldi_i, jq_ldl_l, jq_lda_a, jq_inc_i, jq_gs_t, jq_gsb_t, jq_gb_t, jq_gr_2, jq_gr_4, jq_gw_2, jq_s_t, jq_b_t, jg_c, jg_n, js_c, js_n, jrm_c, jrm_n, j2_i, j2_l, j2_a, jq_c_i, jq_c_l, jq_c_0, jq_c_n, jwd_le, jw_c0, mS_I, mS_R, mS_J, mN_I, mN_R, mN_J, mR_I, mI_R, mJ_I, mJ_R, mI_J, mR_J, ↓reduceIte, decide_true, or_true, true_or, and_self, false_or, or_false, reduceCtorEq, Bool.false_eq_true, and_false, false_and, eq_self, true_and, and_true, zero_ne, ↓br_lt_t, ↓br_lt_f, ↓br_eq_t, ↓br_eq_f, ↓br_lz_t, ↓br_lz_f, ↓br_ez_t, ↓br_ez_f, ↓br_gz_t, ↓br_gz_f, jw_id, jin_t, jix_t, MO.s0 hm, MO.s1 hm, MO.s2 hm, MO.s3 hm, MO.s4 hm, MO.s5 hm, MO.s6 hm, MO.s7 hm, MO.s8 hm, MO.s9 hm, MO.s10 hm, MO.s11 hm, MO.s12 hm, MO.s13 hm, MO.r1 hm, MO.r2 hm, MO.r3 hm, MO.r4 hm, MO.r5 hm, MO.r6 hm, MO.r7 hm, MO.r8 hm, MO.r9 hm, MO.r10 hm, MO.r11 hm, MO.r12 hm, MO.r13 hm, e1, e3]
    · rw [bi_f q] at e1 l3 ⊢
      have e3 := ih (l - 0) (s + 1) (by omega) (by omega) (by omega) (by omega) (by omega)
      rw [ci_f (fun z => q z.1)]
      simp (disch := omega) only [p245_0, p245_1, p245_2, p245_3, p245_4, p245_5, p245_6, p245_9, p245_10, p245_11, p245_12, p245_13, p245_16, p245_19, p245_20, p245_23, p245_24, p245_25, p245_26, p245_29, p245_32, p245_33, p245_36, p245_37, p245_38, p245_39, p245_42, p245_43, p245_44, p245_45, p245_46, p245_49, p245_50, p245_52, p245_55, p245_58, p245_59, p245_62, p245_63, p245_64, p245_65, p245_67, p245_70, p245_73, p245_74, p245_77, p245_78, p245_79, p245_80, p245_83, p245_86, p245_88, jwd_c, jwd_0, Nat.reduceLeDiff, Nat.reduceEqDiff, Nat.reduceAdd, Nat.reduceSub, Nat.reduceMul, Int.reduceAdd, Int.reduceSub, Int.reduceMul, Int.reduceNeg, Int.reduceEq, Int.reduceLT, Int.reduceLE, jq_ldi_i, jq_ldl_l, jq_lda_a, jq_inc_i, jq_gs_t, jq_gsb_t, jq_gb_t, jq_gr_2, jq_gr_4, jq_gw_2, jq_s_t, jq_b_t, jg_c, jg_n, js_c, js_n, jrm_c, jrm_n, j2_i, j2_l, j2_a, jq_c_i, jq_c_l, jq_c_0, jq_c_n, jwd_le, jw_c0, mS_I, mS_R, mS_J, mN_I, mN_R, mN_J, mR_I, mI_R, mJ_I, mJ_R, mI_J, mR_J, ↓reduceIte, decide_true, or_true, true_or, and_self, false_or, or_false, reduceCtorEq, Bool.false_eq_true, and_false, false_and, eq_self, true_and, and_true, zero_ne, ↓br_lt_t, ↓br_lt_f, ↓br_eq_t, ↓br_eq_f, ↓br_lz_t, ↓br_lz_f, ↓br_ez_t, ↓br_ez_f, ↓br_gz_t, ↓br_gz_f, jw_id, jin_t, jix_t, MO.s0 hm, MO.s1 hm, MO.s2 hm, MO.s3 hm, MO.s4 hm, MO.s5 hm, MO.s6 hm, MO.s7 hm, MO.s8 hm, MO.s9 hm, MO.s10 hm, MO.s11 hm, MO.s12 hm, MO.s13 hm, MO.r1 hm, MO.r2 hm, MO.r3 hm, MO.r4 hm, MO.r5 hm, MO.r6 hm, MO.r7 hm, MO.r8 hm, MO.r9 hm, MO.r10 hm, MO.r11 hm, MO.r12 hm, MO.r13 hm, e1, e3]
/-- by lot: the side, and what is drawn for it -/
noncomputable def gLot (H : Nat → Nat → Int) (r : Nat → Int) : Int × (Nat → Int) := if gCnt (gCG H r) 4 0 = 0 then (-1, r) else (gNth (gCG H r) 4 0 (gDr r % gCnt (gCG H r) 4 0), up1 r 295 (gDr r))
theorem MO.A {w : jmW} {a : Nat} {f : Nat → Int} (h : MO w) : MO (setA w a f) := h
theorem MH.A {w : jmW} {h a : Nat} {H : Nat → Nat → Int} {f : Nat → Int} (g : MH w h H) (ha : a < 252) : MH (setA w a f) h H := by
  have hge := g.ge
  have e : ∀ b, 252 ≤ b → mI (setA w a f) b = mI w b := fun b hb => mI_nA (by omega)
  unfold MH at g ⊢
  rw [mS_A, mR_A, e h hge, e (h + 1) (by omega), e (h + 2) (by omega), e (h + 3) (by omega), e (h + 4) (by omega), e (h + 5) (by omega), e (h + 6) (by omega), e (h + 7) (by omega), e (h + 8) (by omega), e (h + 9) (by omega), e (h + 10) (by omega), e (h + 11) (by omega), e (h + 12) (by omega), e (h + 13) (by omega), e (h + 14) (by omega), e (h + 15) (by omega)]
  exact g
theorem gDr_bd (h1 : 0 ≤ r 295) : 0 ≤ gDr r ∧ gDr r ≤ 65536 := by
  unfold gDr
  omega
theorem RA.seed (ra : RA H B r) {x : Int} (h1 : 0 ≤ x) (h2 : x ≤ 65536) : RA H B (up1 r 295 x) := by
  unfold RA at ra ⊢
  simp (disch := omega) only [up1_n, up1_s]
  omega
theorem m_lot (hm : MO w) (hh : MH w h H) (h3 : mR w 238 3 = some h) (ha : a < 252) (hs : mS w a = (2, 0, 298)) (hr : mI w a = r) (hk : HOK H) (ra : RA H B r) (rb : RB r) (rw0 : RW H r) : rn 245 (0, [(0, jvr 238), (1, jvr a)], [], w) = some (some (.inl (gLot H r).1), setA w a (gLot H r).2) := by
  have e0 : setA w a r = w := by rw [← hr]; exact setA_self w a
  have hd := m_drawn hs hr ra.2.2.2.2.2.2.2.2.2.2.1 ra.2.2.2.2.2.2.2.2.2.2.2.1
  have hdb := gDr_bd (r := r) ra.2.2.2.2.2.2.2.2.2.2.1
  have e1 := lot_cnt hm hh h3 hs hr hk ra rb rw0 4 0 0 (by omega) (by omega) (by omega) (by omega)
  have b1 := gCnt_bd (gCG H r) 4 0
  unfold gLot
  generalize hn : gCnt (gCG H r) 4 0 = n at *
  rw [Int.zero_add] at e1
  by_cases q : n = 0
  · rw [if_pos q, e0]
    simp (disch := omega) only [p245_0, p245_1, p245_2, p245_3, p245_5, p245_6, p245_9, p245_10, p245_11, p245_12, p245_13, p245_16, p245_19, p245_20, p245_23, p245_24, p245_25, p245_26, p245_29, p245_32, p245_33, p245_36, p245_37, p245_38, p245_39, p245_42, p245_43, p245_44, p245_45, p245_46, p245_49, p245_50, p245_52, p245_55, p245_58, p245_59, p245_62, p245_63, p245_64, p245_65, p245_67, p245_70, p245_73, p245_74, p245_77, p245_78, p245_79, p245_80, p245_83, p245_86, p245_88, jwd_c, jwd_0, Nat.reduceLeDiff, Nat.reduceEqDiff, Nat.reduceAdd, Nat.reduceSub, Nat.reduceMul, Int.reduceAdd, Int.reduceSub, Int.reduceMul, Int.reduceNeg, Int.reduceEq, Int.reduceLT, Int.reduceLE, jq_ldi_i, jq_ldl_l, jq_lda_a, jq_inc_i, jq_gs_t, jq_gsb_t, jq_gb_t, jq_gr_2, jq_gr_4, jq_gw_2, jq_s_t, jq_b_t, jg_c, jg_n, js_c, js_n, jrm_c, jrm_n, j2_i, j2_l, j2_a, jq_c_i, jq_c_l, jq_c_0, jq_c_n, jwd_le, jw_c0, mS_I, mS_R, mS_J, mN_I, mN_R, mN_J, mR_I, mI_R, mJ_I, mJ_R, mI_J, mR_J, ↓reduceIte, decide_true, or_true, true_or, and_self, false_or, or_false, reduceCtorEq, Bool.false_eq_true, and_false, false_and, eq_self, true_and, and_true, zero_ne, ↓br_lt_t, ↓br_lt_f, ↓br_eq_t, ↓br_eq_f, ↓br_lz_t, ↓br_lz_f, ↓br_ez_t, ↓br_ez_f, ↓br_gz_t, ↓br_gz_f, jw_id, jin_t, jix_t, e1]
  · rw [if_neg q]
    have ra2 := ra.seed hdb.1 hdb.2
    have rb2 : RB (up1 r 295 (gDr r)) := RB_c (fun k k1 k2 => up1_n (by omega)) ra rb
    have rw2 : RW H (up1 r 295 (gDr r)) := RW_c (fun k k1 => up1_n (by omega)) (up1_n (by omega)) ra rw0
    have c1 : gCG H (up1 r 295 (gDr r)) = gCG H r := by
      funext s
      exact propext (gCG_c (fun k k1 => up1_n (by omega)) (fun k k1 k2 => up1_n (by omega)) (up1_n (by omega)) (up1_n (by omega)) ra rb s)
    have m1 : 0 ≤ gDr r % n := Int.emod_nonneg _ (by omega)
    have m2 : gDr r % n < n := Int.emod_lt_of_pos _ (by omega)
    have e5 := lot_nth (n := n) (w := setA w a (up1 r 295 (gDr r))) hm.A (hh.A ha) h3 hs (mI_A _ _ _) hk ra2 rb2 rw2 4 (gDr r % n) 0 (by omega) (by omega) m1 (by omega) (by rw [c1, hn]; exact m2)
    rw [c1] at e5
    simp (disch := omega) only [p245_0, p245_1, p245_2, p245_3, p245_5, p245_6, p245_9, p245_10, p245_11, p245_12, p245_13, p245_16, p245_19, p245_20, p245_23, p245_24, p245_25, p245_26, p245_29, p245_32, p245_33, p245_36, p245_37, p245_38, p245_39, p245_42, p245_43, p245_44, p245_45, p245_46, p245_49, p245_50, p245_52, p245_55, p245_58, p245_59, p245_62, p245_63, p245_64, p245_65, p245_67, p245_70, p245_73, p245_74, p245_77, p245_78, p245_79, p245_80, p245_83, p245_86, p245_88, jwd_c, jwd_0, Nat.reduceLeDiff, Nat.reduceEqDiff, Nat.reduceAdd, Nat.reduceSub, Nat.reduceMul, Int.reduceAdd, Int.reduceSub, Int.reduceMul, Int.reduceNeg, Int.reduceEq, Int.reduceLT, Int.reduceLE, jq_ldi_i, jq_ldl_l, jq_lda_a, jq_inc_i, jq_gs_t, jq_gsb_t, jq_gb_t, jq_gr_2, jq_gr_4, jq_gw_2, jq_s_t, jq_b_t, jg_c, jg_n, js_c, js_n, jrm_c, jrm_n, j2_i, j2_l, j2_a, jq_c_i, jq_c_l, jq_c_0, jq_c_n, jwd_le, jw_c0, mS_I, mS_R, mS_J, mN_I, mN_R, mN_J, mR_I, mI_R, mJ_I, mJ_R, mI_J, mR_J, ↓reduceIte, decide_true, or_true, true_or, and_self, false_or, or_false, reduceCtorEq, Bool.false_eq_true, and_false, false_and, eq_self, true_and, and_true, zero_ne, ↓br_lt_t, ↓br_lt_f, ↓br_eq_t, ↓br_eq_f, ↓br_lz_t, ↓br_lz_f, ↓br_ez_t, ↓br_ez_f, ↓br_gz_t, ↓br_gz_f, jw_id, jin_t, jix_t, e1, hd, tmod_nn, e5]
/-- a way told -/
noncomputable def gTold (H : Nat → Nat → Int) (L : Int) (S : Nat → Int) (r : Nat → Int) : Int × (Nat → Int) := if r 293 < L then (ci (gCG H r (S (r 293).toNat)) (S (r 293).toNat) (-1), up1 r 293 (r 293 + 1)) else (-1, r)
theorem RA.gone (ra : RA H B r) {x : Int} (h1 : 0 ≤ x) (h2 : x ≤ 12) : RA H B (up1 r 293 x) := by
  unfold RA at ra ⊢
  simp (disch := omega) only [up1_n, up1_s]
  omega
theorem m_told (hm : MO w) (hh : MH w h H) (h3 : mR w 238 3 = some h) (ha : a < 247) (ha2 : 240 < a) (hs : mS w a = (2, 0, 298)) (hr : mI w a = r) (hk : HOK H) (ra : RA H B r) (rb : RB r) (rw0 : RW H r) {L : Int} {S : Nat → Int} (hL : mI w 238 27 = L) (hS : mI w 247 = S) (l1 : 0 ≤ L) (l2 : L ≤ 12) (s1 : ∀ k, k < 12 → 0 ≤ S k ∧ S k ≤ 3) : rn 249 (0, [(0, jvr 238), (1, jvr a)], [], w) = some (some (.inl (gTold H L S r).1), setA w a (gTold H L S r).2) := by
  have e0 : setA w a r = w := by rw [← hr]; exact setA_self w a
  have ra0 := ra
  obtain ⟨-, -, -, -, -, -, g1, g2, -⟩ := ra0
  unfold gTold
  by_cases q : r 293 < L
  · rw [if_pos q]
    have ra2 := ra.gone (x := r 293 + 1) (by omega) (by omega)
    have rb2 : RB (up1 r 293 (r 293 + 1)) := RB_c (fun k k1 k2 => up1_n (by omega)) ra rb
    have rw2 : RW H (up1 r 293 (r 293 + 1)) := RW_c (fun k k1 => up1_n (by omega)) (up1_n (by omega)) ra rw0
    have hs1 := s1 (r 293).toNat (by omega)
    have e1 := m_can (w := setA w a (up1 r 293 (r 293 + 1))) (s := S (r 293).toNat) hm.A (hh.A (by omega)) h3 hs (mI_A _ _ _) hk ra2 rb2 rw2 (by omega) (by omega)
    rw [bi_c (gCG_c (r := r) (fun k k1 => up1_n (by omega)) (fun k k1 k2 => up1_n (by omega)) (up1_n (by omega)) (up1_n (by omega)) ra rb _)] at e1
    by_cases q2 : gCG H r (S (r 293).toNat)
    · rw [bi_t q2] at e1
      rw [ci_t q2]
      simp (disch := omega) only [p249_0, p249_1, p249_4, p249_5, p249_6, p249_9, p249_12, p249_13, p249_14, p249_15, p249_18, p249_19, p249_22, p249_23, p249_24, p249_25, p249_26, p249_29, p249_30, p249_31, p249_32, p249_33, p249_34, p249_35, p249_36, p249_37, p249_40, p249_43, p249_44, p249_47, p249_48, jwd_c, jwd_0, Nat.reduceLeDiff, Nat.reduceEqDiff, Nat.reduceAdd, Nat.reduceSub, Nat.reduceMul, Int.reduceAdd, Int.reduceSub, Int.reduceMul, Int.reduceNeg, Int.reduceEq, Int.reduceLT, Int.reduceLE, jq_ldi_i, jq_ldl_l, jq_lda_a, jq_inc_i, jq_gs_t, jq_gsb_t, jq_gb_t, jq_gr_2, jq_gr_4, jq_gw_2, jq_s_t, jq_b_t, jg_c, jg_n, js_c, js_n, jrm_c, jrm_n, j2_i, j2_l, j2_a, jq_c_i, jq_c_l, jq_c_0, jq_c_n, jwd_le, jw_c0, mS_I, mS_R, mS_J, mN_I, mN_R, mN_J, mR_I, mI_R, mJ_I, mJ_R, mI_J, mR_J, ↓reduceIte, decide_true, or_true, true_or, and_self, false_or, or_false, reduceCtorEq, Bool.false_eq_true, and_false, false_and, eq_self, true_and, and_true, zero_ne, ↓br_lt_t, ↓br_lt_f, ↓br_eq_t, ↓br_eq_f, ↓br_lz_t, ↓br_lz_f, ↓br_ez_t, ↓br_ez_f, ↓br_gz_t, ↓br_gz_f, jw_id, jin_t, jix_t, mI_A, mI_nA, up1_s, up1_n, mS_A, mR_A, mJ_A, mN_A, setI_A, setA_A, setA_sw, Int.reduceToNat, Int.toNat_natCast, MO.s0 hm, MO.s1 hm, MO.s2 hm, MO.s3 hm, MO.s4 hm, MO.s5 hm, MO.s6 hm, MO.s7 hm, MO.s8 hm, MO.s9 hm, MO.s10 hm, MO.s11 hm, MO.s12 hm, MO.s13 hm, MO.r1 hm, MO.r2 hm, MO.r3 hm, MO.r4 hm, MO.r5 hm, MO.r6 hm, MO.r7 hm, MO.r8 hm, MO.r9 hm, MO.r10 hm, MO.r11 hm, MO.r12 hm, MO.r13 hm, hs, hr, hL, hS, e1]
    · rw [bi_f q2] at e1
      rw [ci_f q2]
      simp (disch := omega) only [p249_0, p249_1, p249_4, p249_5, p249_6, p249_9, p249_12, p249_13, p249_14, p249_15, p249_18, p249_19, p249_22, p249_23, p249_24, p249_25, p249_26, p249_29, p249_30, p249_31, p249_32, p249_33, p249_34, p249_35, p249_36, p249_37, p249_40, p249_43, p249_44, p249_47, p249_48, jwd_c, jwd_0, Nat.reduceLeDiff, Nat.reduceEqDiff, Nat.reduceAdd, Nat.reduceSub, Nat.reduceMul, Int.reduceAdd, Int.reduceSub, Int.reduceMul, Int.reduceNeg, Int.reduceEq, Int.reduceLT, Int.reduceLE, jq_ldi_i, jq_ldl_l, jq_lda_a, jq_inc_i, jq_gs_t, jq_gsb_t, jq_gb_t, jq_gr_2, jq_gr_4, jq_gw_2, jq_s_t, jq_b_t, jg_c, jg_n, js_c, js_n, jrm_c, jrm_n, j2_i, j2_l, j2_a, jq_c_i, jq_c_l, jq_c_0, jq_c_n, jwd_le, jw_c0, mS_I, mS_R, mS_J, mN_I, mN_R, mN_J, mR_I, mI_R, mJ_I, mJ_R, mI_J, mR_J, ↓reduceIte, decide_true, or_true, true_or, and_self, false_or, or_false, reduceCtorEq, Bool.false_eq_true, and_false, false_and, eq_self, true_and, and_true, zero_ne, ↓br_lt_t, ↓br_lt_f, ↓br_eq_t, ↓br_eq_f, ↓br_lz_t, ↓br_lz_f, ↓br_ez_t, ↓br_ez_f, ↓br_gz_t, ↓br_gz_f, jw_id, jin_t, jix_t, mI_A, mI_nA, up1_s, up1_n, mS_A, mR_A, mJ_A, mN_A, setI_A, setA_A, setA_sw, Int.reduceToNat, Int.toNat_natCast, MO.s0 hm, MO.s1 hm, MO.s2 hm, MO.s3 hm, MO.s4 hm, MO.s5 hm, MO.s6 hm, MO.s7 hm, MO.s8 hm, MO.s9 hm, MO.s10 hm, MO.s11 hm, MO.s12 hm, MO.s13 hm, MO.r1 hm, MO.r2 hm, MO.r3 hm, MO.r4 hm, MO.r5 hm, MO.r6 hm, MO.r7 hm, MO.r8 hm, MO.r9 hm, MO.r10 hm, MO.r11 hm, MO.r12 hm, MO.r13 hm, hs, hr, hL, hS, e1]
  · rw [if_neg q, e0]
    simp (disch := omega) only [p249_0, p249_1, p249_4, p249_5, p249_6, p249_9, p249_12, p249_13, p249_14, p249_15, p249_18, p249_19, p249_22, p249_23, p249_24, p249_25, p249_26, p249_29, p249_30, p249_31, p249_32, p249_33, p249_34, p249_35, p249_36, p249_37, p249_40, p249_43, p249_44, p249_47, p249_48, jwd_c, jwd_0, Nat.reduceLeDiff, Nat.reduceEqDiff, Nat.reduceAdd, Nat.reduceSub, Nat.reduceMul, Int.reduceAdd, Int.reduceSub, Int.reduceMul, Int.reduceNeg, Int.reduceEq, Int.reduceLT, Int.reduceLE, jq_ldi_i, jq_ldl_l, jq_lda_a, jq_inc_i, jq_gs_t, jq_gsb_t, jq_gb_t, jq_gr_2, jq_gr_4, jq_gw_2, jq_s_t, jq_b_t, jg_c, jg_n, js_c, js_n, jrm_c, jrm_n, j2_i, j2_l, j2_a, jq_c_i, jq_c_l, jq_c_0, jq_c_n, jwd_le, jw_c0, mS_I, mS_R, mS_J, mN_I, mN_R, mN_J, mR_I, mI_R, mJ_I, mJ_R, mI_J, mR_J, ↓reduceIte, decide_true, or_true, true_or, and_self, false_or, or_false, reduceCtorEq, Bool.false_eq_true, and_false, false_and, eq_self, true_and, and_true, zero_ne, ↓br_lt_t, ↓br_lt_f, ↓br_eq_t, ↓br_eq_f, ↓br_lz_t, ↓br_lz_f, ↓br_ez_t, ↓br_ez_f, ↓br_gz_t, ↓br_gz_f, jw_id, jin_t, jix_t, mI_A, mI_nA, up1_s, up1_n, mS_A, mR_A, mJ_A, mN_A, setI_A, setA_A, setA_sw, Int.reduceToNat, Int.toNat_natCast, MO.s0 hm, MO.s1 hm, MO.s2 hm, MO.s3 hm, MO.s4 hm, MO.s5 hm, MO.s6 hm, MO.s7 hm, MO.s8 hm, MO.s9 hm, MO.s10 hm, MO.s11 hm, MO.s12 hm, MO.s13 hm, MO.r1 hm, MO.r2 hm, MO.r3 hm, MO.r4 hm, MO.r5 hm, MO.r6 hm, MO.r7 hm, MO.r8 hm, MO.r9 hm, MO.r10 hm, MO.r11 hm, MO.r12 hm, MO.r13 hm, hs, hr, hL, hS]
end LOT
