/-! The model: turns, and how the others follow. -/
def gTurn (r : Nat → Int) (k : Int) : Prop := 0 < k ∧ k + 1 < r 288 ∧ r k.toNat - r (k - 1).toNat ≠ r (k + 1).toNat - r k.toNat
noncomputable def gTk (r : Nat → Int) (kind k : Int) : Int := ci (gTurn r k ∧ kind ≠ 2) (if kind = 3 then 3 else 2) 1
noncomputable def gFol (tk : Int → Int) (to : Int) : Nat → Int → Int → Int
  | 0, p, _ => p
  | n + 1, p, l => if p < to then (if l < tk p then p else gFol tk to n (p + 1) (l - tk p)) else p
noncomputable def gFp (r : Nat → Int) (i : Int) : Int := gFol (gTk r (r (236 + i).toNat)) (r (220 + i - 1).toNat - 1) 204 (r (220 + i).toNat) (r (252 + i).toNat)
theorem up1_self {α : Type} (f : Nat → α) (a : Nat) : up1 f a (f a) = f := by
  funext b
  unfold up1
  by_cases h : b = a
  · rw [if_pos h, h]
  · rw [if_neg h]
theorem up1_up1 {α : Type} (f : Nat → α) (a : Nat) (x y : α) : up1 (up1 f a x) a y = up1 f a y := by
  funext b
  unfold up1
  by_cases h : b = a
  · rw [if_pos h, if_pos h]
  · rw [if_neg h, if_neg h, if_neg h]
theorem gTo_df {H : Nat → Nat → Int} {c s : Int} (s1 : 0 ≤ s) (s2 : s < 4) (h : gTo H c s ≠ -1) : gTo H c s - c = if s = 0 then - H 0 0 else if s = 1 then 1 else if s = 2 then H 0 0 else -1 := by
  unfold gTo at h ⊢
  have hs : s = 0 ∨ s = 1 ∨ s = 2 ∨ s = 3 := by omega
  rcases hs with rfl | rfl | rfl | rfl
  · simp only [Int.reduceMod, Int.reduceEq, ↓reduceIte] at h ⊢
    split at h
    · exact absurd rfl h
    · rename_i z
      rw [if_neg z]
      omega
  · simp only [Int.reduceMod, Int.reduceEq, ↓reduceIte] at h ⊢
    split at h
    · rename_i z
      rw [if_pos z]
      omega
    · exact absurd rfl h
  · simp only [Int.reduceMod, Int.reduceEq, ↓reduceIte] at h ⊢
    split at h
    · rename_i z
      rw [if_pos z]
      omega
    · exact absurd rfl h
  · simp only [Int.reduceMod, Int.reduceEq, ↓reduceIte] at h ⊢
    split at h
    · rename_i z
      rw [if_pos z]
      omega
    · exact absurd rfl h
section FOLLOW
variable {w : jmW} {a h : Nat} {H : Nat → Nat → Int} {r : Nat → Int} {B : Int}
theorem RA_c {q : Nat → Int} (h : ∀ k, 284 ≤ k → q k = r k) (ra : RA H B r) : RA H B q := by
  unfold RA at ra ⊢
  rw [h 289 (by omega), h 288 (by omega), h 290 (by omega), h 284 (by omega), h 285 (by omega), h 286 (by omega), h 287 (by omega), h 291 (by omega), h 292 (by omega), h 293 (by omega), h 294 (by omega), h 295 (by omega), h 296 (by omega), h 297 (by omega)]
  exact ra
theorem side_loop (hm : MO w) (hh : MH w h H) (h3 : mR w 238 3 = some h) (hs : mS w a = (2, 0, 298)) (hr : mI w a = r) (hk : HOK H) (ra : RA H B r) (rw0 : RW H r) {k s0 : Int} (k1 : 0 ≤ k) (k2 : k + 1 < r 288) (s1 : s0 < 4) (s2 : gTo H (r (0 + k).toNat) s0 = r (0 + k + 1).toNat) : ∀ (n : Nat) (s : Int), 0 ≤ s → s + n = s0 → ∃ t, rn 228 (2, [(0, jvr 238), (1, jvr a), (2, .inl k), (3, .inl s)], [], w) = some (some (.inl t), w) ∧ 0 ≤ t ∧ t < 4 ∧ gTo H (r (0 + k).toNat) t = r (0 + k + 1).toNat := by
  have h16 := ra.1
  have kc := hk.1.2.2.2.2.2.2
  have c1 := rw0.1 k k1 (by omega)
  have c2 := rw0.1 (k + 1) (by omega) k2
  rw [show (0 + (k + 1)).toNat = (0 + k + 1).toNat by omega] at c2
  intro n
  induction n with
  | zero =>
    intro s t1 t2
    have : s = s0 := by omega
    subst this
    have e1 := mh_to hh hk (c := r (0 + k).toNat) (s := s) c1.1 c1.2.1 t1 (by omega)
    refine ⟨s, ?_, t1, s1, s2⟩
    rw [p228_2]
    simp (disch := omega) only [p228_0, p228_1, p228_3, p228_6, p228_7, p228_8, p228_9, p228_10, p228_11, p228_12, p228_15, p228_16, p228_17, p228_18, p228_19, p228_20, p228_21, p228_22, p228_25, p228_28, p228_31, p228_32, jwd_c, jwd_0, Nat.reduceLeDiff, Nat.reduceEqDiff, Nat.reduceAdd, Nat.reduceSub, Nat.reduceMul, Int.reduceAdd, Int.reduceSub, Int.reduceMul, Int.reduceNeg, Int.reduceEq, Int.reduceLT, Int.reduceLE, jq_ldi_i, jq_ldl_l, jq_lda_a, jq_inc_i, jq_gs_t, jq_gsb_t, jq_gb_t, jq_gr_2, jq_gr_4, jq_gw_2, jq_s_t, jq_b_t, jg_c, jg_n, js_c, js_n, jrm_c, jrm_n, j2_i, j2_l, j2_a, jq_c_i, jq_c_l, jq_c_0, jq_c_n, jwd_le, jw_c0, mS_I, mS_R, mS_J, mN_I, mN_R, mN_J, mR_I, mI_R, mJ_I, mJ_R, mI_J, mR_J, ↓reduceIte, decide_true, or_true, true_or, and_self, false_or, or_false, reduceCtorEq, Bool.false_eq_true, and_false, false_and, eq_self, true_and, and_true, zero_ne, ↓br_lt_t, ↓br_lt_f, ↓br_eq_t, ↓br_eq_f, ↓br_lz_t, ↓br_lz_f, ↓br_ez_t, ↓br_ez_f, ↓br_gz_t, ↓br_gz_f, jw_id, jin_t, jix_t, MO.s0 hm, MO.s1 hm, MO.s2 hm, MO.s3 hm, MO.s4 hm, MO.s5 hm, MO.s6 hm, MO.s7 hm, MO.s8 hm, MO.s9 hm, MO.s10 hm, MO.s11 hm, MO.s12 hm, MO.s13 hm, MO.r1 hm, MO.r2 hm, MO.r3 hm, MO.r4 hm, MO.r5 hm, MO.r6 hm, MO.r7 hm, MO.r8 hm, MO.r9 hm, MO.r10 hm, MO.r11 hm, MO.r12 hm, MO.r13 hm, MH.s hh, h3, hs, hr, e1, s2]
  | succ n ih =>
    intro s t1 t2
    have e1 := mh_to hh hk (c := r (0 + k).toNat) (s := s) c1.1 c1.2.1 t1 (by omega)
    have e2 := gTo_bd hk (c := r (0 + k).toNat) (s := s) c1.1 c1.2.1
    by_cases q : gTo H (r (0 + k).toNat) s = r (0 + k + 1).toNat
    · refine ⟨s, ?_, t1, by omega, q⟩
      rw [p228_2]
      simp (disch := omega) only [p228_0, p228_1, p228_3, p228_6, p228_7, p228_8, p228_9, p228_10, p228_11, p228_12, p228_15, p228_16, p228_17, p228_18, p228_19, p228_20, p228_21, p228_22, p228_25, p228_28, p228_31, p228_32, jwd_c, jwd_0, Nat.reduceLeDiff, Nat.reduceEqDiff, Nat.reduceAdd, Nat.reduceSub, Nat.reduceMul, Int.reduceAdd, Int.reduceSub, Int.reduceMul, Int.reduceNeg, Int.reduceEq, Int.reduceLT, Int.reduceLE, jq_ldi_i, jq_ldl_l, jq_lda_a, jq_inc_i, jq_gs_t, jq_gsb_t, jq_gb_t, jq_gr_2, jq_gr_4, jq_gw_2, jq_s_t, jq_b_t, jg_c, jg_n, js_c, js_n, jrm_c, jrm_n, j2_i, j2_l, j2_a, jq_c_i, jq_c_l, jq_c_0, jq_c_n, jwd_le, jw_c0, mS_I, mS_R, mS_J, mN_I, mN_R, mN_J, mR_I, mI_R, mJ_I, mJ_R, mI_J, mR_J, ↓reduceIte, decide_true, or_true, true_or, and_self, false_or, or_false, reduceCtorEq, Bool.false_eq_true, and_false, false_and, eq_self, true_and, and_true, zero_ne, ↓br_lt_t, ↓br_lt_f, ↓br_eq_t, ↓br_eq_f, ↓br_lz_t, ↓br_lz_f, ↓br_ez_t, ↓br_ez_f, ↓br_gz_t, ↓br_gz_f, jw_id, jin_t, jix_t, MO.s0 hm, MO.s1 hm, MO.s2 hm, MO.s3 hm, MO.s4 hm, MO.s5 hm, MO.s6 hm, MO.s7 hm, MO.s8 hm, MO.s9 hm, MO.s10 hm, MO.s11 hm, MO.s12 hm, MO.s13 hm, MO.r1 hm, MO.r2 hm, MO.r3 hm, MO.r4 hm, MO.r5 hm, MO.r6 hm, MO.r7 hm, MO.r8 hm, MO.r9 hm, MO.r10 hm, MO.r11 hm, MO.r12 hm, MO.r13 hm, MH.s hh, h3, hs, hr, e1, q]
    · obtain ⟨t, e3, e4⟩ := ih (s + 1) (by omega) (by omega)
      refine ⟨t, ?_, e4⟩
      rw [p228_2]
      simp (disch := omega) only [p228_0, p228_1, p228_3, p228_6, p228_7, p228_8, p228_9, p228_10, p228_11, p228_12, p228_15, p228_16, p228_17, p228_18, p228_19, p228_20, p228_21, p228_22, p228_25, p228_28, p228_31, p228_32, jwd_c, jwd_0, Nat.reduceLeDiff, Nat.reduceEqDiff, Nat.reduceAdd, Nat.reduceSub, Nat.reduceMul, Int.reduceAdd, Int.reduceSub, Int.reduceMul, Int.reduceNeg, Int.reduceEq, Int.reduceLT, Int.reduceLE, jq_ldi_i, jq_ldl_l, jq_lda_a, jq_inc_i, jq_gs_t, jq_gsb_t, jq_gb_t, jq_gr_2, jq_gr_4, jq_gw_2, jq_s_t, jq_b_t, jg_c, jg_n, js_c, js_n, jrm_c, jrm_n, j2_i, j2_l, j2_a, jq_c_i, jq_c_l, jq_c_0, jq_c_n, jwd_le, jw_c0, mS_I, mS_R, mS_J, mN_I, mN_R, mN_J, mR_I, mI_R, mJ_I, mJ_R, mI_J, mR_J, ↓reduceIte, decide_true, or_true, true_or, and_self, false_or, or_false, reduceCtorEq, Bool.false_eq_true, and_false, false_and, eq_self, true_and, and_true, zero_ne, ↓br_lt_t, ↓br_lt_f, ↓br_eq_t, ↓br_eq_f, ↓br_lz_t, ↓br_lz_f, ↓br_ez_t, ↓br_ez_f, ↓br_gz_t, ↓br_gz_f, jw_id, jin_t, jix_t, MO.s0 hm, MO.s1 hm, MO.s2 hm, MO.s3 hm, MO.s4 hm, MO.s5 hm, MO.s6 hm, MO.s7 hm, MO.s8 hm, MO.s9 hm, MO.s10 hm, MO.s11 hm, MO.s12 hm, MO.s13 hm, MO.r1 hm, MO.r2 hm, MO.r3 hm, MO.r4 hm, MO.r5 hm, MO.r6 hm, MO.r7 hm, MO.r8 hm, MO.r9 hm, MO.r10 hm, MO.r11 hm, MO.r12 hm, MO.r13 hm, MH.s hh, h3, hs, hr, e1, e3]
theorem m_side (hm : MO w) (hh : MH w h H) (h3 : mR w 238 3 = some h) (hs : mS w a = (2, 0, 298)) (hr : mI w a = r) (hk : HOK H) (ra : RA H B r) (rw0 : RW H r) {k : Int} (k1 : 0 ≤ k) (k2 : k + 1 < r 288) : ∃ t, rn 228 (0, [(0, jvr 238), (1, jvr a), (2, .inl k)], [], w) = some (some (.inl t), w) ∧ 0 ≤ t ∧ t < 4 ∧ gTo H (r (0 + k).toNat) t = r (0 + k + 1).toNat := by
  obtain ⟨s0, s1, s2, s3⟩ := rw0.2 k k1 k2
  obtain ⟨t, e1, e2⟩ := side_loop hm hh h3 hs hr hk ra rw0 k1 k2 s2 s3 s0.toNat 0 (by omega) (by omega)
  refine ⟨t, ?_, e2⟩
  simp (disch := omega) only [p228_0, p228_1, p228_3, p228_6, p228_7, p228_8, p228_9, p228_10, p228_11, p228_12, p228_15, p228_16, p228_17, p228_18, p228_19, p228_20, p228_21, p228_22, p228_25, p228_28, p228_31, p228_32, jwd_c, jwd_0, Nat.reduceLeDiff, Nat.reduceEqDiff, Nat.reduceAdd, Nat.reduceSub, Nat.reduceMul, Int.reduceAdd, Int.reduceSub, Int.reduceMul, Int.reduceNeg, Int.reduceEq, Int.reduceLT, Int.reduceLE, jq_ldi_i, jq_ldl_l, jq_lda_a, jq_inc_i, jq_gs_t, jq_gsb_t, jq_gb_t, jq_gr_2, jq_gr_4, jq_gw_2, jq_s_t, jq_b_t, jg_c, jg_n, js_c, js_n, jrm_c, jrm_n, j2_i, j2_l, j2_a, jq_c_i, jq_c_l, jq_c_0, jq_c_n, jwd_le, jw_c0, mS_I, mS_R, mS_J, mN_I, mN_R, mN_J, mR_I, mI_R, mJ_I, mJ_R, mI_J, mR_J, ↓reduceIte, decide_true, or_true, true_or, and_self, false_or, or_false, reduceCtorEq, Bool.false_eq_true, and_false, false_and, eq_self, true_and, and_true, zero_ne, e1]
theorem m_turn (hm : MO w) (hh : MH w h H) (h3 : mR w 238 3 = some h) (hs : mS w a = (2, 0, 298)) (hr : mI w a = r) (hk : HOK H) (ra : RA H B r) (rw0 : RW H r) {k : Int} (k1 : -1 ≤ k) (k2 : k < 300) : rn 227 (0, [(0, jvr 238), (1, jvr a), (2, .inl k)], [], w) = some (some (.inl (bi (gTurn r k))), w) := by
  have h16 := ra.1
  have kw := hk.1.2.1
  by_cases q1 : 0 < k
  · by_cases q2 : k + 1 < r 288
    · obtain ⟨t1, e1, a1, a2, a3⟩ := m_side hm hh h3 hs hr hk ra rw0 (k := k - 1) (by omega) (by omega)
      obtain ⟨t2, e2, b1, b2, b3⟩ := m_side hm hh h3 hs hr hk ra rw0 (k := k) (by omega) (by omega)
      have c1 := rw0.1 k (by omega) (by omega)
      have c2 := rw0.1 (k + 1) (by omega) (by omega)
      rw [show (0 + (k - 1)).toNat = (k - 1).toNat by omega, show (0 + (k - 1) + 1).toNat = k.toNat by omega] at a3
      rw [show (0 + k).toNat = k.toNat by omega, show (0 + k + 1).toNat = (k + 1).toNat by omega] at b3
      rw [show (0 + k).toNat = k.toNat by omega] at c1
      rw [show (0 + (k + 1)).toNat = (k + 1).toNat by omega] at c2
      have d1 := gTo_df (H := H) (c := r (k - 1).toNat) a1 a2 (by rw [a3]; omega)
      have d2 := gTo_df (H := H) (c := r k.toNat) b1 b2 (by rw [b3]; omega)
      rw [a3] at d1
      rw [b3] at d2
      by_cases q3 : t1 = t2
      · subst q3
        rw [bi_f (fun z => z.2.2 (by rw [d1, d2]))]
        simp (disch := omega) only [p227_0, p227_1, p227_4, p227_5, p227_6, p227_7, p227_8, p227_11, p227_12, p227_15, p227_16, p227_17, p227_18, p227_19, p227_20, p227_23, p227_24, p227_25, p227_26, p227_29, p227_32, p227_33, p227_36, p227_37, jwd_c, jwd_0, Nat.reduceLeDiff, Nat.reduceEqDiff, Nat.reduceAdd, Nat.reduceSub, Nat.reduceMul, Int.reduceAdd, Int.reduceSub, Int.reduceMul, Int.reduceNeg, Int.reduceEq, Int.reduceLT, Int.reduceLE, jq_ldi_i, jq_ldl_l, jq_lda_a, jq_inc_i, jq_gs_t, jq_gsb_t, jq_gb_t, jq_gr_2, jq_gr_4, jq_gw_2, jq_s_t, jq_b_t, jg_c, jg_n, js_c, js_n, jrm_c, jrm_n, j2_i, j2_l, j2_a, jq_c_i, jq_c_l, jq_c_0, jq_c_n, jwd_le, jw_c0, mS_I, mS_R, mS_J, mN_I, mN_R, mN_J, mR_I, mI_R, mJ_I, mJ_R, mI_J, mR_J, ↓reduceIte, decide_true, or_true, true_or, and_self, false_or, or_false, reduceCtorEq, Bool.false_eq_true, and_false, false_and, eq_self, true_and, and_true, zero_ne, ↓br_lt_t, ↓br_lt_f, ↓br_eq_t, ↓br_eq_f, ↓br_lz_t, ↓br_lz_f, ↓br_ez_t, ↓br_ez_f, ↓br_gz_t, ↓br_gz_f, jw_id, jin_t, jix_t, MO.s0 hm, MO.s1 hm, MO.s2 hm, MO.s3 hm, MO.s4 hm, MO.s5 hm, MO.s6 hm, MO.s7 hm, MO.s8 hm, MO.s9 hm, MO.s10 hm, MO.s11 hm, MO.s12 hm, MO.s13 hm, MO.r1 hm, MO.r2 hm, MO.r3 hm, MO.r4 hm, MO.r5 hm, MO.r6 hm, MO.r7 hm, MO.r8 hm, MO.r9 hm, MO.r10 hm, MO.r11 hm, MO.r12 hm, MO.r13 hm, hs, hr, e1, e2, Int.reduceToNat]
      · rw [bi_t ⟨q1, q2, by
          rw [d1, d2]
          intro z
          apply q3
          split at z <;> split at z <;> omega⟩]
        simp (disch := omega) only [p227_0, p227_1, p227_4, p227_5, p227_6, p227_7, p227_8, p227_11, p227_12, p227_15, p227_16, p227_17, p227_18, p227_19, p227_20, p227_23, p227_24, p227_25, p227_26, p227_29, p227_32, p227_33, p227_36, p227_37, jwd_c, jwd_0, Nat.reduceLeDiff, Nat.reduceEqDiff, Nat.reduceAdd, Nat.reduceSub, Nat.reduceMul, Int.reduceAdd, Int.reduceSub, Int.reduceMul, Int.reduceNeg, Int.reduceEq, Int.reduceLT, Int.reduceLE, jq_ldi_i, jq_ldl_l, jq_lda_a, jq_inc_i, jq_gs_t, jq_gsb_t, jq_gb_t, jq_gr_2, jq_gr_4, jq_gw_2, jq_s_t, jq_b_t, jg_c, jg_n, js_c, js_n, jrm_c, jrm_n, j2_i, j2_l, j2_a, jq_c_i, jq_c_l, jq_c_0, jq_c_n, jwd_le, jw_c0, mS_I, mS_R, mS_J, mN_I, mN_R, mN_J, mR_I, mI_R, mJ_I, mJ_R, mI_J, mR_J, ↓reduceIte, decide_true, or_true, true_or, and_self, false_or, or_false, reduceCtorEq, Bool.false_eq_true, and_false, false_and, eq_self, true_and, and_true, zero_ne, ↓br_lt_t, ↓br_lt_f, ↓br_eq_t, ↓br_eq_f, ↓br_lz_t, ↓br_lz_f, ↓br_ez_t, ↓br_ez_f, ↓br_gz_t, ↓br_gz_f, jw_id, jin_t, jix_t, MO.s0 hm, MO.s1 hm, MO.s2 hm, MO.s3 hm, MO.s4 hm, MO.s5 hm, MO.s6 hm, MO.s7 hm, MO.s8 hm, MO.s9 hm, MO.s10 hm, MO.s11 hm, MO.s12 hm, MO.s13 hm, MO.r1 hm, MO.r2 hm, MO.r3 hm, MO.r4 hm, MO.r5 hm, MO.r6 hm, MO.r7 hm, MO.r8 hm, MO.r9 hm, MO.r10 hm, MO.r11 hm, MO.r12 hm, MO.r13 hm, hs, hr, e1, e2, Int.reduceToNat]
    · rw [bi_f (fun z => q2 z.2.1)]
      simp (disch := omega) only [p227_0, p227_1, p227_4, p227_5, p227_6, p227_7, p227_8, p227_11, p227_12, p227_15, p227_16, p227_17, p227_18, p227_19, p227_20, p227_23, p227_24, p227_25, p227_26, p227_29, p227_32, p227_33, p227_36, p227_37, jwd_c, jwd_0, Nat.reduceLeDiff, Nat.reduceEqDiff, Nat.reduceAdd, Nat.reduceSub, Nat.reduceMul, Int.reduceAdd, Int.reduceSub, Int.reduceMul, Int.reduceNeg, Int.reduceEq, Int.reduceLT, Int.reduceLE, jq_ldi_i, jq_ldl_l, jq_lda_a, jq_inc_i, jq_gs_t, jq_gsb_t, jq_gb_t, jq_gr_2, jq_gr_4, jq_gw_2, jq_s_t, jq_b_t, jg_c, jg_n, js_c, js_n, jrm_c, jrm_n, j2_i, j2_l, j2_a, jq_c_i, jq_c_l, jq_c_0, jq_c_n, jwd_le, jw_c0, mS_I, mS_R, mS_J, mN_I, mN_R, mN_J, mR_I, mI_R, mJ_I, mJ_R, mI_J, mR_J, ↓reduceIte, decide_true, or_true, true_or, and_self, false_or, or_false, reduceCtorEq, Bool.false_eq_true, and_false, false_and, eq_self, true_and, and_true, zero_ne, ↓br_lt_t, ↓br_lt_f, ↓br_eq_t, ↓br_eq_f, ↓br_lz_t, ↓br_lz_f, ↓br_ez_t, ↓br_ez_f, ↓br_gz_t, ↓br_gz_f, jw_id, jin_t, jix_t, MO.s0 hm, MO.s1 hm, MO.s2 hm, MO.s3 hm, MO.s4 hm, MO.s5 hm, MO.s6 hm, MO.s7 hm, MO.s8 hm, MO.s9 hm, MO.s10 hm, MO.s11 hm, MO.s12 hm, MO.s13 hm, MO.r1 hm, MO.r2 hm, MO.r3 hm, MO.r4 hm, MO.r5 hm, MO.r6 hm, MO.r7 hm, MO.r8 hm, MO.r9 hm, MO.r10 hm, MO.r11 hm, MO.r12 hm, MO.r13 hm, hs, hr, Int.reduceToNat]
  · rw [bi_f (fun z => q1 z.1)]
    simp (disch := omega) only [p227_0, p227_1, p227_4, p227_5, p227_6, p227_7, p227_8, p227_11, p227_12, p227_15, p227_16, p227_17, p227_18, p227_19, p227_20, p227_23, p227_24, p227_25, p227_26, p227_29, p227_32, p227_33, p227_36, p227_37, jwd_c, jwd_0, Nat.reduceLeDiff, Nat.reduceEqDiff, Nat.reduceAdd, Nat.reduceSub, Nat.reduceMul, Int.reduceAdd, Int.reduceSub, Int.reduceMul, Int.reduceNeg, Int.reduceEq, Int.reduceLT, Int.reduceLE, jq_ldi_i, jq_ldl_l, jq_lda_a, jq_inc_i, jq_gs_t, jq_gsb_t, jq_gb_t, jq_gr_2, jq_gr_4, jq_gw_2, jq_s_t, jq_b_t, jg_c, jg_n, js_c, js_n, jrm_c, jrm_n, j2_i, j2_l, j2_a, jq_c_i, jq_c_l, jq_c_0, jq_c_n, jwd_le, jw_c0, mS_I, mS_R, mS_J, mN_I, mN_R, mN_J, mR_I, mI_R, mJ_I, mJ_R, mI_J, mR_J, ↓reduceIte, decide_true, or_true, true_or, and_self, false_or, or_false, reduceCtorEq, Bool.false_eq_true, and_false, false_and, eq_self, true_and, and_true, zero_ne, ↓br_lt_t, ↓br_lt_f, ↓br_eq_t, ↓br_eq_f, ↓br_lz_t, ↓br_lz_f, ↓br_ez_t, ↓br_ez_f, ↓br_gz_t, ↓br_gz_f, jw_id, jin_t, jix_t, MO.s0 hm, MO.s1 hm, MO.s2 hm, MO.s3 hm, MO.s4 hm, MO.s5 hm, MO.s6 hm, MO.s7 hm, MO.s8 hm, MO.s9 hm, MO.s10 hm, MO.s11 hm, MO.s12 hm, MO.s13 hm, MO.r1 hm, MO.r2 hm, MO.r3 hm, MO.r4 hm, MO.r5 hm, MO.r6 hm, MO.r7 hm, MO.r8 hm, MO.r9 hm, MO.r10 hm, MO.r11 hm, MO.r12 hm, MO.r13 hm, hs, hr, Int.reduceToNat]
theorem gTurn_c {q : Nat → Int} {k : Int} (h : ∀ j, j < 204 → q j = r j) (h2 : q 288 = r 288) (h3 : r 288 ≤ 204) : gTurn q k ↔ gTurn r k := by
  unfold gTurn
  rw [h2]
  constructor
  · rintro ⟨z1, z2, z3⟩
    rw [h _ (by omega), h _ (by omega), h _ (by omega)] at z3
    exact ⟨z1, z2, z3⟩
  · rintro ⟨z1, z2, z3⟩
    refine ⟨z1, z2, ?_⟩
    rw [h _ (by omega), h _ (by omega), h _ (by omega)]
    exact z3
theorem gTk_bd (kind k : Int) : 1 ≤ gTk r kind k ∧ gTk r kind k ≤ 3 := by
  unfold gTk
  by_cases q : gTurn r k ∧ kind ≠ 2
  · rw [ci_t q]
    split <;> omega
  · rw [ci_f q]
    omega
theorem gFol_bd (tk : Int → Int) (to : Int) : ∀ (n : Nat) (p l : Int), p ≤ gFol tk to n p l ∧ (gFol tk to n p l ≤ p ∨ gFol tk to n p l ≤ to) := by
  intro n
  induction n with
  | zero => intro p l; exact ⟨Int.le_refl _, Or.inl (Int.le_refl _)⟩
  | succ n ih =>
    intro p l
    have e : gFol tk to (n + 1) p l = if p < to then (if l < tk p then p else gFol tk to n (p + 1) (l - tk p)) else p := rfl
    have := ih (p + 1) (l - tk p)
    rw [e]
    split
    · split <;> omega
    · omega
theorem fol_loop (hm : MO w) (hh : MH w h H) (h3 : mR w 238 3 = some h) (ha : a = 241 ∨ a = 242) (hs : mS w a = (2, 0, 298)) (hk : HOK H) (ra : RA H B r) (rb : RB r) (rw0 : RW H r) {i : Int} (i1 : 1 ≤ i) (i2 : i < r 289) (g : Nat → Int) : ∀ (n : Nat) (p l : Int) (u : jmL), (u = [] ∨ ∃ y, u = [(4, .inl y)]) → 0 ≤ p → p < 204 → r (220 + i - 1).toNat - 1 ≤ p + n → 0 ≤ l → l < 100 → rn 250 (8, (0, jvr 238) :: (1, jvr a) :: (2, .inl i) :: (3, .inl l) :: u, [], setA (setA w a (up1 r (220 + i).toNat p)) 248 (up1 g (r (204 + i).toNat).toNat (g (r (204 + i).toNat).toNat + (p - r (220 + i).toNat)))) = some (none, setA (setA w a (up1 r (220 + i).toNat (gFol (gTk r (r (236 + i).toNat)) (r (220 + i - 1).toNat - 1) n p l))) 248 (up1 g (r (204 + i).toNat).toNat (g (r (204 + i).toNat).toNat + (gFol (gTk r (r (236 + i).toNat)) (r (220 + i - 1).toNat - 1) n p l - r (220 + i).toNat)))) := by
  have h16 := ra.1
  have h290 := ra.2.1
  have b1 := rb i (by omega) i2
  have b2 := rb (i - 1) (by omega) (by omega)
  rw [show (220 + (i - 1)).toNat = (220 + i - 1).toNat by omega] at b2
  have hge := hh.ge
  intro n
  induction n with
  | zero =>
    intro p l u hu p1 p2 hn l1 l2
    have e : gFol (gTk r (r (236 + i).toNat)) (r (220 + i - 1).toNat - 1) 0 p l = p := rfl
    rw [e, p250_8]
    simp (disch := omega) only [p250_0, p250_1, p250_4, p250_5, p250_6, p250_7, p250_9, p250_12, p250_13, p250_14, p250_15, p250_16, p250_19, p250_20, p250_21, p250_22, p250_23, p250_24, p250_25, p250_26, p250_29, p250_30, p250_31, p250_32, p250_35, p250_36, p250_37, p250_38, p250_41, p250_44, p250_45, p250_48, p250_49, p250_50, p250_51, p250_52, p250_55, p250_56, p250_59, p250_60, p250_63, p250_64, p250_65, p250_66, p250_67, p250_70, p250_71, p250_74, p250_75, p250_77, p250_79, p250_80, p250_83, p250_84, p250_85, p250_87, p250_88, p250_89, p250_90, p250_93, p250_94, p250_95, p250_96, p250_97, p250_98, p250_99, p250_100, p250_101, p250_104, p250_105, p250_108, p250_109, p250_110, p250_111, p250_112, p250_113, p250_114, p250_115, p250_116, p250_119, jwd_c, jwd_0, Nat.reduceLeDiff, Nat.reduceEqDiff, Nat.reduceAdd, Nat.reduceSub, Nat.reduceMul, Int.reduceAdd, Int.reduceSub, Int.reduceMul, Int.reduceNeg, Int.reduceEq, Int.reduceLT, Int.reduceLE, jq_ldi_i, jq_ldl_l, jq_lda_a, jq_inc_i, jq_gs_t, jq_gsb_t, jq_gb_t, jq_gr_2, jq_gr_4, jq_gw_2, jq_s_t, jq_b_t, jg_c, jg_n, js_c, js_n, jrm_c, jrm_n, j2_i, j2_l, j2_a, jq_c_i, jq_c_l, jq_c_0, jq_c_n, jwd_le, jw_c0, mS_I, mS_R, mS_J, mN_I, mN_R, mN_J, mR_I, mI_R, mJ_I, mJ_R, mI_J, mR_J, ↓reduceIte, decide_true, or_true, true_or, and_self, false_or, or_false, reduceCtorEq, Bool.false_eq_true, and_false, false_and, eq_self, true_and, and_true, zero_ne, ↓br_lt_t, ↓br_lt_f, ↓br_eq_t, ↓br_eq_f, ↓br_lz_t, ↓br_lz_f, ↓br_ez_t, ↓br_ez_f, ↓br_gz_t, ↓br_gz_f, jw_id, jin_t, jix_t, mI_A, mI_nA, up1_s, up1_n, mS_A, mR_A, mJ_A, mN_A, setI_A, setA_A, sw_238, sw_239, sw_240, sw_241, sw_242, sw_243, sw_244, sw_245, sw_246, sw_247, sw_248, sw_249, sw_250, sw_251, Int.reduceToNat, Int.toNat_natCast, up1_n, hs]
  | succ n ih =>
    intro p l u hu p1 p2 hn l1 l2
    have e : gFol (gTk r (r (236 + i).toNat)) (r (220 + i - 1).toNat - 1) (n + 1) p l = if p < r (220 + i - 1).toNat - 1 then (if l < gTk r (r (236 + i).toNat) p then p else gFol (gTk r (r (236 + i).toNat)) (r (220 + i - 1).toNat - 1) n (p + 1) (l - gTk r (r (236 + i).toNat) p)) else p := rfl
    rw [e, p250_8]
    by_cases q1 : p < r (220 + i - 1).toNat - 1
    · rw [if_pos q1]
      have e2 : MH (setA (setA w a (up1 r (220 + i).toNat p)) 248 (up1 g (r (204 + i).toNat).toNat (g (r (204 + i).toNat).toNat + (p - r (220 + i).toNat)))) h H := (hh.A (by omega)).A (by omega)
      have e3 := m_turn (w := setA (setA w a (up1 r (220 + i).toNat p)) 248 (up1 g (r (204 + i).toNat).toNat (g (r (204 + i).toNat).toNat + (p - r (220 + i).toNat)))) (a := a) (r := up1 r (220 + i).toNat p) (k := p) hm e2 h3 hs (by rw [mI_nA (by omega), mI_A]) hk (RA_c (fun k hk2 => up1_n (by omega)) ra) (RW_c (fun k k1 => up1_n (by omega)) (up1_n (by omega)) ra rw0) (by omega) (by omega)
      rw [bi_c (gTurn_c (r := r) (fun j hj => up1_n (by omega)) (up1_n (by omega)) (by omega))] at e3
      have hjs : ∀ (x y : Int), js ((3, .inl x) :: u) 4 (.inl y) = [(3, .inl x), (4, .inl y)] := by
        intro x y
        rcases hu with rfl | ⟨z, rfl⟩ <;> rfl
      have tkb := gTk_bd (r := r) (r (236 + i).toNat) p
      have e6 : up1 g (r (204 + i).toNat).toNat (g (r (204 + i).toNat).toNat + (p - r (220 + i).toNat) + 1) = up1 g (r (204 + i).toNat).toNat (g (r (204 + i).toNat).toNat + (p + 1 - r (220 + i).toNat)) := by
        congr 1
        omega
      by_cases q2 : gTurn r p
      · rw [bi_t q2] at e3
        by_cases q3 : r (236 + i).toNat = 2
        · have eT : gTk r (r (236 + i).toNat) p = 1 := ci_f (fun z => z.2 q3)
          rw [eT] at *
          by_cases q4 : l < 1
          · rw [if_pos q4]
            simp (disch := omega) only [p250_0, p250_1, p250_4, p250_5, p250_6, p250_7, p250_9, p250_12, p250_13, p250_14, p250_15, p250_16, p250_19, p250_20, p250_21, p250_22, p250_23, p250_24, p250_25, p250_26, p250_29, p250_30, p250_31, p250_32, p250_35, p250_36, p250_37, p250_38, p250_41, p250_44, p250_45, p250_48, p250_49, p250_50, p250_51, p250_52, p250_55, p250_56, p250_59, p250_60, p250_63, p250_64, p250_65, p250_66, p250_67, p250_70, p250_71, p250_74, p250_75, p250_77, p250_79, p250_80, p250_83, p250_84, p250_85, p250_87, p250_88, p250_89, p250_90, p250_93, p250_94, p250_95, p250_96, p250_97, p250_98, p250_99, p250_100, p250_101, p250_104, p250_105, p250_108, p250_109, p250_110, p250_111, p250_112, p250_113, p250_114, p250_115, p250_116, p250_119, jwd_c, jwd_0, Nat.reduceLeDiff, Nat.reduceEqDiff, Nat.reduceAdd, Nat.reduceSub, Nat.reduceMul, Int.reduceAdd, Int.reduceSub, Int.reduceMul, Int.reduceNeg, Int.reduceEq, Int.reduceLT, Int.reduceLE, jq_ldi_i, jq_ldl_l, jq_lda_a, jq_inc_i, jq_gs_t, jq_gsb_t, jq_gb_t, jq_gr_2, jq_gr_4, jq_gw_2, jq_s_t, jq_b_t, jg_c, jg_n, js_c, js_n, jrm_c, jrm_n, j2_i, j2_l, j2_a, jq_c_i, jq_c_l, jq_c_0, jq_c_n, jwd_le, jw_c0, mS_I, mS_R, mS_J, mN_I, mN_R, mN_J, mR_I, mI_R, mJ_I, mJ_R, mI_J, mR_J, ↓reduceIte, decide_true, or_true, true_or, and_self, false_or, or_false, reduceCtorEq, Bool.false_eq_true, and_false, false_and, eq_self, true_and, and_true, zero_ne, ↓br_lt_t, ↓br_lt_f, ↓br_eq_t, ↓br_eq_f, ↓br_lz_t, ↓br_lz_f, ↓br_ez_t, ↓br_ez_f, ↓br_gz_t, ↓br_gz_f, jw_id, jin_t, jix_t, mI_A, mI_nA, up1_s, up1_n, mS_A, mR_A, mJ_A, mN_A, setI_A, setA_A, sw_238, sw_239, sw_240, sw_241, sw_242, sw_243, sw_244, sw_245, sw_246, sw_247, sw_248, sw_249, sw_250, sw_251, Int.reduceToNat, Int.toNat_natCast, MO.s0 hm, MO.s1 hm, MO.s2 hm, MO.s3 hm, MO.s4 hm, MO.s5 hm, MO.s6 hm, MO.s7 hm, MO.s8 hm, MO.s9 hm, MO.s10 hm, MO.s11 hm, MO.s12 hm, MO.s13 hm, MO.r1 hm, MO.r2 hm, MO.r3 hm, MO.r4 hm, MO.r5 hm, MO.r6 hm, MO.r7 hm, MO.r8 hm, MO.r9 hm, MO.r10 hm, MO.r11 hm, MO.r12 hm, MO.r13 hm, up1_n, hs, h3, e3, q3, hjs]
          · rw [if_neg q4]
            have e5 := ih (p + 1) (l - 1) [(4, .inl 1)] (Or.inr ⟨1, rfl⟩) (by omega) (by omega) (by omega) (by omega) (by omega)
            simp (disch := omega) only [p250_0, p250_1, p250_4, p250_5, p250_6, p250_7, p250_9, p250_12, p250_13, p250_14, p250_15, p250_16, p250_19, p250_20, p250_21, p250_22, p250_23, p250_24, p250_25, p250_26, p250_29, p250_30, p250_31, p250_32, p250_35, p250_36, p250_37, p250_38, p250_41, p250_44, p250_45, p250_48, p250_49, p250_50, p250_51, p250_52, p250_55, p250_56, p250_59, p250_60, p250_63, p250_64, p250_65, p250_66, p250_67, p250_70, p250_71, p250_74, p250_75, p250_77, p250_79, p250_80, p250_83, p250_84, p250_85, p250_87, p250_88, p250_89, p250_90, p250_93, p250_94, p250_95, p250_96, p250_97, p250_98, p250_99, p250_100, p250_101, p250_104, p250_105, p250_108, p250_109, p250_110, p250_111, p250_112, p250_113, p250_114, p250_115, p250_116, p250_119, jwd_c, jwd_0, Nat.reduceLeDiff, Nat.reduceEqDiff, Nat.reduceAdd, Nat.reduceSub, Nat.reduceMul, Int.reduceAdd, Int.reduceSub, Int.reduceMul, Int.reduceNeg, Int.reduceEq, Int.reduceLT, Int.reduceLE, jq_ldi_i, jq_ldl_l, jq_lda_a, jq_inc_i, jq_gs_t, jq_gsb_t, jq_gb_t, jq_gr_2, jq_gr_4, jq_gw_2, jq_s_t, jq_b_t, jg_c, jg_n, js_c, js_n, jrm_c, jrm_n, j2_i, j2_l, j2_a, jq_c_i, jq_c_l, jq_c_0, jq_c_n, jwd_le, jw_c0, mS_I, mS_R, mS_J, mN_I, mN_R, mN_J, mR_I, mI_R, mJ_I, mJ_R, mI_J, mR_J, ↓reduceIte, decide_true, or_true, true_or, and_self, false_or, or_false, reduceCtorEq, Bool.false_eq_true, and_false, false_and, eq_self, true_and, and_true, zero_ne, ↓br_lt_t, ↓br_lt_f, ↓br_eq_t, ↓br_eq_f, ↓br_lz_t, ↓br_lz_f, ↓br_ez_t, ↓br_ez_f, ↓br_gz_t, ↓br_gz_f, jw_id, jin_t, jix_t, mI_A, mI_nA, up1_s, up1_n, mS_A, mR_A, mJ_A, mN_A, setI_A, setA_A, sw_238, sw_239, sw_240, sw_241, sw_242, sw_243, sw_244, sw_245, sw_246, sw_247, sw_248, sw_249, sw_250, sw_251, Int.reduceToNat, Int.toNat_natCast, MO.s0 hm, MO.s1 hm, MO.s2 hm, MO.s3 hm, MO.s4 hm, MO.s5 hm, MO.s6 hm, MO.s7 hm, MO.s8 hm, MO.s9 hm, MO.s10 hm, MO.s11 hm, MO.s12 hm, MO.s13 hm, MO.r1 hm, MO.r2 hm, MO.r3 hm, MO.r4 hm, MO.r5 hm, MO.r6 hm, MO.r7 hm, MO.r8 hm, MO.r9 hm, MO.r10 hm, MO.r11 hm, MO.r12 hm, MO.r13 hm, up1_n, up1_up1, hs, h3, e3, q3, hjs, e6] at e5 ⊢
            exact e5
        · by_cases q5 : r (236 + i).toNat = 3
          · have eT : gTk r (r (236 + i).toNat) p = 3 := (ci_t ⟨q2, q3⟩).trans (if_pos q5)
            rw [eT] at *
            by_cases q4 : l < 3
            · rw [if_pos q4]
              simp (disch := omega) only [p250_0, p250_1, p250_4, p250_5, p250_6, p250_7, p250_9, p250_12, p250_13, p250_14, p250_15, p250_16, p250_19, p250_20, p250_21, p250_22, p250_23, p250_24, p250_25, p250_26, p250_29, p250_30, p250_31, p250_32, p250_35, p250_36, p250_37, p250_38, p250_41, p250_44, p250_45, p250_48, p250_49, p250_50, p250_51, p250_52, p250_55, p250_56, p250_59, p250_60, p250_63, p250_64, p250_65, p250_66, p250_67, p250_70, p250_71, p250_74, p250_75, p250_77, p250_79, p250_80, p250_83, p250_84, p250_85, p250_87, p250_88, p250_89, p250_90, p250_93, p250_94, p250_95, p250_96, p250_97, p250_98, p250_99, p250_100, p250_101, p250_104, p250_105, p250_108, p250_109, p250_110, p250_111, p250_112, p250_113, p250_114, p250_115, p250_116, p250_119, jwd_c, jwd_0, Nat.reduceLeDiff, Nat.reduceEqDiff, Nat.reduceAdd, Nat.reduceSub, Nat.reduceMul, Int.reduceAdd, Int.reduceSub, Int.reduceMul, Int.reduceNeg, Int.reduceEq, Int.reduceLT, Int.reduceLE, jq_ldi_i, jq_ldl_l, jq_lda_a, jq_inc_i, jq_gs_t, jq_gsb_t, jq_gb_t, jq_gr_2, jq_gr_4, jq_gw_2, jq_s_t, jq_b_t, jg_c, jg_n, js_c, js_n, jrm_c, jrm_n, j2_i, j2_l, j2_a, jq_c_i, jq_c_l, jq_c_0, jq_c_n, jwd_le, jw_c0, mS_I, mS_R, mS_J, mN_I, mN_R, mN_J, mR_I, mI_R, mJ_I, mJ_R, mI_J, mR_J, ↓reduceIte, decide_true, or_true, true_or, and_self, false_or, or_false, reduceCtorEq, Bool.false_eq_true, and_false, false_and, eq_self, true_and, and_true, zero_ne, ↓br_lt_t, ↓br_lt_f, ↓br_eq_t, ↓br_eq_f, ↓br_lz_t, ↓br_lz_f, ↓br_ez_t, ↓br_ez_f, ↓br_gz_t, ↓br_gz_f, jw_id, jin_t, jix_t, mI_A, mI_nA, up1_s, up1_n, mS_A, mR_A, mJ_A, mN_A, setI_A, setA_A, sw_238, sw_239, sw_240, sw_241, sw_242, sw_243, sw_244, sw_245, sw_246, sw_247, sw_248, sw_249, sw_250, sw_251, Int.reduceToNat, Int.toNat_natCast, MO.s0 hm, MO.s1 hm, MO.s2 hm, MO.s3 hm, MO.s4 hm, MO.s5 hm, MO.s6 hm, MO.s7 hm, MO.s8 hm, MO.s9 hm, MO.s10 hm, MO.s11 hm, MO.s12 hm, MO.s13 hm, MO.r1 hm, MO.r2 hm, MO.r3 hm, MO.r4 hm, MO.r5 hm, MO.r6 hm, MO.r7 hm, MO.r8 hm, MO.r9 hm, MO.r10 hm, MO.r11 hm, MO.r12 hm, MO.r13 hm, up1_n, hs, h3, e3, q5, hjs]
            · rw [if_neg q4]
              have e5 := ih (p + 1) (l - 3) [(4, .inl 3)] (Or.inr ⟨3, rfl⟩) (by omega) (by omega) (by omega) (by omega) (by omega)
              simp (disch := omega) only [p250_0, p250_1, p250_4, p250_5, p250_6, p250_7, p250_9, p250_12, p250_13, p250_14, p250_15, p250_16, p250_19, p250_20, p250_21, p250_22, p250_23, p250_24, p250_25, p250_26, p250_29, p250_30, p250_31, p250_32, p250_35, p250_36, p250_37, p250_38, p250_41, p250_44, p250_45, p250_48, p250_49, p250_50, p250_51, p250_52, p250_55, p250_56, p250_59, p250_60, p250_63, p250_64, p250_65, p250_66, p250_67, p250_70, p250_71, p250_74, p250_75, p250_77, p250_79, p250_80, p250_83, p250_84, p250_85, p250_87, p250_88, p250_89, p250_90, p250_93, p250_94, p250_95, p250_96, p250_97, p250_98, p250_99, p250_100, p250_101, p250_104, p250_105, p250_108, p250_109, p250_110, p250_111, p250_112, p250_113, p250_114, p250_115, p250_116, p250_119, jwd_c, jwd_0, Nat.reduceLeDiff, Nat.reduceEqDiff, Nat.reduceAdd, Nat.reduceSub, Nat.reduceMul, Int.reduceAdd, Int.reduceSub, Int.reduceMul, Int.reduceNeg, Int.reduceEq, Int.reduceLT, Int.reduceLE, jq_ldi_i, jq_ldl_l, jq_lda_a, jq_inc_i, jq_gs_t, jq_gsb_t, jq_gb_t, jq_gr_2, jq_gr_4, jq_gw_2, jq_s_t, jq_b_t, jg_c, jg_n, js_c, js_n, jrm_c, jrm_n, j2_i, j2_l, j2_a, jq_c_i, jq_c_l, jq_c_0, jq_c_n, jwd_le, jw_c0, mS_I, mS_R, mS_J, mN_I, mN_R, mN_J, mR_I, mI_R, mJ_I, mJ_R, mI_J, mR_J, ↓reduceIte, decide_true, or_true, true_or, and_self, false_or, or_false, reduceCtorEq, Bool.false_eq_true, and_false, false_and, eq_self, true_and, and_true, zero_ne, ↓br_lt_t, ↓br_lt_f, ↓br_eq_t, ↓br_eq_f, ↓br_lz_t, ↓br_lz_f, ↓br_ez_t, ↓br_ez_f, ↓br_gz_t, ↓br_gz_f, jw_id, jin_t, jix_t, mI_A, mI_nA, up1_s, up1_n, mS_A, mR_A, mJ_A, mN_A, setI_A, setA_A, sw_238, sw_239, sw_240, sw_241, sw_242, sw_243, sw_244, sw_245, sw_246, sw_247, sw_248, sw_249, sw_250, sw_251, Int.reduceToNat, Int.toNat_natCast, MO.s0 hm, MO.s1 hm, MO.s2 hm, MO.s3 hm, MO.s4 hm, MO.s5 hm, MO.s6 hm, MO.s7 hm, MO.s8 hm, MO.s9 hm, MO.s10 hm, MO.s11 hm, MO.s12 hm, MO.s13 hm, MO.r1 hm, MO.r2 hm, MO.r3 hm, MO.r4 hm, MO.r5 hm, MO.r6 hm, MO.r7 hm, MO.r8 hm, MO.r9 hm, MO.r10 hm, MO.r11 hm, MO.r12 hm, MO.r13 hm, up1_n, up1_up1, hs, h3, e3, q5, hjs, e6] at e5 ⊢
              exact e5
          · have eT : gTk r (r (236 + i).toNat) p = 2 := (ci_t ⟨q2, q3⟩).trans (if_neg q5)
            rw [eT] at *
            by_cases q4 : l < 2
            · rw [if_pos q4]
              simp (disch := omega) only [p250_0, p250_1, p250_4, p250_5, p250_6, p250_7, p250_9, p250_12, p250_13, p250_14, p250_15, p250_16, p250_19, p250_20, p250_21, p250_22, p250_23, p250_24, p250_25, p250_26, p250_29, p250_30, p250_31, p250_32, p250_35, p250_36, p250_37, p250_38, p250_41, p250_44, p250_45, p250_48, p250_49, p250_50, p250_51, p250_52, p250_55, p250_56, p250_59, p250_60, p250_63, p250_64, p250_65, p250_66, p250_67, p250_70, p250_71, p250_74, p250_75, p250_77, p250_79, p250_80, p250_83, p250_84, p250_85, p250_87, p250_88, p250_89, p250_90, p250_93, p250_94, p250_95, p250_96, p250_97, p250_98, p250_99, p250_100, p250_101, p250_104, p250_105, p250_108, p250_109, p250_110, p250_111, p250_112, p250_113, p250_114, p250_115, p250_116, p250_119, jwd_c, jwd_0, Nat.reduceLeDiff, Nat.reduceEqDiff, Nat.reduceAdd, Nat.reduceSub, Nat.reduceMul, Int.reduceAdd, Int.reduceSub, Int.reduceMul, Int.reduceNeg, Int.reduceEq, Int.reduceLT, Int.reduceLE, jq_ldi_i, jq_ldl_l, jq_lda_a, jq_inc_i, jq_gs_t, jq_gsb_t, jq_gb_t, jq_gr_2, jq_gr_4, jq_gw_2, jq_s_t, jq_b_t, jg_c, jg_n, js_c, js_n, jrm_c, jrm_n, j2_i, j2_l, j2_a, jq_c_i, jq_c_l, jq_c_0, jq_c_n, jwd_le, jw_c0, mS_I, mS_R, mS_J, mN_I, mN_R, mN_J, mR_I, mI_R, mJ_I, mJ_R, mI_J, mR_J, ↓reduceIte, decide_true, or_true, true_or, and_self, false_or, or_false, reduceCtorEq, Bool.false_eq_true, and_false, false_and, eq_self, true_and, and_true, zero_ne, ↓br_lt_t, ↓br_lt_f, ↓br_eq_t, ↓br_eq_f, ↓br_lz_t, ↓br_lz_f, ↓br_ez_t, ↓br_ez_f, ↓br_gz_t, ↓br_gz_f, jw_id, jin_t, jix_t, mI_A, mI_nA, up1_s, up1_n, mS_A, mR_A, mJ_A, mN_A, setI_A, setA_A, sw_238, sw_239, sw_240, sw_241, sw_242, sw_243, sw_244, sw_245, sw_246, sw_247, sw_248, sw_249, sw_250, sw_251, Int.reduceToNat, Int.toNat_natCast, MO.s0 hm, MO.s1 hm, MO.s2 hm, MO.s3 hm, MO.s4 hm, MO.s5 hm, MO.s6 hm, MO.s7 hm, MO.s8 hm, MO.s9 hm, MO.s10 hm, MO.s11 hm, MO.s12 hm, MO.s13 hm, MO.r1 hm, MO.r2 hm, MO.r3 hm, MO.r4 hm, MO.r5 hm, MO.r6 hm, MO.r7 hm, MO.r8 hm, MO.r9 hm, MO.r10 hm, MO.r11 hm, MO.r12 hm, MO.r13 hm, up1_n, hs, h3, e3, hjs]
            · rw [if_neg q4]
              have e5 := ih (p + 1) (l - 2) [(4, .inl 2)] (Or.inr ⟨2, rfl⟩) (by omega) (by omega) (by omega) (by omega) (by omega)
              simp (disch := omega) only [p250_0, p250_1, p250_4, p250_5, p250_6, p250_7, p250_9, p250_12, p250_13, p250_14, p250_15, p250_16, p250_19, p250_20, p250_21, p250_22, p250_23, p250_24, p250_25, p250_26, p250_29, p250_30, p250_31, p250_32, p250_35, p250_36, p250_37, p250_38, p250_41, p250_44, p250_45, p250_48, p250_49, p250_50, p250_51, p250_52, p250_55, p250_56, p250_59, p250_60, p250_63, p250_64, p250_65, p250_66, p250_67, p250_70, p250_71, p250_74, p250_75, p250_77, p250_79, p250_80, p250_83, p250_84, p250_85, p250_87, p250_88, p250_89, p250_90, p250_93, p250_94, p250_95, p250_96, p250_97, p250_98, p250_99, p250_100, p250_101, p250_104, p250_105, p250_108, p250_109, p250_110, p250_111, p250_112, p250_113, p250_114, p250_115, p250_116, p250_119, jwd_c, jwd_0, Nat.reduceLeDiff, Nat.reduceEqDiff, Nat.reduceAdd, Nat.reduceSub, Nat.reduceMul, Int.reduceAdd, Int.reduceSub, Int.reduceMul, Int.reduceNeg, Int.reduceEq, Int.reduceLT, Int.reduceLE, jq_ldi_i, jq_ldl_l, jq_lda_a, jq_inc_i, jq_gs_t, jq_gsb_t, jq_gb_t, jq_gr_2, jq_gr_4, jq_gw_2, jq_s_t, jq_b_t, jg_c, jg_n, js_c, js_n, jrm_c, jrm_n, j2_i, j2_l, j2_a, jq_c_i, jq_c_l, jq_c_0, jq_c_n, jwd_le, jw_c0, mS_I, mS_R, mS_J, mN_I, mN_R, mN_J, mR_I, mI_R, mJ_I, mJ_R, mI_J, mR_J, ↓reduceIte, decide_true, or_true, true_or, and_self, false_or, or_false, reduceCtorEq, Bool.false_eq_true, and_false, false_and, eq_self, true_and, and_true, zero_ne, ↓br_lt_t, ↓br_lt_f, ↓br_eq_t, ↓br_eq_f, ↓br_lz_t, ↓br_lz_f, ↓br_ez_t, ↓br_ez_f, ↓br_gz_t, ↓br_gz_f, jw_id, jin_t, jix_t, mI_A, mI_nA, up1_s, up1_n, mS_A, mR_A, mJ_A, mN_A, setI_A, setA_A, sw_238, sw_239, sw_240, sw_241, sw_242, sw_243, sw_244, sw_245, sw_246, sw_247, sw_248, sw_249, sw_250, sw_251, Int.reduceToNat, Int.toNat_natCast, MO.s0 hm, MO.s1 hm, MO.s2 hm, MO.s3 hm, MO.s4 hm, MO.s5 hm, MO.s6 hm, MO.s7 hm, MO.s8 hm, MO.s9 hm, MO.s10 hm, MO.s11 hm, MO.s12 hm, MO.s13 hm, MO.r1 hm, MO.r2 hm, MO.r3 hm, MO.r4 hm, MO.r5 hm, MO.r6 hm, MO.r7 hm, MO.r8 hm, MO.r9 hm, MO.r10 hm, MO.r11 hm, MO.r12 hm, MO.r13 hm, up1_n, up1_up1, hs, h3, e3, hjs, e6, e5]
      · rw [bi_f q2] at e3
        have eT : gTk r (r (236 + i).toNat) p = 1 := ci_f (fun z => q2 z.1)
        rw [eT] at *
        by_cases q4 : l < 1
        · rw [if_pos q4]
          simp (disch := omega) only [p250_0, p250_1, p250_4, p250_5, p250_6, p250_7, p250_9, p250_12, p250_13, p250_14, p250_15, p250_16, p250_19, p250_20, p250_21, p250_22, p250_23, p250_24, p250_25, p250_26, p250_29, p250_30, p250_31, p250_32, p250_35, p250_36, p250_37, p250_38, p250_41, p250_44, p250_45, p250_48, p250_49, p250_50, p250_51, p250_52, p250_55, p250_56, p250_59, p250_60, p250_63, p250_64, p250_65, p250_66, p250_67, p250_70, p250_71, p250_74, p250_75, p250_77, p250_79, p250_80, p250_83, p250_84, p250_85, p250_87, p250_88, p250_89, p250_90, p250_93, p250_94, p250_95, p250_96, p250_97, p250_98, p250_99, p250_100, p250_101, p250_104, p250_105, p250_108, p250_109, p250_110, p250_111, p250_112, p250_113, p250_114, p250_115, p250_116, p250_119, jwd_c, jwd_0, Nat.reduceLeDiff, Nat.reduceEqDiff, Nat.reduceAdd, Nat.reduceSub, Nat.reduceMul, Int.reduceAdd, Int.reduceSub, Int.reduceMul, Int.reduceNeg, Int.reduceEq, Int.reduceLT, Int.reduceLE, jq_ldi_i, jq_ldl_l, jq_lda_a, jq_inc_i, jq_gs_t, jq_gsb_t, jq_gb_t, jq_gr_2, jq_gr_4, jq_gw_2, jq_s_t, jq_b_t, jg_c, jg_n, js_c, js_n, jrm_c, jrm_n, j2_i, j2_l, j2_a, jq_c_i, jq_c_l, jq_c_0, jq_c_n, jwd_le, jw_c0, mS_I, mS_R, mS_J, mN_I, mN_R, mN_J, mR_I, mI_R, mJ_I, mJ_R, mI_J, mR_J, ↓reduceIte, decide_true, or_true, true_or, and_self, false_or, or_false, reduceCtorEq, Bool.false_eq_true, and_false, false_and, eq_self, true_and, and_true, zero_ne, ↓br_lt_t, ↓br_lt_f, ↓br_eq_t, ↓br_eq_f, ↓br_lz_t, ↓br_lz_f, ↓br_ez_t, ↓br_ez_f, ↓br_gz_t, ↓br_gz_f, jw_id, jin_t, jix_t, mI_A, mI_nA, up1_s, up1_n, mS_A, mR_A, mJ_A, mN_A, setI_A, setA_A, sw_238, sw_239, sw_240, sw_241, sw_242, sw_243, sw_244, sw_245, sw_246, sw_247, sw_248, sw_249, sw_250, sw_251, Int.reduceToNat, Int.toNat_natCast, MO.s0 hm, MO.s1 hm, MO.s2 hm, MO.s3 hm, MO.s4 hm, MO.s5 hm, MO.s6 hm, MO.s7 hm, MO.s8 hm, MO.s9 hm, MO.s10 hm, MO.s11 hm, MO.s12 hm, MO.s13 hm, MO.r1 hm, MO.r2 hm, MO.r3 hm, MO.r4 hm, MO.r5 hm, MO.r6 hm, MO.r7 hm, MO.r8 hm, MO.r9 hm, MO.r10 hm, MO.r11 hm, MO.r12 hm, MO.r13 hm, up1_n, hs, h3, e3, hjs]
        · rw [if_neg q4]
          have e5 := ih (p + 1) (l - 1) [(4, .inl 1)] (Or.inr ⟨1, rfl⟩) (by omega) (by omega) (by omega) (by omega) (by omega)
          simp (disch := omega) only [p250_0, p250_1, p250_4, p250_5, p250_6, p250_7, p250_9, p250_12, p250_13, p250_14, p250_15, p250_16, p250_19, p250_20, p250_21, p250_22, p250_23, p250_24, p250_25, p250_26, p250_29, p250_30, p250_31, p250_32, p250_35, p250_36, p250_37, p250_38, p250_41, p250_44, p250_45, p250_48, p250_49, p250_50, p250_51, p250_52, p250_55, p250_56, p250_59, p250_60, p250_63, p250_64, p250_65, p250_66, p250_67, p250_70, p250_71, p250_74, p250_75, p250_77, p250_79, p250_80, p250_83, p250_84, p250_85, p250_87, p250_88, p250_89, p250_90, p250_93, p250_94, p250_95, p250_96, p250_97, p250_98, p250_99, p250_100, p250_101, p250_104, p250_105, p250_108, p250_109, p250_110, p250_111, p250_112, p250_113, p250_114, p250_115, p250_116, p250_119, jwd_c, jwd_0, Nat.reduceLeDiff, Nat.reduceEqDiff, Nat.reduceAdd, Nat.reduceSub, Nat.reduceMul, Int.reduceAdd, Int.reduceSub, Int.reduceMul, Int.reduceNeg, Int.reduceEq, Int.reduceLT, Int.reduceLE, jq_ldi_i, jq_ldl_l, jq_lda_a, jq_inc_i, jq_gs_t, jq_gsb_t, jq_gb_t, jq_gr_2, jq_gr_4, jq_gw_2, jq_s_t, jq_b_t, jg_c, jg_n, js_c, js_n, jrm_c, jrm_n, j2_i, j2_l, j2_a, jq_c_i, jq_c_l, jq_c_0, jq_c_n, jwd_le, jw_c0, mS_I, mS_R, mS_J, mN_I, mN_R, mN_J, mR_I, mI_R, mJ_I, mJ_R, mI_J, mR_J, ↓reduceIte, decide_true, or_true, true_or, and_self, false_or, or_false, reduceCtorEq, Bool.false_eq_true, and_false, false_and, eq_self, true_and, and_true, zero_ne, ↓br_lt_t, ↓br_lt_f, ↓br_eq_t, ↓br_eq_f, ↓br_lz_t, ↓br_lz_f, ↓br_ez_t, ↓br_ez_f, ↓br_gz_t, ↓br_gz_f, jw_id, jin_t, jix_t, mI_A, mI_nA, up1_s, up1_n, mS_A, mR_A, mJ_A, mN_A, setI_A, setA_A, sw_238, sw_239, sw_240, sw_241, sw_242, sw_243, sw_244, sw_245, sw_246, sw_247, sw_248, sw_249, sw_250, sw_251, Int.reduceToNat, Int.toNat_natCast, MO.s0 hm, MO.s1 hm, MO.s2 hm, MO.s3 hm, MO.s4 hm, MO.s5 hm, MO.s6 hm, MO.s7 hm, MO.s8 hm, MO.s9 hm, MO.s10 hm, MO.s11 hm, MO.s12 hm, MO.s13 hm, MO.r1 hm, MO.r2 hm, MO.r3 hm, MO.r4 hm, MO.r5 hm, MO.r6 hm, MO.r7 hm, MO.r8 hm, MO.r9 hm, MO.r10 hm, MO.r11 hm, MO.r12 hm, MO.r13 hm, up1_n, up1_up1, hs, h3, e3, hjs, e6, e5]
    · rw [if_neg q1]
      simp (disch := omega) only [p250_0, p250_1, p250_4, p250_5, p250_6, p250_7, p250_9, p250_12, p250_13, p250_14, p250_15, p250_16, p250_19, p250_20, p250_21, p250_22, p250_23, p250_24, p250_25, p250_26, p250_29, p250_30, p250_31, p250_32, p250_35, p250_36, p250_37, p250_38, p250_41, p250_44, p250_45, p250_48, p250_49, p250_50, p250_51, p250_52, p250_55, p250_56, p250_59, p250_60, p250_63, p250_64, p250_65, p250_66, p250_67, p250_70, p250_71, p250_74, p250_75, p250_77, p250_79, p250_80, p250_83, p250_84, p250_85, p250_87, p250_88, p250_89, p250_90, p250_93, p250_94, p250_95, p250_96, p250_97, p250_98, p250_99, p250_100, p250_101, p250_104, p250_105, p250_108, p250_109, p250_110, p250_111, p250_112, p250_113, p250_114, p250_115, p250_116, p250_119, jwd_c, jwd_0, Nat.reduceLeDiff, Nat.reduceEqDiff, Nat.reduceAdd, Nat.reduceSub, Nat.reduceMul, Int.reduceAdd, Int.reduceSub, Int.reduceMul, Int.reduceNeg, Int.reduceEq, Int.reduceLT, Int.reduceLE, jq_ldi_i, jq_ldl_l, jq_lda_a, jq_inc_i, jq_gs_t, jq_gsb_t, jq_gb_t, jq_gr_2, jq_gr_4, jq_gw_2, jq_s_t, jq_b_t, jg_c, jg_n, js_c, js_n, jrm_c, jrm_n, j2_i, j2_l, j2_a, jq_c_i, jq_c_l, jq_c_0, jq_c_n, jwd_le, jw_c0, mS_I, mS_R, mS_J, mN_I, mN_R, mN_J, mR_I, mI_R, mJ_I, mJ_R, mI_J, mR_J, ↓reduceIte, decide_true, or_true, true_or, and_self, false_or, or_false, reduceCtorEq, Bool.false_eq_true, and_false, false_and, eq_self, true_and, and_true, zero_ne, ↓br_lt_t, ↓br_lt_f, ↓br_eq_t, ↓br_eq_f, ↓br_lz_t, ↓br_lz_f, ↓br_ez_t, ↓br_ez_f, ↓br_gz_t, ↓br_gz_f, jw_id, jin_t, jix_t, mI_A, mI_nA, up1_s, up1_n, mS_A, mR_A, mJ_A, mN_A, setI_A, setA_A, sw_238, sw_239, sw_240, sw_241, sw_242, sw_243, sw_244, sw_245, sw_246, sw_247, sw_248, sw_249, sw_250, sw_251, Int.reduceToNat, Int.toNat_natCast, up1_n, hs]
theorem m_fol (hm : MO w) (hh : MH w h H) (h3 : mR w 238 3 = some h) (ha : a = 241 ∨ a = 242) (hs : mS w a = (2, 0, 298)) (hk : HOK H) (ra : RA H B r) (rb : RB r) (rw0 : RW H r) {i : Int} (i1 : 1 ≤ i) (i2 : i < r 289) (g : Nat → Int) : rn 250 (0, [(0, jvr 238), (1, jvr a), (2, .inl i)], [], setA (setA w a r) 248 g) = some (none, setA (setA w a (up1 r (220 + i).toNat (gFp r i))) 248 (up1 g (r (204 + i).toNat).toNat (g (r (204 + i).toNat).toNat + (gFp r i - r (220 + i).toNat)))) := by
  have h16 := ra.1
  have b1 := rb i (by omega) i2
  have b2 := rb (i - 1) (by omega) (by omega)
  rw [show (220 + (i - 1)).toNat = (220 + i - 1).toNat by omega] at b2
  have e := fol_loop hm hh h3 ha hs hk ra rb rw0 i1 i2 g 204 (r (220 + i).toNat) (r (252 + i).toNat) [] (Or.inl rfl) (by omega) (by omega) (by omega) (by omega) (by omega)
  rw [up1_self, Int.sub_self, Int.add_zero, up1_self] at e
  unfold gFp
  simp (disch := omega) only [p250_0, p250_1, p250_4, p250_5, p250_6, p250_7, p250_9, p250_12, p250_13, p250_14, p250_15, p250_16, p250_19, p250_20, p250_21, p250_22, p250_23, p250_24, p250_25, p250_26, p250_29, p250_30, p250_31, p250_32, p250_35, p250_36, p250_37, p250_38, p250_41, p250_44, p250_45, p250_48, p250_49, p250_50, p250_51, p250_52, p250_55, p250_56, p250_59, p250_60, p250_63, p250_64, p250_65, p250_66, p250_67, p250_70, p250_71, p250_74, p250_75, p250_77, p250_79, p250_80, p250_83, p250_84, p250_85, p250_87, p250_88, p250_89, p250_90, p250_93, p250_94, p250_95, p250_96, p250_97, p250_98, p250_99, p250_100, p250_101, p250_104, p250_105, p250_108, p250_109, p250_110, p250_111, p250_112, p250_113, p250_114, p250_115, p250_116, p250_119, jwd_c, jwd_0, Nat.reduceLeDiff, Nat.reduceEqDiff, Nat.reduceAdd, Nat.reduceSub, Nat.reduceMul, Int.reduceAdd, Int.reduceSub, Int.reduceMul, Int.reduceNeg, Int.reduceEq, Int.reduceLT, Int.reduceLE, jq_ldi_i, jq_ldl_l, jq_lda_a, jq_inc_i, jq_gs_t, jq_gsb_t, jq_gb_t, jq_gr_2, jq_gr_4, jq_gw_2, jq_s_t, jq_b_t, jg_c, jg_n, js_c, js_n, jrm_c, jrm_n, j2_i, j2_l, j2_a, jq_c_i, jq_c_l, jq_c_0, jq_c_n, jwd_le, jw_c0, mS_I, mS_R, mS_J, mN_I, mN_R, mN_J, mR_I, mI_R, mJ_I, mJ_R, mI_J, mR_J, ↓reduceIte, decide_true, or_true, true_or, and_self, false_or, or_false, reduceCtorEq, Bool.false_eq_true, and_false, false_and, eq_self, true_and, and_true, zero_ne, ↓br_lt_t, ↓br_lt_f, ↓br_eq_t, ↓br_eq_f, ↓br_lz_t, ↓br_lz_f, ↓br_ez_t, ↓br_ez_f, ↓br_gz_t, ↓br_gz_f, jw_id, jin_t, jix_t, mI_A, mI_nA, up1_s, up1_n, mS_A, mR_A, mJ_A, mN_A, setI_A, setA_A, sw_238, sw_239, sw_240, sw_241, sw_242, sw_243, sw_244, sw_245, sw_246, sw_247, sw_248, sw_249, sw_250, sw_251, Int.reduceToNat, Int.toNat_natCast, hs, e]
end FOLLOW
