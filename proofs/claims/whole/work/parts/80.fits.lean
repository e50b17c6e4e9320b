/-! The film: which leaders fit. -/
noncomputable def gFt (H : Nat → Nat → Int) (S q g : Nat → Int) : Nat → Int → Int → Int
  | 0, _, a => a
  | n + 1, l, a => gFt H S q g n (l + 1) (ji_or a (ci (gShs H (H 0 6) S 41 0 (gZ0 (up1 q 291 l) g)) (ji_shl 1 l) 0))
section FITS
variable {w u : jmW} {h : Nat} {H : Nat → Nat → Int} {r S q g : Nat → Int} {B Bt : Int} {s : gSt}
theorem shows_lp (hk : HOK H) {L : Int} (l1 : 0 ≤ L) (l2 : L ≤ 12) (s1 : ∀ k, k < 12 → 0 ≤ S k ∧ S k ≤ 3) : ∀ (n : Nat) (t : Int) (tl : jmL) (z : gZ) (w : jmW) (B : Int), FF w H L S (-1) z → ZB H B (-1) z → B + n < 2147480000 → 0 ≤ t → t + n = 41 → t1p 3 tl → ∃ u, rn 145 (2, (0, jvr 118) :: (1, .inl 40) :: (2, .inl t) :: tl, [], w) = some (some (.inl (bi (gShs H L S n t z))), u) ∧ FB u H ∧ Fr fP w u := by
  have k8 := hk.2.1
  intro n
  induction n with
  | zero =>
    intro t tl z w B hF hz hB t1 t2 ht
    refine ⟨w, ?_, hF.1.fb, Fr.rf _ _⟩
    have e : gShs H L S 0 t z = True := rfl
    rw [e, bi_t trivial, p145_2]
    simp (disch := omega) only [p145_0, p145_1, p145_3, p145_4, p145_7, p145_8, p145_10, p145_11, p145_14, p145_17, p145_20, p145_23, p145_24, p145_27, p145_30, p145_31, p145_32, p145_35, p145_36, p145_39, p145_40, p145_41, p145_44, p145_47, p145_48, p145_49, p145_52, p145_56, p145_57, p145_60, p145_63, p145_66, p145_67, jwd_c, jwd_0, Nat.reduceLeDiff, Nat.reduceEqDiff, Nat.reduceAdd, Nat.reduceSub, Nat.reduceMul, Int.reduceAdd, Int.reduceSub, Int.reduceMul, Int.reduceNeg, Int.reduceEq, Int.reduceLT, Int.reduceLE, jq_ldi_i, jq_ldl_l, jq_lda_a, jq_inc_i, jq_gs_t, jq_gsb_t, jq_gb_t, jq_gr_2, jq_gr_4, jq_gw_2, jq_s_t, jq_b_t, jg_c, jg_n, js_c, js_n, jrm_c, jrm_n, j2_i, j2_l, j2_a, jq_c_i, jq_c_l, jq_c_0, jq_c_n, jwd_le, jw_c0, mS_I, mS_R, mS_J, mN_I, mN_R, mN_J, mR_I, mI_R, mJ_I, mJ_R, mI_J, mR_J, ↓reduceIte, decide_true, or_true, true_or, and_self, false_or, or_false, reduceCtorEq, Bool.false_eq_true, and_false, false_and, eq_self, true_and, and_true, zero_ne, ↓br_lt_t, ↓br_lt_f, ↓br_eq_t, ↓br_eq_f, ↓br_lz_t, ↓br_lz_f, ↓br_ez_t, ↓br_ez_f, ↓br_gz_t, ↓br_gz_f, jw_id, jin_t, jix_t, hF.s0]
  | succ n ih =>
    intro t tl z w B hF hz hB t1 t2 ht
    have e : gShs H L S (n + 1) t z ↔ gFrs H z.1.1 t 0 ∧ gShs H L S n (t + 1) (gF1 H L S (-1) z) := Iff.rfl
    have jr : ∀ a, a < 3 → jrm tl a = tl := by
      intro a ha
      rcases ht with rfl | ⟨x, rfl⟩
      · rfl
      · rw [jrm_c, if_neg (by dsimp only; omega), if_neg (by dsimp only; omega)]
        rfl
    have j3 := t1p_js ht
    have e1 := shows_in (l := 40) hF.1 hk hz.1.1 hz.1.2.1 hz.1.2.2.1 (t := t) t1 (by omega) (H 0 8).toNat 0 (by omega) (by omega)
    have hd : rn 145 (2, (0, jvr 118) :: (1, .inl 40) :: (2, .inl t) :: tl, [], w) = rn 145 (9, [(0, jvr 118), (1, .inl 40), (2, .inl t), (3, .inl 0)], [], w) := by
      rw [p145_2]
      simp (disch := omega) only [p145_0, p145_1, p145_3, p145_4, p145_7, p145_8, p145_10, p145_11, p145_14, p145_17, p145_20, p145_23, p145_24, p145_27, p145_30, p145_31, p145_32, p145_35, p145_36, p145_39, p145_40, p145_41, p145_44, p145_47, p145_48, p145_49, p145_52, p145_56, p145_57, p145_60, p145_63, p145_66, p145_67, jwd_c, jwd_0, Nat.reduceLeDiff, Nat.reduceEqDiff, Nat.reduceAdd, Nat.reduceSub, Nat.reduceMul, Int.reduceAdd, Int.reduceSub, Int.reduceMul, Int.reduceNeg, Int.reduceEq, Int.reduceLT, Int.reduceLE, jq_ldi_i, jq_ldl_l, jq_lda_a, jq_inc_i, jq_gs_t, jq_gsb_t, jq_gb_t, jq_gr_2, jq_gr_4, jq_gw_2, jq_s_t, jq_b_t, jg_c, jg_n, js_c, js_n, jrm_c, jrm_n, j2_i, j2_l, j2_a, jq_c_i, jq_c_l, jq_c_0, jq_c_n, jwd_le, jw_c0, mS_I, mS_R, mS_J, mN_I, mN_R, mN_J, mR_I, mI_R, mJ_I, mJ_R, mI_J, mR_J, ↓reduceIte, decide_true, or_true, true_or, and_self, false_or, or_false, reduceCtorEq, Bool.false_eq_true, and_false, false_and, eq_self, true_and, and_true, zero_ne, ↓br_lt_t, ↓br_lt_f, ↓br_eq_t, ↓br_eq_f, ↓br_lz_t, ↓br_lz_f, ↓br_ez_t, ↓br_ez_f, ↓br_gz_t, ↓br_gz_f, jw_id, jin_t, jix_t, j3, jr]
    rw [hd, e1]
    by_cases q : gFrs H z.1.1 t 0
    · rw [ci_t q, bi_c (e.trans ⟨fun y => y.2, fun y => ⟨q, y⟩⟩)]
      obtain ⟨w1, e2, F1, Z1, f1⟩ := f_run hk l1 l2 s1 (t := 1) (by omega) (by omega) hF hz (by omega)
      have eF : gFr H L S (-1) (1 : Int).toNat z = gF1 H L S (-1) z := rfl
      rw [eF] at F1 Z1
      obtain ⟨u, e3, fb, f3⟩ := ih (t + 1) [(3, .inl (H 0 8))] _ w1 (B + 1) F1 Z1 (by omega) (by omega) (by omega) (Or.inr ⟨_, rfl⟩)
      refine ⟨u, ?_, fb, (f1.mo (fun b hb => by unfold fQ at hb; unfold fP; omega)).tr f3⟩
      rw [← e3, p145_55]
      simp (disch := omega) only [p145_0, p145_1, p145_3, p145_4, p145_7, p145_8, p145_10, p145_11, p145_14, p145_17, p145_20, p145_23, p145_24, p145_27, p145_30, p145_31, p145_32, p145_35, p145_36, p145_39, p145_40, p145_41, p145_44, p145_47, p145_48, p145_49, p145_52, p145_56, p145_57, p145_60, p145_63, p145_66, p145_67, jwd_c, jwd_0, Nat.reduceLeDiff, Nat.reduceEqDiff, Nat.reduceAdd, Nat.reduceSub, Nat.reduceMul, Int.reduceAdd, Int.reduceSub, Int.reduceMul, Int.reduceNeg, Int.reduceEq, Int.reduceLT, Int.reduceLE, jq_ldi_i, jq_ldl_l, jq_lda_a, jq_inc_i, jq_gs_t, jq_gsb_t, jq_gb_t, jq_gr_2, jq_gr_4, jq_gw_2, jq_s_t, jq_b_t, jg_c, jg_n, js_c, js_n, jrm_c, jrm_n, j2_i, j2_l, j2_a, jq_c_i, jq_c_l, jq_c_0, jq_c_n, jwd_le, jw_c0, mS_I, mS_R, mS_J, mN_I, mN_R, mN_J, mR_I, mI_R, mJ_I, mJ_R, mI_J, mR_J, ↓reduceIte, decide_true, or_true, true_or, and_self, false_or, or_false, reduceCtorEq, Bool.false_eq_true, and_false, false_and, eq_self, true_and, and_true, zero_ne, ↓br_lt_t, ↓br_lt_f, ↓br_eq_t, ↓br_eq_f, ↓br_lz_t, ↓br_lz_f, ↓br_ez_t, ↓br_ez_f, ↓br_gz_t, ↓br_gz_f, jw_id, jin_t, jix_t, hF.s0, e2]
    · rw [ci_f q, bi_f (fun y => q (e.mp y).1)]
      exact ⟨w, rfl, hF.1.fb, Fr.rf _ _⟩
theorem f_shows (hk : HOK H) {L : Int} (l1 : 0 ≤ L) (l2 : L ≤ 12) (s1 : ∀ k, k < 12 → 0 ≤ S k ∧ S k ≤ 3) {z : gZ} (hF : FF w H L S (-1) z) (hz : ZB H B (-1) z) (hB : B < 2147400000) : ∃ u, rn 145 (0, [(0, jvr 118), (1, .inl 40)], [], w) = some (some (.inl (bi (gShs H L S 41 0 z))), u) ∧ FB u H ∧ Fr fP w u := by
  obtain ⟨u, e, fb, f⟩ := shows_lp hk l1 l2 s1 41 0 [] z w B hF hz (by omega) (by omega) (by omega) (Or.inl rfl)
  refine ⟨u, ?_, fb, f⟩
  rw [← e]
  simp (disch := omega) only [p145_0, p145_1, p145_3, p145_4, p145_7, p145_8, p145_10, p145_11, p145_14, p145_17, p145_20, p145_23, p145_24, p145_27, p145_30, p145_31, p145_32, p145_35, p145_36, p145_39, p145_40, p145_41, p145_44, p145_47, p145_48, p145_49, p145_52, p145_56, p145_57, p145_60, p145_63, p145_66, p145_67, jwd_c, jwd_0, Nat.reduceLeDiff, Nat.reduceEqDiff, Nat.reduceAdd, Nat.reduceSub, Nat.reduceMul, Int.reduceAdd, Int.reduceSub, Int.reduceMul, Int.reduceNeg, Int.reduceEq, Int.reduceLT, Int.reduceLE, jq_ldi_i, jq_ldl_l, jq_lda_a, jq_inc_i, jq_gs_t, jq_gsb_t, jq_gb_t, jq_gr_2, jq_gr_4, jq_gw_2, jq_s_t, jq_b_t, jg_c, jg_n, js_c, js_n, jrm_c, jrm_n, j2_i, j2_l, j2_a, jq_c_i, jq_c_l, jq_c_0, jq_c_n, jwd_le, jw_c0, mS_I, mS_R, mS_J, mN_I, mN_R, mN_J, mR_I, mI_R, mJ_I, mJ_R, mI_J, mR_J, ↓reduceIte, decide_true, or_true, true_or, and_self, false_or, or_false, reduceCtorEq, Bool.false_eq_true, and_false, false_and, eq_self, true_and, and_true, zero_ne, ↓br_lt_t, ↓br_lt_f, ↓br_eq_t, ↓br_eq_f, ↓br_lz_t, ↓br_lz_f, ↓br_ez_t, ↓br_ez_f, ↓br_gz_t, ↓br_gz_f, jw_id, jin_t, jix_t]
theorem fits_lp (hk : HOK H) (hsn : HS H) (b : fB H r S q g B) (hq : rQ (gS0 H) q) : ∀ (n : Nat) (l a : Int) (w : jmW), cX w H s Bt → 0 ≤ l → l + n = 5 → ∃ u, rn 144 (17, [(0, jvr 64), (1, .inl a), (2, .inl l)], [], w) = some (some (.inl (gFt H S q g n l a)), setI u 64 14 0) ∧ FB u H ∧ Fr fP w u := by
  have k6 := hk.2.1
  have rs := (ri_S0 (B := 0) hk hsn (Int.le_refl _)).1
  have rq := hq.ri rs
  intro n
  induction n with
  | zero =>
    intro l a w hX l1 l2
    have h := hX.1
    refine ⟨w, ?_, h.fb, Fr.rf _ _⟩
    have e : gFt H S q g 0 l a = a := rfl
    rw [e, p144_17]
    simp (disch := omega) only [p144_0, p144_1, p144_4, p144_7, p144_8, p144_9, p144_12, p144_13, p144_14, p144_15, p144_16, p144_18, p144_19, p144_22, p144_23, p144_26, p144_27, p144_30, p144_33, p144_34, p144_37, p144_40, p144_41, p144_44, p144_45, p144_46, p144_49, p144_51, p144_54, p144_57, p144_58, p144_59, p144_60, p144_63, p144_64, p144_65, p144_66, p144_69, p144_72, p144_73, p144_74, p144_77, p62_0, p62_1, p62_2, p62_5, p62_6, jwd_c, jwd_0, Nat.reduceLeDiff, Nat.reduceEqDiff, Nat.reduceAdd, Nat.reduceSub, Nat.reduceMul, Int.reduceAdd, Int.reduceSub, Int.reduceMul, Int.reduceNeg, Int.reduceEq, Int.reduceLT, Int.reduceLE, jq_ldi_i, jq_ldl_l, jq_lda_a, jq_inc_i, jq_gs_t, jq_gsb_t, jq_gb_t, jq_gr_2, jq_gr_4, jq_gw_2, jq_s_t, jq_b_t, jg_c, jg_n, js_c, js_n, jrm_c, jrm_n, j2_i, j2_l, j2_a, jq_c_i, jq_c_l, jq_c_0, jq_c_n, jwd_le, jw_c0, mS_I, mS_R, mS_J, mN_I, mN_R, mN_J, mR_I, mI_R, mJ_I, mJ_R, mI_J, mR_J, ↓reduceIte, decide_true, or_true, true_or, and_self, false_or, or_false, reduceCtorEq, Bool.false_eq_true, and_false, false_and, eq_self, true_and, and_true, zero_ne, ↓br_lt_t, ↓br_lt_f, ↓br_eq_t, ↓br_eq_f, ↓br_lz_t, ↓br_lz_f, ↓br_ez_t, ↓br_ez_f, ↓br_gz_t, ↓br_gz_f, jw_id, jin_t, jix_t, cO.s h, cO.r0 h, cO.r1 h, cO.r2 h, cO.r3 h, cO.r4 h, cO.r5 h, cO.r6 h, cO.r7 h, cO.r8 h, cO.r9 h, cO.r10 h, cO.o h, cO.x111 h, cO.x111p h, cO.x111k h, cO.x111t h, cO.x112 h, cO.x114 h, cO.x116 h, cO.x118 h, cO.x84 h, cO.x84r0 h, cO.x84r1 h, cO.x84r2 h, cO.x84r3 h, cO.x84r4 h, cO.x84r5 h, cO.x84r6 h, cO.x84r7 h, cO.x85 h, cO.x87 h, cO.x89 h, cO.x91 h, cO.x93 h, cO.x95 h, cO.x97 h, cO.x99 h, cO.x84f8 h, cO.x84f9 h, cO.x84f10 h, cO.x84f11 h, cO.x84f12 h, cO.x84f14 h, cO.x84f15 h, cO.x84f16 h, cO.x84f17 h]
  | succ n ih =>
    intro l a w hX l1 l2
    have h := hX.1
    have e : gFt H S q g (n + 1) l a = gFt H S q g n (l + 1) (ji_or a (ci (gShs H (H 0 6) S 41 0 (gZ0 (up1 q 291 l) g)) (ji_shl 1 l) 0)) := rfl
    have cq := hq.cr hX.2.1 (by have := rs.1.1; omega) (by have := rs.1.1; omega)
    rw [← hq.ov] at cq
    obtain ⟨w1, e1, F1, f1⟩ := f_begin h.fb hk b.2.2.2.2.1 b.2.2.2.2.2.1 cq (by omega)
    have f1' : Fr fP w w1 := f1.mo (fun b hb => by unfold fQ at hb; unfold fP; omega)
    have X1 := hX.fut f1' F1.1.fb
    have F2 := F1.fld (by have := rq.1.1; omega) (by have := rq.1.1; omega) (k := 5) (m := 291) (x := l) (by omega)
    have f2 : Fr fP w1 (setI w1 119 5 l) := Fr.I ⟨by omega, by omega⟩
    have X2 := X1.fut f2 F2.1.fb
    obtain ⟨w3, e3, fb3, f3⟩ := f_shows hk (by omega) (by omega) b.s1 F2 (zb0 (u_ri rq (Or.inl ⟨rfl, l1, by omega⟩)) (Int.le_refl _) (Or.inl rfl)) (by omega)
    have X3 := X2.fut f3 fb3
    obtain ⟨u, e5, fb5, f5⟩ := ih (l + 1) (ji_or a (ci (gShs H (H 0 6) S 41 0 (gZ0 (up1 q 291 l) g)) (ji_shl 1 l) 0)) w3 X3 (by omega) (by omega)
    refine ⟨u, ?_, fb5, ((f1'.tr f2).tr f3).tr f5⟩
    rw [e, ← e5, p144_17]
    have z0 := h.fb.1
    have z1 := X1.1.s
    have z2 := X1.1.r6
    have z3 := F1.s0
    have z4 := F1.1.r1
    have z5 := F1.1.x119
    have z6 := X2.1.s
    have z7 := X2.1.r6
    have z8 := F2.s0
    have z9 : mS w 104 = (1, 4, 0) := hX.2.1.s0
    by_cases q1 : gShs H (H 0 6) S 41 0 (gZ0 (up1 q 291 l) g)
    · rw [bi_t q1] at e3
      rw [ci_t q1]
      simp (disch := omega) only [p144_0, p144_1, p144_4, p144_7, p144_8, p144_9, p144_12, p144_13, p144_14, p144_15, p144_16, p144_18, p144_19, p144_22, p144_23, p144_26, p144_27, p144_30, p144_33, p144_34, p144_37, p144_40, p144_41, p144_44, p144_45, p144_46, p144_49, p144_51, p144_54, p144_57, p144_58, p144_59, p144_60, p144_63, p144_64, p144_65, p144_66, p144_69, p144_72, p144_73, p144_74, p144_77, jwd_c, jwd_0, Nat.reduceLeDiff, Nat.reduceEqDiff, Nat.reduceAdd, Nat.reduceSub, Nat.reduceMul, Int.reduceAdd, Int.reduceSub, Int.reduceMul, Int.reduceNeg, Int.reduceEq, Int.reduceLT, Int.reduceLE, jq_ldi_i, jq_ldl_l, jq_lda_a, jq_inc_i, jq_gs_t, jq_gsb_t, jq_gb_t, jq_gr_2, jq_gr_4, jq_gw_2, jq_s_t, jq_b_t, jg_c, jg_n, js_c, js_n, jrm_c, jrm_n, j2_i, j2_l, j2_a, jq_c_i, jq_c_l, jq_c_0, jq_c_n, jwd_le, jw_c0, mS_I, mS_R, mS_J, mN_I, mN_R, mN_J, mR_I, mI_R, mJ_I, mJ_R, mI_J, mR_J, ↓reduceIte, decide_true, or_true, true_or, and_self, false_or, or_false, reduceCtorEq, Bool.false_eq_true, and_false, false_and, eq_self, true_and, and_true, zero_ne, ↓br_lt_t, ↓br_lt_f, ↓br_eq_t, ↓br_eq_f, ↓br_lz_t, ↓br_lz_f, ↓br_ez_t, ↓br_ez_f, ↓br_gz_t, ↓br_gz_f, jw_id, jin_t, jix_t, cO.s h, cO.r0 h, cO.r1 h, cO.r2 h, cO.r3 h, cO.r4 h, cO.r5 h, cO.r6 h, cO.r7 h, cO.r8 h, cO.r9 h, cO.r10 h, cO.o h, cO.x111 h, cO.x111p h, cO.x111k h, cO.x111t h, cO.x112 h, cO.x114 h, cO.x116 h, cO.x118 h, cO.x84 h, cO.x84r0 h, cO.x84r1 h, cO.x84r2 h, cO.x84r3 h, cO.x84r4 h, cO.x84r5 h, cO.x84r6 h, cO.x84r7 h, cO.x85 h, cO.x87 h, cO.x89 h, cO.x91 h, cO.x93 h, cO.x95 h, cO.x97 h, cO.x99 h, cO.x84f8 h, cO.x84f9 h, cO.x84f10 h, cO.x84f11 h, cO.x84f12 h, cO.x84f14 h, cO.x84f15 h, cO.x84f16 h, cO.x84f17 h, e1, z0, z1, z2, z3, z4, z5, z6, z7, z8, z9, e3]
    · rw [bi_f q1] at e3
      rw [ci_f q1]
      simp (disch := omega) only [p144_0, p144_1, p144_4, p144_7, p144_8, p144_9, p144_12, p144_13, p144_14, p144_15, p144_16, p144_18, p144_19, p144_22, p144_23, p144_26, p144_27, p144_30, p144_33, p144_34, p144_37, p144_40, p144_41, p144_44, p144_45, p144_46, p144_49, p144_51, p144_54, p144_57, p144_58, p144_59, p144_60, p144_63, p144_64, p144_65, p144_66, p144_69, p144_72, p144_73, p144_74, p144_77, jwd_c, jwd_0, Nat.reduceLeDiff, Nat.reduceEqDiff, Nat.reduceAdd, Nat.reduceSub, Nat.reduceMul, Int.reduceAdd, Int.reduceSub, Int.reduceMul, Int.reduceNeg, Int.reduceEq, Int.reduceLT, Int.reduceLE, jq_ldi_i, jq_ldl_l, jq_lda_a, jq_inc_i, jq_gs_t, jq_gsb_t, jq_gb_t, jq_gr_2, jq_gr_4, jq_gw_2, jq_s_t, jq_b_t, jg_c, jg_n, js_c, js_n, jrm_c, jrm_n, j2_i, j2_l, j2_a, jq_c_i, jq_c_l, jq_c_0, jq_c_n, jwd_le, jw_c0, mS_I, mS_R, mS_J, mN_I, mN_R, mN_J, mR_I, mI_R, mJ_I, mJ_R, mI_J, mR_J, ↓reduceIte, decide_true, or_true, true_or, and_self, false_or, or_false, reduceCtorEq, Bool.false_eq_true, and_false, false_and, eq_self, true_and, and_true, zero_ne, ↓br_lt_t, ↓br_lt_f, ↓br_eq_t, ↓br_eq_f, ↓br_lz_t, ↓br_lz_f, ↓br_ez_t, ↓br_ez_f, ↓br_gz_t, ↓br_gz_f, jw_id, jin_t, jix_t, cO.s h, cO.r0 h, cO.r1 h, cO.r2 h, cO.r3 h, cO.r4 h, cO.r5 h, cO.r6 h, cO.r7 h, cO.r8 h, cO.r9 h, cO.r10 h, cO.o h, cO.x111 h, cO.x111p h, cO.x111k h, cO.x111t h, cO.x112 h, cO.x114 h, cO.x116 h, cO.x118 h, cO.x84 h, cO.x84r0 h, cO.x84r1 h, cO.x84r2 h, cO.x84r3 h, cO.x84r4 h, cO.x84r5 h, cO.x84r6 h, cO.x84r7 h, cO.x85 h, cO.x87 h, cO.x89 h, cO.x91 h, cO.x93 h, cO.x95 h, cO.x97 h, cO.x99 h, cO.x84f8 h, cO.x84f9 h, cO.x84f10 h, cO.x84f11 h, cO.x84f12 h, cO.x84f14 h, cO.x84f15 h, cO.x84f16 h, cO.x84f17 h, e1, z0, z1, z2, z3, z4, z5, z6, z7, z8, z9, e3]
theorem c_fits (hX : cX w H s Bt) (hk : HOK H) (hsn : HS H) (b : fB H r S q g B) (hq : rQ (gS0 H) q) : ∃ u, rn 144 (0, [(0, jvr 64)], [], w) = some (some (.inl (gFt H S q g 5 0 0)), u) ∧ qC w u H 0 := by
  have h := hX.1
  obtain ⟨u, e, fb, f⟩ := fits_lp hk hsn b hq 5 0 0 w hX (by omega) (by omega)
  refine ⟨_, ?_, qC.fut h f fb⟩
  rw [← e]
  simp (disch := omega) only [p144_0, p144_1, p144_4, p144_7, p144_8, p144_9, p144_12, p144_13, p144_14, p144_15, p144_16, p144_18, p144_19, p144_22, p144_23, p144_26, p144_27, p144_30, p144_33, p144_34, p144_37, p144_40, p144_41, p144_44, p144_45, p144_46, p144_49, p144_51, p144_54, p144_57, p144_58, p144_59, p144_60, p144_63, p144_64, p144_65, p144_66, p144_69, p144_72, p144_73, p144_74, p144_77, jwd_c, jwd_0, Nat.reduceLeDiff, Nat.reduceEqDiff, Nat.reduceAdd, Nat.reduceSub, Nat.reduceMul, Int.reduceAdd, Int.reduceSub, Int.reduceMul, Int.reduceNeg, Int.reduceEq, Int.reduceLT, Int.reduceLE, jq_ldi_i, jq_ldl_l, jq_lda_a, jq_inc_i, jq_gs_t, jq_gsb_t, jq_gb_t, jq_gr_2, jq_gr_4, jq_gw_2, jq_s_t, jq_b_t, jg_c, jg_n, js_c, js_n, jrm_c, jrm_n, j2_i, j2_l, j2_a, jq_c_i, jq_c_l, jq_c_0, jq_c_n, jwd_le, jw_c0, mS_I, mS_R, mS_J, mN_I, mN_R, mN_J, mR_I, mI_R, mJ_I, mJ_R, mI_J, mR_J, ↓reduceIte, decide_true, or_true, true_or, and_self, false_or, or_false, reduceCtorEq, Bool.false_eq_true, and_false, false_and, eq_self, true_and, and_true, zero_ne, ↓br_lt_t, ↓br_lt_f, ↓br_eq_t, ↓br_eq_f, ↓br_lz_t, ↓br_lz_f, ↓br_ez_t, ↓br_ez_f, ↓br_gz_t, ↓br_gz_f, jw_id, jin_t, jix_t, cO.s h, cO.r0 h, cO.r1 h, cO.r2 h, cO.r3 h, cO.r4 h, cO.r5 h, cO.r6 h, cO.r7 h, cO.r8 h, cO.r9 h, cO.r10 h, cO.o h, cO.x111 h, cO.x111p h, cO.x111k h, cO.x111t h, cO.x112 h, cO.x114 h, cO.x116 h, cO.x118 h, cO.x84 h, cO.x84r0 h, cO.x84r1 h, cO.x84r2 h, cO.x84r3 h, cO.x84r4 h, cO.x84r5 h, cO.x84r6 h, cO.x84r7 h, cO.x85 h, cO.x87 h, cO.x89 h, cO.x91 h, cO.x93 h, cO.x95 h, cO.x97 h, cO.x99 h, cO.x84f8 h, cO.x84f9 h, cO.x84f10 h, cO.x84f11 h, cO.x84f12 h, cO.x84f14 h, cO.x84f15 h, cO.x84f16 h, cO.x84f17 h]
/-- the model: one leader -/
def t2p (k : Nat) (t : jmL) : Prop := t1p k t ∨ ∃ x t2, t = (k, .inl x) :: t2 ∧ t1p (k + 1) t2
theorem mfr_lp (hk : HOK H) (hm : MO w) (hh : MH w h H) (h3 : mR w 238 3 = some h) (hr : mI w 242 = r) (ra : RA H B r) (rb : RB r) (rw0 : RW H r) {l t : Int} (t1 : 0 ≤ t) (t2 : t ≤ 40) : ∀ (n : Nat) (f : Int) (P : Prop) (tl : jmL), 0 ≤ f → f + n = H 0 8 → t1p 5 tl → ∃ tl2, rn 293 (38, (0, jvr 238) :: (1, .inl l) :: (2, .inl (bi P)) :: (3, .inl t) :: (4, .inl f) :: tl, [], w) = rn 293 (130, (0, jvr 238) :: (1, .inl l) :: (2, .inl (bi (P ∧ gFrs H r t f))) :: (3, .inl t) :: (4, .inl (H 0 8)) :: tl2, [], w) ∧ t1p 5 tl2 := by
  have k8 := hk.2.1
  have kc := hk.1
  have h16 := ra.1
  have hge := hh.ge
  intro n
  induction n with
  | zero =>
    intro f P tl f1 f2 ht
    have e : f = H 0 8 := by omega
    subst e
    refine ⟨tl, ?_, ht⟩
    have e2 : gFrs H r t (H 0 8) := fun k k1 k2 => by omega
    rw [bi_c (show (P ∧ gFrs H r t (H 0 8)) ↔ P from ⟨fun z => z.1, fun z => ⟨z, e2⟩⟩), p293_38]
    simp (disch := omega) only [p293_0, p293_1, p293_2, p293_5, p293_8, p293_9, p293_12, p293_13, p293_16, p293_19, p293_20, p293_21, p293_22, p293_23, p293_24, p293_26, p293_28, p293_31, p293_32, p293_35, p293_36, p293_40, p293_41, p293_44, p293_47, p293_50, p293_51, p293_54, p293_57, p293_59, p293_60, p293_61, p293_64, p293_67, p293_68, p293_71, p293_72, p293_75, p293_78, p293_80, p293_81, p293_84, p293_86, p293_87, p293_90, p293_92, p293_93, p293_96, p293_97, p293_100, p293_102, p293_105, p293_106, p293_109, p293_112, p293_114, p293_115, p293_118, p293_119, p293_122, p293_123, p293_124, p293_127, p293_131, p293_132, p293_135, p293_136, p293_139, p293_142, p293_146, jwd_c, jwd_0, Nat.reduceLeDiff, Nat.reduceEqDiff, Nat.reduceAdd, Nat.reduceSub, Nat.reduceMul, Int.reduceAdd, Int.reduceSub, Int.reduceMul, Int.reduceNeg, Int.reduceEq, Int.reduceLT, Int.reduceLE, jq_ldi_i, jq_ldl_l, jq_lda_a, jq_inc_i, jq_gs_t, jq_gsb_t, jq_gb_t, jq_gr_2, jq_gr_4, jq_gw_2, jq_s_t, jq_b_t, jg_c, jg_n, js_c, js_n, jrm_c, jrm_n, j2_i, j2_l, j2_a, jq_c_i, jq_c_l, jq_c_0, jq_c_n, jwd_le, jw_c0, mS_I, mS_R, mS_J, mN_I, mN_R, mN_J, mR_I, mI_R, mJ_I, mJ_R, mI_J, mR_J, ↓reduceIte, decide_true, or_true, true_or, and_self, false_or, or_false, reduceCtorEq, Bool.false_eq_true, and_false, false_and, eq_self, true_and, and_true, zero_ne, ↓br_lt_t, ↓br_lt_f, ↓br_eq_t, ↓br_eq_f, ↓br_lz_t, ↓br_lz_f, ↓br_ez_t, ↓br_ez_f, ↓br_gz_t, ↓br_gz_f, jw_id, jin_t, jix_t, MO.s0 hm, MO.s1 hm, MO.s2 hm, MO.s3 hm, MO.s4 hm, MO.s5 hm, MO.s6 hm, MO.s7 hm, MO.s8 hm, MO.s9 hm, MO.s10 hm, MO.s11 hm, MO.s12 hm, MO.s13 hm, MO.r1 hm, MO.r2 hm, MO.r3 hm, MO.r4 hm, MO.r5 hm, MO.r6 hm, MO.r7 hm, MO.r8 hm, MO.r9 hm, MO.r10 hm, MO.r11 hm, MO.r12 hm, MO.r13 hm, MH.s hh, MH.s1 hh, MH.s2 hh, MH.s3 hh, MH.s4 hh, MH.s5 hh, MH.s6 hh, MH.s7 hh, MH.s8 hh, MH.s9 hh, MH.s10 hh, MH.s11 hh, MH.s12 hh, MH.s13 hh, MH.s14 hh, MH.s15 hh, MH.r1 hh, MH.r2 hh, MH.r3 hh, MH.r4 hh, MH.r5 hh, MH.r6 hh, MH.r7 hh, MH.r8 hh, MH.r9 hh, MH.r10 hh, MH.r11 hh, MH.r12 hh, MH.r13 hh, MH.r14 hh, MH.r15 hh, MH.f0 hh, MH.f1 hh, MH.f2 hh, MH.f3 hh, MH.f4 hh, MH.f5 hh, MH.f6 hh, MH.f7 hh, MH.f8 hh, MH.f9 hh, MH.f10 hh, MH.f11 hh, MH.f12 hh, MH.f13 hh, MH.f14 hh, MH.f15 hh, MH.f16 hh, MH.a1 hh, MH.a2 hh, MH.a3 hh, MH.a4 hh, MH.a5 hh, MH.a6 hh, MH.a7 hh, MH.a8 hh, MH.a9 hh, MH.a10 hh, MH.a11 hh, MH.a12 hh, MH.a13 hh, MH.a14 hh, MH.a15 hh, h3]
  | succ n ih =>
    intro f P tl f1 f2 ht
    have kf := hk.2.2.2.2.2.2.2.2 f f1 (by omega)
    have jr : ∀ a, a < 5 → jrm tl a = tl := by
      intro a ha
      rcases ht with rfl | ⟨x, rfl⟩
      · rfl
      · rw [jrm_c, if_neg (by dsimp only; omega), if_neg (by dsimp only; omega)]
        rfl
    have j3 := t1p_js ht
    have e4 : gFrs H r t f ↔ (H 29 f.toNat = t → gShn H r f) ∧ gFrs H r t (f + 1) := by
      constructor
      · intro h
        exact ⟨h f (by omega) (by omega), fun k k1 k2 => h k (by omega) k2⟩
      · rintro ⟨h1, h2⟩ k k1 k2
        by_cases z : k = f
        · subst z
          exact h1
        · exact h2 k (by omega) k2
    by_cases q1 : H 29 f.toNat = t
    · have e1 := m_idx (w := w) (a := 242) hm.s4 hr ra rb (v := H 30 f.toNat) (by omega) (by omega)
      have ib := gIx_bd (r := r) (v := H 30 f.toNat) (r 289).toNat 0
      have gs : gShn H r f ↔ 0 ≤ gIx r (H 30 f.toNat) (r 289).toNat 0 ∧ gCell r (gIx r (H 30 f.toNat) (r 289).toNat 0) = H 31 f.toNat := Iff.rfl
      generalize gIx r (H 30 f.toNat) (r 289).toNat 0 = i at *
      obtain ⟨tl2, e2, t3⟩ := ih (f + 1) (P ∧ gShn H r f) [(5, .inl i)] (by omega) (by omega) (Or.inr ⟨_, rfl⟩)
      refine ⟨tl2, ?_, t3⟩
      have pe : (P ∧ gFrs H r t f) ↔ ((P ∧ gShn H r f) ∧ gFrs H r t (f + 1)) := ⟨fun z => ⟨⟨z.1, (e4.mp z.2).1 q1⟩, (e4.mp z.2).2⟩, fun z => ⟨z.1.1, e4.mpr ⟨fun _ => z.1.2, z.2⟩⟩⟩
      rw [bi_c pe, ← e2, p293_38]
      by_cases qP : P
      · rw [bi_t qP]
        by_cases q2 : 0 ≤ i
        · have b := (rb i q2 (by omega)).2.1
          have e5 := m_cell (w := w) (a := 242) (i := i) hm.s4 hr q2 (by omega) (by omega) (by omega)
          have c0 := RC rb rw0 (i := i) q2 (by omega)
          by_cases q3 : gCell r i = H 31 f.toNat
          · rw [bi_t (show P ∧ gShn H r f from ⟨qP, gs.mpr ⟨q2, q3⟩⟩)]
            generalize gCell r i = C at *
            simp (disch := omega) only [p293_0, p293_1, p293_2, p293_5, p293_8, p293_9, p293_12, p293_13, p293_16, p293_19, p293_20, p293_21, p293_22, p293_23, p293_24, p293_26, p293_28, p293_31, p293_32, p293_35, p293_36, p293_40, p293_41, p293_44, p293_47, p293_50, p293_51, p293_54, p293_57, p293_59, p293_60, p293_61, p293_64, p293_67, p293_68, p293_71, p293_72, p293_75, p293_78, p293_80, p293_81, p293_84, p293_86, p293_87, p293_90, p293_92, p293_93, p293_96, p293_97, p293_100, p293_102, p293_105, p293_106, p293_109, p293_112, p293_114, p293_115, p293_118, p293_119, p293_122, p293_123, p293_124, p293_127, p293_131, p293_132, p293_135, p293_136, p293_139, p293_142, p293_146, jwd_c, jwd_0, Nat.reduceLeDiff, Nat.reduceEqDiff, Nat.reduceAdd, Nat.reduceSub, Nat.reduceMul, Int.reduceAdd, Int.reduceSub, Int.reduceMul, Int.reduceNeg, Int.reduceEq, Int.reduceLT, Int.reduceLE, jq_ldi_i, jq_ldl_l, jq_lda_a, jq_inc_i, jq_gs_t, jq_gsb_t, jq_gb_t, jq_gr_2, jq_gr_4, jq_gw_2, jq_s_t, jq_b_t, jg_c, jg_n, js_c, js_n, jrm_c, jrm_n, j2_i, j2_l, j2_a, jq_c_i, jq_c_l, jq_c_0, jq_c_n, jwd_le, jw_c0, mS_I, mS_R, mS_J, mN_I, mN_R, mN_J, mR_I, mI_R, mJ_I, mJ_R, mI_J, mR_J, ↓reduceIte, decide_true, or_true, true_or, and_self, false_or, or_false, reduceCtorEq, Bool.false_eq_true, and_false, false_and, eq_self, true_and, and_true, zero_ne, ↓br_lt_t, ↓br_lt_f, ↓br_eq_t, ↓br_eq_f, ↓br_lz_t, ↓br_lz_f, ↓br_ez_t, ↓br_ez_f, ↓br_gz_t, ↓br_gz_f, jw_id, jin_t, jix_t, MO.s0 hm, MO.s1 hm, MO.s2 hm, MO.s3 hm, MO.s4 hm, MO.s5 hm, MO.s6 hm, MO.s7 hm, MO.s8 hm, MO.s9 hm, MO.s10 hm, MO.s11 hm, MO.s12 hm, MO.s13 hm, MO.r1 hm, MO.r2 hm, MO.r3 hm, MO.r4 hm, MO.r5 hm, MO.r6 hm, MO.r7 hm, MO.r8 hm, MO.r9 hm, MO.r10 hm, MO.r11 hm, MO.r12 hm, MO.r13 hm, MH.s hh, MH.s1 hh, MH.s2 hh, MH.s3 hh, MH.s4 hh, MH.s5 hh, MH.s6 hh, MH.s7 hh, MH.s8 hh, MH.s9 hh, MH.s10 hh, MH.s11 hh, MH.s12 hh, MH.s13 hh, MH.s14 hh, MH.s15 hh, MH.r1 hh, MH.r2 hh, MH.r3 hh, MH.r4 hh, MH.r5 hh, MH.r6 hh, MH.r7 hh, MH.r8 hh, MH.r9 hh, MH.r10 hh, MH.r11 hh, MH.r12 hh, MH.r13 hh, MH.r14 hh, MH.r15 hh, MH.f0 hh, MH.f1 hh, MH.f2 hh, MH.f3 hh, MH.f4 hh, MH.f5 hh, MH.f6 hh, MH.f7 hh, MH.f8 hh, MH.f9 hh, MH.f10 hh, MH.f11 hh, MH.f12 hh, MH.f13 hh, MH.f14 hh, MH.f15 hh, MH.f16 hh, MH.a1 hh, MH.a2 hh, MH.a3 hh, MH.a4 hh, MH.a5 hh, MH.a6 hh, MH.a7 hh, MH.a8 hh, MH.a9 hh, MH.a10 hh, MH.a11 hh, MH.a12 hh, MH.a13 hh, MH.a14 hh, MH.a15 hh, h3, e1, e5, j3, jr]
          · rw [bi_f (show ¬ (P ∧ gShn H r f) from fun z => q3 (gs.mp z.2).2)]
            generalize gCell r i = C at *
            simp (disch := omega) only [p293_0, p293_1, p293_2, p293_5, p293_8, p293_9, p293_12, p293_13, p293_16, p293_19, p293_20, p293_21, p293_22, p293_23, p293_24, p293_26, p293_28, p293_31, p293_32, p293_35, p293_36, p293_40, p293_41, p293_44, p293_47, p293_50, p293_51, p293_54, p293_57, p293_59, p293_60, p293_61, p293_64, p293_67, p293_68, p293_71, p293_72, p293_75, p293_78, p293_80, p293_81, p293_84, p293_86, p293_87, p293_90, p293_92, p293_93, p293_96, p293_97, p293_100, p293_102, p293_105, p293_106, p293_109, p293_112, p293_114, p293_115, p293_118, p293_119, p293_122, p293_123, p293_124, p293_127, p293_131, p293_132, p293_135, p293_136, p293_139, p293_142, p293_146, jwd_c, jwd_0, Nat.reduceLeDiff, Nat.reduceEqDiff, Nat.reduceAdd, Nat.reduceSub, Nat.reduceMul, Int.reduceAdd, Int.reduceSub, Int.reduceMul, Int.reduceNeg, Int.reduceEq, Int.reduceLT, Int.reduceLE, jq_ldi_i, jq_ldl_l, jq_lda_a, jq_inc_i, jq_gs_t, jq_gsb_t, jq_gb_t, jq_gr_2, jq_gr_4, jq_gw_2, jq_s_t, jq_b_t, jg_c, jg_n, js_c, js_n, jrm_c, jrm_n, j2_i, j2_l, j2_a, jq_c_i, jq_c_l, jq_c_0, jq_c_n, jwd_le, jw_c0, mS_I, mS_R, mS_J, mN_I, mN_R, mN_J, mR_I, mI_R, mJ_I, mJ_R, mI_J, mR_J, ↓reduceIte, decide_true, or_true, true_or, and_self, false_or, or_false, reduceCtorEq, Bool.false_eq_true, and_false, false_and, eq_self, true_and, and_true, zero_ne, ↓br_lt_t, ↓br_lt_f, ↓br_eq_t, ↓br_eq_f, ↓br_lz_t, ↓br_lz_f, ↓br_ez_t, ↓br_ez_f, ↓br_gz_t, ↓br_gz_f, jw_id, jin_t, jix_t, MO.s0 hm, MO.s1 hm, MO.s2 hm, MO.s3 hm, MO.s4 hm, MO.s5 hm, MO.s6 hm, MO.s7 hm, MO.s8 hm, MO.s9 hm, MO.s10 hm, MO.s11 hm, MO.s12 hm, MO.s13 hm, MO.r1 hm, MO.r2 hm, MO.r3 hm, MO.r4 hm, MO.r5 hm, MO.r6 hm, MO.r7 hm, MO.r8 hm, MO.r9 hm, MO.r10 hm, MO.r11 hm, MO.r12 hm, MO.r13 hm, MH.s hh, MH.s1 hh, MH.s2 hh, MH.s3 hh, MH.s4 hh, MH.s5 hh, MH.s6 hh, MH.s7 hh, MH.s8 hh, MH.s9 hh, MH.s10 hh, MH.s11 hh, MH.s12 hh, MH.s13 hh, MH.s14 hh, MH.s15 hh, MH.r1 hh, MH.r2 hh, MH.r3 hh, MH.r4 hh, MH.r5 hh, MH.r6 hh, MH.r7 hh, MH.r8 hh, MH.r9 hh, MH.r10 hh, MH.r11 hh, MH.r12 hh, MH.r13 hh, MH.r14 hh, MH.r15 hh, MH.f0 hh, MH.f1 hh, MH.f2 hh, MH.f3 hh, MH.f4 hh, MH.f5 hh, MH.f6 hh, MH.f7 hh, MH.f8 hh, MH.f9 hh, MH.f10 hh, MH.f11 hh, MH.f12 hh, MH.f13 hh, MH.f14 hh, MH.f15 hh, MH.f16 hh, MH.a1 hh, MH.a2 hh, MH.a3 hh, MH.a4 hh, MH.a5 hh, MH.a6 hh, MH.a7 hh, MH.a8 hh, MH.a9 hh, MH.a10 hh, MH.a11 hh, MH.a12 hh, MH.a13 hh, MH.a14 hh, MH.a15 hh, h3, e1, e5, j3, jr]
        · rw [bi_f (show ¬ (P ∧ gShn H r f) from fun z => q2 (gs.mp z.2).1)]
          simp (disch := omega) only [p293_0, p293_1, p293_2, p293_5, p293_8, p293_9, p293_12, p293_13, p293_16, p293_19, p293_20, p293_21, p293_22, p293_23, p293_24, p293_26, p293_28, p293_31, p293_32, p293_35, p293_36, p293_40, p293_41, p293_44, p293_47, p293_50, p293_51, p293_54, p293_57, p293_59, p293_60, p293_61, p293_64, p293_67, p293_68, p293_71, p293_72, p293_75, p293_78, p293_80, p293_81, p293_84, p293_86, p293_87, p293_90, p293_92, p293_93, p293_96, p293_97, p293_100, p293_102, p293_105, p293_106, p293_109, p293_112, p293_114, p293_115, p293_118, p293_119, p293_122, p293_123, p293_124, p293_127, p293_131, p293_132, p293_135, p293_136, p293_139, p293_142, p293_146, jwd_c, jwd_0, Nat.reduceLeDiff, Nat.reduceEqDiff, Nat.reduceAdd, Nat.reduceSub, Nat.reduceMul, Int.reduceAdd, Int.reduceSub, Int.reduceMul, Int.reduceNeg, Int.reduceEq, Int.reduceLT, Int.reduceLE, jq_ldi_i, jq_ldl_l, jq_lda_a, jq_inc_i, jq_gs_t, jq_gsb_t, jq_gb_t, jq_gr_2, jq_gr_4, jq_gw_2, jq_s_t, jq_b_t, jg_c, jg_n, js_c, js_n, jrm_c, jrm_n, j2_i, j2_l, j2_a, jq_c_i, jq_c_l, jq_c_0, jq_c_n, jwd_le, jw_c0, mS_I, mS_R, mS_J, mN_I, mN_R, mN_J, mR_I, mI_R, mJ_I, mJ_R, mI_J, mR_J, ↓reduceIte, decide_true, or_true, true_or, and_self, false_or, or_false, reduceCtorEq, Bool.false_eq_true, and_false, false_and, eq_self, true_and, and_true, zero_ne, ↓br_lt_t, ↓br_lt_f, ↓br_eq_t, ↓br_eq_f, ↓br_lz_t, ↓br_lz_f, ↓br_ez_t, ↓br_ez_f, ↓br_gz_t, ↓br_gz_f, jw_id, jin_t, jix_t, MO.s0 hm, MO.s1 hm, MO.s2 hm, MO.s3 hm, MO.s4 hm, MO.s5 hm, MO.s6 hm, MO.s7 hm, MO.s8 hm, MO.s9 hm, MO.s10 hm, MO.s11 hm, MO.s12 hm, MO.s13 hm, MO.r1 hm, MO.r2 hm, MO.r3 hm, MO.r4 hm, MO.r5 hm, MO.r6 hm, MO.r7 hm, MO.r8 hm, MO.r9 hm, MO.r10 hm, MO.r11 hm, MO.r12 hm, MO.r13 hm, MH.s hh, MH.s1 hh, MH.s2 hh, MH.s3 hh, MH.s4 hh, MH.s5 hh, MH.s6 hh, MH.s7 hh, MH.s8 hh, MH.s9 hh, MH.s10 hh, MH.s11 hh, MH.s12 hh, MH.s13 hh, MH.s14 hh, MH.s15 hh, MH.r1 hh, MH.r2 hh, MH.r3 hh, MH.r4 hh, MH.r5 hh, MH.r6 hh, MH.r7 hh, MH.r8 hh, MH.r9 hh, MH.r10 hh, MH.r11 hh, MH.r12 hh, MH.r13 hh, MH.r14 hh, MH.r15 hh, MH.f0 hh, MH.f1 hh, MH.f2 hh, MH.f3 hh, MH.f4 hh, MH.f5 hh, MH.f6 hh, MH.f7 hh, MH.f8 hh, MH.f9 hh, MH.f10 hh, MH.f11 hh, MH.f12 hh, MH.f13 hh, MH.f14 hh, MH.f15 hh, MH.f16 hh, MH.a1 hh, MH.a2 hh, MH.a3 hh, MH.a4 hh, MH.a5 hh, MH.a6 hh, MH.a7 hh, MH.a8 hh, MH.a9 hh, MH.a10 hh, MH.a11 hh, MH.a12 hh, MH.a13 hh, MH.a14 hh, MH.a15 hh, h3, e1, j3, jr]
      · rw [bi_f qP, bi_f (show ¬ (P ∧ gShn H r f) from fun z => qP z.1)]
        simp (disch := omega) only [p293_0, p293_1, p293_2, p293_5, p293_8, p293_9, p293_12, p293_13, p293_16, p293_19, p293_20, p293_21, p293_22, p293_23, p293_24, p293_26, p293_28, p293_31, p293_32, p293_35, p293_36, p293_40, p293_41, p293_44, p293_47, p293_50, p293_51, p293_54, p293_57, p293_59, p293_60, p293_61, p293_64, p293_67, p293_68, p293_71, p293_72, p293_75, p293_78, p293_80, p293_81, p293_84, p293_86, p293_87, p293_90, p293_92, p293_93, p293_96, p293_97, p293_100, p293_102, p293_105, p293_106, p293_109, p293_112, p293_114, p293_115, p293_118, p293_119, p293_122, p293_123, p293_124, p293_127, p293_131, p293_132, p293_135, p293_136, p293_139, p293_142, p293_146, jwd_c, jwd_0, Nat.reduceLeDiff, Nat.reduceEqDiff, Nat.reduceAdd, Nat.reduceSub, Nat.reduceMul, Int.reduceAdd, Int.reduceSub, Int.reduceMul, Int.reduceNeg, Int.reduceEq, Int.reduceLT, Int.reduceLE, jq_ldi_i, jq_ldl_l, jq_lda_a, jq_inc_i, jq_gs_t, jq_gsb_t, jq_gb_t, jq_gr_2, jq_gr_4, jq_gw_2, jq_s_t, jq_b_t, jg_c, jg_n, js_c, js_n, jrm_c, jrm_n, j2_i, j2_l, j2_a, jq_c_i, jq_c_l, jq_c_0, jq_c_n, jwd_le, jw_c0, mS_I, mS_R, mS_J, mN_I, mN_R, mN_J, mR_I, mI_R, mJ_I, mJ_R, mI_J, mR_J, ↓reduceIte, decide_true, or_true, true_or, and_self, false_or, or_false, reduceCtorEq, Bool.false_eq_true, and_false, false_and, eq_self, true_and, and_true, zero_ne, ↓br_lt_t, ↓br_lt_f, ↓br_eq_t, ↓br_eq_f, ↓br_lz_t, ↓br_lz_f, ↓br_ez_t, ↓br_ez_f, ↓br_gz_t, ↓br_gz_f, jw_id, jin_t, jix_t, MO.s0 hm, MO.s1 hm, MO.s2 hm, MO.s3 hm, MO.s4 hm, MO.s5 hm, MO.s6 hm, MO.s7 hm, MO.s8 hm, MO.s9 hm, MO.s10 hm, MO.s11 hm, MO.s12 hm, MO.s13 hm, MO.r1 hm, MO.r2 hm, MO.r3 hm, MO.r4 hm, MO.r5 hm, MO.r6 hm, MO.r7 hm, MO.r8 hm, MO.r9 hm, MO.r10 hm, MO.r11 hm, MO.r12 hm, MO.r13 hm, MH.s hh, MH.s1 hh, MH.s2 hh, MH.s3 hh, MH.s4 hh, MH.s5 hh, MH.s6 hh, MH.s7 hh, MH.s8 hh, MH.s9 hh, MH.s10 hh, MH.s11 hh, MH.s12 hh, MH.s13 hh, MH.s14 hh, MH.s15 hh, MH.r1 hh, MH.r2 hh, MH.r3 hh, MH.r4 hh, MH.r5 hh, MH.r6 hh, MH.r7 hh, MH.r8 hh, MH.r9 hh, MH.r10 hh, MH.r11 hh, MH.r12 hh, MH.r13 hh, MH.r14 hh, MH.r15 hh, MH.f0 hh, MH.f1 hh, MH.f2 hh, MH.f3 hh, MH.f4 hh, MH.f5 hh, MH.f6 hh, MH.f7 hh, MH.f8 hh, MH.f9 hh, MH.f10 hh, MH.f11 hh, MH.f12 hh, MH.f13 hh, MH.f14 hh, MH.f15 hh, MH.f16 hh, MH.a1 hh, MH.a2 hh, MH.a3 hh, MH.a4 hh, MH.a5 hh, MH.a6 hh, MH.a7 hh, MH.a8 hh, MH.a9 hh, MH.a10 hh, MH.a11 hh, MH.a12 hh, MH.a13 hh, MH.a14 hh, MH.a15 hh, h3, e1, j3, jr]
    · obtain ⟨tl2, e2, t3⟩ := ih (f + 1) P tl (by omega) (by omega) ht
      refine ⟨tl2, ?_, t3⟩
      have pe : (P ∧ gFrs H r t f) ↔ (P ∧ gFrs H r t (f + 1)) := ⟨fun z => ⟨z.1, (e4.mp z.2).2⟩, fun z => ⟨z.1, e4.mpr ⟨fun y => absurd y q1, z.2⟩⟩⟩
      rw [bi_c pe, ← e2, p293_38]
      simp (disch := omega) only [p293_0, p293_1, p293_2, p293_5, p293_8, p293_9, p293_12, p293_13, p293_16, p293_19, p293_20, p293_21, p293_22, p293_23, p293_24, p293_26, p293_28, p293_31, p293_32, p293_35, p293_36, p293_40, p293_41, p293_44, p293_47, p293_50, p293_51, p293_54, p293_57, p293_59, p293_60, p293_61, p293_64, p293_67, p293_68, p293_71, p293_72, p293_75, p293_78, p293_80, p293_81, p293_84, p293_86, p293_87, p293_90, p293_92, p293_93, p293_96, p293_97, p293_100, p293_102, p293_105, p293_106, p293_109, p293_112, p293_114, p293_115, p293_118, p293_119, p293_122, p293_123, p293_124, p293_127, p293_131, p293_132, p293_135, p293_136, p293_139, p293_142, p293_146, jwd_c, jwd_0, Nat.reduceLeDiff, Nat.reduceEqDiff, Nat.reduceAdd, Nat.reduceSub, Nat.reduceMul, Int.reduceAdd, Int.reduceSub, Int.reduceMul, Int.reduceNeg, Int.reduceEq, Int.reduceLT, Int.reduceLE, jq_ldi_i, jq_ldl_l, jq_lda_a, jq_inc_i, jq_gs_t, jq_gsb_t, jq_gb_t, jq_gr_2, jq_gr_4, jq_gw_2, jq_s_t, jq_b_t, jg_c, jg_n, js_c, js_n, jrm_c, jrm_n, j2_i, j2_l, j2_a, jq_c_i, jq_c_l, jq_c_0, jq_c_n, jwd_le, jw_c0, mS_I, mS_R, mS_J, mN_I, mN_R, mN_J, mR_I, mI_R, mJ_I, mJ_R, mI_J, mR_J, ↓reduceIte, decide_true, or_true, true_or, and_self, false_or, or_false, reduceCtorEq, Bool.false_eq_true, and_false, false_and, eq_self, true_and, and_true, zero_ne, ↓br_lt_t, ↓br_lt_f, ↓br_eq_t, ↓br_eq_f, ↓br_lz_t, ↓br_lz_f, ↓br_ez_t, ↓br_ez_f, ↓br_gz_t, ↓br_gz_f, jw_id, jin_t, jix_t, MO.s0 hm, MO.s1 hm, MO.s2 hm, MO.s3 hm, MO.s4 hm, MO.s5 hm, MO.s6 hm, MO.s7 hm, MO.s8 hm, MO.s9 hm, MO.s10 hm, MO.s11 hm, MO.s12 hm, MO.s13 hm, MO.r1 hm, MO.r2 hm, MO.r3 hm, MO.r4 hm, MO.r5 hm, MO.r6 hm, MO.r7 hm, MO.r8 hm, MO.r9 hm, MO.r10 hm, MO.r11 hm, MO.r12 hm, MO.r13 hm, MH.s hh, MH.s1 hh, MH.s2 hh, MH.s3 hh, MH.s4 hh, MH.s5 hh, MH.s6 hh, MH.s7 hh, MH.s8 hh, MH.s9 hh, MH.s10 hh, MH.s11 hh, MH.s12 hh, MH.s13 hh, MH.s14 hh, MH.s15 hh, MH.r1 hh, MH.r2 hh, MH.r3 hh, MH.r4 hh, MH.r5 hh, MH.r6 hh, MH.r7 hh, MH.r8 hh, MH.r9 hh, MH.r10 hh, MH.r11 hh, MH.r12 hh, MH.r13 hh, MH.r14 hh, MH.r15 hh, MH.f0 hh, MH.f1 hh, MH.f2 hh, MH.f3 hh, MH.f4 hh, MH.f5 hh, MH.f6 hh, MH.f7 hh, MH.f8 hh, MH.f9 hh, MH.f10 hh, MH.f11 hh, MH.f12 hh, MH.f13 hh, MH.f14 hh, MH.f15 hh, MH.f16 hh, MH.a1 hh, MH.a2 hh, MH.a3 hh, MH.a4 hh, MH.a5 hh, MH.a6 hh, MH.a7 hh, MH.a8 hh, MH.a9 hh, MH.a10 hh, MH.a11 hh, MH.a12 hh, MH.a13 hh, MH.a14 hh, MH.a15 hh, h3, jr]
theorem t1p_jr {k : Nat} {t : jmL} (h : t1p k t) (a : Nat) (ha : a < k) : jrm t a = t := by
  rcases h with rfl | ⟨x, rfl⟩
  · rfl
  · rw [jrm_c, if_neg (by dsimp only; omega), if_neg (by dsimp only; omega)]
    rfl
theorem mfit_lp (hk : HOK H) {L : Int} (l1 : 0 ≤ L) (l2 : L ≤ 12) (s1 : ∀ k, k < 12 → 0 ≤ S k ∧ S k ≤ 3) {l : Int} : ∀ (n : Nat) (t : Int) (tl : jmL) (x : gX) (z : gZ) (w : jmW) (B : Int), MF w 242 h H L S 0 x → exq x z → z.2.1 = 0 → ZB H B (-1) z → B + n < 2147480000 → 0 ≤ t → t + n = 41 → t2p 4 tl → ∃ u x2 m, rn 293 (25, (0, jvr 238) :: (1, .inl l) :: (2, .inl 1) :: (3, .inl t) :: tl, [], w) = some (some (.inl (bi (gShs H L S n t z))), u) ∧ MF u 242 h H L S 0 x2 ∧ exq x2 (gFr H L S (-1) m z) ∧ Km 242 w u := by
  intro n
  induction n with
  | zero =>
    intro t tl x z w B m e hs hz hB t1 t2 ht
    refine ⟨w, x, 0, ?_, m, e, Km.rf _ _⟩
    have e2 : gShs H L S 0 t z = True := rfl
    rw [e2, bi_t trivial, p293_25]
    simp (disch := omega) only [p293_0, p293_1, p293_2, p293_5, p293_8, p293_9, p293_12, p293_13, p293_16, p293_19, p293_20, p293_21, p293_22, p293_23, p293_24, p293_26, p293_28, p293_31, p293_32, p293_35, p293_36, p293_40, p293_41, p293_44, p293_47, p293_50, p293_51, p293_54, p293_57, p293_59, p293_60, p293_61, p293_64, p293_67, p293_68, p293_71, p293_72, p293_75, p293_78, p293_80, p293_81, p293_84, p293_86, p293_87, p293_90, p293_92, p293_93, p293_96, p293_97, p293_100, p293_102, p293_105, p293_106, p293_109, p293_112, p293_114, p293_115, p293_118, p293_119, p293_122, p293_123, p293_124, p293_127, p293_131, p293_132, p293_135, p293_136, p293_139, p293_142, p293_146, jwd_c, jwd_0, Nat.reduceLeDiff, Nat.reduceEqDiff, Nat.reduceAdd, Nat.reduceSub, Nat.reduceMul, Int.reduceAdd, Int.reduceSub, Int.reduceMul, Int.reduceNeg, Int.reduceEq, Int.reduceLT, Int.reduceLE, jq_ldi_i, jq_ldl_l, jq_lda_a, jq_inc_i, jq_gs_t, jq_gsb_t, jq_gb_t, jq_gr_2, jq_gr_4, jq_gw_2, jq_s_t, jq_b_t, jg_c, jg_n, js_c, js_n, jrm_c, jrm_n, j2_i, j2_l, j2_a, jq_c_i, jq_c_l, jq_c_0, jq_c_n, jwd_le, jw_c0, mS_I, mS_R, mS_J, mN_I, mN_R, mN_J, mR_I, mI_R, mJ_I, mJ_R, mI_J, mR_J, ↓reduceIte, decide_true, or_true, true_or, and_self, false_or, or_false, reduceCtorEq, Bool.false_eq_true, and_false, false_and, eq_self, true_and, and_true, zero_ne, ↓br_lt_t, ↓br_lt_f, ↓br_eq_t, ↓br_eq_f, ↓br_lz_t, ↓br_lz_f, ↓br_ez_t, ↓br_ez_f, ↓br_gz_t, ↓br_gz_f, jw_id, jin_t, jix_t]
    rw [p293_145]
    simp (disch := omega) only [p293_0, p293_1, p293_2, p293_5, p293_8, p293_9, p293_12, p293_13, p293_16, p293_19, p293_20, p293_21, p293_22, p293_23, p293_24, p293_26, p293_28, p293_31, p293_32, p293_35, p293_36, p293_40, p293_41, p293_44, p293_47, p293_50, p293_51, p293_54, p293_57, p293_59, p293_60, p293_61, p293_64, p293_67, p293_68, p293_71, p293_72, p293_75, p293_78, p293_80, p293_81, p293_84, p293_86, p293_87, p293_90, p293_92, p293_93, p293_96, p293_97, p293_100, p293_102, p293_105, p293_106, p293_109, p293_112, p293_114, p293_115, p293_118, p293_119, p293_122, p293_123, p293_124, p293_127, p293_131, p293_132, p293_135, p293_136, p293_139, p293_142, p293_146, jwd_c, jwd_0, Nat.reduceLeDiff, Nat.reduceEqDiff, Nat.reduceAdd, Nat.reduceSub, Nat.reduceMul, Int.reduceAdd, Int.reduceSub, Int.reduceMul, Int.reduceNeg, Int.reduceEq, Int.reduceLT, Int.reduceLE, jq_ldi_i, jq_ldl_l, jq_lda_a, jq_inc_i, jq_gs_t, jq_gsb_t, jq_gb_t, jq_gr_2, jq_gr_4, jq_gw_2, jq_s_t, jq_b_t, jg_c, jg_n, js_c, js_n, jrm_c, jrm_n, j2_i, j2_l, j2_a, jq_c_i, jq_c_l, jq_c_0, jq_c_n, jwd_le, jw_c0, mS_I, mS_R, mS_J, mN_I, mN_R, mN_J, mR_I, mI_R, mJ_I, mJ_R, mI_J, mR_J, ↓reduceIte, decide_true, or_true, true_or, and_self, false_or, or_false, reduceCtorEq, Bool.false_eq_true, and_false, false_and, eq_self, true_and, and_true, zero_ne, ↓br_lt_t, ↓br_lt_f, ↓br_eq_t, ↓br_eq_f, ↓br_lz_t, ↓br_lz_f, ↓br_ez_t, ↓br_ez_f, ↓br_gz_t, ↓br_gz_f, jw_id, jin_t, jix_t]
  | succ n ih =>
    intro t tl x z w B m e hs hz hB t1 t2 ht
    obtain ⟨a1, a2, a3, a4, a5⟩ := m
    have hm := a1
    have m : MF w 242 h H L S 0 x := ⟨a1, a2, a3, a4, a5⟩
    have eS : gShs H L S (n + 1) t z ↔ gFrs H z.1.1 t 0 ∧ gShs H L S n (t + 1) (gF1 H L S (-1) z) := Iff.rfl
    have k8 := hk.2.1
    have ej : ∃ tl0, js tl 4 (.inl 0) = (4, .inl 0) :: tl0 ∧ t1p 5 tl0 := by
      rcases ht with (rfl | ⟨y, rfl⟩) | ⟨y, t2, rfl, h2⟩
      · exact ⟨[], rfl, Or.inl rfl⟩
      · refine ⟨[], ?_, Or.inl rfl⟩
        rw [js_c, if_pos rfl]
        rfl
      · refine ⟨t2, ?_, h2⟩
        rw [js_c, if_pos rfl, t1p_jr h2 4 (by omega)]
    obtain ⟨tl0, j0, h0⟩ := ej
    obtain ⟨tl2, e1, t3⟩ := mfr_lp (l := l) hk a1 a2 a3 a4 (B := B) (by rw [e.1]; exact hz.1.1) (by rw [e.1]; exact hz.1.2.1) (by rw [e.1]; exact hz.1.2.2.1) (t := t) t1 (by omega) (H 0 8).toNat 0 True tl0 (by omega) (by omega) h0
    rw [bi_t trivial, e.1, bi_c (show (True ∧ gFrs H z.1.1 t 0) ↔ gFrs H z.1.1 t 0 from ⟨fun y => y.2, fun y => ⟨trivial, y⟩⟩)] at e1
    obtain ⟨w1, e2, m1, -, k1, -⟩ := mF_beat m (Or.inr rfl) hk (by omega) (by omega) l1 l2 s1 (by rw [e.1]; exact hz.1) (by omega) (st := 0) (Or.inl rfl)
    have ex1 : exq (gBeat H L S 0 0 x) (gF1 H L S (-1) z) := e.step rfl (Or.inr (by rw [hs]; rfl))
    have hd : rn 293 (25, (0, jvr 238) :: (1, .inl l) :: (2, .inl 1) :: (3, .inl t) :: tl, [], w) = rn 293 (25, (0, jvr 238) :: (1, .inl l) :: (2, .inl (bi (gFrs H z.1.1 t 0))) :: (3, .inl (t + 1)) :: (4, .inl (H 0 8)) :: tl2, [], w1) := by
      rw [p293_25]
      have st : rn 293 (35, (0, jvr 238) :: (1, .inl l) :: (2, .inl 1) :: (3, .inl t) :: tl, [], w) = rn 293 (130, (0, jvr 238) :: (1, .inl l) :: (2, .inl (bi (gFrs H z.1.1 t 0))) :: (3, .inl t) :: (4, .inl (H 0 8)) :: tl2, [], w) := by
        rw [← e1]
        simp (disch := omega) only [p293_0, p293_1, p293_2, p293_5, p293_8, p293_9, p293_12, p293_13, p293_16, p293_19, p293_20, p293_21, p293_22, p293_23, p293_24, p293_26, p293_28, p293_31, p293_32, p293_35, p293_36, p293_40, p293_41, p293_44, p293_47, p293_50, p293_51, p293_54, p293_57, p293_59, p293_60, p293_61, p293_64, p293_67, p293_68, p293_71, p293_72, p293_75, p293_78, p293_80, p293_81, p293_84, p293_86, p293_87, p293_90, p293_92, p293_93, p293_96, p293_97, p293_100, p293_102, p293_105, p293_106, p293_109, p293_112, p293_114, p293_115, p293_118, p293_119, p293_122, p293_123, p293_124, p293_127, p293_131, p293_132, p293_135, p293_136, p293_139, p293_142, p293_146, jwd_c, jwd_0, Nat.reduceLeDiff, Nat.reduceEqDiff, Nat.reduceAdd, Nat.reduceSub, Nat.reduceMul, Int.reduceAdd, Int.reduceSub, Int.reduceMul, Int.reduceNeg, Int.reduceEq, Int.reduceLT, Int.reduceLE, jq_ldi_i, jq_ldl_l, jq_lda_a, jq_inc_i, jq_gs_t, jq_gsb_t, jq_gb_t, jq_gr_2, jq_gr_4, jq_gw_2, jq_s_t, jq_b_t, jg_c, jg_n, js_c, js_n, jrm_c, jrm_n, j2_i, j2_l, j2_a, jq_c_i, jq_c_l, jq_c_0, jq_c_n, jwd_le, jw_c0, mS_I, mS_R, mS_J, mN_I, mN_R, mN_J, mR_I, mI_R, mJ_I, mJ_R, mI_J, mR_J, ↓reduceIte, decide_true, or_true, true_or, and_self, false_or, or_false, reduceCtorEq, Bool.false_eq_true, and_false, false_and, eq_self, true_and, and_true, zero_ne, ↓br_lt_t, ↓br_lt_f, ↓br_eq_t, ↓br_eq_f, ↓br_lz_t, ↓br_lz_f, ↓br_ez_t, ↓br_ez_f, ↓br_gz_t, ↓br_gz_f, jw_id, jin_t, jix_t, j0]
      simp (disch := omega) only [p293_0, p293_1, p293_2, p293_5, p293_8, p293_9, p293_12, p293_13, p293_16, p293_19, p293_20, p293_21, p293_22, p293_23, p293_24, p293_26, p293_28, p293_31, p293_32, p293_36, p293_40, p293_41, p293_44, p293_47, p293_50, p293_51, p293_54, p293_57, p293_59, p293_60, p293_61, p293_64, p293_67, p293_68, p293_71, p293_72, p293_75, p293_78, p293_80, p293_81, p293_84, p293_86, p293_87, p293_90, p293_92, p293_93, p293_96, p293_97, p293_100, p293_102, p293_105, p293_106, p293_109, p293_112, p293_114, p293_115, p293_118, p293_119, p293_122, p293_123, p293_124, p293_127, p293_131, p293_132, p293_135, p293_136, p293_139, p293_142, p293_146, jwd_c, jwd_0, Nat.reduceLeDiff, Nat.reduceEqDiff, Nat.reduceAdd, Nat.reduceSub, Nat.reduceMul, Int.reduceAdd, Int.reduceSub, Int.reduceMul, Int.reduceNeg, Int.reduceEq, Int.reduceLT, Int.reduceLE, jq_ldi_i, jq_ldl_l, jq_lda_a, jq_inc_i, jq_gs_t, jq_gsb_t, jq_gb_t, jq_gr_2, jq_gr_4, jq_gw_2, jq_s_t, jq_b_t, jg_c, jg_n, js_c, js_n, jrm_c, jrm_n, j2_i, j2_l, j2_a, jq_c_i, jq_c_l, jq_c_0, jq_c_n, jwd_le, jw_c0, mS_I, mS_R, mS_J, mN_I, mN_R, mN_J, mR_I, mI_R, mJ_I, mJ_R, mI_J, mR_J, ↓reduceIte, decide_true, or_true, true_or, and_self, false_or, or_false, reduceCtorEq, Bool.false_eq_true, and_false, false_and, eq_self, true_and, and_true, zero_ne, ↓br_lt_t, ↓br_lt_f, ↓br_eq_t, ↓br_eq_f, ↓br_lz_t, ↓br_lz_f, ↓br_ez_t, ↓br_ez_f, ↓br_gz_t, ↓br_gz_f, jw_id, jin_t, jix_t]
      rw [st, p293_130]
      have J : ∀ a, a < 5 → jrm tl2 a = tl2 := fun a ha => t1p_jr t3 a ha
      simp (disch := omega) only [p293_0, p293_1, p293_2, p293_5, p293_8, p293_9, p293_12, p293_13, p293_16, p293_19, p293_20, p293_21, p293_22, p293_23, p293_24, p293_26, p293_28, p293_31, p293_32, p293_35, p293_36, p293_40, p293_41, p293_44, p293_47, p293_50, p293_51, p293_54, p293_57, p293_59, p293_60, p293_61, p293_64, p293_67, p293_68, p293_71, p293_72, p293_75, p293_78, p293_80, p293_81, p293_84, p293_86, p293_87, p293_90, p293_92, p293_93, p293_96, p293_97, p293_100, p293_102, p293_105, p293_106, p293_109, p293_112, p293_114, p293_115, p293_118, p293_119, p293_122, p293_123, p293_124, p293_127, p293_131, p293_132, p293_135, p293_136, p293_139, p293_142, p293_146, jwd_c, jwd_0, Nat.reduceLeDiff, Nat.reduceEqDiff, Nat.reduceAdd, Nat.reduceSub, Nat.reduceMul, Int.reduceAdd, Int.reduceSub, Int.reduceMul, Int.reduceNeg, Int.reduceEq, Int.reduceLT, Int.reduceLE, jq_ldi_i, jq_ldl_l, jq_lda_a, jq_inc_i, jq_gs_t, jq_gsb_t, jq_gb_t, jq_gr_2, jq_gr_4, jq_gw_2, jq_s_t, jq_b_t, jg_c, jg_n, js_c, js_n, jrm_c, jrm_n, j2_i, j2_l, j2_a, jq_c_i, jq_c_l, jq_c_0, jq_c_n, jwd_le, jw_c0, mS_I, mS_R, mS_J, mN_I, mN_R, mN_J, mR_I, mI_R, mJ_I, mJ_R, mI_J, mR_J, ↓reduceIte, decide_true, or_true, true_or, and_self, false_or, or_false, reduceCtorEq, Bool.false_eq_true, and_false, false_and, eq_self, true_and, and_true, zero_ne, ↓br_lt_t, ↓br_lt_f, ↓br_eq_t, ↓br_eq_f, ↓br_lz_t, ↓br_lz_f, ↓br_ez_t, ↓br_ez_f, ↓br_gz_t, ↓br_gz_f, jw_id, jin_t, jix_t, MO.s0 hm, MO.s1 hm, MO.s2 hm, MO.s3 hm, MO.s4 hm, MO.s5 hm, MO.s6 hm, MO.s7 hm, MO.s8 hm, MO.s9 hm, MO.s10 hm, MO.s11 hm, MO.s12 hm, MO.s13 hm, MO.r1 hm, MO.r2 hm, MO.r3 hm, MO.r4 hm, MO.r5 hm, MO.r6 hm, MO.r7 hm, MO.r8 hm, MO.r9 hm, MO.r10 hm, MO.r11 hm, MO.r12 hm, MO.r13 hm, e2, J]
    rw [hd]
    by_cases q : gFrs H z.1.1 t 0
    · rw [bi_t q, bi_c (eS.trans ⟨fun y => y.2, fun y => ⟨q, y⟩⟩)]
      obtain ⟨u, x2, mm, e3, m3, ex3, k3⟩ := ih (t + 1) ((4, .inl (H 0 8)) :: tl2) _ _ w1 (B + 1) m1 ex1 (f1_s hs) (f1_zb hk l2 s1 hz) (by omega) (by omega) (by omega) (Or.inr ⟨_, _, rfl, t3⟩)
      exact ⟨u, x2, mm + 1, e3, m3, ex3, k1.tr k3⟩
    · rw [bi_f q, bi_f (fun y => q (eS.mp y).1)]
      refine ⟨w1, _, 1, ?_, m1, ex1, k1⟩
      by_cases q9 : 40 < t + 1
      · rw [p293_25]
        simp (disch := omega) only [p293_0, p293_1, p293_2, p293_5, p293_8, p293_9, p293_12, p293_13, p293_16, p293_19, p293_20, p293_21, p293_22, p293_23, p293_24, p293_26, p293_28, p293_31, p293_32, p293_35, p293_36, p293_40, p293_41, p293_44, p293_47, p293_50, p293_51, p293_54, p293_57, p293_59, p293_60, p293_61, p293_64, p293_67, p293_68, p293_71, p293_72, p293_75, p293_78, p293_80, p293_81, p293_84, p293_86, p293_87, p293_90, p293_92, p293_93, p293_96, p293_97, p293_100, p293_102, p293_105, p293_106, p293_109, p293_112, p293_114, p293_115, p293_118, p293_119, p293_122, p293_123, p293_124, p293_127, p293_131, p293_132, p293_135, p293_136, p293_139, p293_142, p293_146, jwd_c, jwd_0, Nat.reduceLeDiff, Nat.reduceEqDiff, Nat.reduceAdd, Nat.reduceSub, Nat.reduceMul, Int.reduceAdd, Int.reduceSub, Int.reduceMul, Int.reduceNeg, Int.reduceEq, Int.reduceLT, Int.reduceLE, jq_ldi_i, jq_ldl_l, jq_lda_a, jq_inc_i, jq_gs_t, jq_gsb_t, jq_gb_t, jq_gr_2, jq_gr_4, jq_gw_2, jq_s_t, jq_b_t, jg_c, jg_n, js_c, js_n, jrm_c, jrm_n, j2_i, j2_l, j2_a, jq_c_i, jq_c_l, jq_c_0, jq_c_n, jwd_le, jw_c0, mS_I, mS_R, mS_J, mN_I, mN_R, mN_J, mR_I, mI_R, mJ_I, mJ_R, mI_J, mR_J, ↓reduceIte, decide_true, or_true, true_or, and_self, false_or, or_false, reduceCtorEq, Bool.false_eq_true, and_false, false_and, eq_self, true_and, and_true, zero_ne, ↓br_lt_t, ↓br_lt_f, ↓br_eq_t, ↓br_eq_f, ↓br_lz_t, ↓br_lz_f, ↓br_ez_t, ↓br_ez_f, ↓br_gz_t, ↓br_gz_f, jw_id, jin_t, jix_t]
        rw [p293_145]
        simp (disch := omega) only [p293_0, p293_1, p293_2, p293_5, p293_8, p293_9, p293_12, p293_13, p293_16, p293_19, p293_20, p293_21, p293_22, p293_23, p293_24, p293_26, p293_28, p293_31, p293_32, p293_35, p293_36, p293_40, p293_41, p293_44, p293_47, p293_50, p293_51, p293_54, p293_57, p293_59, p293_60, p293_61, p293_64, p293_67, p293_68, p293_71, p293_72, p293_75, p293_78, p293_80, p293_81, p293_84, p293_86, p293_87, p293_90, p293_92, p293_93, p293_96, p293_97, p293_100, p293_102, p293_105, p293_106, p293_109, p293_112, p293_114, p293_115, p293_118, p293_119, p293_122, p293_123, p293_124, p293_127, p293_131, p293_132, p293_135, p293_136, p293_139, p293_142, p293_146, jwd_c, jwd_0, Nat.reduceLeDiff, Nat.reduceEqDiff, Nat.reduceAdd, Nat.reduceSub, Nat.reduceMul, Int.reduceAdd, Int.reduceSub, Int.reduceMul, Int.reduceNeg, Int.reduceEq, Int.reduceLT, Int.reduceLE, jq_ldi_i, jq_ldl_l, jq_lda_a, jq_inc_i, jq_gs_t, jq_gsb_t, jq_gb_t, jq_gr_2, jq_gr_4, jq_gw_2, jq_s_t, jq_b_t, jg_c, jg_n, js_c, js_n, jrm_c, jrm_n, j2_i, j2_l, j2_a, jq_c_i, jq_c_l, jq_c_0, jq_c_n, jwd_le, jw_c0, mS_I, mS_R, mS_J, mN_I, mN_R, mN_J, mR_I, mI_R, mJ_I, mJ_R, mI_J, mR_J, ↓reduceIte, decide_true, or_true, true_or, and_self, false_or, or_false, reduceCtorEq, Bool.false_eq_true, and_false, false_and, eq_self, true_and, and_true, zero_ne, ↓br_lt_t, ↓br_lt_f, ↓br_eq_t, ↓br_eq_f, ↓br_lz_t, ↓br_lz_f, ↓br_ez_t, ↓br_ez_f, ↓br_gz_t, ↓br_gz_f, jw_id, jin_t, jix_t]
      · rw [p293_25]
        simp (disch := omega) only [p293_0, p293_1, p293_2, p293_5, p293_8, p293_9, p293_12, p293_13, p293_16, p293_19, p293_20, p293_21, p293_22, p293_23, p293_24, p293_26, p293_28, p293_31, p293_32, p293_35, p293_36, p293_40, p293_41, p293_44, p293_47, p293_50, p293_51, p293_54, p293_57, p293_59, p293_60, p293_61, p293_64, p293_67, p293_68, p293_71, p293_72, p293_75, p293_78, p293_80, p293_81, p293_84, p293_86, p293_87, p293_90, p293_92, p293_93, p293_96, p293_97, p293_100, p293_102, p293_105, p293_106, p293_109, p293_112, p293_114, p293_115, p293_118, p293_119, p293_122, p293_123, p293_124, p293_127, p293_131, p293_132, p293_135, p293_136, p293_139, p293_142, p293_146, jwd_c, jwd_0, Nat.reduceLeDiff, Nat.reduceEqDiff, Nat.reduceAdd, Nat.reduceSub, Nat.reduceMul, Int.reduceAdd, Int.reduceSub, Int.reduceMul, Int.reduceNeg, Int.reduceEq, Int.reduceLT, Int.reduceLE, jq_ldi_i, jq_ldl_l, jq_lda_a, jq_inc_i, jq_gs_t, jq_gsb_t, jq_gb_t, jq_gr_2, jq_gr_4, jq_gw_2, jq_s_t, jq_b_t, jg_c, jg_n, js_c, js_n, jrm_c, jrm_n, j2_i, j2_l, j2_a, jq_c_i, jq_c_l, jq_c_0, jq_c_n, jwd_le, jw_c0, mS_I, mS_R, mS_J, mN_I, mN_R, mN_J, mR_I, mI_R, mJ_I, mJ_R, mI_J, mR_J, ↓reduceIte, decide_true, or_true, true_or, and_self, false_or, or_false, reduceCtorEq, Bool.false_eq_true, and_false, false_and, eq_self, true_and, and_true, zero_ne, ↓br_lt_t, ↓br_lt_f, ↓br_eq_t, ↓br_eq_f, ↓br_lz_t, ↓br_lz_f, ↓br_ez_t, ↓br_ez_f, ↓br_gz_t, ↓br_gz_f, jw_id, jin_t, jix_t]
        rw [p293_145]
        simp (disch := omega) only [p293_0, p293_1, p293_2, p293_5, p293_8, p293_9, p293_12, p293_13, p293_16, p293_19, p293_20, p293_21, p293_22, p293_23, p293_24, p293_26, p293_28, p293_31, p293_32, p293_35, p293_36, p293_40, p293_41, p293_44, p293_47, p293_50, p293_51, p293_54, p293_57, p293_59, p293_60, p293_61, p293_64, p293_67, p293_68, p293_71, p293_72, p293_75, p293_78, p293_80, p293_81, p293_84, p293_86, p293_87, p293_90, p293_92, p293_93, p293_96, p293_97, p293_100, p293_102, p293_105, p293_106, p293_109, p293_112, p293_114, p293_115, p293_118, p293_119, p293_122, p293_123, p293_124, p293_127, p293_131, p293_132, p293_135, p293_136, p293_139, p293_142, p293_146, jwd_c, jwd_0, Nat.reduceLeDiff, Nat.reduceEqDiff, Nat.reduceAdd, Nat.reduceSub, Nat.reduceMul, Int.reduceAdd, Int.reduceSub, Int.reduceMul, Int.reduceNeg, Int.reduceEq, Int.reduceLT, Int.reduceLE, jq_ldi_i, jq_ldl_l, jq_lda_a, jq_inc_i, jq_gs_t, jq_gsb_t, jq_gb_t, jq_gr_2, jq_gr_4, jq_gw_2, jq_s_t, jq_b_t, jg_c, jg_n, js_c, js_n, jrm_c, jrm_n, j2_i, j2_l, j2_a, jq_c_i, jq_c_l, jq_c_0, jq_c_n, jwd_le, jw_c0, mS_I, mS_R, mS_J, mN_I, mN_R, mN_J, mR_I, mI_R, mJ_I, mJ_R, mI_J, mR_J, ↓reduceIte, decide_true, or_true, true_or, and_self, false_or, or_false, reduceCtorEq, Bool.false_eq_true, and_false, false_and, eq_self, true_and, and_true, zero_ne, ↓br_lt_t, ↓br_lt_f, ↓br_eq_t, ↓br_eq_f, ↓br_lz_t, ↓br_lz_f, ↓br_ez_t, ↓br_ez_f, ↓br_gz_t, ↓br_gz_f, jw_id, jin_t, jix_t]
/-- the first row, laid over the other -/
def fV (w : jmW) (H : Nat → Nat → Int) (S q g : Nat → Int) : Prop := q = gCp (gS0 H) (mI w 242) ∧ S = gS1 H (mI w 247) ∧ g = gG0 (mI w 248)
theorem fV.z {w0 : jmW} (hu : fV w H S q g) (hw0 : setI w 238 0 0 = w0) : fV w0 H S q g := by
  subst hw0
  obtain ⟨h1, h2, h3⟩ := hu
  exact ⟨by rw [mI_nb (by omega)]; exact h1, by rw [mI_nb (by omega)]; exact h2, by rw [mI_nb (by omega)]; exact h3⟩
theorem m_fitsBy (hk : HOK H) (hsn : HS H) (b : fB H r S q g B) (hq : rQ (gS0 H) q) {l : Int} (l1 : 0 ≤ l) (l2 : l ≤ 4) {w : jmW} (hQ : MQh w h H) (hu : fV w H S q g) : ∃ u, rn 293 (0, [(0, jvr 238), (1, .inl l)], [], w) = some (some (.inl (bi (gShs H (H 0 6) S 41 0 (gZ0 (up1 q 291 l) g)))), u) ∧ MQh u h H ∧ fV u H S q g ∧ Km 242 w u := by
  have k6 := hk.2.1
  have rs := (ri_S0 (B := 0) hk hsn (Int.le_refl _)).1
  have rq := hq.ri rs
  obtain ⟨hm, hh, h3⟩ := hQ
  have hQ : MQh w h H := ⟨hm, hh, h3⟩
  obtain ⟨u1, u2, u3⟩ := hu
  have e1 := m_start hm hh h3 hk hsn (a := 242) (Or.inr rfl)
  rw [← u1] at e1
  have k1 : Km 242 w (setA w 242 q) := Km.A (Or.inl rfl) (by omega)
  obtain ⟨w2, e2, m2, k2⟩ := mF_plain (hQ.km k1 (by omega)) (Or.inr rfl) (-1)
  rw [mI_nA (b := 247) (by omega), mI_nA (b := 248) (by omega), mI_A, ← u2, ← u3] at m2
  have m3 := m2.row (k := 291) (x := l)
  have k3 : Km 242 w2 (setI w2 242 291 l) := Km.B (Or.inl rfl) (by omega)
  have zb := zb0 (p := -1) (g := g) (u_ri rq (Or.inl ⟨rfl, l1, by omega⟩)) (Int.le_refl _) (Or.inl rfl)
  obtain ⟨u, x2, mm, e4, m4, ex4, k4⟩ := mfit_lp (l := l) hk (by omega) (by omega) b.s1 41 0 [] _ (gZ0 (up1 q 291 l) g) _ 0 m3 ⟨rfl, rfl, rfl, rfl⟩ rfl zb (by omega) (by omega) (by omega) (Or.inl (Or.inl rfl))
  have kA := ((k1.tr k2).tr k3).tr k4
  have hi := fr_hi hk (L := H 0 6) (p := -1) (by omega) b.s1 mm (gZ0 (up1 q 291 l) g) 0 zb
  refine ⟨u, ?_, m4.mq, ⟨?_, ?_, ?_⟩, kA⟩
  · rw [← e4]
    have hm2 := m2.1
    have z2 : mS (setA w 242 q) 238 = (1, 9, 0) := hm.s0
    simp (disch := omega) only [p293_0, p293_1, p293_2, p293_5, p293_8, p293_9, p293_12, p293_13, p293_16, p293_19, p293_20, p293_21, p293_22, p293_23, p293_24, p293_26, p293_28, p293_31, p293_32, p293_35, p293_36, p293_40, p293_41, p293_44, p293_47, p293_50, p293_51, p293_54, p293_57, p293_59, p293_60, p293_61, p293_64, p293_67, p293_68, p293_71, p293_72, p293_75, p293_78, p293_80, p293_81, p293_84, p293_86, p293_87, p293_90, p293_92, p293_93, p293_96, p293_97, p293_100, p293_102, p293_105, p293_106, p293_109, p293_112, p293_114, p293_115, p293_118, p293_119, p293_122, p293_123, p293_124, p293_127, p293_131, p293_132, p293_135, p293_136, p293_139, p293_142, p293_146, jwd_c, jwd_0, Nat.reduceLeDiff, Nat.reduceEqDiff, Nat.reduceAdd, Nat.reduceSub, Nat.reduceMul, Int.reduceAdd, Int.reduceSub, Int.reduceMul, Int.reduceNeg, Int.reduceEq, Int.reduceLT, Int.reduceLE, jq_ldi_i, jq_ldl_l, jq_lda_a, jq_inc_i, jq_gs_t, jq_gsb_t, jq_gb_t, jq_gr_2, jq_gr_4, jq_gw_2, jq_s_t, jq_b_t, jg_c, jg_n, js_c, js_n, jrm_c, jrm_n, j2_i, j2_l, j2_a, jq_c_i, jq_c_l, jq_c_0, jq_c_n, jwd_le, jw_c0, mS_I, mS_R, mS_J, mN_I, mN_R, mN_J, mR_I, mI_R, mJ_I, mJ_R, mI_J, mR_J, ↓reduceIte, decide_true, or_true, true_or, and_self, false_or, or_false, reduceCtorEq, Bool.false_eq_true, and_false, false_and, eq_self, true_and, and_true, zero_ne, ↓br_lt_t, ↓br_lt_f, ↓br_eq_t, ↓br_eq_f, ↓br_lz_t, ↓br_lz_f, ↓br_ez_t, ↓br_ez_f, ↓br_gz_t, ↓br_gz_f, jw_id, jin_t, jix_t, MO.s0 hm, MO.s1 hm, MO.s2 hm, MO.s3 hm, MO.s4 hm, MO.s5 hm, MO.s6 hm, MO.s7 hm, MO.s8 hm, MO.s9 hm, MO.s10 hm, MO.s11 hm, MO.s12 hm, MO.s13 hm, MO.r1 hm, MO.r2 hm, MO.r3 hm, MO.r4 hm, MO.r5 hm, MO.r6 hm, MO.r7 hm, MO.r8 hm, MO.r9 hm, MO.r10 hm, MO.r11 hm, MO.r12 hm, MO.r13 hm, e1, z2, e2, MO.s0 hm2, MO.r4 hm2, MO.s4 hm2, Int.reduceToNat]
  · have q9 : q = gCp (gS0 H) q := by
      funext k
      unfold gCp
      by_cases z : k < 298
      · rw [if_pos z]
        exact hq k z
      · rw [if_neg z]
    rw [q9]
    funext k
    unfold gCp
    by_cases z : k < 298
    · rw [if_pos z, if_pos z]
    · rw [if_neg z, if_neg z, m4.2.2.2.1, ex4.1, hi.1 k (by omega)]
      exact (up1_n (by omega)).symm
  · have := m4.2.2.2.2.2.2.2.2.2
    rw [this]
    funext k
    unfold gS1
    by_cases z : k < 12
    · rw [if_pos z, b.2.2.2.2.2.1 k z]
    · rw [if_neg z]
  · rw [m4.2.2.2.2.1, ex4.2.1]
    funext k
    unfold gG0
    by_cases z : k < 128
    · rw [if_pos z, u3]
      exact if_pos z
    · rw [if_neg z, hi.2.1 k (by omega)]
      rfl
theorem mfits_lp (hk : HOK H) (hsn : HS H) (b : fB H r S q g B) (hq : rQ (gS0 H) q) : ∀ (n : Nat) (l a : Int) (w : jmW), MQh w h H → fV w H S q g → 0 ≤ l → l + n = 5 → ∃ u, rn 292 (22, [(0, jvr 238), (1, .inl a), (2, .inl l)], [], w) = some (some (.inl (gFt H S q g n l a)), setI (setI u 238 1 0) 238 2 (-1)) ∧ Km 242 w u := by
  intro n
  induction n with
  | zero =>
    intro l a w hQ hu l1 l2
    have hm := hQ.1
    refine ⟨w, ?_, Km.rf _ _⟩
    have e : gFt H S q g 0 l a = a := rfl
    rw [e, p292_22]
    simp (disch := omega) only [p292_0, p292_1, p292_2, p292_5, p292_6, p292_9n, p292_9s, p292_12, p292_13, p292_14, p292_17, p292_18, p292_19, p292_20, p292_21, p292_23, p292_24, p292_27, p292_28, p292_29, p292_30, p292_33, p292_36, p292_37, p292_38, p292_39, p292_42, p292_43, p292_44, p292_45, p292_48, p292_51, p292_52, p292_53, p292_56, p213_0, p213_1, p213_2, p213_5, p213_6, p213_7, p213_10, p213_11, p176_0, p176_1, p176_2, p176_5, p176_6, p176_7, p176_10, p176_11, p297_0, p297_1, p297_2, p297_5, p297_6, p297_7, p298_0, p298_1, p298_2, p298_5, p298_6, p298_7, jwd_c, jwd_0, Nat.reduceLeDiff, Nat.reduceEqDiff, Nat.reduceAdd, Nat.reduceSub, Nat.reduceMul, Int.reduceAdd, Int.reduceSub, Int.reduceMul, Int.reduceNeg, Int.reduceEq, Int.reduceLT, Int.reduceLE, jq_ldi_i, jq_ldl_l, jq_lda_a, jq_inc_i, jq_gs_t, jq_gsb_t, jq_gb_t, jq_gr_2, jq_gr_4, jq_gw_2, jq_s_t, jq_b_t, jg_c, jg_n, js_c, js_n, jrm_c, jrm_n, j2_i, j2_l, j2_a, jq_c_i, jq_c_l, jq_c_0, jq_c_n, jwd_le, jw_c0, mS_I, mS_R, mS_J, mN_I, mN_R, mN_J, mR_I, mI_R, mJ_I, mJ_R, mI_J, mR_J, ↓reduceIte, decide_true, or_true, true_or, and_self, false_or, or_false, reduceCtorEq, Bool.false_eq_true, and_false, false_and, eq_self, true_and, and_true, zero_ne, ↓br_lt_t, ↓br_lt_f, ↓br_eq_t, ↓br_eq_f, ↓br_lz_t, ↓br_lz_f, ↓br_ez_t, ↓br_ez_f, ↓br_gz_t, ↓br_gz_f, jw_id, jin_t, jix_t, MO.s0 hm, MO.s1 hm, MO.s2 hm, MO.s3 hm, MO.s4 hm, MO.s5 hm, MO.s6 hm, MO.s7 hm, MO.s8 hm, MO.s9 hm, MO.s10 hm, MO.s11 hm, MO.s12 hm, MO.s13 hm, MO.r1 hm, MO.r2 hm, MO.r3 hm, MO.r4 hm, MO.r5 hm, MO.r6 hm, MO.r7 hm, MO.r8 hm, MO.r9 hm, MO.r10 hm, MO.r11 hm, MO.r12 hm, MO.r13 hm]
  | succ n ih =>
    intro l a w hQ hu l1 l2
    have hm := hQ.1
    have e : gFt H S q g (n + 1) l a = gFt H S q g n (l + 1) (ji_or a (ci (gShs H (H 0 6) S 41 0 (gZ0 (up1 q 291 l) g)) (ji_shl 1 l) 0)) := rfl
    obtain ⟨w1, e1, Q1, u1, k1⟩ := m_fitsBy hk hsn b hq l1 (by omega) hQ hu
    obtain ⟨u, e5, k5⟩ := ih (l + 1) (ji_or a (ci (gShs H (H 0 6) S 41 0 (gZ0 (up1 q 291 l) g)) (ji_shl 1 l) 0)) w1 Q1 u1 (by omega) (by omega)
    refine ⟨u, ?_, k1.tr k5⟩
    rw [e, ← e5, p292_22]
    by_cases q1 : gShs H (H 0 6) S 41 0 (gZ0 (up1 q 291 l) g)
    · rw [bi_t q1] at e1
      rw [ci_t q1]
      simp (disch := omega) only [p292_0, p292_1, p292_2, p292_5, p292_6, p292_9n, p292_9s, p292_12, p292_13, p292_14, p292_17, p292_18, p292_19, p292_20, p292_21, p292_23, p292_24, p292_27, p292_28, p292_29, p292_30, p292_33, p292_36, p292_37, p292_38, p292_39, p292_42, p292_43, p292_44, p292_45, p292_48, p292_51, p292_52, p292_53, p292_56, jwd_c, jwd_0, Nat.reduceLeDiff, Nat.reduceEqDiff, Nat.reduceAdd, Nat.reduceSub, Nat.reduceMul, Int.reduceAdd, Int.reduceSub, Int.reduceMul, Int.reduceNeg, Int.reduceEq, Int.reduceLT, Int.reduceLE, jq_ldi_i, jq_ldl_l, jq_lda_a, jq_inc_i, jq_gs_t, jq_gsb_t, jq_gb_t, jq_gr_2, jq_gr_4, jq_gw_2, jq_s_t, jq_b_t, jg_c, jg_n, js_c, js_n, jrm_c, jrm_n, j2_i, j2_l, j2_a, jq_c_i, jq_c_l, jq_c_0, jq_c_n, jwd_le, jw_c0, mS_I, mS_R, mS_J, mN_I, mN_R, mN_J, mR_I, mI_R, mJ_I, mJ_R, mI_J, mR_J, ↓reduceIte, decide_true, or_true, true_or, and_self, false_or, or_false, reduceCtorEq, Bool.false_eq_true, and_false, false_and, eq_self, true_and, and_true, zero_ne, ↓br_lt_t, ↓br_lt_f, ↓br_eq_t, ↓br_eq_f, ↓br_lz_t, ↓br_lz_f, ↓br_ez_t, ↓br_ez_f, ↓br_gz_t, ↓br_gz_f, jw_id, jin_t, jix_t, MO.s0 hm, MO.s1 hm, MO.s2 hm, MO.s3 hm, MO.s4 hm, MO.s5 hm, MO.s6 hm, MO.s7 hm, MO.s8 hm, MO.s9 hm, MO.s10 hm, MO.s11 hm, MO.s12 hm, MO.s13 hm, MO.r1 hm, MO.r2 hm, MO.r3 hm, MO.r4 hm, MO.r5 hm, MO.r6 hm, MO.r7 hm, MO.r8 hm, MO.r9 hm, MO.r10 hm, MO.r11 hm, MO.r12 hm, MO.r13 hm, e1]
    · rw [bi_f q1] at e1
      rw [ci_f q1]
      simp (disch := omega) only [p292_0, p292_1, p292_2, p292_5, p292_6, p292_9n, p292_9s, p292_12, p292_13, p292_14, p292_17, p292_18, p292_19, p292_20, p292_21, p292_23, p292_24, p292_27, p292_28, p292_29, p292_30, p292_33, p292_36, p292_37, p292_38, p292_39, p292_42, p292_43, p292_44, p292_45, p292_48, p292_51, p292_52, p292_53, p292_56, jwd_c, jwd_0, Nat.reduceLeDiff, Nat.reduceEqDiff, Nat.reduceAdd, Nat.reduceSub, Nat.reduceMul, Int.reduceAdd, Int.reduceSub, Int.reduceMul, Int.reduceNeg, Int.reduceEq, Int.reduceLT, Int.reduceLE, jq_ldi_i, jq_ldl_l, jq_lda_a, jq_inc_i, jq_gs_t, jq_gsb_t, jq_gb_t, jq_gr_2, jq_gr_4, jq_gw_2, jq_s_t, jq_b_t, jg_c, jg_n, js_c, js_n, jrm_c, jrm_n, j2_i, j2_l, j2_a, jq_c_i, jq_c_l, jq_c_0, jq_c_n, jwd_le, jw_c0, mS_I, mS_R, mS_J, mN_I, mN_R, mN_J, mR_I, mI_R, mJ_I, mJ_R, mI_J, mR_J, ↓reduceIte, decide_true, or_true, true_or, and_self, false_or, or_false, reduceCtorEq, Bool.false_eq_true, and_false, false_and, eq_self, true_and, and_true, zero_ne, ↓br_lt_t, ↓br_lt_f, ↓br_eq_t, ↓br_eq_f, ↓br_lz_t, ↓br_lz_f, ↓br_ez_t, ↓br_ez_f, ↓br_gz_t, ↓br_gz_f, jw_id, jin_t, jix_t, MO.s0 hm, MO.s1 hm, MO.s2 hm, MO.s3 hm, MO.s4 hm, MO.s5 hm, MO.s6 hm, MO.s7 hm, MO.s8 hm, MO.s9 hm, MO.s10 hm, MO.s11 hm, MO.s12 hm, MO.s13 hm, MO.r1 hm, MO.r2 hm, MO.r3 hm, MO.r4 hm, MO.r5 hm, MO.r6 hm, MO.r7 hm, MO.r8 hm, MO.r9 hm, MO.r10 hm, MO.r11 hm, MO.r12 hm, MO.r13 hm, e1]
theorem d_fits (hq : MQh w h H) (hv : mI w 241 = r) (hk : HOK H) (hsn : HS H) (b : fB H r S q g B) {q0 : Nat → Int} (hu : fV w H S q0 g) : ∃ u, rn 292 (0, [(0, jvr 238)], [], w) = some (some (.inl (gFt H S q0 g 5 0 0)), u) ∧ qM w u 0 := by
  have hs0 := hq.1.s0
  have hq0 : MQh (setI w 238 0 0) h H := hq.z
  have hv0 : mI (setI w 238 0 0) 241 = r := (mI_nb (by omega)).trans hv
  have e00 : rn 292 (0, [(0, jvr 238)], [], w) = rn 292 (5, [(0, jvr 238)], [], setI w 238 0 0) := by
    simp only [p292_0, p292_1, p292_2, jwd_c, jwd_0, Nat.reduceLeDiff, Nat.reduceEqDiff, Nat.reduceAdd, Nat.reduceSub, Nat.reduceMul, Int.reduceAdd, Int.reduceSub, Int.reduceMul, Int.reduceNeg, Int.reduceEq, Int.reduceLT, Int.reduceLE, jq_ldi_i, jq_ldl_l, jq_lda_a, jq_inc_i, jq_gs_t, jq_gsb_t, jq_gb_t, jq_gr_2, jq_gr_4, jq_gw_2, jq_s_t, jq_b_t, jg_c, jg_n, js_c, js_n, jrm_c, jrm_n, j2_i, j2_l, j2_a, jq_c_i, jq_c_l, jq_c_0, jq_c_n, jwd_le, jw_c0, mS_I, mS_R, mS_J, mN_I, mN_R, mN_J, mR_I, mI_R, mJ_I, mJ_R, mI_J, mR_J, ↓reduceIte, decide_true, or_true, true_or, and_self, false_or, or_false, reduceCtorEq, Bool.false_eq_true, and_false, false_and, eq_self, true_and, and_true, zero_ne, hs0]
  rw [e00]
  clear e00
  generalize hw0 : setI w 238 0 0 = w0 at *
  have hq1 := hq0
  obtain ⟨hm, hh, h3⟩ := hq0
  have hge := hh.ge
  have b' : fB H (gS0 H) S q0 g 0 := ⟨b.1, b.2.1, (ri_S0 hk hsn (Int.le_refl _)).1, ⟨Int.le_refl _, by omega⟩, b.2.2.2.2.1, b.2.2.2.2.2.1, by rw [hu.1]; exact rQ.cp⟩
  obtain ⟨u, e, k⟩ := mfits_lp hk hsn b' b'.2.2.2.2.2.2 5 0 0 w0 hq1 (hu.z hw0) (by omega) (by omega)
  refine ⟨_, ?_, qM.fut hw0 k⟩
  rw [← e]
  simp (disch := omega) only [p292_0, p292_1, p292_2, p292_5, p292_6, p292_9n, p292_9s, p292_12, p292_13, p292_14, p292_17, p292_18, p292_19, p292_20, p292_21, p292_23, p292_24, p292_27, p292_28, p292_29, p292_30, p292_33, p292_36, p292_37, p292_38, p292_39, p292_42, p292_43, p292_44, p292_45, p292_48, p292_51, p292_52, p292_53, p292_56, p213_0, p213_1, p213_2, p213_5, p213_6, p213_7, p213_10, p213_11, p176_0, p176_1, p176_2, p176_5, p176_6, p176_7, p176_10, p176_11, p297_0, p297_1, p297_2, p297_5, p297_6, p297_7, p298_0, p298_1, p298_2, p298_5, p298_6, p298_7, jwd_c, jwd_0, Nat.reduceLeDiff, Nat.reduceEqDiff, Nat.reduceAdd, Nat.reduceSub, Nat.reduceMul, Int.reduceAdd, Int.reduceSub, Int.reduceMul, Int.reduceNeg, Int.reduceEq, Int.reduceLT, Int.reduceLE, jq_ldi_i, jq_ldl_l, jq_lda_a, jq_inc_i, jq_gs_t, jq_gsb_t, jq_gb_t, jq_gr_2, jq_gr_4, jq_gw_2, jq_s_t, jq_b_t, jg_c, jg_n, js_c, js_n, jrm_c, jrm_n, j2_i, j2_l, j2_a, jq_c_i, jq_c_l, jq_c_0, jq_c_n, jwd_le, jw_c0, mS_I, mS_R, mS_J, mN_I, mN_R, mN_J, mR_I, mI_R, mJ_I, mJ_R, mI_J, mR_J, ↓reduceIte, decide_true, or_true, true_or, and_self, false_or, or_false, reduceCtorEq, Bool.false_eq_true, and_false, false_and, eq_self, true_and, and_true, zero_ne, ↓br_lt_t, ↓br_lt_f, ↓br_eq_t, ↓br_eq_f, ↓br_lz_t, ↓br_lz_f, ↓br_ez_t, ↓br_ez_f, ↓br_gz_t, ↓br_gz_f, jw_id, jin_t, jix_t, MO.s0 hm, MO.s1 hm, MO.s2 hm, MO.s3 hm, MO.s4 hm, MO.s5 hm, MO.s6 hm, MO.s7 hm, MO.s8 hm, MO.s9 hm, MO.s10 hm, MO.s11 hm, MO.s12 hm, MO.s13 hm, MO.r1 hm, MO.r2 hm, MO.r3 hm, MO.r4 hm, MO.r5 hm, MO.r6 hm, MO.r7 hm, MO.r8 hm, MO.r9 hm, MO.r10 hm, MO.r11 hm, MO.r12 hm, MO.r13 hm, h3]
end FITS
