/-! The model: a beat as a whole, and many. -/
/-- a row that is danced -/
def RI (H : Nat → Nat → Int) (B : Int) (r : Nat → Int) : Prop := RA H B r ∧ RB r ∧ RW H r ∧ RP r ∧ r 288 ≤ 203
section BEATS
variable {w : jmW} {a h : Nat} {H : Nat → Nat → Int} {r : Nat → Int} {B : Int} {L : Int} {S : Nat → Int}
theorem RA.up (ra : RA H B r) : RA H (B + 1) (up1 r 294 (r 294 + 1)) := by
  unfold RA at ra ⊢
  simp (disch := omega) only [up1_n, up1_s]
  omega
theorem RA.mo {B2 : Int} (ra : RA H B r) (h : B ≤ B2) : RA H B2 r := by
  unfold RA at ra ⊢
  omega
theorem te_in (h : 1 ≤ r 289) : 1 ≤ gTi r ∧ gTi r ≤ r 289 := by
  have := te_bd (r := r) (r 289 - 1).toNat 1
  unfold gTi
  omega
theorem b5_run (hm : MO w) (hh : MH w h H) (h3 : mR w 238 3 = some h) (ha : a = 241 ∨ a = 242) (hs : mS w a = (2, 0, 298)) (hk : HOK H) {st sp : Int} {O g : Nat → Int} (ra : RA H B r) (rb : RB r) (rw0 : RW H r) (rp : RP r) (n1 : r 297 = 0) : rn 238 (72, [(0, jvr 238), (1, jvr a), (2, .inl st), (3, .inl sp)], [], setA (setA (setA w 238 (up1 O 30 (-1))) a r) 248 g) = some (none, setA (setA (setA w 238 (gO O (gB5 H (O 32) (gFA (r 289 - 1).toNat 1 (r, g)).2 (gB2 (gFA (r 289 - 1).toNat 1 (r, g)).1 (O 31))))) a (gB5 H (O 32) (gFA (r 289 - 1).toNat 1 (r, g)).2 (gB2 (gFA (r 289 - 1).toNat 1 (r, g)).1 (O 31))).1) 248 (gFA (r 289 - 1).toNat 1 (r, g)).2) := by
  have h16 := ra.1
  have k3 := hk.2.1
  have hge := hh.ge
  have e1 := fa_loop (w := setA w 238 (up1 O 30 (-1))) (a := a) hm (hh.A (by omega)) h3 ha hs hk (st := st) (sp := sp) (r 289 - 1).toNat 1 r g ra rb rw0 rp (by omega) (by omega)
  obtain ⟨p1, p2, p3, p4, p5⟩ := fa_ok (r 289 - 1).toNat 1 r g ra rb rw0 rp (by omega) (by omega)
  generalize gFA (r 289 - 1).toNat 1 (r, g) = p at *
  obtain ⟨q, g2⟩ := p
  dsimp only at e1 p1 p2 p3 p4 p5 ⊢
  have q16 := p1.1
  have ti := te_in (r := q) (by omega)
  have hq : ∀ x y z, mI (setA (setA (setA w 238 x) a y) 248 z) a = y := by
    intro x y z
    rw [mI_nA (by omega), mI_A]
  have e2 := m_tears (w := setA (setA (setA w 238 (up1 O 30 (-1))) a q) 248 g2) (a := a) hm ha hs (hq _ _ _) p1 p2 (o := O 31) (by rw [mI_nA (by omega), mI_nA (by omega), mI_A, up1_n (by omega)])
  have H2 : ∀ x y z, MH (setA (setA (setA w 238 x) a y) 248 z) h H := fun x y z => ((hh.A (by omega)).A (by omega)).A (by omega)
  have z1 : ∀ z : gX, z.2.2.2.1 = z.2.2.2.1 := fun _ => rfl
  unfold gB2
  by_cases q1 : gTi q < q 289
  · rw [if_pos q1] at e2
    obtain ⟨c1, c2, c3, c4⟩ := cut_ok p1 p2 p3 p4 ti.1 ti.2
    have e3 := m_au (w := setA (setA (setA w 238 (up1 (up1 O 30 (q (204 + gTi q).toNat)) 31 (O 31 + (q 289 - gTi q)))) a (up1 q 289 (gTi q))) 248 g2) (a := a) hm (H2 _ _ _) h3 ha hs (hq _ _ _) hk c1 c2 c3 c4
    have c9 := c1.1
    obtain ⟨d1, d2, d3, d4⟩ := au_ok hk ((up1 q 289 (gTi q)) 289 - 1).toNat _ c1 c2 c3 c4 (by omega)
    have e4 := aa_loop (w := setA w 248 g2) (a := a) hm (hh.A (by omega)) h3 ha hs hk (st := st) (sp := sp) (O := up1 (up1 O 30 (q (204 + gTi q).toNat)) 31 (O 31 + (q 289 - gTi q))) (H 0 3).toNat 0 (O 32) _ d1 d2 d3 d4 (by omega) (by omega)
    have e5 : up1 (up1 (up1 O 30 (q (204 + gTi q).toNat)) 31 (O 31 + (q 289 - gTi q))) 32 (O 32) = up1 (up1 O 30 (q (204 + gTi q).toNat)) 31 (O 31 + (q 289 - gTi q)) := up1_id (by rw [up1_n (by omega), up1_n (by omega)])
    rw [e5] at e4
    rw [if_pos q1]
    unfold gO gB5
    simp (disch := omega) only [mI_A, mI_nA, up1_s, up1_n, mS_A, mR_A, mJ_A, mN_A, setI_A, setA_A, sw_238, sw_239, sw_240, sw_241, sw_242, sw_243, sw_244, sw_245, sw_246, sw_247, sw_248, sw_249, sw_250, sw_251, Int.reduceToNat, Int.toNat_natCast, up1_up1] at e2 e3 e4
    simp (disch := omega) only [p238_0, p238_1, p238_2, p238_5, p238_6, p238_9, p238_12, p238_13, p238_14, p238_17, p238_18, p238_21, p238_22, p238_25, p238_28, p238_29, p238_32, p238_35, p238_36, p238_39, p238_42, p238_43, p238_46, p238_47, p238_48, p238_51, p238_54, p238_55, p238_56, p238_57, p238_58, p238_61, p238_62, p238_63, p238_64, p238_65, p238_66, p238_67, p238_68, p238_69, p238_72, p238_73, p238_76, p238_77, p238_78, p238_81, p238_82, p238_83, p238_87, p238_88, p238_91, p238_92, p238_95, p238_96, p238_97, p238_99, p238_102, p238_105, p238_109, p238_110, p238_111, p238_114, p238_117, p238_118, p238_119, p238_122, p238_123, p238_127, p238_128, p238_131, p238_134, p238_137, p238_138, p238_139, p238_141, p238_144, p238_147, p238_150, jwd_c, jwd_0, Nat.reduceLeDiff, Nat.reduceEqDiff, Nat.reduceAdd, Nat.reduceSub, Nat.reduceMul, Int.reduceAdd, Int.reduceSub, Int.reduceMul, Int.reduceNeg, Int.reduceEq, Int.reduceLT, Int.reduceLE, jq_ldi_i, jq_ldl_l, jq_lda_a, jq_inc_i, jq_gs_t, jq_gsb_t, jq_gb_t, jq_gr_2, jq_gr_4, jq_gw_2, jq_s_t, jq_b_t, jg_c, jg_n, js_c, js_n, jrm_c, jrm_n, j2_i, j2_l, j2_a, jq_c_i, jq_c_l, jq_c_0, jq_c_n, jwd_le, jw_c0, mS_I, mS_R, mS_J, mN_I, mN_R, mN_J, mR_I, mI_R, mJ_I, mJ_R, mI_J, mR_J, ↓reduceIte, decide_true, or_true, true_or, and_self, false_or, or_false, reduceCtorEq, Bool.false_eq_true, and_false, false_and, eq_self, true_and, and_true, zero_ne, ↓br_lt_t, ↓br_lt_f, ↓br_eq_t, ↓br_eq_f, ↓br_lz_t, ↓br_lz_f, ↓br_ez_t, ↓br_ez_f, ↓br_gz_t, ↓br_gz_f, jw_id, jin_t, jix_t, mI_A, mI_nA, up1_s, up1_n, mS_A, mR_A, mJ_A, mN_A, setI_A, setA_A, sw_238, sw_239, sw_240, sw_241, sw_242, sw_243, sw_244, sw_245, sw_246, sw_247, sw_248, sw_249, sw_250, sw_251, Int.reduceToNat, Int.toNat_natCast, MO.s0 hm, MO.s1 hm, MO.s2 hm, MO.s3 hm, MO.s4 hm, MO.s5 hm, MO.s6 hm, MO.s7 hm, MO.s8 hm, MO.s9 hm, MO.s10 hm, MO.s11 hm, MO.s12 hm, MO.s13 hm, MO.r1 hm, MO.r2 hm, MO.r3 hm, MO.r4 hm, MO.r5 hm, MO.r6 hm, MO.r7 hm, MO.r8 hm, MO.r9 hm, MO.r10 hm, MO.r11 hm, MO.r12 hm, MO.r13 hm, hs, n1]
    rw [e1, p238_108]
    simp (disch := omega) only [p238_0, p238_1, p238_2, p238_5, p238_6, p238_9, p238_12, p238_13, p238_14, p238_17, p238_18, p238_21, p238_22, p238_25, p238_28, p238_29, p238_32, p238_35, p238_36, p238_39, p238_42, p238_43, p238_46, p238_47, p238_48, p238_51, p238_54, p238_55, p238_56, p238_57, p238_58, p238_61, p238_62, p238_63, p238_64, p238_65, p238_66, p238_67, p238_68, p238_69, p238_72, p238_73, p238_76, p238_77, p238_78, p238_81, p238_82, p238_83, p238_87, p238_88, p238_91, p238_92, p238_95, p238_96, p238_97, p238_99, p238_102, p238_105, p238_109, p238_110, p238_111, p238_114, p238_117, p238_118, p238_119, p238_122, p238_123, p238_127, p238_128, p238_131, p238_134, p238_137, p238_138, p238_139, p238_141, p238_144, p238_147, p238_150, jwd_c, jwd_0, Nat.reduceLeDiff, Nat.reduceEqDiff, Nat.reduceAdd, Nat.reduceSub, Nat.reduceMul, Int.reduceAdd, Int.reduceSub, Int.reduceMul, Int.reduceNeg, Int.reduceEq, Int.reduceLT, Int.reduceLE, jq_ldi_i, jq_ldl_l, jq_lda_a, jq_inc_i, jq_gs_t, jq_gsb_t, jq_gb_t, jq_gr_2, jq_gr_4, jq_gw_2, jq_s_t, jq_b_t, jg_c, jg_n, js_c, js_n, jrm_c, jrm_n, j2_i, j2_l, j2_a, jq_c_i, jq_c_l, jq_c_0, jq_c_n, jwd_le, jw_c0, mS_I, mS_R, mS_J, mN_I, mN_R, mN_J, mR_I, mI_R, mJ_I, mJ_R, mI_J, mR_J, ↓reduceIte, decide_true, or_true, true_or, and_self, false_or, or_false, reduceCtorEq, Bool.false_eq_true, and_false, false_and, eq_self, true_and, and_true, zero_ne, ↓br_lt_t, ↓br_lt_f, ↓br_eq_t, ↓br_eq_f, ↓br_lz_t, ↓br_lz_f, ↓br_ez_t, ↓br_ez_f, ↓br_gz_t, ↓br_gz_f, jw_id, jin_t, jix_t, mI_A, mI_nA, up1_s, up1_n, mS_A, mR_A, mJ_A, mN_A, setI_A, setA_A, sw_238, sw_239, sw_240, sw_241, sw_242, sw_243, sw_244, sw_245, sw_246, sw_247, sw_248, sw_249, sw_250, sw_251, Int.reduceToNat, Int.toNat_natCast, MO.s0 hm, MO.s1 hm, MO.s2 hm, MO.s3 hm, MO.s4 hm, MO.s5 hm, MO.s6 hm, MO.s7 hm, MO.s8 hm, MO.s9 hm, MO.s10 hm, MO.s11 hm, MO.s12 hm, MO.s13 hm, MO.r1 hm, MO.r2 hm, MO.r3 hm, MO.r4 hm, MO.r5 hm, MO.r6 hm, MO.r7 hm, MO.r8 hm, MO.r9 hm, MO.r10 hm, MO.r11 hm, MO.r12 hm, MO.r13 hm, hs, e2, uw_31, up1_up1, e3, e4]
  · rw [if_neg q1] at e2
    have e3 := m_au (w := setA (setA (setA w 238 (up1 O 30 (-1))) a q) 248 g2) (a := a) hm (H2 _ _ _) h3 ha hs (hq _ _ _) hk p1 p2 p3 p4
    obtain ⟨d1, d2, d3, d4⟩ := au_ok hk (q 289 - 1).toNat _ p1 p2 p3 p4 (by omega)
    have e4 := aa_loop (w := setA w 248 g2) (a := a) hm (hh.A (by omega)) h3 ha hs hk (st := st) (sp := sp) (O := up1 O 30 (-1)) (H 0 3).toNat 0 (O 32) _ d1 d2 d3 d4 (by omega) (by omega)
    have e5 : up1 (up1 O 30 (-1)) 32 (O 32) = up1 O 30 (-1) := up1_id (by rw [up1_n (by omega)])
    have e6 : up1 (up1 O 30 (-1)) 31 (O 31) = up1 O 30 (-1) := up1_id (by rw [up1_n (by omega)])
    rw [e5] at e4
    rw [if_neg q1]
    unfold gO gB5
    dsimp only
    rw [e6]
    simp (disch := omega) only [mI_A, mI_nA, up1_s, up1_n, mS_A, mR_A, mJ_A, mN_A, setI_A, setA_A, sw_238, sw_239, sw_240, sw_241, sw_242, sw_243, sw_244, sw_245, sw_246, sw_247, sw_248, sw_249, sw_250, sw_251, Int.reduceToNat, Int.toNat_natCast, up1_up1] at e2 e3 e4
    simp (disch := omega) only [p238_0, p238_1, p238_2, p238_5, p238_6, p238_9, p238_12, p238_13, p238_14, p238_17, p238_18, p238_21, p238_22, p238_25, p238_28, p238_29, p238_32, p238_35, p238_36, p238_39, p238_42, p238_43, p238_46, p238_47, p238_48, p238_51, p238_54, p238_55, p238_56, p238_57, p238_58, p238_61, p238_62, p238_63, p238_64, p238_65, p238_66, p238_67, p238_68, p238_69, p238_72, p238_73, p238_76, p238_77, p238_78, p238_81, p238_82, p238_83, p238_87, p238_88, p238_91, p238_92, p238_95, p238_96, p238_97, p238_99, p238_102, p238_105, p238_109, p238_110, p238_111, p238_114, p238_117, p238_118, p238_119, p238_122, p238_123, p238_127, p238_128, p238_131, p238_134, p238_137, p238_138, p238_139, p238_141, p238_144, p238_147, p238_150, jwd_c, jwd_0, Nat.reduceLeDiff, Nat.reduceEqDiff, Nat.reduceAdd, Nat.reduceSub, Nat.reduceMul, Int.reduceAdd, Int.reduceSub, Int.reduceMul, Int.reduceNeg, Int.reduceEq, Int.reduceLT, Int.reduceLE, jq_ldi_i, jq_ldl_l, jq_lda_a, jq_inc_i, jq_gs_t, jq_gsb_t, jq_gb_t, jq_gr_2, jq_gr_4, jq_gw_2, jq_s_t, jq_b_t, jg_c, jg_n, js_c, js_n, jrm_c, jrm_n, j2_i, j2_l, j2_a, jq_c_i, jq_c_l, jq_c_0, jq_c_n, jwd_le, jw_c0, mS_I, mS_R, mS_J, mN_I, mN_R, mN_J, mR_I, mI_R, mJ_I, mJ_R, mI_J, mR_J, ↓reduceIte, decide_true, or_true, true_or, and_self, false_or, or_false, reduceCtorEq, Bool.false_eq_true, and_false, false_and, eq_self, true_and, and_true, zero_ne, ↓br_lt_t, ↓br_lt_f, ↓br_eq_t, ↓br_eq_f, ↓br_lz_t, ↓br_lz_f, ↓br_ez_t, ↓br_ez_f, ↓br_gz_t, ↓br_gz_f, jw_id, jin_t, jix_t, mI_A, mI_nA, up1_s, up1_n, mS_A, mR_A, mJ_A, mN_A, setI_A, setA_A, sw_238, sw_239, sw_240, sw_241, sw_242, sw_243, sw_244, sw_245, sw_246, sw_247, sw_248, sw_249, sw_250, sw_251, Int.reduceToNat, Int.toNat_natCast, MO.s0 hm, MO.s1 hm, MO.s2 hm, MO.s3 hm, MO.s4 hm, MO.s5 hm, MO.s6 hm, MO.s7 hm, MO.s8 hm, MO.s9 hm, MO.s10 hm, MO.s11 hm, MO.s12 hm, MO.s13 hm, MO.r1 hm, MO.r2 hm, MO.r3 hm, MO.r4 hm, MO.r5 hm, MO.r6 hm, MO.r7 hm, MO.r8 hm, MO.r9 hm, MO.r10 hm, MO.r11 hm, MO.r12 hm, MO.r13 hm, hs, n1]
    rw [e1, p238_108]
    simp (disch := omega) only [p238_0, p238_1, p238_2, p238_5, p238_6, p238_9, p238_12, p238_13, p238_14, p238_17, p238_18, p238_21, p238_22, p238_25, p238_28, p238_29, p238_32, p238_35, p238_36, p238_39, p238_42, p238_43, p238_46, p238_47, p238_48, p238_51, p238_54, p238_55, p238_56, p238_57, p238_58, p238_61, p238_62, p238_63, p238_64, p238_65, p238_66, p238_67, p238_68, p238_69, p238_72, p238_73, p238_76, p238_77, p238_78, p238_81, p238_82, p238_83, p238_87, p238_88, p238_91, p238_92, p238_95, p238_96, p238_97, p238_99, p238_102, p238_105, p238_109, p238_110, p238_111, p238_114, p238_117, p238_118, p238_119, p238_122, p238_123, p238_127, p238_128, p238_131, p238_134, p238_137, p238_138, p238_139, p238_141, p238_144, p238_147, p238_150, jwd_c, jwd_0, Nat.reduceLeDiff, Nat.reduceEqDiff, Nat.reduceAdd, Nat.reduceSub, Nat.reduceMul, Int.reduceAdd, Int.reduceSub, Int.reduceMul, Int.reduceNeg, Int.reduceEq, Int.reduceLT, Int.reduceLE, jq_ldi_i, jq_ldl_l, jq_lda_a, jq_inc_i, jq_gs_t, jq_gsb_t, jq_gb_t, jq_gr_2, jq_gr_4, jq_gw_2, jq_s_t, jq_b_t, jg_c, jg_n, js_c, js_n, jrm_c, jrm_n, j2_i, j2_l, j2_a, jq_c_i, jq_c_l, jq_c_0, jq_c_n, jwd_le, jw_c0, mS_I, mS_R, mS_J, mN_I, mN_R, mN_J, mR_I, mI_R, mJ_I, mJ_R, mI_J, mR_J, ↓reduceIte, decide_true, or_true, true_or, and_self, false_or, or_false, reduceCtorEq, Bool.false_eq_true, and_false, false_and, eq_self, true_and, and_true, zero_ne, ↓br_lt_t, ↓br_lt_f, ↓br_eq_t, ↓br_eq_f, ↓br_lz_t, ↓br_lz_f, ↓br_ez_t, ↓br_ez_f, ↓br_gz_t, ↓br_gz_f, jw_id, jin_t, jix_t, mI_A, mI_nA, up1_s, up1_n, mS_A, mR_A, mJ_A, mN_A, setI_A, setA_A, sw_238, sw_239, sw_240, sw_241, sw_242, sw_243, sw_244, sw_245, sw_246, sw_247, sw_248, sw_249, sw_250, sw_251, Int.reduceToNat, Int.toNat_natCast, MO.s0 hm, MO.s1 hm, MO.s2 hm, MO.s3 hm, MO.s4 hm, MO.s5 hm, MO.s6 hm, MO.s7 hm, MO.s8 hm, MO.s9 hm, MO.s10 hm, MO.s11 hm, MO.s12 hm, MO.s13 hm, MO.r1 hm, MO.r2 hm, MO.r3 hm, MO.r4 hm, MO.r5 hm, MO.r6 hm, MO.r7 hm, MO.r8 hm, MO.r9 hm, MO.r10 hm, MO.r11 hm, MO.r12 hm, MO.r13 hm, hs, e2, up1_up1, e3, e4]
theorem b1_run (hm : MO w) (hh : MH w h H) (h3 : mR w 238 3 = some h) (ha : a = 241 ∨ a = 242) (hs : mS w a = (2, 0, 298)) (hk : HOK H) {st sp : Int} {O g : Nat → Int} (hr : mI w a = r) (hg : mI w 248 = g) (hO : mI w 238 = up1 O 30 (-1)) (hL : O 27 = L) (hS : mI w 247 = S) (l1 : 0 ≤ L) (l2 : L ≤ 12) (s1 : ∀ k, k < 12 → 0 ≤ S k ∧ S k ≤ 3) (ra : RA H B (up1 r 294 (r 294 + 1))) (rb : RB r) (rw0 : RW H r) (rp : RP r) (sp1 : 0 ≤ sp) (sp3 : sp ≤ 3) (hl : r 288 ≤ 200) : ∃ F Q, rn 238 (57, [(0, jvr 238), (1, jvr a), (2, .inl st), (3, .inl sp)], [], w) = some (none, setA (setA (setA (setA (setA w 238 (gO O (gB1 H (O 31) (O 32) (gB0 H L S sp.toNat (up1 r 294 (r 294 + 1)) g)))) a (gB1 H (O 31) (O 32) (gB0 H L S sp.toNat (up1 r 294 (r 294 + 1)) g)).1) 245 F) 246 Q) 248 (gB1 H (O 31) (O 32) (gB0 H L S sp.toNat (up1 r 294 (r 294 + 1)) g)).2.1) := by
  have h16 := ra.1
  have k3 := hk.2.1
  have hge := hh.ge
  have e9 : up1 r 294 (r 294 + 1) 289 = r 289 := up1_n (by omega)
  have e8 : up1 r 294 (r 294 + 1) 288 = r 288 := up1_n (by omega)
  have rb1 : RB (up1 r 294 (r 294 + 1)) := by
    intro i i1 i2
    rw [e9] at i2
    have := rb i i1 i2
    rw [e8, up1_n (b := 290) (by omega), up1_n (b := (204 + i).toNat) (by omega), up1_n (b := (220 + i).toNat) (by omega), up1_n (b := (236 + i).toNat) (by omega), up1_n (b := (252 + i).toNat) (by omega), up1_n (b := (268 + i).toNat) (by omega)]
    exact this
  have rw1 : RW H (up1 r 294 (r 294 + 1)) := by
    refine ⟨fun k k1 k2 => ?_, fun k k1 k2 => ?_⟩
    · rw [e8] at k2
      rw [up1_n (by omega)]
      exact rw0.1 k k1 k2
    · rw [e8] at k2
      rw [up1_n (by omega), up1_n (by omega)]
      exact rw0.2 k k1 k2
  have rp1 : RP (up1 r 294 (r 294 + 1)) := RP_c (fun k k1 k2 => up1_n (by omega)) e8 e9 (by omega) rp
  obtain ⟨o1, o2, o3, o4, o5, o6, o7⟩ := b0_ok hk l2 s1 ra rb1 rw1 rp1 (n := sp.toNat) (by omega) g
  have b204 := rb1 0 (by omega) (by omega)
  have b204b : 0 ≤ up1 r 294 (r 294 + 1) 204 ∧ up1 r 294 (r 294 + 1) 204 < up1 r 294 (r 294 + 1) 290 := b204.1
  have h290 := ra.2.1
  obtain ⟨F, Q, e1⟩ := m_goes (w := setA w a (up1 r 294 (r 294 + 1))) (a := a) (r := up1 r 294 (r 294 + 1)) (L := L) (S := S) hm (hh.A (by omega)) h3 ha hs (mI_A _ _ _) (by rw [mI_nA (by omega), hO, up1_n (by omega)]; exact hL) (by rw [mI_nA (by omega)]; exact hS) l1 l2 s1 hk ra rb1 rw1 (st := sp) sp1 sp3 (by omega) (by rw [o7]; omega)
  rw [show mI (setA w a (up1 r 294 (r 294 + 1))) 248 = g by rw [mI_nA (by omega)]; exact hg] at e1
  have e2 : gB0 H L S sp.toNat (up1 r 294 (r 294 + 1)) g = (up1 (gGo H L S sp.toNat (up1 r 294 (r 294 + 1))) 220 (gGo H L S sp.toNat (up1 r 294 (r 294 + 1)) 288 - 1), up1 g (gGo H L S sp.toNat (up1 r 294 (r 294 + 1)) 204).toNat (g (gGo H L S sp.toNat (up1 r 294 (r 294 + 1)) 204).toNat + (gGo H L S sp.toNat (up1 r 294 (r 294 + 1)) 288 - up1 r 294 (r 294 + 1) 288))) := rfl
  generalize gB0 H L S sp.toNat (up1 r 294 (r 294 + 1)) g = p at *
  obtain ⟨q, g2⟩ := p
  dsimp only at o1 o2 o3 o4 o5 o6
  obtain ⟨e2a, e2b⟩ := Prod.mk.inj e2
  rw [← e2a, ← e2b] at e1
  have q97 := o1.2.2.2.2.2.2.2.2.2.2.2.2.2.2.2.2
  have hO2 : setA w 238 (up1 O 30 (-1)) = w := by rw [← hO]; exact setA_self w 238
  refine ⟨F, Q, ?_⟩
  unfold gB1
  dsimp only
  simp (disch := omega) only [mI_A, mI_nA, up1_s, up1_n, mS_A, mR_A, mJ_A, mN_A, setI_A, setA_A, sw_238, sw_239, sw_240, sw_241, sw_242, sw_243, sw_244, sw_245, sw_246, sw_247, sw_248, sw_249, sw_250, sw_251, Int.reduceToNat, Int.toNat_natCast] at e1
  by_cases q1 : q 297 = 1
  · rw [if_pos q1]
    have e6 : gO O (q, g2, O 31, O 32, -1) = up1 O 30 (-1) := by
      unfold gO
      dsimp only
      rw [up1_id (f := up1 (up1 O 30 (-1)) 31 (O 31)) (by rw [up1_n (by omega), up1_n (by omega)]), up1_id (by rw [up1_n (by omega)])]
    rw [e6, hO2]
    simp (disch := omega) only [p238_0, p238_1, p238_2, p238_5, p238_6, p238_9, p238_12, p238_13, p238_14, p238_17, p238_18, p238_21, p238_22, p238_25, p238_28, p238_29, p238_32, p238_35, p238_36, p238_39, p238_42, p238_43, p238_46, p238_47, p238_48, p238_51, p238_54, p238_55, p238_56, p238_57, p238_58, p238_61, p238_62, p238_63, p238_64, p238_65, p238_66, p238_67, p238_68, p238_69, p238_72, p238_73, p238_76, p238_77, p238_78, p238_81, p238_82, p238_83, p238_87, p238_88, p238_91, p238_92, p238_95, p238_96, p238_97, p238_99, p238_102, p238_105, p238_109, p238_110, p238_111, p238_114, p238_117, p238_118, p238_119, p238_122, p238_123, p238_127, p238_128, p238_131, p238_134, p238_137, p238_138, p238_139, p238_141, p238_144, p238_147, p238_150, jwd_c, jwd_0, Nat.reduceLeDiff, Nat.reduceEqDiff, Nat.reduceAdd, Nat.reduceSub, Nat.reduceMul, Int.reduceAdd, Int.reduceSub, Int.reduceMul, Int.reduceNeg, Int.reduceEq, Int.reduceLT, Int.reduceLE, jq_ldi_i, jq_ldl_l, jq_lda_a, jq_inc_i, jq_gs_t, jq_gsb_t, jq_gb_t, jq_gr_2, jq_gr_4, jq_gw_2, jq_s_t, jq_b_t, jg_c, jg_n, js_c, js_n, jrm_c, jrm_n, j2_i, j2_l, j2_a, jq_c_i, jq_c_l, jq_c_0, jq_c_n, jwd_le, jw_c0, mS_I, mS_R, mS_J, mN_I, mN_R, mN_J, mR_I, mI_R, mJ_I, mJ_R, mI_J, mR_J, ↓reduceIte, decide_true, or_true, true_or, and_self, false_or, or_false, reduceCtorEq, Bool.false_eq_true, and_false, false_and, eq_self, true_and, and_true, zero_ne, ↓br_lt_t, ↓br_lt_f, ↓br_eq_t, ↓br_eq_f, ↓br_lz_t, ↓br_lz_f, ↓br_ez_t, ↓br_ez_f, ↓br_gz_t, ↓br_gz_f, jw_id, jin_t, jix_t, mI_A, mI_nA, up1_s, up1_n, mS_A, mR_A, mJ_A, mN_A, setI_A, setA_A, sw_238, sw_239, sw_240, sw_241, sw_242, sw_243, sw_244, sw_245, sw_246, sw_247, sw_248, sw_249, sw_250, sw_251, Int.reduceToNat, Int.toNat_natCast, MO.s0 hm, MO.s1 hm, MO.s2 hm, MO.s3 hm, MO.s4 hm, MO.s5 hm, MO.s6 hm, MO.s7 hm, MO.s8 hm, MO.s9 hm, MO.s10 hm, MO.s11 hm, MO.s12 hm, MO.s13 hm, MO.r1 hm, MO.r2 hm, MO.r3 hm, MO.r4 hm, MO.r5 hm, MO.r6 hm, MO.r7 hm, MO.r8 hm, MO.r9 hm, MO.r10 hm, MO.r11 hm, MO.r12 hm, MO.r13 hm, hs, hr, e1, q1]
  · rw [if_neg q1]
    have e5 := b5_run (w := setA (setA w 245 F) 246 Q) (a := a) (st := st) (sp := sp) (O := O) (g := g2) hm ((hh.A (by omega)).A (by omega)) h3 ha hs hk o1 o2 o3 o4 (by omega)
    have e7 : ∀ (x : gX), setA (setA (setA (setA w 245 F) 246 Q) 238 (gO O x)) a x.1 = setA (setA (setA (setA w 238 (gO O x)) a x.1) 245 F) 246 Q := by
      intro x
      simp (disch := omega) only [mI_A, mI_nA, up1_s, up1_n, mS_A, mR_A, mJ_A, mN_A, setI_A, setA_A, sw_238, sw_239, sw_240, sw_241, sw_242, sw_243, sw_244, sw_245, sw_246, sw_247, sw_248, sw_249, sw_250, sw_251, Int.reduceToNat, Int.toNat_natCast]
    rw [e7] at e5
    have e8 : setA (setA (setA (setA w 245 F) 246 Q) 238 (up1 O 30 (-1))) a q = setA (setA (setA w a q) 245 F) 246 Q := by
      simp (disch := omega) only [mI_A, mI_nA, up1_s, up1_n, mS_A, mR_A, mJ_A, mN_A, setI_A, setA_A, sw_238, sw_239, sw_240, sw_241, sw_242, sw_243, sw_244, sw_245, sw_246, sw_247, sw_248, sw_249, sw_250, sw_251, Int.reduceToNat, Int.toNat_natCast]
      rw [hO2]
    rw [e8] at e5
    unfold gB5 at e5 ⊢
    rw [← e5]
    simp (disch := omega) only [p238_0, p238_1, p238_2, p238_5, p238_6, p238_9, p238_12, p238_13, p238_14, p238_17, p238_18, p238_21, p238_22, p238_25, p238_28, p238_29, p238_32, p238_35, p238_36, p238_39, p238_42, p238_43, p238_46, p238_47, p238_48, p238_51, p238_54, p238_55, p238_56, p238_57, p238_58, p238_61, p238_62, p238_63, p238_64, p238_65, p238_66, p238_67, p238_68, p238_69, p238_73, p238_76, p238_77, p238_78, p238_81, p238_82, p238_83, p238_87, p238_88, p238_91, p238_92, p238_95, p238_96, p238_97, p238_99, p238_102, p238_105, p238_109, p238_110, p238_111, p238_114, p238_117, p238_118, p238_119, p238_122, p238_123, p238_127, p238_128, p238_131, p238_134, p238_137, p238_138, p238_139, p238_141, p238_144, p238_147, p238_150, jwd_c, jwd_0, Nat.reduceLeDiff, Nat.reduceEqDiff, Nat.reduceAdd, Nat.reduceSub, Nat.reduceMul, Int.reduceAdd, Int.reduceSub, Int.reduceMul, Int.reduceNeg, Int.reduceEq, Int.reduceLT, Int.reduceLE, jq_ldi_i, jq_ldl_l, jq_lda_a, jq_inc_i, jq_gs_t, jq_gsb_t, jq_gb_t, jq_gr_2, jq_gr_4, jq_gw_2, jq_s_t, jq_b_t, jg_c, jg_n, js_c, js_n, jrm_c, jrm_n, j2_i, j2_l, j2_a, jq_c_i, jq_c_l, jq_c_0, jq_c_n, jwd_le, jw_c0, mS_I, mS_R, mS_J, mN_I, mN_R, mN_J, mR_I, mI_R, mJ_I, mJ_R, mI_J, mR_J, ↓reduceIte, decide_true, or_true, true_or, and_self, false_or, or_false, reduceCtorEq, Bool.false_eq_true, and_false, false_and, eq_self, true_and, and_true, zero_ne, ↓br_lt_t, ↓br_lt_f, ↓br_eq_t, ↓br_eq_f, ↓br_lz_t, ↓br_lz_f, ↓br_ez_t, ↓br_ez_f, ↓br_gz_t, ↓br_gz_f, jw_id, jin_t, jix_t, mI_A, mI_nA, up1_s, up1_n, mS_A, mR_A, mJ_A, mN_A, setI_A, setA_A, sw_238, sw_239, sw_240, sw_241, sw_242, sw_243, sw_244, sw_245, sw_246, sw_247, sw_248, sw_249, sw_250, sw_251, Int.reduceToNat, Int.toNat_natCast, MO.s0 hm, MO.s1 hm, MO.s2 hm, MO.s3 hm, MO.s4 hm, MO.s5 hm, MO.s6 hm, MO.s7 hm, MO.s8 hm, MO.s9 hm, MO.s10 hm, MO.s11 hm, MO.s12 hm, MO.s13 hm, MO.r1 hm, MO.r2 hm, MO.r3 hm, MO.r4 hm, MO.r5 hm, MO.r6 hm, MO.r7 hm, MO.r8 hm, MO.r9 hm, MO.r10 hm, MO.r11 hm, MO.r12 hm, MO.r13 hm, hs, hr, e1]
theorem m_beat (hm : MO w) (hh : MH w h H) (h3 : mR w 238 3 = some h) (ha : a = 241 ∨ a = 242) (hs : mS w a = (2, 0, 298)) (hk : HOK H) {al st tn : Int} {O g : Nat → Int} (hr : mI w a = r) (hg : mI w 248 = g) (hO : mI w 238 = O) (hL : O 27 = L) (hal : O 26 = al) (al1 : 0 ≤ al) (al3 : al ≤ 3) (hS : mI w 247 = S) (l1 : 0 ≤ L) (l2 : L ≤ 12) (s1 : ∀ k, k < 12 → 0 ≤ S k ∧ S k ≤ 3) (ri : RI H B r) (hB : B < 2147483600) (st1 : st = 0 ∨ st = 1) : ∃ F Q, rn 238 (0, [(0, jvr 238), (1, jvr a), (2, .inl st)], [], w) = some (none, setA (setA (setA (setA (setA w 238 (gO O (gBeat H L S al st (r, g, O 31, O 32, tn)))) a (gBeat H L S al st (r, g, O 31, O 32, tn)).1) 245 F) 246 Q) 248 (gBeat H L S al st (r, g, O 31, O 32, tn)).2.1) := by
  obtain ⟨ra, rb, rw0, rp, r203⟩ := ri
  have h16 := ra.1
  have k3 := hk.2.1
  have hge := hh.ge
  have r97 := ra.2.2.2.2.2.2.2.2.2.2.2.2.2.2.2.2
  have r94 := ra.2.2.2.2.2.2.2.2.1
  have r94b := ra.2.2.2.2.2.2.2.2.2.1
  have ov : gOver r = 0 ∨ gOver r = 1 ∨ gOver r = 2 := by
    unfold gOver
    split
    · omega
    · split <;> omega
  have e1 := m_over (w := setA w 238 (up1 O 30 (-1))) (a := a) (r := r) hs (by rw [mI_nA (by omega)]; exact hr) (by omega) (by omega)
  have w0 : ∀ (y : Nat → Int), setA (setA (setA (setA (setA w 238 y) a r) 245 (mI w 245)) 246 (mI w 246)) 248 g = setA w 238 y := by
    intro y
    have i1 : mI (setA w 238 y) a = r := by rw [mI_nA (by omega)]; exact hr
    have i2 : mI (setA w 238 y) 245 = mI w 245 := mI_nA (by omega)
    have i3 : mI (setA w 238 y) 246 = mI w 246 := mI_nA (by omega)
    have i4 : mI (setA w 238 y) 248 = g := by rw [mI_nA (by omega)]; exact hg
    rw [← i1, setA_self, ← i2, setA_self, ← i3, setA_self, ← i4, setA_self]
  have gB : gBeat H L S al st (r, g, O 31, O 32, tn) = if 0 < gOver r then (r, g, O 31, O 32, -1) else gB1 H (O 31) (O 32) (gB0 H L S (gSteps H r al st).toNat (up1 r 294 (r 294 + 1)) g) := rfl
  rw [gB]
  by_cases q1 : 0 < gOver r
  · refine ⟨mI w 245, mI w 246, ?_⟩
    rw [if_pos q1]
    dsimp only
    have e6 : gO O (r, g, O 31, O 32, -1) = up1 O 30 (-1) := by
      unfold gO
      dsimp only
      rw [up1_id (f := up1 (up1 O 30 (-1)) 31 (O 31)) (by rw [up1_n (by omega), up1_n (by omega)]), up1_id (by rw [up1_n (by omega)])]
    rw [e6, w0]
    simp (disch := omega) only [p238_0, p238_1, p238_2, p238_5, p238_6, p238_9, p238_12, p238_13, p238_14, p238_17, p238_18, p238_21, p238_22, p238_25, p238_28, p238_29, p238_32, p238_35, p238_36, p238_39, p238_42, p238_43, p238_46, p238_47, p238_48, p238_51, p238_54, p238_55, p238_56, p238_58, p238_61, p238_62, p238_63, p238_64, p238_65, p238_66, p238_67, p238_68, p238_69, p238_73, p238_76, p238_77, p238_78, p238_81, p238_82, p238_83, p238_87, p238_88, p238_91, p238_92, p238_95, p238_96, p238_97, p238_99, p238_102, p238_105, p238_109, p238_110, p238_111, p238_114, p238_117, p238_118, p238_119, p238_122, p238_123, p238_127, p238_128, p238_131, p238_134, p238_137, p238_138, p238_139, p238_141, p238_144, p238_147, p238_150, jwd_c, jwd_0, Nat.reduceLeDiff, Nat.reduceEqDiff, Nat.reduceAdd, Nat.reduceSub, Nat.reduceMul, Int.reduceAdd, Int.reduceSub, Int.reduceMul, Int.reduceNeg, Int.reduceEq, Int.reduceLT, Int.reduceLE, jq_ldi_i, jq_ldl_l, jq_lda_a, jq_inc_i, jq_gs_t, jq_gsb_t, jq_gb_t, jq_gr_2, jq_gr_4, jq_gw_2, jq_s_t, jq_b_t, jg_c, jg_n, js_c, js_n, jrm_c, jrm_n, j2_i, j2_l, j2_a, jq_c_i, jq_c_l, jq_c_0, jq_c_n, jwd_le, jw_c0, mS_I, mS_R, mS_J, mN_I, mN_R, mN_J, mR_I, mI_R, mJ_I, mJ_R, mI_J, mR_J, ↓reduceIte, decide_true, or_true, true_or, and_self, false_or, or_false, reduceCtorEq, Bool.false_eq_true, and_false, false_and, eq_self, true_and, and_true, zero_ne, ↓br_lt_t, ↓br_lt_f, ↓br_eq_t, ↓br_eq_f, ↓br_lz_t, ↓br_lz_f, ↓br_ez_t, ↓br_ez_f, ↓br_gz_t, ↓br_gz_f, jw_id, jin_t, jix_t, mI_A, mI_nA, up1_s, up1_n, mS_A, mR_A, mJ_A, mN_A, setI_A, setA_A, sw_238, sw_239, sw_240, sw_241, sw_242, sw_243, sw_244, sw_245, sw_246, sw_247, sw_248, sw_249, sw_250, sw_251, Int.reduceToNat, Int.toNat_natCast, MO.s0 hm, MO.s1 hm, MO.s2 hm, MO.s3 hm, MO.s4 hm, MO.s5 hm, MO.s6 hm, MO.s7 hm, MO.s8 hm, MO.s9 hm, MO.s10 hm, MO.s11 hm, MO.s12 hm, MO.s13 hm, MO.r1 hm, MO.r2 hm, MO.r3 hm, MO.r4 hm, MO.r5 hm, MO.r6 hm, MO.r7 hm, MO.r8 hm, MO.r9 hm, MO.r10 hm, MO.r11 hm, MO.r12 hm, MO.r13 hm, hO, e1]
  · rw [if_neg q1]
    have hl : r 288 ≤ 200 := by
      unfold gOver at q1
      by_cases z : r 297 = 1
      · rw [if_pos z] at q1
        omega
      · rw [if_neg z] at q1
        by_cases y : 200 < r 288
        · rw [if_pos y] at q1
          omega
        · omega
    have m1 : 0 ≤ r 294 % H 0 5 := Int.emod_nonneg _ (by omega)
    have m2 : r 294 % H 0 5 < H 0 5 := Int.emod_lt_of_pos _ (by omega)
    have k7 := hk.2.2.2.2.2.2.1 (r 294 % H 0 5) m1 m2
    have ra1 : RA H (B + 1) (up1 r 294 (r 294 + 1)) := ra.up
    have hst : 0 ≤ gSteps H r al st ∧ gSteps H r al st ≤ 3 := by
      unfold gSteps
      split
      · split <;> omega
      · omega
    obtain ⟨F, Q, e2⟩ := b1_run (w := setA w 238 (up1 O 30 (-1))) (a := a) (r := r) (st := st) (sp := gSteps H r al st) (O := O) (g := g) (L := L) (S := S) hm (hh.A (by omega)) h3 ha hs hk (by rw [mI_nA (by omega)]; exact hr) (by rw [mI_nA (by omega)]; exact hg) (mI_A _ _ _) hL (by rw [mI_nA (by omega)]; exact hS) l1 l2 s1 ra1 rb rw0 rp hst.1 hst.2 hl
    refine ⟨F, Q, ?_⟩
    simp (disch := omega) only [setA_A] at e2
    rw [← e2]
    unfold gSteps
    by_cases q2 : st = 0
    · rw [if_pos q2]
      by_cases q3 : 0 < al
      · rw [if_pos q3]
        simp (disch := omega) only [p238_0, p238_1, p238_2, p238_5, p238_6, p238_9, p238_12, p238_13, p238_14, p238_17, p238_18, p238_21, p238_22, p238_25, p238_28, p238_29, p238_32, p238_35, p238_36, p238_39, p238_42, p238_43, p238_46, p238_47, p238_48, p238_51, p238_54, p238_55, p238_56, p238_58, p238_61, p238_62, p238_63, p238_64, p238_65, p238_66, p238_67, p238_68, p238_69, p238_73, p238_76, p238_77, p238_78, p238_81, p238_82, p238_83, p238_87, p238_88, p238_91, p238_92, p238_95, p238_96, p238_97, p238_99, p238_102, p238_105, p238_109, p238_110, p238_111, p238_114, p238_117, p238_118, p238_119, p238_122, p238_123, p238_127, p238_128, p238_131, p238_134, p238_137, p238_138, p238_139, p238_141, p238_144, p238_147, p238_150, jwd_c, jwd_0, Nat.reduceLeDiff, Nat.reduceEqDiff, Nat.reduceAdd, Nat.reduceSub, Nat.reduceMul, Int.reduceAdd, Int.reduceSub, Int.reduceMul, Int.reduceNeg, Int.reduceEq, Int.reduceLT, Int.reduceLE, jq_ldi_i, jq_ldl_l, jq_lda_a, jq_inc_i, jq_gs_t, jq_gsb_t, jq_gb_t, jq_gr_2, jq_gr_4, jq_gw_2, jq_s_t, jq_b_t, jg_c, jg_n, js_c, js_n, jrm_c, jrm_n, j2_i, j2_l, j2_a, jq_c_i, jq_c_l, jq_c_0, jq_c_n, jwd_le, jw_c0, mS_I, mS_R, mS_J, mN_I, mN_R, mN_J, mR_I, mI_R, mJ_I, mJ_R, mI_J, mR_J, ↓reduceIte, decide_true, or_true, true_or, and_self, false_or, or_false, reduceCtorEq, Bool.false_eq_true, and_false, false_and, eq_self, true_and, and_true, zero_ne, ↓br_lt_t, ↓br_lt_f, ↓br_eq_t, ↓br_eq_f, ↓br_lz_t, ↓br_lz_f, ↓br_ez_t, ↓br_ez_f, ↓br_gz_t, ↓br_gz_f, jw_id, jin_t, jix_t, mI_A, mI_nA, up1_s, up1_n, mS_A, mR_A, mJ_A, mN_A, setI_A, setA_A, sw_238, sw_239, sw_240, sw_241, sw_242, sw_243, sw_244, sw_245, sw_246, sw_247, sw_248, sw_249, sw_250, sw_251, Int.reduceToNat, Int.toNat_natCast, MO.s0 hm, MO.s1 hm, MO.s2 hm, MO.s3 hm, MO.s4 hm, MO.s5 hm, MO.s6 hm, MO.s7 hm, MO.s8 hm, MO.s9 hm, MO.s10 hm, MO.s11 hm, MO.s12 hm, MO.s13 hm, MO.r1 hm, MO.r2 hm, MO.r3 hm, MO.r4 hm, MO.r5 hm, MO.r6 hm, MO.r7 hm, MO.r8 hm, MO.r9 hm, MO.r10 hm, MO.r11 hm, MO.r12 hm, MO.r13 hm, hO, hal, q2, e1]
      · rw [if_neg q3]
        have q4 : al = 0 := by omega
        simp (disch := omega) only [p238_0, p238_1, p238_2, p238_5, p238_6, p238_9, p238_12, p238_13, p238_14, p238_17, p238_18, p238_21, p238_22, p238_25, p238_28, p238_29, p238_32, p238_35, p238_36, p238_39, p238_42, p238_43, p238_46, p238_47, p238_48, p238_51, p238_54, p238_55, p238_56, p238_58, p238_61, p238_62, p238_63, p238_64, p238_65, p238_66, p238_67, p238_68, p238_69, p238_73, p238_76, p238_77, p238_78, p238_81, p238_82, p238_83, p238_87, p238_88, p238_91, p238_92, p238_95, p238_96, p238_97, p238_99, p238_102, p238_105, p238_109, p238_110, p238_111, p238_114, p238_117, p238_118, p238_119, p238_122, p238_123, p238_127, p238_128, p238_131, p238_134, p238_137, p238_138, p238_139, p238_141, p238_144, p238_147, p238_150, jwd_c, jwd_0, Nat.reduceLeDiff, Nat.reduceEqDiff, Nat.reduceAdd, Nat.reduceSub, Nat.reduceMul, Int.reduceAdd, Int.reduceSub, Int.reduceMul, Int.reduceNeg, Int.reduceEq, Int.reduceLT, Int.reduceLE, jq_ldi_i, jq_ldl_l, jq_lda_a, jq_inc_i, jq_gs_t, jq_gsb_t, jq_gb_t, jq_gr_2, jq_gr_4, jq_gw_2, jq_s_t, jq_b_t, jg_c, jg_n, js_c, js_n, jrm_c, jrm_n, j2_i, j2_l, j2_a, jq_c_i, jq_c_l, jq_c_0, jq_c_n, jwd_le, jw_c0, mS_I, mS_R, mS_J, mN_I, mN_R, mN_J, mR_I, mI_R, mJ_I, mJ_R, mI_J, mR_J, ↓reduceIte, decide_true, or_true, true_or, and_self, false_or, or_false, reduceCtorEq, Bool.false_eq_true, and_false, false_and, eq_self, true_and, and_true, zero_ne, ↓br_lt_t, ↓br_lt_f, ↓br_eq_t, ↓br_eq_f, ↓br_lz_t, ↓br_lz_f, ↓br_ez_t, ↓br_ez_f, ↓br_gz_t, ↓br_gz_f, jw_id, jin_t, jix_t, mI_A, mI_nA, up1_s, up1_n, mS_A, mR_A, mJ_A, mN_A, setI_A, setA_A, sw_238, sw_239, sw_240, sw_241, sw_242, sw_243, sw_244, sw_245, sw_246, sw_247, sw_248, sw_249, sw_250, sw_251, Int.reduceToNat, Int.toNat_natCast, MO.s0 hm, MO.s1 hm, MO.s2 hm, MO.s3 hm, MO.s4 hm, MO.s5 hm, MO.s6 hm, MO.s7 hm, MO.s8 hm, MO.s9 hm, MO.s10 hm, MO.s11 hm, MO.s12 hm, MO.s13 hm, MO.r1 hm, MO.r2 hm, MO.r3 hm, MO.r4 hm, MO.r5 hm, MO.r6 hm, MO.r7 hm, MO.r8 hm, MO.r9 hm, MO.r10 hm, MO.r11 hm, MO.r12 hm, MO.r13 hm, MH.s hh, MH.r11 hh, MH.s11 hh, MH.a11 hh, MH.f5 hh, h3, hs, hr, hO, hal, q2, q4, e1, tmod_nn]
    · rw [if_neg q2]
      simp (disch := omega) only [p238_0, p238_1, p238_2, p238_5, p238_6, p238_9, p238_12, p238_13, p238_14, p238_17, p238_18, p238_21, p238_22, p238_25, p238_28, p238_29, p238_32, p238_35, p238_36, p238_39, p238_42, p238_43, p238_46, p238_47, p238_48, p238_51, p238_54, p238_55, p238_56, p238_58, p238_61, p238_62, p238_63, p238_64, p238_65, p238_66, p238_67, p238_68, p238_69, p238_73, p238_76, p238_77, p238_78, p238_81, p238_82, p238_83, p238_87, p238_88, p238_91, p238_92, p238_95, p238_96, p238_97, p238_99, p238_102, p238_105, p238_109, p238_110, p238_111, p238_114, p238_117, p238_118, p238_119, p238_122, p238_123, p238_127, p238_128, p238_131, p238_134, p238_137, p238_138, p238_139, p238_141, p238_144, p238_147, p238_150, jwd_c, jwd_0, Nat.reduceLeDiff, Nat.reduceEqDiff, Nat.reduceAdd, Nat.reduceSub, Nat.reduceMul, Int.reduceAdd, Int.reduceSub, Int.reduceMul, Int.reduceNeg, Int.reduceEq, Int.reduceLT, Int.reduceLE, jq_ldi_i, jq_ldl_l, jq_lda_a, jq_inc_i, jq_gs_t, jq_gsb_t, jq_gb_t, jq_gr_2, jq_gr_4, jq_gw_2, jq_s_t, jq_b_t, jg_c, jg_n, js_c, js_n, jrm_c, jrm_n, j2_i, j2_l, j2_a, jq_c_i, jq_c_l, jq_c_0, jq_c_n, jwd_le, jw_c0, mS_I, mS_R, mS_J, mN_I, mN_R, mN_J, mR_I, mI_R, mJ_I, mJ_R, mI_J, mR_J, ↓reduceIte, decide_true, or_true, true_or, and_self, false_or, or_false, reduceCtorEq, Bool.false_eq_true, and_false, false_and, eq_self, true_and, and_true, zero_ne, ↓br_lt_t, ↓br_lt_f, ↓br_eq_t, ↓br_eq_f, ↓br_lz_t, ↓br_lz_f, ↓br_ez_t, ↓br_ez_f, ↓br_gz_t, ↓br_gz_f, jw_id, jin_t, jix_t, mI_A, mI_nA, up1_s, up1_n, mS_A, mR_A, mJ_A, mN_A, setI_A, setA_A, sw_238, sw_239, sw_240, sw_241, sw_242, sw_243, sw_244, sw_245, sw_246, sw_247, sw_248, sw_249, sw_250, sw_251, Int.reduceToNat, Int.toNat_natCast, MO.s0 hm, MO.s1 hm, MO.s2 hm, MO.s3 hm, MO.s4 hm, MO.s5 hm, MO.s6 hm, MO.s7 hm, MO.s8 hm, MO.s9 hm, MO.s10 hm, MO.s11 hm, MO.s12 hm, MO.s13 hm, MO.r1 hm, MO.r2 hm, MO.r3 hm, MO.r4 hm, MO.r5 hm, MO.r6 hm, MO.r7 hm, MO.r8 hm, MO.r9 hm, MO.r10 hm, MO.r11 hm, MO.r12 hm, MO.r13 hm, hO, hal, e1]
theorem beat_ok (hk : HOK H) (l2 : L ≤ 12) (s1 : ∀ k, k < 12 → 0 ≤ S k ∧ S k ≤ 3) {al st o j tn : Int} {g : Nat → Int} (al1 : 0 ≤ al) (al3 : al ≤ 3) (ri : RI H B r) : RI H (B + 1) (gBeat H L S al st (r, g, o, j, tn)).1 ∧ o ≤ (gBeat H L S al st (r, g, o, j, tn)).2.2.1 ∧ (gBeat H L S al st (r, g, o, j, tn)).2.2.1 ≤ o + 16 ∧ j ≤ (gBeat H L S al st (r, g, o, j, tn)).2.2.2.1 ∧ (gBeat H L S al st (r, g, o, j, tn)).2.2.2.1 ≤ j + 4 := by
  obtain ⟨ra, rb, rw0, rp, r203⟩ := ri
  have h16 := ra.1
  have k3 := hk.2.1
  have gB : gBeat H L S al st (r, g, o, j, tn) = if 0 < gOver r then (r, g, o, j, -1) else gB1 H o j (gB0 H L S (gSteps H r al st).toNat (up1 r 294 (r 294 + 1)) g) := rfl
  rw [gB]
  split
  · exact ⟨⟨ra.mo (by omega), rb, rw0, rp, r203⟩, Int.le_refl _, by show o ≤ o + 16; omega, Int.le_refl _, by show j ≤ j + 4; omega⟩
  · rename_i q1
    have hl : r 288 ≤ 200 := by
      unfold gOver at q1
      by_cases z : r 297 = 1
      · rw [if_pos z] at q1
        omega
      · rw [if_neg z] at q1
        by_cases y : 200 < r 288
        · rw [if_pos y] at q1
          omega
        · omega
    have r94 := ra.2.2.2.2.2.2.2.2.1
    have m1 : 0 ≤ r 294 % H 0 5 := Int.emod_nonneg _ (by omega)
    have m2 : r 294 % H 0 5 < H 0 5 := Int.emod_lt_of_pos _ (by omega)
    have k7 := hk.2.2.2.2.2.2.1 (r 294 % H 0 5) m1 m2
    have ra1 : RA H (B + 1) (up1 r 294 (r 294 + 1)) := ra.up
    have hst : 0 ≤ gSteps H r al st ∧ gSteps H r al st ≤ 3 := by
      unfold gSteps
      split
      · split <;> omega
      · omega
    have e9 : up1 r 294 (r 294 + 1) 289 = r 289 := up1_n (by omega)
    have e8 : up1 r 294 (r 294 + 1) 288 = r 288 := up1_n (by omega)
    have rb1 : RB (up1 r 294 (r 294 + 1)) := by
      intro i i1 i2
      rw [e9] at i2
      have := rb i i1 i2
      rw [e8, up1_n (b := 290) (by omega), up1_n (b := (204 + i).toNat) (by omega), up1_n (b := (220 + i).toNat) (by omega), up1_n (b := (236 + i).toNat) (by omega), up1_n (b := (252 + i).toNat) (by omega), up1_n (b := (268 + i).toNat) (by omega)]
      exact this
    have rw1 : RW H (up1 r 294 (r 294 + 1)) := by
      refine ⟨fun k k1 k2 => ?_, fun k k1 k2 => ?_⟩
      · rw [e8] at k2
        rw [up1_n (by omega)]
        exact rw0.1 k k1 k2
      · rw [e8] at k2
        rw [up1_n (by omega), up1_n (by omega)]
        exact rw0.2 k k1 k2
    have rp1 : RP (up1 r 294 (r 294 + 1)) := RP_c (fun k k1 k2 => up1_n (by omega)) e8 e9 (by omega) rp
    obtain ⟨o1, o2, o3, o4, o5, o6, o7⟩ := b0_ok hk l2 s1 ra1 rb1 rw1 rp1 (n := (gSteps H r al st).toNat) (by omega) g
    generalize gB0 H L S (gSteps H r al st).toNat (up1 r 294 (r 294 + 1)) g = p at *
    obtain ⟨q, g2⟩ := p
    dsimp only at o1 o2 o3 o4 o5 o6
    have q16 := o1.1
    unfold gB1
    dsimp only
    split
    · exact ⟨⟨o1, o2, o3, o4, by show q 288 ≤ 203; omega⟩, Int.le_refl _, by show o ≤ o + 16; omega, Int.le_refl _, by show j ≤ j + 4; omega⟩
    · obtain ⟨p1, p2, p3, p4, p5⟩ := fa_ok (q 289 - 1).toNat 1 q g2 o1 o2 o3 o4 (by omega) (by omega)
      have p8 := p5 288 (by omega)
      generalize gFA (q 289 - 1).toNat 1 (q, g2) = p at *
      obtain ⟨v, g3⟩ := p
      dsimp only at p1 p2 p3 p4 p8 ⊢
      have v16 := p1.1
      have ti := te_in (r := v) (by omega)
      have key : ∀ (u : Nat → Int) (x y : Int), RA H (B + 1) u → RB u → RW H u → RP u → u 288 = v 288 → o ≤ x → x ≤ o + 16 → RI H (B + 1) (gB5 H j g3 (u, x, y)).1 ∧ o ≤ (gB5 H j g3 (u, x, y)).2.2.1 ∧ (gB5 H j g3 (u, x, y)).2.2.1 ≤ o + 16 ∧ j ≤ (gB5 H j g3 (u, x, y)).2.2.2.1 ∧ (gB5 H j g3 (u, x, y)).2.2.2.1 ≤ j + 4 := by
        intro u x y u1 u2 u3 u4 u5 x1 x2
        have u16 := u1.1
        obtain ⟨d1, d2, d3, d4⟩ := au_ok hk (u 289 - 1).toNat _ u1 u2 u3 u4 (by omega)
        obtain ⟨f1, f2, f3, f4, f5, f6, f7, f8⟩ := aa_ok hk (H 0 3).toNat 0 j _ d1 d2 d3 d4 (by omega) (by omega)
        have au8 : ∀ (n : Nat) (r : Nat → Int), gAu H n r 288 = r 288 := by
          intro n
          induction n with
          | zero => intro r; rfl
          | succ n ih =>
            intro r
            have e : gAu H (n + 1) r = gAu H n (if r (236 + ((n + 1 : Nat) : Int)).toNat = 1 ∧ H 17 (gCell r ((n + 1 : Nat) : Int)).toNat = 1 then gOut r ((n + 1 : Nat) : Int) else r) := rfl
            rw [e, ih]
            split
            · exact gOut_hi (by omega) (by omega)
            · rfl
        rw [au8] at f5
        exact ⟨⟨f1, f2, f3, f4, by
          show (gAA H (H 0 3).toNat 0 (j, gAu H (u 289 - 1).toNat u)).2 288 ≤ 203
          omega⟩, x1, x2, f7, by
          show (gAA H (H 0 3).toNat 0 (j, gAu H (u 289 - 1).toNat u)).1 ≤ j + 4
          omega⟩
      unfold gB2
      split
      · obtain ⟨c1, c2, c3, c4⟩ := cut_ok p1 p2 p3 p4 ti.1 ti.2
        exact key _ _ _ c1 c2 c3 c4 (up1_n (by omega)) (by omega) (by omega)
      · exact key _ _ _ p1 p2 p3 p4 rfl (by omega) (by omega)
end BEATS
