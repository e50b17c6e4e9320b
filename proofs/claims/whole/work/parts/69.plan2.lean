/-! The model: plans, jolts. -/
section PLANM
variable {w u : jmW} {h : Nat} {H : Nat → Nat → Int} {r S q g : Nat → Int} {B : Int} {L : Int} {p al : Int}
theorem side_in (hm : MO w) {d code : Int} (d1 : 1 ≤ d) (d2 : d ≤ 5) : ∀ (n : Nat) (i : Int) (s : Nat → Int), 0 ≤ i → i + n = d → rn 280 (49, [(0, jvr 238), (1, .inl d), (2, .inl code), (3, .inl i)], [], setA w 247 s) = rn 280 (77, [(0, jvr 238), (1, .inl d), (2, .inl code), (3, .inl d)], [], setA w 247 (fun k => if i ≤ k ∧ (k : Int) < d then gSd d code k else s k)) := by
  intro n
  induction n with
  | zero =>
    intro i s i1 i2
    have e0 : i = d := by omega
    subst e0
    have e : (fun k : Nat => if i ≤ k ∧ (k : Int) < i then gSd i code k else s k) = s := by
      funext k
      rw [if_neg (by omega)]
    rw [e, p280_49]
    simp (disch := omega) only [p280_0, p280_1, p280_2, p280_5, p280_6, p280_8, p280_9, p280_10, p280_11, p280_12, p280_13, p280_16, p280_17, p280_20, p280_21, p280_24, p280_25, p280_28, p280_31, p280_32, p280_33, p280_34, p280_37, p280_40, p280_41, p280_42, p280_43, p280_44, p280_47, p280_48, p280_50, p280_51, p280_54, p280_55, p280_58, p280_59, p280_60, p280_61, p280_62, p280_63, p280_64, p280_65, p280_66, p280_67, p280_68, p280_69, p280_70, p280_71, p280_74, p280_78, p280_80, p280_81, p280_84, p280_85, p280_86, p280_89, p280_90, p280_93, p280_96, p280_100, p280_103, p280_106, p280_107, p280_108, p280_111, p280_114, p280_117, p280_118, p280_119, p280_122, p280_125, p280_126, p280_129, p280_130, p280_131, p280_134, p280_137, p280_140, jwd_c, jwd_0, Nat.reduceLeDiff, Nat.reduceEqDiff, Nat.reduceAdd, Nat.reduceSub, Nat.reduceMul, Int.reduceAdd, Int.reduceSub, Int.reduceMul, Int.reduceNeg, Int.reduceEq, Int.reduceLT, Int.reduceLE, jq_ldi_i, jq_ldl_l, jq_lda_a, jq_inc_i, jq_gs_t, jq_gsb_t, jq_gb_t, jq_gr_2, jq_gr_4, jq_gw_2, jq_s_t, jq_b_t, jg_c, jg_n, js_c, js_n, jrm_c, jrm_n, j2_i, j2_l, j2_a, jq_c_i, jq_c_l, jq_c_0, jq_c_n, jwd_le, jw_c0, mS_I, mS_R, mS_J, mN_I, mN_R, mN_J, mR_I, mI_R, mJ_I, mJ_R, mI_J, mR_J, ↓reduceIte, decide_true, or_true, true_or, and_self, false_or, or_false, reduceCtorEq, Bool.false_eq_true, and_false, false_and, eq_self, true_and, and_true, zero_ne, ↓br_lt_t, ↓br_lt_f, ↓br_eq_t, ↓br_eq_f, ↓br_lz_t, ↓br_lz_f, ↓br_ez_t, ↓br_ez_f, ↓br_gz_t, ↓br_gz_f, jw_id, jin_t, jix_t]
  | succ n ih =>
    intro i s i1 i2
    have es : gSd d code i = ji_and (ji_shr code (2 * (d - 1 - i))) 3 := if_neg (by omega)
    have e := ih (i + 1) (up1 s i.toNat (gSd d code i)) (by omega) (by omega)
    have e2 : (fun k : Nat => if i + 1 ≤ k ∧ (k : Int) < d then gSd d code k else up1 s i.toNat (gSd d code i) k) = (fun k : Nat => if i ≤ k ∧ (k : Int) < d then gSd d code k else s k) := by
      funext k
      by_cases z : k = i.toNat
      · rw [z, if_neg (by omega), if_pos (by omega), up1_s, show ((i.toNat : Nat) : Int) = i by omega]
      · rw [up1_n z]
        by_cases y : i ≤ k ∧ (k : Int) < d
        · rw [if_pos y, if_pos (by omega)]
        · rw [if_neg y, if_neg (by omega)]
    rw [e2] at e
    rw [← e, p280_49]
    simp (disch := omega) only [p280_0, p280_1, p280_2, p280_5, p280_6, p280_8, p280_9, p280_10, p280_11, p280_12, p280_13, p280_16, p280_17, p280_20, p280_21, p280_24, p280_25, p280_28, p280_31, p280_32, p280_33, p280_34, p280_37, p280_40, p280_41, p280_42, p280_43, p280_44, p280_47, p280_48, p280_50, p280_51, p280_54, p280_55, p280_58, p280_59, p280_60, p280_61, p280_62, p280_63, p280_64, p280_65, p280_66, p280_67, p280_68, p280_69, p280_70, p280_71, p280_74, p280_78, p280_80, p280_81, p280_84, p280_85, p280_86, p280_89, p280_90, p280_93, p280_96, p280_100, p280_103, p280_106, p280_107, p280_108, p280_111, p280_114, p280_117, p280_118, p280_119, p280_122, p280_125, p280_126, p280_129, p280_130, p280_131, p280_134, p280_137, p280_140, jwd_c, jwd_0, Nat.reduceLeDiff, Nat.reduceEqDiff, Nat.reduceAdd, Nat.reduceSub, Nat.reduceMul, Int.reduceAdd, Int.reduceSub, Int.reduceMul, Int.reduceNeg, Int.reduceEq, Int.reduceLT, Int.reduceLE, jq_ldi_i, jq_ldl_l, jq_lda_a, jq_inc_i, jq_gs_t, jq_gsb_t, jq_gb_t, jq_gr_2, jq_gr_4, jq_gw_2, jq_s_t, jq_b_t, jg_c, jg_n, js_c, js_n, jrm_c, jrm_n, j2_i, j2_l, j2_a, jq_c_i, jq_c_l, jq_c_0, jq_c_n, jwd_le, jw_c0, mS_I, mS_R, mS_J, mN_I, mN_R, mN_J, mR_I, mI_R, mJ_I, mJ_R, mI_J, mR_J, ↓reduceIte, decide_true, or_true, true_or, and_self, false_or, or_false, reduceCtorEq, Bool.false_eq_true, and_false, false_and, eq_self, true_and, and_true, zero_ne, ↓br_lt_t, ↓br_lt_f, ↓br_eq_t, ↓br_eq_f, ↓br_lz_t, ↓br_lz_f, ↓br_ez_t, ↓br_ez_f, ↓br_gz_t, ↓br_gz_f, jw_id, jin_t, jix_t, mI_A, mI_nA, up1_s, up1_n, mS_A, mR_A, mJ_A, mN_A, setI_A, setA_A, sw_238, sw_239, sw_240, sw_241, sw_242, sw_243, sw_244, sw_245, sw_246, sw_247, sw_248, sw_249, sw_250, sw_251, Int.reduceToNat, Int.toNat_natCast, MO.s0 hm, MO.s1 hm, MO.s2 hm, MO.s3 hm, MO.s4 hm, MO.s5 hm, MO.s6 hm, MO.s7 hm, MO.s8 hm, MO.s9 hm, MO.s10 hm, MO.s11 hm, MO.s12 hm, MO.s13 hm, MO.r1 hm, MO.r2 hm, MO.r3 hm, MO.r4 hm, MO.r5 hm, MO.r6 hm, MO.r7 hm, MO.r8 hm, MO.r9 hm, MO.r10 hm, MO.r11 hm, MO.r12 hm, MO.r13 hm, es]
theorem setA_A2 {w : jmW} {f : Nat → Int} : setA w 247 f = setA (setA w 247 f) 247 f := (setA_A w 247 f f).symm
theorem mplan_lp (b : fB H r S q g B) {d : Int} (d1 : 1 ≤ d) (d2 : d ≤ 5) : ∀ (n : Nat) (c bs m : Int) (tl : jmL) (w : jmW), 0 ≤ c → c + n = gN4 d → -1 ≤ m → m ≤ 16 → (m = -1 → bs = 0) → MQh w h H → fU w H S q g → mI w 238 39 = m → (m ≠ -1 → mI w 238 38 = bs) → t1p 3 tl → ∃ u, rn 280 (7, (0, jvr 238) :: (1, .inl d) :: (2, .inl c) :: tl, [], w) = some (none, u) ∧ MO u ∧ mI u 238 39 = (gPl H S q g d n c bs m).2 ∧ ((gPl H S q g d n c bs m).2 ≠ -1 → mI u 238 38 = (gPl H S q g d n c bs m).1) ∧ Km 242 w u := by
  have k6 := b.1.2.1
  have nb := gN4_bd d
  have e7 := shl_d d1 d2
  intro n
  induction n with
  | zero =>
    intro c bs m tl w c1 c2 m1 m2 m3 hq hu h39 h38 ht
    have hm := hq.1
    have e : gPl H S q g d 0 c bs m = (bs, m) := rfl
    refine ⟨w, ?_, hm, by rw [e]; exact h39, by rw [e]; exact h38, Km.rf _ _⟩
    rw [p280_7]
    simp (disch := omega) only [p280_0, p280_1, p280_2, p280_5, p280_6, p280_8, p280_9, p280_10, p280_11, p280_12, p280_13, p280_16, p280_17, p280_20, p280_21, p280_24, p280_25, p280_28, p280_31, p280_32, p280_33, p280_34, p280_37, p280_40, p280_41, p280_42, p280_43, p280_44, p280_47, p280_48, p280_50, p280_51, p280_54, p280_55, p280_58, p280_59, p280_60, p280_61, p280_62, p280_63, p280_64, p280_65, p280_66, p280_67, p280_68, p280_69, p280_70, p280_71, p280_74, p280_78, p280_80, p280_81, p280_84, p280_85, p280_86, p280_89, p280_90, p280_93, p280_96, p280_100, p280_103, p280_106, p280_107, p280_108, p280_111, p280_114, p280_117, p280_118, p280_119, p280_122, p280_125, p280_126, p280_129, p280_130, p280_131, p280_134, p280_137, p280_140, jwd_c, jwd_0, Nat.reduceLeDiff, Nat.reduceEqDiff, Nat.reduceAdd, Nat.reduceSub, Nat.reduceMul, Int.reduceAdd, Int.reduceSub, Int.reduceMul, Int.reduceNeg, Int.reduceEq, Int.reduceLT, Int.reduceLE, jq_ldi_i, jq_ldl_l, jq_lda_a, jq_inc_i, jq_gs_t, jq_gsb_t, jq_gb_t, jq_gr_2, jq_gr_4, jq_gw_2, jq_s_t, jq_b_t, jg_c, jg_n, js_c, js_n, jrm_c, jrm_n, j2_i, j2_l, j2_a, jq_c_i, jq_c_l, jq_c_0, jq_c_n, jwd_le, jw_c0, mS_I, mS_R, mS_J, mN_I, mN_R, mN_J, mR_I, mI_R, mJ_I, mJ_R, mI_J, mR_J, ↓reduceIte, decide_true, or_true, true_or, and_self, false_or, or_false, reduceCtorEq, Bool.false_eq_true, and_false, false_and, eq_self, true_and, and_true, zero_ne, ↓br_lt_t, ↓br_lt_f, ↓br_eq_t, ↓br_eq_f, ↓br_lz_t, ↓br_lz_f, ↓br_ez_t, ↓br_ez_f, ↓br_gz_t, ↓br_gz_f, jw_id, jin_t, jix_t, e7]
  | succ n ih =>
    intro c bs m tl w c1 c2 m1 m2 m3 hq hu h39 h38 ht
    have hm := hq.1
    have e : gPl H S q g d (n + 1) c bs m = if m < (gZp H S q g d c).1.1 289 then gPl H S q g d n (c + 1) c ((gZp H S q g d c).1.1 289) else gPl H S q g d n (c + 1) bs m := rfl
    have bi := b.i
    have h16 := bi.1.1
    obtain ⟨e1, w1, e2, mm1, k1, k33⟩ := mF_beg hq hu
    have hm1 := mm1.1
    have mm2 := (mm1.row (k := 291) (x := 5)).row (k := 293) (x := 0)
    obtain ⟨a1, a2, a3, a4, a5, a6, a7, a8, a9, a10⟩ := mm2
    have hm2 : MO (setI (setI (setI w1 242 291 5) 242 293 0) 238 27 d) := hm1.frR rfl rfl
    have s247 : mI (setI (setI (setI w1 242 291 5) 242 293 0) 238 27 d) 247 = S := by rw [mI_nb (by omega)]; exact a10
    have es := side_in (w := setI (setI (setI w1 242 291 5) 242 293 0) 238 27 d) hm2 (code := c) d1 d2 d.toNat 0 S (by omega) (by omega)
    have eS : (fun k : Nat => if (0 : Int) ≤ k ∧ (k : Int) < d then gSd d c k else S k) = gSc S d c := by
      funext k
      unfold gSc
      by_cases y : (k : Int) < d
      · rw [if_pos y, if_pos ⟨by omega, y⟩]
      · rw [if_neg y, if_neg (fun z => y z.2)]
    rw [eS, ← s247, setA_self, s247] at es
    generalize hw4 : setA (setI (setI (setI w1 242 291 5) 242 293 0) 238 27 d) 247 (gSc S d c) = w4 at *
    have mm4 : MF w4 242 h H d (gSc S d c) 0 (up1 (up1 q 291 5) 293 0, g, 0, 0, -1) := by
      rw [← hw4]
      refine ⟨hm1.frR rfl rfl, (a2.frF (Fr.I (P := fun b => b = 238) rfl) (fun b hb => by omega)).A (by omega), a3, ?_, ?_, ?_, ?_, ?_, ?_, mI_A _ _ _⟩
      · rw [mI_nA (by omega), mI_nb (by omega)]; exact a4
      · rw [mI_nA (by omega), mI_nb (by omega)]; exact a5
      · rw [mI_nA (by omega), mI_nk (by omega)]; exact a6
      · rw [mI_nA (by omega), mI_nk (by omega)]; exact a7
      · rw [mI_nA (by omega), mI_s]
      · rw [mI_nA (by omega), mI_nk (by omega)]; exact a9
    have k4 : Km 242 w1 w4 := by
      rw [← hw4]
      exact (((Km.B (Or.inl rfl) (by omega)).tr (Km.B (Or.inl rfl) (by omega))).tr (Km.I (by omega))).tr (Km.A (Or.inr ⟨by omega, by omega⟩) (by omega))
    have k34 : ∀ k, 33 ≤ k → mI w4 238 k = mI w 238 k := by
      intro k hk
      rw [← hw4, mI_nA (by omega), mI_nk (by omega), mI_nb (by omega), mI_nb (by omega), k33 k hk]
    have zb := zb0 (p := -1) (g := g) (q5_ri b) b.2.2.2.1.1 (Or.inl rfl)
    obtain ⟨x2, w5, e3, m5, ex5, zb5, k5, k35⟩ := plan_in (p := -1) (al := 0) (t := d) (y2 := c) b.1 (by omega) (by omega) (sc_ok b) (Or.inl rfl) rfl (by omega) d.toNat 0 _ (gZ0 (up1 (up1 q 291 5) 293 0) g) _ B mm4 ⟨rfl, rfl, rfl, rfl⟩ rfl zb (by have := b.2.2.2.1; omega) (by omega) (by omega)
    have kA := (k1.tr k4).tr k5
    have hu5 := hu.nx b (by omega) (sc_ok b) m5 ex5 rfl rfl zb (fun k hk => by show up1 (up1 q 291 5) 293 0 k = q k; rw [up1_n (by omega), up1_n (by omega)]) (fun k hk => if_neg (by omega)) kA
    have m4 := m5.2.2.2.1
    rw [ex5.1] at m4
    have hm5 := m5.1
    have j3 := t1p_js ht
    have f39 : mI w5 238 39 = m := by rw [k35 39 (by omega), k34 39 (by omega), h39]
    have f38 : m ≠ -1 → mI w5 238 38 = bs := fun z => by rw [k35 38 (by omega), k34 38 (by omega), h38 z]
    rw [e]
    have ez : gZp H S q g d c = gFr H d (gSc S d c) (-1) d.toNat (gZ0 (up1 (up1 q 291 5) 293 0) g) := rfl
    rw [← ez] at m4 zb5
    generalize gZp H S q g d c = z at *
    have z16 := zb5.1.1.1
    have z2 : mS (setA w 242 q) 238 = (1, 9, 0) := hm.s0
    have hd : rn 280 (7, (0, jvr 238) :: (1, .inl d) :: (2, .inl c) :: tl, [], w) = rn 280 (99, [(0, jvr 238), (1, .inl d), (2, .inl c), (3, .inl d)], [], w5) := by
      rw [← e3, p280_7]
      have z4 : mS w4 238 = (1, 9, 0) := mm4.1.s0
      simp (disch := omega) only [p280_0, p280_1, p280_2, p280_5, p280_6, p280_8, p280_9, p280_10, p280_11, p280_12, p280_13, p280_16, p280_17, p280_20, p280_21, p280_24, p280_25, p280_28, p280_31, p280_32, p280_33, p280_34, p280_37, p280_40, p280_41, p280_42, p280_43, p280_44, p280_47, p280_48, p280_50, p280_51, p280_54, p280_55, p280_58, p280_59, p280_60, p280_61, p280_62, p280_63, p280_64, p280_65, p280_66, p280_67, p280_68, p280_69, p280_70, p280_71, p280_74, p280_78, p280_80, p280_81, p280_84, p280_85, p280_86, p280_89, p280_90, p280_93, p280_96, p280_100, p280_103, p280_106, p280_107, p280_108, p280_111, p280_114, p280_117, p280_118, p280_119, p280_122, p280_125, p280_126, p280_129, p280_130, p280_131, p280_134, p280_137, p280_140, jwd_c, jwd_0, Nat.reduceLeDiff, Nat.reduceEqDiff, Nat.reduceAdd, Nat.reduceSub, Nat.reduceMul, Int.reduceAdd, Int.reduceSub, Int.reduceMul, Int.reduceNeg, Int.reduceEq, Int.reduceLT, Int.reduceLE, jq_ldi_i, jq_ldl_l, jq_lda_a, jq_inc_i, jq_gs_t, jq_gsb_t, jq_gb_t, jq_gr_2, jq_gr_4, jq_gw_2, jq_s_t, jq_b_t, jg_c, jg_n, js_c, js_n, jrm_c, jrm_n, j2_i, j2_l, j2_a, jq_c_i, jq_c_l, jq_c_0, jq_c_n, jwd_le, jw_c0, mS_I, mS_R, mS_J, mN_I, mN_R, mN_J, mR_I, mI_R, mJ_I, mJ_R, mI_J, mR_J, ↓reduceIte, decide_true, or_true, true_or, and_self, false_or, or_false, reduceCtorEq, Bool.false_eq_true, and_false, false_and, eq_self, true_and, and_true, zero_ne, ↓br_lt_t, ↓br_lt_f, ↓br_eq_t, ↓br_eq_f, ↓br_lz_t, ↓br_lz_f, ↓br_ez_t, ↓br_ez_f, ↓br_gz_t, ↓br_gz_f, jw_id, jin_t, jix_t, MO.s0 hm, MO.s1 hm, MO.s2 hm, MO.s3 hm, MO.s4 hm, MO.s5 hm, MO.s6 hm, MO.s7 hm, MO.s8 hm, MO.s9 hm, MO.s10 hm, MO.s11 hm, MO.s12 hm, MO.s13 hm, MO.r1 hm, MO.r2 hm, MO.r3 hm, MO.r4 hm, MO.r5 hm, MO.r6 hm, MO.r7 hm, MO.r8 hm, MO.r9 hm, MO.r10 hm, MO.r11 hm, MO.r12 hm, MO.r13 hm, e7, e1, z2, e2, MO.s0 hm1, MO.r4 hm1, MO.s4 hm1, Int.reduceToNat, j3]
      rw [es, p280_77]
      simp (disch := omega) only [p280_0, p280_1, p280_2, p280_5, p280_6, p280_8, p280_9, p280_10, p280_11, p280_12, p280_13, p280_16, p280_17, p280_20, p280_21, p280_24, p280_25, p280_28, p280_31, p280_32, p280_33, p280_34, p280_37, p280_40, p280_41, p280_42, p280_43, p280_44, p280_47, p280_48, p280_50, p280_51, p280_54, p280_55, p280_58, p280_59, p280_60, p280_61, p280_62, p280_63, p280_64, p280_65, p280_66, p280_67, p280_68, p280_69, p280_70, p280_71, p280_74, p280_78, p280_80, p280_81, p280_84, p280_85, p280_86, p280_89, p280_90, p280_93, p280_96, p280_100, p280_103, p280_106, p280_107, p280_108, p280_111, p280_114, p280_117, p280_118, p280_119, p280_122, p280_125, p280_126, p280_129, p280_130, p280_131, p280_134, p280_137, p280_140, jwd_c, jwd_0, Nat.reduceLeDiff, Nat.reduceEqDiff, Nat.reduceAdd, Nat.reduceSub, Nat.reduceMul, Int.reduceAdd, Int.reduceSub, Int.reduceMul, Int.reduceNeg, Int.reduceEq, Int.reduceLT, Int.reduceLE, jq_ldi_i, jq_ldl_l, jq_lda_a, jq_inc_i, jq_gs_t, jq_gsb_t, jq_gb_t, jq_gr_2, jq_gr_4, jq_gw_2, jq_s_t, jq_b_t, jg_c, jg_n, js_c, js_n, jrm_c, jrm_n, j2_i, j2_l, j2_a, jq_c_i, jq_c_l, jq_c_0, jq_c_n, jwd_le, jw_c0, mS_I, mS_R, mS_J, mN_I, mN_R, mN_J, mR_I, mI_R, mJ_I, mJ_R, mI_J, mR_J, ↓reduceIte, decide_true, or_true, true_or, and_self, false_or, or_false, reduceCtorEq, Bool.false_eq_true, and_false, false_and, eq_self, true_and, and_true, zero_ne, ↓br_lt_t, ↓br_lt_f, ↓br_eq_t, ↓br_eq_f, ↓br_lz_t, ↓br_lz_f, ↓br_ez_t, ↓br_ez_f, ↓br_gz_t, ↓br_gz_f, jw_id, jin_t, jix_t]
    rw [hd]
    by_cases q1 : m < z.1.1 289
    · rw [if_pos q1]
      have kB : Km 242 w5 (setI (setI w5 238 39 (z.1.1 289)) 238 38 c) := (Km.I (by omega)).tr (Km.I (by omega))
      have hu6 : fU (setI (setI w5 238 39 (z.1.1 289)) 238 38 c) H S q g := by
        unfold fU at hu5 ⊢
        rw [mI_nb (b := 241) (by omega), mI_nb (b := 241) (by omega), mI_nb (b := 242) (by omega), mI_nb (b := 242) (by omega), mI_nb (b := 247) (by omega), mI_nb (b := 247) (by omega), mI_nb (b := 248) (by omega), mI_nb (b := 248) (by omega)]
        exact hu5
      obtain ⟨u, e5, u1, u2, u3, u4⟩ := ih (c + 1) c (z.1.1 289) [(3, .inl d)] (setI (setI w5 238 39 (z.1.1 289)) 238 38 c) (by omega) (by omega) (by omega) (by omega) (by omega) (m5.mq.km kB (by omega)) hu6 (by rw [mI_nk (by omega), mI_s]) (fun _ => mI_s _ _ _ _) (Or.inr ⟨_, rfl⟩)
      refine ⟨u, ?_, u1, u2, u3, (kA.tr kB).tr u4⟩
      rw [← e5, p280_99]
      simp (disch := omega) only [p280_0, p280_1, p280_2, p280_5, p280_6, p280_8, p280_9, p280_10, p280_11, p280_12, p280_13, p280_16, p280_17, p280_20, p280_21, p280_24, p280_25, p280_28, p280_31, p280_32, p280_33, p280_34, p280_37, p280_40, p280_41, p280_42, p280_43, p280_44, p280_47, p280_48, p280_50, p280_51, p280_54, p280_55, p280_58, p280_59, p280_60, p280_61, p280_62, p280_63, p280_64, p280_65, p280_66, p280_67, p280_68, p280_69, p280_70, p280_71, p280_74, p280_78, p280_80, p280_81, p280_84, p280_85, p280_86, p280_89, p280_90, p280_93, p280_96, p280_100, p280_103, p280_106, p280_107, p280_108, p280_111, p280_114, p280_117, p280_118, p280_119, p280_122, p280_125, p280_126, p280_129, p280_130, p280_131, p280_134, p280_137, p280_140, jwd_c, jwd_0, Nat.reduceLeDiff, Nat.reduceEqDiff, Nat.reduceAdd, Nat.reduceSub, Nat.reduceMul, Int.reduceAdd, Int.reduceSub, Int.reduceMul, Int.reduceNeg, Int.reduceEq, Int.reduceLT, Int.reduceLE, jq_ldi_i, jq_ldl_l, jq_lda_a, jq_inc_i, jq_gs_t, jq_gsb_t, jq_gb_t, jq_gr_2, jq_gr_4, jq_gw_2, jq_s_t, jq_b_t, jg_c, jg_n, js_c, js_n, jrm_c, jrm_n, j2_i, j2_l, j2_a, jq_c_i, jq_c_l, jq_c_0, jq_c_n, jwd_le, jw_c0, mS_I, mS_R, mS_J, mN_I, mN_R, mN_J, mR_I, mI_R, mJ_I, mJ_R, mI_J, mR_J, ↓reduceIte, decide_true, or_true, true_or, and_self, false_or, or_false, reduceCtorEq, Bool.false_eq_true, and_false, false_and, eq_self, true_and, and_true, zero_ne, ↓br_lt_t, ↓br_lt_f, ↓br_eq_t, ↓br_eq_f, ↓br_lz_t, ↓br_lz_f, ↓br_ez_t, ↓br_ez_f, ↓br_gz_t, ↓br_gz_f, jw_id, jin_t, jix_t, MO.s0 hm5, MO.r4 hm5, MO.s4 hm5, m4, Int.reduceToNat, f39]
    · rw [if_neg q1]
      obtain ⟨u, e5, u1, u2, u3, u4⟩ := ih (c + 1) bs m [(3, .inl d)] w5 (by omega) (by omega) m1 m2 m3 m5.mq hu5 f39 f38 (Or.inr ⟨_, rfl⟩)
      refine ⟨u, ?_, u1, u2, u3, kA.tr u4⟩
      rw [← e5, p280_99]
      simp (disch := omega) only [p280_0, p280_1, p280_2, p280_5, p280_6, p280_8, p280_9, p280_10, p280_11, p280_12, p280_13, p280_16, p280_17, p280_20, p280_21, p280_24, p280_25, p280_28, p280_31, p280_32, p280_33, p280_34, p280_37, p280_40, p280_41, p280_42, p280_43, p280_44, p280_47, p280_48, p280_50, p280_51, p280_54, p280_55, p280_58, p280_59, p280_60, p280_61, p280_62, p280_63, p280_64, p280_65, p280_66, p280_67, p280_68, p280_69, p280_70, p280_71, p280_74, p280_78, p280_80, p280_81, p280_84, p280_85, p280_86, p280_89, p280_90, p280_93, p280_96, p280_100, p280_103, p280_106, p280_107, p280_108, p280_111, p280_114, p280_117, p280_118, p280_119, p280_122, p280_125, p280_126, p280_129, p280_130, p280_131, p280_134, p280_137, p280_140, jwd_c, jwd_0, Nat.reduceLeDiff, Nat.reduceEqDiff, Nat.reduceAdd, Nat.reduceSub, Nat.reduceMul, Int.reduceAdd, Int.reduceSub, Int.reduceMul, Int.reduceNeg, Int.reduceEq, Int.reduceLT, Int.reduceLE, jq_ldi_i, jq_ldl_l, jq_lda_a, jq_inc_i, jq_gs_t, jq_gsb_t, jq_gb_t, jq_gr_2, jq_gr_4, jq_gw_2, jq_s_t, jq_b_t, jg_c, jg_n, js_c, js_n, jrm_c, jrm_n, j2_i, j2_l, j2_a, jq_c_i, jq_c_l, jq_c_0, jq_c_n, jwd_le, jw_c0, mS_I, mS_R, mS_J, mN_I, mN_R, mN_J, mR_I, mI_R, mJ_I, mJ_R, mI_J, mR_J, ↓reduceIte, decide_true, or_true, true_or, and_self, false_or, or_false, reduceCtorEq, Bool.false_eq_true, and_false, false_and, eq_self, true_and, and_true, zero_ne, ↓br_lt_t, ↓br_lt_f, ↓br_eq_t, ↓br_eq_f, ↓br_lz_t, ↓br_lz_f, ↓br_ez_t, ↓br_ez_f, ↓br_gz_t, ↓br_gz_f, jw_id, jin_t, jix_t, MO.s0 hm5, MO.r4 hm5, MO.s4 hm5, m4, Int.reduceToNat, f39]
theorem m_plans (b : fB H r S q g B) {d : Int} (d1 : 1 ≤ d) (d2 : d ≤ 5) (hq : MQh w h H) (hu : fU w H S q g) : ∃ u, rn 280 (0, [(0, jvr 238), (1, .inl d)], [], w) = some (none, u) ∧ MO u ∧ mI u 238 39 = (gPl H S q g d (gN4 d) 0 0 (-1)).2 ∧ mI u 238 38 = (gPl H S q g d (gN4 d) 0 0 (-1)).1 ∧ Km 242 w u := by
  have nb := gN4_bd d
  have hm := hq.1
  have kB : Km 242 w (setI w 238 39 (-1)) := Km.I (by omega)
  have hu6 : fU (setI w 238 39 (-1)) H S q g := by
    unfold fU at hu ⊢
    rw [mI_nb (b := 241) (by omega), mI_nb (b := 242) (by omega), mI_nb (b := 247) (by omega), mI_nb (b := 248) (by omega)]
    exact hu
  obtain ⟨u, e, u1, u2, u3, u4⟩ := mplan_lp b d1 d2 (gN4 d) 0 0 (-1) [] (setI w 238 39 (-1)) (by omega) (by omega) (by omega) (by omega) (fun _ => rfl) (hq.km kB (by omega)) hu6 (mI_s _ _ _ _) (fun z => absurd rfl z) (Or.inl rfl)
  have po := (pl_ok b d1 d2 (gN4 d) 0 0 (-1) (by omega) (by omega) (Or.inl rfl) (fun _ => by omega)).1
  have zb := zp_bd b d1 d2 (code := (gPl H S q g d (gN4 d) 0 0 (-1)).1)
  refine ⟨u, ?_, u1, u2, u3 (by omega), kB.tr u4⟩
  rw [← e]
  simp (disch := omega) only [p280_0, p280_1, p280_2, p280_5, p280_6, p280_8, p280_9, p280_10, p280_11, p280_12, p280_13, p280_16, p280_17, p280_20, p280_21, p280_24, p280_25, p280_28, p280_31, p280_32, p280_33, p280_34, p280_37, p280_40, p280_41, p280_42, p280_43, p280_44, p280_47, p280_48, p280_50, p280_51, p280_54, p280_55, p280_58, p280_59, p280_60, p280_61, p280_62, p280_63, p280_64, p280_65, p280_66, p280_67, p280_68, p280_69, p280_70, p280_71, p280_74, p280_78, p280_80, p280_81, p280_84, p280_85, p280_86, p280_89, p280_90, p280_93, p280_96, p280_100, p280_103, p280_106, p280_107, p280_108, p280_111, p280_114, p280_117, p280_118, p280_119, p280_122, p280_125, p280_126, p280_129, p280_130, p280_131, p280_134, p280_137, p280_140, jwd_c, jwd_0, Nat.reduceLeDiff, Nat.reduceEqDiff, Nat.reduceAdd, Nat.reduceSub, Nat.reduceMul, Int.reduceAdd, Int.reduceSub, Int.reduceMul, Int.reduceNeg, Int.reduceEq, Int.reduceLT, Int.reduceLE, jq_ldi_i, jq_ldl_l, jq_lda_a, jq_inc_i, jq_gs_t, jq_gsb_t, jq_gb_t, jq_gr_2, jq_gr_4, jq_gw_2, jq_s_t, jq_b_t, jg_c, jg_n, js_c, js_n, jrm_c, jrm_n, j2_i, j2_l, j2_a, jq_c_i, jq_c_l, jq_c_0, jq_c_n, jwd_le, jw_c0, mS_I, mS_R, mS_J, mN_I, mN_R, mN_J, mR_I, mI_R, mJ_I, mJ_R, mI_J, mR_J, ↓reduceIte, decide_true, or_true, true_or, and_self, false_or, or_false, reduceCtorEq, Bool.false_eq_true, and_false, false_and, eq_self, true_and, and_true, zero_ne, ↓br_lt_t, ↓br_lt_f, ↓br_eq_t, ↓br_eq_f, ↓br_lz_t, ↓br_lz_f, ↓br_ez_t, ↓br_ez_f, ↓br_gz_t, ↓br_gz_f, jw_id, jin_t, jix_t, MO.s0 hm, MO.s1 hm, MO.s2 hm, MO.s3 hm, MO.s4 hm, MO.s5 hm, MO.s6 hm, MO.s7 hm, MO.s8 hm, MO.s9 hm, MO.s10 hm, MO.s11 hm, MO.s12 hm, MO.s13 hm, MO.r1 hm, MO.r2 hm, MO.r3 hm, MO.r4 hm, MO.r5 hm, MO.r6 hm, MO.r7 hm, MO.r8 hm, MO.r9 hm, MO.r10 hm, MO.r11 hm, MO.r12 hm, MO.r13 hm]
theorem m_refPl (hm : MO w) (h3 : mR w 238 3 = some h) {d : Int} (x1 : -2147483648 ≤ d) (x2 : d < 2147483648) : rn 279 (0, [(0, jvr 238), (1, .inl d)], [], w) = some (some (.inl (if 1 ≤ d ∧ d ≤ 5 then 0 else 2)), w) := by
  have e := m_in (w := w) (x := d) (a := 1) (b := 5) x1 x2 (by omega) (by omega) (by omega) (by omega)
  by_cases q1 : 1 ≤ d ∧ d ≤ 5
  · rw [if_pos q1] at e ⊢
    simp (disch := omega) only [p279_0, p279_1, p279_4n, p279_4s, p279_7, p279_8, p279_11, p279_12, p279_13, p279_14, p279_17, p279_20, p279_21, p279_24, p279_25, jwd_c, jwd_0, Nat.reduceLeDiff, Nat.reduceEqDiff, Nat.reduceAdd, Nat.reduceSub, Nat.reduceMul, Int.reduceAdd, Int.reduceSub, Int.reduceMul, Int.reduceNeg, Int.reduceEq, Int.reduceLT, Int.reduceLE, jq_ldi_i, jq_ldl_l, jq_lda_a, jq_inc_i, jq_gs_t, jq_gsb_t, jq_gb_t, jq_gr_2, jq_gr_4, jq_gw_2, jq_s_t, jq_b_t, jg_c, jg_n, js_c, js_n, jrm_c, jrm_n, j2_i, j2_l, j2_a, jq_c_i, jq_c_l, jq_c_0, jq_c_n, jwd_le, jw_c0, mS_I, mS_R, mS_J, mN_I, mN_R, mN_J, mR_I, mI_R, mJ_I, mJ_R, mI_J, mR_J, ↓reduceIte, decide_true, or_true, true_or, and_self, false_or, or_false, reduceCtorEq, Bool.false_eq_true, and_false, false_and, eq_self, true_and, and_true, zero_ne, ↓br_lt_t, ↓br_lt_f, ↓br_eq_t, ↓br_eq_f, ↓br_lz_t, ↓br_lz_f, ↓br_ez_t, ↓br_ez_f, ↓br_gz_t, ↓br_gz_f, jw_id, jin_t, jix_t, MO.s0 hm, MO.s1 hm, MO.s2 hm, MO.s3 hm, MO.s4 hm, MO.s5 hm, MO.s6 hm, MO.s7 hm, MO.s8 hm, MO.s9 hm, MO.s10 hm, MO.s11 hm, MO.s12 hm, MO.s13 hm, MO.r1 hm, MO.r2 hm, MO.r3 hm, MO.r4 hm, MO.r5 hm, MO.r6 hm, MO.r7 hm, MO.r8 hm, MO.r9 hm, MO.r10 hm, MO.r11 hm, MO.r12 hm, MO.r13 hm, h3, e]
  · rw [if_neg q1] at e ⊢
    simp (disch := omega) only [p279_0, p279_1, p279_4n, p279_4s, p279_7, p279_8, p279_11, p279_12, p279_13, p279_14, p279_17, p279_20, p279_21, p279_24, p279_25, jwd_c, jwd_0, Nat.reduceLeDiff, Nat.reduceEqDiff, Nat.reduceAdd, Nat.reduceSub, Nat.reduceMul, Int.reduceAdd, Int.reduceSub, Int.reduceMul, Int.reduceNeg, Int.reduceEq, Int.reduceLT, Int.reduceLE, jq_ldi_i, jq_ldl_l, jq_lda_a, jq_inc_i, jq_gs_t, jq_gsb_t, jq_gb_t, jq_gr_2, jq_gr_4, jq_gw_2, jq_s_t, jq_b_t, jg_c, jg_n, js_c, js_n, jrm_c, jrm_n, j2_i, j2_l, j2_a, jq_c_i, jq_c_l, jq_c_0, jq_c_n, jwd_le, jw_c0, mS_I, mS_R, mS_J, mN_I, mN_R, mN_J, mR_I, mI_R, mJ_I, mJ_R, mI_J, mR_J, ↓reduceIte, decide_true, or_true, true_or, and_self, false_or, or_false, reduceCtorEq, Bool.false_eq_true, and_false, false_and, eq_self, true_and, and_true, zero_ne, ↓br_lt_t, ↓br_lt_f, ↓br_eq_t, ↓br_eq_f, ↓br_lz_t, ↓br_lz_f, ↓br_ez_t, ↓br_ez_f, ↓br_gz_t, ↓br_gz_f, jw_id, jin_t, jix_t, MO.s0 hm, MO.s1 hm, MO.s2 hm, MO.s3 hm, MO.s4 hm, MO.s5 hm, MO.s6 hm, MO.s7 hm, MO.s8 hm, MO.s9 hm, MO.s10 hm, MO.s11 hm, MO.s12 hm, MO.s13 hm, MO.r1 hm, MO.r2 hm, MO.r3 hm, MO.r4 hm, MO.r5 hm, MO.r6 hm, MO.r7 hm, MO.r8 hm, MO.r9 hm, MO.r10 hm, MO.r11 hm, MO.r12 hm, MO.r13 hm, h3, e]
theorem d_plan (hq : MQh w h H) (hv : mI w 241 = r) (b : fB H r S q g B) (hu : fU w H S q g) {d : Int} (x1 : -2147483648 ≤ d) (x2 : d < 2147483648) : ∃ u, rn 278 (0, [(0, jvr 238), (1, .inl d)], [], w) = some (some (.inl (A28 H S q g d).1), u) ∧ qM w u (A28 H S q g d).2 := by
  have hs0 := hq.1.s0
  have hq0 : MQh (setI w 238 0 0) h H := hq.z
  have hv0 : mI (setI w 238 0 0) 241 = r := (mI_nb (by omega)).trans hv
  have e00 : rn 278 (0, [(0, jvr 238), (1, .inl d)], [], w) = rn 278 (5, [(0, jvr 238), (1, .inl d)], [], setI w 238 0 0) := by
    simp only [p278_0, p278_1, p278_2, jwd_c, jwd_0, Nat.reduceLeDiff, Nat.reduceEqDiff, Nat.reduceAdd, Nat.reduceSub, Nat.reduceMul, Int.reduceAdd, Int.reduceSub, Int.reduceMul, Int.reduceNeg, Int.reduceEq, Int.reduceLT, Int.reduceLE, jq_ldi_i, jq_ldl_l, jq_lda_a, jq_inc_i, jq_gs_t, jq_gsb_t, jq_gb_t, jq_gr_2, jq_gr_4, jq_gw_2, jq_s_t, jq_b_t, jg_c, jg_n, js_c, js_n, jrm_c, jrm_n, j2_i, j2_l, j2_a, jq_c_i, jq_c_l, jq_c_0, jq_c_n, jwd_le, jw_c0, mS_I, mS_R, mS_J, mN_I, mN_R, mN_J, mR_I, mI_R, mJ_I, mJ_R, mI_J, mR_J, ↓reduceIte, decide_true, or_true, true_or, and_self, false_or, or_false, reduceCtorEq, Bool.false_eq_true, and_false, false_and, eq_self, true_and, and_true, zero_ne, hs0]
  rw [e00]
  clear e00
  generalize hw0 : setI w 238 0 0 = w0 at *
  have hq1 := hq0
  obtain ⟨hm, hh, h3⟩ := hq0
  have hge := hh.ge
  have er := m_refPl hm h3 x1 x2
  unfold A28
  by_cases hd : 1 ≤ d ∧ d ≤ 5
  · rw [if_pos hd] at er ⊢
    obtain ⟨u, e, u1, u2, u3, k⟩ := m_plans b hd.1 hd.2 hq1 (hu.z hw0)
    refine ⟨_, ?_, qM.fut hw0 k⟩
    simp (disch := omega) only [p278_0, p278_1, p278_2, p278_5, p278_6, p278_7, p278_10, p278_11, p278_12, p278_15, p278_16, p278_17, p278_20, p278_21, p278_22, p278_23, p278_26, p278_27, p278_28, p278_31, p278_34, p213_0, p213_1, p213_2, p213_5, p213_6, p213_7, p213_10, p213_11, p176_0, p176_1, p176_2, p176_5, p176_6, p176_7, p176_10, p176_11, jwd_c, jwd_0, Nat.reduceLeDiff, Nat.reduceEqDiff, Nat.reduceAdd, Nat.reduceSub, Nat.reduceMul, Int.reduceAdd, Int.reduceSub, Int.reduceMul, Int.reduceNeg, Int.reduceEq, Int.reduceLT, Int.reduceLE, jq_ldi_i, jq_ldl_l, jq_lda_a, jq_inc_i, jq_gs_t, jq_gsb_t, jq_gb_t, jq_gr_2, jq_gr_4, jq_gw_2, jq_s_t, jq_b_t, jg_c, jg_n, js_c, js_n, jrm_c, jrm_n, j2_i, j2_l, j2_a, jq_c_i, jq_c_l, jq_c_0, jq_c_n, jwd_le, jw_c0, mS_I, mS_R, mS_J, mN_I, mN_R, mN_J, mR_I, mI_R, mJ_I, mJ_R, mI_J, mR_J, ↓reduceIte, decide_true, or_true, true_or, and_self, false_or, or_false, reduceCtorEq, Bool.false_eq_true, and_false, false_and, eq_self, true_and, and_true, zero_ne, ↓br_lt_t, ↓br_lt_f, ↓br_eq_t, ↓br_eq_f, ↓br_lz_t, ↓br_lz_f, ↓br_ez_t, ↓br_ez_f, ↓br_gz_t, ↓br_gz_f, jw_id, jin_t, jix_t, MO.s0 hm, MO.s1 hm, MO.s2 hm, MO.s3 hm, MO.s4 hm, MO.s5 hm, MO.s6 hm, MO.s7 hm, MO.s8 hm, MO.s9 hm, MO.s10 hm, MO.s11 hm, MO.s12 hm, MO.s13 hm, MO.r1 hm, MO.r2 hm, MO.r3 hm, MO.r4 hm, MO.r5 hm, MO.r6 hm, MO.r7 hm, MO.r8 hm, MO.r9 hm, MO.r10 hm, MO.r11 hm, MO.r12 hm, MO.r13 hm, er, e, MO.s0 u1, u2]
  · rw [if_neg hd] at er ⊢
    refine ⟨_, ?_, qM.triv hw0⟩
    simp (disch := omega) only [p278_0, p278_1, p278_2, p278_5, p278_6, p278_7, p278_10, p278_11, p278_12, p278_15, p278_16, p278_17, p278_20, p278_21, p278_22, p278_23, p278_26, p278_27, p278_28, p278_31, p278_34, p213_0, p213_1, p213_2, p213_5, p213_6, p213_7, p213_10, p213_11, p176_0, p176_1, p176_2, p176_5, p176_6, p176_7, p176_10, p176_11, jwd_c, jwd_0, Nat.reduceLeDiff, Nat.reduceEqDiff, Nat.reduceAdd, Nat.reduceSub, Nat.reduceMul, Int.reduceAdd, Int.reduceSub, Int.reduceMul, Int.reduceNeg, Int.reduceEq, Int.reduceLT, Int.reduceLE, jq_ldi_i, jq_ldl_l, jq_lda_a, jq_inc_i, jq_gs_t, jq_gsb_t, jq_gb_t, jq_gr_2, jq_gr_4, jq_gw_2, jq_s_t, jq_b_t, jg_c, jg_n, js_c, js_n, jrm_c, jrm_n, j2_i, j2_l, j2_a, jq_c_i, jq_c_l, jq_c_0, jq_c_n, jwd_le, jw_c0, mS_I, mS_R, mS_J, mN_I, mN_R, mN_J, mR_I, mI_R, mJ_I, mJ_R, mI_J, mR_J, ↓reduceIte, decide_true, or_true, true_or, and_self, false_or, or_false, reduceCtorEq, Bool.false_eq_true, and_false, false_and, eq_self, true_and, and_true, zero_ne, ↓br_lt_t, ↓br_lt_f, ↓br_eq_t, ↓br_eq_f, ↓br_lz_t, ↓br_lz_f, ↓br_ez_t, ↓br_ez_f, ↓br_gz_t, ↓br_gz_f, jw_id, jin_t, jix_t, MO.s0 hm, MO.s1 hm, MO.s2 hm, MO.s3 hm, MO.s4 hm, MO.s5 hm, MO.s6 hm, MO.s7 hm, MO.s8 hm, MO.s9 hm, MO.s10 hm, MO.s11 hm, MO.s12 hm, MO.s13 hm, MO.r1 hm, MO.r2 hm, MO.r3 hm, MO.r4 hm, MO.r5 hm, MO.r6 hm, MO.r7 hm, MO.r8 hm, MO.r9 hm, MO.r10 hm, MO.r11 hm, MO.r12 hm, MO.r13 hm, er]
theorem d_planAt (hq : MQh w h H) (hv : mI w 241 = r) (b : fB H r S q g B) (hu : fU w H S q g) {d i : Int} (x1 : -2147483648 ≤ d) (x2 : d < 2147483648) (i1 : -2147483648 ≤ i) (i2 : i < 2147483648) : ∃ u, rn 281 (0, [(0, jvr 238), (1, .inl d), (2, .inl i)], [], w) = some (some (.inl (A29 H S q g d i).1), u) ∧ qM w u (A29 H S q g d i).2 := by
  have hs0 := hq.1.s0
  have hq0 : MQh (setI w 238 0 0) h H := hq.z
  have hv0 : mI (setI w 238 0 0) 241 = r := (mI_nb (by omega)).trans hv
  have e00 : rn 281 (0, [(0, jvr 238), (1, .inl d), (2, .inl i)], [], w) = rn 281 (5, [(0, jvr 238), (1, .inl d), (2, .inl i)], [], setI w 238 0 0) := by
    simp only [p281_0, p281_1, p281_2, jwd_c, jwd_0, Nat.reduceLeDiff, Nat.reduceEqDiff, Nat.reduceAdd, Nat.reduceSub, Nat.reduceMul, Int.reduceAdd, Int.reduceSub, Int.reduceMul, Int.reduceNeg, Int.reduceEq, Int.reduceLT, Int.reduceLE, jq_ldi_i, jq_ldl_l, jq_lda_a, jq_inc_i, jq_gs_t, jq_gsb_t, jq_gb_t, jq_gr_2, jq_gr_4, jq_gw_2, jq_s_t, jq_b_t, jg_c, jg_n, js_c, js_n, jrm_c, jrm_n, j2_i, j2_l, j2_a, jq_c_i, jq_c_l, jq_c_0, jq_c_n, jwd_le, jw_c0, mS_I, mS_R, mS_J, mN_I, mN_R, mN_J, mR_I, mI_R, mJ_I, mJ_R, mI_J, mR_J, ↓reduceIte, decide_true, or_true, true_or, and_self, false_or, or_false, reduceCtorEq, Bool.false_eq_true, and_false, false_and, eq_self, true_and, and_true, zero_ne, hs0]
  rw [e00]
  clear e00
  generalize hw0 : setI w 238 0 0 = w0 at *
  have hq1 := hq0
  obtain ⟨hm, hh, h3⟩ := hq0
  have hge := hh.ge
  have er := m_refPl hm h3 x1 x2
  unfold A29
  by_cases hd : 1 ≤ d ∧ d ≤ 5
  · rw [if_pos hd] at er ⊢
    by_cases q1 : 0 ≤ i
    · by_cases q2 : i < d
      · obtain ⟨u, e, u1, u2, u3, k⟩ := m_plans b hd.1 hd.2 hq1 (hu.z hw0)
        have es : gSd d (gPl H S q g d (gN4 d) 0 0 (-1)).1 i = ji_and (ji_shr (gPl H S q g d (gN4 d) 0 0 (-1)).1 (2 * (d - 1 - i))) 3 := if_neg (by omega)
        rw [if_pos ⟨q1, q2⟩]
        refine ⟨_, ?_, qM.fut hw0 k⟩
        simp (disch := omega) only [p281_0, p281_1, p281_2, p281_5, p281_6, p281_7, p281_10, p281_11, p281_12, p281_15, p281_16, p281_17, p281_20, p281_21, p281_22, p281_25, p281_26, p281_27, p281_30, p281_31, p281_32, p281_35, p281_36, p281_37, p281_38, p281_41, p281_42, p281_43, p281_46, p281_47, p281_48, p281_49, p281_50, p281_51, p281_52, p281_53, p281_54, p281_55, p281_56, p281_59, p213_0, p213_1, p213_2, p213_5, p213_6, p213_7, p213_10, p213_11, p176_0, p176_1, p176_2, p176_5, p176_6, p176_7, p176_10, p176_11, jwd_c, jwd_0, Nat.reduceLeDiff, Nat.reduceEqDiff, Nat.reduceAdd, Nat.reduceSub, Nat.reduceMul, Int.reduceAdd, Int.reduceSub, Int.reduceMul, Int.reduceNeg, Int.reduceEq, Int.reduceLT, Int.reduceLE, jq_ldi_i, jq_ldl_l, jq_lda_a, jq_inc_i, jq_gs_t, jq_gsb_t, jq_gb_t, jq_gr_2, jq_gr_4, jq_gw_2, jq_s_t, jq_b_t, jg_c, jg_n, js_c, js_n, jrm_c, jrm_n, j2_i, j2_l, j2_a, jq_c_i, jq_c_l, jq_c_0, jq_c_n, jwd_le, jw_c0, mS_I, mS_R, mS_J, mN_I, mN_R, mN_J, mR_I, mI_R, mJ_I, mJ_R, mI_J, mR_J, ↓reduceIte, decide_true, or_true, true_or, and_self, false_or, or_false, reduceCtorEq, Bool.false_eq_true, and_false, false_and, eq_self, true_and, and_true, zero_ne, ↓br_lt_t, ↓br_lt_f, ↓br_eq_t, ↓br_eq_f, ↓br_lz_t, ↓br_lz_f, ↓br_ez_t, ↓br_ez_f, ↓br_gz_t, ↓br_gz_f, jw_id, jin_t, jix_t, MO.s0 hm, MO.s1 hm, MO.s2 hm, MO.s3 hm, MO.s4 hm, MO.s5 hm, MO.s6 hm, MO.s7 hm, MO.s8 hm, MO.s9 hm, MO.s10 hm, MO.s11 hm, MO.s12 hm, MO.s13 hm, MO.r1 hm, MO.r2 hm, MO.r3 hm, MO.r4 hm, MO.r5 hm, MO.r6 hm, MO.r7 hm, MO.r8 hm, MO.r9 hm, MO.r10 hm, MO.r11 hm, MO.r12 hm, MO.r13 hm, er, e, MO.s0 u1, u3, es]
      · rw [if_neg (fun z => q2 z.2)]
        refine ⟨_, ?_, qM.triv hw0⟩
        simp (disch := omega) only [p281_0, p281_1, p281_2, p281_5, p281_6, p281_7, p281_10, p281_11, p281_12, p281_15, p281_16, p281_17, p281_20, p281_21, p281_22, p281_25, p281_26, p281_27, p281_30, p281_31, p281_32, p281_35, p281_36, p281_37, p281_38, p281_41, p281_42, p281_43, p281_46, p281_47, p281_48, p281_49, p281_50, p281_51, p281_52, p281_53, p281_54, p281_55, p281_56, p281_59, p213_0, p213_1, p213_2, p213_5, p213_6, p213_7, p213_10, p213_11, p176_0, p176_1, p176_2, p176_5, p176_6, p176_7, p176_10, p176_11, jwd_c, jwd_0, Nat.reduceLeDiff, Nat.reduceEqDiff, Nat.reduceAdd, Nat.reduceSub, Nat.reduceMul, Int.reduceAdd, Int.reduceSub, Int.reduceMul, Int.reduceNeg, Int.reduceEq, Int.reduceLT, Int.reduceLE, jq_ldi_i, jq_ldl_l, jq_lda_a, jq_inc_i, jq_gs_t, jq_gsb_t, jq_gb_t, jq_gr_2, jq_gr_4, jq_gw_2, jq_s_t, jq_b_t, jg_c, jg_n, js_c, js_n, jrm_c, jrm_n, j2_i, j2_l, j2_a, jq_c_i, jq_c_l, jq_c_0, jq_c_n, jwd_le, jw_c0, mS_I, mS_R, mS_J, mN_I, mN_R, mN_J, mR_I, mI_R, mJ_I, mJ_R, mI_J, mR_J, ↓reduceIte, decide_true, or_true, true_or, and_self, false_or, or_false, reduceCtorEq, Bool.false_eq_true, and_false, false_and, eq_self, true_and, and_true, zero_ne, ↓br_lt_t, ↓br_lt_f, ↓br_eq_t, ↓br_eq_f, ↓br_lz_t, ↓br_lz_f, ↓br_ez_t, ↓br_ez_f, ↓br_gz_t, ↓br_gz_f, jw_id, jin_t, jix_t, MO.s0 hm, MO.s1 hm, MO.s2 hm, MO.s3 hm, MO.s4 hm, MO.s5 hm, MO.s6 hm, MO.s7 hm, MO.s8 hm, MO.s9 hm, MO.s10 hm, MO.s11 hm, MO.s12 hm, MO.s13 hm, MO.r1 hm, MO.r2 hm, MO.r3 hm, MO.r4 hm, MO.r5 hm, MO.r6 hm, MO.r7 hm, MO.r8 hm, MO.r9 hm, MO.r10 hm, MO.r11 hm, MO.r12 hm, MO.r13 hm, er]
    · rw [if_neg (fun z => q1 z.1)]
      refine ⟨_, ?_, qM.triv hw0⟩
      simp (disch := omega) only [p281_0, p281_1, p281_2, p281_5, p281_6, p281_7, p281_10, p281_11, p281_12, p281_15, p281_16, p281_17, p281_20, p281_21, p281_22, p281_25, p281_26, p281_27, p281_30, p281_31, p281_32, p281_35, p281_36, p281_37, p281_38, p281_41, p281_42, p281_43, p281_46, p281_47, p281_48, p281_49, p281_50, p281_51, p281_52, p281_53, p281_54, p281_55, p281_56, p281_59, p213_0, p213_1, p213_2, p213_5, p213_6, p213_7, p213_10, p213_11, p176_0, p176_1, p176_2, p176_5, p176_6, p176_7, p176_10, p176_11, jwd_c, jwd_0, Nat.reduceLeDiff, Nat.reduceEqDiff, Nat.reduceAdd, Nat.reduceSub, Nat.reduceMul, Int.reduceAdd, Int.reduceSub, Int.reduceMul, Int.reduceNeg, Int.reduceEq, Int.reduceLT, Int.reduceLE, jq_ldi_i, jq_ldl_l, jq_lda_a, jq_inc_i, jq_gs_t, jq_gsb_t, jq_gb_t, jq_gr_2, jq_gr_4, jq_gw_2, jq_s_t, jq_b_t, jg_c, jg_n, js_c, js_n, jrm_c, jrm_n, j2_i, j2_l, j2_a, jq_c_i, jq_c_l, jq_c_0, jq_c_n, jwd_le, jw_c0, mS_I, mS_R, mS_J, mN_I, mN_R, mN_J, mR_I, mI_R, mJ_I, mJ_R, mI_J, mR_J, ↓reduceIte, decide_true, or_true, true_or, and_self, false_or, or_false, reduceCtorEq, Bool.false_eq_true, and_false, false_and, eq_self, true_and, and_true, zero_ne, ↓br_lt_t, ↓br_lt_f, ↓br_eq_t, ↓br_eq_f, ↓br_lz_t, ↓br_lz_f, ↓br_ez_t, ↓br_ez_f, ↓br_gz_t, ↓br_gz_f, jw_id, jin_t, jix_t, MO.s0 hm, MO.s1 hm, MO.s2 hm, MO.s3 hm, MO.s4 hm, MO.s5 hm, MO.s6 hm, MO.s7 hm, MO.s8 hm, MO.s9 hm, MO.s10 hm, MO.s11 hm, MO.s12 hm, MO.s13 hm, MO.r1 hm, MO.r2 hm, MO.r3 hm, MO.r4 hm, MO.r5 hm, MO.r6 hm, MO.r7 hm, MO.r8 hm, MO.r9 hm, MO.r10 hm, MO.r11 hm, MO.r12 hm, MO.r13 hm, er]
  · rw [if_neg hd] at er ⊢
    refine ⟨_, ?_, qM.triv hw0⟩
    simp (disch := omega) only [p281_0, p281_1, p281_2, p281_5, p281_6, p281_7, p281_10, p281_11, p281_12, p281_15, p281_16, p281_17, p281_20, p281_21, p281_22, p281_25, p281_26, p281_27, p281_30, p281_31, p281_32, p281_35, p281_36, p281_37, p281_38, p281_41, p281_42, p281_43, p281_46, p281_47, p281_48, p281_49, p281_50, p281_51, p281_52, p281_53, p281_54, p281_55, p281_56, p281_59, p213_0, p213_1, p213_2, p213_5, p213_6, p213_7, p213_10, p213_11, p176_0, p176_1, p176_2, p176_5, p176_6, p176_7, p176_10, p176_11, jwd_c, jwd_0, Nat.reduceLeDiff, Nat.reduceEqDiff, Nat.reduceAdd, Nat.reduceSub, Nat.reduceMul, Int.reduceAdd, Int.reduceSub, Int.reduceMul, Int.reduceNeg, Int.reduceEq, Int.reduceLT, Int.reduceLE, jq_ldi_i, jq_ldl_l, jq_lda_a, jq_inc_i, jq_gs_t, jq_gsb_t, jq_gb_t, jq_gr_2, jq_gr_4, jq_gw_2, jq_s_t, jq_b_t, jg_c, jg_n, js_c, js_n, jrm_c, jrm_n, j2_i, j2_l, j2_a, jq_c_i, jq_c_l, jq_c_0, jq_c_n, jwd_le, jw_c0, mS_I, mS_R, mS_J, mN_I, mN_R, mN_J, mR_I, mI_R, mJ_I, mJ_R, mI_J, mR_J, ↓reduceIte, decide_true, or_true, true_or, and_self, false_or, or_false, reduceCtorEq, Bool.false_eq_true, and_false, false_and, eq_self, true_and, and_true, zero_ne, ↓br_lt_t, ↓br_lt_f, ↓br_eq_t, ↓br_eq_f, ↓br_lz_t, ↓br_lz_f, ↓br_ez_t, ↓br_ez_f, ↓br_gz_t, ↓br_gz_f, jw_id, jin_t, jix_t, MO.s0 hm, MO.s1 hm, MO.s2 hm, MO.s3 hm, MO.s4 hm, MO.s5 hm, MO.s6 hm, MO.s7 hm, MO.s8 hm, MO.s9 hm, MO.s10 hm, MO.s11 hm, MO.s12 hm, MO.s13 hm, MO.r1 hm, MO.r2 hm, MO.r3 hm, MO.r4 hm, MO.r5 hm, MO.r6 hm, MO.r7 hm, MO.r8 hm, MO.r9 hm, MO.r10 hm, MO.r11 hm, MO.r12 hm, MO.r13 hm, er]
theorem ms_cg {r : Nat → Int} (ra : RA H B r) (rb : RB r) : ∀ (n : Nat) (i : Int) (d e : Nat → Int), 0 ≤ i → i + n ≤ r 289 → (∀ k, k < 44 → e k = d k) → ∀ k, k < 44 → gMs r n i e k = gMs r n i d k := by
  have h17 := ra.2.1
  intro n
  induction n with
  | zero =>
    intro i d e i1 i2 h k hk
    exact h k hk
  | succ n ih =>
    intro i d e i1 i2 h k hk
    have b := (rb i i1 (by omega)).1
    have u : ∀ d, gMs r (n + 1) i d = gMs r n (i + 1) (up1 d (r (204 + i).toNat).toNat (max (d (r (204 + i).toNat).toNat) (gGap r i))) := fun _ => rfl
    rw [u, u]
    refine ih (i + 1) _ _ (by omega) (by omega) (fun j hj => ?_) k hk
    by_cases z : j = (r (204 + i).toNat).toNat
    · rw [z, up1_s, up1_s, h _ (by omega)]
    · rw [up1_n z, up1_n z, h j hj]
theorem ms_db {r : Nat → Int} (ra : RA H B r) (rb : RB r) : ∀ (n : Nat) (i : Int) (d : Nat → Int), 1 ≤ i → i + n ≤ r 289 → DB d → DB (gMs r n i d) := by
  intro n
  induction n with
  | zero =>
    intro i d i1 i2 db
    exact db
  | succ n ih =>
    intro i d i1 i2 db
    have gb := gap_bd ra rb i1 (i := i) (by omega)
    have b := (rb i (by omega) (by omega)).1
    have h17 := ra.2.1
    have u : gMs r (n + 1) i d = gMs r n (i + 1) (up1 d (r (204 + i).toNat).toNat (max (d (r (204 + i).toNat).toNat) (gGap r i))) := rfl
    rw [u]
    refine ih (i + 1) _ (by omega) (by omega) (fun k hk => ?_)
    have dN := db (r (204 + i).toNat).toNat (by omega)
    by_cases z : k = (r (204 + i).toNat).toNat
    · rw [z, up1_s]
      omega
    · rw [up1_n z]
      exact db k hk
theorem mms_loop (hm : MO w) {r : Nat → Int} (hr : mI w 242 = r) (ra : RA H B r) (rb : RB r) {k y : Int} : ∀ (n : Nat) (i : Int) (d : Nat → Int), 1 ≤ i → i + n = r 289 → (∀ k, k < 44 → -2 ≤ d k ∧ d k ≤ 300) → rn 268 (63, [(0, jvr 238), (1, .inl k), (2, .inl y), (3, .inl i)], [], setA w 249 d) = rn 268 (130, [(0, jvr 238), (1, .inl k), (2, .inl y), (3, .inl (r 289))], [], setA w 249 (gMs r n i d)) := by
  have h16 := ra.1
  have h17 := ra.2.1
  intro n
  induction n with
  | zero =>
    intro i d i1 i2 hd
    have e0 : i = r 289 := by omega
    subst e0
    have e : gMs r 0 (r 289) d = d := rfl
    rw [e, p268_63]
    simp (disch := omega) only [p268_0, p268_1, p268_4, p268_5, p268_8, p268_9, p268_11, p268_12, p268_15, p268_16, p268_19, p268_20, p268_23, p268_24, p268_26, p268_27, p268_30, p268_33, p268_34, p268_36, p268_37, p268_39, p268_40, p268_43, p268_44, p268_45, p268_48, p268_49, p268_50, p268_53, p268_54, p268_57, p268_58, p268_61, p268_62, p268_64, p268_65, p268_68, p268_71, p268_72, p268_75, p268_76, p268_79, p268_80, p268_83, p268_84, p268_87, p268_88, p268_91, p268_94, p268_95, p268_96, p268_97, p268_98, p268_101, p268_102, p268_105, p268_106, p268_109, p268_112, p268_113, p268_114, p268_115, p268_116, p268_119, p268_120, p268_123, p268_124, p268_127, p268_133, p268_136, jwd_c, jwd_0, Nat.reduceLeDiff, Nat.reduceEqDiff, Nat.reduceAdd, Nat.reduceSub, Nat.reduceMul, Int.reduceAdd, Int.reduceSub, Int.reduceMul, Int.reduceNeg, Int.reduceEq, Int.reduceLT, Int.reduceLE, jq_ldi_i, jq_ldl_l, jq_lda_a, jq_inc_i, jq_gs_t, jq_gsb_t, jq_gb_t, jq_gr_2, jq_gr_4, jq_gw_2, jq_s_t, jq_b_t, jg_c, jg_n, js_c, js_n, jrm_c, jrm_n, j2_i, j2_l, j2_a, jq_c_i, jq_c_l, jq_c_0, jq_c_n, jwd_le, jw_c0, mS_I, mS_R, mS_J, mN_I, mN_R, mN_J, mR_I, mI_R, mJ_I, mJ_R, mI_J, mR_J, ↓reduceIte, decide_true, or_true, true_or, and_self, false_or, or_false, reduceCtorEq, Bool.false_eq_true, and_false, false_and, eq_self, true_and, and_true, zero_ne, ↓br_lt_t, ↓br_lt_f, ↓br_eq_t, ↓br_eq_f, ↓br_lz_t, ↓br_lz_f, ↓br_ez_t, ↓br_ez_f, ↓br_gz_t, ↓br_gz_f, jw_id, jin_t, jix_t, mI_A, mI_nA, up1_s, up1_n, mS_A, mR_A, mJ_A, mN_A, setI_A, setA_A, sw_238, sw_239, sw_240, sw_241, sw_242, sw_243, sw_244, sw_245, sw_246, sw_247, sw_248, sw_249, sw_250, sw_251, Int.reduceToNat, Int.toNat_natCast, MO.s0 hm, MO.s1 hm, MO.s2 hm, MO.s3 hm, MO.s4 hm, MO.s5 hm, MO.s6 hm, MO.s7 hm, MO.s8 hm, MO.s9 hm, MO.s10 hm, MO.s11 hm, MO.s12 hm, MO.s13 hm, MO.r1 hm, MO.r2 hm, MO.r3 hm, MO.r4 hm, MO.r5 hm, MO.r6 hm, MO.r7 hm, MO.r8 hm, MO.r9 hm, MO.r10 hm, MO.r11 hm, MO.r12 hm, MO.r13 hm, hr, Int.reduceToNat, mI_nA]
  | succ n ih =>
    intro i d i1 i2 hd
    have b := (rb i (by omega) (by omega)).1
    have gb := gap_bd ra rb i1 (i := i) (by omega)
    have e : gMs r (n + 1) i d = gMs r n (i + 1) (up1 d (r (204 + i).toNat).toNat (max (d (r (204 + i).toNat).toNat) (gGap r i))) := rfl
    have e1 := fun (d : Nat → Int) => m_gap (w := setA w 249 d) (a := 242) (r := r) (i := i) hm.s4 (by rw [mI_nA (by omega)]; exact hr) i1 (by omega)
    have dN := hd (r (204 + i).toNat).toNat (by omega)
    rw [e]
    generalize hN : r (204 + i).toNat = N at *
    generalize gGap r i = G at *
    have ih2 := ih (i + 1) (up1 d N.toNat (max (d N.toNat) G)) (by omega) (by omega) (fun k hk => by
      by_cases z : k = N.toNat
      · rw [z, up1_s]
        omega
      · rw [up1_n z]
        exact hd k hk)
    rw [← ih2, p268_63]
    by_cases q1 : d N.toNat < G
    · have em : max (d N.toNat) G = G := by omega
      rw [em]
      simp (disch := omega) only [p268_0, p268_1, p268_4, p268_5, p268_8, p268_9, p268_11, p268_12, p268_15, p268_16, p268_19, p268_20, p268_23, p268_24, p268_26, p268_27, p268_30, p268_33, p268_34, p268_36, p268_37, p268_39, p268_40, p268_43, p268_44, p268_45, p268_48, p268_49, p268_50, p268_53, p268_54, p268_57, p268_58, p268_61, p268_62, p268_64, p268_65, p268_68, p268_71, p268_72, p268_75, p268_76, p268_79, p268_80, p268_83, p268_84, p268_87, p268_88, p268_91, p268_94, p268_95, p268_96, p268_97, p268_98, p268_101, p268_102, p268_105, p268_106, p268_109, p268_112, p268_113, p268_114, p268_115, p268_116, p268_119, p268_120, p268_123, p268_124, p268_127, p268_133, p268_136, jwd_c, jwd_0, Nat.reduceLeDiff, Nat.reduceEqDiff, Nat.reduceAdd, Nat.reduceSub, Nat.reduceMul, Int.reduceAdd, Int.reduceSub, Int.reduceMul, Int.reduceNeg, Int.reduceEq, Int.reduceLT, Int.reduceLE, jq_ldi_i, jq_ldl_l, jq_lda_a, jq_inc_i, jq_gs_t, jq_gsb_t, jq_gb_t, jq_gr_2, jq_gr_4, jq_gw_2, jq_s_t, jq_b_t, jg_c, jg_n, js_c, js_n, jrm_c, jrm_n, j2_i, j2_l, j2_a, jq_c_i, jq_c_l, jq_c_0, jq_c_n, jwd_le, jw_c0, mS_I, mS_R, mS_J, mN_I, mN_R, mN_J, mR_I, mI_R, mJ_I, mJ_R, mI_J, mR_J, ↓reduceIte, decide_true, or_true, true_or, and_self, false_or, or_false, reduceCtorEq, Bool.false_eq_true, and_false, false_and, eq_self, true_and, and_true, zero_ne, ↓br_lt_t, ↓br_lt_f, ↓br_eq_t, ↓br_eq_f, ↓br_lz_t, ↓br_lz_f, ↓br_ez_t, ↓br_ez_f, ↓br_gz_t, ↓br_gz_f, jw_id, jin_t, jix_t, mI_A, mI_nA, up1_s, up1_n, mS_A, mR_A, mJ_A, mN_A, setI_A, setA_A, sw_238, sw_239, sw_240, sw_241, sw_242, sw_243, sw_244, sw_245, sw_246, sw_247, sw_248, sw_249, sw_250, sw_251, Int.reduceToNat, Int.toNat_natCast, MO.s0 hm, MO.s1 hm, MO.s2 hm, MO.s3 hm, MO.s4 hm, MO.s5 hm, MO.s6 hm, MO.s7 hm, MO.s8 hm, MO.s9 hm, MO.s10 hm, MO.s11 hm, MO.s12 hm, MO.s13 hm, MO.r1 hm, MO.r2 hm, MO.r3 hm, MO.r4 hm, MO.r5 hm, MO.r6 hm, MO.r7 hm, MO.r8 hm, MO.r9 hm, MO.r10 hm, MO.r11 hm, MO.r12 hm, MO.r13 hm, hr, Int.reduceToNat, mI_nA, hN, e1]
    · have em : up1 d N.toNat (max (d N.toNat) G) = d := up1_id (by omega)
      rw [em]
      simp (disch := omega) only [p268_0, p268_1, p268_4, p268_5, p268_8, p268_9, p268_11, p268_12, p268_15, p268_16, p268_19, p268_20, p268_23, p268_24, p268_26, p268_27, p268_30, p268_33, p268_34, p268_36, p268_37, p268_39, p268_40, p268_43, p268_44, p268_45, p268_48, p268_49, p268_50, p268_53, p268_54, p268_57, p268_58, p268_61, p268_62, p268_64, p268_65, p268_68, p268_71, p268_72, p268_75, p268_76, p268_79, p268_80, p268_83, p268_84, p268_87, p268_88, p268_91, p268_94, p268_95, p268_96, p268_97, p268_98, p268_101, p268_102, p268_105, p268_106, p268_109, p268_112, p268_113, p268_114, p268_115, p268_116, p268_119, p268_120, p268_123, p268_124, p268_127, p268_133, p268_136, jwd_c, jwd_0, Nat.reduceLeDiff, Nat.reduceEqDiff, Nat.reduceAdd, Nat.reduceSub, Nat.reduceMul, Int.reduceAdd, Int.reduceSub, Int.reduceMul, Int.reduceNeg, Int.reduceEq, Int.reduceLT, Int.reduceLE, jq_ldi_i, jq_ldl_l, jq_lda_a, jq_inc_i, jq_gs_t, jq_gsb_t, jq_gb_t, jq_gr_2, jq_gr_4, jq_gw_2, jq_s_t, jq_b_t, jg_c, jg_n, js_c, js_n, jrm_c, jrm_n, j2_i, j2_l, j2_a, jq_c_i, jq_c_l, jq_c_0, jq_c_n, jwd_le, jw_c0, mS_I, mS_R, mS_J, mN_I, mN_R, mN_J, mR_I, mI_R, mJ_I, mJ_R, mI_J, mR_J, ↓reduceIte, decide_true, or_true, true_or, and_self, false_or, or_false, reduceCtorEq, Bool.false_eq_true, and_false, false_and, eq_self, true_and, and_true, zero_ne, ↓br_lt_t, ↓br_lt_f, ↓br_eq_t, ↓br_eq_f, ↓br_lz_t, ↓br_lz_f, ↓br_ez_t, ↓br_ez_f, ↓br_gz_t, ↓br_gz_f, jw_id, jin_t, jix_t, mI_A, mI_nA, up1_s, up1_n, mS_A, mR_A, mJ_A, mN_A, setI_A, setA_A, sw_238, sw_239, sw_240, sw_241, sw_242, sw_243, sw_244, sw_245, sw_246, sw_247, sw_248, sw_249, sw_250, sw_251, Int.reduceToNat, Int.toNat_natCast, MO.s0 hm, MO.s1 hm, MO.s2 hm, MO.s3 hm, MO.s4 hm, MO.s5 hm, MO.s6 hm, MO.s7 hm, MO.s8 hm, MO.s9 hm, MO.s10 hm, MO.s11 hm, MO.s12 hm, MO.s13 hm, MO.r1 hm, MO.r2 hm, MO.r3 hm, MO.r4 hm, MO.r5 hm, MO.r6 hm, MO.r7 hm, MO.r8 hm, MO.r9 hm, MO.r10 hm, MO.r11 hm, MO.r12 hm, MO.r13 hm, hr, Int.reduceToNat, mI_nA, hN, e1]
theorem MF.wd {x : gX} (m : MF w 242 h H L S al x) {f : Nat → Int} : MF (setA w 249 f) 242 h H L S al x := by
  obtain ⟨a1, a2, a3, a4, a5, a6, a7, a8, a9, a10⟩ := m
  exact ⟨a1.frR rfl rfl, a2.A (by omega), a3, by rw [mI_nA (by omega)]; exact a4, by rw [mI_nA (by omega)]; exact a5, by rw [mI_nA (by omega)]; exact a6, by rw [mI_nA (by omega)]; exact a7, by rw [mI_nA (by omega)]; exact a8, by rw [mI_nA (by omega)]; exact a9, by rw [mI_nA (by omega)]; exact a10⟩
theorem f1_still {z : gZ} {v : Int} (h : 0 < gOver z.1.1 ∨ z.2.1 = max v 0) : 0 < gOver (gF1 H L S p z).1.1 ∨ (gF1 H L S p z).2.1 = max (v - 1) 0 := by
  by_cases q1 : 0 < gOver z.1.1
  · rw [f1_over q1]
    exact Or.inl q1
  · rw [f1_go q1 rfl rfl]
    refine Or.inr ?_
    have h2 := h.resolve_left q1
    dsimp only
    split <;> omega
theorem beat_w {x : gX} (m : MF w 242 h H L S al x) (hk : HOK H) (al1 : 0 ≤ al) (al3 : al ≤ 3) (l1 : 0 ≤ L) (l2 : L ≤ 12) (s1 : ∀ k, k < 12 → 0 ≤ S k ∧ S k ≤ 3) {st : Int} (ri : RI H B x.1) (hB : B < 2147483600) (st1 : st = 0 ∨ st = 1) : ∃ u, rn 238 (0, [(0, jvr 238), (1, jvr 242), (2, .inl st)], [], w) = some (none, u) ∧ MF u 242 h H L S al (gBeat H L S al st x) ∧ Km 242 w u ∧ mI u 249 = mI w 249 := by
  obtain ⟨u, e, m2, -, k, -⟩ := mF_beat m (Or.inr rfl) hk al1 al3 l1 l2 s1 ri hB st1
  refine ⟨u, e, m2, k, ?_⟩
  obtain ⟨a1, a2, a3, a4, a5, a6, a7, a8, a9, a10⟩ := m
  obtain ⟨F, Q, e2⟩ := m_beat (O := mI w 238) a1 a2 a3 (Or.inr rfl) a1.s4 hk a4 a5 rfl a8 a9 al1 al3 a10 l1 l2 s1 ri hB st1 (tn := -1)
  rw [e] at e2
  have e3 : u = _ := (Prod.mk.inj (Option.some.inj e2)).2
  rw [e3, mI_nA (by omega), mI_nA (by omega), mI_nA (by omega), mI_nA (by omega), mI_nA (by omega)]
theorem mjolt_lp (hk : HOK H) (l6 : 0 ≤ H 0 6 ∧ H 0 6 ≤ 12) (s1 : ∀ k, k < 12 → 0 ≤ S k ∧ S k ≤ 3) {k : Int} (k1 : 1 ≤ k) (k2 : k ≤ 4) : ∀ (n : Nat) (i : Int) (x : gX) (z : gZ) (d e : Nat → Int) (tl : jmL) (w : jmW) (B : Int), MF w 242 h H (H 0 6) S 0 x → exq x z → (0 < gOver z.1.1 ∨ z.2.1 = max (k - i) 0) → ZB H B (-1) z → B + n < 2147480000 → mI w 249 = e → (∀ j, j < 44 → e j = d j) → DB d → 0 ≤ i → i + n = k + 12 → t1p 3 tl → ∃ u, rn 268 (35, (0, jvr 238) :: (1, .inl k) :: (2, .inl i) :: tl, [], w) = some (none, u) ∧ (∃ x2, MF u 242 h H (H 0 6) S 0 x2 ∧ exq x2 (gJs H S n z d).1) ∧ (∀ j, j < 44 → mI u 249 j = (gJs H S n z d).2 j) ∧ DB (gJs H S n z d).2 ∧ ZB H (B + n) (-1) (gJs H S n z d).1 ∧ Km 242 w u := by
  intro n
  induction n with
  | zero =>
    intro i x z d e tl w B m ex hst hz hB he hed db i1 i2 ht
    have hm := m.1
    refine ⟨w, ?_, ⟨x, m, ex⟩, fun j hj => by rw [he]; exact hed j hj, db, ?_, Km.rf _ _⟩
    · rw [p268_35]
      simp (disch := omega) only [p268_0, p268_1, p268_4, p268_5, p268_8, p268_9, p268_11, p268_12, p268_15, p268_16, p268_19, p268_20, p268_23, p268_24, p268_26, p268_27, p268_30, p268_33, p268_34, p268_36, p268_37, p268_39, p268_40, p268_43, p268_44, p268_45, p268_48, p268_49, p268_50, p268_53, p268_54, p268_57, p268_58, p268_61, p268_62, p268_64, p268_65, p268_68, p268_71, p268_72, p268_75, p268_76, p268_79, p268_80, p268_83, p268_84, p268_87, p268_88, p268_91, p268_94, p268_95, p268_96, p268_97, p268_98, p268_101, p268_102, p268_105, p268_106, p268_109, p268_112, p268_113, p268_114, p268_115, p268_116, p268_119, p268_120, p268_123, p268_124, p268_127, p268_133, p268_136, jwd_c, jwd_0, Nat.reduceLeDiff, Nat.reduceEqDiff, Nat.reduceAdd, Nat.reduceSub, Nat.reduceMul, Int.reduceAdd, Int.reduceSub, Int.reduceMul, Int.reduceNeg, Int.reduceEq, Int.reduceLT, Int.reduceLE, jq_ldi_i, jq_ldl_l, jq_lda_a, jq_inc_i, jq_gs_t, jq_gsb_t, jq_gb_t, jq_gr_2, jq_gr_4, jq_gw_2, jq_s_t, jq_b_t, jg_c, jg_n, js_c, js_n, jrm_c, jrm_n, j2_i, j2_l, j2_a, jq_c_i, jq_c_l, jq_c_0, jq_c_n, jwd_le, jw_c0, mS_I, mS_R, mS_J, mN_I, mN_R, mN_J, mR_I, mI_R, mJ_I, mJ_R, mI_J, mR_J, ↓reduceIte, decide_true, or_true, true_or, and_self, false_or, or_false, reduceCtorEq, Bool.false_eq_true, and_false, false_and, eq_self, true_and, and_true, zero_ne, ↓br_lt_t, ↓br_lt_f, ↓br_eq_t, ↓br_eq_f, ↓br_lz_t, ↓br_lz_f, ↓br_ez_t, ↓br_ez_f, ↓br_gz_t, ↓br_gz_f, jw_id, jin_t, jix_t]
    · rw [show B + ((0 : Nat) : Int) = B by omega]
      exact hz
  | succ n ih =>
    intro i x z d e tl w B m ex hst hz hB he hed db i1 i2 ht
    have hm := m.1
    have st1 : (if i < k then (1 : Int) else 0) = 0 ∨ (if i < k then (1 : Int) else 0) = 1 := by split <;> omega
    obtain ⟨w1, e1, m1, kk1, w49⟩ := beat_w m hk (by omega) (by omega) l6.1 l6.2 s1 (st := if i < k then 1 else 0) (by rw [ex.1]; exact hz.1) (by omega) st1
    have ex1 : exq (gBeat H (H 0 6) S 0 (if i < k then 1 else 0) x) (gF1 H (H 0 6) S (-1) z) := ex.step rfl (by
      rcases hst with y | y
      · exact Or.inl y
      · refine Or.inr ?_
        split <;> split <;> omega)
    have zb1 := f1_zb hk l6.2 s1 hz
    have st2 := f1_still (H := H) (L := H 0 6) (S := S) (p := -1) hst
    rw [show k - i - 1 = k - (i + 1) by omega] at st2
    have hm1 := m1.1
    have m4 := m1.2.2.2.1
    rw [ex1.1] at m4
    have h16 := zb1.1.1.1
    rw [he] at w49
    have db' : ∀ j, j < 44 → -2 ≤ e j ∧ e j ≤ 300 := fun j hj => by rw [hed j hj]; exact db j hj
    have e5 := mms_loop (w := w1) hm1 m4 zb1.1.1 zb1.1.2.1 (k := k) (y := i) ((gF1 H (H 0 6) S (-1) z).1.1 289 - 1).toNat 1 e (by omega) (by omega) db'
    have eJ : gJs H S (n + 1) z d = gJs H S n (gF1 H (H 0 6) S (-1) z) (gMe (gF1 H (H 0 6) S (-1) z).1.1 d) := rfl
    have cg := ms_cg zb1.1.1 zb1.1.2.1 ((gF1 H (H 0 6) S (-1) z).1.1 289 - 1).toNat 1 d e (by omega) (by omega) hed
    have db2 := ms_db zb1.1.1 zb1.1.2.1 ((gF1 H (H 0 6) S (-1) z).1.1 289 - 1).toNat 1 d (by omega) (by omega) db
    have m2 := m1.wd (f := gMs (gF1 H (H 0 6) S (-1) z).1.1 ((gF1 H (H 0 6) S (-1) z).1.1 289 - 1).toNat 1 e)
    have kk2 : Km 242 w1 (setA w1 249 (gMs (gF1 H (H 0 6) S (-1) z).1.1 ((gF1 H (H 0 6) S (-1) z).1.1 289 - 1).toNat 1 e)) := Km.A (Or.inr ⟨by omega, by omega⟩) (by omega)
    obtain ⟨u, e6, u1, u2, u3, u4, u5⟩ := ih (i + 1) _ _ (gMe (gF1 H (H 0 6) S (-1) z).1.1 d) _ [(3, .inl ((gF1 H (H 0 6) S (-1) z).1.1 289))] _ (B + 1) m2 ex1 st2 zb1 (by omega) (mI_A _ _ _) cg db2 (by omega) (by omega) (Or.inr ⟨_, rfl⟩)
    rw [eJ, show B + ((n + 1 : Nat) : Int) = B + 1 + n by omega]
    refine ⟨u, ?_, u1, u2, u3, u4, (kk1.tr kk2).tr u5⟩
    have j3 := t1p_js ht
    have w49' : setA w1 249 e = w1 := by rw [← w49, setA_self]
    rw [w49'] at e5
    have hd : rn 268 (35, (0, jvr 238) :: (1, .inl k) :: (2, .inl i) :: tl, [], w) = rn 268 (63, [(0, jvr 238), (1, .inl k), (2, .inl i), (3, .inl 1)], [], w1) := by
      rw [p268_35]
      by_cases q1 : i < k
      · rw [if_pos q1] at e1
        simp (disch := omega) only [p268_0, p268_1, p268_4, p268_5, p268_8, p268_9, p268_11, p268_12, p268_15, p268_16, p268_19, p268_20, p268_23, p268_24, p268_26, p268_27, p268_30, p268_33, p268_34, p268_36, p268_37, p268_39, p268_40, p268_43, p268_44, p268_45, p268_48, p268_49, p268_50, p268_53, p268_54, p268_57, p268_58, p268_61, p268_62, p268_64, p268_65, p268_68, p268_71, p268_72, p268_75, p268_76, p268_79, p268_80, p268_83, p268_84, p268_87, p268_88, p268_91, p268_94, p268_95, p268_96, p268_97, p268_98, p268_101, p268_102, p268_105, p268_106, p268_109, p268_112, p268_113, p268_114, p268_115, p268_116, p268_119, p268_120, p268_123, p268_124, p268_127, p268_133, p268_136, jwd_c, jwd_0, Nat.reduceLeDiff, Nat.reduceEqDiff, Nat.reduceAdd, Nat.reduceSub, Nat.reduceMul, Int.reduceAdd, Int.reduceSub, Int.reduceMul, Int.reduceNeg, Int.reduceEq, Int.reduceLT, Int.reduceLE, jq_ldi_i, jq_ldl_l, jq_lda_a, jq_inc_i, jq_gs_t, jq_gsb_t, jq_gb_t, jq_gr_2, jq_gr_4, jq_gw_2, jq_s_t, jq_b_t, jg_c, jg_n, js_c, js_n, jrm_c, jrm_n, j2_i, j2_l, j2_a, jq_c_i, jq_c_l, jq_c_0, jq_c_n, jwd_le, jw_c0, mS_I, mS_R, mS_J, mN_I, mN_R, mN_J, mR_I, mI_R, mJ_I, mJ_R, mI_J, mR_J, ↓reduceIte, decide_true, or_true, true_or, and_self, false_or, or_false, reduceCtorEq, Bool.false_eq_true, and_false, false_and, eq_self, true_and, and_true, zero_ne, ↓br_lt_t, ↓br_lt_f, ↓br_eq_t, ↓br_eq_f, ↓br_lz_t, ↓br_lz_f, ↓br_ez_t, ↓br_ez_f, ↓br_gz_t, ↓br_gz_f, jw_id, jin_t, jix_t, MO.s0 hm, MO.s1 hm, MO.s2 hm, MO.s3 hm, MO.s4 hm, MO.s5 hm, MO.s6 hm, MO.s7 hm, MO.s8 hm, MO.s9 hm, MO.s10 hm, MO.s11 hm, MO.s12 hm, MO.s13 hm, MO.r1 hm, MO.r2 hm, MO.r3 hm, MO.r4 hm, MO.r5 hm, MO.r6 hm, MO.r7 hm, MO.r8 hm, MO.r9 hm, MO.r10 hm, MO.r11 hm, MO.r12 hm, MO.r13 hm, e1, j3]
      · rw [if_neg q1] at e1
        simp (disch := omega) only [p268_0, p268_1, p268_4, p268_5, p268_8, p268_9, p268_11, p268_12, p268_15, p268_16, p268_19, p268_20, p268_23, p268_24, p268_26, p268_27, p268_30, p268_33, p268_34, p268_36, p268_37, p268_39, p268_40, p268_43, p268_44, p268_45, p268_48, p268_49, p268_50, p268_53, p268_54, p268_57, p268_58, p268_61, p268_62, p268_64, p268_65, p268_68, p268_71, p268_72, p268_75, p268_76, p268_79, p268_80, p268_83, p268_84, p268_87, p268_88, p268_91, p268_94, p268_95, p268_96, p268_97, p268_98, p268_101, p268_102, p268_105, p268_106, p268_109, p268_112, p268_113, p268_114, p268_115, p268_116, p268_119, p268_120, p268_123, p268_124, p268_127, p268_133, p268_136, jwd_c, jwd_0, Nat.reduceLeDiff, Nat.reduceEqDiff, Nat.reduceAdd, Nat.reduceSub, Nat.reduceMul, Int.reduceAdd, Int.reduceSub, Int.reduceMul, Int.reduceNeg, Int.reduceEq, Int.reduceLT, Int.reduceLE, jq_ldi_i, jq_ldl_l, jq_lda_a, jq_inc_i, jq_gs_t, jq_gsb_t, jq_gb_t, jq_gr_2, jq_gr_4, jq_gw_2, jq_s_t, jq_b_t, jg_c, jg_n, js_c, js_n, jrm_c, jrm_n, j2_i, j2_l, j2_a, jq_c_i, jq_c_l, jq_c_0, jq_c_n, jwd_le, jw_c0, mS_I, mS_R, mS_J, mN_I, mN_R, mN_J, mR_I, mI_R, mJ_I, mJ_R, mI_J, mR_J, ↓reduceIte, decide_true, or_true, true_or, and_self, false_or, or_false, reduceCtorEq, Bool.false_eq_true, and_false, false_and, eq_self, true_and, and_true, zero_ne, ↓br_lt_t, ↓br_lt_f, ↓br_eq_t, ↓br_eq_f, ↓br_lz_t, ↓br_lz_f, ↓br_ez_t, ↓br_ez_f, ↓br_gz_t, ↓br_gz_f, jw_id, jin_t, jix_t, MO.s0 hm, MO.s1 hm, MO.s2 hm, MO.s3 hm, MO.s4 hm, MO.s5 hm, MO.s6 hm, MO.s7 hm, MO.s8 hm, MO.s9 hm, MO.s10 hm, MO.s11 hm, MO.s12 hm, MO.s13 hm, MO.r1 hm, MO.r2 hm, MO.r3 hm, MO.r4 hm, MO.r5 hm, MO.r6 hm, MO.r7 hm, MO.r8 hm, MO.r9 hm, MO.r10 hm, MO.r11 hm, MO.r12 hm, MO.r13 hm, e1, j3]
    rw [hd, e5, ← e6, p268_130]
    simp (disch := omega) only [p268_0, p268_1, p268_4, p268_5, p268_8, p268_9, p268_11, p268_12, p268_15, p268_16, p268_19, p268_20, p268_23, p268_24, p268_26, p268_27, p268_30, p268_33, p268_34, p268_36, p268_37, p268_39, p268_40, p268_43, p268_44, p268_45, p268_48, p268_49, p268_50, p268_53, p268_54, p268_57, p268_58, p268_61, p268_62, p268_64, p268_65, p268_68, p268_71, p268_72, p268_75, p268_76, p268_79, p268_80, p268_83, p268_84, p268_87, p268_88, p268_91, p268_94, p268_95, p268_96, p268_97, p268_98, p268_101, p268_102, p268_105, p268_106, p268_109, p268_112, p268_113, p268_114, p268_115, p268_116, p268_119, p268_120, p268_123, p268_124, p268_127, p268_133, p268_136, jwd_c, jwd_0, Nat.reduceLeDiff, Nat.reduceEqDiff, Nat.reduceAdd, Nat.reduceSub, Nat.reduceMul, Int.reduceAdd, Int.reduceSub, Int.reduceMul, Int.reduceNeg, Int.reduceEq, Int.reduceLT, Int.reduceLE, jq_ldi_i, jq_ldl_l, jq_lda_a, jq_inc_i, jq_gs_t, jq_gsb_t, jq_gb_t, jq_gr_2, jq_gr_4, jq_gw_2, jq_s_t, jq_b_t, jg_c, jg_n, js_c, js_n, jrm_c, jrm_n, j2_i, j2_l, j2_a, jq_c_i, jq_c_l, jq_c_0, jq_c_n, jwd_le, jw_c0, mS_I, mS_R, mS_J, mN_I, mN_R, mN_J, mR_I, mI_R, mJ_I, mJ_R, mI_J, mR_J, ↓reduceIte, decide_true, or_true, true_or, and_self, false_or, or_false, reduceCtorEq, Bool.false_eq_true, and_false, false_and, eq_self, true_and, and_true, zero_ne, ↓br_lt_t, ↓br_lt_f, ↓br_eq_t, ↓br_eq_f, ↓br_lz_t, ↓br_lz_f, ↓br_ez_t, ↓br_ez_f, ↓br_gz_t, ↓br_gz_f, jw_id, jin_t, jix_t]
theorem mfill (hm : MO w) {k : Int} : ∀ (n : Nat) (i : Int) (d : Nat → Int), 0 ≤ i → i + n = 128 → rn 268 (10, [(0, jvr 238), (1, .inl k), (2, .inl i)], [], setA w 249 d) = rn 268 (35, [(0, jvr 238), (1, .inl k), (2, .inl 0)], [], setA w 249 (fun j => if i ≤ j ∧ j < 128 then -2 else d j)) := by
  intro n
  induction n with
  | zero =>
    intro i d i1 i2
    have e : (fun j : Nat => if i ≤ j ∧ j < 128 then (-2 : Int) else d j) = d := by
      funext j
      rw [if_neg (by omega)]
    rw [e, p268_10]
    simp (disch := omega) only [p268_0, p268_1, p268_4, p268_5, p268_8, p268_9, p268_11, p268_12, p268_15, p268_16, p268_19, p268_20, p268_23, p268_24, p268_26, p268_27, p268_30, p268_33, p268_34, p268_36, p268_37, p268_39, p268_40, p268_43, p268_44, p268_45, p268_48, p268_49, p268_50, p268_53, p268_54, p268_57, p268_58, p268_61, p268_62, p268_64, p268_65, p268_68, p268_71, p268_72, p268_75, p268_76, p268_79, p268_80, p268_83, p268_84, p268_87, p268_88, p268_91, p268_94, p268_95, p268_96, p268_97, p268_98, p268_101, p268_102, p268_105, p268_106, p268_109, p268_112, p268_113, p268_114, p268_115, p268_116, p268_119, p268_120, p268_123, p268_124, p268_127, p268_133, p268_136, jwd_c, jwd_0, Nat.reduceLeDiff, Nat.reduceEqDiff, Nat.reduceAdd, Nat.reduceSub, Nat.reduceMul, Int.reduceAdd, Int.reduceSub, Int.reduceMul, Int.reduceNeg, Int.reduceEq, Int.reduceLT, Int.reduceLE, jq_ldi_i, jq_ldl_l, jq_lda_a, jq_inc_i, jq_gs_t, jq_gsb_t, jq_gb_t, jq_gr_2, jq_gr_4, jq_gw_2, jq_s_t, jq_b_t, jg_c, jg_n, js_c, js_n, jrm_c, jrm_n, j2_i, j2_l, j2_a, jq_c_i, jq_c_l, jq_c_0, jq_c_n, jwd_le, jw_c0, mS_I, mS_R, mS_J, mN_I, mN_R, mN_J, mR_I, mI_R, mJ_I, mJ_R, mI_J, mR_J, ↓reduceIte, decide_true, or_true, true_or, and_self, false_or, or_false, reduceCtorEq, Bool.false_eq_true, and_false, false_and, eq_self, true_and, and_true, zero_ne, ↓br_lt_t, ↓br_lt_f, ↓br_eq_t, ↓br_eq_f, ↓br_lz_t, ↓br_lz_f, ↓br_ez_t, ↓br_ez_f, ↓br_gz_t, ↓br_gz_f, jw_id, jin_t, jix_t, mI_A, mI_nA, up1_s, up1_n, mS_A, mR_A, mJ_A, mN_A, setI_A, setA_A, sw_238, sw_239, sw_240, sw_241, sw_242, sw_243, sw_244, sw_245, sw_246, sw_247, sw_248, sw_249, sw_250, sw_251, Int.reduceToNat, Int.toNat_natCast, MO.s0 hm, MO.s1 hm, MO.s2 hm, MO.s3 hm, MO.s4 hm, MO.s5 hm, MO.s6 hm, MO.s7 hm, MO.s8 hm, MO.s9 hm, MO.s10 hm, MO.s11 hm, MO.s12 hm, MO.s13 hm, MO.r1 hm, MO.r2 hm, MO.r3 hm, MO.r4 hm, MO.r5 hm, MO.r6 hm, MO.r7 hm, MO.r8 hm, MO.r9 hm, MO.r10 hm, MO.r11 hm, MO.r12 hm, MO.r13 hm]
  | succ n ih =>
    intro i d i1 i2
    have e := ih (i + 1) (up1 d i.toNat (-2)) (by omega) (by omega)
    have e2 : (fun j : Nat => if i + 1 ≤ j ∧ j < 128 then (-2 : Int) else up1 d i.toNat (-2) j) = (fun j : Nat => if i ≤ j ∧ j < 128 then (-2 : Int) else d j) := by
      funext j
      by_cases z : j = i.toNat
      · rw [z, if_neg (by omega), if_pos (by omega), up1_s]
      · rw [up1_n z]
        by_cases y : i ≤ j ∧ j < 128
        · rw [if_pos y, if_pos (by omega)]
        · rw [if_neg y, if_neg (by omega)]
    rw [e2] at e
    rw [← e, p268_10]
    simp (disch := omega) only [p268_0, p268_1, p268_4, p268_5, p268_8, p268_9, p268_11, p268_12, p268_15, p268_16, p268_19, p268_20, p268_23, p268_24, p268_26, p268_27, p268_30, p268_33, p268_34, p268_36, p268_37, p268_39, p268_40, p268_43, p268_44, p268_45, p268_48, p268_49, p268_50, p268_53, p268_54, p268_57, p268_58, p268_61, p268_62, p268_64, p268_65, p268_68, p268_71, p268_72, p268_75, p268_76, p268_79, p268_80, p268_83, p268_84, p268_87, p268_88, p268_91, p268_94, p268_95, p268_96, p268_97, p268_98, p268_101, p268_102, p268_105, p268_106, p268_109, p268_112, p268_113, p268_114, p268_115, p268_116, p268_119, p268_120, p268_123, p268_124, p268_127, p268_133, p268_136, jwd_c, jwd_0, Nat.reduceLeDiff, Nat.reduceEqDiff, Nat.reduceAdd, Nat.reduceSub, Nat.reduceMul, Int.reduceAdd, Int.reduceSub, Int.reduceMul, Int.reduceNeg, Int.reduceEq, Int.reduceLT, Int.reduceLE, jq_ldi_i, jq_ldl_l, jq_lda_a, jq_inc_i, jq_gs_t, jq_gsb_t, jq_gb_t, jq_gr_2, jq_gr_4, jq_gw_2, jq_s_t, jq_b_t, jg_c, jg_n, js_c, js_n, jrm_c, jrm_n, j2_i, j2_l, j2_a, jq_c_i, jq_c_l, jq_c_0, jq_c_n, jwd_le, jw_c0, mS_I, mS_R, mS_J, mN_I, mN_R, mN_J, mR_I, mI_R, mJ_I, mJ_R, mI_J, mR_J, ↓reduceIte, decide_true, or_true, true_or, and_self, false_or, or_false, reduceCtorEq, Bool.false_eq_true, and_false, false_and, eq_self, true_and, and_true, zero_ne, ↓br_lt_t, ↓br_lt_f, ↓br_eq_t, ↓br_eq_f, ↓br_lz_t, ↓br_lz_f, ↓br_ez_t, ↓br_ez_f, ↓br_gz_t, ↓br_gz_f, jw_id, jin_t, jix_t, mI_A, mI_nA, up1_s, up1_n, mS_A, mR_A, mJ_A, mN_A, setI_A, setA_A, sw_238, sw_239, sw_240, sw_241, sw_242, sw_243, sw_244, sw_245, sw_246, sw_247, sw_248, sw_249, sw_250, sw_251, Int.reduceToNat, Int.toNat_natCast, MO.s0 hm, MO.s1 hm, MO.s2 hm, MO.s3 hm, MO.s4 hm, MO.s5 hm, MO.s6 hm, MO.s7 hm, MO.s8 hm, MO.s9 hm, MO.s10 hm, MO.s11 hm, MO.s12 hm, MO.s13 hm, MO.r1 hm, MO.r2 hm, MO.r3 hm, MO.r4 hm, MO.r5 hm, MO.r6 hm, MO.r7 hm, MO.r8 hm, MO.r9 hm, MO.r10 hm, MO.r11 hm, MO.r12 hm, MO.r13 hm]
theorem m_jolts (hq : MQh w h H) (b : fB H r S q g B) (hu : fU w H S q g) {k : Int} (k1 : 1 ≤ k) (k2 : k ≤ 4) : ∃ u, rn 268 (0, [(0, jvr 238), (1, .inl k)], [], w) = some (none, u) ∧ MO u ∧ mI u 242 = (gJz H S q g k).1.1.1 ∧ (∀ j, j < 44 → mI u 249 j = (gJz H S q g k).2 j) ∧ DB (gJz H S q g k).2 ∧ ZB H (B + (k + 12)) (-1) (gJz H S q g k).1 ∧ Km 242 w u := by
  have k6 := b.1.2.1
  have hm := hq.1
  obtain ⟨e1, w1, e2, m1, kk1, -⟩ := mF_beg hq hu
  have hm1 := m1.1
  have ef := mfill (w := w1) hm1 (k := k) 128 0 (mI w1 249) (by omega) (by omega)
  rw [setA_self] at ef
  generalize hf : (fun j : Nat => if (0 : Int) ≤ j ∧ j < 128 then (-2 : Int) else mI w1 249 j) = f at *
  have m2 := m1.wd (f := f)
  have kk2 : Km 242 w1 (setA w1 249 f) := Km.A (Or.inr ⟨by omega, by omega⟩) (by omega)
  have zb : ZB H B (-1) ((gZ0 q g).1, k, (gZ0 q g).2.2) := ⟨b.i, Or.inl rfl, ⟨by show 0 ≤ k; omega, by show k ≤ 4; omega⟩, (zb0 (p := -1) (g := g) b.i b.2.2.2.1.1 (Or.inl rfl)).2.2.2⟩
  obtain ⟨u, e3, ⟨x2, u1, u2⟩, u3, u4, u5, u6⟩ := mjolt_lp b.1 (by omega) b.s1 k1 k2 (k + 12).toNat 0 _ ((gZ0 q g).1, k, (gZ0 q g).2.2) (fun _ => -2) f [] _ B m2 ⟨rfl, rfl, rfl, rfl⟩ (Or.inr (by show k = max (k - 0) 0; omega)) zb (by have := b.2.2.2.1; omega) (mI_A _ _ _) (fun j hj => by rw [← hf]; exact if_pos ⟨by omega, by omega⟩) (fun j hj => ⟨by show (-2 : Int) ≤ -2; omega, by show (-2 : Int) ≤ 300; omega⟩) (by omega) (by omega) (Or.inl rfl)
  rw [show B + (((k + 12).toNat : Nat) : Int) = B + (k + 12) by omega] at u5
  refine ⟨u, ?_, u1.1, by rw [u1.2.2.2.1, u2.1]; rfl, u3, u4, u5, (kk1.tr kk2).tr u6⟩
  rw [← e3]
  have z2 : mS (setA w 242 q) 238 = (1, 9, 0) := hm.s0
  simp (disch := omega) only [p268_0, p268_1, p268_4, p268_5, p268_8, p268_9, p268_11, p268_12, p268_15, p268_16, p268_19, p268_20, p268_23, p268_24, p268_26, p268_27, p268_30, p268_33, p268_34, p268_36, p268_37, p268_39, p268_40, p268_43, p268_44, p268_45, p268_48, p268_49, p268_50, p268_53, p268_54, p268_57, p268_58, p268_61, p268_62, p268_64, p268_65, p268_68, p268_71, p268_72, p268_75, p268_76, p268_79, p268_80, p268_83, p268_84, p268_87, p268_88, p268_91, p268_94, p268_95, p268_96, p268_97, p268_98, p268_101, p268_102, p268_105, p268_106, p268_109, p268_112, p268_113, p268_114, p268_115, p268_116, p268_119, p268_120, p268_123, p268_124, p268_127, p268_133, p268_136, jwd_c, jwd_0, Nat.reduceLeDiff, Nat.reduceEqDiff, Nat.reduceAdd, Nat.reduceSub, Nat.reduceMul, Int.reduceAdd, Int.reduceSub, Int.reduceMul, Int.reduceNeg, Int.reduceEq, Int.reduceLT, Int.reduceLE, jq_ldi_i, jq_ldl_l, jq_lda_a, jq_inc_i, jq_gs_t, jq_gsb_t, jq_gb_t, jq_gr_2, jq_gr_4, jq_gw_2, jq_s_t, jq_b_t, jg_c, jg_n, js_c, js_n, jrm_c, jrm_n, j2_i, j2_l, j2_a, jq_c_i, jq_c_l, jq_c_0, jq_c_n, jwd_le, jw_c0, mS_I, mS_R, mS_J, mN_I, mN_R, mN_J, mR_I, mI_R, mJ_I, mJ_R, mI_J, mR_J, ↓reduceIte, decide_true, or_true, true_or, and_self, false_or, or_false, reduceCtorEq, Bool.false_eq_true, and_false, false_and, eq_self, true_and, and_true, zero_ne, ↓br_lt_t, ↓br_lt_f, ↓br_eq_t, ↓br_eq_f, ↓br_lz_t, ↓br_lz_f, ↓br_ez_t, ↓br_ez_f, ↓br_gz_t, ↓br_gz_f, jw_id, jin_t, jix_t, MO.s0 hm, MO.s1 hm, MO.s2 hm, MO.s3 hm, MO.s4 hm, MO.s5 hm, MO.s6 hm, MO.s7 hm, MO.s8 hm, MO.s9 hm, MO.s10 hm, MO.s11 hm, MO.s12 hm, MO.s13 hm, MO.r1 hm, MO.r2 hm, MO.r3 hm, MO.r4 hm, MO.r5 hm, MO.r6 hm, MO.r7 hm, MO.r8 hm, MO.r9 hm, MO.r10 hm, MO.r11 hm, MO.r12 hm, MO.r13 hm, e1, z2, e2]
  rw [ef]
theorem m_joltOf (hm : MO w) {v z : Nat → Int} {d : Nat → Int} (hv : mI w 241 = v) (hz : mI w 242 = z) (hd : ∀ j, j < 44 → mI w 249 j = d j) (ra : RA H B z) (rb : RB z) {i : Int} (i1 : 0 ≤ i) (i2 : i < 16) (n1 : 0 ≤ v (204 + i).toNat) (n2 : v (204 + i).toNat < 44) : rn 269 (0, [(0, jvr 238), (1, .inl i)], [], w) = some (some (.inl (if gIx z (v (204 + i).toNat) (z 289).toNat 0 < 0 then -2 else d (v (204 + i).toNat).toNat)), w) := by
  generalize hN : v (204 + i).toNat = N at *
  have z16 := ra.1
  have e2 := m_idx hm.s4 hz ra rb (v := N) (by omega) (by omega)
  have ib := gIx_bd (r := z) (v := N) (z 289).toNat 0
  generalize gIx z N (z 289).toNat 0 = j at *
  have dd := hd N.toNat (by omega)
  by_cases q1 : j < 0
  · have q2 : j = -1 := by omega
    rw [if_pos q1]
    simp (disch := omega) only [p269_0, p269_1, p269_4, p269_5, p269_8, p269_11, p269_12, p269_13, p269_14, p269_17, p269_18, p269_21, p269_23, p269_26, p269_27, p269_30, p269_31, p269_34, p269_37, p269_38, p269_39, p269_40, p269_41, jwd_c, jwd_0, Nat.reduceLeDiff, Nat.reduceEqDiff, Nat.reduceAdd, Nat.reduceSub, Nat.reduceMul, Int.reduceAdd, Int.reduceSub, Int.reduceMul, Int.reduceNeg, Int.reduceEq, Int.reduceLT, Int.reduceLE, jq_ldi_i, jq_ldl_l, jq_lda_a, jq_inc_i, jq_gs_t, jq_gsb_t, jq_gb_t, jq_gr_2, jq_gr_4, jq_gw_2, jq_s_t, jq_b_t, jg_c, jg_n, js_c, js_n, jrm_c, jrm_n, j2_i, j2_l, j2_a, jq_c_i, jq_c_l, jq_c_0, jq_c_n, jwd_le, jw_c0, mS_I, mS_R, mS_J, mN_I, mN_R, mN_J, mR_I, mI_R, mJ_I, mJ_R, mI_J, mR_J, ↓reduceIte, decide_true, or_true, true_or, and_self, false_or, or_false, reduceCtorEq, Bool.false_eq_true, and_false, false_and, eq_self, true_and, and_true, zero_ne, ↓br_lt_t, ↓br_lt_f, ↓br_eq_t, ↓br_eq_f, ↓br_lz_t, ↓br_lz_f, ↓br_ez_t, ↓br_ez_f, ↓br_gz_t, ↓br_gz_f, jw_id, jin_t, jix_t, MO.s0 hm, MO.s1 hm, MO.s2 hm, MO.s3 hm, MO.s4 hm, MO.s5 hm, MO.s6 hm, MO.s7 hm, MO.s8 hm, MO.s9 hm, MO.s10 hm, MO.s11 hm, MO.s12 hm, MO.s13 hm, MO.r1 hm, MO.r2 hm, MO.r3 hm, MO.r4 hm, MO.r5 hm, MO.r6 hm, MO.r7 hm, MO.r8 hm, MO.r9 hm, MO.r10 hm, MO.r11 hm, MO.r12 hm, MO.r13 hm, hv, hN, e2]
  · rw [if_neg q1]
    simp (disch := omega) only [p269_0, p269_1, p269_4, p269_5, p269_8, p269_11, p269_12, p269_13, p269_14, p269_17, p269_18, p269_21, p269_23, p269_26, p269_27, p269_30, p269_31, p269_34, p269_37, p269_38, p269_39, p269_40, p269_41, jwd_c, jwd_0, Nat.reduceLeDiff, Nat.reduceEqDiff, Nat.reduceAdd, Nat.reduceSub, Nat.reduceMul, Int.reduceAdd, Int.reduceSub, Int.reduceMul, Int.reduceNeg, Int.reduceEq, Int.reduceLT, Int.reduceLE, jq_ldi_i, jq_ldl_l, jq_lda_a, jq_inc_i, jq_gs_t, jq_gsb_t, jq_gb_t, jq_gr_2, jq_gr_4, jq_gw_2, jq_s_t, jq_b_t, jg_c, jg_n, js_c, js_n, jrm_c, jrm_n, j2_i, j2_l, j2_a, jq_c_i, jq_c_l, jq_c_0, jq_c_n, jwd_le, jw_c0, mS_I, mS_R, mS_J, mN_I, mN_R, mN_J, mR_I, mI_R, mJ_I, mJ_R, mI_J, mR_J, ↓reduceIte, decide_true, or_true, true_or, and_self, false_or, or_false, reduceCtorEq, Bool.false_eq_true, and_false, false_and, eq_self, true_and, and_true, zero_ne, ↓br_lt_t, ↓br_lt_f, ↓br_eq_t, ↓br_eq_f, ↓br_lz_t, ↓br_lz_f, ↓br_ez_t, ↓br_ez_f, ↓br_gz_t, ↓br_gz_f, jw_id, jin_t, jix_t, MO.s0 hm, MO.s1 hm, MO.s2 hm, MO.s3 hm, MO.s4 hm, MO.s5 hm, MO.s6 hm, MO.s7 hm, MO.s8 hm, MO.s9 hm, MO.s10 hm, MO.s11 hm, MO.s12 hm, MO.s13 hm, MO.r1 hm, MO.r2 hm, MO.r3 hm, MO.r4 hm, MO.r5 hm, MO.r6 hm, MO.r7 hm, MO.r8 hm, MO.r9 hm, MO.r10 hm, MO.r11 hm, MO.r12 hm, MO.r13 hm, hv, hN, e2, dd]
theorem d_jolt (hq : MQh w h H) (hv : mI w 241 = r) (b : fB H r S q g B) (hu : fU w H S q g) {k i : Int} (x1 : -2147483648 ≤ k) (x2 : k < 2147483648) (y1 : -2147483648 ≤ i) (y2 : i < 2147483648) : ∃ u, rn 267 (0, [(0, jvr 238), (1, .inl k), (2, .inl i)], [], w) = some (some (.inl (A22 H S q g r k i).1), u) ∧ qM w u (A22 H S q g r k i).2 := by
  have hs0 := hq.1.s0
  have hq0 : MQh (setI w 238 0 0) h H := hq.z
  have hv0 : mI (setI w 238 0 0) 241 = r := (mI_nb (by omega)).trans hv
  have e00 : rn 267 (0, [(0, jvr 238), (1, .inl k), (2, .inl i)], [], w) = rn 267 (5, [(0, jvr 238), (1, .inl k), (2, .inl i)], [], setI w 238 0 0) := by
    simp only [p267_0, p267_1, p267_2, jwd_c, jwd_0, Nat.reduceLeDiff, Nat.reduceEqDiff, Nat.reduceAdd, Nat.reduceSub, Nat.reduceMul, Int.reduceAdd, Int.reduceSub, Int.reduceMul, Int.reduceNeg, Int.reduceEq, Int.reduceLT, Int.reduceLE, jq_ldi_i, jq_ldl_l, jq_lda_a, jq_inc_i, jq_gs_t, jq_gsb_t, jq_gb_t, jq_gr_2, jq_gr_4, jq_gw_2, jq_s_t, jq_b_t, jg_c, jg_n, js_c, js_n, jrm_c, jrm_n, j2_i, j2_l, j2_a, jq_c_i, jq_c_l, jq_c_0, jq_c_n, jwd_le, jw_c0, mS_I, mS_R, mS_J, mN_I, mN_R, mN_J, mR_I, mI_R, mJ_I, mJ_R, mI_J, mR_J, ↓reduceIte, decide_true, or_true, true_or, and_self, false_or, or_false, reduceCtorEq, Bool.false_eq_true, and_false, false_and, eq_self, true_and, and_true, zero_ne, hs0]
  rw [e00]
  clear e00
  generalize hw0 : setI w 238 0 0 = w0 at *
  have hq1 := hq0
  obtain ⟨hm, hh, h3⟩ := hq0
  have hge := hh.ge
  have ri := b.2.2.1
  have h16 := ri.1.1
  have h17 := ri.1.2.1
  have e0 := m_isThere hm h3 hv0 ri.1 y1 y2
  have ek := m_in (w := w0) (x := k) (a := 1) (b := 4) x1 x2 (by omega) (by omega) (by omega) (by omega)
  unfold A22
  by_cases hi : 0 ≤ i ∧ i < r 289
  · rw [if_pos hi] at e0
    by_cases hi2 : i = 0
    · rw [if_neg (by omega)]
      refine ⟨_, ?_, qM.triv hw0⟩
      simp (disch := omega) only [p267_0, p267_1, p267_2, p267_5, p267_6, p267_7, p267_10, p267_13, p267_14, p267_17, p267_18, p267_19, p267_22, p267_23, p267_24, p267_25, p267_26, p267_29, p267_32, p267_33, p267_34, p267_37, p267_38, p267_39, p267_40, p267_43, p267_44, p267_45, p267_46, p267_49, p267_52, p213_0, p213_1, p213_2, p213_5, p213_6, p213_7, p213_10, p213_11, p176_0, p176_1, p176_2, p176_5, p176_6, p176_7, p176_10, p176_11, jwd_c, jwd_0, Nat.reduceLeDiff, Nat.reduceEqDiff, Nat.reduceAdd, Nat.reduceSub, Nat.reduceMul, Int.reduceAdd, Int.reduceSub, Int.reduceMul, Int.reduceNeg, Int.reduceEq, Int.reduceLT, Int.reduceLE, jq_ldi_i, jq_ldl_l, jq_lda_a, jq_inc_i, jq_gs_t, jq_gsb_t, jq_gb_t, jq_gr_2, jq_gr_4, jq_gw_2, jq_s_t, jq_b_t, jg_c, jg_n, js_c, js_n, jrm_c, jrm_n, j2_i, j2_l, j2_a, jq_c_i, jq_c_l, jq_c_0, jq_c_n, jwd_le, jw_c0, mS_I, mS_R, mS_J, mN_I, mN_R, mN_J, mR_I, mI_R, mJ_I, mJ_R, mI_J, mR_J, ↓reduceIte, decide_true, or_true, true_or, and_self, false_or, or_false, reduceCtorEq, Bool.false_eq_true, and_false, false_and, eq_self, true_and, and_true, zero_ne, ↓br_lt_t, ↓br_lt_f, ↓br_eq_t, ↓br_eq_f, ↓br_lz_t, ↓br_lz_f, ↓br_ez_t, ↓br_ez_f, ↓br_gz_t, ↓br_gz_f, jw_id, jin_t, jix_t, MO.s0 hm, MO.s1 hm, MO.s2 hm, MO.s3 hm, MO.s4 hm, MO.s5 hm, MO.s6 hm, MO.s7 hm, MO.s8 hm, MO.s9 hm, MO.s10 hm, MO.s11 hm, MO.s12 hm, MO.s13 hm, MO.r1 hm, MO.r2 hm, MO.r3 hm, MO.r4 hm, MO.r5 hm, MO.r6 hm, MO.r7 hm, MO.r8 hm, MO.r9 hm, MO.r10 hm, MO.r11 hm, MO.r12 hm, MO.r13 hm, e0]
    · rw [if_pos ⟨by omega, hi.2⟩]
      by_cases q1 : 1 ≤ k ∧ k ≤ 4
      · rw [if_pos q1] at ek ⊢
        obtain ⟨u, e1, u1, u2, u3, u4, u5, km⟩ := m_jolts hq1 b (hu.z hw0) q1.1 q1.2
        have v1 : mI u 241 = r := by
          rw [km.1.Iq (b := 241) (by omega)]
          exact hv0
        have bb := (ri.2.1 i (by omega) (by omega)).1
        have e2 := m_joltOf u1 v1 u2 u3 u5.1.1 u5.1.2.1 (i := i) (by omega) (by omega) (by omega) (by omega)
        refine ⟨_, ?_, qM.fut hw0 km⟩
        unfold gJo
        simp (disch := omega) only [p267_0, p267_1, p267_2, p267_5, p267_6, p267_7, p267_10, p267_13, p267_14, p267_17, p267_18, p267_19, p267_22, p267_23, p267_24, p267_25, p267_26, p267_29, p267_32, p267_33, p267_34, p267_37, p267_38, p267_39, p267_40, p267_43, p267_44, p267_45, p267_46, p267_49, p267_52, p213_0, p213_1, p213_2, p213_5, p213_6, p213_7, p213_10, p213_11, p176_0, p176_1, p176_2, p176_5, p176_6, p176_7, p176_10, p176_11, jwd_c, jwd_0, Nat.reduceLeDiff, Nat.reduceEqDiff, Nat.reduceAdd, Nat.reduceSub, Nat.reduceMul, Int.reduceAdd, Int.reduceSub, Int.reduceMul, Int.reduceNeg, Int.reduceEq, Int.reduceLT, Int.reduceLE, jq_ldi_i, jq_ldl_l, jq_lda_a, jq_inc_i, jq_gs_t, jq_gsb_t, jq_gb_t, jq_gr_2, jq_gr_4, jq_gw_2, jq_s_t, jq_b_t, jg_c, jg_n, js_c, js_n, jrm_c, jrm_n, j2_i, j2_l, j2_a, jq_c_i, jq_c_l, jq_c_0, jq_c_n, jwd_le, jw_c0, mS_I, mS_R, mS_J, mN_I, mN_R, mN_J, mR_I, mI_R, mJ_I, mJ_R, mI_J, mR_J, ↓reduceIte, decide_true, or_true, true_or, and_self, false_or, or_false, reduceCtorEq, Bool.false_eq_true, and_false, false_and, eq_self, true_and, and_true, zero_ne, ↓br_lt_t, ↓br_lt_f, ↓br_eq_t, ↓br_eq_f, ↓br_lz_t, ↓br_lz_f, ↓br_ez_t, ↓br_ez_f, ↓br_gz_t, ↓br_gz_f, jw_id, jin_t, jix_t, MO.s0 hm, MO.s1 hm, MO.s2 hm, MO.s3 hm, MO.s4 hm, MO.s5 hm, MO.s6 hm, MO.s7 hm, MO.s8 hm, MO.s9 hm, MO.s10 hm, MO.s11 hm, MO.s12 hm, MO.s13 hm, MO.r1 hm, MO.r2 hm, MO.r3 hm, MO.r4 hm, MO.r5 hm, MO.r6 hm, MO.r7 hm, MO.r8 hm, MO.r9 hm, MO.r10 hm, MO.r11 hm, MO.r12 hm, MO.r13 hm, e0, ek, e1, MO.s0 u1, e2]
      · rw [if_neg q1] at ek ⊢
        refine ⟨_, ?_, qM.triv hw0⟩
        simp (disch := omega) only [p267_0, p267_1, p267_2, p267_5, p267_6, p267_7, p267_10, p267_13, p267_14, p267_17, p267_18, p267_19, p267_22, p267_23, p267_24, p267_25, p267_26, p267_29, p267_32, p267_33, p267_34, p267_37, p267_38, p267_39, p267_40, p267_43, p267_44, p267_45, p267_46, p267_49, p267_52, p213_0, p213_1, p213_2, p213_5, p213_6, p213_7, p213_10, p213_11, p176_0, p176_1, p176_2, p176_5, p176_6, p176_7, p176_10, p176_11, jwd_c, jwd_0, Nat.reduceLeDiff, Nat.reduceEqDiff, Nat.reduceAdd, Nat.reduceSub, Nat.reduceMul, Int.reduceAdd, Int.reduceSub, Int.reduceMul, Int.reduceNeg, Int.reduceEq, Int.reduceLT, Int.reduceLE, jq_ldi_i, jq_ldl_l, jq_lda_a, jq_inc_i, jq_gs_t, jq_gsb_t, jq_gb_t, jq_gr_2, jq_gr_4, jq_gw_2, jq_s_t, jq_b_t, jg_c, jg_n, js_c, js_n, jrm_c, jrm_n, j2_i, j2_l, j2_a, jq_c_i, jq_c_l, jq_c_0, jq_c_n, jwd_le, jw_c0, mS_I, mS_R, mS_J, mN_I, mN_R, mN_J, mR_I, mI_R, mJ_I, mJ_R, mI_J, mR_J, ↓reduceIte, decide_true, or_true, true_or, and_self, false_or, or_false, reduceCtorEq, Bool.false_eq_true, and_false, false_and, eq_self, true_and, and_true, zero_ne, ↓br_lt_t, ↓br_lt_f, ↓br_eq_t, ↓br_eq_f, ↓br_lz_t, ↓br_lz_f, ↓br_ez_t, ↓br_ez_f, ↓br_gz_t, ↓br_gz_f, jw_id, jin_t, jix_t, MO.s0 hm, MO.s1 hm, MO.s2 hm, MO.s3 hm, MO.s4 hm, MO.s5 hm, MO.s6 hm, MO.s7 hm, MO.s8 hm, MO.s9 hm, MO.s10 hm, MO.s11 hm, MO.s12 hm, MO.s13 hm, MO.r1 hm, MO.r2 hm, MO.r3 hm, MO.r4 hm, MO.r5 hm, MO.r6 hm, MO.r7 hm, MO.r8 hm, MO.r9 hm, MO.r10 hm, MO.r11 hm, MO.r12 hm, MO.r13 hm, e0, ek]
  · rw [if_neg hi] at e0
    rw [if_neg (by omega)]
    refine ⟨_, ?_, qM.triv hw0⟩
    simp (disch := omega) only [p267_0, p267_1, p267_2, p267_5, p267_6, p267_7, p267_10, p267_13, p267_14, p267_17, p267_18, p267_19, p267_22, p267_23, p267_24, p267_25, p267_26, p267_29, p267_32, p267_33, p267_34, p267_37, p267_38, p267_39, p267_40, p267_43, p267_44, p267_45, p267_46, p267_49, p267_52, p213_0, p213_1, p213_2, p213_5, p213_6, p213_7, p213_10, p213_11, p176_0, p176_1, p176_2, p176_5, p176_6, p176_7, p176_10, p176_11, jwd_c, jwd_0, Nat.reduceLeDiff, Nat.reduceEqDiff, Nat.reduceAdd, Nat.reduceSub, Nat.reduceMul, Int.reduceAdd, Int.reduceSub, Int.reduceMul, Int.reduceNeg, Int.reduceEq, Int.reduceLT, Int.reduceLE, jq_ldi_i, jq_ldl_l, jq_lda_a, jq_inc_i, jq_gs_t, jq_gsb_t, jq_gb_t, jq_gr_2, jq_gr_4, jq_gw_2, jq_s_t, jq_b_t, jg_c, jg_n, js_c, js_n, jrm_c, jrm_n, j2_i, j2_l, j2_a, jq_c_i, jq_c_l, jq_c_0, jq_c_n, jwd_le, jw_c0, mS_I, mS_R, mS_J, mN_I, mN_R, mN_J, mR_I, mI_R, mJ_I, mJ_R, mI_J, mR_J, ↓reduceIte, decide_true, or_true, true_or, and_self, false_or, or_false, reduceCtorEq, Bool.false_eq_true, and_false, false_and, eq_self, true_and, and_true, zero_ne, ↓br_lt_t, ↓br_lt_f, ↓br_eq_t, ↓br_eq_f, ↓br_lz_t, ↓br_lz_f, ↓br_ez_t, ↓br_ez_f, ↓br_gz_t, ↓br_gz_f, jw_id, jin_t, jix_t, MO.s0 hm, MO.s1 hm, MO.s2 hm, MO.s3 hm, MO.s4 hm, MO.s5 hm, MO.s6 hm, MO.s7 hm, MO.s8 hm, MO.s9 hm, MO.s10 hm, MO.s11 hm, MO.s12 hm, MO.s13 hm, MO.r1 hm, MO.r2 hm, MO.r3 hm, MO.r4 hm, MO.r5 hm, MO.r6 hm, MO.r7 hm, MO.r8 hm, MO.r9 hm, MO.r10 hm, MO.r11 hm, MO.r12 hm, MO.r13 hm, e0]
theorem d_grows (hq : MQh w h H) (hv : mI w 241 = r) (b : fB H r S q g B) (hu : fU w H S q g) {k i : Int} (x1 : -2147483648 ≤ k) (x2 : k < 2147483648) (y1 : -2147483648 ≤ i) (y2 : i < 2147483648) : ∃ u, rn 270 (0, [(0, jvr 238), (1, .inl k), (2, .inl i)], [], w) = some (some (.inl (A23 H S q g r k i).1), u) ∧ qM w u (A23 H S q g r k i).2 := by
  have hs0 := hq.1.s0
  have hq0 : MQh (setI w 238 0 0) h H := hq.z
  have hv0 : mI (setI w 238 0 0) 241 = r := (mI_nb (by omega)).trans hv
  have e00 : rn 270 (0, [(0, jvr 238), (1, .inl k), (2, .inl i)], [], w) = rn 270 (5, [(0, jvr 238), (1, .inl k), (2, .inl i)], [], setI w 238 0 0) := by
    simp only [p270_0, p270_1, p270_2, jwd_c, jwd_0, Nat.reduceLeDiff, Nat.reduceEqDiff, Nat.reduceAdd, Nat.reduceSub, Nat.reduceMul, Int.reduceAdd, Int.reduceSub, Int.reduceMul, Int.reduceNeg, Int.reduceEq, Int.reduceLT, Int.reduceLE, jq_ldi_i, jq_ldl_l, jq_lda_a, jq_inc_i, jq_gs_t, jq_gsb_t, jq_gb_t, jq_gr_2, jq_gr_4, jq_gw_2, jq_s_t, jq_b_t, jg_c, jg_n, js_c, js_n, jrm_c, jrm_n, j2_i, j2_l, j2_a, jq_c_i, jq_c_l, jq_c_0, jq_c_n, jwd_le, jw_c0, mS_I, mS_R, mS_J, mN_I, mN_R, mN_J, mR_I, mI_R, mJ_I, mJ_R, mI_J, mR_J, ↓reduceIte, decide_true, or_true, true_or, and_self, false_or, or_false, reduceCtorEq, Bool.false_eq_true, and_false, false_and, eq_self, true_and, and_true, zero_ne, hs0]
  rw [e00]
  clear e00
  generalize hw0 : setI w 238 0 0 = w0 at *
  have hq1 := hq0
  obtain ⟨hm, hh, h3⟩ := hq0
  have hge := hh.ge
  have ri := b.2.2.1
  have h16 := ri.1.1
  have h17 := ri.1.2.1
  have e0 := m_isThere hm h3 hv0 ri.1 y1 y2
  have ek := m_in (w := w0) (x := k) (a := 1) (b := 4) x1 x2 (by omega) (by omega) (by omega) (by omega)
  unfold A23
  by_cases hi : 0 ≤ i ∧ i < r 289
  · rw [if_pos hi] at e0
    have e9 := m_isThere hm h3 hv0 ri.1 (i := i + 1) (by omega) (by omega)
    by_cases hi2 : i = 0
    · rw [if_neg (by omega)]
      refine ⟨_, ?_, qM.triv hw0⟩
      simp (disch := omega) only [p270_0, p270_1, p270_2, p270_5, p270_6, p270_7, p270_10, p270_13, p270_14, p270_17, p270_18, p270_19, p270_20, p270_21, p270_24, p270_27, p270_28, p270_29, p270_32, p270_33, p270_34, p270_35, p270_36, p270_39, p270_42, p270_43, p270_44, p270_47, p270_48, p270_49, p270_50, p270_53, p270_54, p270_55, p270_58, p270_59, p270_60, p270_61, p270_62, p270_63, p270_66, p270_68, p270_69, p270_71, p270_74, p270_76, p270_78, p270_81, p270_82, p270_84, p270_87, p270_88, p270_89, p270_91, p270_92, p270_95, p270_96, p270_99, p270_101, p270_102, p270_105, p270_106, p270_109, p270_110, p270_113, p213_0, p213_1, p213_2, p213_5, p213_6, p213_7, p213_10, p213_11, p176_0, p176_1, p176_2, p176_5, p176_6, p176_7, p176_10, p176_11, jwd_c, jwd_0, Nat.reduceLeDiff, Nat.reduceEqDiff, Nat.reduceAdd, Nat.reduceSub, Nat.reduceMul, Int.reduceAdd, Int.reduceSub, Int.reduceMul, Int.reduceNeg, Int.reduceEq, Int.reduceLT, Int.reduceLE, jq_ldi_i, jq_ldl_l, jq_lda_a, jq_inc_i, jq_gs_t, jq_gsb_t, jq_gb_t, jq_gr_2, jq_gr_4, jq_gw_2, jq_s_t, jq_b_t, jg_c, jg_n, js_c, js_n, jrm_c, jrm_n, j2_i, j2_l, j2_a, jq_c_i, jq_c_l, jq_c_0, jq_c_n, jwd_le, jw_c0, mS_I, mS_R, mS_J, mN_I, mN_R, mN_J, mR_I, mI_R, mJ_I, mJ_R, mI_J, mR_J, ↓reduceIte, decide_true, or_true, true_or, and_self, false_or, or_false, reduceCtorEq, Bool.false_eq_true, and_false, false_and, eq_self, true_and, and_true, zero_ne, ↓br_lt_t, ↓br_lt_f, ↓br_eq_t, ↓br_eq_f, ↓br_lz_t, ↓br_lz_f, ↓br_ez_t, ↓br_ez_f, ↓br_gz_t, ↓br_gz_f, jw_id, jin_t, jix_t, MO.s0 hm, MO.s1 hm, MO.s2 hm, MO.s3 hm, MO.s4 hm, MO.s5 hm, MO.s6 hm, MO.s7 hm, MO.s8 hm, MO.s9 hm, MO.s10 hm, MO.s11 hm, MO.s12 hm, MO.s13 hm, MO.r1 hm, MO.r2 hm, MO.r3 hm, MO.r4 hm, MO.r5 hm, MO.r6 hm, MO.r7 hm, MO.r8 hm, MO.r9 hm, MO.r10 hm, MO.r11 hm, MO.r12 hm, MO.r13 hm, e0]
    · by_cases hi3 : i + 1 < r 289
      · rw [if_pos (by omega)] at e9
        rw [if_pos ⟨by omega, hi3⟩]
        by_cases q1 : 1 ≤ k ∧ k ≤ 4
        · rw [if_pos q1] at ek ⊢
          obtain ⟨u, e1, u1, u2, u3, u4, u5, km⟩ := m_jolts hq1 b (hu.z hw0) q1.1 q1.2
          have v1 : mI u 241 = r := by
            rw [km.1.Iq (b := 241) (by omega)]
            exact hv0
          have bb := (ri.2.1 i (by omega) (by omega)).1
          have bb2 := (ri.2.1 (i + 1) (by omega) (by omega)).1
          have e2 := m_joltOf u1 v1 u2 u3 u5.1.1 u5.1.2.1 (i := i) (by omega) (by omega) (by omega) (by omega)
          have e3 := m_joltOf u1 v1 u2 u3 u5.1.1 u5.1.2.1 (i := i + 1) (by omega) (by omega) (by omega) (by omega)
          have b2 := jo_bd (z := (gJz H S q g k).1) u4 (N := r (204 + i).toNat) bb.1 (by omega)
          have b3 := jo_bd (z := (gJz H S q g k).1) u4 (N := r (204 + (i + 1)).toNat) bb2.1 (by omega)
          have j2 : gJo H S q g r k i = (if gIx (gJz H S q g k).1.1.1 (r (204 + i).toNat) ((gJz H S q g k).1.1.1 289).toNat 0 < 0 then -2 else (gJz H S q g k).2 (r (204 + i).toNat).toNat) := rfl
          have j3 : gJo H S q g r k (i + 1) = (if gIx (gJz H S q g k).1.1.1 (r (204 + (i + 1)).toNat) ((gJz H S q g k).1.1.1 289).toNat 0 < 0 then -2 else (gJz H S q g k).2 (r (204 + (i + 1)).toNat).toNat) := rfl
          rw [← j2] at e2 b2
          rw [← j3] at e3 b3
          generalize gJo H S q g r k i = X at *
          generalize gJo H S q g r k (i + 1) = Y at *
          refine ⟨_, ?_, qM.fut hw0 km⟩
          by_cases q3 : X = -2
          · rw [if_pos (Or.inl q3)]
            simp (disch := omega) only [p270_0, p270_1, p270_2, p270_5, p270_6, p270_7, p270_10, p270_13, p270_14, p270_17, p270_18, p270_19, p270_20, p270_21, p270_24, p270_27, p270_28, p270_29, p270_32, p270_33, p270_34, p270_35, p270_36, p270_39, p270_42, p270_43, p270_44, p270_47, p270_48, p270_49, p270_50, p270_53, p270_54, p270_55, p270_58, p270_59, p270_60, p270_61, p270_62, p270_63, p270_66, p270_68, p270_69, p270_71, p270_74, p270_76, p270_78, p270_81, p270_82, p270_84, p270_87, p270_88, p270_89, p270_91, p270_92, p270_95, p270_96, p270_99, p270_101, p270_102, p270_105, p270_106, p270_109, p270_110, p270_113, p213_0, p213_1, p213_2, p213_5, p213_6, p213_7, p213_10, p213_11, p176_0, p176_1, p176_2, p176_5, p176_6, p176_7, p176_10, p176_11, jwd_c, jwd_0, Nat.reduceLeDiff, Nat.reduceEqDiff, Nat.reduceAdd, Nat.reduceSub, Nat.reduceMul, Int.reduceAdd, Int.reduceSub, Int.reduceMul, Int.reduceNeg, Int.reduceEq, Int.reduceLT, Int.reduceLE, jq_ldi_i, jq_ldl_l, jq_lda_a, jq_inc_i, jq_gs_t, jq_gsb_t, jq_gb_t, jq_gr_2, jq_gr_4, jq_gw_2, jq_s_t, jq_b_t, jg_c, jg_n, js_c, js_n, jrm_c, jrm_n, j2_i, j2_l, j2_a, jq_c_i, jq_c_l, jq_c_0, jq_c_n, jwd_le, jw_c0, mS_I, mS_R, mS_J, mN_I, mN_R, mN_J, mR_I, mI_R, mJ_I, mJ_R, mI_J, mR_J, ↓reduceIte, decide_true, or_true, true_or, and_self, false_or, or_false, reduceCtorEq, Bool.false_eq_true, and_false, false_and, eq_self, true_and, and_true, zero_ne, ↓br_lt_t, ↓br_lt_f, ↓br_eq_t, ↓br_eq_f, ↓br_lz_t, ↓br_lz_f, ↓br_ez_t, ↓br_ez_f, ↓br_gz_t, ↓br_gz_f, jw_id, jin_t, jix_t, MO.s0 hm, MO.s1 hm, MO.s2 hm, MO.s3 hm, MO.s4 hm, MO.s5 hm, MO.s6 hm, MO.s7 hm, MO.s8 hm, MO.s9 hm, MO.s10 hm, MO.s11 hm, MO.s12 hm, MO.s13 hm, MO.r1 hm, MO.r2 hm, MO.r3 hm, MO.r4 hm, MO.r5 hm, MO.r6 hm, MO.r7 hm, MO.r8 hm, MO.r9 hm, MO.r10 hm, MO.r11 hm, MO.r12 hm, MO.r13 hm, e0, e9, ek, e1, MO.s0 u1, e2, e3]
          · by_cases q4 : Y = -2
            · rw [if_pos (Or.inr q4)]
              simp (disch := omega) only [p270_0, p270_1, p270_2, p270_5, p270_6, p270_7, p270_10, p270_13, p270_14, p270_17, p270_18, p270_19, p270_20, p270_21, p270_24, p270_27, p270_28, p270_29, p270_32, p270_33, p270_34, p270_35, p270_36, p270_39, p270_42, p270_43, p270_44, p270_47, p270_48, p270_49, p270_50, p270_53, p270_54, p270_55, p270_58, p270_59, p270_60, p270_61, p270_62, p270_63, p270_66, p270_68, p270_69, p270_71, p270_74, p270_76, p270_78, p270_81, p270_82, p270_84, p270_87, p270_88, p270_89, p270_91, p270_92, p270_95, p270_96, p270_99, p270_101, p270_102, p270_105, p270_106, p270_109, p270_110, p270_113, p213_0, p213_1, p213_2, p213_5, p213_6, p213_7, p213_10, p213_11, p176_0, p176_1, p176_2, p176_5, p176_6, p176_7, p176_10, p176_11, jwd_c, jwd_0, Nat.reduceLeDiff, Nat.reduceEqDiff, Nat.reduceAdd, Nat.reduceSub, Nat.reduceMul, Int.reduceAdd, Int.reduceSub, Int.reduceMul, Int.reduceNeg, Int.reduceEq, Int.reduceLT, Int.reduceLE, jq_ldi_i, jq_ldl_l, jq_lda_a, jq_inc_i, jq_gs_t, jq_gsb_t, jq_gb_t, jq_gr_2, jq_gr_4, jq_gw_2, jq_s_t, jq_b_t, jg_c, jg_n, js_c, js_n, jrm_c, jrm_n, j2_i, j2_l, j2_a, jq_c_i, jq_c_l, jq_c_0, jq_c_n, jwd_le, jw_c0, mS_I, mS_R, mS_J, mN_I, mN_R, mN_J, mR_I, mI_R, mJ_I, mJ_R, mI_J, mR_J, ↓reduceIte, decide_true, or_true, true_or, and_self, false_or, or_false, reduceCtorEq, Bool.false_eq_true, and_false, false_and, eq_self, true_and, and_true, zero_ne, ↓br_lt_t, ↓br_lt_f, ↓br_eq_t, ↓br_eq_f, ↓br_lz_t, ↓br_lz_f, ↓br_ez_t, ↓br_ez_f, ↓br_gz_t, ↓br_gz_f, jw_id, jin_t, jix_t, MO.s0 hm, MO.s1 hm, MO.s2 hm, MO.s3 hm, MO.s4 hm, MO.s5 hm, MO.s6 hm, MO.s7 hm, MO.s8 hm, MO.s9 hm, MO.s10 hm, MO.s11 hm, MO.s12 hm, MO.s13 hm, MO.r1 hm, MO.r2 hm, MO.r3 hm, MO.r4 hm, MO.r5 hm, MO.r6 hm, MO.r7 hm, MO.r8 hm, MO.r9 hm, MO.r10 hm, MO.r11 hm, MO.r12 hm, MO.r13 hm, e0, e9, ek, e1, MO.s0 u1, e2, e3]
            · rw [if_neg (by omega)]
              by_cases q5 : X < Y
              · rw [if_pos q5]
                simp (disch := omega) only [p270_0, p270_1, p270_2, p270_5, p270_6, p270_7, p270_10, p270_13, p270_14, p270_17, p270_18, p270_19, p270_20, p270_21, p270_24, p270_27, p270_28, p270_29, p270_32, p270_33, p270_34, p270_35, p270_36, p270_39, p270_42, p270_43, p270_44, p270_47, p270_48, p270_49, p270_50, p270_53, p270_54, p270_55, p270_58, p270_59, p270_60, p270_61, p270_62, p270_63, p270_66, p270_68, p270_69, p270_71, p270_74, p270_76, p270_78, p270_81, p270_82, p270_84, p270_87, p270_88, p270_89, p270_91, p270_92, p270_95, p270_96, p270_99, p270_101, p270_102, p270_105, p270_106, p270_109, p270_110, p270_113, p213_0, p213_1, p213_2, p213_5, p213_6, p213_7, p213_10, p213_11, p176_0, p176_1, p176_2, p176_5, p176_6, p176_7, p176_10, p176_11, jwd_c, jwd_0, Nat.reduceLeDiff, Nat.reduceEqDiff, Nat.reduceAdd, Nat.reduceSub, Nat.reduceMul, Int.reduceAdd, Int.reduceSub, Int.reduceMul, Int.reduceNeg, Int.reduceEq, Int.reduceLT, Int.reduceLE, jq_ldi_i, jq_ldl_l, jq_lda_a, jq_inc_i, jq_gs_t, jq_gsb_t, jq_gb_t, jq_gr_2, jq_gr_4, jq_gw_2, jq_s_t, jq_b_t, jg_c, jg_n, js_c, js_n, jrm_c, jrm_n, j2_i, j2_l, j2_a, jq_c_i, jq_c_l, jq_c_0, jq_c_n, jwd_le, jw_c0, mS_I, mS_R, mS_J, mN_I, mN_R, mN_J, mR_I, mI_R, mJ_I, mJ_R, mI_J, mR_J, ↓reduceIte, decide_true, or_true, true_or, and_self, false_or, or_false, reduceCtorEq, Bool.false_eq_true, and_false, false_and, eq_self, true_and, and_true, zero_ne, ↓br_lt_t, ↓br_lt_f, ↓br_eq_t, ↓br_eq_f, ↓br_lz_t, ↓br_lz_f, ↓br_ez_t, ↓br_ez_f, ↓br_gz_t, ↓br_gz_f, jw_id, jin_t, jix_t, MO.s0 hm, MO.s1 hm, MO.s2 hm, MO.s3 hm, MO.s4 hm, MO.s5 hm, MO.s6 hm, MO.s7 hm, MO.s8 hm, MO.s9 hm, MO.s10 hm, MO.s11 hm, MO.s12 hm, MO.s13 hm, MO.r1 hm, MO.r2 hm, MO.r3 hm, MO.r4 hm, MO.r5 hm, MO.r6 hm, MO.r7 hm, MO.r8 hm, MO.r9 hm, MO.r10 hm, MO.r11 hm, MO.r12 hm, MO.r13 hm, e0, e9, ek, e1, MO.s0 u1, e2, e3]
              · rw [if_neg q5]
                by_cases q6 : Y < X
                · rw [if_pos q6]
                  simp (disch := omega) only [p270_0, p270_1, p270_2, p270_5, p270_6, p270_7, p270_10, p270_13, p270_14, p270_17, p270_18, p270_19, p270_20, p270_21, p270_24, p270_27, p270_28, p270_29, p270_32, p270_33, p270_34, p270_35, p270_36, p270_39, p270_42, p270_43, p270_44, p270_47, p270_48, p270_49, p270_50, p270_53, p270_54, p270_55, p270_58, p270_59, p270_60, p270_61, p270_62, p270_63, p270_66, p270_68, p270_69, p270_71, p270_74, p270_76, p270_78, p270_81, p270_82, p270_84, p270_87, p270_88, p270_89, p270_91, p270_92, p270_95, p270_96, p270_99, p270_101, p270_102, p270_105, p270_106, p270_109, p270_110, p270_113, p213_0, p213_1, p213_2, p213_5, p213_6, p213_7, p213_10, p213_11, p176_0, p176_1, p176_2, p176_5, p176_6, p176_7, p176_10, p176_11, jwd_c, jwd_0, Nat.reduceLeDiff, Nat.reduceEqDiff, Nat.reduceAdd, Nat.reduceSub, Nat.reduceMul, Int.reduceAdd, Int.reduceSub, Int.reduceMul, Int.reduceNeg, Int.reduceEq, Int.reduceLT, Int.reduceLE, jq_ldi_i, jq_ldl_l, jq_lda_a, jq_inc_i, jq_gs_t, jq_gsb_t, jq_gb_t, jq_gr_2, jq_gr_4, jq_gw_2, jq_s_t, jq_b_t, jg_c, jg_n, js_c, js_n, jrm_c, jrm_n, j2_i, j2_l, j2_a, jq_c_i, jq_c_l, jq_c_0, jq_c_n, jwd_le, jw_c0, mS_I, mS_R, mS_J, mN_I, mN_R, mN_J, mR_I, mI_R, mJ_I, mJ_R, mI_J, mR_J, ↓reduceIte, decide_true, or_true, true_or, and_self, false_or, or_false, reduceCtorEq, Bool.false_eq_true, and_false, false_and, eq_self, true_and, and_true, zero_ne, ↓br_lt_t, ↓br_lt_f, ↓br_eq_t, ↓br_eq_f, ↓br_lz_t, ↓br_lz_f, ↓br_ez_t, ↓br_ez_f, ↓br_gz_t, ↓br_gz_f, jw_id, jin_t, jix_t, MO.s0 hm, MO.s1 hm, MO.s2 hm, MO.s3 hm, MO.s4 hm, MO.s5 hm, MO.s6 hm, MO.s7 hm, MO.s8 hm, MO.s9 hm, MO.s10 hm, MO.s11 hm, MO.s12 hm, MO.s13 hm, MO.r1 hm, MO.r2 hm, MO.r3 hm, MO.r4 hm, MO.r5 hm, MO.r6 hm, MO.r7 hm, MO.r8 hm, MO.r9 hm, MO.r10 hm, MO.r11 hm, MO.r12 hm, MO.r13 hm, e0, e9, ek, e1, MO.s0 u1, e2, e3]
                · rw [if_neg q6]
                  simp (disch := omega) only [p270_0, p270_1, p270_2, p270_5, p270_6, p270_7, p270_10, p270_13, p270_14, p270_17, p270_18, p270_19, p270_20, p270_21, p270_24, p270_27, p270_28, p270_29, p270_32, p270_33, p270_34, p270_35, p270_36, p270_39, p270_42, p270_43, p270_44, p270_47, p270_48, p270_49, p270_50, p270_53, p270_54, p270_55, p270_58, p270_59, p270_60, p270_61, p270_62, p270_63, p270_66, p270_68, p270_69, p270_71, p270_74, p270_76, p270_78, p270_81, p270_82, p270_84, p270_87, p270_88, p270_89, p270_91, p270_92, p270_95, p270_96, p270_99, p270_101, p270_102, p270_105, p270_106, p270_109, p270_110, p270_113, p213_0, p213_1, p213_2, p213_5, p213_6, p213_7, p213_10, p213_11, p176_0, p176_1, p176_2, p176_5, p176_6, p176_7, p176_10, p176_11, jwd_c, jwd_0, Nat.reduceLeDiff, Nat.reduceEqDiff, Nat.reduceAdd, Nat.reduceSub, Nat.reduceMul, Int.reduceAdd, Int.reduceSub, Int.reduceMul, Int.reduceNeg, Int.reduceEq, Int.reduceLT, Int.reduceLE, jq_ldi_i, jq_ldl_l, jq_lda_a, jq_inc_i, jq_gs_t, jq_gsb_t, jq_gb_t, jq_gr_2, jq_gr_4, jq_gw_2, jq_s_t, jq_b_t, jg_c, jg_n, js_c, js_n, jrm_c, jrm_n, j2_i, j2_l, j2_a, jq_c_i, jq_c_l, jq_c_0, jq_c_n, jwd_le, jw_c0, mS_I, mS_R, mS_J, mN_I, mN_R, mN_J, mR_I, mI_R, mJ_I, mJ_R, mI_J, mR_J, ↓reduceIte, decide_true, or_true, true_or, and_self, false_or, or_false, reduceCtorEq, Bool.false_eq_true, and_false, false_and, eq_self, true_and, and_true, zero_ne, ↓br_lt_t, ↓br_lt_f, ↓br_eq_t, ↓br_eq_f, ↓br_lz_t, ↓br_lz_f, ↓br_ez_t, ↓br_ez_f, ↓br_gz_t, ↓br_gz_f, jw_id, jin_t, jix_t, MO.s0 hm, MO.s1 hm, MO.s2 hm, MO.s3 hm, MO.s4 hm, MO.s5 hm, MO.s6 hm, MO.s7 hm, MO.s8 hm, MO.s9 hm, MO.s10 hm, MO.s11 hm, MO.s12 hm, MO.s13 hm, MO.r1 hm, MO.r2 hm, MO.r3 hm, MO.r4 hm, MO.r5 hm, MO.r6 hm, MO.r7 hm, MO.r8 hm, MO.r9 hm, MO.r10 hm, MO.r11 hm, MO.r12 hm, MO.r13 hm, e0, e9, ek, e1, MO.s0 u1, e2, e3]
        · rw [if_neg q1] at ek ⊢
          refine ⟨_, ?_, qM.triv hw0⟩
          simp (disch := omega) only [p270_0, p270_1, p270_2, p270_5, p270_6, p270_7, p270_10, p270_13, p270_14, p270_17, p270_18, p270_19, p270_20, p270_21, p270_24, p270_27, p270_28, p270_29, p270_32, p270_33, p270_34, p270_35, p270_36, p270_39, p270_42, p270_43, p270_44, p270_47, p270_48, p270_49, p270_50, p270_53, p270_54, p270_55, p270_58, p270_59, p270_60, p270_61, p270_62, p270_63, p270_66, p270_68, p270_69, p270_71, p270_74, p270_76, p270_78, p270_81, p270_82, p270_84, p270_87, p270_88, p270_89, p270_91, p270_92, p270_95, p270_96, p270_99, p270_101, p270_102, p270_105, p270_106, p270_109, p270_110, p270_113, p213_0, p213_1, p213_2, p213_5, p213_6, p213_7, p213_10, p213_11, p176_0, p176_1, p176_2, p176_5, p176_6, p176_7, p176_10, p176_11, jwd_c, jwd_0, Nat.reduceLeDiff, Nat.reduceEqDiff, Nat.reduceAdd, Nat.reduceSub, Nat.reduceMul, Int.reduceAdd, Int.reduceSub, Int.reduceMul, Int.reduceNeg, Int.reduceEq, Int.reduceLT, Int.reduceLE, jq_ldi_i, jq_ldl_l, jq_lda_a, jq_inc_i, jq_gs_t, jq_gsb_t, jq_gb_t, jq_gr_2, jq_gr_4, jq_gw_2, jq_s_t, jq_b_t, jg_c, jg_n, js_c, js_n, jrm_c, jrm_n, j2_i, j2_l, j2_a, jq_c_i, jq_c_l, jq_c_0, jq_c_n, jwd_le, jw_c0, mS_I, mS_R, mS_J, mN_I, mN_R, mN_J, mR_I, mI_R, mJ_I, mJ_R, mI_J, mR_J, ↓reduceIte, decide_true, or_true, true_or, and_self, false_or, or_false, reduceCtorEq, Bool.false_eq_true, and_false, false_and, eq_self, true_and, and_true, zero_ne, ↓br_lt_t, ↓br_lt_f, ↓br_eq_t, ↓br_eq_f, ↓br_lz_t, ↓br_lz_f, ↓br_ez_t, ↓br_ez_f, ↓br_gz_t, ↓br_gz_f, jw_id, jin_t, jix_t, MO.s0 hm, MO.s1 hm, MO.s2 hm, MO.s3 hm, MO.s4 hm, MO.s5 hm, MO.s6 hm, MO.s7 hm, MO.s8 hm, MO.s9 hm, MO.s10 hm, MO.s11 hm, MO.s12 hm, MO.s13 hm, MO.r1 hm, MO.r2 hm, MO.r3 hm, MO.r4 hm, MO.r5 hm, MO.r6 hm, MO.r7 hm, MO.r8 hm, MO.r9 hm, MO.r10 hm, MO.r11 hm, MO.r12 hm, MO.r13 hm, e0, e9, ek]
      · rw [if_neg (by omega)] at e9
        rw [if_neg (by omega)]
        refine ⟨_, ?_, qM.triv hw0⟩
        simp (disch := omega) only [p270_0, p270_1, p270_2, p270_5, p270_6, p270_7, p270_10, p270_13, p270_14, p270_17, p270_18, p270_19, p270_20, p270_21, p270_24, p270_27, p270_28, p270_29, p270_32, p270_33, p270_34, p270_35, p270_36, p270_39, p270_42, p270_43, p270_44, p270_47, p270_48, p270_49, p270_50, p270_53, p270_54, p270_55, p270_58, p270_59, p270_60, p270_61, p270_62, p270_63, p270_66, p270_68, p270_69, p270_71, p270_74, p270_76, p270_78, p270_81, p270_82, p270_84, p270_87, p270_88, p270_89, p270_91, p270_92, p270_95, p270_96, p270_99, p270_101, p270_102, p270_105, p270_106, p270_109, p270_110, p270_113, p213_0, p213_1, p213_2, p213_5, p213_6, p213_7, p213_10, p213_11, p176_0, p176_1, p176_2, p176_5, p176_6, p176_7, p176_10, p176_11, jwd_c, jwd_0, Nat.reduceLeDiff, Nat.reduceEqDiff, Nat.reduceAdd, Nat.reduceSub, Nat.reduceMul, Int.reduceAdd, Int.reduceSub, Int.reduceMul, Int.reduceNeg, Int.reduceEq, Int.reduceLT, Int.reduceLE, jq_ldi_i, jq_ldl_l, jq_lda_a, jq_inc_i, jq_gs_t, jq_gsb_t, jq_gb_t, jq_gr_2, jq_gr_4, jq_gw_2, jq_s_t, jq_b_t, jg_c, jg_n, js_c, js_n, jrm_c, jrm_n, j2_i, j2_l, j2_a, jq_c_i, jq_c_l, jq_c_0, jq_c_n, jwd_le, jw_c0, mS_I, mS_R, mS_J, mN_I, mN_R, mN_J, mR_I, mI_R, mJ_I, mJ_R, mI_J, mR_J, ↓reduceIte, decide_true, or_true, true_or, and_self, false_or, or_false, reduceCtorEq, Bool.false_eq_true, and_false, false_and, eq_self, true_and, and_true, zero_ne, ↓br_lt_t, ↓br_lt_f, ↓br_eq_t, ↓br_eq_f, ↓br_lz_t, ↓br_lz_f, ↓br_ez_t, ↓br_ez_f, ↓br_gz_t, ↓br_gz_f, jw_id, jin_t, jix_t, MO.s0 hm, MO.s1 hm, MO.s2 hm, MO.s3 hm, MO.s4 hm, MO.s5 hm, MO.s6 hm, MO.s7 hm, MO.s8 hm, MO.s9 hm, MO.s10 hm, MO.s11 hm, MO.s12 hm, MO.s13 hm, MO.r1 hm, MO.r2 hm, MO.r3 hm, MO.r4 hm, MO.r5 hm, MO.r6 hm, MO.r7 hm, MO.r8 hm, MO.r9 hm, MO.r10 hm, MO.r11 hm, MO.r12 hm, MO.r13 hm, e0, e9]
  · rw [if_neg hi] at e0
    rw [if_neg (by omega)]
    refine ⟨_, ?_, qM.triv hw0⟩
    simp (disch := omega) only [p270_0, p270_1, p270_2, p270_5, p270_6, p270_7, p270_10, p270_13, p270_14, p270_17, p270_18, p270_19, p270_20, p270_21, p270_24, p270_27, p270_28, p270_29, p270_32, p270_33, p270_34, p270_35, p270_36, p270_39, p270_42, p270_43, p270_44, p270_47, p270_48, p270_49, p270_50, p270_53, p270_54, p270_55, p270_58, p270_59, p270_60, p270_61, p270_62, p270_63, p270_66, p270_68, p270_69, p270_71, p270_74, p270_76, p270_78, p270_81, p270_82, p270_84, p270_87, p270_88, p270_89, p270_91, p270_92, p270_95, p270_96, p270_99, p270_101, p270_102, p270_105, p270_106, p270_109, p270_110, p270_113, p213_0, p213_1, p213_2, p213_5, p213_6, p213_7, p213_10, p213_11, p176_0, p176_1, p176_2, p176_5, p176_6, p176_7, p176_10, p176_11, jwd_c, jwd_0, Nat.reduceLeDiff, Nat.reduceEqDiff, Nat.reduceAdd, Nat.reduceSub, Nat.reduceMul, Int.reduceAdd, Int.reduceSub, Int.reduceMul, Int.reduceNeg, Int.reduceEq, Int.reduceLT, Int.reduceLE, jq_ldi_i, jq_ldl_l, jq_lda_a, jq_inc_i, jq_gs_t, jq_gsb_t, jq_gb_t, jq_gr_2, jq_gr_4, jq_gw_2, jq_s_t, jq_b_t, jg_c, jg_n, js_c, js_n, jrm_c, jrm_n, j2_i, j2_l, j2_a, jq_c_i, jq_c_l, jq_c_0, jq_c_n, jwd_le, jw_c0, mS_I, mS_R, mS_J, mN_I, mN_R, mN_J, mR_I, mI_R, mJ_I, mJ_R, mI_J, mR_J, ↓reduceIte, decide_true, or_true, true_or, and_self, false_or, or_false, reduceCtorEq, Bool.false_eq_true, and_false, false_and, eq_self, true_and, and_true, zero_ne, ↓br_lt_t, ↓br_lt_f, ↓br_eq_t, ↓br_eq_f, ↓br_lz_t, ↓br_lz_f, ↓br_ez_t, ↓br_ez_f, ↓br_gz_t, ↓br_gz_f, jw_id, jin_t, jix_t, MO.s0 hm, MO.s1 hm, MO.s2 hm, MO.s3 hm, MO.s4 hm, MO.s5 hm, MO.s6 hm, MO.s7 hm, MO.s8 hm, MO.s9 hm, MO.s10 hm, MO.s11 hm, MO.s12 hm, MO.s13 hm, MO.r1 hm, MO.r2 hm, MO.r3 hm, MO.r4 hm, MO.r5 hm, MO.r6 hm, MO.r7 hm, MO.r8 hm, MO.r9 hm, MO.r10 hm, MO.r11 hm, MO.r12 hm, MO.r13 hm, e0]
end PLANM
