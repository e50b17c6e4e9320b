/-! feed, of both. -/
theorem bv_and255 (x y : BitVec 32) (h : ∀ i, i < 8 → x.getLsbD i = y.getLsbD i) : x &&& 255#32 = y &&& 255#32 := by
  refine BitVec.eq_of_getLsbD_eq (fun i hi => ?_)
  rw [BitVec.getLsbD_and, BitVec.getLsbD_and]
  by_cases z : i < 8
  · rw [h i z]
  · have : (255#32).getLsbD i = false := by
      rw [BitVec.getLsbD_ofNat, Nat.testBit_lt_two_pow (Nat.lt_of_lt_of_le (show 255 < 2 ^ 8 by decide) (Nat.pow_le_pow_right (by decide) (by omega))), Bool.and_false]
    rw [this, Bool.and_false, Bool.and_false]
theorem bv_sx8 (x : BitVec 32) (i : Nat) (h : i < 8) : (BitVec.signExtend 32 (BitVec.signExtend 8 x)).getLsbD i = x.getLsbD i := by
  rw [BitVec.getLsbD_signExtend, BitVec.getLsbD_signExtend, if_pos h, if_pos (by omega), decide_eq_true (show i < 32 by omega), decide_eq_true h, Bool.true_and, Bool.true_and]
theorem ji_and_t (x : Int) : ji_and x 255 = ((Int32.ofInt x).toBitVec &&& 255#32).toInt := rfl
theorem ji_b_and (z : Int) : ji_and (ji_b z) 255 = ji_and z 255 := by
  have e : Int32.ofInt (ji_b z) = (Int32.ofInt z).toInt8.toInt32 := Int32.ofInt_toInt _
  rw [ji_and_t, ji_and_t, e]
  have e2 : ((Int32.ofInt z).toInt8.toInt32).toBitVec = BitVec.signExtend 32 (BitVec.signExtend 8 (Int32.ofInt z).toBitVec) := rfl
  rw [e2, bv_and255 _ _ (fun i hi => bv_sx8 _ i hi)]
theorem bv_sh (x : BitVec 32) (s : Nat) (hs : s ≤ 24) : x.sshiftRight s &&& 255#32 = (x >>> s) &&& 255#32 := by
  refine bv_and255 _ _ (fun i hi => ?_)
  rw [BitVec.getLsbD_sshiftRight, BitVec.getLsbD_ushiftRight, if_pos (by omega), decide_eq_false (show ¬ 32 ≤ i by omega)]
  rfl
theorem shr_0 (v : Int) : ji_and (ji_shr v 0) 255 = ji_and (ji_ushr v 0) 255 := by
  rw [ji_and_t, ji_and_t, show Int32.ofInt (ji_shr v 0) = Int32.ofInt v >>> (Int32.ofInt 0 &&& 31) from Int32.ofInt_toInt _, show Int32.ofInt (ji_ushr v 0) = ((Int32.ofInt v).toUInt32 >>> ((Int32.ofInt 0).toUInt32 &&& Int32.toUInt32 31)).toInt32 from Int32.ofInt_toInt _]
  exact congrArg BitVec.toInt (bv_sh (Int32.ofInt v).toBitVec 0 (by decide))
theorem shr_8 (v : Int) : ji_and (ji_shr v 8) 255 = ji_and (ji_ushr v 8) 255 := by
  rw [ji_and_t, ji_and_t, show Int32.ofInt (ji_shr v 8) = Int32.ofInt v >>> (Int32.ofInt 8 &&& 31) from Int32.ofInt_toInt _, show Int32.ofInt (ji_ushr v 8) = ((Int32.ofInt v).toUInt32 >>> ((Int32.ofInt 8).toUInt32 &&& Int32.toUInt32 31)).toInt32 from Int32.ofInt_toInt _]
  exact congrArg BitVec.toInt (bv_sh (Int32.ofInt v).toBitVec 8 (by decide))
theorem shr_16 (v : Int) : ji_and (ji_shr v 16) 255 = ji_and (ji_ushr v 16) 255 := by
  rw [ji_and_t, ji_and_t, show Int32.ofInt (ji_shr v 16) = Int32.ofInt v >>> (Int32.ofInt 16 &&& 31) from Int32.ofInt_toInt _, show Int32.ofInt (ji_ushr v 16) = ((Int32.ofInt v).toUInt32 >>> ((Int32.ofInt 16).toUInt32 &&& Int32.toUInt32 31)).toInt32 from Int32.ofInt_toInt _]
  exact congrArg BitVec.toInt (bv_sh (Int32.ofInt v).toBitVec 16 (by decide))
theorem shr_24 (v : Int) : ji_and (ji_shr v 24) 255 = ji_and (ji_ushr v 24) 255 := by
  rw [ji_and_t, ji_and_t, show Int32.ofInt (ji_shr v 24) = Int32.ofInt v >>> (Int32.ofInt 24 &&& 31) from Int32.ofInt_toInt _, show Int32.ofInt (ji_ushr v 24) = ((Int32.ofInt v).toUInt32 >>> ((Int32.ofInt 24).toUInt32 &&& Int32.toUInt32 31)).toInt32 from Int32.ofInt_toInt _]
  exact congrArg BitVec.toInt (bv_sh (Int32.ofInt v).toBitVec 24 (by decide))
/-- a byte of a number, the highest first -/
def gBy (v : Int) (j : Nat) : Int := ji_and (ji_ushr v (24 - 8 * (j : Int))) 255
theorem shr_j (v : Int) {j : Nat} (h : j < 4) : ji_and (ji_shr v (24 - 8 * (j : Int))) 255 = gBy v j := by
  unfold gBy
  have : j = 0 ∨ j = 1 ∨ j = 2 ∨ j = 3 := by omega
  rcases this with rfl | rfl | rfl | rfl
  · exact shr_24 v
  · exact shr_16 v
  · exact shr_8 v
  · exact shr_0 v
theorem and255_bd (x : Int) : 0 ≤ ji_and x 255 ∧ ji_and x 255 ≤ 255 := by
  rw [ji_and_t]
  have h2 : ∀ y : BitVec 32, 0 ≤ (y &&& 255#32).toInt ∧ (y &&& 255#32).toInt ≤ 255 := by
    intro y
    have h1 : (y &&& 255#32).toNat ≤ 255 := by
      rw [BitVec.toNat_and]
      exact Nat.and_le_right
    have h3 : (y &&& 255#32).toInt = (y &&& 255#32).toNat := BitVec.toInt_eq_toNat_of_lt (by omega)
    rw [h3]
    omega
  exact h2 _
def gPk (a b c d e : Int) (j : Nat) : Int := if j < 4 then a else if j < 8 then b else if j < 12 then c else if j < 16 then d else e
/-- the tape, twenty bytes more -/
def gFd (T : Nat → Int) (cnt : Nat) (a b c d e : Int) (i : Nat) : Int := if i < cnt then T i else gBy (gPk a b c d e (i - cnt)) ((i - cnt) % 4)
def gFo (T : Nat → Int) (cnt : Nat) (v : Int) (i : Nat) : Int := if i < cnt then T i else gBy v (i - cnt)
section FEED
variable {w u : jmW} {T : Nat → Int} {cnt : Nat} {a b c d e v : Int}
theorem gFd_bd (hT : ∀ i, i < cnt → 0 ≤ T i ∧ T i ≤ 255) (i : Nat) : 0 ≤ gFd T cnt a b c d e i ∧ gFd T cnt a b c d e i ≤ 255 := by
  unfold gFd
  split
  · rename_i h
    exact hT i h
  · exact and255_bd _
theorem c_fone (s64 : mS w 64 = (1, 7, 0)) (r0 : mR w 64 0 = some 65) (sg : Sg w 65 1 900 cnt (fun i _ => T i)) (hc : cnt + 4 ≤ 900) : ∃ u, rn 13 (0, [(0, jvr 64), (1, .inl v)], [], w) = some (none, u) ∧ Sg u 65 1 900 (cnt + 4) (fun i _ => gFo T cnt v i) ∧ Fr (sP 65) w u := by
  obtain ⟨u1, e1, g1, f1⟩ := sg_push sg (by omega) (v := ji_and (ji_ushr v 24) 255)
  obtain ⟨u2, e2, g2, f2⟩ := sg_push g1 (by omega) (v := ji_and (ji_ushr v 16) 255)
  obtain ⟨u3, e3, g3, f3⟩ := sg_push g2 (by omega) (v := ji_and (ji_ushr v 8) 255)
  obtain ⟨u4, e4, g4, f4⟩ := sg_push g3 (by omega) (v := ji_and (ji_ushr v 0) 255)
  have k1 := f1
  have k2 := k1.tr f2
  have k3 := k2.tr f3
  have k4 := k3.tr f4
  refine ⟨u4, ?_, g4.mk2 (fun i j hi hj => ?_), k4⟩
  · have a1 : mS u1 64 = (1, 7, 0) := by rw [k1.q]; exact s64
    have a2 : mS u2 64 = (1, 7, 0) := by rw [k2.q]; exact s64
    have a3 : mS u3 64 = (1, 7, 0) := by rw [k3.q]; exact s64
    have b1 : mR u1 64 0 = some 65 := by rw [k1.Rq (sP_n (by omega))]; exact r0
    have b2 : mR u2 64 0 = some 65 := by rw [k2.Rq (sP_n (by omega))]; exact r0
    have b3 : mR u3 64 0 = some 65 := by rw [k3.Rq (sP_n (by omega))]; exact r0
    have t0 : mS w 65 = (1, 5, 0) := sg.1
    have t1 : mS u1 65 = (1, 5, 0) := g1.1
    have t2 : mS u2 65 = (1, 5, 0) := g2.1
    have t3 : mS u3 65 = (1, 5, 0) := g3.1
    simp (disch := omega) only [p13_0, p13_2, p13_3, p13_4, p13_7, p13_8, p13_11, p13_12, p13_13, p13_14, p13_17, p13_18, p13_21, p13_24, p13_27, jwd_c, jwd_0, Nat.reduceLeDiff, Nat.reduceEqDiff, Nat.reduceAdd, Nat.reduceSub, Nat.reduceMul, Int.reduceAdd, Int.reduceSub, Int.reduceMul, Int.reduceNeg, Int.reduceEq, Int.reduceLT, Int.reduceLE, jq_ldi_i, jq_ldl_l, jq_lda_a, jq_inc_i, jq_gs_t, jq_gsb_t, jq_gb_t, jq_gr_2, jq_gr_4, jq_gw_2, jq_s_t, jq_b_t, jg_c, jg_n, js_c, js_n, jrm_c, jrm_n, j2_i, j2_l, j2_a, jq_c_i, jq_c_l, jq_c_0, jq_c_n, jwd_le, jw_c0, mS_I, mS_R, mS_J, mN_I, mN_R, mN_J, mR_I, mI_R, mJ_I, mJ_R, mI_J, mR_J, ↓reduceIte, decide_true, or_true, true_or, and_self, false_or, or_false, reduceCtorEq, Bool.false_eq_true, and_false, false_and, eq_self, true_and, and_true, zero_ne, ↓br_lt_t, ↓br_lt_f, ↓br_eq_t, ↓br_eq_f, ↓br_lz_t, ↓br_lz_f, ↓br_ez_t, ↓br_ez_f, ↓br_gz_t, ↓br_gz_f, jw_id, jin_t, jix_t, s64, r0, a1, a2, a3, b1, b2, b3, t0, t1, t2, t3, e1, e2, e3, e4]
  · have j0 : j = 0 := by omega
    subst j0
    unfold gFo
    by_cases z : i < cnt
    · rw [if_pos (by omega), if_pos (by omega), if_pos (by omega), if_pos z, if_pos z]
    rw [if_neg z]
    by_cases z1 : i = cnt
    · rw [if_pos (by omega), if_pos (by omega), if_pos (by omega), if_neg z, if_pos rfl, z1, Nat.sub_self]
      rfl
    by_cases z2 : i = cnt + 1
    · rw [if_pos (by omega), if_pos (by omega), if_neg (by omega), if_pos rfl, if_neg z, show i - cnt = 1 by omega]
      rfl
    by_cases z3 : i = cnt + 2
    · rw [if_pos (by omega), if_neg (by omega), if_pos rfl, if_neg z, show i - cnt = 2 by omega]
      rfl
    · rw [if_neg (by omega), if_pos rfl, if_neg z, show i - cnt = 3 by omega]
      rfl
theorem c_feed0 (s64 : mS w 64 = (1, 7, 0)) (r0 : mR w 64 0 = some 65) (sg : Sg w 65 1 900 cnt (fun i _ => T i)) (hc : 880 < cnt) : rn 11 (0, [(0, jvr 64), (1, .inl a), (2, .inl b), (3, .inl c), (4, .inl d), (5, .inl e)], [], w) = some (some (.inl (-1)), w) := by
  have c9 := sg.2.2.2.2.2.2.1
  have e1 := sg_count sg
  have t0 : mS w 65 = (1, 5, 0) := sg.1
  simp (disch := omega) only [p11_0, p11_1, p11_4, p11_7, p11_9, p11_10, p11_13, p11_16, p11_17, p11_18, p11_19, p11_20, p11_23, p11_24, p11_25, p11_28, p11_29, p11_30, p11_33, p11_34, p11_36, p11_39, p11_40, p11_42, p11_45, p11_46, p11_49, p11_52, jwd_c, jwd_0, Nat.reduceLeDiff, Nat.reduceEqDiff, Nat.reduceAdd, Nat.reduceSub, Nat.reduceMul, Int.reduceAdd, Int.reduceSub, Int.reduceMul, Int.reduceNeg, Int.reduceEq, Int.reduceLT, Int.reduceLE, jq_ldi_i, jq_ldl_l, jq_lda_a, jq_inc_i, jq_gs_t, jq_gsb_t, jq_gb_t, jq_gr_2, jq_gr_4, jq_gw_2, jq_s_t, jq_b_t, jg_c, jg_n, js_c, js_n, jrm_c, jrm_n, j2_i, j2_l, j2_a, jq_c_i, jq_c_l, jq_c_0, jq_c_n, jwd_le, jw_c0, mS_I, mS_R, mS_J, mN_I, mN_R, mN_J, mR_I, mI_R, mJ_I, mJ_R, mI_J, mR_J, ↓reduceIte, decide_true, or_true, true_or, and_self, false_or, or_false, reduceCtorEq, Bool.false_eq_true, and_false, false_and, eq_self, true_and, and_true, zero_ne, ↓br_lt_t, ↓br_lt_f, ↓br_eq_t, ↓br_eq_f, ↓br_lz_t, ↓br_lz_f, ↓br_ez_t, ↓br_ez_f, ↓br_gz_t, ↓br_gz_f, jw_id, jin_t, jix_t, s64, r0, t0, e1]
theorem c_feed (s64 : mS w 64 = (1, 7, 0)) (r0 : mR w 64 0 = some 65) (sg : Sg w 65 1 900 cnt (fun i _ => T i)) (hc : cnt + 20 ≤ 900) : ∃ u, rn 11 (0, [(0, jvr 64), (1, .inl a), (2, .inl b), (3, .inl c), (4, .inl d), (5, .inl e)], [], w) = some (some (.inl ((cnt + 20 : Nat) : Int)), u) ∧ Sg u 65 1 900 (cnt + 20) (fun i _ => gFd T cnt a b c d e i) ∧ Fr (sP 65) w u := by
  have e0 := sg_count sg
  have rr : ∀ {x y : jmW}, Fr (sP 65) x y → mS x 64 = (1, 7, 0) → mR x 64 0 = some 65 → mS y 64 = (1, 7, 0) ∧ mR y 64 0 = some 65 := fun f s r => ⟨by rw [f.q]; exact s, by rw [f.Rq (sP_n (by omega))]; exact r⟩
  obtain ⟨u1, e1, g1, f1⟩ := c_fone (v := a) s64 r0 sg (by omega)
  obtain ⟨a1, b1⟩ := rr f1 s64 r0
  obtain ⟨u2, e2, g2, f2⟩ := c_fone (v := b) a1 b1 g1 (by omega)
  obtain ⟨a2, b2⟩ := rr f2 a1 b1
  obtain ⟨u3, e3, g3, f3⟩ := c_fone (v := c) a2 b2 g2 (by omega)
  obtain ⟨a3, b3⟩ := rr f3 a2 b2
  obtain ⟨u4, e4, g4, f4⟩ := c_fone (v := d) a3 b3 g3 (by omega)
  obtain ⟨a4, b4⟩ := rr f4 a3 b3
  obtain ⟨u5, e5, g5, f5⟩ := c_fone (v := e) a4 b4 g4 (by omega)
  obtain ⟨a5, b5⟩ := rr f5 a4 b4
  have e6 := sg_count g5
  refine ⟨u5, ?_, g5.mk2 (fun i j hi hj => ?_), (((f1.tr f2).tr f3).tr f4).tr f5⟩
  · have t0 : mS w 65 = (1, 5, 0) := sg.1
    have t5 : mS u5 65 = (1, 5, 0) := g5.1
    simp (disch := omega) only [p11_0, p11_1, p11_4, p11_7, p11_9, p11_10, p11_13, p11_16, p11_17, p11_18, p11_19, p11_20, p11_23, p11_24, p11_25, p11_28, p11_29, p11_30, p11_33, p11_34, p11_36, p11_39, p11_40, p11_42, p11_45, p11_46, p11_49, p11_52, jwd_c, jwd_0, Nat.reduceLeDiff, Nat.reduceEqDiff, Nat.reduceAdd, Nat.reduceSub, Nat.reduceMul, Int.reduceAdd, Int.reduceSub, Int.reduceMul, Int.reduceNeg, Int.reduceEq, Int.reduceLT, Int.reduceLE, jq_ldi_i, jq_ldl_l, jq_lda_a, jq_inc_i, jq_gs_t, jq_gsb_t, jq_gb_t, jq_gr_2, jq_gr_4, jq_gw_2, jq_s_t, jq_b_t, jg_c, jg_n, js_c, js_n, jrm_c, jrm_n, j2_i, j2_l, j2_a, jq_c_i, jq_c_l, jq_c_0, jq_c_n, jwd_le, jw_c0, mS_I, mS_R, mS_J, mN_I, mN_R, mN_J, mR_I, mI_R, mJ_I, mJ_R, mI_J, mR_J, ↓reduceIte, decide_true, or_true, true_or, and_self, false_or, or_false, reduceCtorEq, Bool.false_eq_true, and_false, false_and, eq_self, true_and, and_true, zero_ne, ↓br_lt_t, ↓br_lt_f, ↓br_eq_t, ↓br_eq_f, ↓br_lz_t, ↓br_lz_f, ↓br_ez_t, ↓br_ez_f, ↓br_gz_t, ↓br_gz_f, jw_id, jin_t, jix_t, s64, r0, a1, a2, a3, a4, a5, b1, b2, b3, b4, b5, t0, t5, e0, e1, e2, e3, e4, e5, e6]
  · unfold gFo gFd gPk
    by_cases z : i < cnt
    · rw [if_pos (by omega), if_pos (by omega), if_pos (by omega), if_pos (by omega), if_pos z, if_pos z]
    rw [if_neg z]
    by_cases z1 : i < cnt + 4
    · rw [if_pos (by omega), if_pos (by omega), if_pos (by omega), if_pos (by omega), if_neg z, if_pos (by omega), show (i - cnt) % 4 = i - cnt by omega]
    by_cases z2 : i < cnt + 4 + 4
    · rw [if_pos (by omega), if_pos (by omega), if_pos (by omega), if_neg (by omega), if_neg z, if_neg (by omega), if_pos (by omega), show (i - cnt) % 4 = i - (cnt + 4) by omega]
    by_cases z3 : i < cnt + 4 + 4 + 4
    · rw [if_pos (by omega), if_pos (by omega), if_neg (by omega), if_neg z, if_neg (by omega), if_neg (by omega), if_pos (by omega), show (i - cnt) % 4 = i - (cnt + 4 + 4) by omega]
    by_cases z4 : i < cnt + 4 + 4 + 4 + 4
    · rw [if_pos (by omega), if_neg (by omega), if_neg z, if_neg (by omega), if_neg (by omega), if_neg (by omega), if_pos (by omega), show (i - cnt) % 4 = i - (cnt + 4 + 4 + 4) by omega]
    · rw [if_neg (by omega), if_neg z, if_neg (by omega), if_neg (by omega), if_neg (by omega), if_neg (by omega), show (i - cnt) % 4 = i - (cnt + 4 + 4 + 4 + 4) by omega]
theorem d_feed0 (m0 : MO w) (h6 : mI w 238 6 = cnt) (c9 : cnt ≤ 900) (hc : 880 < cnt) : rn 174 (0, [(0, jvr 238), (1, .inl a), (2, .inl b), (3, .inl c), (4, .inl d), (5, .inl e)], [], w) = some (some (.inl (-1)), setI w 238 0 0) := by
  have s := m0.s0
  simp (disch := omega) only [p174_0, p174_1, p174_2, p174_5, p174_6, p174_9, p174_11, p174_12, p174_15, p174_18, p174_19, p174_20, p174_21, p174_23, p174_25, p174_27, p174_30, p174_32, p174_33, p174_36, p174_37, p174_40, p174_42, p174_44, p174_47, p174_48, p174_51, p174_53, p174_55, p174_58, p174_59, p174_62, p174_64, p174_66, p174_69, p174_71, p174_74, p174_76, p174_78, p174_79, p174_82, p174_83, p174_86, p174_88, p174_90, p174_92, p174_94, p174_95, p174_96, p174_97, p174_98, p174_99, p174_100, p174_101, p174_102i, p174_102a, p174_103, p174_106, p174_107, p174_108, p174_111, p174_114, p174_117, p174_118, p174_121, jwd_c, jwd_0, Nat.reduceLeDiff, Nat.reduceEqDiff, Nat.reduceAdd, Nat.reduceSub, Nat.reduceMul, Int.reduceAdd, Int.reduceSub, Int.reduceMul, Int.reduceNeg, Int.reduceEq, Int.reduceLT, Int.reduceLE, jq_ldi_i, jq_ldl_l, jq_lda_a, jq_inc_i, jq_gs_t, jq_gsb_t, jq_gb_t, jq_gr_2, jq_gr_4, jq_gw_2, jq_s_t, jq_b_t, jg_c, jg_n, js_c, js_n, jrm_c, jrm_n, j2_i, j2_l, j2_a, jq_c_i, jq_c_l, jq_c_0, jq_c_n, jwd_le, jw_c0, mS_I, mS_R, mS_J, mN_I, mN_R, mN_J, mR_I, mI_R, mJ_I, mJ_R, mI_J, mR_J, ↓reduceIte, decide_true, or_true, true_or, and_self, false_or, or_false, reduceCtorEq, Bool.false_eq_true, and_false, false_and, eq_self, true_and, and_true, zero_ne, ↓br_lt_t, ↓br_lt_f, ↓br_eq_t, ↓br_eq_f, ↓br_lz_t, ↓br_lz_f, ↓br_ez_t, ↓br_ez_f, ↓br_gz_t, ↓br_gz_f, jw_id, jin_t, jix_t, s, mI_nk, h6]
theorem tm4 {k : Nat} (hk : k < 20) : (jw (k : Int)).tmod (jw 4) = ((k % 4 : Nat) : Int) := by
  rw [jw_id (z := (k : Int)) (by omega) (by omega), jw_c4]
  exact (Int.ofNat_tmod k 4).symm
theorem d_flp : ∀ (m k : Nat) (w : jmW) (tl : jmL), k + m = 20 → MO w → mI w 238 6 = ((cnt + k : Nat) : Int) → cnt + 20 ≤ 900 → t1p 7 tl → ∃ u, rn 174 (23, (0, jvr 238) :: (1, .inl a) :: (2, .inl b) :: (3, .inl c) :: (4, .inl d) :: (5, .inl e) :: (6, .inl (k : Int)) :: tl, [], w) = some (some (.inl ((cnt + 20 : Nat) : Int)), u) ∧ mI u 238 6 = ((cnt + 20 : Nat) : Int) ∧ (∀ j, j < cnt + k → mI u 239 j = mI w 239 j) ∧ (∀ j, k ≤ j → j < 20 → ji_and (mI u 239 (cnt + j)) 255 = gBy (gPk a b c d e j) (j % 4)) ∧ Fr (fun x => x = 238 ∨ x = 239) w u ∧ mR u = mR w ∧ ∀ j, j ≠ 6 → mI u 238 j = mI w 238 j := by
  intro m
  induction m with
  | zero =>
    intro k w tl hk m0 h6 c9 ht
    have k20 : k = 20 := by omega
    subst k20
    have s := m0.s0
    refine ⟨w, ?_, h6, fun j _ => rfl, fun j j1 j2 => by omega, Fr.rf _ _, rfl, fun _ _ => rfl⟩
    have hq : ((20 : Nat) : Int) = 20 := rfl
    rw [hq]
    simp (disch := omega) only [p174_0, p174_1, p174_2, p174_5, p174_6, p174_9, p174_11, p174_12, p174_15, p174_18, p174_19, p174_20, p174_21, p174_23, p174_25, p174_27, p174_30, p174_32, p174_33, p174_36, p174_37, p174_40, p174_42, p174_44, p174_47, p174_48, p174_51, p174_53, p174_55, p174_58, p174_59, p174_62, p174_64, p174_66, p174_69, p174_71, p174_74, p174_76, p174_78, p174_79, p174_82, p174_83, p174_86, p174_88, p174_90, p174_92, p174_94, p174_95, p174_96, p174_97, p174_98, p174_99, p174_100, p174_101, p174_102i, p174_102a, p174_103, p174_106, p174_107, p174_108, p174_111, p174_114, p174_117, p174_118, p174_121, jwd_c, jwd_0, Nat.reduceLeDiff, Nat.reduceEqDiff, Nat.reduceAdd, Nat.reduceSub, Nat.reduceMul, Int.reduceAdd, Int.reduceSub, Int.reduceMul, Int.reduceNeg, Int.reduceEq, Int.reduceLT, Int.reduceLE, jq_ldi_i, jq_ldl_l, jq_lda_a, jq_inc_i, jq_gs_t, jq_gsb_t, jq_gb_t, jq_gr_2, jq_gr_4, jq_gw_2, jq_s_t, jq_b_t, jg_c, jg_n, js_c, js_n, jrm_c, jrm_n, j2_i, j2_l, j2_a, jq_c_i, jq_c_l, jq_c_0, jq_c_n, jwd_le, jw_c0, mS_I, mS_R, mS_J, mN_I, mN_R, mN_J, mR_I, mI_R, mJ_I, mJ_R, mI_J, mR_J, ↓reduceIte, decide_true, or_true, true_or, and_self, false_or, or_false, reduceCtorEq, Bool.false_eq_true, and_false, false_and, eq_self, true_and, and_true, zero_ne, ↓br_lt_t, ↓br_lt_f, ↓br_eq_t, ↓br_eq_f, ↓br_lz_t, ↓br_lz_f, ↓br_ez_t, ↓br_ez_f, ↓br_gz_t, ↓br_gz_f, jw_id, jin_t, jix_t, s, h6]
  | succ m ih =>
    intro k w tl hk m0 h6 c9 ht
    have s := m0.s0
    have s9 := m0.s1
    have r5 := m0.r1
    obtain ⟨w2, hw2⟩ : ∃ w2, w2 = setI (setI w 239 (cnt + k) (ji_b (ji_b (ji_shr (gPk a b c d e k) (24 - 8 * ((k % 4 : Nat) : Int)))))) 238 6 ((cnt + (k + 1) : Nat) : Int) := ⟨_, rfl⟩
    have f2 : Fr (fun x => x = 238 ∨ x = 239) w w2 := by
      rw [hw2]
      exact (Fr.I (P := fun x => x = 238 ∨ x = 239) (Or.inr rfl)).tr (Fr.I (Or.inl rfl))
    have r2 : mR w2 = mR w := by rw [hw2]; rfl
    have i2 : ∀ j, j ≠ 6 → mI w2 238 j = mI w 238 j := fun j hj => by rw [hw2, mI_nk hj, mI_nb (by omega)]
    have i6 : mI w2 238 6 = ((cnt + (k + 1) : Nat) : Int) := by rw [hw2, mI_s]
    have i9 : ∀ j, j ≠ cnt + k → mI w2 239 j = mI w 239 j := fun j hj => by rw [hw2, mI_nb (by omega), mI_nk hj]
    have i90 : mI w2 239 (cnt + k) = ji_b (ji_b (ji_shr (gPk a b c d e k) (24 - 8 * ((k % 4 : Nat) : Int)))) := by rw [hw2, mI_nb (by omega), mI_s]
    have m2 := m0.frR f2.q r2
    obtain ⟨u, e1, b1, b2, b3, b4, b5, b6⟩ := ih (k + 1) w2 [(7, .inl (gPk a b c d e k))] (by omega) m2 i6 c9 (Or.inr ⟨_, rfl⟩)
    refine ⟨u, ?_, b1, fun j hj => (b2 j (by omega)).trans (i9 j (by omega)), fun j j1 j2 => ?_, f2.tr b4, b5.trans r2, fun j hj => (b6 j hj).trans (i2 j hj)⟩
    · have hv := t1p_js ht (gPk a b c d e k)
      have hix : jix (((cnt + k : Nat) : Int)) = cnt + k := by rw [jix_t (by omega) (by omega)]; exact Int.toNat_natCast _
      have tm := tm4 (k := k) (by omega)
      have tm2 : (k : Int).tmod 4 = ((k % 4 : Nat) : Int) := (Int.ofNat_tmod k 4).symm
      have e2 : ((k + 1 : Nat) : Int) = (k : Int) + 1 := by omega
      have e3 : ((cnt + k : Nat) : Int) + 1 = ((cnt + (k + 1) : Nat) : Int) := by omega
      rw [← e1, hw2, e2]
      have pk : gPk a b c d e k = if k < 4 then a else if k < 8 then b else if k < 12 then c else if k < 16 then d else e := rfl
      by_cases z1 : k < 4
      · rw [if_pos z1] at pk
        rw [pk] at hv ⊢
        rw [p174_23]
        simp (disch := omega) only [p174_0, p174_1, p174_2, p174_5, p174_6, p174_9, p174_11, p174_12, p174_15, p174_18, p174_19, p174_20, p174_21, p174_25, p174_27, p174_30, p174_32, p174_33, p174_36, p174_37, p174_40, p174_42, p174_44, p174_47, p174_48, p174_51, p174_53, p174_55, p174_58, p174_59, p174_62, p174_64, p174_66, p174_69, p174_71, p174_74, p174_76, p174_78, p174_79, p174_82, p174_83, p174_86, p174_88, p174_90, p174_92, p174_94, p174_95, p174_96, p174_97, p174_98, p174_99, p174_100, p174_101, p174_102i, p174_102a, p174_103, p174_106, p174_107, p174_108, p174_111, p174_114, p174_117, p174_118, p174_121, jwd_c, jwd_0, Nat.reduceLeDiff, Nat.reduceEqDiff, Nat.reduceAdd, Nat.reduceSub, Nat.reduceMul, Int.reduceAdd, Int.reduceSub, Int.reduceMul, Int.reduceNeg, Int.reduceEq, Int.reduceLT, Int.reduceLE, jq_ldi_i, jq_ldl_l, jq_lda_a, jq_inc_i, jq_gs_t, jq_gsb_t, jq_gb_t, jq_gr_2, jq_gr_4, jq_gw_2, jq_s_t, jq_b_t, jg_c, jg_n, js_c, js_n, jrm_c, jrm_n, j2_i, j2_l, j2_a, jq_c_i, jq_c_l, jq_c_0, jq_c_n, jwd_le, jw_c0, mS_I, mS_R, mS_J, mN_I, mN_R, mN_J, mR_I, mI_R, mJ_I, mJ_R, mI_J, mR_J, ↓reduceIte, decide_true, or_true, true_or, and_self, false_or, or_false, reduceCtorEq, Bool.false_eq_true, and_false, false_and, eq_self, true_and, and_true, zero_ne, ↓br_lt_t, ↓br_lt_f, ↓br_eq_t, ↓br_eq_f, ↓br_lz_t, ↓br_lz_f, ↓br_ez_t, ↓br_ez_f, ↓br_gz_t, ↓br_gz_f, jw_id, jin_t, jix_t, s, s9, r5, h6, hv, tm, tm2, Int.toNat_natCast, hix, mI_nb, e3]
      rw [if_neg z1] at pk
      by_cases z2 : k < 8
      · rw [if_pos z2] at pk
        rw [pk] at hv ⊢
        rw [p174_23]
        simp (disch := omega) only [p174_0, p174_1, p174_2, p174_5, p174_6, p174_9, p174_11, p174_12, p174_15, p174_18, p174_19, p174_20, p174_21, p174_25, p174_27, p174_30, p174_32, p174_33, p174_36, p174_37, p174_40, p174_42, p174_44, p174_47, p174_48, p174_51, p174_53, p174_55, p174_58, p174_59, p174_62, p174_64, p174_66, p174_69, p174_71, p174_74, p174_76, p174_78, p174_79, p174_82, p174_83, p174_86, p174_88, p174_90, p174_92, p174_94, p174_95, p174_96, p174_97, p174_98, p174_99, p174_100, p174_101, p174_102i, p174_102a, p174_103, p174_106, p174_107, p174_108, p174_111, p174_114, p174_117, p174_118, p174_121, jwd_c, jwd_0, Nat.reduceLeDiff, Nat.reduceEqDiff, Nat.reduceAdd, Nat.reduceSub, Nat.reduceMul, Int.reduceAdd, Int.reduceSub, Int.reduceMul, Int.reduceNeg, Int.reduceEq, Int.reduceLT, Int.reduceLE, jq_ldi_i, jq_ldl_l, jq_lda_a, jq_inc_i, jq_gs_t, jq_gsb_t, jq_gb_t, jq_gr_2, jq_gr_4, jq_gw_2, jq_s_t, jq_b_t, jg_c, jg_n, js_c, js_n, jrm_c, jrm_n, j2_i, j2_l, j2_a, jq_c_i, jq_c_l, jq_c_0, jq_c_n, jwd_le, jw_c0, mS_I, mS_R, mS_J, mN_I, mN_R, mN_J, mR_I, mI_R, mJ_I, mJ_R, mI_J, mR_J, ↓reduceIte, decide_true, or_true, true_or, and_self, false_or, or_false, reduceCtorEq, Bool.false_eq_true, and_false, false_and, eq_self, true_and, and_true, zero_ne, ↓br_lt_t, ↓br_lt_f, ↓br_eq_t, ↓br_eq_f, ↓br_lz_t, ↓br_lz_f, ↓br_ez_t, ↓br_ez_f, ↓br_gz_t, ↓br_gz_f, jw_id, jin_t, jix_t, s, s9, r5, h6, hv, tm, tm2, Int.toNat_natCast, hix, mI_nb, e3]
      rw [if_neg z2] at pk
      by_cases z3 : k < 12
      · rw [if_pos z3] at pk
        rw [pk] at hv ⊢
        rw [p174_23]
        simp (disch := omega) only [p174_0, p174_1, p174_2, p174_5, p174_6, p174_9, p174_11, p174_12, p174_15, p174_18, p174_19, p174_20, p174_21, p174_25, p174_27, p174_30, p174_32, p174_33, p174_36, p174_37, p174_40, p174_42, p174_44, p174_47, p174_48, p174_51, p174_53, p174_55, p174_58, p174_59, p174_62, p174_64, p174_66, p174_69, p174_71, p174_74, p174_76, p174_78, p174_79, p174_82, p174_83, p174_86, p174_88, p174_90, p174_92, p174_94, p174_95, p174_96, p174_97, p174_98, p174_99, p174_100, p174_101, p174_102i, p174_102a, p174_103, p174_106, p174_107, p174_108, p174_111, p174_114, p174_117, p174_118, p174_121, jwd_c, jwd_0, Nat.reduceLeDiff, Nat.reduceEqDiff, Nat.reduceAdd, Nat.reduceSub, Nat.reduceMul, Int.reduceAdd, Int.reduceSub, Int.reduceMul, Int.reduceNeg, Int.reduceEq, Int.reduceLT, Int.reduceLE, jq_ldi_i, jq_ldl_l, jq_lda_a, jq_inc_i, jq_gs_t, jq_gsb_t, jq_gb_t, jq_gr_2, jq_gr_4, jq_gw_2, jq_s_t, jq_b_t, jg_c, jg_n, js_c, js_n, jrm_c, jrm_n, j2_i, j2_l, j2_a, jq_c_i, jq_c_l, jq_c_0, jq_c_n, jwd_le, jw_c0, mS_I, mS_R, mS_J, mN_I, mN_R, mN_J, mR_I, mI_R, mJ_I, mJ_R, mI_J, mR_J, ↓reduceIte, decide_true, or_true, true_or, and_self, false_or, or_false, reduceCtorEq, Bool.false_eq_true, and_false, false_and, eq_self, true_and, and_true, zero_ne, ↓br_lt_t, ↓br_lt_f, ↓br_eq_t, ↓br_eq_f, ↓br_lz_t, ↓br_lz_f, ↓br_ez_t, ↓br_ez_f, ↓br_gz_t, ↓br_gz_f, jw_id, jin_t, jix_t, s, s9, r5, h6, hv, tm, tm2, Int.toNat_natCast, hix, mI_nb, e3]
      rw [if_neg z3] at pk
      by_cases z4 : k < 16
      · rw [if_pos z4] at pk
        rw [pk] at hv ⊢
        rw [p174_23]
        simp (disch := omega) only [p174_0, p174_1, p174_2, p174_5, p174_6, p174_9, p174_11, p174_12, p174_15, p174_18, p174_19, p174_20, p174_21, p174_25, p174_27, p174_30, p174_32, p174_33, p174_36, p174_37, p174_40, p174_42, p174_44, p174_47, p174_48, p174_51, p174_53, p174_55, p174_58, p174_59, p174_62, p174_64, p174_66, p174_69, p174_71, p174_74, p174_76, p174_78, p174_79, p174_82, p174_83, p174_86, p174_88, p174_90, p174_92, p174_94, p174_95, p174_96, p174_97, p174_98, p174_99, p174_100, p174_101, p174_102i, p174_102a, p174_103, p174_106, p174_107, p174_108, p174_111, p174_114, p174_117, p174_118, p174_121, jwd_c, jwd_0, Nat.reduceLeDiff, Nat.reduceEqDiff, Nat.reduceAdd, Nat.reduceSub, Nat.reduceMul, Int.reduceAdd, Int.reduceSub, Int.reduceMul, Int.reduceNeg, Int.reduceEq, Int.reduceLT, Int.reduceLE, jq_ldi_i, jq_ldl_l, jq_lda_a, jq_inc_i, jq_gs_t, jq_gsb_t, jq_gb_t, jq_gr_2, jq_gr_4, jq_gw_2, jq_s_t, jq_b_t, jg_c, jg_n, js_c, js_n, jrm_c, jrm_n, j2_i, j2_l, j2_a, jq_c_i, jq_c_l, jq_c_0, jq_c_n, jwd_le, jw_c0, mS_I, mS_R, mS_J, mN_I, mN_R, mN_J, mR_I, mI_R, mJ_I, mJ_R, mI_J, mR_J, ↓reduceIte, decide_true, or_true, true_or, and_self, false_or, or_false, reduceCtorEq, Bool.false_eq_true, and_false, false_and, eq_self, true_and, and_true, zero_ne, ↓br_lt_t, ↓br_lt_f, ↓br_eq_t, ↓br_eq_f, ↓br_lz_t, ↓br_lz_f, ↓br_ez_t, ↓br_ez_f, ↓br_gz_t, ↓br_gz_f, jw_id, jin_t, jix_t, s, s9, r5, h6, hv, tm, tm2, Int.toNat_natCast, hix, mI_nb, e3]
      rw [if_neg z4] at pk
      rw [pk] at hv ⊢
      rw [p174_23]
      simp (disch := omega) only [p174_0, p174_1, p174_2, p174_5, p174_6, p174_9, p174_11, p174_12, p174_15, p174_18, p174_19, p174_20, p174_21, p174_25, p174_27, p174_30, p174_32, p174_33, p174_36, p174_37, p174_40, p174_42, p174_44, p174_47, p174_48, p174_51, p174_53, p174_55, p174_58, p174_59, p174_62, p174_64, p174_66, p174_69, p174_71, p174_74, p174_76, p174_78, p174_79, p174_82, p174_83, p174_86, p174_88, p174_90, p174_92, p174_94, p174_95, p174_96, p174_97, p174_98, p174_99, p174_100, p174_101, p174_102i, p174_102a, p174_103, p174_106, p174_107, p174_108, p174_111, p174_114, p174_117, p174_118, p174_121, jwd_c, jwd_0, Nat.reduceLeDiff, Nat.reduceEqDiff, Nat.reduceAdd, Nat.reduceSub, Nat.reduceMul, Int.reduceAdd, Int.reduceSub, Int.reduceMul, Int.reduceNeg, Int.reduceEq, Int.reduceLT, Int.reduceLE, jq_ldi_i, jq_ldl_l, jq_lda_a, jq_inc_i, jq_gs_t, jq_gsb_t, jq_gb_t, jq_gr_2, jq_gr_4, jq_gw_2, jq_s_t, jq_b_t, jg_c, jg_n, js_c, js_n, jrm_c, jrm_n, j2_i, j2_l, j2_a, jq_c_i, jq_c_l, jq_c_0, jq_c_n, jwd_le, jw_c0, mS_I, mS_R, mS_J, mN_I, mN_R, mN_J, mR_I, mI_R, mJ_I, mJ_R, mI_J, mR_J, ↓reduceIte, decide_true, or_true, true_or, and_self, false_or, or_false, reduceCtorEq, Bool.false_eq_true, and_false, false_and, eq_self, true_and, and_true, zero_ne, ↓br_lt_t, ↓br_lt_f, ↓br_eq_t, ↓br_eq_f, ↓br_lz_t, ↓br_lz_f, ↓br_ez_t, ↓br_ez_f, ↓br_gz_t, ↓br_gz_f, jw_id, jin_t, jix_t, s, s9, r5, h6, hv, tm, tm2, Int.toNat_natCast, hix, mI_nb, e3]
    · by_cases z : j = k
      · subst z
        rw [b2 (cnt + j) (by omega), i90, ji_b_and, ji_b_and]
        exact shr_j _ (Nat.mod_lt _ (by decide))
      · exact b3 j (by omega) j2
theorem d_feed (m0 : MO w) (h6 : mI w 238 6 = cnt) (hc : cnt + 20 ≤ 900) (ht : ∀ k, k < cnt → ji_and (mI w 239 k) 255 = T k) : ∃ u, rn 174 (0, [(0, jvr 238), (1, .inl a), (2, .inl b), (3, .inl c), (4, .inl d), (5, .inl e)], [], w) = some (some (.inl ((cnt + 20 : Nat) : Int)), u) ∧ mI u 238 6 = ((cnt + 20 : Nat) : Int) ∧ (∀ k, k < cnt + 20 → ji_and (mI u 239 k) 255 = gFd T cnt a b c d e k) ∧ Fr (fun x => x = 238 ∨ x = 239) w u ∧ mR u = mR w ∧ ∀ j, j ≠ 0 → j ≠ 6 → mI u 238 j = mI w 238 j := by
  have s := m0.s0
  obtain ⟨u, e1, b1, b2, b3, b4, b5, b6⟩ := d_flp (cnt := cnt) (a := a) (b := b) (c := c) (d := d) (e := e) 20 0 (setI w 238 0 0) [] (by omega) (m0.frR rfl rfl) (by rw [mI_nk (by omega), h6]; rfl) hc (Or.inl rfl)
  refine ⟨u, ?_, b1, fun k hk => ?_, (Fr.I (Or.inl rfl)).tr b4, b5, fun j j1 j2 => (b6 j j2).trans (mI_nk j1)⟩
  · rw [← e1]
    have e0 : ((0 : Nat) : Int) = 0 := rfl
    rw [e0]
    simp (disch := omega) only [p174_0, p174_1, p174_2, p174_5, p174_6, p174_9, p174_11, p174_12, p174_15, p174_18, p174_19, p174_20, p174_21, jwd_c, jwd_0, Nat.reduceLeDiff, Nat.reduceEqDiff, Nat.reduceAdd, Nat.reduceSub, Nat.reduceMul, Int.reduceAdd, Int.reduceSub, Int.reduceMul, Int.reduceNeg, Int.reduceEq, Int.reduceLT, Int.reduceLE, jq_ldi_i, jq_ldl_l, jq_lda_a, jq_inc_i, jq_gs_t, jq_gsb_t, jq_gb_t, jq_gr_2, jq_gr_4, jq_gw_2, jq_s_t, jq_b_t, jg_c, jg_n, js_c, js_n, jrm_c, jrm_n, j2_i, j2_l, j2_a, jq_c_i, jq_c_l, jq_c_0, jq_c_n, jwd_le, jw_c0, mS_I, mS_R, mS_J, mN_I, mN_R, mN_J, mR_I, mI_R, mJ_I, mJ_R, mI_J, mR_J, ↓reduceIte, decide_true, or_true, true_or, and_self, false_or, or_false, reduceCtorEq, Bool.false_eq_true, and_false, false_and, eq_self, true_and, and_true, zero_ne, ↓br_lt_t, ↓br_lt_f, ↓br_eq_t, ↓br_eq_f, ↓br_lz_t, ↓br_lz_f, ↓br_ez_t, ↓br_ez_f, ↓br_gz_t, ↓br_gz_f, jw_id, jin_t, jix_t, s, mI_nk, h6]
  · unfold gFd
    by_cases z : k < cnt
    · rw [if_pos z, b2 k (by omega), mI_nb (by omega)]
      exact ht k z
    · rw [if_neg z]
      have := b3 (k - cnt) (by omega) (by omega)
      rw [show cnt + (k - cnt) = k by omega] at this
      exact this
end FEED
