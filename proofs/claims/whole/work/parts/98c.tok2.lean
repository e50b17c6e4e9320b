/-! The reader: tokens, in the model. -/
theorem mJ_s (w : jmW) (a k : Nat) (x : Int) : mJ (setJ w a k x) a k = x := if_pos ⟨rfl, rfl⟩
theorem mJ_nb {w : jmW} {a b k : Nat} {x : Int} (h : b ≠ a) : mJ (setJ w a k x) b = mJ w b := by
  funext j
  exact if_neg (fun z => h z.1)
theorem mJ_nk {w : jmW} {a k j : Nat} {x : Int} (h : j ≠ k) : mJ (setJ w a k x) a j = mJ w a j := if_neg (fun z => h z.2)
theorem Fr.J {P : Nat → Prop} {w : jmW} {a k : Nat} {x : Int} (h : P a) : Fr P w (setJ w a k x) := by
  refine ⟨rfl, rfl, rfl, fun b hb => ⟨rfl, rfl, ?_⟩⟩
  exact mJ_nb (fun z => hb (by rw [z]; exact h))
def tkP : Nat → Prop := fun b => b = 238 ∨ b = 240
def MTp (w : jmW) (T : Nat → Int) (n : Nat) : Prop := mS w 238 = (1, 9, 0) ∧ mS w 239 = (2, 1, 900) ∧ mS w 240 = (2, 0, 8) ∧ mR w 238 5 = some 239 ∧ mR w 238 16 = some 240 ∧ mI w 238 7 = n ∧ n ≤ 900 ∧ (∀ k, k < n → ji_and (mI w 239 k) 255 = T k) ∧ (∀ k, k < n → 0 ≤ T k ∧ T k ≤ 255)
/-- what reading a token changes -/
def Ftk (w u : jmW) : Prop := Fr tkP w u ∧ mR u = mR w ∧ ∀ k, (k < 8 ∨ 16 ≤ k) → mI u 238 k = mI w 238 k
def gMk (t : Int) : Int := if t = 1 then 2 else if t = 2 then 3 else if t = 5 then 1 else if t = 0 then 0 else 4
def gMg (t : Int) : Int := if t = 3 then 59 else if t = 4 then 44 else 0
/-- the token from p on is the one that is there, in the model -/
def MK (w : jmW) (T : Nat → Int) (n p : Nat) : Prop := p ≤ n ∧ (tK T n p ≠ 0 → mI w 238 8 = tE T n p) ∧ mI w 238 9 = gMk (tK T n p) ∧ mI w 238 10 = tS T n p ∧ mI w 238 11 = gMg (tK T n p) ∧ (tK T n p = 2 → mI w 238 12 = tN T n p) ∧ (tK T n p = 1 → mI w 238 13 = ((tE T n p - tS T n p : Nat) : Int) ∧ mJ w 238 17 = tW T n p ∧ ∀ k, k < tE T n p - tS T n p → mI w 240 k = T (tS T n p + k)) ∧ mI w 238 14 = 0
section TOKM
variable {w u v : jmW} {T : Nat → Int} {n : Nat}
theorem Ftk.rf : Ftk w w := ⟨Fr.rf _ _, rfl, fun _ _ => rfl⟩
theorem Ftk.tr (h : Ftk w u) (g : Ftk u v) : Ftk w v := ⟨h.1.tr g.1, g.2.1.trans h.2.1, fun k hk => (g.2.2 k hk).trans (h.2.2 k hk)⟩
theorem Ftk.I {k : Nat} {x : Int} (h : 8 ≤ k ∧ k < 16) : Ftk w (setI w 238 k x) := ⟨Fr.I (Or.inl rfl), rfl, fun j hj => mI_nk (by omega)⟩
theorem Ftk.S {k : Nat} {x : Int} : Ftk w (setI w 240 k x) := ⟨Fr.I (Or.inr rfl), rfl, fun j hj => by rw [mI_nb (by omega)]⟩
theorem Ftk.J {x : Int} : Ftk w (setJ w 238 17 x) := ⟨Fr.J (Or.inl rfl), rfl, fun j hj => rfl⟩
theorem MTp.fr (t : MTp w T n) (f : Ftk w u) : MTp u T n := by
  obtain ⟨t1, t2, t3, t4, t5, t6, t7, t8, t9⟩ := t
  have i := f.1.Iq (b := 239) (by unfold tkP; omega)
  have q := f.1.q
  exact ⟨by rw [q]; exact t1, by rw [q]; exact t2, by rw [q]; exact t3, by rw [f.2.1]; exact t4, by rw [f.2.1]; exact t5, by rw [f.2.2 7 (by omega)]; exact t6, t7, by rw [i]; exact t8, t9⟩
theorem m_byte (t : MTp w T n) {k : Nat} (hk : k ≤ 900) : rn 179 (0, [(0, jvr 238), (1, .inl (k : Int))], [], w) = some (some (.inl (if k < n then T k else -1)), w) := by
  obtain ⟨t1, t2, t3, t4, t5, t6, t7, t8, t9⟩ := t
  by_cases z : k < n
  · have e := t8 k z
    rw [if_pos z]
    simp (disch := omega) only [p179_0, p179_1, p179_2, p179_5, p179_8, p179_9, p179_12, p179_13, p179_14, p179_17, p179_18, p179_21, p179_22, jwd_c, jwd_0, Nat.reduceLeDiff, Nat.reduceEqDiff, Nat.reduceAdd, Nat.reduceSub, Nat.reduceMul, Int.reduceAdd, Int.reduceSub, Int.reduceMul, Int.reduceNeg, Int.reduceEq, Int.reduceLT, Int.reduceLE, jq_ldi_i, jq_ldl_l, jq_lda_a, jq_inc_i, jq_gs_t, jq_gsb_t, jq_gb_t, jq_gr_2, jq_gr_4, jq_gw_2, jq_s_t, jq_b_t, jg_c, jg_n, js_c, js_n, jrm_c, jrm_n, j2_i, j2_l, j2_a, jq_c_i, jq_c_l, jq_c_0, jq_c_n, jwd_le, jw_c0, mS_I, mS_R, mS_J, mN_I, mN_R, mN_J, mR_I, mI_R, mJ_I, mJ_R, mI_J, mR_J, ↓reduceIte, decide_true, or_true, true_or, and_self, false_or, or_false, reduceCtorEq, Bool.false_eq_true, and_false, false_and, eq_self, true_and, and_true, zero_ne, ↓br_lt_t, ↓br_lt_f, ↓br_eq_t, ↓br_eq_f, ↓br_lz_t, ↓br_lz_f, ↓br_ez_t, ↓br_ez_f, ↓br_gz_t, ↓br_gz_f, jw_id, jin_t, jix_t, ↓ite_t, ↓ite_f, t1, t2, t4, t6, Int.toNat_natCast, e]
  · rw [if_neg z]
    simp (disch := omega) only [p179_0, p179_1, p179_2, p179_5, p179_8, p179_9, p179_12, p179_13, p179_14, p179_17, p179_18, p179_21, p179_22, jwd_c, jwd_0, Nat.reduceLeDiff, Nat.reduceEqDiff, Nat.reduceAdd, Nat.reduceSub, Nat.reduceMul, Int.reduceAdd, Int.reduceSub, Int.reduceMul, Int.reduceNeg, Int.reduceEq, Int.reduceLT, Int.reduceLE, jq_ldi_i, jq_ldl_l, jq_lda_a, jq_inc_i, jq_gs_t, jq_gsb_t, jq_gb_t, jq_gr_2, jq_gr_4, jq_gw_2, jq_s_t, jq_b_t, jg_c, jg_n, js_c, js_n, jrm_c, jrm_n, j2_i, j2_l, j2_a, jq_c_i, jq_c_l, jq_c_0, jq_c_n, jwd_le, jw_c0, mS_I, mS_R, mS_J, mN_I, mN_R, mN_J, mR_I, mI_R, mJ_I, mJ_R, mI_J, mR_J, ↓reduceIte, decide_true, or_true, true_or, and_self, false_or, or_false, reduceCtorEq, Bool.false_eq_true, and_false, false_and, eq_self, true_and, and_true, zero_ne, ↓br_lt_t, ↓br_lt_f, ↓br_eq_t, ↓br_eq_f, ↓br_lz_t, ↓br_lz_f, ↓br_ez_t, ↓br_ez_f, ↓br_gz_t, ↓br_gz_f, jw_id, jin_t, jix_t, ↓ite_t, ↓ite_f, t1, t2, t4, t6]
theorem m_let {b : Int} (h1 : -1 ≤ b) (h2 : b ≤ 255) : rn 180 (0, [(0, .inl b)], [], w) = some (some (.inl (if 97 ≤ b ∧ b ≤ 122 then 1 else 0)), w) := by
  by_cases a : 97 ≤ b
  · by_cases c : b ≤ 122
    · rw [if_pos ⟨a, c⟩]
      simp (disch := omega) only [p180_0, p180_1, p180_3, p180_6, p180_7, p180_9, p180_12, p180_13, p180_16, p180_17, jwd_c, jwd_0, Nat.reduceLeDiff, Nat.reduceEqDiff, Nat.reduceAdd, Nat.reduceSub, Nat.reduceMul, Int.reduceAdd, Int.reduceSub, Int.reduceMul, Int.reduceNeg, Int.reduceEq, Int.reduceLT, Int.reduceLE, jq_ldi_i, jq_ldl_l, jq_lda_a, jq_inc_i, jq_gs_t, jq_gsb_t, jq_gb_t, jq_gr_2, jq_gr_4, jq_gw_2, jq_s_t, jq_b_t, jg_c, jg_n, js_c, js_n, jrm_c, jrm_n, j2_i, j2_l, j2_a, jq_c_i, jq_c_l, jq_c_0, jq_c_n, jwd_le, jw_c0, mS_I, mS_R, mS_J, mN_I, mN_R, mN_J, mR_I, mI_R, mJ_I, mJ_R, mI_J, mR_J, ↓reduceIte, decide_true, or_true, true_or, and_self, false_or, or_false, reduceCtorEq, Bool.false_eq_true, and_false, false_and, eq_self, true_and, and_true, zero_ne, ↓br_lt_t, ↓br_lt_f, ↓br_eq_t, ↓br_eq_f, ↓br_lz_t, ↓br_lz_f, ↓br_ez_t, ↓br_ez_f, ↓br_gz_t, ↓br_gz_f, jw_id, jin_t, jix_t, ↓ite_t, ↓ite_f]
    · rw [if_neg (fun z => c z.2)]
      simp (disch := omega) only [p180_0, p180_1, p180_3, p180_6, p180_7, p180_9, p180_12, p180_13, p180_16, p180_17, jwd_c, jwd_0, Nat.reduceLeDiff, Nat.reduceEqDiff, Nat.reduceAdd, Nat.reduceSub, Nat.reduceMul, Int.reduceAdd, Int.reduceSub, Int.reduceMul, Int.reduceNeg, Int.reduceEq, Int.reduceLT, Int.reduceLE, jq_ldi_i, jq_ldl_l, jq_lda_a, jq_inc_i, jq_gs_t, jq_gsb_t, jq_gb_t, jq_gr_2, jq_gr_4, jq_gw_2, jq_s_t, jq_b_t, jg_c, jg_n, js_c, js_n, jrm_c, jrm_n, j2_i, j2_l, j2_a, jq_c_i, jq_c_l, jq_c_0, jq_c_n, jwd_le, jw_c0, mS_I, mS_R, mS_J, mN_I, mN_R, mN_J, mR_I, mI_R, mJ_I, mJ_R, mI_J, mR_J, ↓reduceIte, decide_true, or_true, true_or, and_self, false_or, or_false, reduceCtorEq, Bool.false_eq_true, and_false, false_and, eq_self, true_and, and_true, zero_ne, ↓br_lt_t, ↓br_lt_f, ↓br_eq_t, ↓br_eq_f, ↓br_lz_t, ↓br_lz_f, ↓br_ez_t, ↓br_ez_f, ↓br_gz_t, ↓br_gz_f, jw_id, jin_t, jix_t, ↓ite_t, ↓ite_f]
  · rw [if_neg (fun z => a z.1)]
    simp (disch := omega) only [p180_0, p180_1, p180_3, p180_6, p180_7, p180_9, p180_12, p180_13, p180_16, p180_17, jwd_c, jwd_0, Nat.reduceLeDiff, Nat.reduceEqDiff, Nat.reduceAdd, Nat.reduceSub, Nat.reduceMul, Int.reduceAdd, Int.reduceSub, Int.reduceMul, Int.reduceNeg, Int.reduceEq, Int.reduceLT, Int.reduceLE, jq_ldi_i, jq_ldl_l, jq_lda_a, jq_inc_i, jq_gs_t, jq_gsb_t, jq_gb_t, jq_gr_2, jq_gr_4, jq_gw_2, jq_s_t, jq_b_t, jg_c, jg_n, js_c, js_n, jrm_c, jrm_n, j2_i, j2_l, j2_a, jq_c_i, jq_c_l, jq_c_0, jq_c_n, jwd_le, jw_c0, mS_I, mS_R, mS_J, mN_I, mN_R, mN_J, mR_I, mI_R, mJ_I, mJ_R, mI_J, mR_J, ↓reduceIte, decide_true, or_true, true_or, and_self, false_or, or_false, reduceCtorEq, Bool.false_eq_true, and_false, false_and, eq_self, true_and, and_true, zero_ne, ↓br_lt_t, ↓br_lt_f, ↓br_eq_t, ↓br_eq_f, ↓br_lz_t, ↓br_lz_f, ↓br_ez_t, ↓br_ez_f, ↓br_gz_t, ↓br_gz_f, jw_id, jin_t, jix_t, ↓ite_t, ↓ite_f]
theorem m_dig {b : Int} (h1 : -1 ≤ b) (h2 : b ≤ 255) : rn 181 (0, [(0, .inl b)], [], w) = some (some (.inl (if 48 ≤ b ∧ b ≤ 57 then 1 else 0)), w) := by
  by_cases a : 48 ≤ b
  · by_cases c : b ≤ 57
    · rw [if_pos ⟨a, c⟩]
      simp (disch := omega) only [p181_0, p181_1, p181_3, p181_6, p181_7, p181_9, p181_12, p181_13, p181_16, p181_17, jwd_c, jwd_0, Nat.reduceLeDiff, Nat.reduceEqDiff, Nat.reduceAdd, Nat.reduceSub, Nat.reduceMul, Int.reduceAdd, Int.reduceSub, Int.reduceMul, Int.reduceNeg, Int.reduceEq, Int.reduceLT, Int.reduceLE, jq_ldi_i, jq_ldl_l, jq_lda_a, jq_inc_i, jq_gs_t, jq_gsb_t, jq_gb_t, jq_gr_2, jq_gr_4, jq_gw_2, jq_s_t, jq_b_t, jg_c, jg_n, js_c, js_n, jrm_c, jrm_n, j2_i, j2_l, j2_a, jq_c_i, jq_c_l, jq_c_0, jq_c_n, jwd_le, jw_c0, mS_I, mS_R, mS_J, mN_I, mN_R, mN_J, mR_I, mI_R, mJ_I, mJ_R, mI_J, mR_J, ↓reduceIte, decide_true, or_true, true_or, and_self, false_or, or_false, reduceCtorEq, Bool.false_eq_true, and_false, false_and, eq_self, true_and, and_true, zero_ne, ↓br_lt_t, ↓br_lt_f, ↓br_eq_t, ↓br_eq_f, ↓br_lz_t, ↓br_lz_f, ↓br_ez_t, ↓br_ez_f, ↓br_gz_t, ↓br_gz_f, jw_id, jin_t, jix_t, ↓ite_t, ↓ite_f]
    · rw [if_neg (fun z => c z.2)]
      simp (disch := omega) only [p181_0, p181_1, p181_3, p181_6, p181_7, p181_9, p181_12, p181_13, p181_16, p181_17, jwd_c, jwd_0, Nat.reduceLeDiff, Nat.reduceEqDiff, Nat.reduceAdd, Nat.reduceSub, Nat.reduceMul, Int.reduceAdd, Int.reduceSub, Int.reduceMul, Int.reduceNeg, Int.reduceEq, Int.reduceLT, Int.reduceLE, jq_ldi_i, jq_ldl_l, jq_lda_a, jq_inc_i, jq_gs_t, jq_gsb_t, jq_gb_t, jq_gr_2, jq_gr_4, jq_gw_2, jq_s_t, jq_b_t, jg_c, jg_n, js_c, js_n, jrm_c, jrm_n, j2_i, j2_l, j2_a, jq_c_i, jq_c_l, jq_c_0, jq_c_n, jwd_le, jw_c0, mS_I, mS_R, mS_J, mN_I, mN_R, mN_J, mR_I, mI_R, mJ_I, mJ_R, mI_J, mR_J, ↓reduceIte, decide_true, or_true, true_or, and_self, false_or, or_false, reduceCtorEq, Bool.false_eq_true, and_false, false_and, eq_self, true_and, and_true, zero_ne, ↓br_lt_t, ↓br_lt_f, ↓br_eq_t, ↓br_eq_f, ↓br_lz_t, ↓br_lz_f, ↓br_ez_t, ↓br_ez_f, ↓br_gz_t, ↓br_gz_f, jw_id, jin_t, jix_t, ↓ite_t, ↓ite_f]
  · rw [if_neg (fun z => a z.1)]
    simp (disch := omega) only [p181_0, p181_1, p181_3, p181_6, p181_7, p181_9, p181_12, p181_13, p181_16, p181_17, jwd_c, jwd_0, Nat.reduceLeDiff, Nat.reduceEqDiff, Nat.reduceAdd, Nat.reduceSub, Nat.reduceMul, Int.reduceAdd, Int.reduceSub, Int.reduceMul, Int.reduceNeg, Int.reduceEq, Int.reduceLT, Int.reduceLE, jq_ldi_i, jq_ldl_l, jq_lda_a, jq_inc_i, jq_gs_t, jq_gsb_t, jq_gb_t, jq_gr_2, jq_gr_4, jq_gw_2, jq_s_t, jq_b_t, jg_c, jg_n, js_c, js_n, jrm_c, jrm_n, j2_i, j2_l, j2_a, jq_c_i, jq_c_l, jq_c_0, jq_c_n, jwd_le, jw_c0, mS_I, mS_R, mS_J, mN_I, mN_R, mN_J, mR_I, mI_R, mJ_I, mJ_R, mI_J, mR_J, ↓reduceIte, decide_true, or_true, true_or, and_self, false_or, or_false, reduceCtorEq, Bool.false_eq_true, and_false, false_and, eq_self, true_and, and_true, zero_ne, ↓br_lt_t, ↓br_lt_f, ↓br_eq_t, ↓br_eq_f, ↓br_lz_t, ↓br_lz_f, ↓br_ez_t, ↓br_ez_f, ↓br_gz_t, ↓br_gz_f, jw_id, jin_t, jix_t, ↓ite_t, ↓ite_f]
theorem so_2 {b : Int} (h : gSo b = 2) : 48 ≤ b ∧ b ≤ 57 := by
  unfold gSo at h
  (repeat' split at h) <;> omega
theorem so_l {b : Int} : (97 ≤ b ∧ b ≤ 122) ↔ gSo b = 1 := by
  constructor
  · intro h
    unfold gSo
    rw [if_pos h]
  · exact so_1
theorem so_d {b : Int} : (48 ≤ b ∧ b ≤ 57) ↔ gSo b = 2 := by
  constructor
  · intro h
    unfold gSo
    rw [if_neg (by omega), if_pos h]
  · exact so_2
theorem mg1 : ∀ (m p : Nat) (w : jmW), MTp w T n → mI w 238 8 = p → p + m = n → rn 178 (9, [(0, jvr 238)], [], w) = rn 178 (35, [(0, jvr 238)], [], setI w 238 8 (gSk T m p)) := by
  intro m
  induction m with
  | zero =>
    intro p w t h8 hp
    have hn := t.2.2.2.2.2.2.1
    have e1 := m_byte t (k := p) (by omega)
    rw [if_neg (by omega)] at e1
    have e : gSk T 0 p = p := rfl
    have e2 : setI w 238 8 (p : Int) = w := by
      rw [← h8, setI_A, up1_id rfl, setA_self]
    rw [e, e2, p178_9]
    simp (disch := omega) only [p178_0, p178_1, p178_4, p178_5, p178_8, p178_10, p178_11, p178_14, p178_17, p178_19, p178_22, p178_23i, p178_23a, p178_24, p178_27, p178_28, p178_29, p178_32, p178_36, p178_37, p178_40, p178_43, p178_44, p178_45, p178_48, p178_49, p178_50, p178_53, p178_54, p178_55, p178_58, p178_61, p178_62, p178_63, p178_64, p178_65, p178_66, p178_69, p178_70, p178_71, p178_74, p178_77, p178_78, p178_81, p178_84, p178_85, p178_86, p178_89, p178_90, p178_91, p178_94, p178_97, p178_100, p178_103, p178_104, p178_106, p178_109, p178_110, p178_113, p178_114, p178_115, p178_116, p178_119, p178_122, p178_123, p178_124, p178_127, p178_128, p178_131, p178_132, p178_133, p178_136, p178_137, p178_138, p178_140, p178_141, p178_142, p178_143, p178_144, p178_145, p178_148, p178_151, p178_152i, p178_152a, p178_153, p178_156, p178_157, p178_158, p178_161, p178_164, p178_165, p178_166, p178_169, p178_170, p178_172, p178_175, p178_176, p178_177, p178_180, p178_183, p178_184, p178_187, p178_190, p178_191, p178_192, p178_195, p178_196, p178_197, p178_200, p178_203, p178_206, p178_209, p178_210, p178_211, p178_214, p178_215, p178_217, p178_218, p178_221, p178_222, p178_223, p178_224, p178_227, p178_230, p178_231, p178_233, p178_234, p178_237, p178_240, p178_241i, p178_241a, p178_242, p178_245, p178_246, p178_247, p178_250, p178_253, p178_254, p178_255, p178_258, p178_259, p178_260, p178_263, p178_266, p178_267, p178_269, p178_272, p178_273, p178_275, p178_278, p178_279, p178_280, p178_283, p178_284, p178_285, p178_288, p178_289i, p178_289a, p178_290, p178_293, p178_294, p178_295, p178_298, jwd_c, jwd_0, Nat.reduceLeDiff, Nat.reduceEqDiff, Nat.reduceAdd, Nat.reduceSub, Nat.reduceMul, Int.reduceAdd, Int.reduceSub, Int.reduceMul, Int.reduceNeg, Int.reduceEq, Int.reduceLT, Int.reduceLE, jq_ldi_i, jq_ldl_l, jq_lda_a, jq_inc_i, jq_gs_t, jq_gsb_t, jq_gb_t, jq_gr_2, jq_gr_4, jq_gw_2, jq_s_t, jq_b_t, jg_c, jg_n, js_c, js_n, jrm_c, jrm_n, j2_i, j2_l, j2_a, jq_c_i, jq_c_l, jq_c_0, jq_c_n, jwd_le, jw_c0, mS_I, mS_R, mS_J, mN_I, mN_R, mN_J, mR_I, mI_R, mJ_I, mJ_R, mI_J, mR_J, ↓reduceIte, decide_true, or_true, true_or, and_self, false_or, or_false, reduceCtorEq, Bool.false_eq_true, and_false, false_and, eq_self, true_and, and_true, zero_ne, ↓br_lt_t, ↓br_lt_f, ↓br_eq_t, ↓br_eq_f, ↓br_lz_t, ↓br_lz_f, ↓br_ez_t, ↓br_ez_f, ↓br_gz_t, ↓br_gz_f, jw_id, jin_t, jix_t, ↓ite_t, ↓ite_f, t.1, h8, e1]
  | succ m ih =>
    intro p w t h8 hp
    have hn := t.2.2.2.2.2.2.1
    have e1 := m_byte t (k := p) (by omega)
    rw [if_pos (by omega)] at e1
    have tb := t.2.2.2.2.2.2.2.2 p (by omega)
    have e : gSk T (m + 1) p = if T p = 32 then gSk T m (p + 1) else p := rfl
    rw [e]
    by_cases z : T p = 32
    · rw [if_pos z]
      rw [z] at e1
      have i := ih (p + 1) (setI w 238 8 ((p : Int) + 1)) (t.fr (Ftk.I (by omega))) (by rw [mI_s]; omega) (by omega)
      have e2 : setI (setI w 238 8 ((p : Int) + 1)) 238 8 (gSk T m (p + 1)) = setI w 238 8 (gSk T m (p + 1)) := by
        rw [setI_A, setI_A, mI_A, setA_A, up1_up1, setI_A]
      rw [e2] at i
      rw [← i, p178_9]
      simp (disch := omega) only [p178_0, p178_1, p178_4, p178_5, p178_8, p178_10, p178_11, p178_14, p178_17, p178_19, p178_22, p178_23i, p178_23a, p178_24, p178_27, p178_28, p178_29, p178_32, p178_36, p178_37, p178_40, p178_43, p178_44, p178_45, p178_48, p178_49, p178_50, p178_53, p178_54, p178_55, p178_58, p178_61, p178_62, p178_63, p178_64, p178_65, p178_66, p178_69, p178_70, p178_71, p178_74, p178_77, p178_78, p178_81, p178_84, p178_85, p178_86, p178_89, p178_90, p178_91, p178_94, p178_97, p178_100, p178_103, p178_104, p178_106, p178_109, p178_110, p178_113, p178_114, p178_115, p178_116, p178_119, p178_122, p178_123, p178_124, p178_127, p178_128, p178_131, p178_132, p178_133, p178_136, p178_137, p178_138, p178_140, p178_141, p178_142, p178_143, p178_144, p178_145, p178_148, p178_151, p178_152i, p178_152a, p178_153, p178_156, p178_157, p178_158, p178_161, p178_164, p178_165, p178_166, p178_169, p178_170, p178_172, p178_175, p178_176, p178_177, p178_180, p178_183, p178_184, p178_187, p178_190, p178_191, p178_192, p178_195, p178_196, p178_197, p178_200, p178_203, p178_206, p178_209, p178_210, p178_211, p178_214, p178_215, p178_217, p178_218, p178_221, p178_222, p178_223, p178_224, p178_227, p178_230, p178_231, p178_233, p178_234, p178_237, p178_240, p178_241i, p178_241a, p178_242, p178_245, p178_246, p178_247, p178_250, p178_253, p178_254, p178_255, p178_258, p178_259, p178_260, p178_263, p178_266, p178_267, p178_269, p178_272, p178_273, p178_275, p178_278, p178_279, p178_280, p178_283, p178_284, p178_285, p178_288, p178_289i, p178_289a, p178_290, p178_293, p178_294, p178_295, p178_298, jwd_c, jwd_0, Nat.reduceLeDiff, Nat.reduceEqDiff, Nat.reduceAdd, Nat.reduceSub, Nat.reduceMul, Int.reduceAdd, Int.reduceSub, Int.reduceMul, Int.reduceNeg, Int.reduceEq, Int.reduceLT, Int.reduceLE, jq_ldi_i, jq_ldl_l, jq_lda_a, jq_inc_i, jq_gs_t, jq_gsb_t, jq_gb_t, jq_gr_2, jq_gr_4, jq_gw_2, jq_s_t, jq_b_t, jg_c, jg_n, js_c, js_n, jrm_c, jrm_n, j2_i, j2_l, j2_a, jq_c_i, jq_c_l, jq_c_0, jq_c_n, jwd_le, jw_c0, mS_I, mS_R, mS_J, mN_I, mN_R, mN_J, mR_I, mI_R, mJ_I, mJ_R, mI_J, mR_J, ↓reduceIte, decide_true, or_true, true_or, and_self, false_or, or_false, reduceCtorEq, Bool.false_eq_true, and_false, false_and, eq_self, true_and, and_true, zero_ne, ↓br_lt_t, ↓br_lt_f, ↓br_eq_t, ↓br_eq_f, ↓br_lz_t, ↓br_lz_f, ↓br_ez_t, ↓br_ez_f, ↓br_gz_t, ↓br_gz_f, jw_id, jin_t, jix_t, ↓ite_t, ↓ite_f, t.1, h8, e1]
    · rw [if_neg z]
      have e2 : setI w 238 8 (p : Int) = w := by
        rw [← h8, setI_A, up1_id rfl, setA_self]
      rw [e2, p178_9]
      simp (disch := omega) only [p178_0, p178_1, p178_4, p178_5, p178_8, p178_10, p178_11, p178_14, p178_17, p178_19, p178_22, p178_23i, p178_23a, p178_24, p178_27, p178_28, p178_29, p178_32, p178_36, p178_37, p178_40, p178_43, p178_44, p178_45, p178_48, p178_49, p178_50, p178_53, p178_54, p178_55, p178_58, p178_61, p178_62, p178_63, p178_64, p178_65, p178_66, p178_69, p178_70, p178_71, p178_74, p178_77, p178_78, p178_81, p178_84, p178_85, p178_86, p178_89, p178_90, p178_91, p178_94, p178_97, p178_100, p178_103, p178_104, p178_106, p178_109, p178_110, p178_113, p178_114, p178_115, p178_116, p178_119, p178_122, p178_123, p178_124, p178_127, p178_128, p178_131, p178_132, p178_133, p178_136, p178_137, p178_138, p178_140, p178_141, p178_142, p178_143, p178_144, p178_145, p178_148, p178_151, p178_152i, p178_152a, p178_153, p178_156, p178_157, p178_158, p178_161, p178_164, p178_165, p178_166, p178_169, p178_170, p178_172, p178_175, p178_176, p178_177, p178_180, p178_183, p178_184, p178_187, p178_190, p178_191, p178_192, p178_195, p178_196, p178_197, p178_200, p178_203, p178_206, p178_209, p178_210, p178_211, p178_214, p178_215, p178_217, p178_218, p178_221, p178_222, p178_223, p178_224, p178_227, p178_230, p178_231, p178_233, p178_234, p178_237, p178_240, p178_241i, p178_241a, p178_242, p178_245, p178_246, p178_247, p178_250, p178_253, p178_254, p178_255, p178_258, p178_259, p178_260, p178_263, p178_266, p178_267, p178_269, p178_272, p178_273, p178_275, p178_278, p178_279, p178_280, p178_283, p178_284, p178_285, p178_288, p178_289i, p178_289a, p178_290, p178_293, p178_294, p178_295, p178_298, jwd_c, jwd_0, Nat.reduceLeDiff, Nat.reduceEqDiff, Nat.reduceAdd, Nat.reduceSub, Nat.reduceMul, Int.reduceAdd, Int.reduceSub, Int.reduceMul, Int.reduceNeg, Int.reduceEq, Int.reduceLT, Int.reduceLE, jq_ldi_i, jq_ldl_l, jq_lda_a, jq_inc_i, jq_gs_t, jq_gsb_t, jq_gb_t, jq_gr_2, jq_gr_4, jq_gw_2, jq_s_t, jq_b_t, jg_c, jg_n, js_c, js_n, jrm_c, jrm_n, j2_i, j2_l, j2_a, jq_c_i, jq_c_l, jq_c_0, jq_c_n, jwd_le, jw_c0, mS_I, mS_R, mS_J, mN_I, mN_R, mN_J, mR_I, mI_R, mJ_I, mJ_R, mI_J, mR_J, ↓reduceIte, decide_true, or_true, true_or, and_self, false_or, or_false, reduceCtorEq, Bool.false_eq_true, and_false, false_and, eq_self, true_and, and_true, zero_ne, ↓br_lt_t, ↓br_lt_f, ↓br_eq_t, ↓br_eq_f, ↓br_lz_t, ↓br_lz_f, ↓br_ez_t, ↓br_ez_f, ↓br_gz_t, ↓br_gz_f, jw_id, jin_t, jix_t, ↓ite_t, ↓ite_f, t.1, h8, e1]
theorem cw_bd {f : Nat → Int} : ∀ m : Nat, m ≤ 8 → (∀ k, k < m → 97 ≤ f k ∧ f k ≤ 122) → 0 ≤ gCw f m ∧ gCw f m < 32 ^ m := by
  intro m
  induction m with
  | zero =>
    intro h1 h2
    have e0 : gCw f 0 = 0 := rfl
    rw [e0]
    exact ⟨Int.le_refl _, by decide⟩
  | succ m ih =>
    intro h1 h2
    have e : gCw f (m + 1) = 32 * gCw f m + (f m - 97 + 1) := rfl
    have i := ih (by omega) (fun k hk => h2 k (by omega))
    have b := h2 m (by omega)
    have p : (32 : Int) ^ (m + 1) = 32 ^ m * 32 := Int.pow_succ _ _
    rw [p]
    generalize (32 : Int) ^ m = q at *
    omega
theorem mg2 {s : Nat} {c : Int} : ∀ (m e : Nat) (w : jmW), MTp w T n → mI w 238 8 = e → s ≤ e → e + m = n → mJ w 238 17 = gCw (fun k => T (s + k)) (min (e - s) 8) → (∀ k, k < min (e - s) 8 → mI w 240 k = T (s + k)) → (∀ k, s ≤ k → k < e → gSo (T k) = 1) → ∃ u, rn 178 (89, [(0, jvr 238), (1, .inl c), (2, .inl ((e - s : Nat) : Int))], [], w) = rn 178 (164, [(0, jvr 238), (1, .inl c), (2, .inl ((gEd T 1 m e - s : Nat) : Int))], [], u) ∧ MTp u T n ∧ mI u 238 8 = gEd T 1 m e ∧ mJ u 238 17 = gCw (fun k => T (s + k)) (min (gEd T 1 m e - s) 8) ∧ (∀ k, k < min (gEd T 1 m e - s) 8 → mI u 240 k = T (s + k)) ∧ Ftk w u ∧ (∀ k, k ≠ 8 → mI u 238 k = mI w 238 k) := by
  intro m
  induction m with
  | zero =>
    intro e w t h8 hs he hJ hk hl
    have hn := t.2.2.2.2.2.2.1
    have e1 := m_byte t (k := e) (by omega)
    rw [if_neg (by omega)] at e1
    have e2 := m_let (w := w) (b := -1) (by omega) (by omega)
    rw [if_neg (by omega)] at e2
    have ee : gEd T 1 0 e = e := rfl
    rw [ee]
    refine ⟨w, ?_, t, h8, hJ, hk, Ftk.rf, fun k hk => rfl⟩
    rw [p178_89]
    simp (disch := omega) only [p178_0, p178_1, p178_4, p178_5, p178_8, p178_10, p178_11, p178_14, p178_17, p178_19, p178_22, p178_23i, p178_23a, p178_24, p178_27, p178_28, p178_29, p178_32, p178_36, p178_37, p178_40, p178_43, p178_44, p178_45, p178_48, p178_49, p178_50, p178_53, p178_54, p178_55, p178_58, p178_61, p178_62, p178_63, p178_64, p178_65, p178_66, p178_69, p178_70, p178_71, p178_74, p178_77, p178_78, p178_81, p178_84, p178_85, p178_86, p178_90, p178_91, p178_94, p178_97, p178_100, p178_103, p178_104, p178_106, p178_109, p178_110, p178_113, p178_114, p178_115, p178_116, p178_119, p178_122, p178_123, p178_124, p178_127, p178_128, p178_131, p178_132, p178_133, p178_136, p178_137, p178_138, p178_140, p178_141, p178_142, p178_143, p178_144, p178_145, p178_148, p178_151, p178_152i, p178_152a, p178_153, p178_156, p178_157, p178_158, p178_161, p178_165, p178_166, p178_169, p178_170, p178_172, p178_175, p178_176, p178_177, p178_180, p178_183, p178_184, p178_187, p178_190, p178_191, p178_192, p178_195, p178_196, p178_197, p178_200, p178_203, p178_206, p178_209, p178_210, p178_211, p178_214, p178_215, p178_217, p178_218, p178_221, p178_222, p178_223, p178_224, p178_227, p178_230, p178_231, p178_233, p178_234, p178_237, p178_240, p178_241i, p178_241a, p178_242, p178_245, p178_246, p178_247, p178_250, p178_253, p178_254, p178_255, p178_258, p178_259, p178_260, p178_263, p178_266, p178_267, p178_269, p178_272, p178_273, p178_275, p178_278, p178_279, p178_280, p178_283, p178_284, p178_285, p178_288, p178_289i, p178_289a, p178_290, p178_293, p178_294, p178_295, p178_298, jwd_c, jwd_0, Nat.reduceLeDiff, Nat.reduceEqDiff, Nat.reduceAdd, Nat.reduceSub, Nat.reduceMul, Int.reduceAdd, Int.reduceSub, Int.reduceMul, Int.reduceNeg, Int.reduceEq, Int.reduceLT, Int.reduceLE, jq_ldi_i, jq_ldl_l, jq_lda_a, jq_inc_i, jq_gs_t, jq_gsb_t, jq_gb_t, jq_gr_2, jq_gr_4, jq_gw_2, jq_s_t, jq_b_t, jg_c, jg_n, js_c, js_n, jrm_c, jrm_n, j2_i, j2_l, j2_a, jq_c_i, jq_c_l, jq_c_0, jq_c_n, jwd_le, jw_c0, mS_I, mS_R, mS_J, mN_I, mN_R, mN_J, mR_I, mI_R, mJ_I, mJ_R, mI_J, mR_J, ↓reduceIte, decide_true, or_true, true_or, and_self, false_or, or_false, reduceCtorEq, Bool.false_eq_true, and_false, false_and, eq_self, true_and, and_true, zero_ne, ↓br_lt_t, ↓br_lt_f, ↓br_eq_t, ↓br_eq_f, ↓br_lz_t, ↓br_lz_f, ↓br_ez_t, ↓br_ez_f, ↓br_gz_t, ↓br_gz_f, jw_id, jin_t, jix_t, ↓ite_t, ↓ite_f, t.1, h8, e1, e2]
  | succ m ih =>
    intro e w t h8 hs he hJ hk hl
    have hn := t.2.2.2.2.2.2.1
    have e1 := m_byte t (k := e) (by omega)
    rw [if_pos (by omega)] at e1
    have tb := t.2.2.2.2.2.2.2.2 e (by omega)
    have e2 := m_let (w := w) (b := T e) (by omega) (by omega)
    have ee : gEd T 1 (m + 1) e = if gSo (T e) = 1 then gEd T 1 m (e + 1) else e := rfl
    rw [ee]
    by_cases z : gSo (T e) = 1
    · have zl := so_1 z
      rw [if_pos zl] at e2
      rw [if_pos z]
      by_cases y : e - s < 8
      · have hb := cw_bd (f := fun k => T (s + k)) (e - s) (by omega) (fun k hk => so_1 (hl (s + k) (by omega) (by omega)))
        have h32 : (32 : Int) ^ (e - s) ≤ 34359738368 := by
          have : e - s = 0 ∨ e - s = 1 ∨ e - s = 2 ∨ e - s = 3 ∨ e - s = 4 ∨ e - s = 5 ∨ e - s = 6 ∨ e - s = 7 := by omega
          rcases this with h | h | h | h | h | h | h | h <;> rw [h] <;> decide
        rw [show min (e - s) 8 = e - s by omega] at hJ hk
        obtain ⟨w2, hw2⟩ : ∃ w2, w2 = setI (setJ (setI w 240 (e - s) (T e)) 238 17 (32 * mJ w 238 17 + (T e - 97 + 1))) 238 8 ((e : Int) + 1) := ⟨_, rfl⟩
        have f2 : Ftk w w2 := by
          rw [hw2]
          exact (Ftk.S.tr Ftk.J).tr (Ftk.I (by omega))
        have i := ih (e + 1) w2 (t.fr f2) (by rw [hw2, mI_s]; omega) (by omega) (by omega) (by
          rw [hw2, mJ_I, mJ_s, hJ, show min (e + 1 - s) 8 = (e - s) + 1 by omega]
          have : gCw (fun k => T (s + k)) (e - s + 1) = 32 * gCw (fun k => T (s + k)) (e - s) + (T (s + (e - s)) - 97 + 1) := rfl
          rw [this, show s + (e - s) = e by omega]) (fun k hk2 => by
          rw [hw2, mI_nb (by omega), mI_J]
          by_cases x : k = e - s
          · rw [x, mI_s, show s + (e - s) = e by omega]
          · rw [mI_nk x]
            exact hk k (by omega)) (fun k k1 k2 => by
          by_cases x : k = e
          · rw [x]
            exact z
          · exact hl k k1 (by omega))
        obtain ⟨u, i1, i2, i3, i4, i5, i6, i7⟩ := i
        refine ⟨u, ?_, i2, i3, i4, i5, f2.tr i6, fun k hk2 => by
          rw [i7 k hk2, hw2, mI_nk hk2, mI_J, mI_nb (by omega)]⟩
        rw [← i1, p178_89, hw2]
        have t3 := t.2.2.1
        have t5 := t.2.2.2.2.1
        rw [show ((e + 1 - s : Nat) : Int) = ((e - s : Nat) : Int) + 1 by omega]
        have e1' := m_byte (t.fr Ftk.rf) (k := e) (by omega)
        have w8 : mI (setI w 240 (e - s) (T e)) 238 8 = e := by rw [mI_nb (by omega)]; exact h8
        have wS : mI (setI w 240 (e - s) (T e)) 240 (e - s) = T e := mI_s _ _ _ _
        have w8' : ∀ x, mI (setJ (setI w 240 (e - s) (T e)) 238 17 x) 238 8 = e := fun x => by rw [mI_J]; exact w8
        rw [hJ]
        simp (disch := omega) only [p178_0, p178_1, p178_4, p178_5, p178_8, p178_10, p178_11, p178_14, p178_17, p178_19, p178_22, p178_23i, p178_23a, p178_24, p178_27, p178_28, p178_29, p178_32, p178_36, p178_37, p178_40, p178_43, p178_44, p178_45, p178_48, p178_49, p178_50, p178_53, p178_54, p178_55, p178_58, p178_61, p178_62, p178_63, p178_64, p178_65, p178_66, p178_69, p178_70, p178_71, p178_74, p178_77, p178_78, p178_81, p178_84, p178_85, p178_86, p178_90, p178_91, p178_94, p178_97, p178_100, p178_103, p178_104, p178_106, p178_109, p178_110, p178_113, p178_114, p178_115, p178_116, p178_119, p178_122, p178_123, p178_124, p178_127, p178_128, p178_131, p178_132, p178_133, p178_136, p178_137, p178_138, p178_140, p178_141, p178_142, p178_143, p178_144, p178_145, p178_148, p178_151, p178_152i, p178_152a, p178_153, p178_156, p178_157, p178_158, p178_161, p178_165, p178_166, p178_169, p178_170, p178_172, p178_175, p178_176, p178_177, p178_180, p178_183, p178_184, p178_187, p178_190, p178_191, p178_192, p178_195, p178_196, p178_197, p178_200, p178_203, p178_206, p178_209, p178_210, p178_211, p178_214, p178_215, p178_217, p178_218, p178_221, p178_222, p178_223, p178_224, p178_227, p178_230, p178_231, p178_233, p178_234, p178_237, p178_240, p178_241i, p178_241a, p178_242, p178_245, p178_246, p178_247, p178_250, p178_253, p178_254, p178_255, p178_258, p178_259, p178_260, p178_263, p178_266, p178_267, p178_269, p178_272, p178_273, p178_275, p178_278, p178_279, p178_280, p178_283, p178_284, p178_285, p178_288, p178_289i, p178_289a, p178_290, p178_293, p178_294, p178_295, p178_298, jwd_c, jwd_0, Nat.reduceLeDiff, Nat.reduceEqDiff, Nat.reduceAdd, Nat.reduceSub, Nat.reduceMul, Int.reduceAdd, Int.reduceSub, Int.reduceMul, Int.reduceNeg, Int.reduceEq, Int.reduceLT, Int.reduceLE, jq_ldi_i, jq_ldl_l, jq_lda_a, jq_inc_i, jq_gs_t, jq_gsb_t, jq_gb_t, jq_gr_2, jq_gr_4, jq_gw_2, jq_s_t, jq_b_t, jg_c, jg_n, js_c, js_n, jrm_c, jrm_n, j2_i, j2_l, j2_a, jq_c_i, jq_c_l, jq_c_0, jq_c_n, jwd_le, jw_c0, mS_I, mS_R, mS_J, mN_I, mN_R, mN_J, mR_I, mI_R, mJ_I, mJ_R, mI_J, mR_J, ↓reduceIte, decide_true, or_true, true_or, and_self, false_or, or_false, reduceCtorEq, Bool.false_eq_true, and_false, false_and, eq_self, true_and, and_true, zero_ne, ↓br_lt_t, ↓br_lt_f, ↓br_eq_t, ↓br_eq_f, ↓br_lz_t, ↓br_lz_f, ↓br_ez_t, ↓br_ez_f, ↓br_gz_t, ↓br_gz_f, jw_id, jin_t, jix_t, ↓ite_t, ↓ite_f, t.1, h8, e1, e2, t3, t5, Int.toNat_natCast, w8, wS, w8', hJ, jw_id]
      · obtain ⟨w2, hw2⟩ : ∃ w2, w2 = setI w 238 8 ((e : Int) + 1) := ⟨_, rfl⟩
        have f2 : Ftk w w2 := by
          rw [hw2]
          exact Ftk.I (by omega)
        have i := ih (e + 1) w2 (t.fr f2) (by rw [hw2, mI_s]; omega) (by omega) (by omega) (by
          rw [hw2, mJ_I, hJ, show min (e + 1 - s) 8 = min (e - s) 8 by omega]) (fun k hk2 => by
          rw [hw2, mI_nb (by omega)]
          exact hk k (by omega)) (fun k k1 k2 => by
          by_cases x : k = e
          · rw [x]
            exact z
          · exact hl k k1 (by omega))
        obtain ⟨u, i1, i2, i3, i4, i5, i6, i7⟩ := i
        refine ⟨u, ?_, i2, i3, i4, i5, f2.tr i6, fun k hk2 => by
          rw [i7 k hk2, hw2, mI_nk hk2]⟩
        rw [← i1, p178_89, hw2]
        rw [show ((e + 1 - s : Nat) : Int) = ((e - s : Nat) : Int) + 1 by omega]
        simp (disch := omega) only [p178_0, p178_1, p178_4, p178_5, p178_8, p178_10, p178_11, p178_14, p178_17, p178_19, p178_22, p178_23i, p178_23a, p178_24, p178_27, p178_28, p178_29, p178_32, p178_36, p178_37, p178_40, p178_43, p178_44, p178_45, p178_48, p178_49, p178_50, p178_53, p178_54, p178_55, p178_58, p178_61, p178_62, p178_63, p178_64, p178_65, p178_66, p178_69, p178_70, p178_71, p178_74, p178_77, p178_78, p178_81, p178_84, p178_85, p178_86, p178_90, p178_91, p178_94, p178_97, p178_100, p178_103, p178_104, p178_106, p178_109, p178_110, p178_113, p178_114, p178_115, p178_116, p178_119, p178_122, p178_123, p178_124, p178_127, p178_128, p178_131, p178_132, p178_133, p178_136, p178_137, p178_138, p178_140, p178_141, p178_142, p178_143, p178_144, p178_145, p178_148, p178_151, p178_152i, p178_152a, p178_153, p178_156, p178_157, p178_158, p178_161, p178_165, p178_166, p178_169, p178_170, p178_172, p178_175, p178_176, p178_177, p178_180, p178_183, p178_184, p178_187, p178_190, p178_191, p178_192, p178_195, p178_196, p178_197, p178_200, p178_203, p178_206, p178_209, p178_210, p178_211, p178_214, p178_215, p178_217, p178_218, p178_221, p178_222, p178_223, p178_224, p178_227, p178_230, p178_231, p178_233, p178_234, p178_237, p178_240, p178_241i, p178_241a, p178_242, p178_245, p178_246, p178_247, p178_250, p178_253, p178_254, p178_255, p178_258, p178_259, p178_260, p178_263, p178_266, p178_267, p178_269, p178_272, p178_273, p178_275, p178_278, p178_279, p178_280, p178_283, p178_284, p178_285, p178_288, p178_289i, p178_289a, p178_290, p178_293, p178_294, p178_295, p178_298, jwd_c, jwd_0, Nat.reduceLeDiff, Nat.reduceEqDiff, Nat.reduceAdd, Nat.reduceSub, Nat.reduceMul, Int.reduceAdd, Int.reduceSub, Int.reduceMul, Int.reduceNeg, Int.reduceEq, Int.reduceLT, Int.reduceLE, jq_ldi_i, jq_ldl_l, jq_lda_a, jq_inc_i, jq_gs_t, jq_gsb_t, jq_gb_t, jq_gr_2, jq_gr_4, jq_gw_2, jq_s_t, jq_b_t, jg_c, jg_n, js_c, js_n, jrm_c, jrm_n, j2_i, j2_l, j2_a, jq_c_i, jq_c_l, jq_c_0, jq_c_n, jwd_le, jw_c0, mS_I, mS_R, mS_J, mN_I, mN_R, mN_J, mR_I, mI_R, mJ_I, mJ_R, mI_J, mR_J, ↓reduceIte, decide_true, or_true, true_or, and_self, false_or, or_false, reduceCtorEq, Bool.false_eq_true, and_false, false_and, eq_self, true_and, and_true, zero_ne, ↓br_lt_t, ↓br_lt_f, ↓br_eq_t, ↓br_eq_f, ↓br_lz_t, ↓br_lz_f, ↓br_ez_t, ↓br_ez_f, ↓br_gz_t, ↓br_gz_f, jw_id, jin_t, jix_t, ↓ite_t, ↓ite_f, t.1, h8, e1, e2]
    · rw [if_neg (fun x => z (so_l.mp x))] at e2
      rw [if_neg z]
      refine ⟨w, ?_, t, h8, hJ, hk, Ftk.rf, fun k hk => rfl⟩
      rw [p178_89]
      simp (disch := omega) only [p178_0, p178_1, p178_4, p178_5, p178_8, p178_10, p178_11, p178_14, p178_17, p178_19, p178_22, p178_23i, p178_23a, p178_24, p178_27, p178_28, p178_29, p178_32, p178_36, p178_37, p178_40, p178_43, p178_44, p178_45, p178_48, p178_49, p178_50, p178_53, p178_54, p178_55, p178_58, p178_61, p178_62, p178_63, p178_64, p178_65, p178_66, p178_69, p178_70, p178_71, p178_74, p178_77, p178_78, p178_81, p178_84, p178_85, p178_86, p178_90, p178_91, p178_94, p178_97, p178_100, p178_103, p178_104, p178_106, p178_109, p178_110, p178_113, p178_114, p178_115, p178_116, p178_119, p178_122, p178_123, p178_124, p178_127, p178_128, p178_131, p178_132, p178_133, p178_136, p178_137, p178_138, p178_140, p178_141, p178_142, p178_143, p178_144, p178_145, p178_148, p178_151, p178_152i, p178_152a, p178_153, p178_156, p178_157, p178_158, p178_161, p178_165, p178_166, p178_169, p178_170, p178_172, p178_175, p178_176, p178_177, p178_180, p178_183, p178_184, p178_187, p178_190, p178_191, p178_192, p178_195, p178_196, p178_197, p178_200, p178_203, p178_206, p178_209, p178_210, p178_211, p178_214, p178_215, p178_217, p178_218, p178_221, p178_222, p178_223, p178_224, p178_227, p178_230, p178_231, p178_233, p178_234, p178_237, p178_240, p178_241i, p178_241a, p178_242, p178_245, p178_246, p178_247, p178_250, p178_253, p178_254, p178_255, p178_258, p178_259, p178_260, p178_263, p178_266, p178_267, p178_269, p178_272, p178_273, p178_275, p178_278, p178_279, p178_280, p178_283, p178_284, p178_285, p178_288, p178_289i, p178_289a, p178_290, p178_293, p178_294, p178_295, p178_298, jwd_c, jwd_0, Nat.reduceLeDiff, Nat.reduceEqDiff, Nat.reduceAdd, Nat.reduceSub, Nat.reduceMul, Int.reduceAdd, Int.reduceSub, Int.reduceMul, Int.reduceNeg, Int.reduceEq, Int.reduceLT, Int.reduceLE, jq_ldi_i, jq_ldl_l, jq_lda_a, jq_inc_i, jq_gs_t, jq_gsb_t, jq_gb_t, jq_gr_2, jq_gr_4, jq_gw_2, jq_s_t, jq_b_t, jg_c, jg_n, js_c, js_n, jrm_c, jrm_n, j2_i, j2_l, j2_a, jq_c_i, jq_c_l, jq_c_0, jq_c_n, jwd_le, jw_c0, mS_I, mS_R, mS_J, mN_I, mN_R, mN_J, mR_I, mI_R, mJ_I, mJ_R, mI_J, mR_J, ↓reduceIte, decide_true, or_true, true_or, and_self, false_or, or_false, reduceCtorEq, Bool.false_eq_true, and_false, false_and, eq_self, true_and, and_true, zero_ne, ↓br_lt_t, ↓br_lt_f, ↓br_eq_t, ↓br_eq_f, ↓br_lz_t, ↓br_lz_f, ↓br_ez_t, ↓br_ez_f, ↓br_gz_t, ↓br_gz_f, jw_id, jin_t, jix_t, ↓ite_t, ↓ite_f, t.1, h8, e1, e2]
theorem mg3 {s : Nat} {c : Int} : ∀ (m e : Nat) (w : jmW), MTp w T n → mI w 238 8 = e → s ≤ e → e + m = n → mI w 238 12 = gNu T s (min (e - s) 3) → ∃ u, rn 178 (195, [(0, jvr 238), (1, .inl c), (2, .inl ((e - s : Nat) : Int))], [], w) = rn 178 (253, [(0, jvr 238), (1, .inl c), (2, .inl ((gEd T 2 m e - s : Nat) : Int))], [], u) ∧ MTp u T n ∧ mI u 238 8 = gEd T 2 m e ∧ mI u 238 12 = gNu T s (min (gEd T 2 m e - s) 3) ∧ Ftk w u ∧ (∀ k, k ≠ 8 → k ≠ 12 → mI u 238 k = mI w 238 k) := by
  intro m
  induction m with
  | zero =>
    intro e w t h8 hs he hJ
    have hn := t.2.2.2.2.2.2.1
    have e1 := m_byte t (k := e) (by omega)
    rw [if_neg (by omega)] at e1
    have e2 := m_dig (w := w) (b := -1) (by omega) (by omega)
    rw [if_neg (by omega)] at e2
    have ee : gEd T 2 0 e = e := rfl
    rw [ee]
    refine ⟨w, ?_, t, h8, hJ, Ftk.rf, fun k hk _ => rfl⟩
    rw [p178_195]
    simp (disch := omega) only [p178_0, p178_1, p178_4, p178_5, p178_8, p178_10, p178_11, p178_14, p178_17, p178_19, p178_22, p178_23i, p178_23a, p178_24, p178_27, p178_28, p178_29, p178_32, p178_36, p178_37, p178_40, p178_43, p178_44, p178_45, p178_48, p178_49, p178_50, p178_53, p178_54, p178_55, p178_58, p178_61, p178_62, p178_63, p178_64, p178_65, p178_66, p178_69, p178_70, p178_71, p178_74, p178_77, p178_78, p178_81, p178_84, p178_85, p178_86, p178_90, p178_91, p178_94, p178_97, p178_100, p178_103, p178_104, p178_106, p178_109, p178_110, p178_113, p178_114, p178_115, p178_116, p178_119, p178_122, p178_123, p178_124, p178_127, p178_128, p178_131, p178_132, p178_133, p178_136, p178_137, p178_138, p178_140, p178_141, p178_142, p178_143, p178_144, p178_145, p178_148, p178_151, p178_152i, p178_152a, p178_153, p178_156, p178_157, p178_158, p178_161, p178_165, p178_166, p178_169, p178_170, p178_172, p178_175, p178_176, p178_177, p178_180, p178_183, p178_184, p178_187, p178_190, p178_191, p178_192, p178_196, p178_197, p178_200, p178_203, p178_206, p178_209, p178_210, p178_211, p178_214, p178_215, p178_217, p178_218, p178_221, p178_222, p178_223, p178_224, p178_227, p178_230, p178_231, p178_233, p178_234, p178_237, p178_240, p178_241i, p178_241a, p178_242, p178_245, p178_246, p178_247, p178_250, p178_254, p178_255, p178_258, p178_259, p178_260, p178_263, p178_266, p178_267, p178_269, p178_272, p178_273, p178_275, p178_278, p178_279, p178_280, p178_283, p178_284, p178_285, p178_288, p178_289i, p178_289a, p178_290, p178_293, p178_294, p178_295, p178_298, jwd_c, jwd_0, Nat.reduceLeDiff, Nat.reduceEqDiff, Nat.reduceAdd, Nat.reduceSub, Nat.reduceMul, Int.reduceAdd, Int.reduceSub, Int.reduceMul, Int.reduceNeg, Int.reduceEq, Int.reduceLT, Int.reduceLE, jq_ldi_i, jq_ldl_l, jq_lda_a, jq_inc_i, jq_gs_t, jq_gsb_t, jq_gb_t, jq_gr_2, jq_gr_4, jq_gw_2, jq_s_t, jq_b_t, jg_c, jg_n, js_c, js_n, jrm_c, jrm_n, j2_i, j2_l, j2_a, jq_c_i, jq_c_l, jq_c_0, jq_c_n, jwd_le, jw_c0, mS_I, mS_R, mS_J, mN_I, mN_R, mN_J, mR_I, mI_R, mJ_I, mJ_R, mI_J, mR_J, ↓reduceIte, decide_true, or_true, true_or, and_self, false_or, or_false, reduceCtorEq, Bool.false_eq_true, and_false, false_and, eq_self, true_and, and_true, zero_ne, ↓br_lt_t, ↓br_lt_f, ↓br_eq_t, ↓br_eq_f, ↓br_lz_t, ↓br_lz_f, ↓br_ez_t, ↓br_ez_f, ↓br_gz_t, ↓br_gz_f, jw_id, jin_t, jix_t, ↓ite_t, ↓ite_f, t.1, h8, e1, e2]
  | succ m ih =>
    intro e w t h8 hs he hJ
    have hn := t.2.2.2.2.2.2.1
    have e1 := m_byte t (k := e) (by omega)
    rw [if_pos (by omega)] at e1
    have tb := t.2.2.2.2.2.2.2.2 e (by omega)
    have e2 := m_dig (w := w) (b := T e) (by omega) (by omega)
    have ee : gEd T 2 (m + 1) e = if gSo (T e) = 2 then gEd T 2 m (e + 1) else e := rfl
    rw [ee]
    by_cases z : gSo (T e) = 2
    · have zl := so_2 z
      rw [if_pos zl] at e2
      rw [if_pos z]
      by_cases y : e - s < 3
      · have hb : ∀ m, m ≤ 3 → s + m ≤ n → -100000 ≤ gNu T s m ∧ gNu T s m ≤ 100000 := by
          intro m hm hmn
          have b := fun k (hk : k < m) => t.2.2.2.2.2.2.2.2 (s + k) (by omega)
          have e0 : gNu T s 0 = 0 := rfl
          have e1 : gNu T s 1 = gNu T s 0 * 10 + T (s + 0) - 48 := rfl
          have e2 : gNu T s 2 = gNu T s 1 * 10 + T (s + 1) - 48 := rfl
          have e3 : gNu T s 3 = gNu T s 2 * 10 + T (s + 2) - 48 := rfl
          have : m = 0 ∨ m = 1 ∨ m = 2 ∨ m = 3 := by omega
          rcases this with rfl | rfl | rfl | rfl
          · omega
          · have := b 0 (by omega)
            omega
          · have := b 0 (by omega)
            have := b 1 (by omega)
            omega
          · have := b 0 (by omega)
            have := b 1 (by omega)
            have := b 2 (by omega)
            omega
        have hb2 := hb (e - s) (by omega) (by omega)
        rw [show min (e - s) 3 = e - s by omega] at hJ
        obtain ⟨w2, hw2⟩ : ∃ w2, w2 = setI (setI w 238 12 (10 * mI w 238 12 + T e - 48)) 238 8 ((e : Int) + 1) := ⟨_, rfl⟩
        have f2 : Ftk w w2 := by
          rw [hw2]
          exact (Ftk.I (by omega)).tr (Ftk.I (by omega))
        have i := ih (e + 1) w2 (t.fr f2) (by rw [hw2, mI_s]; omega) (by omega) (by omega) (by
          rw [hw2, mI_nk (by omega), mI_s, hJ, show min (e + 1 - s) 3 = (e - s) + 1 by omega]
          have : gNu T s (e - s + 1) = gNu T s (e - s) * 10 + T (s + (e - s)) - 48 := rfl
          rw [this, show s + (e - s) = e by omega, Int.mul_comm])
        obtain ⟨u, i1, i2, i3, i4, i6, i7⟩ := i
        refine ⟨u, ?_, i2, i3, i4, f2.tr i6, fun k k1 k2 => by
          rw [i7 k k1 k2, hw2, mI_nk k1, mI_nk k2]⟩
        rw [← i1, p178_195, hw2]
        rw [show ((e + 1 - s : Nat) : Int) = ((e - s : Nat) : Int) + 1 by omega]
        have w8 : ∀ x, mI (setI w 238 12 x) 238 8 = e := fun x => by rw [mI_nk (by omega)]; exact h8
        simp (disch := omega) only [p178_0, p178_1, p178_4, p178_5, p178_8, p178_10, p178_11, p178_14, p178_17, p178_19, p178_22, p178_23i, p178_23a, p178_24, p178_27, p178_28, p178_29, p178_32, p178_36, p178_37, p178_40, p178_43, p178_44, p178_45, p178_48, p178_49, p178_50, p178_53, p178_54, p178_55, p178_58, p178_61, p178_62, p178_63, p178_64, p178_65, p178_66, p178_69, p178_70, p178_71, p178_74, p178_77, p178_78, p178_81, p178_84, p178_85, p178_86, p178_90, p178_91, p178_94, p178_97, p178_100, p178_103, p178_104, p178_106, p178_109, p178_110, p178_113, p178_114, p178_115, p178_116, p178_119, p178_122, p178_123, p178_124, p178_127, p178_128, p178_131, p178_132, p178_133, p178_136, p178_137, p178_138, p178_140, p178_141, p178_142, p178_143, p178_144, p178_145, p178_148, p178_151, p178_152i, p178_152a, p178_153, p178_156, p178_157, p178_158, p178_161, p178_165, p178_166, p178_169, p178_170, p178_172, p178_175, p178_176, p178_177, p178_180, p178_183, p178_184, p178_187, p178_190, p178_191, p178_192, p178_196, p178_197, p178_200, p178_203, p178_206, p178_209, p178_210, p178_211, p178_214, p178_215, p178_217, p178_218, p178_221, p178_222, p178_223, p178_224, p178_227, p178_230, p178_231, p178_233, p178_234, p178_237, p178_240, p178_241i, p178_241a, p178_242, p178_245, p178_246, p178_247, p178_250, p178_254, p178_255, p178_258, p178_259, p178_260, p178_263, p178_266, p178_267, p178_269, p178_272, p178_273, p178_275, p178_278, p178_279, p178_280, p178_283, p178_284, p178_285, p178_288, p178_289i, p178_289a, p178_290, p178_293, p178_294, p178_295, p178_298, jwd_c, jwd_0, Nat.reduceLeDiff, Nat.reduceEqDiff, Nat.reduceAdd, Nat.reduceSub, Nat.reduceMul, Int.reduceAdd, Int.reduceSub, Int.reduceMul, Int.reduceNeg, Int.reduceEq, Int.reduceLT, Int.reduceLE, jq_ldi_i, jq_ldl_l, jq_lda_a, jq_inc_i, jq_gs_t, jq_gsb_t, jq_gb_t, jq_gr_2, jq_gr_4, jq_gw_2, jq_s_t, jq_b_t, jg_c, jg_n, js_c, js_n, jrm_c, jrm_n, j2_i, j2_l, j2_a, jq_c_i, jq_c_l, jq_c_0, jq_c_n, jwd_le, jw_c0, mS_I, mS_R, mS_J, mN_I, mN_R, mN_J, mR_I, mI_R, mJ_I, mJ_R, mI_J, mR_J, ↓reduceIte, decide_true, or_true, true_or, and_self, false_or, or_false, reduceCtorEq, Bool.false_eq_true, and_false, false_and, eq_self, true_and, and_true, zero_ne, ↓br_lt_t, ↓br_lt_f, ↓br_eq_t, ↓br_eq_f, ↓br_lz_t, ↓br_lz_f, ↓br_ez_t, ↓br_ez_f, ↓br_gz_t, ↓br_gz_f, jw_id, jin_t, jix_t, ↓ite_t, ↓ite_f, t.1, h8, e1, e2, w8]
      · obtain ⟨w2, hw2⟩ : ∃ w2, w2 = setI w 238 8 ((e : Int) + 1) := ⟨_, rfl⟩
        have f2 : Ftk w w2 := by
          rw [hw2]
          exact Ftk.I (by omega)
        have i := ih (e + 1) w2 (t.fr f2) (by rw [hw2, mI_s]; omega) (by omega) (by omega) (by
          rw [hw2, mI_nk (by omega), hJ, show min (e + 1 - s) 3 = min (e - s) 3 by omega])
        obtain ⟨u, i1, i2, i3, i4, i6, i7⟩ := i
        refine ⟨u, ?_, i2, i3, i4, f2.tr i6, fun k k1 k2 => by
          rw [i7 k k1 k2, hw2, mI_nk k1]⟩
        rw [← i1, p178_195, hw2]
        rw [show ((e + 1 - s : Nat) : Int) = ((e - s : Nat) : Int) + 1 by omega]
        simp (disch := omega) only [p178_0, p178_1, p178_4, p178_5, p178_8, p178_10, p178_11, p178_14, p178_17, p178_19, p178_22, p178_23i, p178_23a, p178_24, p178_27, p178_28, p178_29, p178_32, p178_36, p178_37, p178_40, p178_43, p178_44, p178_45, p178_48, p178_49, p178_50, p178_53, p178_54, p178_55, p178_58, p178_61, p178_62, p178_63, p178_64, p178_65, p178_66, p178_69, p178_70, p178_71, p178_74, p178_77, p178_78, p178_81, p178_84, p178_85, p178_86, p178_90, p178_91, p178_94, p178_97, p178_100, p178_103, p178_104, p178_106, p178_109, p178_110, p178_113, p178_114, p178_115, p178_116, p178_119, p178_122, p178_123, p178_124, p178_127, p178_128, p178_131, p178_132, p178_133, p178_136, p178_137, p178_138, p178_140, p178_141, p178_142, p178_143, p178_144, p178_145, p178_148, p178_151, p178_152i, p178_152a, p178_153, p178_156, p178_157, p178_158, p178_161, p178_165, p178_166, p178_169, p178_170, p178_172, p178_175, p178_176, p178_177, p178_180, p178_183, p178_184, p178_187, p178_190, p178_191, p178_192, p178_196, p178_197, p178_200, p178_203, p178_206, p178_209, p178_210, p178_211, p178_214, p178_215, p178_217, p178_218, p178_221, p178_222, p178_223, p178_224, p178_227, p178_230, p178_231, p178_233, p178_234, p178_237, p178_240, p178_241i, p178_241a, p178_242, p178_245, p178_246, p178_247, p178_250, p178_254, p178_255, p178_258, p178_259, p178_260, p178_263, p178_266, p178_267, p178_269, p178_272, p178_273, p178_275, p178_278, p178_279, p178_280, p178_283, p178_284, p178_285, p178_288, p178_289i, p178_289a, p178_290, p178_293, p178_294, p178_295, p178_298, jwd_c, jwd_0, Nat.reduceLeDiff, Nat.reduceEqDiff, Nat.reduceAdd, Nat.reduceSub, Nat.reduceMul, Int.reduceAdd, Int.reduceSub, Int.reduceMul, Int.reduceNeg, Int.reduceEq, Int.reduceLT, Int.reduceLE, jq_ldi_i, jq_ldl_l, jq_lda_a, jq_inc_i, jq_gs_t, jq_gsb_t, jq_gb_t, jq_gr_2, jq_gr_4, jq_gw_2, jq_s_t, jq_b_t, jg_c, jg_n, js_c, js_n, jrm_c, jrm_n, j2_i, j2_l, j2_a, jq_c_i, jq_c_l, jq_c_0, jq_c_n, jwd_le, jw_c0, mS_I, mS_R, mS_J, mN_I, mN_R, mN_J, mR_I, mI_R, mJ_I, mJ_R, mI_J, mR_J, ↓reduceIte, decide_true, or_true, true_or, and_self, false_or, or_false, reduceCtorEq, Bool.false_eq_true, and_false, false_and, eq_self, true_and, and_true, zero_ne, ↓br_lt_t, ↓br_lt_f, ↓br_eq_t, ↓br_eq_f, ↓br_lz_t, ↓br_lz_f, ↓br_ez_t, ↓br_ez_f, ↓br_gz_t, ↓br_gz_f, jw_id, jin_t, jix_t, ↓ite_t, ↓ite_f, t.1, h8, e1, e2]
    · rw [if_neg (fun x => z (so_d.mp x))] at e2
      rw [if_neg z]
      refine ⟨w, ?_, t, h8, hJ, Ftk.rf, fun k hk _ => rfl⟩
      rw [p178_195]
      simp (disch := omega) only [p178_0, p178_1, p178_4, p178_5, p178_8, p178_10, p178_11, p178_14, p178_17, p178_19, p178_22, p178_23i, p178_23a, p178_24, p178_27, p178_28, p178_29, p178_32, p178_36, p178_37, p178_40, p178_43, p178_44, p178_45, p178_48, p178_49, p178_50, p178_53, p178_54, p178_55, p178_58, p178_61, p178_62, p178_63, p178_64, p178_65, p178_66, p178_69, p178_70, p178_71, p178_74, p178_77, p178_78, p178_81, p178_84, p178_85, p178_86, p178_90, p178_91, p178_94, p178_97, p178_100, p178_103, p178_104, p178_106, p178_109, p178_110, p178_113, p178_114, p178_115, p178_116, p178_119, p178_122, p178_123, p178_124, p178_127, p178_128, p178_131, p178_132, p178_133, p178_136, p178_137, p178_138, p178_140, p178_141, p178_142, p178_143, p178_144, p178_145, p178_148, p178_151, p178_152i, p178_152a, p178_153, p178_156, p178_157, p178_158, p178_161, p178_165, p178_166, p178_169, p178_170, p178_172, p178_175, p178_176, p178_177, p178_180, p178_183, p178_184, p178_187, p178_190, p178_191, p178_192, p178_196, p178_197, p178_200, p178_203, p178_206, p178_209, p178_210, p178_211, p178_214, p178_215, p178_217, p178_218, p178_221, p178_222, p178_223, p178_224, p178_227, p178_230, p178_231, p178_233, p178_234, p178_237, p178_240, p178_241i, p178_241a, p178_242, p178_245, p178_246, p178_247, p178_250, p178_254, p178_255, p178_258, p178_259, p178_260, p178_263, p178_266, p178_267, p178_269, p178_272, p178_273, p178_275, p178_278, p178_279, p178_280, p178_283, p178_284, p178_285, p178_288, p178_289i, p178_289a, p178_290, p178_293, p178_294, p178_295, p178_298, jwd_c, jwd_0, Nat.reduceLeDiff, Nat.reduceEqDiff, Nat.reduceAdd, Nat.reduceSub, Nat.reduceMul, Int.reduceAdd, Int.reduceSub, Int.reduceMul, Int.reduceNeg, Int.reduceEq, Int.reduceLT, Int.reduceLE, jq_ldi_i, jq_ldl_l, jq_lda_a, jq_inc_i, jq_gs_t, jq_gsb_t, jq_gb_t, jq_gr_2, jq_gr_4, jq_gw_2, jq_s_t, jq_b_t, jg_c, jg_n, js_c, js_n, jrm_c, jrm_n, j2_i, j2_l, j2_a, jq_c_i, jq_c_l, jq_c_0, jq_c_n, jwd_le, jw_c0, mS_I, mS_R, mS_J, mN_I, mN_R, mN_J, mR_I, mI_R, mJ_I, mJ_R, mI_J, mR_J, ↓reduceIte, decide_true, or_true, true_or, and_self, false_or, or_false, reduceCtorEq, Bool.false_eq_true, and_false, false_and, eq_self, true_and, and_true, zero_ne, ↓br_lt_t, ↓br_lt_f, ↓br_eq_t, ↓br_eq_f, ↓br_lz_t, ↓br_lz_f, ↓br_ez_t, ↓br_ez_f, ↓br_gz_t, ↓br_gz_f, jw_id, jin_t, jix_t, ↓ite_t, ↓ite_f, t.1, h8, e1, e2]
end TOKM
