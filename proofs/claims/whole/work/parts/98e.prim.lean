/-! The reader: what its lines are made of, in the model. -/
def MKs (w : jmW) (T : Nat → Int) (n : Nat) : gSg → Prop
  | .inl p => MK w T n p
  | .inr x => mI w 238 9 = 5 ∧ mI w 238 14 = x.1 ∧ mI w 238 15 = x.2
/-- the model while it reads -/
def MS (w : jmW) (T : Nat → Int) (n h : Nat) (H : Nat → Nat → Int) (s : gSg) : Prop := MO w ∧ MH w h H ∧ mR w 238 4 = some h ∧ MTp w T n ∧ (mS w (h + 16) = (2, 2, 4) ∧ mR w h 32 = some (h + 16) ∧ mJ w (h + 16) = H 99) ∧ SX w ∧ MKs w T n s
def wom (k : Nat) (u : List Nat) : Bool := decide (jst k = u) && gLt u && decide (u.length ≤ 8) && decide (k < 43)
section PRIMP
variable (T : Nat → Int) (n : Nat)
def gIs (s : gSg) (c : Int) : Bool := match s with
  | .inl p => decide (tK T n p = 1 ∧ tW T n p = c)
  | .inr _ => false
/-- a side, not gone over -/
def pD (s : gSg) : gSg := if pI T n (cs wSd) s < 0 then pF T n 1 s else s
end PRIMP
section PRIMM
variable {w u : jmW} {T : Nat → Int} {n h : Nat} {H : Nat → Nat → Int} {s s2 : gSg}
theorem MS.a (M : MS w T n h H s) : mS w 238 = (1, 9, 0) := M.1.s0
theorem MS.r4 (M : MS w T n h H s) : mR w 238 4 = some h := M.2.2.1
theorem MS.b (M : MS w T n h H s) : mS w h = (1, 8, 0) := M.2.1.s
theorem MS.f0 (M : MS w T n h H s) : mI w h 0 = H 0 0 := M.2.1.f0
theorem MS.f1 (M : MS w T n h H s) : mI w h 1 = H 0 1 := M.2.1.f1
theorem MS.f2 (M : MS w T n h H s) : mI w h 2 = H 0 2 := M.2.1.f2
theorem MS.f3 (M : MS w T n h H s) : mI w h 3 = H 0 3 := M.2.1.f3
theorem MS.f4 (M : MS w T n h H s) : mI w h 4 = H 0 4 := M.2.1.f4
theorem MS.f5 (M : MS w T n h H s) : mI w h 5 = H 0 5 := M.2.1.f5
theorem MS.f6 (M : MS w T n h H s) : mI w h 6 = H 0 6 := M.2.1.f6
theorem MS.f7 (M : MS w T n h H s) : mI w h 7 = H 0 7 := M.2.1.f7
theorem MS.f8 (M : MS w T n h H s) : mI w h 8 = H 0 8 := M.2.1.f8
theorem MS.f10 (M : MS w T n h H s) : mI w h 10 = H 0 10 := M.2.1.f10
theorem MS.f12 (M : MS w T n h H s) : mI w h 12 = H 0 12 := M.2.1.f12
theorem MS.f13 (M : MS w T n h H s) : mI w h 13 = H 0 13 := M.2.1.f13
theorem MS.ge (M : MS w T n h H s) : 252 ≤ h := M.2.1.ge
theorem MS.tp (M : MS w T n h H s) : MTp w T n := M.2.2.2.1
theorem MS.sx (M : MS w T n h H s) : SX w := M.2.2.2.2.2.1
theorem MS.k (M : MS w T n h H s) : MKs w T n s := M.2.2.2.2.2.2
theorem MS.tok (M : MS w T n h H s) (f : Ftk w u) (k : MKs u T n s2) : MS u T n h H s2 := by
  obtain ⟨m1, m2, m3, m4, ⟨m5, m6, m7⟩, m8, m9⟩ := M
  have ge := m2.ge
  exact ⟨m1.frR f.1.q f.2.1, m2.frF f.1 (fun b hb z => by unfold tkP at z; omega), by rw [f.2.1]; exact m3, m4.fr f, ⟨by rw [f.1.q]; exact m5, by rw [f.2.1]; exact m6, by rw [(f.1.2.2.2 (h + 16) (fun z => by unfold tkP at z; omega)).2.2]; exact m7⟩, m8.fr f.1, k⟩
theorem gMk_bd (t : Int) : 0 ≤ gMk t ∧ gMk t ≤ 4 := by
  unfold gMk
  (repeat' split) <;> omega
theorem gMk_1 {t : Int} : gMk t = 2 ↔ t = 1 := by
  unfold gMk
  (repeat' split) <;> omega
theorem gMk_2 {t : Int} : gMk t = 3 ↔ t = 2 := by
  unfold gMk
  (repeat' split) <;> omega
theorem gMk_5 {t : Int} : gMk t = 1 ↔ t = 5 := by
  unfold gMk
  (repeat' split) <;> omega
/-- at a token the sort is no OVER -/
theorem MS.n9 (M : MS w T n h H s) : ∃ v, mI w 238 9 = v ∧ 0 ≤ v ∧ v ≤ 5 ∧ (v = 5 ↔ bl s = 0) := by
  have K := M.k
  cases s with
  | inl p =>
    have b := gMk_bd (tK T n p)
    have e := K.2.2.1
    have l : bl (.inl p) = 1 := rfl
    exact ⟨_, rfl, by omega, by omega, by omega⟩
  | inr x =>
    have e := K.1
    have l : bl (.inr x) = 0 := rfl
    exact ⟨_, rfl, by omega, by omega, by omega⟩
theorem ms_go (M : MS w T n h H s) (hs : ∀ p, s = .inl p → tK T n p ≠ 0) : ∃ u, rn 178 (0, [(0, jvr 238)], [], w) = some (none, u) ∧ MS u T n h H (pG T n s) ∧ Ftk w u := by
  have K := M.k
  have a := M.a
  cases s with
  | inl p =>
    obtain ⟨k1, k2, k3, k4, k5, k6, k7, k8⟩ := K
    have b := gMk_bd (tK T n p)
    have tb := tke_bd (T := T) k1
    obtain ⟨u, e, t, k, f⟩ := m_go M.tp (p := tE T n p) tb.2.1 (k2 (hs p rfl)) (by omega) k8
    exact ⟨u, e, M.tok f k, f⟩
  | inr x =>
    have k9 := K.1
    refine ⟨w, ?_, M, Ftk.rf⟩
    simp (disch := omega) only [p178_0, p178_1, p178_4, p178_5, p178_8, p178_10, p178_11, p178_14, p178_17, p178_19, p178_22, p178_23i, p178_23a, p178_24, p178_27, p178_28, p178_29, p178_32, p178_35, p178_36, p178_37, p178_40, p178_43, p178_44, p178_45, p178_48, p178_49, p178_50, p178_53, p178_54, p178_55, p178_58, p178_61, p178_62, p178_63, p178_64, p178_65, p178_66, p178_69, p178_70, p178_71, p178_74, p178_77, p178_78, p178_81, p178_84, p178_85, p178_86, p178_89, p178_90, p178_91, p178_94, p178_97, p178_100, p178_103, p178_104, p178_106, p178_109, p178_110, p178_113, p178_114, p178_115, p178_116, p178_119, p178_122, p178_123, p178_124, p178_127, p178_128, p178_131, p178_132, p178_133, p178_136, p178_137, p178_138, p178_140, p178_141, p178_142, p178_143, p178_144, p178_145, p178_148, p178_151, p178_152i, p178_152a, p178_153, p178_156, p178_157, p178_158, p178_161, p178_164, p178_165, p178_166, p178_169, p178_170, p178_172, p178_175, p178_176, p178_177, p178_180, p178_183, p178_184, p178_187, p178_190, p178_191, p178_192, p178_195, p178_196, p178_197, p178_200, p178_203, p178_206, p178_209, p178_210, p178_211, p178_214, p178_215, p178_217, p178_218, p178_221, p178_222, p178_223, p178_224, p178_227, p178_230, p178_231, p178_233, p178_234, p178_237, p178_240, p178_241i, p178_241a, p178_242, p178_245, p178_246, p178_247, p178_250, p178_253, p178_254, p178_255, p178_258, p178_259, p178_260, p178_263, p178_266, p178_267, p178_269, p178_272, p178_273, p178_275, p178_278, p178_279, p178_280, p178_283, p178_284, p178_285, p178_288, p178_289i, p178_289a, p178_290, p178_293, p178_294, p178_295, p178_298, jwd_c, jwd_0, Nat.reduceLeDiff, Nat.reduceEqDiff, Nat.reduceAdd, Nat.reduceSub, Nat.reduceMul, Int.reduceAdd, Int.reduceSub, Int.reduceMul, Int.reduceNeg, Int.reduceEq, Int.reduceLT, Int.reduceLE, jq_ldi_i, jq_ldl_l, jq_lda_a, jq_inc_i, jq_gs_t, jq_gsb_t, jq_gb_t, jq_gr_2, jq_gr_4, jq_gw_2, jq_s_t, jq_b_t, jg_c, jg_n, js_c, js_n, jrm_c, jrm_n, j2_i, j2_l, j2_a, jq_c_i, jq_c_l, jq_c_0, jq_c_n, jwd_le, jw_c0, mS_I, mS_R, mS_J, mN_I, mN_R, mN_J, mR_I, mI_R, mJ_I, mJ_R, mI_J, mR_J, ↓reduceIte, decide_true, or_true, true_or, and_self, false_or, or_false, reduceCtorEq, Bool.false_eq_true, and_false, false_and, eq_self, true_and, and_true, zero_ne, ↓br_lt_t, ↓br_lt_f, ↓br_eq_t, ↓br_eq_f, ↓br_lz_t, ↓br_lz_f, ↓br_ez_t, ↓br_ez_f, ↓br_gz_t, ↓br_gz_f, jw_id, jin_t, jix_t, ↓ite_t, ↓ite_f, a, k9]
theorem ms_flaw (M : MS w T n h H s) {f : Int} : ∃ u, rn 187 (0, [(0, jvr 238), (1, .inl f)], [], w) = some (none, u) ∧ MS u T n h H (pF T n f s) ∧ Ftk w u := by
  have K := M.k
  have a := M.a
  cases s with
  | inl p =>
    obtain ⟨k1, k2, k3, k4, k5, k6, k7, k8⟩ := K
    have b := gMk_bd (tK T n p)
    have b10 : mI (setI w 238 14 f) 238 10 = tS T n p := by rw [mI_nk (by omega)]; exact k4
    have ft : Ftk w (setI (setI (setI w 238 14 f) 238 15 (tS T n p)) 238 9 5) := ((Ftk.I (by omega)).tr (Ftk.I (by omega))).tr (Ftk.I (by omega))
    refine ⟨_, ?_, M.tok (s2 := .inr (f, (tS T n p : Int))) ft ⟨mI_s _ _ _ _, by rw [mI_nk (by omega), mI_nk (by omega), mI_s], by rw [mI_nk (by omega), mI_s]⟩, ft⟩
    simp (disch := omega) only [p187_0, p187_1, p187_4, p187_5, p187_8, p187_9, p187_10, p187_11, p187_14, p187_15, p187_16, p187_19, p187_22, p187_23, p187_24, p187_27, jwd_c, jwd_0, Nat.reduceLeDiff, Nat.reduceEqDiff, Nat.reduceAdd, Nat.reduceSub, Nat.reduceMul, Int.reduceAdd, Int.reduceSub, Int.reduceMul, Int.reduceNeg, Int.reduceEq, Int.reduceLT, Int.reduceLE, jq_ldi_i, jq_ldl_l, jq_lda_a, jq_inc_i, jq_gs_t, jq_gsb_t, jq_gb_t, jq_gr_2, jq_gr_4, jq_gw_2, jq_s_t, jq_b_t, jg_c, jg_n, js_c, js_n, jrm_c, jrm_n, j2_i, j2_l, j2_a, jq_c_i, jq_c_l, jq_c_0, jq_c_n, jwd_le, jw_c0, mS_I, mS_R, mS_J, mN_I, mN_R, mN_J, mR_I, mI_R, mJ_I, mJ_R, mI_J, mR_J, ↓reduceIte, decide_true, or_true, true_or, and_self, false_or, or_false, reduceCtorEq, Bool.false_eq_true, and_false, false_and, eq_self, true_and, and_true, zero_ne, ↓br_lt_t, ↓br_lt_f, ↓br_eq_t, ↓br_eq_f, ↓br_lz_t, ↓br_lz_f, ↓br_ez_t, ↓br_ez_f, ↓br_gz_t, ↓br_gz_f, jw_id, jin_t, jix_t, ↓ite_t, ↓ite_f, a, k3, b10]
  | inr x =>
    have k9 := K.1
    refine ⟨w, ?_, M, Ftk.rf⟩
    simp (disch := omega) only [p187_0, p187_1, p187_4, p187_5, p187_8, p187_9, p187_10, p187_11, p187_14, p187_15, p187_16, p187_19, p187_22, p187_23, p187_24, p187_27, jwd_c, jwd_0, Nat.reduceLeDiff, Nat.reduceEqDiff, Nat.reduceAdd, Nat.reduceSub, Nat.reduceMul, Int.reduceAdd, Int.reduceSub, Int.reduceMul, Int.reduceNeg, Int.reduceEq, Int.reduceLT, Int.reduceLE, jq_ldi_i, jq_ldl_l, jq_lda_a, jq_inc_i, jq_gs_t, jq_gsb_t, jq_gb_t, jq_gr_2, jq_gr_4, jq_gw_2, jq_s_t, jq_b_t, jg_c, jg_n, js_c, js_n, jrm_c, jrm_n, j2_i, j2_l, j2_a, jq_c_i, jq_c_l, jq_c_0, jq_c_n, jwd_le, jw_c0, mS_I, mS_R, mS_J, mN_I, mN_R, mN_J, mR_I, mI_R, mJ_I, mJ_R, mI_J, mR_J, ↓reduceIte, decide_true, or_true, true_or, and_self, false_or, or_false, reduceCtorEq, Bool.false_eq_true, and_false, false_and, eq_self, true_and, and_true, zero_ne, ↓br_lt_t, ↓br_lt_f, ↓br_eq_t, ↓br_eq_f, ↓br_lz_t, ↓br_lz_f, ↓br_ez_t, ↓br_ez_f, ↓br_gz_t, ↓br_gz_f, jw_id, jin_t, jix_t, ↓ite_t, ↓ite_f, a, k9]
theorem wo_lp {a k : Nat} (ha : (mS w a).1 = 3) (hk : (mS w a).2.1 = k) (hl : (jst k).length ≤ 8) (hb : ∀ i, i < (jst k).length → 97 ≤ (((jst k).getD i 0 : Nat) : Int) ∧ (((jst k).getD i 0 : Nat) : Int) ≤ 122) : ∀ (m i : Nat) (lv : jmL), i + m = (jst k).length → (lv = [(0, jvr a), (1, .inr (.inl (gCw (fun k2 => (((jst k).getD k2 0 : Nat) : Int)) i))), (3, .inl (i : Int))] ∨ lv = [(0, jvr a), (3, .inl (i : Int)), (1, .inr (.inl (gCw (fun k2 => (((jst k).getD k2 0 : Nat) : Int)) i)))]) → rn 185 (4, lv, [], w) = some (some (.inr (.inl (cD (jst k)))), w) := by
  intro m
  induction m with
  | zero =>
    intro i lv hi hv
    have e : cD (jst k) = gCw (fun k2 => (((jst k).getD k2 0 : Nat) : Int)) i := by
      unfold cD
      rw [show i = (jst k).length by omega]
    rw [e, p185_4]
    rcases hv with rfl | rfl <;> simp (disch := omega) only [p185_0, p185_1, p185_2, p185_3, p185_5, p185_6, p185_9, p185_12, p185_15, p185_16, p185_17, p185_18, p185_19, p185_22, p185_24, p185_25, p185_26, p185_27, p185_28, p185_29, p185_30, p185_33, p185_36, p185_37, jwd_c, jwd_0, Nat.reduceLeDiff, Nat.reduceEqDiff, Nat.reduceAdd, Nat.reduceSub, Nat.reduceMul, Int.reduceAdd, Int.reduceSub, Int.reduceMul, Int.reduceNeg, Int.reduceEq, Int.reduceLT, Int.reduceLE, jq_ldi_i, jq_ldl_l, jq_lda_a, jq_inc_i, jq_gs_t, jq_gsb_t, jq_gb_t, jq_gr_2, jq_gr_4, jq_gw_2, jq_s_t, jq_b_t, jg_c, jg_n, js_c, js_n, jrm_c, jrm_n, j2_i, j2_l, j2_a, jq_c_i, jq_c_l, jq_c_0, jq_c_n, jwd_le, jw_c0, mS_I, mS_R, mS_J, mN_I, mN_R, mN_J, mR_I, mI_R, mJ_I, mJ_R, mI_J, mR_J, ↓reduceIte, decide_true, or_true, true_or, and_self, false_or, or_false, reduceCtorEq, Bool.false_eq_true, and_false, false_and, eq_self, true_and, and_true, zero_ne, ↓br_lt_t, ↓br_lt_f, ↓br_eq_t, ↓br_eq_f, ↓br_lz_t, ↓br_lz_f, ↓br_ez_t, ↓br_ez_f, ↓br_gz_t, ↓br_gz_f, jw_id, jin_t, jix_t, ↓ite_t, ↓ite_f, ha, hk]
  | succ m ih =>
    intro i lv hi hv
    have i1 := ih (i + 1) _ (by omega) (Or.inr rfl)
    have e : gCw (fun k2 => (((jst k).getD k2 0 : Nat) : Int)) (i + 1) = 32 * gCw (fun k2 => (((jst k).getD k2 0 : Nat) : Int)) i + ((((jst k).getD i 0 : Nat) : Int) - 97 + 1) := rfl
    have b := hb i (by omega)
    rw [e, show ((i + 1 : Nat) : Int) = (i : Int) + 1 by omega] at i1
    rw [← i1, p185_4]
    generalize gCw (fun k2 => (((jst k).getD k2 0 : Nat) : Int)) i = v at *
    generalize hc : (jst k).getD i 0 = c at *
    have d2 : (jst k).getD ((i : Int)).toNat 0 = c := by
      rw [Int.toNat_natCast]
      exact hc
    rcases hv with rfl | rfl <;> simp (disch := omega) only [p185_0, p185_1, p185_2, p185_3, p185_5, p185_6, p185_9, p185_12, p185_15, p185_16, p185_17, p185_18, p185_19, p185_22, p185_24, p185_25, p185_26, p185_27, p185_28, p185_29, p185_30, p185_33, p185_36, p185_37, jwd_c, jwd_0, Nat.reduceLeDiff, Nat.reduceEqDiff, Nat.reduceAdd, Nat.reduceSub, Nat.reduceMul, Int.reduceAdd, Int.reduceSub, Int.reduceMul, Int.reduceNeg, Int.reduceEq, Int.reduceLT, Int.reduceLE, jq_ldi_i, jq_ldl_l, jq_lda_a, jq_inc_i, jq_gs_t, jq_gsb_t, jq_gb_t, jq_gr_2, jq_gr_4, jq_gw_2, jq_s_t, jq_b_t, jg_c, jg_n, js_c, js_n, jrm_c, jrm_n, j2_i, j2_l, j2_a, jq_c_i, jq_c_l, jq_c_0, jq_c_n, jwd_le, jw_c0, mS_I, mS_R, mS_J, mN_I, mN_R, mN_J, mR_I, mI_R, mJ_I, mJ_R, mI_J, mR_J, ↓reduceIte, decide_true, or_true, true_or, and_self, false_or, or_false, reduceCtorEq, Bool.false_eq_true, and_false, false_and, eq_self, true_and, and_true, zero_ne, ↓br_lt_t, ↓br_lt_f, ↓br_eq_t, ↓br_eq_f, ↓br_lz_t, ↓br_lz_f, ↓br_ez_t, ↓br_ez_f, ↓br_gz_t, ↓br_gz_f, jw_id, jin_t, jix_t, ↓ite_t, ↓ite_f, ha, hk, d2, jw_id]
theorem m_wo {a k : Nat} (ha : (mS w a).1 = 3) (hk : (mS w a).2.1 = k) (hl : (jst k).length ≤ 8) (hb : ∀ i, i < (jst k).length → 97 ≤ (((jst k).getD i 0 : Nat) : Int) ∧ (((jst k).getD i 0 : Nat) : Int) ≤ 122) : rn 185 (0, [(0, jvr a)], [], w) = some (some (.inr (.inl (cD (jst k)))), w) := by
  have e := wo_lp ha hk hl hb (jst k).length 0 _ (by omega) (Or.inl rfl)
  rw [← e]
  simp (disch := omega) only [p185_0, p185_1, p185_2, p185_3, p185_5, p185_6, p185_9, p185_12, p185_15, p185_16, p185_17, p185_18, p185_19, p185_22, p185_24, p185_25, p185_26, p185_27, p185_28, p185_29, p185_30, p185_33, p185_36, p185_37, jwd_c, jwd_0, Nat.reduceLeDiff, Nat.reduceEqDiff, Nat.reduceAdd, Nat.reduceSub, Nat.reduceMul, Int.reduceAdd, Int.reduceSub, Int.reduceMul, Int.reduceNeg, Int.reduceEq, Int.reduceLT, Int.reduceLE, jq_ldi_i, jq_ldl_l, jq_lda_a, jq_inc_i, jq_gs_t, jq_gsb_t, jq_gb_t, jq_gr_2, jq_gr_4, jq_gw_2, jq_s_t, jq_b_t, jg_c, jg_n, js_c, js_n, jrm_c, jrm_n, j2_i, j2_l, j2_a, jq_c_i, jq_c_l, jq_c_0, jq_c_n, jwd_le, jw_c0, mS_I, mS_R, mS_J, mN_I, mN_R, mN_J, mR_I, mI_R, mJ_I, mJ_R, mI_J, mR_J, ↓reduceIte, decide_true, or_true, true_or, and_self, false_or, or_false, reduceCtorEq, Bool.false_eq_true, and_false, false_and, eq_self, true_and, and_true, zero_ne, ↓br_lt_t, ↓br_lt_f, ↓br_eq_t, ↓br_eq_f, ↓br_lz_t, ↓br_lz_f, ↓br_ez_t, ↓br_ez_f, ↓br_gz_t, ↓br_gz_f, jw_id, jin_t, jix_t, ↓ite_t, ↓ite_f]
  rfl
theorem p32_le : (32 : Int) ^ 8 = 1099511627776 := by decide
theorem cw_8 {f : Nat → Int} {m : Nat} (hm : m ≤ 8) (h : ∀ k, k < m → 97 ≤ f k ∧ f k ≤ 122) : 0 ≤ gCw f m ∧ gCw f m < 1099511627776 := by
  have b := cw_bd m hm h
  have : m = 0 ∨ m = 1 ∨ m = 2 ∨ m = 3 ∨ m = 4 ∨ m = 5 ∨ m = 6 ∨ m = 7 ∨ m = 8 := by omega
  refine ⟨b.1, Int.lt_of_lt_of_le b.2 ?_⟩
  rcases this with h | h | h | h | h | h | h | h | h <;> rw [h] <;> decide
theorem ms_isWord (M : MS w T n h H s) {k : Nat} {c : List Nat} (wo : wom k c = true) : rn 184 (0, [(0, jvr 238), (1, jvr (2 + k))], [], w) = some (some (.inl (if gIs T n s (cD c) = true then 1 else 0)), w) := by
  have K := M.k
  have a := M.a
  unfold wom at wo
  simp only [Bool.and_eq_true, decide_eq_true_iff] at wo
  obtain ⟨⟨⟨o1, o2⟩, o3⟩, o4⟩ := wo
  have sx := M.sx k o4
  have ew := m_wo (w := w) (a := 2 + k) (k := k) sx.1 sx.2 (by rw [o1]; exact o3) (by
    rw [o1]
    exact lt_bd o2)
  rw [o1] at ew
  have cb : 0 ≤ cD c ∧ cD c < 1099511627776 := cw_8 o3 (lt_bd o2)
  cases s with
  | inl p =>
    obtain ⟨k1, k2, k3, k4, k5, k6, k7, k8⟩ := K
    have b := gMk_bd (tK T n p)
    have e1 : gIs T n (.inl p) (cD c) = decide (tK T n p = 1 ∧ tW T n p = cD c) := rfl
    rw [e1]
    by_cases z : tK T n p = 1
    · obtain ⟨y1, y2, y3⟩ := k7 z
      have tl := tw_lt z
      have wb : 0 ≤ tW T n p ∧ tW T n p < 1099511627776 := cw_8 tl.2 tl.1
      rw [gMk_1.mpr z] at k3
      have hx := jwl_id (z := tW T n p) (by omega) (by omega)
      have hy := jwl_id (z := cD c) (by omega) (by omega)
      generalize tW T n p = W at *
      generalize cD c = D at *
      by_cases q1 : W = D
      · rw [if_pos (decide_eq_true ⟨z, q1⟩)]
        simp (disch := omega) only [p184_0, p184_1, p184_4, p184_5, p184_8, p184_9, p184_12, p184_13, p184_16, p184_17, p184_20, p184_21, p184_24, p184_25, jwd_c, jwd_0, Nat.reduceLeDiff, Nat.reduceEqDiff, Nat.reduceAdd, Nat.reduceSub, Nat.reduceMul, Int.reduceAdd, Int.reduceSub, Int.reduceMul, Int.reduceNeg, Int.reduceEq, Int.reduceLT, Int.reduceLE, jq_ldi_i, jq_ldl_l, jq_lda_a, jq_inc_i, jq_gs_t, jq_gsb_t, jq_gb_t, jq_gr_2, jq_gr_4, jq_gw_2, jq_s_t, jq_b_t, jg_c, jg_n, js_c, js_n, jrm_c, jrm_n, j2_i, j2_l, j2_a, jq_c_i, jq_c_l, jq_c_0, jq_c_n, jwd_le, jw_c0, mS_I, mS_R, mS_J, mN_I, mN_R, mN_J, mR_I, mI_R, mJ_I, mJ_R, mI_J, mR_J, ↓reduceIte, decide_true, or_true, true_or, and_self, false_or, or_false, reduceCtorEq, Bool.false_eq_true, and_false, false_and, eq_self, true_and, and_true, zero_ne, ↓br_lt_t, ↓br_lt_f, ↓br_eq_t, ↓br_eq_f, ↓br_lz_t, ↓br_lz_f, ↓br_ez_t, ↓br_ez_f, ↓br_gz_t, ↓br_gz_f, jw_id, jin_t, jix_t, ↓ite_t, ↓ite_f, a, k3, y2, ew]
      · rw [if_neg (fun x => q1 (of_decide_eq_true x).2)]
        by_cases q2 : W < D
        · simp (disch := omega) only [p184_0, p184_1, p184_4, p184_5, p184_8, p184_9, p184_12, p184_13, p184_16, p184_17, p184_20, p184_21, p184_24, p184_25, jwd_c, jwd_0, Nat.reduceLeDiff, Nat.reduceEqDiff, Nat.reduceAdd, Nat.reduceSub, Nat.reduceMul, Int.reduceAdd, Int.reduceSub, Int.reduceMul, Int.reduceNeg, Int.reduceEq, Int.reduceLT, Int.reduceLE, jq_ldi_i, jq_ldl_l, jq_lda_a, jq_inc_i, jq_gs_t, jq_gsb_t, jq_gb_t, jq_gr_2, jq_gr_4, jq_gw_2, jq_s_t, jq_b_t, jg_c, jg_n, js_c, js_n, jrm_c, jrm_n, j2_i, j2_l, j2_a, jq_c_i, jq_c_l, jq_c_0, jq_c_n, jwd_le, jw_c0, mS_I, mS_R, mS_J, mN_I, mN_R, mN_J, mR_I, mI_R, mJ_I, mJ_R, mI_J, mR_J, ↓reduceIte, decide_true, or_true, true_or, and_self, false_or, or_false, reduceCtorEq, Bool.false_eq_true, and_false, false_and, eq_self, true_and, and_true, zero_ne, ↓br_lt_t, ↓br_lt_f, ↓br_eq_t, ↓br_eq_f, ↓br_lz_t, ↓br_lz_f, ↓br_ez_t, ↓br_ez_f, ↓br_gz_t, ↓br_gz_f, jw_id, jin_t, jix_t, ↓ite_t, ↓ite_f, a, k3, y2, ew]
        · simp (disch := omega) only [p184_0, p184_1, p184_4, p184_5, p184_8, p184_9, p184_12, p184_13, p184_16, p184_17, p184_20, p184_21, p184_24, p184_25, jwd_c, jwd_0, Nat.reduceLeDiff, Nat.reduceEqDiff, Nat.reduceAdd, Nat.reduceSub, Nat.reduceMul, Int.reduceAdd, Int.reduceSub, Int.reduceMul, Int.reduceNeg, Int.reduceEq, Int.reduceLT, Int.reduceLE, jq_ldi_i, jq_ldl_l, jq_lda_a, jq_inc_i, jq_gs_t, jq_gsb_t, jq_gb_t, jq_gr_2, jq_gr_4, jq_gw_2, jq_s_t, jq_b_t, jg_c, jg_n, js_c, js_n, jrm_c, jrm_n, j2_i, j2_l, j2_a, jq_c_i, jq_c_l, jq_c_0, jq_c_n, jwd_le, jw_c0, mS_I, mS_R, mS_J, mN_I, mN_R, mN_J, mR_I, mI_R, mJ_I, mJ_R, mI_J, mR_J, ↓reduceIte, decide_true, or_true, true_or, and_self, false_or, or_false, reduceCtorEq, Bool.false_eq_true, and_false, false_and, eq_self, true_and, and_true, zero_ne, ↓br_lt_t, ↓br_lt_f, ↓br_eq_t, ↓br_eq_f, ↓br_lz_t, ↓br_lz_f, ↓br_ez_t, ↓br_ez_f, ↓br_gz_t, ↓br_gz_f, jw_id, jin_t, jix_t, ↓ite_t, ↓ite_f, a, k3, y2, ew]
    · rw [if_neg (fun x => z (of_decide_eq_true x).1)]
      have k3' : mI w 238 9 ≠ 2 := fun x => z (gMk_1.mp (by omega))
      simp (disch := omega) only [p184_0, p184_1, p184_4, p184_5, p184_8, p184_9, p184_12, p184_13, p184_16, p184_17, p184_20, p184_21, p184_24, p184_25, jwd_c, jwd_0, Nat.reduceLeDiff, Nat.reduceEqDiff, Nat.reduceAdd, Nat.reduceSub, Nat.reduceMul, Int.reduceAdd, Int.reduceSub, Int.reduceMul, Int.reduceNeg, Int.reduceEq, Int.reduceLT, Int.reduceLE, jq_ldi_i, jq_ldl_l, jq_lda_a, jq_inc_i, jq_gs_t, jq_gsb_t, jq_gb_t, jq_gr_2, jq_gr_4, jq_gw_2, jq_s_t, jq_b_t, jg_c, jg_n, js_c, js_n, jrm_c, jrm_n, j2_i, j2_l, j2_a, jq_c_i, jq_c_l, jq_c_0, jq_c_n, jwd_le, jw_c0, mS_I, mS_R, mS_J, mN_I, mN_R, mN_J, mR_I, mI_R, mJ_I, mJ_R, mI_J, mR_J, ↓reduceIte, decide_true, or_true, true_or, and_self, false_or, or_false, reduceCtorEq, Bool.false_eq_true, and_false, false_and, eq_self, true_and, and_true, zero_ne, ↓br_lt_t, ↓br_lt_f, ↓br_eq_t, ↓br_eq_f, ↓br_lz_t, ↓br_lz_f, ↓br_ez_t, ↓br_ez_f, ↓br_gz_t, ↓br_gz_f, jw_id, jin_t, jix_t, ↓ite_t, ↓ite_f, a]
  | inr x =>
    have k9 := K.1
    have e1 : gIs T n (.inr x) (cD c) = false := rfl
    rw [e1, if_neg (by decide)]
    simp (disch := omega) only [p184_0, p184_1, p184_4, p184_5, p184_8, p184_9, p184_12, p184_13, p184_16, p184_17, p184_20, p184_21, p184_24, p184_25, jwd_c, jwd_0, Nat.reduceLeDiff, Nat.reduceEqDiff, Nat.reduceAdd, Nat.reduceSub, Nat.reduceMul, Int.reduceAdd, Int.reduceSub, Int.reduceMul, Int.reduceNeg, Int.reduceEq, Int.reduceLT, Int.reduceLE, jq_ldi_i, jq_ldl_l, jq_lda_a, jq_inc_i, jq_gs_t, jq_gsb_t, jq_gb_t, jq_gr_2, jq_gr_4, jq_gw_2, jq_s_t, jq_b_t, jg_c, jg_n, js_c, js_n, jrm_c, jrm_n, j2_i, j2_l, j2_a, jq_c_i, jq_c_l, jq_c_0, jq_c_n, jwd_le, jw_c0, mS_I, mS_R, mS_J, mN_I, mN_R, mN_J, mR_I, mI_R, mJ_I, mJ_R, mI_J, mR_J, ↓reduceIte, decide_true, or_true, true_or, and_self, false_or, or_false, reduceCtorEq, Bool.false_eq_true, and_false, false_and, eq_self, true_and, and_true, zero_ne, ↓br_lt_t, ↓br_lt_f, ↓br_eq_t, ↓br_eq_f, ↓br_lz_t, ↓br_lz_f, ↓br_ez_t, ↓br_ez_f, ↓br_gz_t, ↓br_gz_f, jw_id, jin_t, jix_t, ↓ite_t, ↓ite_f, a, k9]
theorem po_g {ws : List Int} : pO T n ws s = if 0 ≤ pI T n ws s then pG T n s else pF T n 1 s := by
  cases s with
  | inl p => rfl
  | inr x =>
    have e : pI T n ws (.inr x) = -1 := rfl
    rw [e, if_neg (by decide)]
    rfl
theorem pi_k {ws : List Int} {p : Nat} (h : 0 ≤ pI T n ws (.inl p)) : tK T n p = 1 := by
  have eI : pI T n ws (.inl p) = if tK T n p = 1 then gWi ws (tW T n p) 0 else -1 := rfl
  by_cases z : tK T n p = 1
  · exact z
  · rw [if_neg z] at eI
    omega
theorem is_1 {c : Int} : gIs T n s c = true ↔ 0 ≤ pI T n [c] s := by
  cases s with
  | inl p =>
    have e1 : gIs T n (.inl p) c = decide (tK T n p = 1 ∧ tW T n p = c) := rfl
    have eI : pI T n [c] (.inl p) = if tK T n p = 1 then gWi [c] (tW T n p) 0 else -1 := rfl
    have eG : gWi [c] (tW T n p) 0 = if tW T n p = c then 0 else -1 := rfl
    rw [e1, eI, eG, decide_eq_true_iff]
    by_cases z : tK T n p = 1
    · rw [if_pos z]
      by_cases y : tW T n p = c
      · rw [if_pos y]
        exact ⟨fun _ => by omega, fun _ => ⟨z, y⟩⟩
      · rw [if_neg y]
        exact ⟨fun x => absurd x.2 y, fun x => by omega⟩
    · rw [if_neg z]
      exact ⟨fun x => absurd x.1 z, fun x => by omega⟩
  | inr x =>
    have e1 : gIs T n (.inr x) c = false := rfl
    have eI : pI T n [c] (.inr x) = -1 := rfl
    rw [e1, eI]
    exact ⟨fun x => (by cases x), fun x => by omega⟩
/-- what a flaw leaves isn't gone over -/
theorem pf_n {f : Int} {p : Nat} (e : pF T n f s = .inl p) : False := by
  cases s with
  | inl q =>
    have e : (Sum.inr (f, (tS T n q : Int)) : gSg) = .inl p := e
    cases e
  | inr x =>
    have e : (Sum.inr x : gSg) = .inl p := e
    cases e
theorem pg_f {f : Int} : pG T n (pF T n f s) = pF T n f s := by
  cases s <;> rfl
/-- gone over if good, else a flaw, then gone over -/
theorem ms_gf (M : MS w T n h H s) {b : Prop} [Decidable b] (hb : b → ∀ p, s = .inl p → tK T n p ≠ 0) (f : Int) : (b → ∃ u, rn 178 (0, [(0, jvr 238)], [], w) = some (none, u) ∧ MS u T n h H (if b then pG T n s else pF T n f s) ∧ Ftk w u) ∧ (¬ b → ∃ v u, rn 187 (0, [(0, jvr 238), (1, .inl f)], [], w) = some (none, v) ∧ mS v = mS w ∧ rn 178 (0, [(0, jvr 238)], [], v) = some (none, u) ∧ MS u T n h H (if b then pG T n s else pF T n f s) ∧ Ftk w u) := by
  refine ⟨fun z => ?_, fun z => ?_⟩
  · rw [if_pos z]
    exact ms_go M (hb z)
  · rw [if_neg z]
    obtain ⟨v, e1, M1, f1⟩ := ms_flaw M (f := f)
    obtain ⟨u, e2, M2, f2⟩ := ms_go M1 (fun p e => (pf_n e).elim)
    rw [pg_f] at M2
    exact ⟨v, u, e1, f1.1.q, e2, M2, f1.tr f2⟩
theorem ms_needs (M : MS w T n h H s) {k : Nat} {c : List Nat} (wo : wom k c = true) : ∃ u, rn 189 (0, [(0, jvr 238), (1, jvr (2 + k))], [], w) = some (none, u) ∧ MS u T n h H (pO T n [cD c] s) ∧ Ftk w u := by
  have ew := ms_isWord M wo
  have a := M.a
  rw [po_g]
  have gf := ms_gf M (b := 0 ≤ pI T n [cD c] s) (fun z p e => by
    subst e
    have := pi_k z
    omega) 1
  by_cases z : gIs T n s (cD c) = true
  · rw [if_pos z] at ew
    obtain ⟨u, e, M2, f⟩ := gf.1 (is_1.mp z)
    refine ⟨u, ?_, M2, f⟩
    simp (disch := omega) only [p189_0, p189_1, p189_2, p189_5, p189_8, p189_9, p189_10, p189_13, p189_14, p189_17, jwd_c, jwd_0, Nat.reduceLeDiff, Nat.reduceEqDiff, Nat.reduceAdd, Nat.reduceSub, Nat.reduceMul, Int.reduceAdd, Int.reduceSub, Int.reduceMul, Int.reduceNeg, Int.reduceEq, Int.reduceLT, Int.reduceLE, jq_ldi_i, jq_ldl_l, jq_lda_a, jq_inc_i, jq_gs_t, jq_gsb_t, jq_gb_t, jq_gr_2, jq_gr_4, jq_gw_2, jq_s_t, jq_b_t, jg_c, jg_n, js_c, js_n, jrm_c, jrm_n, j2_i, j2_l, j2_a, jq_c_i, jq_c_l, jq_c_0, jq_c_n, jwd_le, jw_c0, mS_I, mS_R, mS_J, mN_I, mN_R, mN_J, mR_I, mI_R, mJ_I, mJ_R, mI_J, mR_J, ↓reduceIte, decide_true, or_true, true_or, and_self, false_or, or_false, reduceCtorEq, Bool.false_eq_true, and_false, false_and, eq_self, true_and, and_true, zero_ne, ↓br_lt_t, ↓br_lt_f, ↓br_eq_t, ↓br_eq_f, ↓br_lz_t, ↓br_lz_f, ↓br_ez_t, ↓br_ez_f, ↓br_gz_t, ↓br_gz_f, jw_id, jin_t, jix_t, ↓ite_t, ↓ite_f, a, ew, e]
  · rw [if_neg z] at ew
    obtain ⟨v, u, e1, q, e2, M2, f⟩ := gf.2 (fun x => z (is_1.mpr x))
    refine ⟨u, ?_, M2, f⟩
    have av : mS v 238 = (1, 9, 0) := by rw [q]; exact a
    simp (disch := omega) only [p189_0, p189_1, p189_2, p189_5, p189_8, p189_9, p189_10, p189_13, p189_14, p189_17, jwd_c, jwd_0, Nat.reduceLeDiff, Nat.reduceEqDiff, Nat.reduceAdd, Nat.reduceSub, Nat.reduceMul, Int.reduceAdd, Int.reduceSub, Int.reduceMul, Int.reduceNeg, Int.reduceEq, Int.reduceLT, Int.reduceLE, jq_ldi_i, jq_ldl_l, jq_lda_a, jq_inc_i, jq_gs_t, jq_gsb_t, jq_gb_t, jq_gr_2, jq_gr_4, jq_gw_2, jq_s_t, jq_b_t, jg_c, jg_n, js_c, js_n, jrm_c, jrm_n, j2_i, j2_l, j2_a, jq_c_i, jq_c_l, jq_c_0, jq_c_n, jwd_le, jw_c0, mS_I, mS_R, mS_J, mN_I, mN_R, mN_J, mR_I, mI_R, mJ_I, mJ_R, mI_J, mR_J, ↓reduceIte, decide_true, or_true, true_or, and_self, false_or, or_false, reduceCtorEq, Bool.false_eq_true, and_false, false_and, eq_self, true_and, and_true, zero_ne, ↓br_lt_t, ↓br_lt_f, ↓br_eq_t, ↓br_eq_f, ↓br_lz_t, ↓br_lz_f, ↓br_ez_t, ↓br_ez_f, ↓br_gz_t, ↓br_gz_f, jw_id, jin_t, jix_t, ↓ite_t, ↓ite_f, a, ew, e1, av, e2]
theorem gMg_4 {t : Int} (h0 : 0 ≤ t) (h5 : t ≤ 5) : (gMk t = 4 ∧ gMg t = 44 ↔ t = 4) ∧ (gMk t = 4 ∧ gMg t = 59 ↔ t = 3) := by
  have : t = 0 ∨ t = 1 ∨ t = 2 ∨ t = 3 ∨ t = 4 ∨ t = 5 := by omega
  rcases this with rfl | rfl | rfl | rfl | rfl | rfl <;> decide
theorem ps_g {k : Int} : pS T n k s = if (match s with | .inl p => decide (tK T n p = k) | .inr _ => false) = true then pG T n s else pF T n 1 s := by
  cases s with
  | inl p =>
    show (if tK T n p = k then _ else _) = if decide (tK T n p = k) = true then _ else _
    by_cases z : tK T n p = k
    · rw [if_pos z, if_pos (decide_eq_true z)]
      rfl
    · rw [if_neg z, if_neg (fun x => z (of_decide_eq_true x))]
      rfl
  | inr x => rfl
/-- whether a sign is there -/
def gSn (T : Nat → Int) (n : Nat) (s : gSg) (k : Int) : Bool := match s with
  | .inl p => decide (tK T n p = k)
  | .inr _ => false
theorem sn_c (M : MS w T n h H s) {k c : Int} (hk : (k = 4 ∧ c = 44) ∨ (k = 3 ∧ c = 59)) : ∃ x y, mI w 238 9 = x ∧ mI w 238 11 = y ∧ (0 ≤ x ∧ x ≤ 5) ∧ (gSn T n s k = true → x = 4 ∧ y = c) ∧ (gSn T n s k = false → x = 4 → y ≠ c ∧ 0 ≤ y ∧ y ≤ 59) ∧ (gSn T n s k = true → ∀ p, s = .inl p → tK T n p = k) := by
  have K := M.k
  cases s with
  | inl p =>
    obtain ⟨k1, k2, k3, k4, k5, k6, k7, k8⟩ := K
    have b := gMk_bd (tK T n p)
    have tb := tk_bd (T := T) (n := n) p
    have g4 := gMg_4 tb.1 tb.2
    have e : gSn T n (.inl p) k = decide (tK T n p = k) := rfl
    have b2 : 0 ≤ gMg (tK T n p) ∧ gMg (tK T n p) ≤ 59 := by
      unfold gMg
      (repeat' split) <;> omega
    rw [e]
    refine ⟨_, _, k3, k5, by omega, fun z => ?_, fun z x4 => ⟨fun yc => ?_, b2⟩, fun z q hq => ?_⟩
    · have z := of_decide_eq_true z
      rcases hk with ⟨rfl, rfl⟩ | ⟨rfl, rfl⟩
      · exact g4.1.mpr z
      · exact g4.2.mpr z
    · have z := of_decide_eq_false z
      rcases hk with ⟨rfl, rfl⟩ | ⟨rfl, rfl⟩
      · exact z (g4.1.mp ⟨x4, yc⟩)
      · exact z (g4.2.mp ⟨x4, yc⟩)
    · rw [← Sum.inl.inj hq]
      exact of_decide_eq_true z
  | inr x =>
    have e : gSn T n (.inr x) k = false := rfl
    rw [e]
    exact ⟨_, _, K.1, rfl, by omega, fun z => (by cases z), fun z x4 => by omega, fun z => (by cases z)⟩
theorem ms_sign (M : MS w T n h H s) {k c : Int} (hk : (k = 4 ∧ c = 44) ∨ (k = 3 ∧ c = 59)) : ∃ u, rn 197 (0, [(0, jvr 238), (1, .inl c)], [], w) = some (none, u) ∧ MS u T n h H (pS T n k s) ∧ Ftk w u := by
  obtain ⟨x, y, hx, hy, xb, h1, h2, h3⟩ := sn_c M hk
  have a := M.a
  have eg : pS T n k s = if gSn T n s k = true then pG T n s else pF T n 1 s := ps_g
  rw [eg]
  have gf := ms_gf M (b := gSn T n s k = true) (fun z p e => by
    have := h3 z p e
    omega) 1
  cases z : gSn T n s k with
  | true =>
    obtain ⟨u, e, M2, f⟩ := gf.1 z
    obtain ⟨h1, h1'⟩ := h1 z
    rw [z] at M2
    refine ⟨u, ?_, M2, f⟩
    simp (disch := omega) only [p197_0, p197_1, p197_4, p197_5, p197_8, p197_9, p197_12, p197_13, p197_16, p197_17, p197_18, p197_21, p197_22, p197_25, jwd_c, jwd_0, Nat.reduceLeDiff, Nat.reduceEqDiff, Nat.reduceAdd, Nat.reduceSub, Nat.reduceMul, Int.reduceAdd, Int.reduceSub, Int.reduceMul, Int.reduceNeg, Int.reduceEq, Int.reduceLT, Int.reduceLE, jq_ldi_i, jq_ldl_l, jq_lda_a, jq_inc_i, jq_gs_t, jq_gsb_t, jq_gb_t, jq_gr_2, jq_gr_4, jq_gw_2, jq_s_t, jq_b_t, jg_c, jg_n, js_c, js_n, jrm_c, jrm_n, j2_i, j2_l, j2_a, jq_c_i, jq_c_l, jq_c_0, jq_c_n, jwd_le, jw_c0, mS_I, mS_R, mS_J, mN_I, mN_R, mN_J, mR_I, mI_R, mJ_I, mJ_R, mI_J, mR_J, ↓reduceIte, decide_true, or_true, true_or, and_self, false_or, or_false, reduceCtorEq, Bool.false_eq_true, and_false, false_and, eq_self, true_and, and_true, zero_ne, ↓br_lt_t, ↓br_lt_f, ↓br_eq_t, ↓br_eq_f, ↓br_lz_t, ↓br_lz_f, ↓br_ez_t, ↓br_ez_f, ↓br_gz_t, ↓br_gz_f, jw_id, jin_t, jix_t, ↓ite_t, ↓ite_f, a, hx, hy, e]
  | false =>
    obtain ⟨v, u, e1, q, e2, M2, f⟩ := gf.2 (by rw [z]; decide)
    rw [z] at M2
    have av : mS v 238 = (1, 9, 0) := by rw [q]; exact a
    refine ⟨u, ?_, M2, f⟩
    by_cases x4 : x = 4
    · obtain ⟨h2, h2', h2''⟩ := h2 z x4
      simp (disch := omega) only [p197_0, p197_1, p197_4, p197_5, p197_8, p197_9, p197_12, p197_13, p197_16, p197_17, p197_18, p197_21, p197_22, p197_25, jwd_c, jwd_0, Nat.reduceLeDiff, Nat.reduceEqDiff, Nat.reduceAdd, Nat.reduceSub, Nat.reduceMul, Int.reduceAdd, Int.reduceSub, Int.reduceMul, Int.reduceNeg, Int.reduceEq, Int.reduceLT, Int.reduceLE, jq_ldi_i, jq_ldl_l, jq_lda_a, jq_inc_i, jq_gs_t, jq_gsb_t, jq_gb_t, jq_gr_2, jq_gr_4, jq_gw_2, jq_s_t, jq_b_t, jg_c, jg_n, js_c, js_n, jrm_c, jrm_n, j2_i, j2_l, j2_a, jq_c_i, jq_c_l, jq_c_0, jq_c_n, jwd_le, jw_c0, mS_I, mS_R, mS_J, mN_I, mN_R, mN_J, mR_I, mI_R, mJ_I, mJ_R, mI_J, mR_J, ↓reduceIte, decide_true, or_true, true_or, and_self, false_or, or_false, reduceCtorEq, Bool.false_eq_true, and_false, false_and, eq_self, true_and, and_true, zero_ne, ↓br_lt_t, ↓br_lt_f, ↓br_eq_t, ↓br_eq_f, ↓br_lz_t, ↓br_lz_f, ↓br_ez_t, ↓br_ez_f, ↓br_gz_t, ↓br_gz_f, jw_id, jin_t, jix_t, ↓ite_t, ↓ite_f, a, hx, hy, e1, av, e2]
    · simp (disch := omega) only [p197_0, p197_1, p197_4, p197_5, p197_8, p197_9, p197_12, p197_13, p197_16, p197_17, p197_18, p197_21, p197_22, p197_25, jwd_c, jwd_0, Nat.reduceLeDiff, Nat.reduceEqDiff, Nat.reduceAdd, Nat.reduceSub, Nat.reduceMul, Int.reduceAdd, Int.reduceSub, Int.reduceMul, Int.reduceNeg, Int.reduceEq, Int.reduceLT, Int.reduceLE, jq_ldi_i, jq_ldl_l, jq_lda_a, jq_inc_i, jq_gs_t, jq_gsb_t, jq_gb_t, jq_gr_2, jq_gr_4, jq_gw_2, jq_s_t, jq_b_t, jg_c, jg_n, js_c, js_n, jrm_c, jrm_n, j2_i, j2_l, j2_a, jq_c_i, jq_c_l, jq_c_0, jq_c_n, jwd_le, jw_c0, mS_I, mS_R, mS_J, mN_I, mN_R, mN_J, mR_I, mI_R, mJ_I, mJ_R, mI_J, mR_J, ↓reduceIte, decide_true, or_true, true_or, and_self, false_or, or_false, reduceCtorEq, Bool.false_eq_true, and_false, false_and, eq_self, true_and, and_true, zero_ne, ↓br_lt_t, ↓br_lt_f, ↓br_eq_t, ↓br_eq_f, ↓br_lz_t, ↓br_lz_f, ↓br_ez_t, ↓br_ez_f, ↓br_gz_t, ↓br_gz_f, jw_id, jin_t, jix_t, ↓ite_t, ↓ite_f, a, hx, hy, e1, av, e2]
theorem ms_eats (M : MS w T n h H s) {k c : Int} (hk : (k = 4 ∧ c = 44) ∨ (k = 3 ∧ c = 59)) : ∃ u, rn 200 (0, [(0, jvr 238), (1, .inl c)], [], w) = some (some (.inl (if gSn T n s k = true then 1 else 0)), u) ∧ MS u T n h H (if gSn T n s k = true then pG T n s else s) ∧ Ftk w u := by
  obtain ⟨x, y, hx, hy, xb, h1, h2, h3⟩ := sn_c M hk
  have a := M.a
  cases z : gSn T n s k with
  | true =>
    obtain ⟨u, e, M2, f⟩ := ms_go M (fun p e => by
      have := h3 z p e
      omega)
    obtain ⟨h1, h1'⟩ := h1 z
    rw [if_pos rfl, if_pos rfl]
    refine ⟨u, ?_, M2, f⟩
    simp (disch := omega) only [p200_0, p200_1, p200_4, p200_5, p200_8, p200_9, p200_12, p200_13, p200_16, p200_17, p200_20, p200_21, p200_22, p200_23, p200_26, p200_27, p200_30, p200_31, jwd_c, jwd_0, Nat.reduceLeDiff, Nat.reduceEqDiff, Nat.reduceAdd, Nat.reduceSub, Nat.reduceMul, Int.reduceAdd, Int.reduceSub, Int.reduceMul, Int.reduceNeg, Int.reduceEq, Int.reduceLT, Int.reduceLE, jq_ldi_i, jq_ldl_l, jq_lda_a, jq_inc_i, jq_gs_t, jq_gsb_t, jq_gb_t, jq_gr_2, jq_gr_4, jq_gw_2, jq_s_t, jq_b_t, jg_c, jg_n, js_c, js_n, jrm_c, jrm_n, j2_i, j2_l, j2_a, jq_c_i, jq_c_l, jq_c_0, jq_c_n, jwd_le, jw_c0, mS_I, mS_R, mS_J, mN_I, mN_R, mN_J, mR_I, mI_R, mJ_I, mJ_R, mI_J, mR_J, ↓reduceIte, decide_true, or_true, true_or, and_self, false_or, or_false, reduceCtorEq, Bool.false_eq_true, and_false, false_and, eq_self, true_and, and_true, zero_ne, ↓br_lt_t, ↓br_lt_f, ↓br_eq_t, ↓br_eq_f, ↓br_lz_t, ↓br_lz_f, ↓br_ez_t, ↓br_ez_f, ↓br_gz_t, ↓br_gz_f, jw_id, jin_t, jix_t, ↓ite_t, ↓ite_f, a, hx, hy, e]
  | false =>
    rw [if_neg (by decide), if_neg (by decide)]
    refine ⟨w, ?_, M, Ftk.rf⟩
    by_cases x4 : x = 4
    · obtain ⟨h2, h2', h2''⟩ := h2 z x4
      simp (disch := omega) only [p200_0, p200_1, p200_4, p200_5, p200_8, p200_9, p200_12, p200_13, p200_16, p200_17, p200_20, p200_21, p200_22, p200_23, p200_26, p200_27, p200_30, p200_31, jwd_c, jwd_0, Nat.reduceLeDiff, Nat.reduceEqDiff, Nat.reduceAdd, Nat.reduceSub, Nat.reduceMul, Int.reduceAdd, Int.reduceSub, Int.reduceMul, Int.reduceNeg, Int.reduceEq, Int.reduceLT, Int.reduceLE, jq_ldi_i, jq_ldl_l, jq_lda_a, jq_inc_i, jq_gs_t, jq_gsb_t, jq_gb_t, jq_gr_2, jq_gr_4, jq_gw_2, jq_s_t, jq_b_t, jg_c, jg_n, js_c, js_n, jrm_c, jrm_n, j2_i, j2_l, j2_a, jq_c_i, jq_c_l, jq_c_0, jq_c_n, jwd_le, jw_c0, mS_I, mS_R, mS_J, mN_I, mN_R, mN_J, mR_I, mI_R, mJ_I, mJ_R, mI_J, mR_J, ↓reduceIte, decide_true, or_true, true_or, and_self, false_or, or_false, reduceCtorEq, Bool.false_eq_true, and_false, false_and, eq_self, true_and, and_true, zero_ne, ↓br_lt_t, ↓br_lt_f, ↓br_eq_t, ↓br_eq_f, ↓br_lz_t, ↓br_lz_f, ↓br_ez_t, ↓br_ez_f, ↓br_gz_t, ↓br_gz_f, jw_id, jin_t, jix_t, ↓ite_t, ↓ite_f, a, hx, hy]
    · simp (disch := omega) only [p200_0, p200_1, p200_4, p200_5, p200_8, p200_9, p200_12, p200_13, p200_16, p200_17, p200_20, p200_21, p200_22, p200_23, p200_26, p200_27, p200_30, p200_31, jwd_c, jwd_0, Nat.reduceLeDiff, Nat.reduceEqDiff, Nat.reduceAdd, Nat.reduceSub, Nat.reduceMul, Int.reduceAdd, Int.reduceSub, Int.reduceMul, Int.reduceNeg, Int.reduceEq, Int.reduceLT, Int.reduceLE, jq_ldi_i, jq_ldl_l, jq_lda_a, jq_inc_i, jq_gs_t, jq_gsb_t, jq_gb_t, jq_gr_2, jq_gr_4, jq_gw_2, jq_s_t, jq_b_t, jg_c, jg_n, js_c, js_n, jrm_c, jrm_n, j2_i, j2_l, j2_a, jq_c_i, jq_c_l, jq_c_0, jq_c_n, jwd_le, jw_c0, mS_I, mS_R, mS_J, mN_I, mN_R, mN_J, mR_I, mI_R, mJ_I, mJ_R, mI_J, mR_J, ↓reduceIte, decide_true, or_true, true_or, and_self, false_or, or_false, reduceCtorEq, Bool.false_eq_true, and_false, false_and, eq_self, true_and, and_true, zero_ne, ↓br_lt_t, ↓br_lt_f, ↓br_eq_t, ↓br_eq_f, ↓br_lz_t, ↓br_lz_f, ↓br_ez_t, ↓br_ez_f, ↓br_gz_t, ↓br_gz_f, jw_id, jin_t, jix_t, ↓ite_t, ↓ite_f, a, hx, hy]
end PRIMM
