/-! The reader: snake, frame, in the class. -/
section SNAKC
variable {w u : jmW} {T : Nat → Int} {n cnt p : Nat} {H : Nat → Nat → Int} {N K : Nat} {C : Nat → Int}
theorem to_rg2 (k : HW H) {c s : Int} (c1 : 0 ≤ c) (c2 : c < H 1 0) : -1 ≤ gTo H c s ∧ gTo H c s < H 1 0 := by
  obtain ⟨k1, k2, k3, k4, k5, k6, k7⟩ := k
  have m1 : 0 ≤ c % H 0 0 := Int.emod_nonneg _ (by omega)
  have m2 : c % H 0 0 < H 0 0 := Int.emod_lt_of_pos _ (by omega)
  have m3 := Int.mul_ediv_add_emod c (H 0 0)
  have m5 : c % H 0 0 + 1 < H 0 0 → c + 1 < H 1 0 := by
    intro hx
    have a1 : c / H 0 0 < H 0 1 := by
      have : c < H 0 1 * H 0 0 := by rw [Int.mul_comm]; omega
      exact Int.ediv_lt_of_lt_mul (by omega) this
    have a2 : H 0 0 * (c / H 0 0 + 1) ≤ H 0 0 * H 0 1 := Int.mul_le_mul_of_nonneg_left (by omega) (by omega)
    rw [Int.mul_add] at a2
    omega
  unfold gTo
  (repeat' split) <;> omega
theorem to_m4 {c v : Int} : gTo H c ((v + 2) % 4) = gTo H c (v + 2) := by
  unfold gTo
  rw [Int.emod_emod]
theorem sn_lp (R : RS w T n cnt p H N K C) (hk : HW H) (hN : N = (H 1 0).toNat) (hG : ∀ c : Int, 0 ≤ c → c < H 1 0 → 0 ≤ H 17 c.toNat ∧ H 17 c.toNat ≤ 3) (h4 : 0 ≤ H 0 4 ∧ H 0 4 ≤ 8) {v at' : Int} (v1 : 0 ≤ v) (v2 : v ≤ 3) (hv : mI w 101 8 = v) {fr : Int} : ∀ (m : Nat) (i c : Int), 1 ≤ i → i + m = H 0 4 → 0 ≤ c → c < H 1 0 → (gCh H v m c = true → ∃ c', rn 48 (57, [(0, jvr 101), (1, .inl fr), (2, .inl at'), (3, .inl c), (4, .inl i)], [], w) = rn 48 (114, [(0, jvr 101), (1, .inl fr), (2, .inl at'), (3, .inl c'), (4, .inl (H 0 4))], [], w)) ∧ (gCh H v m c = false → rn 48 (57, [(0, jvr 101), (1, .inl fr), (2, .inl at'), (3, .inl c), (4, .inl i)], [], w) = some (some (.inl 0), setI (setI w 101 10 7) 101 11 at')) := by
  have ec := sg_count R.g76
  rw [show (((H 0 4).toNat : Nat) : Int) = H 0 4 by omega] at ec
  have hk' := hk
  obtain ⟨k1, k2, k3, k4, k5, k6, k7⟩ := hk'
  have g68 := R.g68
  rw [hN] at g68
  intro m
  induction m with
  | zero =>
    intro i c i1 hi c1 c2
    refine ⟨fun _ => ⟨c, ?_⟩, fun h => (by cases h)⟩
    rw [show i = H 0 4 by omega, p48_57]
    simp (disch := omega) only [p48_0, p48_1, p48_4, p48_7, p48_8, p48_9, p48_10, p48_13, p48_14, p48_15, p48_18, p48_19, p48_22, p48_25, p48_26, p48_28, p48_29, p48_32, p48_35, p48_36, p48_37, p48_40, p48_41, p48_42, p48_44, p48_47, p48_50, p48_51, p48_52, p48_53, p48_54, p48_55, p48_59, p48_60, p48_63, p48_66, p48_69, p48_72, p48_73, p48_76, p48_77, p48_78, p48_81, p48_82, p48_83, p48_84, p48_85, p48_88, p48_89, p48_90, p48_93, p48_94, p48_97, p48_100, p48_101, p48_103, p48_104, p48_107, p48_108, p48_111, p48_115, p48_118, p48_119, p48_122, p48_123, p48_126, p48_127, p48_130, p48_133, p48_134, jwd_c, jwd_0, Nat.reduceLeDiff, Nat.reduceEqDiff, Nat.reduceAdd, Nat.reduceSub, Nat.reduceMul, Int.reduceAdd, Int.reduceSub, Int.reduceMul, Int.reduceNeg, Int.reduceEq, Int.reduceLT, Int.reduceLE, jq_ldi_i, jq_ldl_l, jq_lda_a, jq_inc_i, jq_gs_t, jq_gsb_t, jq_gb_t, jq_gr_2, jq_gr_4, jq_gw_2, jq_s_t, jq_b_t, jg_c, jg_n, js_c, js_n, jrm_c, jrm_n, j2_i, j2_l, j2_a, jq_c_i, jq_c_l, jq_c_0, jq_c_n, jwd_le, jw_c0, mS_I, mS_R, mS_J, mN_I, mN_R, mN_J, mR_I, mI_R, mJ_I, mJ_R, mI_J, mR_J, ↓reduceIte, decide_true, or_true, true_or, and_self, false_or, or_false, reduceCtorEq, Bool.false_eq_true, and_false, false_and, eq_self, true_and, and_true, zero_ne, ↓br_lt_t, ↓br_lt_f, ↓br_eq_t, ↓br_eq_f, ↓br_lz_t, ↓br_lz_f, ↓br_ez_t, ↓br_ez_f, ↓br_gz_t, ↓br_gz_f, jw_id, jin_t, jix_t, ↓ite_t, ↓ite_f, RS.a R, RS.r0 R, RS.h R, RS.r2 R, RS.l R, RS.s R, RS.k0 R, RS.k1 R, RS.k2 R, RS.k3 R, RS.k4 R, RS.k5 R, RS.f8 R, RS.f9 R, RS.t65 R, RS.t102 R, RS.t68 R, RS.t70 R, RS.t72 R, RS.t74 R, RS.t76 R, RS.t78 R, ec]
  | succ m ih =>
    intro i c i1 hi c1 c2
    have e : gCh H v (m + 1) c = if 0 ≤ gTo H c (v + 2) ∧ H 17 (gTo H c (v + 2)).toNat < 2 then gCh H v m (gTo H c (v + 2)) else false := rfl
    have eb := h_bes R.s R.f8 R.f9 hk c1 c2 (s := (v + 2) % 4) (by omega) (by omega)
    rw [to_m4] at eb
    have tr := to_rg2 hk c1 c2 (s := v + 2)
    have eo := h_opn R.s R.k0 g68 (by omega) (by omega) hG (c := gTo H c (v + 2)) (by omega) tr.2
    rw [e]
    generalize gTo H c (v + 2) = d at *
    by_cases z : 0 ≤ d ∧ H 17 d.toNat < 2
    · rw [if_pos z]
      have eo' : bi (gFrom H d) = 1 := bi_t z
      rw [eo'] at eo
      have e0 : rn 48 (57, [(0, jvr 101), (1, .inl fr), (2, .inl at'), (3, .inl c), (4, .inl i)], [], w) = rn 48 (57, [(0, jvr 101), (1, .inl fr), (2, .inl at'), (3, .inl d), (4, .inl (i + 1))], [], w) := by
        rw [p48_57]
        simp (disch := omega) only [p48_0, p48_1, p48_4, p48_7, p48_8, p48_9, p48_10, p48_13, p48_14, p48_15, p48_18, p48_19, p48_22, p48_25, p48_26, p48_28, p48_29, p48_32, p48_35, p48_36, p48_37, p48_40, p48_41, p48_42, p48_44, p48_47, p48_50, p48_51, p48_52, p48_53, p48_54, p48_55, p48_59, p48_60, p48_63, p48_66, p48_69, p48_72, p48_73, p48_76, p48_77, p48_78, p48_81, p48_82, p48_83, p48_84, p48_85, p48_88, p48_89, p48_90, p48_93, p48_94, p48_97, p48_100, p48_101, p48_103, p48_104, p48_107, p48_108, p48_111, p48_115, p48_118, p48_119, p48_122, p48_123, p48_126, p48_127, p48_130, p48_133, p48_134, jwd_c, jwd_0, Nat.reduceLeDiff, Nat.reduceEqDiff, Nat.reduceAdd, Nat.reduceSub, Nat.reduceMul, Int.reduceAdd, Int.reduceSub, Int.reduceMul, Int.reduceNeg, Int.reduceEq, Int.reduceLT, Int.reduceLE, jq_ldi_i, jq_ldl_l, jq_lda_a, jq_inc_i, jq_gs_t, jq_gsb_t, jq_gb_t, jq_gr_2, jq_gr_4, jq_gw_2, jq_s_t, jq_b_t, jg_c, jg_n, js_c, js_n, jrm_c, jrm_n, j2_i, j2_l, j2_a, jq_c_i, jq_c_l, jq_c_0, jq_c_n, jwd_le, jw_c0, mS_I, mS_R, mS_J, mN_I, mN_R, mN_J, mR_I, mI_R, mJ_I, mJ_R, mI_J, mR_J, ↓reduceIte, decide_true, or_true, true_or, and_self, false_or, or_false, reduceCtorEq, Bool.false_eq_true, and_false, false_and, eq_self, true_and, and_true, zero_ne, ↓br_lt_t, ↓br_lt_f, ↓br_eq_t, ↓br_eq_f, ↓br_lz_t, ↓br_lz_f, ↓br_ez_t, ↓br_ez_f, ↓br_gz_t, ↓br_gz_f, jw_id, jin_t, jix_t, ↓ite_t, ↓ite_f, RS.a R, RS.r0 R, RS.h R, RS.r2 R, RS.l R, RS.s R, RS.k0 R, RS.k1 R, RS.k2 R, RS.k3 R, RS.k4 R, RS.k5 R, RS.f8 R, RS.f9 R, RS.t65 R, RS.t102 R, RS.t68 R, RS.t70 R, RS.t72 R, RS.t74 R, RS.t76 R, RS.t78 R, ec, hv, tmod_nn, eb, eo]
      rw [e0]
      exact ih (i + 1) d (by omega) (by omega) z.1 tr.2
    · rw [if_neg z]
      have eo' : bi (gFrom H d) = 0 := bi_f z
      rw [eo'] at eo
      have fl := R.fail (f := 7) (a := at')
      refine ⟨fun h => (by cases h), fun _ => ?_⟩
      rw [p48_57]
      simp (disch := omega) only [p48_0, p48_1, p48_4, p48_7, p48_8, p48_9, p48_10, p48_13, p48_14, p48_15, p48_18, p48_19, p48_22, p48_25, p48_26, p48_28, p48_29, p48_32, p48_35, p48_36, p48_37, p48_40, p48_41, p48_42, p48_44, p48_47, p48_50, p48_51, p48_52, p48_53, p48_54, p48_55, p48_59, p48_60, p48_63, p48_66, p48_69, p48_72, p48_73, p48_76, p48_77, p48_78, p48_81, p48_82, p48_83, p48_84, p48_85, p48_88, p48_89, p48_90, p48_93, p48_94, p48_97, p48_100, p48_101, p48_103, p48_104, p48_107, p48_108, p48_111, p48_115, p48_118, p48_119, p48_122, p48_123, p48_126, p48_127, p48_130, p48_133, p48_134, jwd_c, jwd_0, Nat.reduceLeDiff, Nat.reduceEqDiff, Nat.reduceAdd, Nat.reduceSub, Nat.reduceMul, Int.reduceAdd, Int.reduceSub, Int.reduceMul, Int.reduceNeg, Int.reduceEq, Int.reduceLT, Int.reduceLE, jq_ldi_i, jq_ldl_l, jq_lda_a, jq_inc_i, jq_gs_t, jq_gsb_t, jq_gb_t, jq_gr_2, jq_gr_4, jq_gw_2, jq_s_t, jq_b_t, jg_c, jg_n, js_c, js_n, jrm_c, jrm_n, j2_i, j2_l, j2_a, jq_c_i, jq_c_l, jq_c_0, jq_c_n, jwd_le, jw_c0, mS_I, mS_R, mS_J, mN_I, mN_R, mN_J, mR_I, mI_R, mJ_I, mJ_R, mI_J, mR_J, ↓reduceIte, decide_true, or_true, true_or, and_self, false_or, or_false, reduceCtorEq, Bool.false_eq_true, and_false, false_and, eq_self, true_and, and_true, zero_ne, ↓br_lt_t, ↓br_lt_f, ↓br_eq_t, ↓br_eq_f, ↓br_lz_t, ↓br_lz_f, ↓br_ez_t, ↓br_ez_f, ↓br_gz_t, ↓br_gz_f, jw_id, jin_t, jix_t, ↓ite_t, ↓ite_f, RS.a R, RS.r0 R, RS.h R, RS.r2 R, RS.l R, RS.s R, RS.k0 R, RS.k1 R, RS.k2 R, RS.k3 R, RS.k4 R, RS.k5 R, RS.f8 R, RS.f9 R, RS.t65 R, RS.t102 R, RS.t68 R, RS.t70 R, RS.t72 R, RS.t74 R, RS.t76 R, RS.t78 R, ec, hv, tmod_nn, eb, eo, fl.1]
theorem l_snake (R : RS w T n cnt p H N K C) (hk : HW H) (hN : N = (H 1 0).toNat) (hG : ∀ c : Int, 0 ≤ c → c < H 1 0 → 0 ≤ H 17 c.toNat ∧ H 17 c.toNat ≤ 3) (h4 : 1 ≤ H 0 4 ∧ H 0 4 ≤ 8) : ∃ u, Fr rdP w u ∧ ((∃ q, qs T n H p = .inl q ∧ rn 48 (0, [(0, jvr 101)], [], w) = some (some (.inl 1), u) ∧ RS u T n cnt q (qsH T n H p) N K C) ∨ (∃ x, qs T n H p = .inr x ∧ rn 48 (0, [(0, jvr 101)], [], w) = some (some (.inl 0), u) ∧ RFx u T n cnt x)) := by
  have hk' := hk
  obtain ⟨k1, k2, k3, k4, k5, k6, k7⟩ := hk'
  have eqs : qs T n H p = qs3 T n H (qsc T n H p) (qs2 T n H p) := rfl
  have eq2 : qs2 T n H p = gSq T n H (qsc T n H p) (pCb T n (H 0 0) (H 0 1) (.inl p)) := rfl
  have eqH : qsH T n H p = uH (uH H 0 13 (qsc T n H p)) 0 14 (pI T n (cs wSd) (qs2 T n H p)) := rfl
  have ec0 : qsc T n H p = pCell T n (H 0 0) (H 0 1) (.inl p) := rfl
  obtain ⟨u1, f1, ⟨q1, p2, g1, e1, R1, v1, vb, vp, vq, va⟩ | ⟨x, g1, e1, R1⟩⟩ := rs_cell R ⟨k2, k3, k4, k5⟩
  case inr =>
    have g1' := pCb_r g1
    rw [g1'] at eq2
    have eq2 : qs2 T n H p = .inr x := eq2
    rw [eq2] at eqs
    exact ⟨u1, f1, Or.inr ⟨x, eqs, by simp (disch := omega) only [p48_0, p48_1, p48_4, p48_7, p48_8, p48_9, p48_10, p48_13, p48_14, p48_15, p48_18, p48_19, p48_22, p48_25, p48_26, p48_28, p48_29, p48_32, p48_35, p48_36, p48_37, p48_40, p48_41, p48_42, p48_44, p48_47, p48_50, p48_51, p48_52, p48_53, p48_54, p48_55, p48_59, p48_60, p48_63, p48_66, p48_69, p48_72, p48_73, p48_76, p48_77, p48_78, p48_81, p48_82, p48_83, p48_84, p48_85, p48_88, p48_89, p48_90, p48_93, p48_94, p48_97, p48_100, p48_101, p48_103, p48_104, p48_107, p48_108, p48_111, p48_115, p48_118, p48_119, p48_122, p48_123, p48_126, p48_127, p48_130, p48_133, p48_134, jwd_c, jwd_0, Nat.reduceLeDiff, Nat.reduceEqDiff, Nat.reduceAdd, Nat.reduceSub, Nat.reduceMul, Int.reduceAdd, Int.reduceSub, Int.reduceMul, Int.reduceNeg, Int.reduceEq, Int.reduceLT, Int.reduceLE, jq_ldi_i, jq_ldl_l, jq_lda_a, jq_inc_i, jq_gs_t, jq_gsb_t, jq_gb_t, jq_gr_2, jq_gr_4, jq_gw_2, jq_s_t, jq_b_t, jg_c, jg_n, js_c, js_n, jrm_c, jrm_n, j2_i, j2_l, j2_a, jq_c_i, jq_c_l, jq_c_0, jq_c_n, jwd_le, jw_c0, mS_I, mS_R, mS_J, mN_I, mN_R, mN_J, mR_I, mI_R, mJ_I, mJ_R, mI_J, mR_J, ↓reduceIte, decide_true, or_true, true_or, and_self, false_or, or_false, reduceCtorEq, Bool.false_eq_true, and_false, false_and, eq_self, true_and, and_true, zero_ne, ↓br_lt_t, ↓br_lt_f, ↓br_eq_t, ↓br_eq_f, ↓br_lz_t, ↓br_lz_f, ↓br_ez_t, ↓br_ez_f, ↓br_gz_t, ↓br_gz_f, jw_id, jin_t, jix_t, ↓ite_t, ↓ite_f, RS.a R, RS.r0 R, RS.h R, RS.r2 R, RS.l R, RS.s R, RS.k0 R, RS.k1 R, RS.k2 R, RS.k3 R, RS.k4 R, RS.k5 R, RS.f8 R, RS.f9 R, RS.t65 R, RS.t102 R, RS.t68 R, RS.t70 R, RS.t72 R, RS.t74 R, RS.t76 R, RS.t78 R, e1], R1⟩⟩
  rw [ec0] at eqs eq2 eqH
  rw [vp] at eq2
  rw [← k1] at vb
  generalize hc : pCell T n (H 0 0) (H 0 1) (.inl p) = c at *
  have eq2 : qs2 T n H p = if 0 ≤ c ∧ H 17 c.toNat < 2 then .inl (tE T n p2) else .inr (7, (tS T n p2 : Int)) := eq2
  have g68 := R1.g68
  rw [hN] at g68
  have eo := h_opn R1.s R1.k0 g68 (by omega) (by omega) hG (c := c) (by omega) vb.2
  by_cases z : 0 ≤ c ∧ H 17 c.toNat < 2
  case neg =>
    rw [if_neg z] at eq2
    rw [eq2] at eqs
    have eo' : bi (gFrom H c) = 0 := bi_f z
    rw [eo'] at eo
    have fl := R1.fail (f := 7) (a := (tS T n p2 : Int))
    refine ⟨_, f1.tr fl.2.2, Or.inr ⟨_, eqs, ?_, fl.2.1⟩⟩
    simp (disch := omega) only [p48_0, p48_1, p48_4, p48_7, p48_8, p48_9, p48_10, p48_13, p48_14, p48_15, p48_18, p48_19, p48_22, p48_25, p48_26, p48_28, p48_29, p48_32, p48_35, p48_36, p48_37, p48_40, p48_41, p48_42, p48_44, p48_47, p48_50, p48_51, p48_52, p48_53, p48_54, p48_55, p48_59, p48_60, p48_63, p48_66, p48_69, p48_72, p48_73, p48_76, p48_77, p48_78, p48_81, p48_82, p48_83, p48_84, p48_85, p48_88, p48_89, p48_90, p48_93, p48_94, p48_97, p48_100, p48_101, p48_103, p48_104, p48_107, p48_108, p48_111, p48_115, p48_118, p48_119, p48_122, p48_123, p48_126, p48_127, p48_130, p48_133, p48_134, jwd_c, jwd_0, Nat.reduceLeDiff, Nat.reduceEqDiff, Nat.reduceAdd, Nat.reduceSub, Nat.reduceMul, Int.reduceAdd, Int.reduceSub, Int.reduceMul, Int.reduceNeg, Int.reduceEq, Int.reduceLT, Int.reduceLE, jq_ldi_i, jq_ldl_l, jq_lda_a, jq_inc_i, jq_gs_t, jq_gsb_t, jq_gb_t, jq_gr_2, jq_gr_4, jq_gw_2, jq_s_t, jq_b_t, jg_c, jg_n, js_c, js_n, jrm_c, jrm_n, j2_i, j2_l, j2_a, jq_c_i, jq_c_l, jq_c_0, jq_c_n, jwd_le, jw_c0, mS_I, mS_R, mS_J, mN_I, mN_R, mN_J, mR_I, mI_R, mJ_I, mJ_R, mI_J, mR_J, ↓reduceIte, decide_true, or_true, true_or, and_self, false_or, or_false, reduceCtorEq, Bool.false_eq_true, and_false, false_and, eq_self, true_and, and_true, zero_ne, ↓br_lt_t, ↓br_lt_f, ↓br_eq_t, ↓br_eq_f, ↓br_lz_t, ↓br_lz_f, ↓br_ez_t, ↓br_ez_f, ↓br_gz_t, ↓br_gz_f, jw_id, jin_t, jix_t, ↓ite_t, ↓ite_f, RS.a R, RS.r0 R, RS.h R, RS.r2 R, RS.l R, RS.s R, RS.k0 R, RS.k1 R, RS.k2 R, RS.k3 R, RS.k4 R, RS.k5 R, RS.f8 R, RS.f9 R, RS.t65 R, RS.t102 R, RS.t68 R, RS.t70 R, RS.t72 R, RS.t74 R, RS.t76 R, RS.t78 R, RS.a R1, RS.r0 R1, RS.h R1, RS.r2 R1, RS.l R1, RS.s R1, RS.k0 R1, RS.k1 R1, RS.k2 R1, RS.k3 R1, RS.k4 R1, RS.k5 R1, RS.f8 R1, RS.f9 R1, RS.t65 R1, RS.t102 R1, RS.t68 R1, RS.t70 R1, RS.t72 R1, RS.t74 R1, RS.t76 R1, RS.t78 R1, e1, v1, eo, va, fl.1]
  rw [if_pos z, ← vq] at eq2
  have eo' : bi (gFrom H c) = 1 := bi_t z
  rw [eo'] at eo
  rw [eq2] at eqs eqH
  have st1 := R1.st
  have eqs : qs T n H p = match pO T n (cs wSd) (.inl q1) with
    | .inl q2 => if gCh H (pI T n (cs wSd) (.inl q1)) (H 0 4 - 1).toNat c = true then .inl q2 else .inr (7, (tS T n q1 : Int))
    | .inr x => .inr x := eqs
  obtain ⟨u2, f2, ⟨q2, g2, e2, R2, v2⟩ | ⟨x, g2, e2, R2⟩⟩ := rs_one R1 ok_8
  case inr =>
    rw [g2] at eqs
    refine ⟨u2, f1.tr f2, Or.inr ⟨x, eqs, ?_, R2⟩⟩
    simp (disch := omega) only [p48_0, p48_1, p48_4, p48_7, p48_8, p48_9, p48_10, p48_13, p48_14, p48_15, p48_18, p48_19, p48_22, p48_25, p48_26, p48_28, p48_29, p48_32, p48_35, p48_36, p48_37, p48_40, p48_41, p48_42, p48_44, p48_47, p48_50, p48_51, p48_52, p48_53, p48_54, p48_55, p48_59, p48_60, p48_63, p48_66, p48_69, p48_72, p48_73, p48_76, p48_77, p48_78, p48_81, p48_82, p48_83, p48_84, p48_85, p48_88, p48_89, p48_90, p48_93, p48_94, p48_97, p48_100, p48_101, p48_103, p48_104, p48_107, p48_108, p48_111, p48_115, p48_118, p48_119, p48_122, p48_123, p48_126, p48_127, p48_130, p48_133, p48_134, jwd_c, jwd_0, Nat.reduceLeDiff, Nat.reduceEqDiff, Nat.reduceAdd, Nat.reduceSub, Nat.reduceMul, Int.reduceAdd, Int.reduceSub, Int.reduceMul, Int.reduceNeg, Int.reduceEq, Int.reduceLT, Int.reduceLE, jq_ldi_i, jq_ldl_l, jq_lda_a, jq_inc_i, jq_gs_t, jq_gsb_t, jq_gb_t, jq_gr_2, jq_gr_4, jq_gw_2, jq_s_t, jq_b_t, jg_c, jg_n, js_c, js_n, jrm_c, jrm_n, j2_i, j2_l, j2_a, jq_c_i, jq_c_l, jq_c_0, jq_c_n, jwd_le, jw_c0, mS_I, mS_R, mS_J, mN_I, mN_R, mN_J, mR_I, mI_R, mJ_I, mJ_R, mI_J, mR_J, ↓reduceIte, decide_true, or_true, true_or, and_self, false_or, or_false, reduceCtorEq, Bool.false_eq_true, and_false, false_and, eq_self, true_and, and_true, zero_ne, ↓br_lt_t, ↓br_lt_f, ↓br_eq_t, ↓br_eq_f, ↓br_lz_t, ↓br_lz_f, ↓br_ez_t, ↓br_ez_f, ↓br_gz_t, ↓br_gz_f, jw_id, jin_t, jix_t, ↓ite_t, ↓ite_f, RS.a R, RS.r0 R, RS.h R, RS.r2 R, RS.l R, RS.s R, RS.k0 R, RS.k1 R, RS.k2 R, RS.k3 R, RS.k4 R, RS.k5 R, RS.f8 R, RS.f9 R, RS.t65 R, RS.t102 R, RS.t68 R, RS.t70 R, RS.t72 R, RS.t74 R, RS.t76 R, RS.t78 R, RS.a R1, RS.r0 R1, RS.h R1, RS.r2 R1, RS.l R1, RS.s R1, RS.k0 R1, RS.k1 R1, RS.k2 R1, RS.k3 R1, RS.k4 R1, RS.k5 R1, RS.f8 R1, RS.f9 R1, RS.t65 R1, RS.t102 R1, RS.t68 R1, RS.t70 R1, RS.t72 R1, RS.t74 R1, RS.t76 R1, RS.t78 R1, e1, v1, eo, st1.1, e2]
  rw [g2] at eqs
  have F2 := f1.tr f2
  have po := pO_q g2
  have lw : (wSd.length : Int) = 4 := rfl
  generalize hv : pI T n (cs wSd) (.inl q1) = v at *
  have eqs : qs T n H p = if gCh H v (H 0 4 - 1).toNat c = true then .inl q2 else .inr (7, (tS T n q1 : Int)) := eqs
  have lp := sn_lp R2 hk hN hG (by omega) (v := v) (at' := (tS T n q1 : Int)) (by omega) (by omega) v2 (fr := c) (H 0 4 - 1).toNat 1 c (by omega) (by omega) vb.1 vb.2
  have e0 : rn 48 (0, [(0, jvr 101)], [], w) = rn 48 (57, [(0, jvr 101), (1, .inl c), (2, .inl (tS T n q1 : Int)), (3, .inl c), (4, .inl 1)], [], u2) := by
    simp (disch := omega) only [p48_0, p48_1, p48_4, p48_7, p48_8, p48_9, p48_10, p48_13, p48_14, p48_15, p48_18, p48_19, p48_22, p48_25, p48_26, p48_28, p48_29, p48_32, p48_35, p48_36, p48_37, p48_40, p48_41, p48_42, p48_44, p48_47, p48_50, p48_51, p48_52, p48_53, p48_54, p48_55, p48_59, p48_60, p48_63, p48_66, p48_69, p48_72, p48_73, p48_76, p48_77, p48_78, p48_81, p48_82, p48_83, p48_84, p48_85, p48_88, p48_89, p48_90, p48_93, p48_94, p48_97, p48_100, p48_101, p48_103, p48_104, p48_107, p48_108, p48_111, p48_115, p48_118, p48_119, p48_122, p48_123, p48_126, p48_127, p48_130, p48_133, p48_134, jwd_c, jwd_0, Nat.reduceLeDiff, Nat.reduceEqDiff, Nat.reduceAdd, Nat.reduceSub, Nat.reduceMul, Int.reduceAdd, Int.reduceSub, Int.reduceMul, Int.reduceNeg, Int.reduceEq, Int.reduceLT, Int.reduceLE, jq_ldi_i, jq_ldl_l, jq_lda_a, jq_inc_i, jq_gs_t, jq_gsb_t, jq_gb_t, jq_gr_2, jq_gr_4, jq_gw_2, jq_s_t, jq_b_t, jg_c, jg_n, js_c, js_n, jrm_c, jrm_n, j2_i, j2_l, j2_a, jq_c_i, jq_c_l, jq_c_0, jq_c_n, jwd_le, jw_c0, mS_I, mS_R, mS_J, mN_I, mN_R, mN_J, mR_I, mI_R, mJ_I, mJ_R, mI_J, mR_J, ↓reduceIte, decide_true, or_true, true_or, and_self, false_or, or_false, reduceCtorEq, Bool.false_eq_true, and_false, false_and, eq_self, true_and, and_true, zero_ne, ↓br_lt_t, ↓br_lt_f, ↓br_eq_t, ↓br_eq_f, ↓br_lz_t, ↓br_lz_f, ↓br_ez_t, ↓br_ez_f, ↓br_gz_t, ↓br_gz_f, jw_id, jin_t, jix_t, ↓ite_t, ↓ite_f, RS.a R, RS.r0 R, RS.h R, RS.r2 R, RS.l R, RS.s R, RS.k0 R, RS.k1 R, RS.k2 R, RS.k3 R, RS.k4 R, RS.k5 R, RS.f8 R, RS.f9 R, RS.t65 R, RS.t102 R, RS.t68 R, RS.t70 R, RS.t72 R, RS.t74 R, RS.t76 R, RS.t78 R, RS.a R1, RS.r0 R1, RS.h R1, RS.r2 R1, RS.l R1, RS.s R1, RS.k0 R1, RS.k1 R1, RS.k2 R1, RS.k3 R1, RS.k4 R1, RS.k5 R1, RS.f8 R1, RS.f9 R1, RS.t65 R1, RS.t102 R1, RS.t68 R1, RS.t70 R1, RS.t72 R1, RS.t74 R1, RS.t76 R1, RS.t78 R1, e1, v1, eo, st1.1, e2]
  rw [e0]
  cases y : gCh H v (H 0 4 - 1).toNat c with
  | true =>
    obtain ⟨c', lp⟩ := lp.1 y
    rw [if_pos y] at eqs
    have R3 := R2.set (k := 16) (i := 13) (v := c) (by omega)
    have R4 := R3.set (k := 17) (i := 14) (v := v) (by omega)
    have w8 : mI (setI u2 67 16 c) 101 8 = v := by rw [mI_nb (by omega)]; exact v2
    refine ⟨_, (F2.tr rd67).tr rd67, Or.inl ⟨q2, eqs, ?_, by rw [eqH]; exact R4⟩⟩
    rw [lp, p48_114]
    simp (disch := omega) only [p48_0, p48_1, p48_4, p48_7, p48_8, p48_9, p48_10, p48_13, p48_14, p48_15, p48_18, p48_19, p48_22, p48_25, p48_26, p48_28, p48_29, p48_32, p48_35, p48_36, p48_37, p48_40, p48_41, p48_42, p48_44, p48_47, p48_50, p48_51, p48_52, p48_53, p48_54, p48_55, p48_59, p48_60, p48_63, p48_66, p48_69, p48_72, p48_73, p48_76, p48_77, p48_78, p48_81, p48_82, p48_83, p48_84, p48_85, p48_88, p48_89, p48_90, p48_93, p48_94, p48_97, p48_100, p48_101, p48_103, p48_104, p48_107, p48_108, p48_111, p48_115, p48_118, p48_119, p48_122, p48_123, p48_126, p48_127, p48_130, p48_133, p48_134, jwd_c, jwd_0, Nat.reduceLeDiff, Nat.reduceEqDiff, Nat.reduceAdd, Nat.reduceSub, Nat.reduceMul, Int.reduceAdd, Int.reduceSub, Int.reduceMul, Int.reduceNeg, Int.reduceEq, Int.reduceLT, Int.reduceLE, jq_ldi_i, jq_ldl_l, jq_lda_a, jq_inc_i, jq_gs_t, jq_gsb_t, jq_gb_t, jq_gr_2, jq_gr_4, jq_gw_2, jq_s_t, jq_b_t, jg_c, jg_n, js_c, js_n, jrm_c, jrm_n, j2_i, j2_l, j2_a, jq_c_i, jq_c_l, jq_c_0, jq_c_n, jwd_le, jw_c0, mS_I, mS_R, mS_J, mN_I, mN_R, mN_J, mR_I, mI_R, mJ_I, mJ_R, mI_J, mR_J, ↓reduceIte, decide_true, or_true, true_or, and_self, false_or, or_false, reduceCtorEq, Bool.false_eq_true, and_false, false_and, eq_self, true_and, and_true, zero_ne, ↓br_lt_t, ↓br_lt_f, ↓br_eq_t, ↓br_eq_f, ↓br_lz_t, ↓br_lz_f, ↓br_ez_t, ↓br_ez_f, ↓br_gz_t, ↓br_gz_f, jw_id, jin_t, jix_t, ↓ite_t, ↓ite_f, RS.a R2, RS.r0 R2, RS.h R2, RS.r2 R2, RS.l R2, RS.s R2, RS.k0 R2, RS.k1 R2, RS.k2 R2, RS.k3 R2, RS.k4 R2, RS.k5 R2, RS.f8 R2, RS.f9 R2, RS.t65 R2, RS.t102 R2, RS.t68 R2, RS.t70 R2, RS.t72 R2, RS.t74 R2, RS.t76 R2, RS.t78 R2, RS.a R3, RS.r0 R3, RS.h R3, RS.r2 R3, RS.l R3, RS.s R3, RS.k0 R3, RS.k1 R3, RS.k2 R3, RS.k3 R3, RS.k4 R3, RS.k5 R3, RS.f8 R3, RS.f9 R3, RS.t65 R3, RS.t102 R3, RS.t68 R3, RS.t70 R3, RS.t72 R3, RS.t74 R3, RS.t76 R3, RS.t78 R3, v2, w8]
  | false =>
    have fl := R2.fail (f := 7) (a := (tS T n q1 : Int))
    rw [if_neg (by rw [y]; decide)] at eqs
    exact ⟨_, F2.tr fl.2.2, Or.inr ⟨_, eqs, lp.2 y, fl.2.1⟩⟩
theorem put78 {t : Nat → Int} {k : Nat} (R : RS w T n cnt p (rowH H 29 31 8 k t) N K C) {x : Int} {A : Nat} {v : Int} (hx : 0 ≤ x ∧ x < 3) (hA : (A : Int) = 29 + x) : ∃ u, rn 17 (0, [(0, jvr 78), (1, .inl (k : Int)), (2, .inl x), (3, .inl v)], [], w) = some (none, u) ∧ RS u T n cnt p (rowH H 29 31 8 k (uT t A v)) N K C ∧ Fr rdP w u ∧ mI u 101 = mI w 101 := by
  have g := R.g78
  have hc : rowH H 29 31 8 k t 0 8 = (k : Int) + 1 := rowH_c (by omega)
  rw [hc] at g
  obtain ⟨u, e, s, f⟩ := sg_put (v := v) g (l := (k : Int)) (k := x) (by omega) (by omega) hx.1 hx.2
  refine ⟨u, e, R.s78 f (fun a b h1 h2 => ?_) ?_⟩
  · rw [rowH_n (by omega) h1, rowH_n (by omega) h1]
  · rw [rowH_c (by omega)]
    refine s.mk2 (fun i j hi hj => ?_)
    rw [Int.toNat_natCast]
    by_cases z : i = k
    · rw [z, rowH_t (by omega) (by omega), rowH_t (by omega) (by omega)]
      unfold uT
      by_cases y : j = x.toNat
      · rw [if_pos ⟨rfl, y⟩, if_pos (by omega)]
      · rw [if_neg (fun q => y q.2), if_neg (by omega)]
    · rw [if_neg (fun q => z q.1), rowH_n (Or.inl z) (by omega), rowH_n (Or.inl z) (by omega)]
theorem l_frame (R : RS w T n cnt p H N K C) (hW : 3 ≤ H 0 0 ∧ H 0 0 ≤ 8 ∧ 2 ≤ H 0 1 ∧ H 0 1 ≤ 6) (h4 : 0 ≤ H 0 4 ∧ H 0 4 ≤ 8) (h8 : 0 ≤ H 0 8 ∧ H 0 8 < 8) : ∃ u, Fr rdP w u ∧ ((∃ q, qf4 T n H (.inl p) = .inl q ∧ rn 51 (0, [(0, jvr 101)], [], w) = some (some (.inl 1), u) ∧ RS u T n cnt q (qfH T n H (.inl p)) N K C) ∨ (∃ x, qf4 T n H (.inl p) = .inr x ∧ rn 51 (0, [(0, jvr 101)], [], w) = some (some (.inl 0), u) ∧ RFx u T n cnt x)) := by
  obtain ⟨u1, f1, ⟨q1, g1, e1, R1, v1⟩ | ⟨x, g1, e1, R1⟩⟩ := rs_whole R (lo := 0) (hi := 40) (by omega) (by omega) (by omega) (by omega)
  case inr => exact ⟨u1, f1, Or.inr ⟨x, by unfold qf4 qf3 qf2 qf1; rw [g1]; rfl, by simp (disch := omega) only [p51_0, p51_1, p51_2, p51_4, p51_7, p51_10, p51_11, p51_12, p51_13, p51_16, p51_17, p51_18, p51_19, p51_20, p51_23, p51_26, p51_29, p51_30, p51_31, p51_34, p51_37, p51_38, p51_39, p51_40, p51_43, p51_44, p51_45, p51_47, p51_50, p51_53, p51_54, p51_57, p51_60, p51_61, p51_62, p51_63, p51_66, p51_69, p51_72, p51_73, p51_74, p51_77, p51_80, p51_81, p51_84, p51_85, p51_88, p51_91, p51_92, p51_93, p51_94, p51_97, p51_98, p51_101, p51_104, p51_105, p51_106, p51_107, p51_110, p51_113, p51_114, jwd_c, jwd_0, Nat.reduceLeDiff, Nat.reduceEqDiff, Nat.reduceAdd, Nat.reduceSub, Nat.reduceMul, Int.reduceAdd, Int.reduceSub, Int.reduceMul, Int.reduceNeg, Int.reduceEq, Int.reduceLT, Int.reduceLE, jq_ldi_i, jq_ldl_l, jq_lda_a, jq_inc_i, jq_gs_t, jq_gsb_t, jq_gb_t, jq_gr_2, jq_gr_4, jq_gw_2, jq_s_t, jq_b_t, jg_c, jg_n, js_c, js_n, jrm_c, jrm_n, j2_i, j2_l, j2_a, jq_c_i, jq_c_l, jq_c_0, jq_c_n, jwd_le, jw_c0, mS_I, mS_R, mS_J, mN_I, mN_R, mN_J, mR_I, mI_R, mJ_I, mJ_R, mI_J, mR_J, ↓reduceIte, decide_true, or_true, true_or, and_self, false_or, or_false, reduceCtorEq, Bool.false_eq_true, and_false, false_and, eq_self, true_and, and_true, zero_ne, ↓br_lt_t, ↓br_lt_f, ↓br_eq_t, ↓br_eq_f, ↓br_lz_t, ↓br_lz_f, ↓br_ez_t, ↓br_ez_f, ↓br_gz_t, ↓br_gz_f, jw_id, jin_t, jix_t, ↓ite_t, ↓ite_f, RS.a R, RS.r0 R, RS.h R, RS.r2 R, RS.l R, RS.s R, RS.k0 R, RS.k1 R, RS.k2 R, RS.k3 R, RS.k4 R, RS.k5 R, RS.f8 R, RS.f9 R, RS.t65 R, RS.t102 R, RS.t68 R, RS.t70 R, RS.t72 R, RS.t74 R, RS.t76 R, RS.t78 R, e1], R1⟩⟩
  have ec := sg_count R1.g76
  rw [show (((H 0 4).toNat : Nat) : Int) = H 0 4 by omega] at ec
  obtain ⟨u2, f2, ⟨q2, g2, e2, R2, v2⟩ | ⟨x, g2, e2, R2⟩⟩ := rs_whole R1 (lo := 0) (hi := H 0 4 - 1) (by omega) (by omega) (by omega) (by omega)
  case inr => exact ⟨u2, f1.tr f2, Or.inr ⟨x, by unfold qf4 qf3 qf2 qf1; rw [g1, g2]; rfl, by simp (disch := omega) only [p51_0, p51_1, p51_2, p51_4, p51_7, p51_10, p51_11, p51_12, p51_13, p51_16, p51_17, p51_18, p51_19, p51_20, p51_23, p51_26, p51_29, p51_30, p51_31, p51_34, p51_37, p51_38, p51_39, p51_40, p51_43, p51_44, p51_45, p51_47, p51_50, p51_53, p51_54, p51_57, p51_60, p51_61, p51_62, p51_63, p51_66, p51_69, p51_72, p51_73, p51_74, p51_77, p51_80, p51_81, p51_84, p51_85, p51_88, p51_91, p51_92, p51_93, p51_94, p51_97, p51_98, p51_101, p51_104, p51_105, p51_106, p51_107, p51_110, p51_113, p51_114, jwd_c, jwd_0, Nat.reduceLeDiff, Nat.reduceEqDiff, Nat.reduceAdd, Nat.reduceSub, Nat.reduceMul, Int.reduceAdd, Int.reduceSub, Int.reduceMul, Int.reduceNeg, Int.reduceEq, Int.reduceLT, Int.reduceLE, jq_ldi_i, jq_ldl_l, jq_lda_a, jq_inc_i, jq_gs_t, jq_gsb_t, jq_gb_t, jq_gr_2, jq_gr_4, jq_gw_2, jq_s_t, jq_b_t, jg_c, jg_n, js_c, js_n, jrm_c, jrm_n, j2_i, j2_l, j2_a, jq_c_i, jq_c_l, jq_c_0, jq_c_n, jwd_le, jw_c0, mS_I, mS_R, mS_J, mN_I, mN_R, mN_J, mR_I, mI_R, mJ_I, mJ_R, mI_J, mR_J, ↓reduceIte, decide_true, or_true, true_or, and_self, false_or, or_false, reduceCtorEq, Bool.false_eq_true, and_false, false_and, eq_self, true_and, and_true, zero_ne, ↓br_lt_t, ↓br_lt_f, ↓br_eq_t, ↓br_eq_f, ↓br_lz_t, ↓br_lz_f, ↓br_ez_t, ↓br_ez_f, ↓br_gz_t, ↓br_gz_f, jw_id, jin_t, jix_t, ↓ite_t, ↓ite_f, RS.a R, RS.r0 R, RS.h R, RS.r2 R, RS.l R, RS.s R, RS.k0 R, RS.k1 R, RS.k2 R, RS.k3 R, RS.k4 R, RS.k5 R, RS.f8 R, RS.f9 R, RS.t65 R, RS.t102 R, RS.t68 R, RS.t70 R, RS.t72 R, RS.t74 R, RS.t76 R, RS.t78 R, RS.a R1, RS.r0 R1, RS.h R1, RS.r2 R1, RS.l R1, RS.s R1, RS.k0 R1, RS.k1 R1, RS.k2 R1, RS.k3 R1, RS.k4 R1, RS.k5 R1, RS.f8 R1, RS.f9 R1, RS.t65 R1, RS.t102 R1, RS.t68 R1, RS.t70 R1, RS.t72 R1, RS.t74 R1, RS.t76 R1, RS.t78 R1, e1, v1, ec, e2], R2⟩⟩
  have F2 := f1.tr f2
  obtain ⟨u3, f3, ⟨q3, g3, e3, R3, v3⟩ | ⟨x, g3, e3, R3⟩⟩ := rs_one R2 ok_10
  case inr => exact ⟨u3, F2.tr f3, Or.inr ⟨x, by unfold qf4 qf3 qf2 qf1; rw [g1, g2, g3]; rfl, by simp (disch := omega) only [p51_0, p51_1, p51_2, p51_4, p51_7, p51_10, p51_11, p51_12, p51_13, p51_16, p51_17, p51_18, p51_19, p51_20, p51_23, p51_26, p51_29, p51_30, p51_31, p51_34, p51_37, p51_38, p51_39, p51_40, p51_43, p51_44, p51_45, p51_47, p51_50, p51_53, p51_54, p51_57, p51_60, p51_61, p51_62, p51_63, p51_66, p51_69, p51_72, p51_73, p51_74, p51_77, p51_80, p51_81, p51_84, p51_85, p51_88, p51_91, p51_92, p51_93, p51_94, p51_97, p51_98, p51_101, p51_104, p51_105, p51_106, p51_107, p51_110, p51_113, p51_114, jwd_c, jwd_0, Nat.reduceLeDiff, Nat.reduceEqDiff, Nat.reduceAdd, Nat.reduceSub, Nat.reduceMul, Int.reduceAdd, Int.reduceSub, Int.reduceMul, Int.reduceNeg, Int.reduceEq, Int.reduceLT, Int.reduceLE, jq_ldi_i, jq_ldl_l, jq_lda_a, jq_inc_i, jq_gs_t, jq_gsb_t, jq_gb_t, jq_gr_2, jq_gr_4, jq_gw_2, jq_s_t, jq_b_t, jg_c, jg_n, js_c, js_n, jrm_c, jrm_n, j2_i, j2_l, j2_a, jq_c_i, jq_c_l, jq_c_0, jq_c_n, jwd_le, jw_c0, mS_I, mS_R, mS_J, mN_I, mN_R, mN_J, mR_I, mI_R, mJ_I, mJ_R, mI_J, mR_J, ↓reduceIte, decide_true, or_true, true_or, and_self, false_or, or_false, reduceCtorEq, Bool.false_eq_true, and_false, false_and, eq_self, true_and, and_true, zero_ne, ↓br_lt_t, ↓br_lt_f, ↓br_eq_t, ↓br_eq_f, ↓br_lz_t, ↓br_lz_f, ↓br_ez_t, ↓br_ez_f, ↓br_gz_t, ↓br_gz_f, jw_id, jin_t, jix_t, ↓ite_t, ↓ite_f, RS.a R, RS.r0 R, RS.h R, RS.r2 R, RS.l R, RS.s R, RS.k0 R, RS.k1 R, RS.k2 R, RS.k3 R, RS.k4 R, RS.k5 R, RS.f8 R, RS.f9 R, RS.t65 R, RS.t102 R, RS.t68 R, RS.t70 R, RS.t72 R, RS.t74 R, RS.t76 R, RS.t78 R, RS.a R1, RS.r0 R1, RS.h R1, RS.r2 R1, RS.l R1, RS.s R1, RS.k0 R1, RS.k1 R1, RS.k2 R1, RS.k3 R1, RS.k4 R1, RS.k5 R1, RS.f8 R1, RS.f9 R1, RS.t65 R1, RS.t102 R1, RS.t68 R1, RS.t70 R1, RS.t72 R1, RS.t74 R1, RS.t76 R1, RS.t78 R1, RS.a R2, RS.r0 R2, RS.h R2, RS.r2 R2, RS.l R2, RS.s R2, RS.k0 R2, RS.k1 R2, RS.k2 R2, RS.k3 R2, RS.k4 R2, RS.k5 R2, RS.f8 R2, RS.f9 R2, RS.t65 R2, RS.t102 R2, RS.t68 R2, RS.t70 R2, RS.t72 R2, RS.t74 R2, RS.t76 R2, RS.t78 R2, e1, v1, ec, e2, v2, e3], R3⟩⟩
  have F3 := F2.tr f3
  have hq1 : qf1 T n (.inl p) = .inl q1 := g1
  have hq3 : qf3 T n (H 0 4) (.inl p) = .inl q3 := by
    unfold qf3 qf2
    rw [hq1, g2, g3]
  have eqH : qfH T n H (.inl p) = rowH H 29 31 8 (H 0 8).toNat (uT (uT (uT (fun _ => 0) 29 (pV T n 0 40 (.inl p))) 30 (pV T n 0 (H 0 4 - 1) (.inl q1))) 31 (pCell T n (H 0 0) (H 0 1) (.inl q3))) := by
    unfold qfH
    rw [hq1, hq3]
  obtain ⟨u4, f4, ⟨q4, p2, g4, e4, R4, v4, vb, -⟩ | ⟨x, g4, e4, R4⟩⟩ := rs_cell R3 hW
  case inr => exact ⟨u4, F3.tr f4, Or.inr ⟨x, by unfold qf4; rw [hq3, g4], by simp (disch := omega) only [p51_0, p51_1, p51_2, p51_4, p51_7, p51_10, p51_11, p51_12, p51_13, p51_16, p51_17, p51_18, p51_19, p51_20, p51_23, p51_26, p51_29, p51_30, p51_31, p51_34, p51_37, p51_38, p51_39, p51_40, p51_43, p51_44, p51_45, p51_47, p51_50, p51_53, p51_54, p51_57, p51_60, p51_61, p51_62, p51_63, p51_66, p51_69, p51_72, p51_73, p51_74, p51_77, p51_80, p51_81, p51_84, p51_85, p51_88, p51_91, p51_92, p51_93, p51_94, p51_97, p51_98, p51_101, p51_104, p51_105, p51_106, p51_107, p51_110, p51_113, p51_114, jwd_c, jwd_0, Nat.reduceLeDiff, Nat.reduceEqDiff, Nat.reduceAdd, Nat.reduceSub, Nat.reduceMul, Int.reduceAdd, Int.reduceSub, Int.reduceMul, Int.reduceNeg, Int.reduceEq, Int.reduceLT, Int.reduceLE, jq_ldi_i, jq_ldl_l, jq_lda_a, jq_inc_i, jq_gs_t, jq_gsb_t, jq_gb_t, jq_gr_2, jq_gr_4, jq_gw_2, jq_s_t, jq_b_t, jg_c, jg_n, js_c, js_n, jrm_c, jrm_n, j2_i, j2_l, j2_a, jq_c_i, jq_c_l, jq_c_0, jq_c_n, jwd_le, jw_c0, mS_I, mS_R, mS_J, mN_I, mN_R, mN_J, mR_I, mI_R, mJ_I, mJ_R, mI_J, mR_J, ↓reduceIte, decide_true, or_true, true_or, and_self, false_or, or_false, reduceCtorEq, Bool.false_eq_true, and_false, false_and, eq_self, true_and, and_true, zero_ne, ↓br_lt_t, ↓br_lt_f, ↓br_eq_t, ↓br_eq_f, ↓br_lz_t, ↓br_lz_f, ↓br_ez_t, ↓br_ez_f, ↓br_gz_t, ↓br_gz_f, jw_id, jin_t, jix_t, ↓ite_t, ↓ite_f, RS.a R, RS.r0 R, RS.h R, RS.r2 R, RS.l R, RS.s R, RS.k0 R, RS.k1 R, RS.k2 R, RS.k3 R, RS.k4 R, RS.k5 R, RS.f8 R, RS.f9 R, RS.t65 R, RS.t102 R, RS.t68 R, RS.t70 R, RS.t72 R, RS.t74 R, RS.t76 R, RS.t78 R, RS.a R1, RS.r0 R1, RS.h R1, RS.r2 R1, RS.l R1, RS.s R1, RS.k0 R1, RS.k1 R1, RS.k2 R1, RS.k3 R1, RS.k4 R1, RS.k5 R1, RS.f8 R1, RS.f9 R1, RS.t65 R1, RS.t102 R1, RS.t68 R1, RS.t70 R1, RS.t72 R1, RS.t74 R1, RS.t76 R1, RS.t78 R1, RS.a R2, RS.r0 R2, RS.h R2, RS.r2 R2, RS.l R2, RS.s R2, RS.k0 R2, RS.k1 R2, RS.k2 R2, RS.k3 R2, RS.k4 R2, RS.k5 R2, RS.f8 R2, RS.f9 R2, RS.t65 R2, RS.t102 R2, RS.t68 R2, RS.t70 R2, RS.t72 R2, RS.t74 R2, RS.t76 R2, RS.t78 R2, RS.a R3, RS.r0 R3, RS.h R3, RS.r2 R3, RS.l R3, RS.s R3, RS.k0 R3, RS.k1 R3, RS.k2 R3, RS.k3 R3, RS.k4 R3, RS.k5 R3, RS.f8 R3, RS.f9 R3, RS.t65 R3, RS.t102 R3, RS.t68 R3, RS.t70 R3, RS.t72 R3, RS.t74 R3, RS.t76 R3, RS.t78 R3, e1, v1, ec, e2, v2, e3, e4], R4⟩⟩
  have F4 := F3.tr f4
  have ek := sg_count R4.g78
  obtain ⟨u5, e5, s5, f5⟩ := sg_push (v := pV T n 0 40 (.inl p)) R4.g78 (by omega)
  have hk8 : (((H 0 8).toNat : Nat) : Int) = H 0 8 := by omega
  generalize hK8 : (H 0 8).toNat = k at *
  obtain ⟨R5, F5', i5⟩ := R4.s78 f5 (H2 := rowH H 29 31 8 k (uT (fun _ => 0) 29 (pV T n 0 40 (.inl p)))) (fun a b h1 h2 => rowH_n (by omega) h1) (by
    rw [rowH_c (by omega)]
    refine (show ((k : Int) + 1).toNat = k + 1 by omega) ▸ s5.mk2 (fun i j hi hj => ?_)
    by_cases z : i < k
    · rw [if_pos z, rowH_n (by omega) (by omega)]
    · rw [if_neg z, show i = k by omega, rowH_t (by omega) (by omega)]
      unfold uT
      by_cases y : j = 0
      · rw [if_pos y, if_pos (by omega)]
      · rw [if_neg y, if_neg (by omega)])
  have F5 := F4.tr F5'
  obtain ⟨u6, e6, R6, f6, i6⟩ := put78 R5 (x := 1) (A := 30) (v := pV T n 0 (H 0 4 - 1) (.inl q1)) (by omega) (by omega)
  obtain ⟨u7, e7, R7, f7, -⟩ := put78 R6 (x := 2) (A := 31) (v := pCell T n (H 0 0) (H 0 1) (.inl q3)) (by omega) (by omega)
  have v6 : mI u6 101 8 = pCell T n (H 0 0) (H 0 1) (.inl q3) := by rw [i6, i5]; exact v4
  refine ⟨u7, (F5.tr f6).tr f7, Or.inl ⟨q4, by unfold qf4; rw [hq3, g4], ?_, by rw [eqH]; exact R7⟩⟩
  simp (disch := omega) only [p51_0, p51_1, p51_2, p51_4, p51_7, p51_10, p51_11, p51_12, p51_13, p51_16, p51_17, p51_18, p51_19, p51_20, p51_23, p51_26, p51_29, p51_30, p51_31, p51_34, p51_37, p51_38, p51_39, p51_40, p51_43, p51_44, p51_45, p51_47, p51_50, p51_53, p51_54, p51_57, p51_60, p51_61, p51_62, p51_63, p51_66, p51_69, p51_72, p51_73, p51_74, p51_77, p51_80, p51_81, p51_84, p51_85, p51_88, p51_91, p51_92, p51_93, p51_94, p51_97, p51_98, p51_101, p51_104, p51_105, p51_106, p51_107, p51_110, p51_113, p51_114, jwd_c, jwd_0, Nat.reduceLeDiff, Nat.reduceEqDiff, Nat.reduceAdd, Nat.reduceSub, Nat.reduceMul, Int.reduceAdd, Int.reduceSub, Int.reduceMul, Int.reduceNeg, Int.reduceEq, Int.reduceLT, Int.reduceLE, jq_ldi_i, jq_ldl_l, jq_lda_a, jq_inc_i, jq_gs_t, jq_gsb_t, jq_gb_t, jq_gr_2, jq_gr_4, jq_gw_2, jq_s_t, jq_b_t, jg_c, jg_n, js_c, js_n, jrm_c, jrm_n, j2_i, j2_l, j2_a, jq_c_i, jq_c_l, jq_c_0, jq_c_n, jwd_le, jw_c0, mS_I, mS_R, mS_J, mN_I, mN_R, mN_J, mR_I, mI_R, mJ_I, mJ_R, mI_J, mR_J, ↓reduceIte, decide_true, or_true, true_or, and_self, false_or, or_false, reduceCtorEq, Bool.false_eq_true, and_false, false_and, eq_self, true_and, and_true, zero_ne, ↓br_lt_t, ↓br_lt_f, ↓br_eq_t, ↓br_eq_f, ↓br_lz_t, ↓br_lz_f, ↓br_ez_t, ↓br_ez_f, ↓br_gz_t, ↓br_gz_f, jw_id, jin_t, jix_t, ↓ite_t, ↓ite_f, RS.a R, RS.r0 R, RS.h R, RS.r2 R, RS.l R, RS.s R, RS.k0 R, RS.k1 R, RS.k2 R, RS.k3 R, RS.k4 R, RS.k5 R, RS.f8 R, RS.f9 R, RS.t65 R, RS.t102 R, RS.t68 R, RS.t70 R, RS.t72 R, RS.t74 R, RS.t76 R, RS.t78 R, RS.a R1, RS.r0 R1, RS.h R1, RS.r2 R1, RS.l R1, RS.s R1, RS.k0 R1, RS.k1 R1, RS.k2 R1, RS.k3 R1, RS.k4 R1, RS.k5 R1, RS.f8 R1, RS.f9 R1, RS.t65 R1, RS.t102 R1, RS.t68 R1, RS.t70 R1, RS.t72 R1, RS.t74 R1, RS.t76 R1, RS.t78 R1, RS.a R2, RS.r0 R2, RS.h R2, RS.r2 R2, RS.l R2, RS.s R2, RS.k0 R2, RS.k1 R2, RS.k2 R2, RS.k3 R2, RS.k4 R2, RS.k5 R2, RS.f8 R2, RS.f9 R2, RS.t65 R2, RS.t102 R2, RS.t68 R2, RS.t70 R2, RS.t72 R2, RS.t74 R2, RS.t76 R2, RS.t78 R2, RS.a R3, RS.r0 R3, RS.h R3, RS.r2 R3, RS.l R3, RS.s R3, RS.k0 R3, RS.k1 R3, RS.k2 R3, RS.k3 R3, RS.k4 R3, RS.k5 R3, RS.f8 R3, RS.f9 R3, RS.t65 R3, RS.t102 R3, RS.t68 R3, RS.t70 R3, RS.t72 R3, RS.t74 R3, RS.t76 R3, RS.t78 R3, RS.a R4, RS.r0 R4, RS.h R4, RS.r2 R4, RS.l R4, RS.s R4, RS.k0 R4, RS.k1 R4, RS.k2 R4, RS.k3 R4, RS.k4 R4, RS.k5 R4, RS.f8 R4, RS.f9 R4, RS.t65 R4, RS.t102 R4, RS.t68 R4, RS.t70 R4, RS.t72 R4, RS.t74 R4, RS.t76 R4, RS.t78 R4, RS.a R5, RS.r0 R5, RS.h R5, RS.r2 R5, RS.l R5, RS.s R5, RS.k0 R5, RS.k1 R5, RS.k2 R5, RS.k3 R5, RS.k4 R5, RS.k5 R5, RS.f8 R5, RS.f9 R5, RS.t65 R5, RS.t102 R5, RS.t68 R5, RS.t70 R5, RS.t72 R5, RS.t74 R5, RS.t76 R5, RS.t78 R5, RS.a R6, RS.r0 R6, RS.h R6, RS.r2 R6, RS.l R6, RS.s R6, RS.k0 R6, RS.k1 R6, RS.k2 R6, RS.k3 R6, RS.k4 R6, RS.k5 R6, RS.f8 R6, RS.f9 R6, RS.t65 R6, RS.t102 R6, RS.t68 R6, RS.t70 R6, RS.t72 R6, RS.t74 R6, RS.t76 R6, RS.t78 R6, e1, v1, ec, e2, v2, e3, e4, ek, e5, e6, v6, e7]
end SNAKC
