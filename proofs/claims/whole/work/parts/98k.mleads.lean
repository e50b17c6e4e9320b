/-! The reader: leads, in the model. -/
theorem wm_26 : wom 26 (gS2 "ahead") = true := by decide +kernel
theorem wm_27 : wom 27 (gS2 "right") = true := by decide +kernel
theorem wm_28 : wom 28 (gS2 "left") = true := by decide +kernel
theorem wm_29 : wom 29 (gS2 "lot") = true := by decide +kernel
theorem wm_23 : wom 23 (gS2 "home") = true := by decide +kernel
theorem wm_30 : wom 30 (gS2 "told") = true := by decide +kernel
section MLEADS
variable {w u : jmW} {T : Nat → Int} {n h p : Nat} {H H2 : Nat → Nat → Int} {s : gSg} {l : Int}
theorem ws_6 {a b c d e f : Int} : gWs T n s [a, b, c, d, e, f] 0 = if gIs T n s a = true then 0 else if gIs T n s b = true then 1 else if gIs T n s c = true then 2 else if gIs T n s d = true then 3 else if gIs T n s e = true then 4 else if gIs T n s f = true then 5 else -1 := rfl
theorem pMH_c : pMH T n (uH H 0 7 5) p = uH (pMH T n H p) 0 7 5 := by
  unfold pMH
  rw [uH_n (i := 0) (j := 7) (a := 0) (b := 6) (by omega), uH_sw (i := 0) (j := 7) (k := 28) (by omega), uH_sw (i := 0) (j := 7) (k := 0) (l := 6) (by omega)]
theorem pM_c : pM T n (uH H 0 7 5) p = pM T n H p := by
  unfold pM
  rw [uH_n (by omega)]
theorem way_c : ∀ (m p : Nat) (H : Nat → Nat → Int), gWay T n m p (uH H 0 7 5) = ((gWay T n m p H).1, uH (gWay T n m p H).2 0 7 5) := by
  intro m
  induction m with
  | zero =>
    intro p H
    rfl
  | succ m ih =>
    intro p H
    have e : ∀ H, gWay T n (m + 1) p H = (match pM T n H p with | .inr x => (.inr x, H) | .inl q => if tK T n q = 4 then gWay T n m (tE T n q) (pMH T n H p) else (.inl q, pMH T n H p)) := fun H => rfl
    rw [e, e, pM_c, pMH_c]
    cases pM T n H p with
    | inr x => rfl
    | inl q =>
      dsimp only
      by_cases z : tK T n q = 4
      · rw [if_pos z, if_pos z]
        exact ih _ _
      · rw [if_neg z, if_neg z]
theorem HN.u6 (k : HN H) {a : Nat} {b v : Int} (h : 0 ≤ v ∧ v ≤ 12) : HN (uH (uH H 28 a b) 0 6 v) := by
  have hA : ∀ b', b' ≠ 6 → uH (uH H 28 a b) 0 6 v 0 b' = H 0 b' := fun b' z => by rw [uH_n (by omega), uH_n (by omega)]
  have h6 : uH (uH H 28 a b) 0 6 v 0 6 = v := uH_s
  unfold HN at k ⊢
  rw [hA 0 (by omega), hA 1 (by omega), hA 2 (by omega), hA 3 (by omega), hA 4 (by omega), hA 5 (by omega), h6, hA 7 (by omega), hA 8 (by omega), hA 10 (by omega), hA 12 (by omega), hA 13 (by omega)]
  omega
theorem mway_lp : ∀ (m p : Nat) (H : Nat → Nat → Int) (w : jmW) (tl : jmL), MS w T n h H (.inl p) → HN H → 13 ≤ H 0 6 + m → p ≤ n → t1p 3 tl → ∃ u, Fln h w u ∧ ((∃ q lv, (gWay T n m p H).1 = .inl q ∧ rn 201 (132, (0, jvr 238) :: (1, .inl 5) :: (2, .inl 1) :: tl, [], w) = rn 201 (210, (0, jvr 238) :: (1, .inl 5) :: lv, [], u) ∧ MS u T n h (gWay T n m p H).2 (.inl q)) ∨ (∃ x H2, (gWay T n m p H).1 = .inr x ∧ rn 201 (132, (0, jvr 238) :: (1, .inl 5) :: (2, .inl 1) :: tl, [], w) = some (none, u) ∧ MS u T n h H2 (.inr x) ∧ HN H2)) := by
  intro m
  induction m with
  | zero =>
    intro p H w tl M hn hm hp ht
    have b := hn.2.2.1
    omega
  | succ m ih =>
    intro p H w tl M hn hm hp ht
    have hge := M.ge
    have hb := hn.2.2.1
    have j2 := t1p_js ht
    have e : gWay T n (m + 1) p H = (match pM T n H p with | .inr x => (.inr x, H) | .inl q => if tK T n q = 4 then gWay T n m (tE T n q) (pMH T n H p) else (.inl q, pMH T n H p)) := rfl
    have eL : pM T n H p = (match pO T n (cs wSd) (.inl p) with | .inl q => if H 0 6 < 12 then .inl q else .inr (5, (tS T n p : Int)) | .inr x => .inr x) := rfl
    have eO : pO T n (cs wSd) (.inl p) = if 0 ≤ pI T n (cs wSd) (.inl p) then .inl (tE T n p) else .inr (1, (tS T n p : Int)) := rfl
    obtain ⟨u1, e1, M1, f1⟩ := ms_side M
    have eD : pD T n (.inl p) = if pI T n (cs wSd) (.inl p) < 0 then .inr (1, (tS T n p : Int)) else .inl p := rfl
    have pk := fun z => pi_k (T := T) (n := n) (ws := cs wSd) (p := p) z
    have ev : pI T n (cs wSd) (.inl p) = pI T n (cs wSd) (.inl p) := rfl
    have wb := wi_bd (cs wSd) (tW T n p) 0 (by omega)
    have eI : pI T n (cs wSd) (.inl p) = if tK T n p = 1 then gWi (cs wSd) (tW T n p) 0 else -1 := rfl
    have l4 : ((cs wSd).length : Int) = 4 := rfl
    have vb : -1 ≤ pI T n (cs wSd) (.inl p) ∧ pI T n (cs wSd) (.inl p) ≤ 3 := by
      rw [eI]
      split <;> omega
    clear eI wb
    have ePH : pMH T n H p = uH (uH H 28 (H 0 6).toNat (pI T n (cs wSd) (.inl p))) 0 6 (H 0 6 + 1) := rfl
    generalize hv : pI T n (cs wSd) (.inl p) = v at *
    by_cases zv : v < 0
    · rw [if_pos zv] at eD
      rw [eD] at M1
      rw [if_neg (by omega)] at eO
      rw [eO] at eL
      have eL : pM T n H p = .inr (1, (tS T n p : Int)) := eL
      rw [eL] at e
      dsimp only at e
      rw [e]
      obtain ⟨u2, e2, M2, f2⟩ := ms_flaw M1 (f := 5)
      have M2 : MS u2 T n h H (.inr (1, (tS T n p : Int))) := M2
      have g3 : ∃ u3, rn 201 (132, (0, jvr 238) :: (1, .inl 5) :: (2, .inl 1) :: tl, [], w) = rn 201 (158, [(0, jvr 238), (1, .inl 5), (2, .inl 1), (3, .inl v)], [], u3) ∧ MS u3 T n h H (.inr (1, (tS T n p : Int))) ∧ Ftk u1 u3 := by
        rw [p201_132]
        by_cases z : H 0 6 = 12
        · refine ⟨u2, ?_, M2, f2⟩
          simp (disch := omega) only [p201_0, p201_1, p201_2, p201_5, p201_8, p201_9, p201_12, p201_13, p201_16, p201_17, p201_18, p201_19, p201_22, p201_23, p201_26, p201_29, p201_32, p201_33, p201_36, p201_37, p201_40, p201_43, p201_46, p201_47, p201_50, p201_51, p201_54, p201_57, p201_60, p201_61, p201_64, p201_65, p201_68, p201_71, p201_74, p201_75, p201_78, p201_79, p201_81, p201_84, p201_87, p201_88, p201_91, p201_92, p201_95, p201_98, p201_101, p201_102, p201_105, p201_106, p201_107, p201_108, p201_109, p201_112, p201_113, p201_114, p201_117, p201_118, p201_121, p201_122, p201_123, p201_126, p201_127, p201_130, p201_131, p201_133, p201_136, p201_137, p201_140, p201_141, p201_142, p201_145, p201_148, p201_150, p201_153, p201_154, p201_155, p201_159, p201_162, p201_163, p201_166, p201_167, p201_170, p201_171, p201_172, p201_175, p201_178, p201_179, p201_182, p201_185, p201_186, p201_187, p201_188, p201_191i, p201_191a, p201_192, p201_195, p201_196, p201_197, p201_200, p201_201, p201_203, p201_206, p201_207, p201_211, p201_214, p201_215, p201_218, p201_219, p201_222, p201_223, p201_226, jwd_c, jwd_0, Nat.reduceLeDiff, Nat.reduceEqDiff, Nat.reduceAdd, Nat.reduceSub, Nat.reduceMul, Int.reduceAdd, Int.reduceSub, Int.reduceMul, Int.reduceNeg, Int.reduceEq, Int.reduceLT, Int.reduceLE, jq_ldi_i, jq_ldl_l, jq_lda_a, jq_inc_i, jq_gs_t, jq_gsb_t, jq_gb_t, jq_gr_2, jq_gr_4, jq_gw_2, jq_s_t, jq_b_t, jg_c, jg_n, js_c, js_n, jrm_c, jrm_n, j2_i, j2_l, j2_a, jq_c_i, jq_c_l, jq_c_0, jq_c_n, jwd_le, jw_c0, mS_I, mS_R, mS_J, mN_I, mN_R, mN_J, mR_I, mI_R, mJ_I, mJ_R, mI_J, mR_J, ↓reduceIte, decide_true, or_true, true_or, and_self, false_or, or_false, reduceCtorEq, Bool.false_eq_true, and_false, false_and, eq_self, true_and, and_true, zero_ne, ↓br_lt_t, ↓br_lt_f, ↓br_eq_t, ↓br_eq_f, ↓br_lz_t, ↓br_lz_f, ↓br_ez_t, ↓br_ez_f, ↓br_gz_t, ↓br_gz_f, jw_id, jin_t, jix_t, ↓ite_t, ↓ite_f, MS.a M, MS.r4 M, MS.b M, MS.f0 M, MS.f1 M, MS.f2 M, MS.f3 M, MS.f4 M, MS.f5 M, MS.f6 M, MS.f7 M, MS.f8 M, MS.f10 M, MS.f12 M, MS.f13 M, MS.a M1, MS.r4 M1, MS.b M1, MS.f0 M1, MS.f1 M1, MS.f2 M1, MS.f3 M1, MS.f4 M1, MS.f5 M1, MS.f6 M1, MS.f7 M1, MS.f8 M1, MS.f10 M1, MS.f12 M1, MS.f13 M1, e1, j2, e2]
        · refine ⟨u1, ?_, M1, Ftk.rf⟩
          simp (disch := omega) only [p201_0, p201_1, p201_2, p201_5, p201_8, p201_9, p201_12, p201_13, p201_16, p201_17, p201_18, p201_19, p201_22, p201_23, p201_26, p201_29, p201_32, p201_33, p201_36, p201_37, p201_40, p201_43, p201_46, p201_47, p201_50, p201_51, p201_54, p201_57, p201_60, p201_61, p201_64, p201_65, p201_68, p201_71, p201_74, p201_75, p201_78, p201_79, p201_81, p201_84, p201_87, p201_88, p201_91, p201_92, p201_95, p201_98, p201_101, p201_102, p201_105, p201_106, p201_107, p201_108, p201_109, p201_112, p201_113, p201_114, p201_117, p201_118, p201_121, p201_122, p201_123, p201_126, p201_127, p201_130, p201_131, p201_133, p201_136, p201_137, p201_140, p201_141, p201_142, p201_145, p201_148, p201_150, p201_153, p201_154, p201_155, p201_159, p201_162, p201_163, p201_166, p201_167, p201_170, p201_171, p201_172, p201_175, p201_178, p201_179, p201_182, p201_185, p201_186, p201_187, p201_188, p201_191i, p201_191a, p201_192, p201_195, p201_196, p201_197, p201_200, p201_201, p201_203, p201_206, p201_207, p201_211, p201_214, p201_215, p201_218, p201_219, p201_222, p201_223, p201_226, jwd_c, jwd_0, Nat.reduceLeDiff, Nat.reduceEqDiff, Nat.reduceAdd, Nat.reduceSub, Nat.reduceMul, Int.reduceAdd, Int.reduceSub, Int.reduceMul, Int.reduceNeg, Int.reduceEq, Int.reduceLT, Int.reduceLE, jq_ldi_i, jq_ldl_l, jq_lda_a, jq_inc_i, jq_gs_t, jq_gsb_t, jq_gb_t, jq_gr_2, jq_gr_4, jq_gw_2, jq_s_t, jq_b_t, jg_c, jg_n, js_c, js_n, jrm_c, jrm_n, j2_i, j2_l, j2_a, jq_c_i, jq_c_l, jq_c_0, jq_c_n, jwd_le, jw_c0, mS_I, mS_R, mS_J, mN_I, mN_R, mN_J, mR_I, mI_R, mJ_I, mJ_R, mI_J, mR_J, ↓reduceIte, decide_true, or_true, true_or, and_self, false_or, or_false, reduceCtorEq, Bool.false_eq_true, and_false, false_and, eq_self, true_and, and_true, zero_ne, ↓br_lt_t, ↓br_lt_f, ↓br_eq_t, ↓br_eq_f, ↓br_lz_t, ↓br_lz_f, ↓br_ez_t, ↓br_ez_f, ↓br_gz_t, ↓br_gz_f, jw_id, jin_t, jix_t, ↓ite_t, ↓ite_f, MS.a M, MS.r4 M, MS.b M, MS.f0 M, MS.f1 M, MS.f2 M, MS.f3 M, MS.f4 M, MS.f5 M, MS.f6 M, MS.f7 M, MS.f8 M, MS.f10 M, MS.f12 M, MS.f13 M, MS.a M1, MS.r4 M1, MS.b M1, MS.f0 M1, MS.f1 M1, MS.f2 M1, MS.f3 M1, MS.f4 M1, MS.f5 M1, MS.f6 M1, MS.f7 M1, MS.f8 M1, MS.f10 M1, MS.f12 M1, MS.f13 M1, e1, j2]
      obtain ⟨u3, e3, M3, f3⟩ := g3
      obtain ⟨u4, e4, M4, f4⟩ := ms_go M3 (fun p e => by cases e)
      have M4 : MS u4 T n h H (.inr (1, (tS T n p : Int))) := M4
      have k9 := M4.k.1
      refine ⟨u4, ((f1.tr f3).tr f4).ln, Or.inr ⟨_, H, rfl, ?_, M4, hn⟩⟩
      rw [e3, p201_158]
      simp (disch := omega) only [p201_0, p201_1, p201_2, p201_5, p201_8, p201_9, p201_12, p201_13, p201_16, p201_17, p201_18, p201_19, p201_22, p201_23, p201_26, p201_29, p201_32, p201_33, p201_36, p201_37, p201_40, p201_43, p201_46, p201_47, p201_50, p201_51, p201_54, p201_57, p201_60, p201_61, p201_64, p201_65, p201_68, p201_71, p201_74, p201_75, p201_78, p201_79, p201_81, p201_84, p201_87, p201_88, p201_91, p201_92, p201_95, p201_98, p201_101, p201_102, p201_105, p201_106, p201_107, p201_108, p201_109, p201_112, p201_113, p201_114, p201_117, p201_118, p201_121, p201_122, p201_123, p201_126, p201_127, p201_130, p201_131, p201_133, p201_136, p201_137, p201_140, p201_141, p201_142, p201_145, p201_148, p201_150, p201_153, p201_154, p201_155, p201_159, p201_162, p201_163, p201_166, p201_167, p201_170, p201_171, p201_172, p201_175, p201_178, p201_179, p201_182, p201_185, p201_186, p201_187, p201_188, p201_191i, p201_191a, p201_192, p201_195, p201_196, p201_197, p201_200, p201_201, p201_203, p201_206, p201_207, p201_211, p201_214, p201_215, p201_218, p201_219, p201_222, p201_223, p201_226, jwd_c, jwd_0, Nat.reduceLeDiff, Nat.reduceEqDiff, Nat.reduceAdd, Nat.reduceSub, Nat.reduceMul, Int.reduceAdd, Int.reduceSub, Int.reduceMul, Int.reduceNeg, Int.reduceEq, Int.reduceLT, Int.reduceLE, jq_ldi_i, jq_ldl_l, jq_lda_a, jq_inc_i, jq_gs_t, jq_gsb_t, jq_gb_t, jq_gr_2, jq_gr_4, jq_gw_2, jq_s_t, jq_b_t, jg_c, jg_n, js_c, js_n, jrm_c, jrm_n, j2_i, j2_l, j2_a, jq_c_i, jq_c_l, jq_c_0, jq_c_n, jwd_le, jw_c0, mS_I, mS_R, mS_J, mN_I, mN_R, mN_J, mR_I, mI_R, mJ_I, mJ_R, mI_J, mR_J, ↓reduceIte, decide_true, or_true, true_or, and_self, false_or, or_false, reduceCtorEq, Bool.false_eq_true, and_false, false_and, eq_self, true_and, and_true, zero_ne, ↓br_lt_t, ↓br_lt_f, ↓br_eq_t, ↓br_eq_f, ↓br_lz_t, ↓br_lz_f, ↓br_ez_t, ↓br_ez_f, ↓br_gz_t, ↓br_gz_f, jw_id, jin_t, jix_t, ↓ite_t, ↓ite_f, MS.a M3, MS.r4 M3, MS.b M3, MS.f0 M3, MS.f1 M3, MS.f2 M3, MS.f3 M3, MS.f4 M3, MS.f5 M3, MS.f6 M3, MS.f7 M3, MS.f8 M3, MS.f10 M3, MS.f12 M3, MS.f13 M3, MS.a M4, MS.r4 M4, MS.b M4, MS.f0 M4, MS.f1 M4, MS.f2 M4, MS.f3 M4, MS.f4 M4, MS.f5 M4, MS.f6 M4, MS.f7 M4, MS.f8 M4, MS.f10 M4, MS.f12 M4, MS.f13 M4, e4, k9]
    · rw [if_neg zv] at eD
      rw [eD] at M1
      rw [if_pos (by omega)] at eO
      rw [eO] at eL
      have k1 := pk (by omega)
      have te := te_m (T := T) (n := n) (p := p) ⟨Nat.le_refl _, hp⟩
      by_cases z : H 0 6 = 12
      · have eL : pM T n H p = .inr (5, (tS T n p : Int)) := eL.trans (if_neg (by omega))
        rw [eL] at e
        dsimp only at e
        rw [e]
        obtain ⟨u2, e2, M2, f2⟩ := ms_flaw M1 (f := 5)
        obtain ⟨u4, e4, M4, f4⟩ := ms_go M2 (fun p e => (pf_n e).elim)
        rw [pg_f] at M4
        have k9 := M4.k.1
        refine ⟨u4, ((f1.tr f2).tr f4).ln, Or.inr ⟨_, H, rfl, ?_, M4, hn⟩⟩
        rw [p201_132]
        simp (disch := omega) only [p201_0, p201_1, p201_2, p201_5, p201_8, p201_9, p201_12, p201_13, p201_16, p201_17, p201_18, p201_19, p201_22, p201_23, p201_26, p201_29, p201_32, p201_33, p201_36, p201_37, p201_40, p201_43, p201_46, p201_47, p201_50, p201_51, p201_54, p201_57, p201_60, p201_61, p201_64, p201_65, p201_68, p201_71, p201_74, p201_75, p201_78, p201_79, p201_81, p201_84, p201_87, p201_88, p201_91, p201_92, p201_95, p201_98, p201_101, p201_102, p201_105, p201_106, p201_107, p201_108, p201_109, p201_112, p201_113, p201_114, p201_117, p201_118, p201_121, p201_122, p201_123, p201_126, p201_127, p201_130, p201_131, p201_133, p201_136, p201_137, p201_140, p201_141, p201_142, p201_145, p201_148, p201_150, p201_153, p201_154, p201_155, p201_158, p201_159, p201_162, p201_163, p201_166, p201_167, p201_170, p201_171, p201_172, p201_175, p201_178, p201_179, p201_182, p201_185, p201_186, p201_187, p201_188, p201_191i, p201_191a, p201_192, p201_195, p201_196, p201_197, p201_200, p201_201, p201_203, p201_206, p201_207, p201_211, p201_214, p201_215, p201_218, p201_219, p201_222, p201_223, p201_226, jwd_c, jwd_0, Nat.reduceLeDiff, Nat.reduceEqDiff, Nat.reduceAdd, Nat.reduceSub, Nat.reduceMul, Int.reduceAdd, Int.reduceSub, Int.reduceMul, Int.reduceNeg, Int.reduceEq, Int.reduceLT, Int.reduceLE, jq_ldi_i, jq_ldl_l, jq_lda_a, jq_inc_i, jq_gs_t, jq_gsb_t, jq_gb_t, jq_gr_2, jq_gr_4, jq_gw_2, jq_s_t, jq_b_t, jg_c, jg_n, js_c, js_n, jrm_c, jrm_n, j2_i, j2_l, j2_a, jq_c_i, jq_c_l, jq_c_0, jq_c_n, jwd_le, jw_c0, mS_I, mS_R, mS_J, mN_I, mN_R, mN_J, mR_I, mI_R, mJ_I, mJ_R, mI_J, mR_J, ↓reduceIte, decide_true, or_true, true_or, and_self, false_or, or_false, reduceCtorEq, Bool.false_eq_true, and_false, false_and, eq_self, true_and, and_true, zero_ne, ↓br_lt_t, ↓br_lt_f, ↓br_eq_t, ↓br_eq_f, ↓br_lz_t, ↓br_lz_f, ↓br_ez_t, ↓br_ez_f, ↓br_gz_t, ↓br_gz_f, jw_id, jin_t, jix_t, ↓ite_t, ↓ite_f, MS.a M, MS.r4 M, MS.b M, MS.f0 M, MS.f1 M, MS.f2 M, MS.f3 M, MS.f4 M, MS.f5 M, MS.f6 M, MS.f7 M, MS.f8 M, MS.f10 M, MS.f12 M, MS.f13 M, MS.a M1, MS.r4 M1, MS.b M1, MS.f0 M1, MS.f1 M1, MS.f2 M1, MS.f3 M1, MS.f4 M1, MS.f5 M1, MS.f6 M1, MS.f7 M1, MS.f8 M1, MS.f10 M1, MS.f12 M1, MS.f13 M1, MS.a M2, MS.r4 M2, MS.b M2, MS.f0 M2, MS.f1 M2, MS.f2 M2, MS.f3 M2, MS.f4 M2, MS.f5 M2, MS.f6 M2, MS.f7 M2, MS.f8 M2, MS.f10 M2, MS.f12 M2, MS.f13 M2, MS.a M4, MS.r4 M4, MS.b M4, MS.f0 M4, MS.f1 M4, MS.f2 M4, MS.f3 M4, MS.f4 M4, MS.f5 M4, MS.f6 M4, MS.f7 M4, MS.f8 M4, MS.f10 M4, MS.f12 M4, MS.f13 M4, j2, e1, e2, e4, k9]
      · have eL : pM T n H p = .inl (tE T n p) := eL.trans (if_pos (by omega))
        rw [eL] at e
        dsimp only at e
        obtain ⟨u4, e4, M4, f4⟩ := ms_go M1 (fun q e => by
          have := Sum.inl.inj e
          subst this
          omega)
        have M4 : MS u4 T n h H (.inl (tE T n p)) := M4
        obtain ⟨v9, h9, b1, b2, b3⟩ := M4.n9
        rw [bl_l] at b3
        have M5 := M4.arr (i := 12) (k := (H 0 6).toNat) (x := v) (by omega) (by omega)
        have M6 := M5.num (k := 6) (x := H 0 6 + 1)
        have eP : uH (uH H (16 + 12) (H 0 6).toNat v) 0 6 (H 0 6 + 1) = pMH T n H p := ePH.symm
        have hn2 : HN (pMH T n H p) := by
          rw [ePH]
          exact hn.u6 (by omega)
        rw [eP] at M6
        obtain ⟨u7, e7, M7, f7⟩ := ms_eats M6 (k := 4) (c := 44) (by omega)
        have r28 := M4.2.1.r12
        have s28 := M4.2.1.s12
        have g5 : mI (setI u4 (h + 12) (H 0 6).toNat v) h 6 = H 0 6 := by rw [mI_nb (by omega)]; exact M4.f6
        have F6 : Fln h w u7 := ((f1.tr f4).ln.tr ((Fln.hal (b := h + 12) (k := (H 0 6).toNat) (x := v) (by omega) hge).tr (Fln.hal (b := h) (k := 6) (x := H 0 6 + 1) (by omega) hge))).tr f7.ln
        have x0 : ∀ b : Int, gSn T n (.inl (tE T n p)) 4 = decide (b = 1) → (b = 0 ∨ b = 1) → rn 201 (132, (0, jvr 238) :: (1, .inl 5) :: (2, .inl 1) :: tl, [], w) = rn 201 (132, [(0, jvr 238), (1, .inl 5), (2, .inl b), (3, .inl v)], [], u7) := by
          intro b hb hb2
          have eb : (if gSn T n (.inl (tE T n p)) 4 = true then (1 : Int) else 0) = b := by
            rw [hb]
            rcases hb2 with rfl | rfl <;> rfl
          rw [eb] at e7
          rw [p201_132]
          simp (disch := omega) only [p201_0, p201_1, p201_2, p201_5, p201_8, p201_9, p201_12, p201_13, p201_16, p201_17, p201_18, p201_19, p201_22, p201_23, p201_26, p201_29, p201_32, p201_33, p201_36, p201_37, p201_40, p201_43, p201_46, p201_47, p201_50, p201_51, p201_54, p201_57, p201_60, p201_61, p201_64, p201_65, p201_68, p201_71, p201_74, p201_75, p201_78, p201_79, p201_81, p201_84, p201_87, p201_88, p201_91, p201_92, p201_95, p201_98, p201_101, p201_102, p201_105, p201_106, p201_107, p201_108, p201_109, p201_112, p201_113, p201_114, p201_117, p201_118, p201_121, p201_122, p201_123, p201_126, p201_127, p201_130, p201_131, p201_133, p201_136, p201_137, p201_140, p201_141, p201_142, p201_145, p201_148, p201_150, p201_153, p201_154, p201_155, p201_158, p201_159, p201_162, p201_163, p201_166, p201_167, p201_170, p201_171, p201_172, p201_175, p201_178, p201_179, p201_182, p201_185, p201_186, p201_187, p201_188, p201_191i, p201_191a, p201_192, p201_195, p201_196, p201_197, p201_200, p201_201, p201_203, p201_206, p201_207, p201_211, p201_214, p201_215, p201_218, p201_219, p201_222, p201_223, p201_226, jwd_c, jwd_0, Nat.reduceLeDiff, Nat.reduceEqDiff, Nat.reduceAdd, Nat.reduceSub, Nat.reduceMul, Int.reduceAdd, Int.reduceSub, Int.reduceMul, Int.reduceNeg, Int.reduceEq, Int.reduceLT, Int.reduceLE, jq_ldi_i, jq_ldl_l, jq_lda_a, jq_inc_i, jq_gs_t, jq_gsb_t, jq_gb_t, jq_gr_2, jq_gr_4, jq_gw_2, jq_s_t, jq_b_t, jg_c, jg_n, js_c, js_n, jrm_c, jrm_n, j2_i, j2_l, j2_a, jq_c_i, jq_c_l, jq_c_0, jq_c_n, jwd_le, jw_c0, mS_I, mS_R, mS_J, mN_I, mN_R, mN_J, mR_I, mI_R, mJ_I, mJ_R, mI_J, mR_J, ↓reduceIte, decide_true, or_true, true_or, and_self, false_or, or_false, reduceCtorEq, Bool.false_eq_true, and_false, false_and, eq_self, true_and, and_true, zero_ne, ↓br_lt_t, ↓br_lt_f, ↓br_eq_t, ↓br_eq_f, ↓br_lz_t, ↓br_lz_f, ↓br_ez_t, ↓br_ez_f, ↓br_gz_t, ↓br_gz_f, jw_id, jin_t, jix_t, ↓ite_t, ↓ite_f, MS.a M, MS.r4 M, MS.b M, MS.f0 M, MS.f1 M, MS.f2 M, MS.f3 M, MS.f4 M, MS.f5 M, MS.f6 M, MS.f7 M, MS.f8 M, MS.f10 M, MS.f12 M, MS.f13 M, MS.a M1, MS.r4 M1, MS.b M1, MS.f0 M1, MS.f1 M1, MS.f2 M1, MS.f3 M1, MS.f4 M1, MS.f5 M1, MS.f6 M1, MS.f7 M1, MS.f8 M1, MS.f10 M1, MS.f12 M1, MS.f13 M1, MS.a M4, MS.r4 M4, MS.b M4, MS.f0 M4, MS.f1 M4, MS.f2 M4, MS.f3 M4, MS.f4 M4, MS.f5 M4, MS.f6 M4, MS.f7 M4, MS.f8 M4, MS.f10 M4, MS.f12 M4, MS.f13 M4, MS.a M5, MS.r4 M5, MS.b M5, MS.a M6, j2, e1, e4, h9, r28, s28, g5, e7]
        have eS : gSn T n (.inl (tE T n p)) 4 = decide (tK T n (tE T n p) = 4) := rfl
        by_cases k4 : tK T n (tE T n p) = 4
        · rw [if_pos k4] at e
          have x1 := x0 1 (eS.trans (decide_eq_true k4)) (Or.inr rfl)
          rw [if_pos (eS.trans (decide_eq_true k4))] at M7
          have M7 : MS u7 T n h (pMH T n H p) (.inl (tE T n (tE T n p))) := M7
          have h5' : pMH T n H p 0 6 = H 0 6 + 1 := uH_s
          have te2 := te_m (T := T) (n := n) (p := p) te
          obtain ⟨u8, f8, h8⟩ := ih (tE T n (tE T n p)) (pMH T n H p) u7 [(3, .inl v)] M7 hn2 (by omega) te2.2 (Or.inr ⟨_, rfl⟩)
          rw [e, x1]
          exact ⟨u8, F6.tr f8, h8⟩
        · rw [if_neg k4] at e
          have x1 := x0 0 (eS.trans (decide_eq_false k4)) (Or.inl rfl)
          rw [if_neg (by rw [eS, decide_eq_false k4]; decide)] at M7
          rw [e]
          refine ⟨u7, F6, Or.inl ⟨_, [(2, .inl 0), (3, .inl v)], rfl, ?_, M7⟩⟩
          rw [x1, p201_132]
          simp (disch := omega) only [p201_0, p201_1, p201_2, p201_5, p201_8, p201_9, p201_12, p201_13, p201_16, p201_17, p201_18, p201_19, p201_22, p201_23, p201_26, p201_29, p201_32, p201_33, p201_36, p201_37, p201_40, p201_43, p201_46, p201_47, p201_50, p201_51, p201_54, p201_57, p201_60, p201_61, p201_64, p201_65, p201_68, p201_71, p201_74, p201_75, p201_78, p201_79, p201_81, p201_84, p201_87, p201_88, p201_91, p201_92, p201_95, p201_98, p201_101, p201_102, p201_105, p201_106, p201_107, p201_108, p201_109, p201_112, p201_113, p201_114, p201_117, p201_118, p201_121, p201_122, p201_123, p201_126, p201_127, p201_130, p201_131, p201_133, p201_136, p201_137, p201_140, p201_141, p201_142, p201_145, p201_148, p201_150, p201_153, p201_154, p201_155, p201_158, p201_159, p201_162, p201_163, p201_166, p201_167, p201_170, p201_171, p201_172, p201_175, p201_178, p201_179, p201_182, p201_185, p201_186, p201_187, p201_188, p201_191i, p201_191a, p201_192, p201_195, p201_196, p201_197, p201_200, p201_201, p201_203, p201_206, p201_207, p201_211, p201_214, p201_215, p201_218, p201_219, p201_222, p201_223, p201_226, jwd_c, jwd_0, Nat.reduceLeDiff, Nat.reduceEqDiff, Nat.reduceAdd, Nat.reduceSub, Nat.reduceMul, Int.reduceAdd, Int.reduceSub, Int.reduceMul, Int.reduceNeg, Int.reduceEq, Int.reduceLT, Int.reduceLE, jq_ldi_i, jq_ldl_l, jq_lda_a, jq_inc_i, jq_gs_t, jq_gsb_t, jq_gb_t, jq_gr_2, jq_gr_4, jq_gw_2, jq_s_t, jq_b_t, jg_c, jg_n, js_c, js_n, jrm_c, jrm_n, j2_i, j2_l, j2_a, jq_c_i, jq_c_l, jq_c_0, jq_c_n, jwd_le, jw_c0, mS_I, mS_R, mS_J, mN_I, mN_R, mN_J, mR_I, mI_R, mJ_I, mJ_R, mI_J, mR_J, ↓reduceIte, decide_true, or_true, true_or, and_self, false_or, or_false, reduceCtorEq, Bool.false_eq_true, and_false, false_and, eq_self, true_and, and_true, zero_ne, ↓br_lt_t, ↓br_lt_f, ↓br_eq_t, ↓br_eq_f, ↓br_lz_t, ↓br_lz_f, ↓br_ez_t, ↓br_ez_f, ↓br_gz_t, ↓br_gz_f, jw_id, jin_t, jix_t, ↓ite_t, ↓ite_f]
theorem ml_5 (M : MS w T n h H (.inl p)) (hi : HI H) (k1 : tK T n p = 1) (hp : p ≤ n) : ∃ u, rn 201 (0, [(0, jvr 238)], [], w) = some (none, u) ∧ Fln h w u ∧ ML u T n h H p 5 := by
  have hge := M.ge
  have hn := hi.hn
  obtain ⟨n1, n2, n3, n4⟩ := hn
  obtain ⟨u1, e1, M1, f1⟩ := mb_5 M hi k1
  have eg : gCom T n H 5 p = if gFa H 5 = 0 then .inl (tE T n p) else .inr (gFa H 5, (tS T n p : Int)) := rfl
  generalize hs1 : gCom T n H 5 p = s at *
  have g2 : ∃ u2, rn 201 (22, [(0, jvr 238)], [], u1) = rn 201 (132, [(0, jvr 238), (1, .inl (pI T n (cs wLd) s)), (2, .inl (if pI T n (cs wLd) s = 5 then 1 else 0))], [], u2) ∧ MS u2 T n h H (pO T n (cs wLd) s) ∧ Ftk u1 u2 := by
    have a := M1.a
    have w0 := ms_isWord M1 wm_26
    have w1 := ms_isWord M1 wm_27
    have w2 := ms_isWord M1 wm_28
    have w3 := ms_isWord M1 wm_29
    have w4 := ms_isWord M1 wm_23
    have w5 := ms_isWord M1 wm_30
    have eI : pI T n (cs wLd) s = if gIs T n s (cD (gS2 "ahead")) = true then 0 else if gIs T n s (cD (gS2 "right")) = true then 1 else if gIs T n s (cD (gS2 "left")) = true then 2 else if gIs T n s (cD (gS2 "lot")) = true then 3 else if gIs T n s (cD (gS2 "home")) = true then 4 else if gIs T n s (cD (gS2 "told")) = true then 5 else -1 := (pi_ws _).trans ws_6
    have gf := ms_gf M1 (b := 0 ≤ pI T n (cs wLd) s) (fun z p e => by
      subst e
      have := pi_k z
      omega) 1
    rw [po_g, p201_22]
    by_cases z0 : gIs T n s (cD (gS2 "ahead")) = true
    · rw [if_pos z0] at w0 eI
      obtain ⟨u, e, M2, f⟩ := gf.1 (by omega)
      refine ⟨u, ?_, M2, f⟩
      rw [eI]
      simp (disch := omega) only [p201_0, p201_1, p201_2, p201_5, p201_8, p201_9, p201_12, p201_13, p201_16, p201_17, p201_18, p201_19, p201_23, p201_26, p201_29, p201_32, p201_33, p201_36, p201_37, p201_40, p201_43, p201_46, p201_47, p201_50, p201_51, p201_54, p201_57, p201_60, p201_61, p201_64, p201_65, p201_68, p201_71, p201_74, p201_75, p201_78, p201_79, p201_81, p201_84, p201_87, p201_88, p201_91, p201_92, p201_95, p201_98, p201_101, p201_102, p201_105, p201_106, p201_107, p201_108, p201_109, p201_112, p201_113, p201_114, p201_117, p201_118, p201_121, p201_122, p201_123, p201_126, p201_127, p201_130, p201_131, p201_133, p201_136, p201_137, p201_140, p201_141, p201_142, p201_145, p201_148, p201_150, p201_153, p201_154, p201_155, p201_158, p201_159, p201_162, p201_163, p201_166, p201_167, p201_170, p201_171, p201_172, p201_175, p201_178, p201_179, p201_182, p201_185, p201_186, p201_187, p201_188, p201_191i, p201_191a, p201_192, p201_195, p201_196, p201_197, p201_200, p201_201, p201_203, p201_206, p201_207, p201_210, p201_211, p201_214, p201_215, p201_218, p201_219, p201_222, p201_223, p201_226, jwd_c, jwd_0, Nat.reduceLeDiff, Nat.reduceEqDiff, Nat.reduceAdd, Nat.reduceSub, Nat.reduceMul, Int.reduceAdd, Int.reduceSub, Int.reduceMul, Int.reduceNeg, Int.reduceEq, Int.reduceLT, Int.reduceLE, jq_ldi_i, jq_ldl_l, jq_lda_a, jq_inc_i, jq_gs_t, jq_gsb_t, jq_gb_t, jq_gr_2, jq_gr_4, jq_gw_2, jq_s_t, jq_b_t, jg_c, jg_n, js_c, js_n, jrm_c, jrm_n, j2_i, j2_l, j2_a, jq_c_i, jq_c_l, jq_c_0, jq_c_n, jwd_le, jw_c0, mS_I, mS_R, mS_J, mN_I, mN_R, mN_J, mR_I, mI_R, mJ_I, mJ_R, mI_J, mR_J, ↓reduceIte, decide_true, or_true, true_or, and_self, false_or, or_false, reduceCtorEq, Bool.false_eq_true, and_false, false_and, eq_self, true_and, and_true, zero_ne, ↓br_lt_t, ↓br_lt_f, ↓br_eq_t, ↓br_eq_f, ↓br_lz_t, ↓br_lz_f, ↓br_ez_t, ↓br_ez_f, ↓br_gz_t, ↓br_gz_f, jw_id, jin_t, jix_t, ↓ite_t, ↓ite_f, a, w0, e]
    rw [if_neg z0] at w0 eI
    by_cases z1 : gIs T n s (cD (gS2 "right")) = true
    · rw [if_pos z1] at w1 eI
      obtain ⟨u, e, M2, f⟩ := gf.1 (by omega)
      refine ⟨u, ?_, M2, f⟩
      rw [eI]
      simp (disch := omega) only [p201_0, p201_1, p201_2, p201_5, p201_8, p201_9, p201_12, p201_13, p201_16, p201_17, p201_18, p201_19, p201_23, p201_26, p201_29, p201_32, p201_33, p201_36, p201_37, p201_40, p201_43, p201_46, p201_47, p201_50, p201_51, p201_54, p201_57, p201_60, p201_61, p201_64, p201_65, p201_68, p201_71, p201_74, p201_75, p201_78, p201_79, p201_81, p201_84, p201_87, p201_88, p201_91, p201_92, p201_95, p201_98, p201_101, p201_102, p201_105, p201_106, p201_107, p201_108, p201_109, p201_112, p201_113, p201_114, p201_117, p201_118, p201_121, p201_122, p201_123, p201_126, p201_127, p201_130, p201_131, p201_133, p201_136, p201_137, p201_140, p201_141, p201_142, p201_145, p201_148, p201_150, p201_153, p201_154, p201_155, p201_158, p201_159, p201_162, p201_163, p201_166, p201_167, p201_170, p201_171, p201_172, p201_175, p201_178, p201_179, p201_182, p201_185, p201_186, p201_187, p201_188, p201_191i, p201_191a, p201_192, p201_195, p201_196, p201_197, p201_200, p201_201, p201_203, p201_206, p201_207, p201_210, p201_211, p201_214, p201_215, p201_218, p201_219, p201_222, p201_223, p201_226, jwd_c, jwd_0, Nat.reduceLeDiff, Nat.reduceEqDiff, Nat.reduceAdd, Nat.reduceSub, Nat.reduceMul, Int.reduceAdd, Int.reduceSub, Int.reduceMul, Int.reduceNeg, Int.reduceEq, Int.reduceLT, Int.reduceLE, jq_ldi_i, jq_ldl_l, jq_lda_a, jq_inc_i, jq_gs_t, jq_gsb_t, jq_gb_t, jq_gr_2, jq_gr_4, jq_gw_2, jq_s_t, jq_b_t, jg_c, jg_n, js_c, js_n, jrm_c, jrm_n, j2_i, j2_l, j2_a, jq_c_i, jq_c_l, jq_c_0, jq_c_n, jwd_le, jw_c0, mS_I, mS_R, mS_J, mN_I, mN_R, mN_J, mR_I, mI_R, mJ_I, mJ_R, mI_J, mR_J, ↓reduceIte, decide_true, or_true, true_or, and_self, false_or, or_false, reduceCtorEq, Bool.false_eq_true, and_false, false_and, eq_self, true_and, and_true, zero_ne, ↓br_lt_t, ↓br_lt_f, ↓br_eq_t, ↓br_eq_f, ↓br_lz_t, ↓br_lz_f, ↓br_ez_t, ↓br_ez_f, ↓br_gz_t, ↓br_gz_f, jw_id, jin_t, jix_t, ↓ite_t, ↓ite_f, a, w0, w1, e]
    rw [if_neg z1] at w1 eI
    by_cases z2 : gIs T n s (cD (gS2 "left")) = true
    · rw [if_pos z2] at w2 eI
      obtain ⟨u, e, M2, f⟩ := gf.1 (by omega)
      refine ⟨u, ?_, M2, f⟩
      rw [eI]
      simp (disch := omega) only [p201_0, p201_1, p201_2, p201_5, p201_8, p201_9, p201_12, p201_13, p201_16, p201_17, p201_18, p201_19, p201_23, p201_26, p201_29, p201_32, p201_33, p201_36, p201_37, p201_40, p201_43, p201_46, p201_47, p201_50, p201_51, p201_54, p201_57, p201_60, p201_61, p201_64, p201_65, p201_68, p201_71, p201_74, p201_75, p201_78, p201_79, p201_81, p201_84, p201_87, p201_88, p201_91, p201_92, p201_95, p201_98, p201_101, p201_102, p201_105, p201_106, p201_107, p201_108, p201_109, p201_112, p201_113, p201_114, p201_117, p201_118, p201_121, p201_122, p201_123, p201_126, p201_127, p201_130, p201_131, p201_133, p201_136, p201_137, p201_140, p201_141, p201_142, p201_145, p201_148, p201_150, p201_153, p201_154, p201_155, p201_158, p201_159, p201_162, p201_163, p201_166, p201_167, p201_170, p201_171, p201_172, p201_175, p201_178, p201_179, p201_182, p201_185, p201_186, p201_187, p201_188, p201_191i, p201_191a, p201_192, p201_195, p201_196, p201_197, p201_200, p201_201, p201_203, p201_206, p201_207, p201_210, p201_211, p201_214, p201_215, p201_218, p201_219, p201_222, p201_223, p201_226, jwd_c, jwd_0, Nat.reduceLeDiff, Nat.reduceEqDiff, Nat.reduceAdd, Nat.reduceSub, Nat.reduceMul, Int.reduceAdd, Int.reduceSub, Int.reduceMul, Int.reduceNeg, Int.reduceEq, Int.reduceLT, Int.reduceLE, jq_ldi_i, jq_ldl_l, jq_lda_a, jq_inc_i, jq_gs_t, jq_gsb_t, jq_gb_t, jq_gr_2, jq_gr_4, jq_gw_2, jq_s_t, jq_b_t, jg_c, jg_n, js_c, js_n, jrm_c, jrm_n, j2_i, j2_l, j2_a, jq_c_i, jq_c_l, jq_c_0, jq_c_n, jwd_le, jw_c0, mS_I, mS_R, mS_J, mN_I, mN_R, mN_J, mR_I, mI_R, mJ_I, mJ_R, mI_J, mR_J, ↓reduceIte, decide_true, or_true, true_or, and_self, false_or, or_false, reduceCtorEq, Bool.false_eq_true, and_false, false_and, eq_self, true_and, and_true, zero_ne, ↓br_lt_t, ↓br_lt_f, ↓br_eq_t, ↓br_eq_f, ↓br_lz_t, ↓br_lz_f, ↓br_ez_t, ↓br_ez_f, ↓br_gz_t, ↓br_gz_f, jw_id, jin_t, jix_t, ↓ite_t, ↓ite_f, a, w0, w1, w2, e]
    rw [if_neg z2] at w2 eI
    by_cases z3 : gIs T n s (cD (gS2 "lot")) = true
    · rw [if_pos z3] at w3 eI
      obtain ⟨u, e, M2, f⟩ := gf.1 (by omega)
      refine ⟨u, ?_, M2, f⟩
      rw [eI]
      simp (disch := omega) only [p201_0, p201_1, p201_2, p201_5, p201_8, p201_9, p201_12, p201_13, p201_16, p201_17, p201_18, p201_19, p201_23, p201_26, p201_29, p201_32, p201_33, p201_36, p201_37, p201_40, p201_43, p201_46, p201_47, p201_50, p201_51, p201_54, p201_57, p201_60, p201_61, p201_64, p201_65, p201_68, p201_71, p201_74, p201_75, p201_78, p201_79, p201_81, p201_84, p201_87, p201_88, p201_91, p201_92, p201_95, p201_98, p201_101, p201_102, p201_105, p201_106, p201_107, p201_108, p201_109, p201_112, p201_113, p201_114, p201_117, p201_118, p201_121, p201_122, p201_123, p201_126, p201_127, p201_130, p201_131, p201_133, p201_136, p201_137, p201_140, p201_141, p201_142, p201_145, p201_148, p201_150, p201_153, p201_154, p201_155, p201_158, p201_159, p201_162, p201_163, p201_166, p201_167, p201_170, p201_171, p201_172, p201_175, p201_178, p201_179, p201_182, p201_185, p201_186, p201_187, p201_188, p201_191i, p201_191a, p201_192, p201_195, p201_196, p201_197, p201_200, p201_201, p201_203, p201_206, p201_207, p201_210, p201_211, p201_214, p201_215, p201_218, p201_219, p201_222, p201_223, p201_226, jwd_c, jwd_0, Nat.reduceLeDiff, Nat.reduceEqDiff, Nat.reduceAdd, Nat.reduceSub, Nat.reduceMul, Int.reduceAdd, Int.reduceSub, Int.reduceMul, Int.reduceNeg, Int.reduceEq, Int.reduceLT, Int.reduceLE, jq_ldi_i, jq_ldl_l, jq_lda_a, jq_inc_i, jq_gs_t, jq_gsb_t, jq_gb_t, jq_gr_2, jq_gr_4, jq_gw_2, jq_s_t, jq_b_t, jg_c, jg_n, js_c, js_n, jrm_c, jrm_n, j2_i, j2_l, j2_a, jq_c_i, jq_c_l, jq_c_0, jq_c_n, jwd_le, jw_c0, mS_I, mS_R, mS_J, mN_I, mN_R, mN_J, mR_I, mI_R, mJ_I, mJ_R, mI_J, mR_J, ↓reduceIte, decide_true, or_true, true_or, and_self, false_or, or_false, reduceCtorEq, Bool.false_eq_true, and_false, false_and, eq_self, true_and, and_true, zero_ne, ↓br_lt_t, ↓br_lt_f, ↓br_eq_t, ↓br_eq_f, ↓br_lz_t, ↓br_lz_f, ↓br_ez_t, ↓br_ez_f, ↓br_gz_t, ↓br_gz_f, jw_id, jin_t, jix_t, ↓ite_t, ↓ite_f, a, w0, w1, w2, w3, e]
    rw [if_neg z3] at w3 eI
    by_cases z4 : gIs T n s (cD (gS2 "home")) = true
    · rw [if_pos z4] at w4 eI
      obtain ⟨u, e, M2, f⟩ := gf.1 (by omega)
      refine ⟨u, ?_, M2, f⟩
      rw [eI]
      simp (disch := omega) only [p201_0, p201_1, p201_2, p201_5, p201_8, p201_9, p201_12, p201_13, p201_16, p201_17, p201_18, p201_19, p201_23, p201_26, p201_29, p201_32, p201_33, p201_36, p201_37, p201_40, p201_43, p201_46, p201_47, p201_50, p201_51, p201_54, p201_57, p201_60, p201_61, p201_64, p201_65, p201_68, p201_71, p201_74, p201_75, p201_78, p201_79, p201_81, p201_84, p201_87, p201_88, p201_91, p201_92, p201_95, p201_98, p201_101, p201_102, p201_105, p201_106, p201_107, p201_108, p201_109, p201_112, p201_113, p201_114, p201_117, p201_118, p201_121, p201_122, p201_123, p201_126, p201_127, p201_130, p201_131, p201_133, p201_136, p201_137, p201_140, p201_141, p201_142, p201_145, p201_148, p201_150, p201_153, p201_154, p201_155, p201_158, p201_159, p201_162, p201_163, p201_166, p201_167, p201_170, p201_171, p201_172, p201_175, p201_178, p201_179, p201_182, p201_185, p201_186, p201_187, p201_188, p201_191i, p201_191a, p201_192, p201_195, p201_196, p201_197, p201_200, p201_201, p201_203, p201_206, p201_207, p201_210, p201_211, p201_214, p201_215, p201_218, p201_219, p201_222, p201_223, p201_226, jwd_c, jwd_0, Nat.reduceLeDiff, Nat.reduceEqDiff, Nat.reduceAdd, Nat.reduceSub, Nat.reduceMul, Int.reduceAdd, Int.reduceSub, Int.reduceMul, Int.reduceNeg, Int.reduceEq, Int.reduceLT, Int.reduceLE, jq_ldi_i, jq_ldl_l, jq_lda_a, jq_inc_i, jq_gs_t, jq_gsb_t, jq_gb_t, jq_gr_2, jq_gr_4, jq_gw_2, jq_s_t, jq_b_t, jg_c, jg_n, js_c, js_n, jrm_c, jrm_n, j2_i, j2_l, j2_a, jq_c_i, jq_c_l, jq_c_0, jq_c_n, jwd_le, jw_c0, mS_I, mS_R, mS_J, mN_I, mN_R, mN_J, mR_I, mI_R, mJ_I, mJ_R, mI_J, mR_J, ↓reduceIte, decide_true, or_true, true_or, and_self, false_or, or_false, reduceCtorEq, Bool.false_eq_true, and_false, false_and, eq_self, true_and, and_true, zero_ne, ↓br_lt_t, ↓br_lt_f, ↓br_eq_t, ↓br_eq_f, ↓br_lz_t, ↓br_lz_f, ↓br_ez_t, ↓br_ez_f, ↓br_gz_t, ↓br_gz_f, jw_id, jin_t, jix_t, ↓ite_t, ↓ite_f, a, w0, w1, w2, w3, w4, e]
    rw [if_neg z4] at w4 eI
    by_cases z5 : gIs T n s (cD (gS2 "told")) = true
    · rw [if_pos z5] at w5 eI
      obtain ⟨u, e, M2, f⟩ := gf.1 (by omega)
      refine ⟨u, ?_, M2, f⟩
      rw [eI]
      simp (disch := omega) only [p201_0, p201_1, p201_2, p201_5, p201_8, p201_9, p201_12, p201_13, p201_16, p201_17, p201_18, p201_19, p201_23, p201_26, p201_29, p201_32, p201_33, p201_36, p201_37, p201_40, p201_43, p201_46, p201_47, p201_50, p201_51, p201_54, p201_57, p201_60, p201_61, p201_64, p201_65, p201_68, p201_71, p201_74, p201_75, p201_78, p201_79, p201_81, p201_84, p201_87, p201_88, p201_91, p201_92, p201_95, p201_98, p201_101, p201_102, p201_105, p201_106, p201_107, p201_108, p201_109, p201_112, p201_113, p201_114, p201_117, p201_118, p201_121, p201_122, p201_123, p201_126, p201_127, p201_130, p201_131, p201_133, p201_136, p201_137, p201_140, p201_141, p201_142, p201_145, p201_148, p201_150, p201_153, p201_154, p201_155, p201_158, p201_159, p201_162, p201_163, p201_166, p201_167, p201_170, p201_171, p201_172, p201_175, p201_178, p201_179, p201_182, p201_185, p201_186, p201_187, p201_188, p201_191i, p201_191a, p201_192, p201_195, p201_196, p201_197, p201_200, p201_201, p201_203, p201_206, p201_207, p201_210, p201_211, p201_214, p201_215, p201_218, p201_219, p201_222, p201_223, p201_226, jwd_c, jwd_0, Nat.reduceLeDiff, Nat.reduceEqDiff, Nat.reduceAdd, Nat.reduceSub, Nat.reduceMul, Int.reduceAdd, Int.reduceSub, Int.reduceMul, Int.reduceNeg, Int.reduceEq, Int.reduceLT, Int.reduceLE, jq_ldi_i, jq_ldl_l, jq_lda_a, jq_inc_i, jq_gs_t, jq_gsb_t, jq_gb_t, jq_gr_2, jq_gr_4, jq_gw_2, jq_s_t, jq_b_t, jg_c, jg_n, js_c, js_n, jrm_c, jrm_n, j2_i, j2_l, j2_a, jq_c_i, jq_c_l, jq_c_0, jq_c_n, jwd_le, jw_c0, mS_I, mS_R, mS_J, mN_I, mN_R, mN_J, mR_I, mI_R, mJ_I, mJ_R, mI_J, mR_J, ↓reduceIte, decide_true, or_true, true_or, and_self, false_or, or_false, reduceCtorEq, Bool.false_eq_true, and_false, false_and, eq_self, true_and, and_true, zero_ne, ↓br_lt_t, ↓br_lt_f, ↓br_eq_t, ↓br_eq_f, ↓br_lz_t, ↓br_lz_f, ↓br_ez_t, ↓br_ez_f, ↓br_gz_t, ↓br_gz_f, jw_id, jin_t, jix_t, ↓ite_t, ↓ite_f, a, w0, w1, w2, w3, w4, w5, e]
    rw [if_neg z5] at w5 eI
    obtain ⟨v, u, e5, q, e6, M2, f⟩ := gf.2 (by omega)
    have av : mS v 238 = (1, 9, 0) := by rw [q]; exact a
    refine ⟨u, ?_, M2, f⟩
    rw [eI]
    simp (disch := omega) only [p201_0, p201_1, p201_2, p201_5, p201_8, p201_9, p201_12, p201_13, p201_16, p201_17, p201_18, p201_19, p201_23, p201_26, p201_29, p201_32, p201_33, p201_36, p201_37, p201_40, p201_43, p201_46, p201_47, p201_50, p201_51, p201_54, p201_57, p201_60, p201_61, p201_64, p201_65, p201_68, p201_71, p201_74, p201_75, p201_78, p201_79, p201_81, p201_84, p201_87, p201_88, p201_91, p201_92, p201_95, p201_98, p201_101, p201_102, p201_105, p201_106, p201_107, p201_108, p201_109, p201_112, p201_113, p201_114, p201_117, p201_118, p201_121, p201_122, p201_123, p201_126, p201_127, p201_130, p201_131, p201_133, p201_136, p201_137, p201_140, p201_141, p201_142, p201_145, p201_148, p201_150, p201_153, p201_154, p201_155, p201_158, p201_159, p201_162, p201_163, p201_166, p201_167, p201_170, p201_171, p201_172, p201_175, p201_178, p201_179, p201_182, p201_185, p201_186, p201_187, p201_188, p201_191i, p201_191a, p201_192, p201_195, p201_196, p201_197, p201_200, p201_201, p201_203, p201_206, p201_207, p201_210, p201_211, p201_214, p201_215, p201_218, p201_219, p201_222, p201_223, p201_226, jwd_c, jwd_0, Nat.reduceLeDiff, Nat.reduceEqDiff, Nat.reduceAdd, Nat.reduceSub, Nat.reduceMul, Int.reduceAdd, Int.reduceSub, Int.reduceMul, Int.reduceNeg, Int.reduceEq, Int.reduceLT, Int.reduceLE, jq_ldi_i, jq_ldl_l, jq_lda_a, jq_inc_i, jq_gs_t, jq_gsb_t, jq_gb_t, jq_gr_2, jq_gr_4, jq_gw_2, jq_s_t, jq_b_t, jg_c, jg_n, js_c, js_n, jrm_c, jrm_n, j2_i, j2_l, j2_a, jq_c_i, jq_c_l, jq_c_0, jq_c_n, jwd_le, jw_c0, mS_I, mS_R, mS_J, mN_I, mN_R, mN_J, mR_I, mI_R, mJ_I, mJ_R, mI_J, mR_J, ↓reduceIte, decide_true, or_true, true_or, and_self, false_or, or_false, reduceCtorEq, Bool.false_eq_true, and_false, false_and, eq_self, true_and, and_true, zero_ne, ↓br_lt_t, ↓br_lt_f, ↓br_eq_t, ↓br_eq_f, ↓br_lz_t, ↓br_lz_f, ↓br_ez_t, ↓br_ez_f, ↓br_gz_t, ↓br_gz_f, jw_id, jin_t, jix_t, ↓ite_t, ↓ite_f, a, w0, w1, w2, w3, w4, w5, e5, av, e6]
  obtain ⟨u2, e2, M2, f2⟩ := g2
  obtain ⟨v9, h9, b1, b2, b3⟩ := M2.n9
  rw [e1, e2]
  have eO := po_g (T := T) (n := n) (s := s) (ws := cs wLd)
  cases hO : pO T n (cs wLd) s with
  | inr x =>
    rw [hO] at M2 b3
    rw [bl_r] at b3
    have za : pI T n (cs wLd) s < 0 := by
      by_cases y : pI T n (cs wLd) s < 0
      · exact y
      · rw [if_pos (by omega), hO] at eO
        cases s with
        | inl q =>
          have eO : (Sum.inr x : gSg) = .inl (tE T n q) := eO
          cases eO
        | inr y2 =>
          have : pI T n (cs wLd) (.inr y2) = -1 := rfl
          omega
    rw [if_neg (by omega)]
    have b9 : v9 = 5 := by omega
    refine ⟨u2, ?_, (f1.tr f2).ln, Or.inr ⟨x, H, ?_, M2, hi.hn⟩⟩
    · rw [p201_132]
      simp (disch := omega) only [p201_0, p201_1, p201_2, p201_5, p201_8, p201_9, p201_12, p201_13, p201_16, p201_17, p201_18, p201_19, p201_23, p201_26, p201_29, p201_32, p201_33, p201_36, p201_37, p201_40, p201_43, p201_46, p201_47, p201_50, p201_51, p201_54, p201_57, p201_60, p201_61, p201_64, p201_65, p201_68, p201_71, p201_74, p201_75, p201_78, p201_79, p201_81, p201_84, p201_87, p201_88, p201_91, p201_92, p201_95, p201_98, p201_101, p201_102, p201_105, p201_106, p201_107, p201_108, p201_109, p201_112, p201_113, p201_114, p201_117, p201_118, p201_121, p201_122, p201_123, p201_126, p201_127, p201_130, p201_131, p201_133, p201_136, p201_137, p201_140, p201_141, p201_142, p201_145, p201_148, p201_150, p201_153, p201_154, p201_155, p201_158, p201_159, p201_162, p201_163, p201_166, p201_167, p201_170, p201_171, p201_172, p201_175, p201_178, p201_179, p201_182, p201_185, p201_186, p201_187, p201_188, p201_191i, p201_191a, p201_192, p201_195, p201_196, p201_197, p201_200, p201_201, p201_203, p201_206, p201_207, p201_210, p201_211, p201_214, p201_215, p201_218, p201_219, p201_222, p201_223, p201_226, jwd_c, jwd_0, Nat.reduceLeDiff, Nat.reduceEqDiff, Nat.reduceAdd, Nat.reduceSub, Nat.reduceMul, Int.reduceAdd, Int.reduceSub, Int.reduceMul, Int.reduceNeg, Int.reduceEq, Int.reduceLT, Int.reduceLE, jq_ldi_i, jq_ldl_l, jq_lda_a, jq_inc_i, jq_gs_t, jq_gsb_t, jq_gb_t, jq_gr_2, jq_gr_4, jq_gw_2, jq_s_t, jq_b_t, jg_c, jg_n, js_c, js_n, jrm_c, jrm_n, j2_i, j2_l, j2_a, jq_c_i, jq_c_l, jq_c_0, jq_c_n, jwd_le, jw_c0, mS_I, mS_R, mS_J, mN_I, mN_R, mN_J, mR_I, mI_R, mJ_I, mJ_R, mI_J, mR_J, ↓reduceIte, decide_true, or_true, true_or, and_self, false_or, or_false, reduceCtorEq, Bool.false_eq_true, and_false, false_and, eq_self, true_and, and_true, zero_ne, ↓br_lt_t, ↓br_lt_f, ↓br_eq_t, ↓br_eq_f, ↓br_lz_t, ↓br_lz_f, ↓br_ez_t, ↓br_ez_f, ↓br_gz_t, ↓br_gz_f, jw_id, jin_t, jix_t, ↓ite_t, ↓ite_f, MS.a M2, h9]
    · by_cases hf : gFa H 5 = 0
      · rw [if_pos hf] at eg ⊢
        rw [eg] at hO
        have eG : gRd T n H 5 (tE T n p) = (match pO T n (cs wLd) (.inl (tE T n p)) with | .inr x => (.inr x, H) | .inl q => if pI T n (cs wLd) (.inl (tE T n p)) = 5 then gWay T n 13 q (uH H 0 7 5) else (.inl q, uH H 0 7 (pI T n (cs wLd) (.inl (tE T n p))))) := rfl
        rw [eG, hO]
      · rw [if_neg hf] at eg ⊢
        rw [eg] at hO
        exact hO
  | inl q =>
    rw [hO] at M2 b3
    rw [bl_l] at b3
    have hf : gFa H 5 = 0 := by
      by_cases y : gFa H 5 = 0
      · exact y
      · rw [if_neg y] at eg
        rw [eg] at hO
        have hO : (Sum.inr (gFa H 5, (tS T n p : Int)) : gSg) = .inl q := hO
        cases hO
    rw [if_pos hf] at eg
    subst eg
    obtain ⟨a, -, hq, za, zb⟩ := pO_i hO
    obtain ⟨hj, h6⟩ := fo_5 hi hf
    have te := te_m (T := T) (n := n) (p := p) ⟨Nat.le_refl _, hp⟩
    have mq := ((gM.z (n := n) te.2).O (T := T) (ws := cs wLd)) q hO
    have eG : gRd T n H 5 (tE T n p) = (match pO T n (cs wLd) (.inl (tE T n p)) with | .inr x => (.inr x, H) | .inl q => if pI T n (cs wLd) (.inl (tE T n p)) = 5 then gWay T n 13 q (uH H 0 7 5) else (.inl q, uH H 0 7 (pI T n (cs wLd) (.inl (tE T n p))))) := rfl
    rw [hO] at eG
    dsimp only at eG
    have l6 : ((cs wLd).length : Int) = 6 := rfl
    generalize pI T n (cs wLd) (.inl (tE T n p)) = v at *
    by_cases z5 : v = 5
    · subst z5
      rw [if_pos rfl, way_c] at eG
      rw [if_pos rfl]
      obtain ⟨u3, f3, ⟨q2, lv, g3, e3, M3⟩ | ⟨x, H2, g3, e3, M3, hh⟩⟩ := mway_lp (T := T) (n := n) (h := h) 13 q H u2 [] M2 hi.hn (by omega) mq.2 (Or.inl rfl)
      · have M4 := M3.num (k := 7) (x := 5)
        obtain ⟨v8, h8, c1, c2, c3⟩ := M3.n9
        rw [bl_l] at c3
        refine ⟨_, ?_, ((f1.tr f2).ln.tr f3).tr (Fln.hal (b := h) (k := 7) (x := 5) (by omega) hge), Or.inl ⟨q2, hf, ?_, ?_⟩⟩
        · rw [e3, p201_210]
          simp (disch := omega) only [p201_0, p201_1, p201_2, p201_5, p201_8, p201_9, p201_12, p201_13, p201_16, p201_17, p201_18, p201_19, p201_23, p201_26, p201_29, p201_32, p201_33, p201_36, p201_37, p201_40, p201_43, p201_46, p201_47, p201_50, p201_51, p201_54, p201_57, p201_60, p201_61, p201_64, p201_65, p201_68, p201_71, p201_74, p201_75, p201_78, p201_79, p201_81, p201_84, p201_87, p201_88, p201_91, p201_92, p201_95, p201_98, p201_101, p201_102, p201_105, p201_106, p201_107, p201_108, p201_109, p201_112, p201_113, p201_114, p201_117, p201_118, p201_121, p201_122, p201_123, p201_126, p201_127, p201_130, p201_131, p201_133, p201_136, p201_137, p201_140, p201_141, p201_142, p201_145, p201_148, p201_150, p201_153, p201_154, p201_155, p201_158, p201_159, p201_162, p201_163, p201_166, p201_167, p201_170, p201_171, p201_172, p201_175, p201_178, p201_179, p201_182, p201_185, p201_186, p201_187, p201_188, p201_191i, p201_191a, p201_192, p201_195, p201_196, p201_197, p201_200, p201_201, p201_203, p201_206, p201_207, p201_210, p201_211, p201_214, p201_215, p201_218, p201_219, p201_222, p201_223, p201_226, jwd_c, jwd_0, Nat.reduceLeDiff, Nat.reduceEqDiff, Nat.reduceAdd, Nat.reduceSub, Nat.reduceMul, Int.reduceAdd, Int.reduceSub, Int.reduceMul, Int.reduceNeg, Int.reduceEq, Int.reduceLT, Int.reduceLE, jq_ldi_i, jq_ldl_l, jq_lda_a, jq_inc_i, jq_gs_t, jq_gsb_t, jq_gb_t, jq_gr_2, jq_gr_4, jq_gw_2, jq_s_t, jq_b_t, jg_c, jg_n, js_c, js_n, jrm_c, jrm_n, j2_i, j2_l, j2_a, jq_c_i, jq_c_l, jq_c_0, jq_c_n, jwd_le, jw_c0, mS_I, mS_R, mS_J, mN_I, mN_R, mN_J, mR_I, mI_R, mJ_I, mJ_R, mI_J, mR_J, ↓reduceIte, decide_true, or_true, true_or, and_self, false_or, or_false, reduceCtorEq, Bool.false_eq_true, and_false, false_and, eq_self, true_and, and_true, zero_ne, ↓br_lt_t, ↓br_lt_f, ↓br_eq_t, ↓br_eq_f, ↓br_lz_t, ↓br_lz_f, ↓br_ez_t, ↓br_ez_f, ↓br_gz_t, ↓br_gz_f, jw_id, jin_t, jix_t, ↓ite_t, ↓ite_f, MS.a M3, MS.r4 M3, MS.b M3, h8]
        · rw [eG]
          exact g3
        · rw [eG]
          exact M4
      · refine ⟨u3, e3, (f1.tr f2).ln.tr f3, Or.inr ⟨x, H2, ?_, M3, hh⟩⟩
        rw [if_pos hf, eG]
        exact g3
    · rw [if_neg z5] at eG ⊢
      have M4 := M2.num (k := 7) (x := v)
      refine ⟨_, ?_, (f1.tr f2).ln.tr (Fln.hal (b := h) (k := 7) (x := v) (by omega) hge), Or.inl ⟨q, hf, by rw [eG], by rw [eG]; exact M4⟩⟩
      rw [p201_132]
      simp (disch := omega) only [p201_0, p201_1, p201_2, p201_5, p201_8, p201_9, p201_12, p201_13, p201_16, p201_17, p201_18, p201_19, p201_23, p201_26, p201_29, p201_32, p201_33, p201_36, p201_37, p201_40, p201_43, p201_46, p201_47, p201_50, p201_51, p201_54, p201_57, p201_60, p201_61, p201_64, p201_65, p201_68, p201_71, p201_74, p201_75, p201_78, p201_79, p201_81, p201_84, p201_87, p201_88, p201_91, p201_92, p201_95, p201_98, p201_101, p201_102, p201_105, p201_106, p201_107, p201_108, p201_109, p201_112, p201_113, p201_114, p201_117, p201_118, p201_121, p201_122, p201_123, p201_126, p201_127, p201_130, p201_131, p201_133, p201_136, p201_137, p201_140, p201_141, p201_142, p201_145, p201_148, p201_150, p201_153, p201_154, p201_155, p201_158, p201_159, p201_162, p201_163, p201_166, p201_167, p201_170, p201_171, p201_172, p201_175, p201_178, p201_179, p201_182, p201_185, p201_186, p201_187, p201_188, p201_191i, p201_191a, p201_192, p201_195, p201_196, p201_197, p201_200, p201_201, p201_203, p201_206, p201_207, p201_210, p201_211, p201_214, p201_215, p201_218, p201_219, p201_222, p201_223, p201_226, jwd_c, jwd_0, Nat.reduceLeDiff, Nat.reduceEqDiff, Nat.reduceAdd, Nat.reduceSub, Nat.reduceMul, Int.reduceAdd, Int.reduceSub, Int.reduceMul, Int.reduceNeg, Int.reduceEq, Int.reduceLT, Int.reduceLE, jq_ldi_i, jq_ldl_l, jq_lda_a, jq_inc_i, jq_gs_t, jq_gsb_t, jq_gb_t, jq_gr_2, jq_gr_4, jq_gw_2, jq_s_t, jq_b_t, jg_c, jg_n, js_c, js_n, jrm_c, jrm_n, j2_i, j2_l, j2_a, jq_c_i, jq_c_l, jq_c_0, jq_c_n, jwd_le, jw_c0, mS_I, mS_R, mS_J, mN_I, mN_R, mN_J, mR_I, mI_R, mJ_I, mJ_R, mI_J, mR_J, ↓reduceIte, decide_true, or_true, true_or, and_self, false_or, or_false, reduceCtorEq, Bool.false_eq_true, and_false, false_and, eq_self, true_and, and_true, zero_ne, ↓br_lt_t, ↓br_lt_f, ↓br_eq_t, ↓br_eq_f, ↓br_lz_t, ↓br_lz_f, ↓br_ez_t, ↓br_ez_f, ↓br_gz_t, ↓br_gz_f, jw_id, jin_t, jix_t, ↓ite_t, ↓ite_f, MS.a M2, MS.r4 M2, MS.b M2, h9]
end MLEADS
