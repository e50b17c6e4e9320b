/-! The class reads a text. -/
section CREAD
variable {w u : jmW} {T : Nat → Int} {n cnt p : Nat} {H : Nat → Nat → Int}
theorem c_lp : ∀ (m p i : Nat) (w : jmW) (H : Nat → Nat → Int) (tl : jmL), i + m = n + 1 → i ≤ p → RSI w T n cnt p H → HI H → t1p 3 tl → ∃ u, Fr rdP w u ∧ ((∃ q, (gRead T n m p H).1 = .inl q ∧ rn 20 (7, (0, jvr 101) :: (1, .inl (n : Int)) :: (2, .inl (i : Int)) :: tl, [], w) = some (some (.inl 1), u) ∧ RSI u T n cnt q (gRead T n m p H).2 ∧ HJ (gRead T n m p H).2 ∧ ¬ ((gRead T n m p H).2 0 5 < 1 ∨ (gRead T n m p H).2 0 7 < 0 ∨ (gRead T n m p H).2 0 13 < 0)) ∨ (∃ x, (gRead T n m p H).1 = .inr x ∧ rn 20 (7, (0, jvr 101) :: (1, .inl (n : Int)) :: (2, .inl (i : Int)) :: tl, [], w) = some (some (.inl 0), u) ∧ RFx u T n cnt x)) := by
  intro m
  induction m with
  | zero =>
    intro p i w H tl hi hp R hI ht
    have := R.pn
    omega
  | succ m ih =>
    intro p i w H tl hi hp R hI ht
    have Rx : RS w T n cnt p H (H 0 2 * H 0 0).toNat (H 0 3).toNat (H 99) := R
    have hl := Rx.l
    have hpn := Rx.pn
    have hc := Rx.1.2.2.2.2.2.2.1
    have hc2 := Rx.1.2.2.2.2.2.1.2.2.2.2.2.2.1
    have js := t1p_js ht
    have e : gRead T n (m + 1) p H = (match gLn T n p H with
      | (.inr x, H2) => (.inr x, H2)
      | (.inl q, H2) => if tK T n q = 5 then (if H2 0 5 < 1 ∨ H2 0 7 < 0 ∨ H2 0 13 < 0 then (.inr (6, (n : Int)), H2) else (.inl q, H2)) else if tK T n q = 3 then gRead T n m (tE T n q) H2 else (.inr (1, (tS T n q : Int)), H2)) := rfl
    have eL : gLn T n p H = if gLf T n H p = 0 then gRd T n H (pI T n (cs wLn) (.inl p)) (tE T n p) else (.inr (gLf T n H p, (tS T n p : Int)), H) := rfl
    have eF : gLf T n H p = if pI T n (cs wLn) (.inl p) < 0 then 1 else gFa H (pI T n (cs wLn) (.inl p)) := rfl
    have eI : pI T n (cs wLn) (.inl p) = if tK T n p = 1 then gWi (cs wLn) (tW T n p) 0 else -1 := rfl
    obtain ⟨u1, f1, ⟨a1, a2, a3, a4, R1⟩ | ⟨a1, a4, R1⟩⟩ := c_coming Rx hI.hn
    case inr =>
      rw [if_neg a1] at eL
      rw [eL] at e
      dsimp only at e
      rw [e]
      refine ⟨u1, f1, Or.inr ⟨_, rfl, ?_, R1⟩⟩
      rw [p20_7]
      simp (disch := omega) only [p20_0, p20_1, p20_2, p20_5, p20_6, p20_8, p20_9, p20_12, p20_15, p20_16, p20_19, p20_72, p20_73, p20_76, p20_77, p20_80, p20_81, p20_84, p20_85, p20_88, p20_89, p20_92, p20_93, p20_96, p20_97, p20_100, p20_101, p20_104, p20_105, p20_108, p20_109, p20_112, p20_113, p20_116, p20_117, p20_120, p20_121, p20_124, p20_125, p20_128, p20_129, p20_132, p20_133, p20_136, p20_137, p20_140, p20_141, p20_144, p20_145, p20_148, p20_149, p20_152, p20_153, p20_154, p20_155, p20_158, p20_159, p20_160, p20_161, p20_164, p20_165, p20_168, p20_169, p20_172, p20_173, p20_174, p20_175, p20_178, p20_181, p20_182, p20_183, p20_186, p20_189, p20_190, p20_191, p20_192, p20_195, p20_198, jwd_c, jwd_0, Nat.reduceLeDiff, Nat.reduceEqDiff, Nat.reduceAdd, Nat.reduceSub, Nat.reduceMul, Int.reduceAdd, Int.reduceSub, Int.reduceMul, Int.reduceNeg, Int.reduceEq, Int.reduceLT, Int.reduceLE, jq_ldi_i, jq_ldl_l, jq_lda_a, jq_inc_i, jq_gs_t, jq_gsb_t, jq_gb_t, jq_gr_2, jq_gr_4, jq_gw_2, jq_s_t, jq_b_t, jg_c, jg_n, js_c, js_n, jrm_c, jrm_n, j2_i, j2_l, j2_a, jq_c_i, jq_c_l, jq_c_0, jq_c_n, jwd_le, jw_c0, mS_I, mS_R, mS_J, mN_I, mN_R, mN_J, mR_I, mI_R, mJ_I, mJ_R, mI_J, mR_J, ↓reduceIte, decide_true, or_true, true_or, and_self, false_or, or_false, reduceCtorEq, Bool.false_eq_true, and_false, false_and, eq_self, true_and, and_true, zero_ne, ↓br_lt_t, ↓br_lt_f, ↓br_eq_t, ↓br_eq_f, ↓br_lz_t, ↓br_lz_f, ↓br_ez_t, ↓br_ez_f, ↓br_gz_t, ↓br_gz_f, jw_id, jin_t, jix_t, ↓ite_t, ↓ite_f, RS.a Rx, RS.r0 Rx, RS.h Rx, RS.r2 Rx, RS.l Rx, RS.s Rx, RS.k0 Rx, RS.k1 Rx, RS.k2 Rx, RS.k3 Rx, RS.k4 Rx, RS.k5 Rx, RS.f8 Rx, RS.f9 Rx, RS.t65 Rx, RS.t102 Rx, RS.t68 Rx, RS.t70 Rx, RS.t72 Rx, RS.t74 Rx, RS.t76 Rx, RS.t78 Rx, hl, a4, js]
    rw [if_pos a1] at eL
    have hf : gFa H (pI T n (cs wLn) (.inl p)) = 0 := by
      rw [if_neg (by omega)] at eF
      omega
    have k1 : tK T n p = 1 := by
      by_cases z : tK T n p = 1
      · exact z
      · rw [if_neg z] at eI
        omega
    have tp := tke_bd (T := T) hpn
    have ts := ts_bd (T := T) hpn
    have tl1 := tp.2.2 (by omega)
    generalize pI T n (cs wLn) (.inl p) = l at *
    have x0 : rn 20 (7, (0, jvr 101) :: (1, .inl (n : Int)) :: (2, .inl (i : Int)) :: tl, [], w) = rn 20 (19, (0, jvr 101) :: (1, .inl (n : Int)) :: (2, .inl (i : Int)) :: tl, [.inl l], u1) := by
      rw [p20_7]
      simp (disch := omega) only [p20_0, p20_1, p20_2, p20_5, p20_6, p20_8, p20_9, p20_12, p20_15, p20_16, p20_72, p20_73, p20_76, p20_77, p20_80, p20_81, p20_84, p20_85, p20_88, p20_89, p20_92, p20_93, p20_96, p20_97, p20_100, p20_101, p20_104, p20_105, p20_108, p20_109, p20_112, p20_113, p20_116, p20_117, p20_120, p20_121, p20_124, p20_125, p20_128, p20_129, p20_132, p20_133, p20_136, p20_137, p20_140, p20_141, p20_144, p20_145, p20_148, p20_149, p20_152, p20_153, p20_155, p20_158, p20_159, p20_160, p20_161, p20_164, p20_165, p20_168, p20_169, p20_172, p20_173, p20_174, p20_175, p20_178, p20_181, p20_182, p20_183, p20_186, p20_189, p20_190, p20_191, p20_192, p20_195, p20_198, jwd_c, jwd_0, Nat.reduceLeDiff, Nat.reduceEqDiff, Nat.reduceAdd, Nat.reduceSub, Nat.reduceMul, Int.reduceAdd, Int.reduceSub, Int.reduceMul, Int.reduceNeg, Int.reduceEq, Int.reduceLT, Int.reduceLE, jq_ldi_i, jq_ldl_l, jq_lda_a, jq_inc_i, jq_gs_t, jq_gsb_t, jq_gb_t, jq_gr_2, jq_gr_4, jq_gw_2, jq_s_t, jq_b_t, jg_c, jg_n, js_c, js_n, jrm_c, jrm_n, j2_i, j2_l, j2_a, jq_c_i, jq_c_l, jq_c_0, jq_c_n, jwd_le, jw_c0, mS_I, mS_R, mS_J, mN_I, mN_R, mN_J, mR_I, mI_R, mJ_I, mJ_R, mI_J, mR_J, ↓reduceIte, decide_true, or_true, true_or, and_self, false_or, or_false, reduceCtorEq, Bool.false_eq_true, and_false, false_and, eq_self, true_and, and_true, zero_ne, ↓br_lt_t, ↓br_lt_f, ↓br_eq_t, ↓br_eq_f, ↓br_lz_t, ↓br_lz_f, ↓br_ez_t, ↓br_ez_f, ↓br_gz_t, ↓br_gz_f, jw_id, jin_t, jix_t, ↓ite_t, ↓ite_f, RS.a Rx, RS.r0 Rx, RS.h Rx, RS.r2 Rx, RS.l Rx, RS.s Rx, RS.k0 Rx, RS.k1 Rx, RS.k2 Rx, RS.k3 Rx, RS.k4 Rx, RS.k5 Rx, RS.f8 Rx, RS.f9 Rx, RS.t65 Rx, RS.t102 Rx, RS.t68 Rx, RS.t70 Rx, RS.t72 Rx, RS.t74 Rx, RS.t76 Rx, RS.t78 Rx, hl, a4, js]
    rw [x0]
    obtain ⟨u2, f2, hh⟩ := c_line (R1 : RSI u1 T n cnt (tE T n p) H) hI a2 a3 hf (i := (i : Int)) ht
    have hj := fun q => rd_hj (T := T) (q := q) hI a2 a3 hf tp.2.1
    generalize hG : gRd T n H l (tE T n p) = G at *
    obtain ⟨s2, H2⟩ := G
    rw [eL] at e
    rcases hh with ⟨q, g, e2, R2⟩ | ⟨x, g, e2, R2⟩
    case inr =>
      have g : s2 = .inr x := g
      subst g
      dsimp only at e
      rw [e]
      refine ⟨u2, f1.tr f2, Or.inr ⟨_, rfl, ?_, R2⟩⟩
      rw [e2, p20_154]
      simp (disch := omega) only [p20_0, p20_1, p20_2, p20_5, p20_6, p20_8, p20_9, p20_12, p20_15, p20_16, p20_19, p20_72, p20_73, p20_76, p20_77, p20_80, p20_81, p20_84, p20_85, p20_88, p20_89, p20_92, p20_93, p20_96, p20_97, p20_100, p20_101, p20_104, p20_105, p20_108, p20_109, p20_112, p20_113, p20_116, p20_117, p20_120, p20_121, p20_124, p20_125, p20_128, p20_129, p20_132, p20_133, p20_136, p20_137, p20_140, p20_141, p20_144, p20_145, p20_148, p20_149, p20_152, p20_153, p20_155, p20_158, p20_159, p20_160, p20_161, p20_164, p20_165, p20_168, p20_169, p20_172, p20_173, p20_174, p20_175, p20_178, p20_181, p20_182, p20_183, p20_186, p20_189, p20_190, p20_191, p20_192, p20_195, p20_198, jwd_c, jwd_0, Nat.reduceLeDiff, Nat.reduceEqDiff, Nat.reduceAdd, Nat.reduceSub, Nat.reduceMul, Int.reduceAdd, Int.reduceSub, Int.reduceMul, Int.reduceNeg, Int.reduceEq, Int.reduceLT, Int.reduceLE, jq_ldi_i, jq_ldl_l, jq_lda_a, jq_inc_i, jq_gs_t, jq_gsb_t, jq_gb_t, jq_gr_2, jq_gr_4, jq_gw_2, jq_s_t, jq_b_t, jg_c, jg_n, js_c, js_n, jrm_c, jrm_n, j2_i, j2_l, j2_a, jq_c_i, jq_c_l, jq_c_0, jq_c_n, jwd_le, jw_c0, mS_I, mS_R, mS_J, mN_I, mN_R, mN_J, mR_I, mI_R, mJ_I, mJ_R, mI_J, mR_J, ↓reduceIte, decide_true, or_true, true_or, and_self, false_or, or_false, reduceCtorEq, Bool.false_eq_true, and_false, false_and, eq_self, true_and, and_true, zero_ne, ↓br_lt_t, ↓br_lt_f, ↓br_eq_t, ↓br_eq_f, ↓br_lz_t, ↓br_lz_f, ↓br_ez_t, ↓br_ez_f, ↓br_gz_t, ↓br_gz_f, jw_id, jin_t, jix_t, ↓ite_t, ↓ite_f]
    have g : s2 = .inl q := g
    subst g
    dsimp only at e
    obtain ⟨j2, q1, q2⟩ := hj q rfl
    have j2 : HJ H2 := j2
    have Ry : RS u2 T n cnt q H2 (H2 0 2 * H2 0 0).toNat (H2 0 3).toNat (H2 99) := R2
    have st2 := Ry.st
    have kb := tk_bd (T := T) (n := n) q
    rw [e2]
    by_cases k5 : tK T n q = 5
    · rw [if_pos k5] at e
      obtain ⟨u3, f3, ⟨a, e3, R3⟩ | ⟨a, e3, R3⟩⟩ := c_isWhole Ry (HI.hn (Or.inr j2))
      · rw [if_neg a] at e
        rw [e]
        refine ⟨u3, (f1.tr f2).tr f3, Or.inl ⟨q, rfl, ?_, R3, j2, a⟩⟩
        rw [p20_154]
        simp (disch := omega) only [p20_0, p20_1, p20_2, p20_5, p20_6, p20_8, p20_9, p20_12, p20_15, p20_16, p20_19, p20_72, p20_73, p20_76, p20_77, p20_80, p20_81, p20_84, p20_85, p20_88, p20_89, p20_92, p20_93, p20_96, p20_97, p20_100, p20_101, p20_104, p20_105, p20_108, p20_109, p20_112, p20_113, p20_116, p20_117, p20_120, p20_121, p20_124, p20_125, p20_128, p20_129, p20_132, p20_133, p20_136, p20_137, p20_140, p20_141, p20_144, p20_145, p20_148, p20_149, p20_152, p20_153, p20_155, p20_158, p20_159, p20_160, p20_161, p20_164, p20_165, p20_168, p20_169, p20_172, p20_173, p20_174, p20_175, p20_178, p20_181, p20_182, p20_183, p20_186, p20_189, p20_190, p20_191, p20_192, p20_195, p20_198, jwd_c, jwd_0, Nat.reduceLeDiff, Nat.reduceEqDiff, Nat.reduceAdd, Nat.reduceSub, Nat.reduceMul, Int.reduceAdd, Int.reduceSub, Int.reduceMul, Int.reduceNeg, Int.reduceEq, Int.reduceLT, Int.reduceLE, jq_ldi_i, jq_ldl_l, jq_lda_a, jq_inc_i, jq_gs_t, jq_gsb_t, jq_gb_t, jq_gr_2, jq_gr_4, jq_gw_2, jq_s_t, jq_b_t, jg_c, jg_n, js_c, js_n, jrm_c, jrm_n, j2_i, j2_l, j2_a, jq_c_i, jq_c_l, jq_c_0, jq_c_n, jwd_le, jw_c0, mS_I, mS_R, mS_J, mN_I, mN_R, mN_J, mR_I, mI_R, mJ_I, mJ_R, mI_J, mR_J, ↓reduceIte, decide_true, or_true, true_or, and_self, false_or, or_false, reduceCtorEq, Bool.false_eq_true, and_false, false_and, eq_self, true_and, and_true, zero_ne, ↓br_lt_t, ↓br_lt_f, ↓br_eq_t, ↓br_eq_f, ↓br_lz_t, ↓br_lz_f, ↓br_ez_t, ↓br_ez_f, ↓br_gz_t, ↓br_gz_f, jw_id, jin_t, jix_t, ↓ite_t, ↓ite_f, RS.a Ry, RS.r0 Ry, RS.h Ry, RS.r2 Ry, RS.l Ry, RS.s Ry, RS.k0 Ry, RS.k1 Ry, RS.k2 Ry, RS.k3 Ry, RS.k4 Ry, RS.k5 Ry, RS.f8 Ry, RS.f9 Ry, RS.t65 Ry, RS.t102 Ry, RS.t68 Ry, RS.t70 Ry, RS.t72 Ry, RS.t74 Ry, RS.t76 Ry, RS.t78 Ry, st2.2.1, k5, e3]
      · rw [if_pos a] at e
        rw [e]
        refine ⟨u3, (f1.tr f2).tr f3, Or.inr ⟨_, rfl, ?_, R3⟩⟩
        rw [p20_154]
        simp (disch := omega) only [p20_0, p20_1, p20_2, p20_5, p20_6, p20_8, p20_9, p20_12, p20_15, p20_16, p20_19, p20_72, p20_73, p20_76, p20_77, p20_80, p20_81, p20_84, p20_85, p20_88, p20_89, p20_92, p20_93, p20_96, p20_97, p20_100, p20_101, p20_104, p20_105, p20_108, p20_109, p20_112, p20_113, p20_116, p20_117, p20_120, p20_121, p20_124, p20_125, p20_128, p20_129, p20_132, p20_133, p20_136, p20_137, p20_140, p20_141, p20_144, p20_145, p20_148, p20_149, p20_152, p20_153, p20_155, p20_158, p20_159, p20_160, p20_161, p20_164, p20_165, p20_168, p20_169, p20_172, p20_173, p20_174, p20_175, p20_178, p20_181, p20_182, p20_183, p20_186, p20_189, p20_190, p20_191, p20_192, p20_195, p20_198, jwd_c, jwd_0, Nat.reduceLeDiff, Nat.reduceEqDiff, Nat.reduceAdd, Nat.reduceSub, Nat.reduceMul, Int.reduceAdd, Int.reduceSub, Int.reduceMul, Int.reduceNeg, Int.reduceEq, Int.reduceLT, Int.reduceLE, jq_ldi_i, jq_ldl_l, jq_lda_a, jq_inc_i, jq_gs_t, jq_gsb_t, jq_gb_t, jq_gr_2, jq_gr_4, jq_gw_2, jq_s_t, jq_b_t, jg_c, jg_n, js_c, js_n, jrm_c, jrm_n, j2_i, j2_l, j2_a, jq_c_i, jq_c_l, jq_c_0, jq_c_n, jwd_le, jw_c0, mS_I, mS_R, mS_J, mN_I, mN_R, mN_J, mR_I, mI_R, mJ_I, mJ_R, mI_J, mR_J, ↓reduceIte, decide_true, or_true, true_or, and_self, false_or, or_false, reduceCtorEq, Bool.false_eq_true, and_false, false_and, eq_self, true_and, and_true, zero_ne, ↓br_lt_t, ↓br_lt_f, ↓br_eq_t, ↓br_eq_f, ↓br_lz_t, ↓br_lz_f, ↓br_ez_t, ↓br_ez_f, ↓br_gz_t, ↓br_gz_f, jw_id, jin_t, jix_t, ↓ite_t, ↓ite_f, RS.a Ry, RS.r0 Ry, RS.h Ry, RS.r2 Ry, RS.l Ry, RS.s Ry, RS.k0 Ry, RS.k1 Ry, RS.k2 Ry, RS.k3 Ry, RS.k4 Ry, RS.k5 Ry, RS.f8 Ry, RS.f9 Ry, RS.t65 Ry, RS.t102 Ry, RS.t68 Ry, RS.t70 Ry, RS.t72 Ry, RS.t74 Ry, RS.t76 Ry, RS.t78 Ry, st2.2.1, k5, e3]
    · rw [if_neg k5] at e
      obtain ⟨u3, e3, r3, c3, f3⟩ := c_sign Ry.1 Ry.2.1 (k := 3) (by omega) (by omega)
      have eS : pS T n 3 (.inl q) = if tK T n q = 3 then .inl (tE T n q) else .inr (1, (tS T n q : Int)) := rfl
      by_cases k3 : tK T n q = 3
      · rw [if_pos k3] at e eS
        rw [eS] at e3 c3
        have R3 := Ry.go f3 r3 (q := tE T n q) c3
        have tq := tke_bd (T := T) q2
        have tsq := ts_bd (T := T) q2
        have i1 := ih (tE T n q) (i + 1) u3 H2 [(3, .inl 1)] (by omega) (by omega) R3 (Or.inr j2) (Or.inr ⟨_, rfl⟩)
        rw [← e, show ((i + 1 : Nat) : Int) = (i : Int) + 1 by omega] at i1
        have e3 : rn 37 (0, [(0, jvr 101), (1, .inl 3)], [], u2) = some (some (.inl 1), u3) := e3
        have x1 : rn 20 (154, [(0, jvr 101), (1, .inl (n : Int)), (2, .inl (i : Int)), (3, .inl 1)], [], u2) = rn 20 (7, [(0, jvr 101), (1, .inl (n : Int)), (2, .inl ((i : Int) + 1)), (3, .inl 1)], [], u3) := by
          rw [p20_154]
          simp (disch := omega) only [p20_0, p20_1, p20_2, p20_5, p20_6, p20_8, p20_9, p20_12, p20_15, p20_16, p20_19, p20_72, p20_73, p20_76, p20_77, p20_80, p20_81, p20_84, p20_85, p20_88, p20_89, p20_92, p20_93, p20_96, p20_97, p20_100, p20_101, p20_104, p20_105, p20_108, p20_109, p20_112, p20_113, p20_116, p20_117, p20_120, p20_121, p20_124, p20_125, p20_128, p20_129, p20_132, p20_133, p20_136, p20_137, p20_140, p20_141, p20_144, p20_145, p20_148, p20_149, p20_152, p20_153, p20_155, p20_158, p20_159, p20_160, p20_161, p20_164, p20_165, p20_168, p20_169, p20_172, p20_173, p20_174, p20_175, p20_178, p20_181, p20_182, p20_183, p20_186, p20_189, p20_190, p20_191, p20_192, p20_195, p20_198, jwd_c, jwd_0, Nat.reduceLeDiff, Nat.reduceEqDiff, Nat.reduceAdd, Nat.reduceSub, Nat.reduceMul, Int.reduceAdd, Int.reduceSub, Int.reduceMul, Int.reduceNeg, Int.reduceEq, Int.reduceLT, Int.reduceLE, jq_ldi_i, jq_ldl_l, jq_lda_a, jq_inc_i, jq_gs_t, jq_gsb_t, jq_gb_t, jq_gr_2, jq_gr_4, jq_gw_2, jq_s_t, jq_b_t, jg_c, jg_n, js_c, js_n, jrm_c, jrm_n, j2_i, j2_l, j2_a, jq_c_i, jq_c_l, jq_c_0, jq_c_n, jwd_le, jw_c0, mS_I, mS_R, mS_J, mN_I, mN_R, mN_J, mR_I, mI_R, mJ_I, mJ_R, mI_J, mR_J, ↓reduceIte, decide_true, or_true, true_or, and_self, false_or, or_false, reduceCtorEq, Bool.false_eq_true, and_false, false_and, eq_self, true_and, and_true, zero_ne, ↓br_lt_t, ↓br_lt_f, ↓br_eq_t, ↓br_eq_f, ↓br_lz_t, ↓br_lz_f, ↓br_ez_t, ↓br_ez_f, ↓br_gz_t, ↓br_gz_f, jw_id, jin_t, jix_t, ↓ite_t, ↓ite_f, RS.a Ry, RS.r0 Ry, RS.h Ry, RS.r2 Ry, RS.l Ry, RS.s Ry, RS.k0 Ry, RS.k1 Ry, RS.k2 Ry, RS.k3 Ry, RS.k4 Ry, RS.k5 Ry, RS.f8 Ry, RS.f9 Ry, RS.t65 Ry, RS.t102 Ry, RS.t68 Ry, RS.t70 Ry, RS.t72 Ry, RS.t74 Ry, RS.t76 Ry, RS.t78 Ry, st2.2.1, e3]
        rw [x1]
        obtain ⟨u4, f4, h4⟩ := i1
        exact ⟨u4, ((f1.tr f2).tr (rd1 f3)).tr f4, h4⟩
      · rw [if_neg k3] at e eS
        rw [eS] at e3 c3
        have e3 : rn 37 (0, [(0, jvr 101), (1, .inl 3)], [], u2) = some (some (.inl 0), u3) := e3
        rw [e]
        refine ⟨u3, (f1.tr f2).tr (rd1 f3), Or.inr ⟨_, rfl, ?_, Ry.no f3 r3 c3⟩⟩
        rw [p20_154]
        simp (disch := omega) only [p20_0, p20_1, p20_2, p20_5, p20_6, p20_8, p20_9, p20_12, p20_15, p20_16, p20_19, p20_72, p20_73, p20_76, p20_77, p20_80, p20_81, p20_84, p20_85, p20_88, p20_89, p20_92, p20_93, p20_96, p20_97, p20_100, p20_101, p20_104, p20_105, p20_108, p20_109, p20_112, p20_113, p20_116, p20_117, p20_120, p20_121, p20_124, p20_125, p20_128, p20_129, p20_132, p20_133, p20_136, p20_137, p20_140, p20_141, p20_144, p20_145, p20_148, p20_149, p20_152, p20_153, p20_155, p20_158, p20_159, p20_160, p20_161, p20_164, p20_165, p20_168, p20_169, p20_172, p20_173, p20_174, p20_175, p20_178, p20_181, p20_182, p20_183, p20_186, p20_189, p20_190, p20_191, p20_192, p20_195, p20_198, jwd_c, jwd_0, Nat.reduceLeDiff, Nat.reduceEqDiff, Nat.reduceAdd, Nat.reduceSub, Nat.reduceMul, Int.reduceAdd, Int.reduceSub, Int.reduceMul, Int.reduceNeg, Int.reduceEq, Int.reduceLT, Int.reduceLE, jq_ldi_i, jq_ldl_l, jq_lda_a, jq_inc_i, jq_gs_t, jq_gsb_t, jq_gb_t, jq_gr_2, jq_gr_4, jq_gw_2, jq_s_t, jq_b_t, jg_c, jg_n, js_c, js_n, jrm_c, jrm_n, j2_i, j2_l, j2_a, jq_c_i, jq_c_l, jq_c_0, jq_c_n, jwd_le, jw_c0, mS_I, mS_R, mS_J, mN_I, mN_R, mN_J, mR_I, mI_R, mJ_I, mJ_R, mI_J, mR_J, ↓reduceIte, decide_true, or_true, true_or, and_self, false_or, or_false, reduceCtorEq, Bool.false_eq_true, and_false, false_and, eq_self, true_and, and_true, zero_ne, ↓br_lt_t, ↓br_lt_f, ↓br_eq_t, ↓br_eq_f, ↓br_lz_t, ↓br_lz_f, ↓br_ez_t, ↓br_ez_f, ↓br_gz_t, ↓br_gz_f, jw_id, jin_t, jix_t, ↓ite_t, ↓ite_f, RS.a Ry, RS.r0 Ry, RS.h Ry, RS.r2 Ry, RS.l Ry, RS.s Ry, RS.k0 Ry, RS.k1 Ry, RS.k2 Ry, RS.k3 Ry, RS.k4 Ry, RS.k5 Ry, RS.f8 Ry, RS.f9 Ry, RS.t65 Ry, RS.t102 Ry, RS.t68 Ry, RS.t70 Ry, RS.t72 Ry, RS.t74 Ry, RS.t76 Ry, RS.t78 Ry, st2.2.1, e3]
/-- a Hall cleared -/
theorem h_clear {b : Nat} (h : HSx w b) : ∃ u, rn 3 (0, [(0, jvr b)], [], w) = some (none, u) ∧ HSx u b ∧ Fr (fun x => b ≤ x ∧ x ≤ b + 12) w u ∧ (mI u b 8 = 0 ∧ mI u b 9 = 0 ∧ mI u b 10 = 0 ∧ mI u b 11 = 0 ∧ mI u b 12 = -2 ∧ mI u b 14 = -2 ∧ mI u b 15 = -1 ∧ mI u b 16 = -1 ∧ mI u b 17 = 0) ∧ ((∃ q, Sg u (b + 1) 1 48 0 q) ∧ (∃ q, Sg u (b + 3) 1 8 0 q) ∧ (∃ q, Sg u (b + 5) 1 12 0 q) ∧ (∃ q, Sg u (b + 7) 6 4 0 q) ∧ (∃ q, Sg u (b + 9) 3 8 0 q) ∧ (∃ q, Sg u (b + 11) 3 8 0 q)) := by
  obtain ⟨m1, g1, s1⟩ := h.2.2.2.2.2.2.2.2.2.1
  obtain ⟨u1, e1, t1, f1⟩ := sg_cut s1 (m := 0) (by omega) (by omega)
  have h1 := h.sh (k := 1) f1 (by omega) t1
  obtain ⟨m2, g2, s2⟩ := h1.2.2.2.2.2.2.2.2.2.2.1
  obtain ⟨u2, e2, t2, f2⟩ := sg_cut s2 (m := 0) (by omega) (by omega)
  have h2 := h1.sh (k := 3) f2 (by omega) t2
  obtain ⟨m3, g3, s3⟩ := h2.2.2.2.2.2.2.2.2.2.2.2.1
  obtain ⟨u3, e3, t3, f3⟩ := sg_cut s3 (m := 0) (by omega) (by omega)
  have h3 := h2.sh (k := 5) f3 (by omega) t3
  obtain ⟨m4, g4, s4⟩ := h3.2.2.2.2.2.2.2.2.2.2.2.2.1
  obtain ⟨u4, e4, t4, f4⟩ := sg_cut s4 (m := 0) (by omega) (by omega)
  have h4 := h3.sh (k := 7) f4 (by omega) t4
  obtain ⟨m5, g5, s5⟩ := h4.2.2.2.2.2.2.2.2.2.2.2.2.2.1
  obtain ⟨u5, e5, t5, f5⟩ := sg_cut s5 (m := 0) (by omega) (by omega)
  have h5 := h4.sh (k := 9) f5 (by omega) t5
  obtain ⟨m6, g6, s6⟩ := h5.2.2.2.2.2.2.2.2.2.2.2.2.2.2.1
  obtain ⟨u6, e6, t6, f6⟩ := sg_cut s6 (m := 0) (by omega) (by omega)
  have h6 := h5.sh (k := 11) f6 (by omega) t6
  have mo : ∀ {a c : jmW} {k : Nat}, 1 ≤ k → k ≤ 11 → Fr (sP (b + k)) a c → Fr (fun x => b ≤ x ∧ x ≤ b + 12) a c := fun k1 k2 f => f.mo (fun x hx => by unfold sP at hx; omega)
  have F := ((((mo (by omega) (by omega) f1).tr (mo (by omega) (by omega) f2)).tr (mo (by omega) (by omega) f3)).tr (mo (by omega) (by omega) f4)).tr (mo (by omega) (by omega) f5) |>.tr (mo (by omega) (by omega) f6)
  have t1 := ((((t1.fr f2 (sP_n (by omega)) (sP_n (by omega))).fr f3 (sP_n (by omega)) (sP_n (by omega))).fr f4 (sP_n (by omega)) (sP_n (by omega))).fr f5 (sP_n (by omega)) (sP_n (by omega))).fr f6 (sP_n (by omega)) (sP_n (by omega))
  have t2 := (((t2.fr f3 (sP_n (by omega)) (sP_n (by omega))).fr f4 (sP_n (by omega)) (sP_n (by omega))).fr f5 (sP_n (by omega)) (sP_n (by omega))).fr f6 (sP_n (by omega)) (sP_n (by omega))
  have t3 := ((t3.fr f4 (sP_n (by omega)) (sP_n (by omega))).fr f5 (sP_n (by omega)) (sP_n (by omega))).fr f6 (sP_n (by omega)) (sP_n (by omega))
  have t4 := (t4.fr f5 (sP_n (by omega)) (sP_n (by omega))).fr f6 (sP_n (by omega)) (sP_n (by omega))
  have t5 := t5.fr f6 (sP_n (by omega)) (sP_n (by omega))
  obtain ⟨u, hu⟩ : ∃ u, u = setI (setI (setI (setI (setI (setI (setI (setI (setI (setI u6 b 8 0) b 9 0) b 10 0) b 11 0) b 12 (-2)) b 13 1) b 14 (-2)) b 15 (-1)) b 16 (-1)) b 17 0 := ⟨_, rfl⟩
  have ff : ∀ {a : jmW} {k : Nat} {x : Int}, Fr (fun y => y = b) a (setI a b k x) := Fr.I rfl
  have fu : Fr (fun y => y = b) u6 u := by
    rw [hu]
    exact ((((((((ff.tr ff).tr ff).tr ff).tr ff).tr ff).tr ff).tr ff).tr ff).tr ff
  have hh : HSx u b := by
    rw [hu]
    exact h6.set.set.set.set.set.set.set.set.set.set
  refine ⟨u, ?_, hh, F.tr (fu.mo (fun x hx => by omega)), ?_, ⟨_, t1.fr fu (by omega) (by omega)⟩, ⟨_, t2.fr fu (by omega) (by omega)⟩, ⟨_, t3.fr fu (by omega) (by omega)⟩, ⟨_, t4.fr fu (by omega) (by omega)⟩, ⟨_, t5.fr fu (by omega) (by omega)⟩, ⟨_, t6.fr fu (by omega) (by omega)⟩⟩
  · rw [hu]
    simp (disch := omega) only [p3_0, p3_1, p3_4, p3_5, p3_8, p3_9, p3_12, p3_13, p3_16, p3_17, p3_20, p3_21, p3_24, p3_25, p3_28, p3_29, p3_32, p3_33, p3_36, p3_37, p3_40, p3_41, p3_44, p3_45, p3_48, p3_49, p3_50, p3_53, p3_54, p3_55, p3_58, p3_59, p3_60, p3_63, p3_64, p3_65, p3_68, p3_69, p3_71, p3_74, p3_75, p3_76, p3_79, p3_80, p3_82, p3_85, p3_86, p3_87, p3_90, p3_91, p3_92, p3_95, p3_96, p3_97, p3_100, jwd_c, jwd_0, Nat.reduceLeDiff, Nat.reduceEqDiff, Nat.reduceAdd, Nat.reduceSub, Nat.reduceMul, Int.reduceAdd, Int.reduceSub, Int.reduceMul, Int.reduceNeg, Int.reduceEq, Int.reduceLT, Int.reduceLE, jq_ldi_i, jq_ldl_l, jq_lda_a, jq_inc_i, jq_gs_t, jq_gsb_t, jq_gb_t, jq_gr_2, jq_gr_4, jq_gw_2, jq_s_t, jq_b_t, jg_c, jg_n, js_c, js_n, jrm_c, jrm_n, j2_i, j2_l, j2_a, jq_c_i, jq_c_l, jq_c_0, jq_c_n, jwd_le, jw_c0, mS_I, mS_R, mS_J, mN_I, mN_R, mN_J, mR_I, mI_R, mJ_I, mJ_R, mI_J, mR_J, ↓reduceIte, decide_true, or_true, true_or, and_self, false_or, or_false, reduceCtorEq, Bool.false_eq_true, and_false, false_and, eq_self, true_and, and_true, zero_ne, ↓br_lt_t, ↓br_lt_f, ↓br_eq_t, ↓br_eq_f, ↓br_lz_t, ↓br_lz_f, ↓br_ez_t, ↓br_ez_f, ↓br_gz_t, ↓br_gz_f, jw_id, jin_t, jix_t, ↓ite_t, ↓ite_f, h.1, h1.1, h2.1, h3.1, h4.1, h5.1, h6.1, h.2.1, h1.2.2.1, h2.2.2.2.1, h3.2.2.2.2.1, h4.2.2.2.2.2.1, h5.2.2.2.2.2.2.1, s1.1, s2.1, s3.1, s4.1, s5.1, s6.1, e1, e2, e3, e4, e5, e6]
  · rw [hu]
    refine ⟨?_, ?_, ?_, ?_, ?_, ?_, ?_, ?_, ?_⟩
    · rw [mI_nk (by omega), mI_nk (by omega), mI_nk (by omega), mI_nk (by omega), mI_nk (by omega), mI_nk (by omega), mI_nk (by omega), mI_nk (by omega), mI_nk (by omega), mI_s]
    · rw [mI_nk (by omega), mI_nk (by omega), mI_nk (by omega), mI_nk (by omega), mI_nk (by omega), mI_nk (by omega), mI_nk (by omega), mI_nk (by omega), mI_s]
    · rw [mI_nk (by omega), mI_nk (by omega), mI_nk (by omega), mI_nk (by omega), mI_nk (by omega), mI_nk (by omega), mI_nk (by omega), mI_s]
    · rw [mI_nk (by omega), mI_nk (by omega), mI_nk (by omega), mI_nk (by omega), mI_nk (by omega), mI_nk (by omega), mI_s]
    · rw [mI_nk (by omega), mI_nk (by omega), mI_nk (by omega), mI_nk (by omega), mI_nk (by omega), mI_s]
    · rw [mI_nk (by omega), mI_nk (by omega), mI_nk (by omega), mI_s]
    · rw [mI_nk (by omega), mI_nk (by omega), mI_s]
    · rw [mI_nk (by omega), mI_s]
    · rw [mI_s]
theorem c_begin (Q : RQ w T cnt) (hn : n ≤ cnt) {C : Nat → Int} : ∃ u, rn 21 (0, [(0, jvr 101), (1, .inl (n : Int))], [], w) = some (none, u) ∧ RS u T n cnt 0 gH0 0 0 C ∧ Fr rdP w u := by
  obtain ⟨r1, r2, r3, r4, r5, r6, hx, ⟨nk, nq, nm⟩, sx⟩ := Q
  have hc := r5.2.2.2.2.2.2.1
  obtain ⟨u1, e1, h1, f1, i1, z1, z2, z3, z4, z5, z6⟩ := h_clear hx
  have f1 : Fr (fun x => 67 ≤ x ∧ x ≤ 79) w u1 := f1
  have nm1 := nm.fr f1 (by omega) (by omega)
  obtain ⟨u2, e2, nm2, f2⟩ := sg_cut nm1 (m := 0) (by omega) (by omega)
  have f2 : Fr (sP 102) u1 u2 := f2
  have f12 : Fr (fun x => (67 ≤ x ∧ x ≤ 79) ∨ (102 ≤ x ∧ x ≤ 103)) w u2 := (f1.mo (fun x hx => Or.inl hx)).tr (f2.mo (fun x hx => by unfold sP at hx; omega))
  obtain ⟨u3, hu⟩ : ∃ u3, u3 = setI (setI (setI (setI u2 101 3 (n : Int)) 101 6 0) 101 10 0) 101 11 0 := ⟨_, rfl⟩
  have f3 : Fr (fun b => b = 101) u2 u3 := by
    rw [hu]
    exact Fr.tr (P := fun b => b = 101) (Fr.tr (P := fun b => b = 101) (Fr.tr (P := fun b => b = 101) (Fr.I rfl) (Fr.I rfl)) (Fr.I rfl)) (Fr.I rfl)
  have f13 : Fr (fun x => (67 ≤ x ∧ x ≤ 79) ∨ (101 ≤ x ∧ x ≤ 103)) w u3 := (f12.mo (fun x hx => by omega)).tr (f3.mo (fun x hx => by omega))
  have q1 := f12.Rq (b := 101) (by omega)
  have i3 : mI u3 101 3 = n := by rw [hu, mI_nk (by omega), mI_nk (by omega), mI_nk (by omega), mI_s]
  have i6 : mI u3 101 6 = (0 : Nat) := by rw [hu, mI_nk (by omega), mI_nk (by omega), mI_s]; rfl
  have i10 : mI u3 101 10 = 0 := by rw [hu, mI_nk (by omega), mI_s]
  have i11 : mI u3 101 11 = 0 := by rw [hu, mI_s]
  have er : mR u3 = mR u2 := by rw [hu]; rfl
  have rc : RC' u3 n cnt T := ⟨by rw [f13.q]; exact r1, by rw [er, q1]; exact r2, by rw [er, q1]; exact r3, by rw [er, q1]; exact r4, i3, r5.fr f13 (by omega) (by omega), hn, r6⟩
  obtain ⟨u4, e4, r, c, k, f4⟩ := c_goOn rc (p := 0) (by omega) i6 ⟨i10, i11⟩
  have g : ∀ b, b ≤ 79 → 67 ≤ b → ¬ ((fun b => b = 101) b) := fun b z1 z2 => by omega
  have f24 : Fr (fun x => 101 ≤ x ∧ x ≤ 103) u1 u4 := ((f2.mo (fun x hx => by unfold sP at hx; omega)).tr (f3.mo (fun x hx => by omega))).tr (f4.mo (fun x hx => by omega))
  have hi := f24.Iq (b := 67) (by omega)
  have dh : DH u4 gH0 0 := by
    obtain ⟨j1, j2, j3, j4, j5, j6, j7, j8, j9⟩ := i1
    obtain ⟨q1, z1⟩ := z1
    obtain ⟨q2, z2⟩ := z2
    obtain ⟨q3, z3⟩ := z3
    obtain ⟨q4, z4⟩ := z4
    obtain ⟨q5, z5⟩ := z5
    obtain ⟨q6, z6⟩ := z6
    have mv : ∀ {a c r : Nat} {q q2 : Nat → Nat → Int}, a ≤ 78 → Sg u1 a c r 0 q → Sg u4 a c r 0 q2 := fun ha s => (s.fr f24 (by omega) (by omega)).mk2 (fun i j hi hj => by omega)
    refine ⟨h1.fr f24 (fun x a b => by omega), ?_⟩
    rw [hi]
    exact ⟨j1, j2, j3, j4, j5, j6, j7, j8, j9, fun z => absurd z (by decide), mv (by omega) z1, mv (by omega) z2, mv (by omega) z3, mv (by omega) z4, mv (by omega) z5, mv (by omega) z6⟩
  have nmf : NM u4 T n 0 C := ⟨fun _ => 0, fun _ => 0, ((nm2.fr f3 (by omega) (by omega)).fr f4 (by omega) (by omega)).mk2 (fun i j hi hj => by omega), fun i hi => by omega⟩
  refine ⟨u4, ?_, ⟨r, c, sx.fr (f13.tr (f4.mo (fun x hx => by omega))), dh, nmf⟩, (f13.mo (fun x hx => by unfold rdP; omega)).tr (rd1 f4)⟩
  have y1 : mS u1 101 = (1, 3, 0) := by rw [f1.q]; exact r1
  have y2 : mR u1 101 2 = some 102 := by rw [f1.Rq (by omega)]; exact r4
  have y3 : mS u2 101 = (1, 3, 0) := by rw [f12.q]; exact r1
  rw [hu] at e4
  simp (disch := omega) only [p21_0, p21_1, p21_4, p21_7, p21_8, p21_11, p21_12, p21_15, p21_16, p21_17, p21_20, p21_21, p21_22, p21_25, p21_26, p21_27, p21_30, p21_31, p21_32, p21_35, p21_36, p21_39, jwd_c, jwd_0, Nat.reduceLeDiff, Nat.reduceEqDiff, Nat.reduceAdd, Nat.reduceSub, Nat.reduceMul, Int.reduceAdd, Int.reduceSub, Int.reduceMul, Int.reduceNeg, Int.reduceEq, Int.reduceLT, Int.reduceLE, jq_ldi_i, jq_ldl_l, jq_lda_a, jq_inc_i, jq_gs_t, jq_gsb_t, jq_gb_t, jq_gr_2, jq_gr_4, jq_gw_2, jq_s_t, jq_b_t, jg_c, jg_n, js_c, js_n, jrm_c, jrm_n, j2_i, j2_l, j2_a, jq_c_i, jq_c_l, jq_c_0, jq_c_n, jwd_le, jw_c0, mS_I, mS_R, mS_J, mN_I, mN_R, mN_J, mR_I, mI_R, mJ_I, mJ_R, mI_J, mR_J, ↓reduceIte, decide_true, or_true, true_or, and_self, false_or, or_false, reduceCtorEq, Bool.false_eq_true, and_false, false_and, eq_self, true_and, and_true, zero_ne, ↓br_lt_t, ↓br_lt_f, ↓br_eq_t, ↓br_eq_f, ↓br_lz_t, ↓br_lz_f, ↓br_ez_t, ↓br_ez_f, ↓br_gz_t, ↓br_gz_f, jw_id, jin_t, jix_t, ↓ite_t, ↓ite_f, r1, r3, hx.1, e1, y1, y2, nm1.1, e2, y3, e4]
theorem c_read (Q : RQ w T cnt) (hn : n ≤ cnt) : ∃ u, Fr rdP w u ∧ ((∃ q, (gRead T n (n + 1) 0 gH0).1 = .inl q ∧ rn 20 (0, [(0, jvr 101), (1, .inl (n : Int))], [], w) = some (some (.inl 1), u) ∧ RSI u T n cnt q (gRead T n (n + 1) 0 gH0).2 ∧ HJ (gRead T n (n + 1) 0 gH0).2 ∧ ¬ ((gRead T n (n + 1) 0 gH0).2 0 5 < 1 ∨ (gRead T n (n + 1) 0 gH0).2 0 7 < 0 ∨ (gRead T n (n + 1) 0 gH0).2 0 13 < 0)) ∨ (∃ x, (gRead T n (n + 1) 0 gH0).1 = .inr x ∧ rn 20 (0, [(0, jvr 101), (1, .inl (n : Int))], [], w) = some (some (.inl 0), u) ∧ RFx u T n cnt x)) := by
  have hc := Q.2.2.2.2.1.2.2.2.2.2.2.1
  obtain ⟨u1, e1, R1, f1⟩ := c_begin Q hn (C := gH0 99)
  obtain ⟨u2, f2, h2⟩ := c_lp (T := T) (n := n) (cnt := cnt) (n + 1) 0 0 u1 gH0 [] (by omega) (by omega) R1 (Or.inl rfl) (Or.inl rfl)
  have x0 : rn 20 (0, [(0, jvr 101), (1, .inl (n : Int))], [], w) = rn 20 (7, (0, jvr 101) :: (1, .inl (n : Int)) :: (2, .inl ((0 : Nat) : Int)) :: [], [], u1) := by
    simp (disch := omega) only [p20_0, p20_1, p20_2, p20_5, p20_6, p20_8, p20_9, p20_12, p20_15, p20_16, p20_19, p20_72, p20_73, p20_76, p20_77, p20_80, p20_81, p20_84, p20_85, p20_88, p20_89, p20_92, p20_93, p20_96, p20_97, p20_100, p20_101, p20_104, p20_105, p20_108, p20_109, p20_112, p20_113, p20_116, p20_117, p20_120, p20_121, p20_124, p20_125, p20_128, p20_129, p20_132, p20_133, p20_136, p20_137, p20_140, p20_141, p20_144, p20_145, p20_148, p20_149, p20_152, p20_153, p20_155, p20_158, p20_159, p20_160, p20_161, p20_164, p20_165, p20_168, p20_169, p20_172, p20_173, p20_174, p20_175, p20_178, p20_181, p20_182, p20_183, p20_186, p20_189, p20_190, p20_191, p20_192, p20_195, p20_198, jwd_c, jwd_0, Nat.reduceLeDiff, Nat.reduceEqDiff, Nat.reduceAdd, Nat.reduceSub, Nat.reduceMul, Int.reduceAdd, Int.reduceSub, Int.reduceMul, Int.reduceNeg, Int.reduceEq, Int.reduceLT, Int.reduceLE, jq_ldi_i, jq_ldl_l, jq_lda_a, jq_inc_i, jq_gs_t, jq_gsb_t, jq_gb_t, jq_gr_2, jq_gr_4, jq_gw_2, jq_s_t, jq_b_t, jg_c, jg_n, js_c, js_n, jrm_c, jrm_n, j2_i, j2_l, j2_a, jq_c_i, jq_c_l, jq_c_0, jq_c_n, jwd_le, jw_c0, mS_I, mS_R, mS_J, mN_I, mN_R, mN_J, mR_I, mI_R, mJ_I, mJ_R, mI_J, mR_J, ↓reduceIte, decide_true, or_true, true_or, and_self, false_or, or_false, reduceCtorEq, Bool.false_eq_true, and_false, false_and, eq_self, true_and, and_true, zero_ne, ↓br_lt_t, ↓br_lt_f, ↓br_eq_t, ↓br_eq_f, ↓br_lz_t, ↓br_lz_f, ↓br_ez_t, ↓br_ez_f, ↓br_gz_t, ↓br_gz_f, jw_id, jin_t, jix_t, ↓ite_t, ↓ite_f, Q.1, e1]
    rfl
  rw [x0]
  exact ⟨u2, f1.tr f2, h2⟩
end CREAD
