/-! The reader: band, home, dancer, frame, in the model. -/
section MLINE2
variable {w u : jmW} {T : Nat → Int} {n h p : Nat} {H : Nat → Nat → Int} {s : gSg} {l : Int}
theorem ml_2 (M : MS w T n h H (.inl p)) (hi : HI H) (k1 : tK T n p = 1) : ∃ u, rn 195 (0, [(0, jvr 238)], [], w) = some (none, u) ∧ Fln h w u ∧ ML u T n h H p 2 := by
  have hge := M.ge
  have hn := hi.hn
  obtain ⟨n1, n2, n3, n4⟩ := hn
  obtain ⟨u1, e1, M1, f1⟩ := mb_2 M hi k1
  have fin := fin_F (T := T) (n := n) (p := p) (H := H) (l := 2) (F := qb3 T n (H 0 0) (H 0 1)) (fun x => rfl) rfl
  generalize hs1 : gCom T n H 2 p = s1 at *
  obtain ⟨u2, e2, M2, f2⟩ := ms_cell M1 (by omega)
  obtain ⟨u3, e3, M3, f3⟩ := ms_go M2 (fun q e => by
    have := pB_k e
    omega)
  obtain ⟨u4, e4, M4, f4⟩ := ms_part M3 wm_7 (lo := 1) (hi := 9) (by omega) (by omega) (by omega) (by omega)
  have e4 : rn 188 (0, [(0, jvr 238), (1, jvr 9), (2, .inl 1), (3, .inl 9)], [], u3) = some (some (.inl (pV T n 1 9 (qb2 T n (H 0 0) (H 0 1) s1))), u4) := e4
  have M4 : MS u4 T n h H (qb3 T n (H 0 0) (H 0 1) s1) := M4
  have F4 := ((f1.tr f2).tr f3).tr f4
  obtain ⟨v9, h9, b1, b2, b3⟩ := M4.n9
  obtain ⟨fin1, fin2⟩ := fin
  rw [e1, p195_23]
  cases hs : qb3 T n (H 0 0) (H 0 1) s1 with
  | inr x =>
    rw [hs, bl_r] at b3
    rw [hs] at M4
    refine ⟨u4, ?_, F4.ln, Or.inr ⟨x, H, fin2 x hs, M4, hi.hn⟩⟩
    simp (disch := omega) only [p195_0, p195_1, p195_2, p195_5, p195_8, p195_10, p195_13, p195_14, p195_17, p195_18, p195_19, p195_20, p195_24, p195_27, p195_28, p195_29, p195_32, p195_33, p195_36, p195_37, p195_39, p195_42, p195_43, p195_44, p195_47, p195_48, p195_51, p195_52, p195_53, p195_56, p195_57, p195_60, p195_61, p195_64, p195_65, p195_68, jwd_c, jwd_0, Nat.reduceLeDiff, Nat.reduceEqDiff, Nat.reduceAdd, Nat.reduceSub, Nat.reduceMul, Int.reduceAdd, Int.reduceSub, Int.reduceMul, Int.reduceNeg, Int.reduceEq, Int.reduceLT, Int.reduceLE, jq_ldi_i, jq_ldl_l, jq_lda_a, jq_inc_i, jq_gs_t, jq_gsb_t, jq_gb_t, jq_gr_2, jq_gr_4, jq_gw_2, jq_s_t, jq_b_t, jg_c, jg_n, js_c, js_n, jrm_c, jrm_n, j2_i, j2_l, j2_a, jq_c_i, jq_c_l, jq_c_0, jq_c_n, jwd_le, jw_c0, mS_I, mS_R, mS_J, mN_I, mN_R, mN_J, mR_I, mI_R, mJ_I, mJ_R, mI_J, mR_J, ↓reduceIte, decide_true, or_true, true_or, and_self, false_or, or_false, reduceCtorEq, Bool.false_eq_true, and_false, false_and, eq_self, true_and, and_true, zero_ne, ↓br_lt_t, ↓br_lt_f, ↓br_eq_t, ↓br_eq_f, ↓br_lz_t, ↓br_lz_f, ↓br_ez_t, ↓br_ez_f, ↓br_gz_t, ↓br_gz_f, jw_id, jin_t, jix_t, ↓ite_t, ↓ite_f, MS.a M1, MS.r4 M1, MS.b M1, MS.f0 M1, MS.f1 M1, MS.f2 M1, MS.f3 M1, MS.f4 M1, MS.f5 M1, MS.f6 M1, MS.f7 M1, MS.f8 M1, MS.f10 M1, MS.f12 M1, MS.f13 M1, MS.a M2, MS.r4 M2, MS.b M2, MS.f0 M2, MS.f1 M2, MS.f2 M2, MS.f3 M2, MS.f4 M2, MS.f5 M2, MS.f6 M2, MS.f7 M2, MS.f8 M2, MS.f10 M2, MS.f12 M2, MS.f13 M2, MS.a M3, MS.r4 M3, MS.b M3, MS.f0 M3, MS.f1 M3, MS.f2 M3, MS.f3 M3, MS.f4 M3, MS.f5 M3, MS.f6 M3, MS.f7 M3, MS.f8 M3, MS.f10 M3, MS.f12 M3, MS.f13 M3, MS.a M4, MS.r4 M4, MS.b M4, MS.f0 M4, MS.f1 M4, MS.f2 M4, MS.f3 M4, MS.f4 M4, MS.f5 M4, MS.f6 M4, MS.f7 M4, MS.f8 M4, MS.f10 M4, MS.f12 M4, MS.f13 M4, e2, e3, e4, h9]
  | inl q =>
    rw [hs, bl_l] at b3
    rw [hs] at M4
    obtain ⟨z1, z2, z3⟩ := fin1 q hs
    have eH : (gRd T n H 2 (tE T n p)).2 = uH (uH H 0 11 (pV T n 1 9 (qb2 T n (H 0 0) (H 0 1) s1))) 0 10 (pCell T n (H 0 0) (H 0 1) s1) := by
      rw [z3]
      rfl
    generalize pV T n 1 9 (qb2 T n (H 0 0) (H 0 1) s1) = v at *
    generalize pCell T n (H 0 0) (H 0 1) s1 = c at *
    have M5 := (M4.num (k := 10) (x := c)).num (k := 11) (x := v)
    rw [uH_sw (by omega), ← eH] at M5
    refine ⟨_, ?_, F4.ln.tr ((Fln.hal (b := h) (k := 10) (x := c) (by omega) hge).tr (Fln.hal (b := h) (k := 11) (x := v) (by omega) hge)), Or.inl ⟨q, z1, z2, M5⟩⟩
    simp (disch := omega) only [p195_0, p195_1, p195_2, p195_5, p195_8, p195_10, p195_13, p195_14, p195_17, p195_18, p195_19, p195_20, p195_24, p195_27, p195_28, p195_29, p195_32, p195_33, p195_36, p195_37, p195_39, p195_42, p195_43, p195_44, p195_47, p195_48, p195_51, p195_52, p195_53, p195_56, p195_57, p195_60, p195_61, p195_64, p195_65, p195_68, jwd_c, jwd_0, Nat.reduceLeDiff, Nat.reduceEqDiff, Nat.reduceAdd, Nat.reduceSub, Nat.reduceMul, Int.reduceAdd, Int.reduceSub, Int.reduceMul, Int.reduceNeg, Int.reduceEq, Int.reduceLT, Int.reduceLE, jq_ldi_i, jq_ldl_l, jq_lda_a, jq_inc_i, jq_gs_t, jq_gsb_t, jq_gb_t, jq_gr_2, jq_gr_4, jq_gw_2, jq_s_t, jq_b_t, jg_c, jg_n, js_c, js_n, jrm_c, jrm_n, j2_i, j2_l, j2_a, jq_c_i, jq_c_l, jq_c_0, jq_c_n, jwd_le, jw_c0, mS_I, mS_R, mS_J, mN_I, mN_R, mN_J, mR_I, mI_R, mJ_I, mJ_R, mI_J, mR_J, ↓reduceIte, decide_true, or_true, true_or, and_self, false_or, or_false, reduceCtorEq, Bool.false_eq_true, and_false, false_and, eq_self, true_and, and_true, zero_ne, ↓br_lt_t, ↓br_lt_f, ↓br_eq_t, ↓br_eq_f, ↓br_lz_t, ↓br_lz_f, ↓br_ez_t, ↓br_ez_f, ↓br_gz_t, ↓br_gz_f, jw_id, jin_t, jix_t, ↓ite_t, ↓ite_f, MS.a M1, MS.r4 M1, MS.b M1, MS.f0 M1, MS.f1 M1, MS.f2 M1, MS.f3 M1, MS.f4 M1, MS.f5 M1, MS.f6 M1, MS.f7 M1, MS.f8 M1, MS.f10 M1, MS.f12 M1, MS.f13 M1, MS.a M2, MS.r4 M2, MS.b M2, MS.f0 M2, MS.f1 M2, MS.f2 M2, MS.f3 M2, MS.f4 M2, MS.f5 M2, MS.f6 M2, MS.f7 M2, MS.f8 M2, MS.f10 M2, MS.f12 M2, MS.f13 M2, MS.a M3, MS.r4 M3, MS.b M3, MS.f0 M3, MS.f1 M3, MS.f2 M3, MS.f3 M3, MS.f4 M3, MS.f5 M3, MS.f6 M3, MS.f7 M3, MS.f8 M3, MS.f10 M3, MS.f12 M3, MS.f13 M3, MS.a M4, MS.r4 M4, MS.b M4, MS.f0 M4, MS.f1 M4, MS.f2 M4, MS.f3 M4, MS.f4 M4, MS.f5 M4, MS.f6 M4, MS.f7 M4, MS.f8 M4, MS.f10 M4, MS.f12 M4, MS.f13 M4, e2, e3, e4, h9]
theorem ml_3 (M : MS w T n h H (.inl p)) (hi : HI H) (k1 : tK T n p = 1) : ∃ u, rn 198 (0, [(0, jvr 238)], [], w) = some (none, u) ∧ Fln h w u ∧ ML u T n h H p 3 := by
  have hge := M.ge
  have hn := hi.hn
  obtain ⟨n1, n2, n3, n4⟩ := hn
  obtain ⟨u1, e1, M1, f1⟩ := mb_3 M hi k1
  have fin := fin_F (T := T) (n := n) (p := p) (H := H) (l := 3) (F := pCn T n (H 0 0) (H 0 1)) (fun x => rfl) rfl
  generalize hs1 : gCom T n H 3 p = s1 at *
  obtain ⟨u2, e2, M2, f2⟩ := ms_cell M1 (by omega)
  obtain ⟨u3, e3, M3, f3⟩ := ms_go M2 (fun q e => by
    have := pB_k e
    omega)
  have M3 : MS u3 T n h H (pCn T n (H 0 0) (H 0 1) s1) := M3
  have F3 := (f1.tr f2).tr f3
  obtain ⟨v9, h9, b1, b2, b3⟩ := M3.n9
  obtain ⟨fin1, fin2⟩ := fin
  rw [e1, p198_23]
  cases hs : pCn T n (H 0 0) (H 0 1) s1 with
  | inr x =>
    rw [hs, bl_r] at b3
    rw [hs] at M3
    refine ⟨u3, ?_, F3.ln, Or.inr ⟨x, H, fin2 x hs, M3, hi.hn⟩⟩
    simp (disch := omega) only [p198_0, p198_1, p198_2, p198_5, p198_8, p198_10, p198_13, p198_14, p198_17, p198_18, p198_19, p198_20, p198_24, p198_27, p198_28, p198_29, p198_32, p198_33, p198_36, p198_37, p198_40, p198_41, p198_44, p198_45, p198_48, jwd_c, jwd_0, Nat.reduceLeDiff, Nat.reduceEqDiff, Nat.reduceAdd, Nat.reduceSub, Nat.reduceMul, Int.reduceAdd, Int.reduceSub, Int.reduceMul, Int.reduceNeg, Int.reduceEq, Int.reduceLT, Int.reduceLE, jq_ldi_i, jq_ldl_l, jq_lda_a, jq_inc_i, jq_gs_t, jq_gsb_t, jq_gb_t, jq_gr_2, jq_gr_4, jq_gw_2, jq_s_t, jq_b_t, jg_c, jg_n, js_c, js_n, jrm_c, jrm_n, j2_i, j2_l, j2_a, jq_c_i, jq_c_l, jq_c_0, jq_c_n, jwd_le, jw_c0, mS_I, mS_R, mS_J, mN_I, mN_R, mN_J, mR_I, mI_R, mJ_I, mJ_R, mI_J, mR_J, ↓reduceIte, decide_true, or_true, true_or, and_self, false_or, or_false, reduceCtorEq, Bool.false_eq_true, and_false, false_and, eq_self, true_and, and_true, zero_ne, ↓br_lt_t, ↓br_lt_f, ↓br_eq_t, ↓br_eq_f, ↓br_lz_t, ↓br_lz_f, ↓br_ez_t, ↓br_ez_f, ↓br_gz_t, ↓br_gz_f, jw_id, jin_t, jix_t, ↓ite_t, ↓ite_f, MS.a M1, MS.r4 M1, MS.b M1, MS.f0 M1, MS.f1 M1, MS.f2 M1, MS.f3 M1, MS.f4 M1, MS.f5 M1, MS.f6 M1, MS.f7 M1, MS.f8 M1, MS.f10 M1, MS.f12 M1, MS.f13 M1, MS.a M2, MS.r4 M2, MS.b M2, MS.f0 M2, MS.f1 M2, MS.f2 M2, MS.f3 M2, MS.f4 M2, MS.f5 M2, MS.f6 M2, MS.f7 M2, MS.f8 M2, MS.f10 M2, MS.f12 M2, MS.f13 M2, MS.a M3, MS.r4 M3, MS.b M3, MS.f0 M3, MS.f1 M3, MS.f2 M3, MS.f3 M3, MS.f4 M3, MS.f5 M3, MS.f6 M3, MS.f7 M3, MS.f8 M3, MS.f10 M3, MS.f12 M3, MS.f13 M3, e2, e3, h9]
  | inl q =>
    rw [hs, bl_l] at b3
    rw [hs] at M3
    obtain ⟨z1, z2, z3⟩ := fin1 q hs
    have eH : (gRd T n H 3 (tE T n p)).2 = uH H 0 12 (pCell T n (H 0 0) (H 0 1) s1) := by
      rw [z3]
      rfl
    generalize pCell T n (H 0 0) (H 0 1) s1 = c at *
    have M5 := M3.num (k := 12) (x := c)
    rw [← eH] at M5
    refine ⟨_, ?_, F3.ln.tr (Fln.hal (b := h) (k := 12) (x := c) (by omega) hge), Or.inl ⟨q, z1, z2, M5⟩⟩
    simp (disch := omega) only [p198_0, p198_1, p198_2, p198_5, p198_8, p198_10, p198_13, p198_14, p198_17, p198_18, p198_19, p198_20, p198_24, p198_27, p198_28, p198_29, p198_32, p198_33, p198_36, p198_37, p198_40, p198_41, p198_44, p198_45, p198_48, jwd_c, jwd_0, Nat.reduceLeDiff, Nat.reduceEqDiff, Nat.reduceAdd, Nat.reduceSub, Nat.reduceMul, Int.reduceAdd, Int.reduceSub, Int.reduceMul, Int.reduceNeg, Int.reduceEq, Int.reduceLT, Int.reduceLE, jq_ldi_i, jq_ldl_l, jq_lda_a, jq_inc_i, jq_gs_t, jq_gsb_t, jq_gb_t, jq_gr_2, jq_gr_4, jq_gw_2, jq_s_t, jq_b_t, jg_c, jg_n, js_c, js_n, jrm_c, jrm_n, j2_i, j2_l, j2_a, jq_c_i, jq_c_l, jq_c_0, jq_c_n, jwd_le, jw_c0, mS_I, mS_R, mS_J, mN_I, mN_R, mN_J, mR_I, mI_R, mJ_I, mJ_R, mI_J, mR_J, ↓reduceIte, decide_true, or_true, true_or, and_self, false_or, or_false, reduceCtorEq, Bool.false_eq_true, and_false, false_and, eq_self, true_and, and_true, zero_ne, ↓br_lt_t, ↓br_lt_f, ↓br_eq_t, ↓br_eq_f, ↓br_lz_t, ↓br_lz_f, ↓br_ez_t, ↓br_ez_f, ↓br_gz_t, ↓br_gz_f, jw_id, jin_t, jix_t, ↓ite_t, ↓ite_f, MS.a M1, MS.r4 M1, MS.b M1, MS.f0 M1, MS.f1 M1, MS.f2 M1, MS.f3 M1, MS.f4 M1, MS.f5 M1, MS.f6 M1, MS.f7 M1, MS.f8 M1, MS.f10 M1, MS.f12 M1, MS.f13 M1, MS.a M2, MS.r4 M2, MS.b M2, MS.f0 M2, MS.f1 M2, MS.f2 M2, MS.f3 M2, MS.f4 M2, MS.f5 M2, MS.f6 M2, MS.f7 M2, MS.f8 M2, MS.f10 M2, MS.f12 M2, MS.f13 M2, MS.a M3, MS.r4 M3, MS.b M3, MS.f0 M3, MS.f1 M3, MS.f2 M3, MS.f3 M3, MS.f4 M3, MS.f5 M3, MS.f6 M3, MS.f7 M3, MS.f8 M3, MS.f10 M3, MS.f12 M3, MS.f13 M3, e2, e3, h9]
theorem rowH_3 {lo c k : Nat} {t : Nat → Int} (hlo : 1 ≤ lo) : rowH H lo (lo + 2) c k t = uH (uH (uH (uH H lo k (t lo)) (lo + 1) k (t (lo + 1))) (lo + 2) k (t (lo + 2))) 0 c ((k : Int) + 1) := by
  funext a b
  by_cases z : b = k ∧ lo ≤ a ∧ a ≤ lo + 2
  · have e : rowH H lo (lo + 2) c k t a b = t a := if_pos z
    rw [e, uH_n (Or.inl (by omega))]
    obtain ⟨z1, z2, z3⟩ := z
    rw [z1]
    by_cases y2 : a = lo + 2
    · rw [y2, uH_s]
    · rw [uH_n (Or.inl y2)]
      by_cases y1 : a = lo + 1
      · rw [y1, uH_s]
      · rw [uH_n (Or.inl y1), show a = lo by omega, uH_s]
  · by_cases y : a = 0 ∧ b = c
    · have e : rowH H lo (lo + 2) c k t a b = (k : Int) + 1 := (if_neg z).trans (if_pos y)
      rw [e, y.1, y.2, uH_s]
    · have e : rowH H lo (lo + 2) c k t a b = H a b := (if_neg z).trans (if_neg y)
      rw [e, uH_n (by omega), uH_n (by omega), uH_n (by omega), uH_n (by omega)]
theorem ml_7 (M : MS w T n h H (.inl p)) (hi : HI H) (k1 : tK T n p = 1) : ∃ u, rn 206 (0, [(0, jvr 238)], [], w) = some (none, u) ∧ Fln h w u ∧ ML u T n h H p 7 := by
  have hge := M.ge
  have hn := hi.hn
  obtain ⟨n1, n2, n3, n4⟩ := hn
  obtain ⟨u1, e1, M1, f1⟩ := mb_7 M hi k1
  have fin := fin_F (T := T) (n := n) (p := p) (H := H) (l := 7) (F := qp5 T n) (fun x => rfl) rfl
  generalize hs1 : gCom T n H 7 p = s1 at *
  obtain ⟨u2, e2, M2, f2⟩ := ms_kind M1
  obtain ⟨u3, e3, M3, f3⟩ := ms_part M2 wm_13 (lo := 1) (hi := 9) (by omega) (by omega) (by omega) (by omega)
  obtain ⟨u4, e4, M4, f4⟩ := ms_part M3 wm_14 (lo := 0) (hi := 9) (by omega) (by omega) (by omega) (by omega)
  have e3 : rn 188 (0, [(0, jvr 238), (1, jvr 15), (2, .inl 1), (3, .inl 9)], [], u2) = some (some (.inl (pV T n 1 9 (qp2 T n s1))), u3) := e3
  have e4 : rn 188 (0, [(0, jvr 238), (1, jvr 16), (2, .inl 0), (3, .inl 9)], [], u3) = some (some (.inl (pV T n 0 9 (qp4 T n s1))), u4) := e4
  have M4 : MS u4 T n h H (qp5 T n s1) := M4
  have F4 := ((f1.tr f2).tr f3).tr f4
  obtain ⟨v9, h9, b1, b2, b3⟩ := M4.n9
  obtain ⟨fin1, fin2⟩ := fin
  rw [e1, p206_39]
  cases hs : qp5 T n s1 with
  | inr x =>
    rw [hs, bl_r] at b3
    rw [hs] at M4
    refine ⟨u4, ?_, F4.ln, Or.inr ⟨x, H, fin2 x hs, M4, hi.hn⟩⟩
    simp (disch := omega) only [p206_0, p206_1, p206_2, p206_3, p206_6, p206_9, p206_11, p206_14, p206_15, p206_18, p206_19, p206_20, p206_23, p206_26, p206_28, p206_31, p206_32, p206_35, p206_36, p206_40, p206_43, p206_44, p206_45, p206_48, p206_49, p206_51, p206_54, p206_55, p206_56, p206_59, p206_60, p206_62, p206_65, p206_66, p206_67, p206_70, p206_71, p206_74, p206_75, p206_76, p206_79, p206_82, p206_83, p206_86, p206_89, p206_90, p206_91, p206_92, p206_95, p206_98, p206_99, p206_102, p206_105, p206_106, p206_107, p206_108, p206_111, p206_114, p206_115, p206_118, p206_121, p206_122, p206_123, p206_124, p206_127i, p206_127a, p206_128, p206_131, p206_132, p206_133, p206_136, jwd_c, jwd_0, Nat.reduceLeDiff, Nat.reduceEqDiff, Nat.reduceAdd, Nat.reduceSub, Nat.reduceMul, Int.reduceAdd, Int.reduceSub, Int.reduceMul, Int.reduceNeg, Int.reduceEq, Int.reduceLT, Int.reduceLE, jq_ldi_i, jq_ldl_l, jq_lda_a, jq_inc_i, jq_gs_t, jq_gsb_t, jq_gb_t, jq_gr_2, jq_gr_4, jq_gw_2, jq_s_t, jq_b_t, jg_c, jg_n, js_c, js_n, jrm_c, jrm_n, j2_i, j2_l, j2_a, jq_c_i, jq_c_l, jq_c_0, jq_c_n, jwd_le, jw_c0, mS_I, mS_R, mS_J, mN_I, mN_R, mN_J, mR_I, mI_R, mJ_I, mJ_R, mI_J, mR_J, ↓reduceIte, decide_true, or_true, true_or, and_self, false_or, or_false, reduceCtorEq, Bool.false_eq_true, and_false, false_and, eq_self, true_and, and_true, zero_ne, ↓br_lt_t, ↓br_lt_f, ↓br_eq_t, ↓br_eq_f, ↓br_lz_t, ↓br_lz_f, ↓br_ez_t, ↓br_ez_f, ↓br_gz_t, ↓br_gz_f, jw_id, jin_t, jix_t, ↓ite_t, ↓ite_f, MS.a M1, MS.r4 M1, MS.b M1, MS.f0 M1, MS.f1 M1, MS.f2 M1, MS.f3 M1, MS.f4 M1, MS.f5 M1, MS.f6 M1, MS.f7 M1, MS.f8 M1, MS.f10 M1, MS.f12 M1, MS.f13 M1, MS.a M2, MS.r4 M2, MS.b M2, MS.f0 M2, MS.f1 M2, MS.f2 M2, MS.f3 M2, MS.f4 M2, MS.f5 M2, MS.f6 M2, MS.f7 M2, MS.f8 M2, MS.f10 M2, MS.f12 M2, MS.f13 M2, MS.a M3, MS.r4 M3, MS.b M3, MS.f0 M3, MS.f1 M3, MS.f2 M3, MS.f3 M3, MS.f4 M3, MS.f5 M3, MS.f6 M3, MS.f7 M3, MS.f8 M3, MS.f10 M3, MS.f12 M3, MS.f13 M3, MS.a M4, MS.r4 M4, MS.b M4, MS.f0 M4, MS.f1 M4, MS.f2 M4, MS.f3 M4, MS.f4 M4, MS.f5 M4, MS.f6 M4, MS.f7 M4, MS.f8 M4, MS.f10 M4, MS.f12 M4, MS.f13 M4, e2, e3, e4, h9]
  | inl q =>
    rw [hs, bl_l] at b3
    rw [hs] at M4
    obtain ⟨z1, z2, z3⟩ := fin1 q hs
    obtain ⟨hj, h4, -⟩ := fo_7 hi z1
    have eH : (gRd T n H 7 (tE T n p)).2 = rowH H 24 26 4 (H 0 4).toNat (tP T n 24 (fun _ => 0) s1) := by
      rw [z3]
      rfl
    obtain ⟨t0, t1, t2⟩ := tP_0 (T := T) (n := n) (s := s1) (A := 24) (t := fun _ => 0)
    have t1 : tP T n 24 (fun _ => 0) s1 25 = pV T n 1 9 (qp2 T n s1) := t1
    have t2 : tP T n 24 (fun _ => 0) s1 26 = pV T n 0 9 (qp4 T n s1) := t2
    have eR := rowH_3 (H := H) (lo := 24) (c := 4) (k := (H 0 4).toNat) (t := tP T n 24 (fun _ => 0) s1) (by omega)
    rw [t0, t1, t2] at eR
    have eR : rowH H 24 26 4 (H 0 4).toNat (tP T n 24 (fun _ => 0) s1) = uH (uH (uH (uH H 24 (H 0 4).toNat (pI T n (cs wKd) s1)) 25 (H 0 4).toNat (pV T n 1 9 (qp2 T n s1))) 26 (H 0 4).toNat (pV T n 0 9 (qp4 T n s1))) 0 4 (((H 0 4).toNat : Int) + 1) := eR
    rw [← eH, show (((H 0 4).toNat : Nat) : Int) + 1 = H 0 4 + 1 by omega] at eR
    generalize pI T n (cs wKd) s1 = a at *
    generalize pV T n 1 9 (qp2 T n s1) = b at *
    generalize pV T n 0 9 (qp4 T n s1) = c at *
    have M5 := M4.arr (i := 8) (k := (H 0 4).toNat) (x := a) (by omega) (by omega)
    have M6 := M5.arr (i := 9) (k := (H 0 4).toNat) (x := b) (by omega) (by omega)
    have M7 := M6.arr (i := 10) (k := (H 0 4).toNat) (x := c) (by omega) (by omega)
    have M8 := M7.num (k := 4) (x := H 0 4 + 1)
    rw [← eR] at M8
    refine ⟨_, ?_, F4.ln.tr ((((Fln.hal (b := h + 8) (k := (H 0 4).toNat) (x := a) (by omega) hge).tr (Fln.hal (b := h + 9) (k := (H 0 4).toNat) (x := b) (by omega) hge)).tr (Fln.hal (b := h + 10) (k := (H 0 4).toNat) (x := c) (by omega) hge)).tr (Fln.hal (b := h) (k := 4) (x := H 0 4 + 1) (by omega) hge)), Or.inl ⟨q, z1, z2, M8⟩⟩
    have r24 := M4.2.1.r8
    have r25 := M5.2.1.r9
    have r26 := M6.2.1.r10
    have s24 := M4.2.1.s8
    have s25 := M5.2.1.s9
    have s26 := M6.2.1.s10
    have g5 := M5.2.1.f4
    have g6 := M6.2.1.f4
    have g7 := M7.2.1.f4
    rw [uH_n (by omega)] at g5
    rw [uH_n (by omega), uH_n (by omega)] at g6
    rw [uH_n (by omega), uH_n (by omega), uH_n (by omega)] at g7
    simp (disch := omega) only [p206_0, p206_1, p206_2, p206_3, p206_6, p206_9, p206_11, p206_14, p206_15, p206_18, p206_19, p206_20, p206_23, p206_26, p206_28, p206_31, p206_32, p206_35, p206_36, p206_40, p206_43, p206_44, p206_45, p206_48, p206_49, p206_51, p206_54, p206_55, p206_56, p206_59, p206_60, p206_62, p206_65, p206_66, p206_67, p206_70, p206_71, p206_74, p206_75, p206_76, p206_79, p206_82, p206_83, p206_86, p206_89, p206_90, p206_91, p206_92, p206_95, p206_98, p206_99, p206_102, p206_105, p206_106, p206_107, p206_108, p206_111, p206_114, p206_115, p206_118, p206_121, p206_122, p206_123, p206_124, p206_127i, p206_127a, p206_128, p206_131, p206_132, p206_133, p206_136, jwd_c, jwd_0, Nat.reduceLeDiff, Nat.reduceEqDiff, Nat.reduceAdd, Nat.reduceSub, Nat.reduceMul, Int.reduceAdd, Int.reduceSub, Int.reduceMul, Int.reduceNeg, Int.reduceEq, Int.reduceLT, Int.reduceLE, jq_ldi_i, jq_ldl_l, jq_lda_a, jq_inc_i, jq_gs_t, jq_gsb_t, jq_gb_t, jq_gr_2, jq_gr_4, jq_gw_2, jq_s_t, jq_b_t, jg_c, jg_n, js_c, js_n, jrm_c, jrm_n, j2_i, j2_l, j2_a, jq_c_i, jq_c_l, jq_c_0, jq_c_n, jwd_le, jw_c0, mS_I, mS_R, mS_J, mN_I, mN_R, mN_J, mR_I, mI_R, mJ_I, mJ_R, mI_J, mR_J, ↓reduceIte, decide_true, or_true, true_or, and_self, false_or, or_false, reduceCtorEq, Bool.false_eq_true, and_false, false_and, eq_self, true_and, and_true, zero_ne, ↓br_lt_t, ↓br_lt_f, ↓br_eq_t, ↓br_eq_f, ↓br_lz_t, ↓br_lz_f, ↓br_ez_t, ↓br_ez_f, ↓br_gz_t, ↓br_gz_f, jw_id, jin_t, jix_t, ↓ite_t, ↓ite_f, MS.a M1, MS.r4 M1, MS.b M1, MS.f0 M1, MS.f1 M1, MS.f2 M1, MS.f3 M1, MS.f4 M1, MS.f5 M1, MS.f6 M1, MS.f7 M1, MS.f8 M1, MS.f10 M1, MS.f12 M1, MS.f13 M1, MS.a M2, MS.r4 M2, MS.b M2, MS.f0 M2, MS.f1 M2, MS.f2 M2, MS.f3 M2, MS.f4 M2, MS.f5 M2, MS.f6 M2, MS.f7 M2, MS.f8 M2, MS.f10 M2, MS.f12 M2, MS.f13 M2, MS.a M3, MS.r4 M3, MS.b M3, MS.f0 M3, MS.f1 M3, MS.f2 M3, MS.f3 M3, MS.f4 M3, MS.f5 M3, MS.f6 M3, MS.f7 M3, MS.f8 M3, MS.f10 M3, MS.f12 M3, MS.f13 M3, MS.a M4, MS.r4 M4, MS.b M4, MS.f0 M4, MS.f1 M4, MS.f2 M4, MS.f3 M4, MS.f4 M4, MS.f5 M4, MS.f6 M4, MS.f7 M4, MS.f8 M4, MS.f10 M4, MS.f12 M4, MS.f13 M4, MS.a M5, MS.r4 M5, MS.b M5, MS.a M6, MS.r4 M6, MS.b M6, MS.a M7, MS.r4 M7, MS.b M7, e2, e3, e4, h9, r24, r25, r26, s24, s25, s26, g5, g6, g7]
theorem ml_9 (M : MS w T n h H (.inl p)) (hi : HI H) (k1 : tK T n p = 1) : ∃ u, rn 211 (0, [(0, jvr 238)], [], w) = some (none, u) ∧ Fln h w u ∧ ML u T n h H p 9 := by
  have hge := M.ge
  have hn := hi.hn
  obtain ⟨n1, n2, n3, n4⟩ := hn
  obtain ⟨u1, e1, M1, f1⟩ := mb_9 M hi k1
  have fin := fin_F (T := T) (n := n) (p := p) (H := H) (l := 9) (F := qf4 T n H) (fun x => rfl) rfl
  generalize hs1 : gCom T n H 9 p = s1 at *
  obtain ⟨u2, e2, M2, f2⟩ := ms_whole M1 (lo := 0) (hi := 40) (by omega) (by omega) (by omega) (by omega)
  obtain ⟨u3, e3, M3, f3⟩ := ms_whole M2 (lo := 0) (hi := H 0 4 - 1) (by omega) (by omega) (by omega) (by omega)
  obtain ⟨u4, e4, M4, f4⟩ := ms_needs M3 wm_10
  have e4 : rn 189 (0, [(0, jvr 238), (1, jvr 12)], [], u3) = some (none, u4) := e4
  have M4 : MS u4 T n h H (qf3 T n (H 0 4) s1) := M4
  obtain ⟨u5, e5, M5, f5⟩ := ms_cell M4 (by omega)
  obtain ⟨u6, e6, M6, f6⟩ := ms_go M5 (fun q e => by
    have := pB_k e
    omega)
  have M6 : MS u6 T n h H (qf4 T n H s1) := M6
  have F6 := ((((f1.tr f2).tr f3).tr f4).tr f5).tr f6
  obtain ⟨v9, h9, b1, b2, b3⟩ := M6.n9
  obtain ⟨fin1, fin2⟩ := fin
  rw [e1, p211_23]
  cases hs : qf4 T n H s1 with
  | inr x =>
    rw [hs, bl_r] at b3
    rw [hs] at M6
    refine ⟨u6, ?_, F6.ln, Or.inr ⟨x, H, fin2 x hs, M6, hi.hn⟩⟩
    simp (disch := omega) only [p211_0, p211_1, p211_2, p211_3, p211_6, p211_9, p211_11, p211_14, p211_15, p211_18, p211_19, p211_20, p211_24, p211_25, p211_27, p211_30, p211_31, p211_32, p211_33, p211_34, p211_37, p211_40, p211_41, p211_42, p211_45, p211_46, p211_47, p211_50, p211_53, p211_54, p211_57, p211_58, p211_59, p211_62, p211_63, p211_66, p211_67, p211_70, p211_71, p211_72, p211_75, p211_78, p211_79, p211_82, p211_85, p211_86, p211_87, p211_88, p211_91, p211_94, p211_95, p211_98, p211_101, p211_102, p211_103, p211_104, p211_107, p211_110, p211_111, p211_114, p211_117, p211_118, p211_119, p211_120, p211_123i, p211_123a, p211_124, p211_127, p211_128, p211_129, p211_132, jwd_c, jwd_0, Nat.reduceLeDiff, Nat.reduceEqDiff, Nat.reduceAdd, Nat.reduceSub, Nat.reduceMul, Int.reduceAdd, Int.reduceSub, Int.reduceMul, Int.reduceNeg, Int.reduceEq, Int.reduceLT, Int.reduceLE, jq_ldi_i, jq_ldl_l, jq_lda_a, jq_inc_i, jq_gs_t, jq_gsb_t, jq_gb_t, jq_gr_2, jq_gr_4, jq_gw_2, jq_s_t, jq_b_t, jg_c, jg_n, js_c, js_n, jrm_c, jrm_n, j2_i, j2_l, j2_a, jq_c_i, jq_c_l, jq_c_0, jq_c_n, jwd_le, jw_c0, mS_I, mS_R, mS_J, mN_I, mN_R, mN_J, mR_I, mI_R, mJ_I, mJ_R, mI_J, mR_J, ↓reduceIte, decide_true, or_true, true_or, and_self, false_or, or_false, reduceCtorEq, Bool.false_eq_true, and_false, false_and, eq_self, true_and, and_true, zero_ne, ↓br_lt_t, ↓br_lt_f, ↓br_eq_t, ↓br_eq_f, ↓br_lz_t, ↓br_lz_f, ↓br_ez_t, ↓br_ez_f, ↓br_gz_t, ↓br_gz_f, jw_id, jin_t, jix_t, ↓ite_t, ↓ite_f, MS.a M1, MS.r4 M1, MS.b M1, MS.f0 M1, MS.f1 M1, MS.f2 M1, MS.f3 M1, MS.f4 M1, MS.f5 M1, MS.f6 M1, MS.f7 M1, MS.f8 M1, MS.f10 M1, MS.f12 M1, MS.f13 M1, MS.a M2, MS.r4 M2, MS.b M2, MS.f0 M2, MS.f1 M2, MS.f2 M2, MS.f3 M2, MS.f4 M2, MS.f5 M2, MS.f6 M2, MS.f7 M2, MS.f8 M2, MS.f10 M2, MS.f12 M2, MS.f13 M2, MS.a M3, MS.r4 M3, MS.b M3, MS.f0 M3, MS.f1 M3, MS.f2 M3, MS.f3 M3, MS.f4 M3, MS.f5 M3, MS.f6 M3, MS.f7 M3, MS.f8 M3, MS.f10 M3, MS.f12 M3, MS.f13 M3, MS.a M4, MS.r4 M4, MS.b M4, MS.f0 M4, MS.f1 M4, MS.f2 M4, MS.f3 M4, MS.f4 M4, MS.f5 M4, MS.f6 M4, MS.f7 M4, MS.f8 M4, MS.f10 M4, MS.f12 M4, MS.f13 M4, MS.a M5, MS.r4 M5, MS.b M5, MS.f0 M5, MS.f1 M5, MS.f2 M5, MS.f3 M5, MS.f4 M5, MS.f5 M5, MS.f6 M5, MS.f7 M5, MS.f8 M5, MS.f10 M5, MS.f12 M5, MS.f13 M5, MS.a M6, MS.r4 M6, MS.b M6, MS.f0 M6, MS.f1 M6, MS.f2 M6, MS.f3 M6, MS.f4 M6, MS.f5 M6, MS.f6 M6, MS.f7 M6, MS.f8 M6, MS.f10 M6, MS.f12 M6, MS.f13 M6, e2, e3, e4, e5, e6, h9]
  | inl q =>
    rw [hs, bl_l] at b3
    rw [hs] at M6
    obtain ⟨z1, z2, z3⟩ := fin1 q hs
    obtain ⟨hj, h8⟩ := fo_9 hi z1
    obtain ⟨t, ht⟩ : ∃ t, t = uT (uT (uT (fun _ => 0) 29 (pV T n 0 40 s1)) 30 (pV T n 0 (H 0 4 - 1) (qf1 T n s1))) 31 (pCell T n (H 0 0) (H 0 1) (qf3 T n (H 0 4) s1)) := ⟨_, rfl⟩
    have eH : (gRd T n H 9 (tE T n p)).2 = rowH H 29 31 8 (H 0 8).toNat t := by
      rw [ht, z3]
      rfl
    have t0 : t 29 = pV T n 0 40 s1 := by
      rw [ht]
      unfold uT
      rw [if_neg (by omega), if_neg (by omega), if_pos rfl]
    have t1 : t 30 = pV T n 0 (H 0 4 - 1) (qf1 T n s1) := by
      rw [ht]
      unfold uT
      rw [if_neg (by omega), if_pos rfl]
    have t2 : t 31 = pCell T n (H 0 0) (H 0 1) (qf3 T n (H 0 4) s1) := by
      rw [ht]
      unfold uT
      rw [if_pos rfl]
    clear ht
    have eR := rowH_3 (H := H) (lo := 29) (c := 8) (k := (H 0 8).toNat) (t := t) (by omega)
    have eR : rowH H 29 31 8 (H 0 8).toNat t = uH (uH (uH (uH H 29 (H 0 8).toNat (t 29)) 30 (H 0 8).toNat (t 30)) 31 (H 0 8).toNat (t 31)) 0 8 (((H 0 8).toNat : Int) + 1) := eR
    rw [t0, t1, t2, ← eH, show (((H 0 8).toNat : Nat) : Int) + 1 = H 0 8 + 1 by omega] at eR
    have e3 : rn 190 (0, [(0, jvr 238), (1, .inl 0), (2, .inl (H 0 4 - 1))], [], u2) = some (some (.inl (pV T n 0 (H 0 4 - 1) (qf1 T n s1))), u3) := e3
    generalize pCell T n (H 0 0) (H 0 1) (qf3 T n (H 0 4) s1) = c at *
    generalize pV T n 0 (H 0 4 - 1) (qf1 T n s1) = b at *
    generalize pV T n 0 40 s1 = a at *
    have M7 := M6.arr (i := 13) (k := (H 0 8).toNat) (x := a) (by omega) (by omega)
    have M8 := M7.arr (i := 14) (k := (H 0 8).toNat) (x := b) (by omega) (by omega)
    have M9 := M8.arr (i := 15) (k := (H 0 8).toNat) (x := c) (by omega) (by omega)
    have Ma := M9.num (k := 8) (x := H 0 8 + 1)
    rw [← eR] at Ma
    refine ⟨_, ?_, F6.ln.tr ((((Fln.hal (b := h + 13) (k := (H 0 8).toNat) (x := a) (by omega) hge).tr (Fln.hal (b := h + 14) (k := (H 0 8).toNat) (x := b) (by omega) hge)).tr (Fln.hal (b := h + 15) (k := (H 0 8).toNat) (x := c) (by omega) hge)).tr (Fln.hal (b := h) (k := 8) (x := H 0 8 + 1) (by omega) hge)), Or.inl ⟨q, z1, z2, Ma⟩⟩
    have r29 := M6.2.1.r13
    have r30 := M7.2.1.r14
    have r31 := M8.2.1.r15
    have s29 := M6.2.1.s13
    have s30 := M7.2.1.s14
    have s31 := M8.2.1.s15
    have g7 := M7.2.1.f8
    have g8 := M8.2.1.f8
    have g9 := M9.2.1.f8
    rw [uH_n (by omega)] at g7
    rw [uH_n (by omega), uH_n (by omega)] at g8
    rw [uH_n (by omega), uH_n (by omega), uH_n (by omega)] at g9
    simp (disch := omega) only [p211_0, p211_1, p211_2, p211_3, p211_6, p211_9, p211_11, p211_14, p211_15, p211_18, p211_19, p211_20, p211_24, p211_25, p211_27, p211_30, p211_31, p211_32, p211_33, p211_34, p211_37, p211_40, p211_41, p211_42, p211_45, p211_46, p211_47, p211_50, p211_53, p211_54, p211_57, p211_58, p211_59, p211_62, p211_63, p211_66, p211_67, p211_70, p211_71, p211_72, p211_75, p211_78, p211_79, p211_82, p211_85, p211_86, p211_87, p211_88, p211_91, p211_94, p211_95, p211_98, p211_101, p211_102, p211_103, p211_104, p211_107, p211_110, p211_111, p211_114, p211_117, p211_118, p211_119, p211_120, p211_123i, p211_123a, p211_124, p211_127, p211_128, p211_129, p211_132, jwd_c, jwd_0, Nat.reduceLeDiff, Nat.reduceEqDiff, Nat.reduceAdd, Nat.reduceSub, Nat.reduceMul, Int.reduceAdd, Int.reduceSub, Int.reduceMul, Int.reduceNeg, Int.reduceEq, Int.reduceLT, Int.reduceLE, jq_ldi_i, jq_ldl_l, jq_lda_a, jq_inc_i, jq_gs_t, jq_gsb_t, jq_gb_t, jq_gr_2, jq_gr_4, jq_gw_2, jq_s_t, jq_b_t, jg_c, jg_n, js_c, js_n, jrm_c, jrm_n, j2_i, j2_l, j2_a, jq_c_i, jq_c_l, jq_c_0, jq_c_n, jwd_le, jw_c0, mS_I, mS_R, mS_J, mN_I, mN_R, mN_J, mR_I, mI_R, mJ_I, mJ_R, mI_J, mR_J, ↓reduceIte, decide_true, or_true, true_or, and_self, false_or, or_false, reduceCtorEq, Bool.false_eq_true, and_false, false_and, eq_self, true_and, and_true, zero_ne, ↓br_lt_t, ↓br_lt_f, ↓br_eq_t, ↓br_eq_f, ↓br_lz_t, ↓br_lz_f, ↓br_ez_t, ↓br_ez_f, ↓br_gz_t, ↓br_gz_f, jw_id, jin_t, jix_t, ↓ite_t, ↓ite_f, MS.a M1, MS.r4 M1, MS.b M1, MS.f0 M1, MS.f1 M1, MS.f2 M1, MS.f3 M1, MS.f4 M1, MS.f5 M1, MS.f6 M1, MS.f7 M1, MS.f8 M1, MS.f10 M1, MS.f12 M1, MS.f13 M1, MS.a M2, MS.r4 M2, MS.b M2, MS.f0 M2, MS.f1 M2, MS.f2 M2, MS.f3 M2, MS.f4 M2, MS.f5 M2, MS.f6 M2, MS.f7 M2, MS.f8 M2, MS.f10 M2, MS.f12 M2, MS.f13 M2, MS.a M3, MS.r4 M3, MS.b M3, MS.f0 M3, MS.f1 M3, MS.f2 M3, MS.f3 M3, MS.f4 M3, MS.f5 M3, MS.f6 M3, MS.f7 M3, MS.f8 M3, MS.f10 M3, MS.f12 M3, MS.f13 M3, MS.a M4, MS.r4 M4, MS.b M4, MS.f0 M4, MS.f1 M4, MS.f2 M4, MS.f3 M4, MS.f4 M4, MS.f5 M4, MS.f6 M4, MS.f7 M4, MS.f8 M4, MS.f10 M4, MS.f12 M4, MS.f13 M4, MS.a M5, MS.r4 M5, MS.b M5, MS.f0 M5, MS.f1 M5, MS.f2 M5, MS.f3 M5, MS.f4 M5, MS.f5 M5, MS.f6 M5, MS.f7 M5, MS.f8 M5, MS.f10 M5, MS.f12 M5, MS.f13 M5, MS.a M6, MS.r4 M6, MS.b M6, MS.f0 M6, MS.f1 M6, MS.f2 M6, MS.f3 M6, MS.f4 M6, MS.f5 M6, MS.f6 M6, MS.f7 M6, MS.f8 M6, MS.f10 M6, MS.f12 M6, MS.f13 M6, MS.a M7, MS.r4 M7, MS.b M7, MS.a M8, MS.r4 M8, MS.b M8, MS.a M9, MS.r4 M9, MS.b M9, e2, e3, e4, e5, e6, h9, r29, r30, r31, s29, s30, s31, g7, g8, g9]
end MLINE2
