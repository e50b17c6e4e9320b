/-! The reader: hall, band, home, dancer, frame, in the model. -/
def ML (u : jmW) (T : Nat → Int) (n h : Nat) (H : Nat → Nat → Int) (p : Nat) (l : Int) : Prop := (∃ q, gFa H l = 0 ∧ (gRd T n H l (tE T n p)).1 = .inl q ∧ MS u T n h (gRd T n H l (tE T n p)).2 (.inl q)) ∨ (∃ x H2, (if gFa H l = 0 then (gRd T n H l (tE T n p)).1 else .inr (gFa H l, (tS T n p : Int))) = .inr x ∧ MS u T n h H2 (.inr x) ∧ HN H2)
theorem wm_1 : wom 1 (gS2 "wide") = true := by decide +kernel
theorem wm_2 : wom 2 (gS2 "high") = true := by decide +kernel
theorem wm_3 : wom 3 (gS2 "law") = true := by decide +kernel
theorem wm_5 : wom 5 (gS2 "joins") = true := by decide +kernel
theorem wm_7 : wom 7 (gS2 "sound") = true := by decide +kernel
theorem wm_10 : wom 10 (gS2 "at") = true := by decide +kernel
theorem wm_11 : wom 11 (gS2 "sits") = true := by decide +kernel
theorem wm_13 : wom 13 (gS2 "legs") = true := by decide +kernel
theorem wm_14 : wom 14 (gS2 "grip") = true := by decide +kernel
theorem wm_15 : wom 15 (gS2 "eager") = true := by decide +kernel
theorem wm_17 : wom 17 (gS2 "round") = true := by decide +kernel
theorem wm_18 : wom 18 (gS2 "through") = true := by decide +kernel
theorem wm_19 : wom 19 (gS2 "behind") = true := by decide +kernel
theorem wm_20 : wom 20 (gS2 "end") = true := by decide +kernel
theorem cd_tr : cD (gS2 "through") ≠ cD (gS2 "round") := by decide +kernel
theorem cd_eb : cD (gS2 "end") ≠ cD (gS2 "behind") := by decide +kernel
section MLINE
variable {w u : jmW} {T : Nat → Int} {n h p : Nat} {H : Nat → Nat → Int} {s : gSg} {l : Int}
theorem fin_F {F : gSg → gSg} (hF : ∀ x, F (.inr x) = .inr x) (hG : (gRd T n H l (tE T n p)).1 = F (.inl (tE T n p))) : (∀ q, F (gCom T n H l p) = .inl q → gFa H l = 0 ∧ (gRd T n H l (tE T n p)).1 = .inl q ∧ gCom T n H l p = .inl (tE T n p)) ∧ (∀ x, F (gCom T n H l p) = .inr x → (if gFa H l = 0 then (gRd T n H l (tE T n p)).1 else .inr (gFa H l, (tS T n p : Int))) = .inr x) := by
  by_cases z : gFa H l = 0
  · have e : gCom T n H l p = .inl (tE T n p) := if_pos z
    rw [e, if_pos z, hG]
    exact ⟨fun q hq => ⟨z, hq, rfl⟩, fun x hx => hx⟩
  · have e : gCom T n H l p = .inr (gFa H l, (tS T n p : Int)) := if_neg z
    rw [e, if_neg z, hF]
    exact ⟨fun q hq => (by cases hq), fun x hx => hx⟩
theorem bl_r {x : Int × Int} : bl (.inr x) = 0 := rfl
theorem bl_l {q : Nat} : bl (.inl q) = 1 := rfl
theorem is_ne {a b : Int} (hn : a ≠ b) (h1 : gIs T n s a = true) : ¬ gIs T n s b = true := fun h2 => by
  cases s with
  | inl p =>
    have h1 : decide (tK T n p = 1 ∧ tW T n p = a) = true := h1
    have h2 : decide (tK T n p = 1 ∧ tW T n p = b) = true := h2
    exact hn ((of_decide_eq_true h1).2.symm.trans (of_decide_eq_true h2).2)
  | inr x => cases h1
theorem ws_2 {a b : Int} : gWs T n s [a, b] 0 = if gIs T n s a = true then 0 else if gIs T n s b = true then 1 else -1 := rfl
theorem mb_0 (M : MS w T n h H (.inl p)) (hi : HI H) (k1 : tK T n p = 1) : ∃ u, rn 186 (0, [(0, jvr 238)], [], w) = rn 186 (19, [(0, jvr 238)], [], u) ∧ MS u T n h H (gCom T n H 0 p) ∧ Ftk w u := by
  obtain ⟨n1, n2, n3, n4⟩ := hi.hn
  by_cases z : 0 < H 0 0
  · obtain ⟨v, e1, M1, f1⟩ := ms_flaw M (f := 3)
    obtain ⟨u, e2, M2, f2⟩ := ms_go M1 (fun p e => (pf_n e).elim)
    have ef : gFa H 0 = 3 := by rw [fa_0, if_pos z]
    have eg : gCom T n H 0 p = .inr (3, (tS T n p : Int)) := by
      unfold gCom
      rw [ef]
      rfl
    rw [eg]
    refine ⟨u, ?_, M2, f1.tr f2⟩
    simp (disch := omega) only [p186_0, p186_1, p186_4, p186_7, p186_10, p186_11, p186_12, p186_15, p186_16, p186_20, p186_22, p186_23, p186_25, p186_28, p186_29, p186_30, p186_32, p186_33, p186_35, p186_38, p186_39, p186_40, p186_42, p186_45, p186_46, p186_48, p186_51, p186_52, p186_53, p186_56, p186_57, p186_59, p186_62, p186_65, p186_66, p186_67, p186_70, p186_71, p186_74, p186_75, p186_78, p186_81, p186_82, p186_85, p186_88, p186_90, p186_92, p186_95, p186_96, p186_99, p186_102, p186_105, p186_106, p186_107, p186_110, p186_111, p186_114, p186_115, p186_118, p186_119, p186_122, p186_123, p186_124, p186_127, p186_128, p186_131, p186_132, p186_135, p186_136, p186_139, p186_140, p186_143, p186_144, p186_147, p186_148, p186_151, p186_153, p186_156, jwd_c, jwd_0, Nat.reduceLeDiff, Nat.reduceEqDiff, Nat.reduceAdd, Nat.reduceSub, Nat.reduceMul, Int.reduceAdd, Int.reduceSub, Int.reduceMul, Int.reduceNeg, Int.reduceEq, Int.reduceLT, Int.reduceLE, jq_ldi_i, jq_ldl_l, jq_lda_a, jq_inc_i, jq_gs_t, jq_gsb_t, jq_gb_t, jq_gr_2, jq_gr_4, jq_gw_2, jq_s_t, jq_b_t, jg_c, jg_n, js_c, js_n, jrm_c, jrm_n, j2_i, j2_l, j2_a, jq_c_i, jq_c_l, jq_c_0, jq_c_n, jwd_le, jw_c0, mS_I, mS_R, mS_J, mN_I, mN_R, mN_J, mR_I, mI_R, mJ_I, mJ_R, mI_J, mR_J, ↓reduceIte, decide_true, or_true, true_or, and_self, false_or, or_false, reduceCtorEq, Bool.false_eq_true, and_false, false_and, eq_self, true_and, and_true, zero_ne, ↓br_lt_t, ↓br_lt_f, ↓br_eq_t, ↓br_eq_f, ↓br_lz_t, ↓br_lz_f, ↓br_ez_t, ↓br_ez_f, ↓br_gz_t, ↓br_gz_f, jw_id, jin_t, jix_t, ↓ite_t, ↓ite_f, MS.a M, MS.r4 M, MS.b M, MS.f0 M, MS.f1 M, MS.f2 M, MS.f3 M, MS.f4 M, MS.f5 M, MS.f6 M, MS.f7 M, MS.f8 M, MS.f10 M, MS.f12 M, MS.f13 M, MS.a M1, MS.r4 M1, MS.b M1, MS.f0 M1, MS.f1 M1, MS.f2 M1, MS.f3 M1, MS.f4 M1, MS.f5 M1, MS.f6 M1, MS.f7 M1, MS.f8 M1, MS.f10 M1, MS.f12 M1, MS.f13 M1, e1, e2]
  · obtain ⟨u, e2, M2, f2⟩ := ms_go M (fun q e => by
      have := Sum.inl.inj e
      subst this
      omega)
    have ef : gFa H 0 = 0 := by rw [fa_0, if_neg z]
    have eg : gCom T n H 0 p = .inl (tE T n p) := if_pos ef
    rw [eg]
    refine ⟨u, ?_, M2, f2⟩
    simp (disch := omega) only [p186_0, p186_1, p186_4, p186_7, p186_10, p186_11, p186_12, p186_15, p186_16, p186_20, p186_22, p186_23, p186_25, p186_28, p186_29, p186_30, p186_32, p186_33, p186_35, p186_38, p186_39, p186_40, p186_42, p186_45, p186_46, p186_48, p186_51, p186_52, p186_53, p186_56, p186_57, p186_59, p186_62, p186_65, p186_66, p186_67, p186_70, p186_71, p186_74, p186_75, p186_78, p186_81, p186_82, p186_85, p186_88, p186_90, p186_92, p186_95, p186_96, p186_99, p186_102, p186_105, p186_106, p186_107, p186_110, p186_111, p186_114, p186_115, p186_118, p186_119, p186_122, p186_123, p186_124, p186_127, p186_128, p186_131, p186_132, p186_135, p186_136, p186_139, p186_140, p186_143, p186_144, p186_147, p186_148, p186_151, p186_153, p186_156, jwd_c, jwd_0, Nat.reduceLeDiff, Nat.reduceEqDiff, Nat.reduceAdd, Nat.reduceSub, Nat.reduceMul, Int.reduceAdd, Int.reduceSub, Int.reduceMul, Int.reduceNeg, Int.reduceEq, Int.reduceLT, Int.reduceLE, jq_ldi_i, jq_ldl_l, jq_lda_a, jq_inc_i, jq_gs_t, jq_gsb_t, jq_gb_t, jq_gr_2, jq_gr_4, jq_gw_2, jq_s_t, jq_b_t, jg_c, jg_n, js_c, js_n, jrm_c, jrm_n, j2_i, j2_l, j2_a, jq_c_i, jq_c_l, jq_c_0, jq_c_n, jwd_le, jw_c0, mS_I, mS_R, mS_J, mN_I, mN_R, mN_J, mR_I, mI_R, mJ_I, mJ_R, mI_J, mR_J, ↓reduceIte, decide_true, or_true, true_or, and_self, false_or, or_false, reduceCtorEq, Bool.false_eq_true, and_false, false_and, eq_self, true_and, and_true, zero_ne, ↓br_lt_t, ↓br_lt_f, ↓br_eq_t, ↓br_eq_f, ↓br_lz_t, ↓br_lz_f, ↓br_ez_t, ↓br_ez_f, ↓br_gz_t, ↓br_gz_f, jw_id, jin_t, jix_t, ↓ite_t, ↓ite_f, MS.a M, MS.r4 M, MS.b M, MS.f0 M, MS.f1 M, MS.f2 M, MS.f3 M, MS.f4 M, MS.f5 M, MS.f6 M, MS.f7 M, MS.f8 M, MS.f10 M, MS.f12 M, MS.f13 M, e2]
theorem ml_0 (M : MS w T n h H (.inl p)) (hi : HI H) (k1 : tK T n p = 1) : ∃ u, rn 186 (0, [(0, jvr 238)], [], w) = some (none, u) ∧ Fln h w u ∧ ML u T n h H p 0 := by
  have hge := M.ge
  obtain ⟨u1, e1, M1, f1⟩ := mb_0 M hi k1
  have fin := fin_F (T := T) (n := n) (p := p) (H := H) (l := 0) (F := qh8 T n) (fun x => rfl) rfl
  generalize hs1 : gCom T n H 0 p = s1 at *
  obtain ⟨u2, e2, M2, f2⟩ := ms_part M1 wm_1 (lo := 3) (hi := 8) (by omega) (by omega) (by omega) (by omega)
  obtain ⟨u3, e3, M3, f3⟩ := ms_part M2 wm_2 (lo := 2) (hi := 6) (by omega) (by omega) (by omega) (by omega)
  obtain ⟨u4, e4, M4, f4⟩ := ms_needs M3 wm_3
  have M4 : MS u4 T n h H (qh5 T n s1) := M4
  have g5 : ∃ u5, rn 186 (45, [(0, jvr 238), (1, .inl (pV T n 3 8 (qh1 T n s1))), (2, .inl (pV T n 2 6 (qh3 T n s1)))], [], u4) = rn 186 (74, [(0, jvr 238), (1, .inl (pV T n 3 8 (qh1 T n s1))), (2, .inl (pV T n 2 6 (qh3 T n s1))), (3, .inl (if pI T n (cs wRo) (qh5 T n s1) = 1 then 1 else 0))], [], u5) ∧ MS u5 T n h H (qh6 T n s1) ∧ Ftk u4 u5 := by
    generalize pV T n 3 8 (qh1 T n s1) = W
    generalize pV T n 2 6 (qh3 T n s1) = V
    have e6 : qh6 T n s1 = pO T n (cs wRo) (qh5 T n s1) := rfl
    rw [e6, po_g]
    generalize qh5 T n s1 = s at *
    have a := M4.a
    have er := ms_isWord M4 wm_17
    have et := ms_isWord M4 wm_18
    have eI : pI T n (cs wRo) s = if gIs T n s (cD (gS2 "through")) = true then 0 else if gIs T n s (cD (gS2 "round")) = true then 1 else -1 := (pi_ws _).trans ws_2
    have gf := ms_gf M4 (b := 0 ≤ pI T n (cs wRo) s) (fun z p e => by
      subst e
      have := pi_k z
      omega) 1
    rw [p186_45]
    by_cases zr : gIs T n s (cD (gS2 "round")) = true
    · rw [if_pos zr] at er
      rw [if_neg (is_ne (fun x => cd_tr x.symm) zr), if_pos zr] at eI
      obtain ⟨u, e, M2, f⟩ := gf.1 (by omega)
      rw [if_pos eI]
      refine ⟨u, ?_, M2, f⟩
      simp (disch := omega) only [p186_0, p186_1, p186_4, p186_7, p186_10, p186_11, p186_12, p186_15, p186_16, p186_20, p186_22, p186_23, p186_25, p186_28, p186_29, p186_30, p186_32, p186_33, p186_35, p186_38, p186_39, p186_40, p186_42, p186_46, p186_48, p186_51, p186_52, p186_53, p186_56, p186_57, p186_59, p186_62, p186_65, p186_66, p186_67, p186_70, p186_71, p186_75, p186_78, p186_81, p186_82, p186_85, p186_88, p186_90, p186_92, p186_95, p186_96, p186_99, p186_102, p186_105, p186_106, p186_107, p186_110, p186_111, p186_114, p186_115, p186_118, p186_119, p186_122, p186_123, p186_124, p186_127, p186_128, p186_131, p186_132, p186_135, p186_136, p186_139, p186_140, p186_143, p186_144, p186_147, p186_148, p186_151, p186_153, p186_156, jwd_c, jwd_0, Nat.reduceLeDiff, Nat.reduceEqDiff, Nat.reduceAdd, Nat.reduceSub, Nat.reduceMul, Int.reduceAdd, Int.reduceSub, Int.reduceMul, Int.reduceNeg, Int.reduceEq, Int.reduceLT, Int.reduceLE, jq_ldi_i, jq_ldl_l, jq_lda_a, jq_inc_i, jq_gs_t, jq_gsb_t, jq_gb_t, jq_gr_2, jq_gr_4, jq_gw_2, jq_s_t, jq_b_t, jg_c, jg_n, js_c, js_n, jrm_c, jrm_n, j2_i, j2_l, j2_a, jq_c_i, jq_c_l, jq_c_0, jq_c_n, jwd_le, jw_c0, mS_I, mS_R, mS_J, mN_I, mN_R, mN_J, mR_I, mI_R, mJ_I, mJ_R, mI_J, mR_J, ↓reduceIte, decide_true, or_true, true_or, and_self, false_or, or_false, reduceCtorEq, Bool.false_eq_true, and_false, false_and, eq_self, true_and, and_true, zero_ne, ↓br_lt_t, ↓br_lt_f, ↓br_eq_t, ↓br_eq_f, ↓br_lz_t, ↓br_lz_f, ↓br_ez_t, ↓br_ez_f, ↓br_gz_t, ↓br_gz_f, jw_id, jin_t, jix_t, ↓ite_t, ↓ite_f, a, er, e]
    · rw [if_neg zr] at er eI
      by_cases zt : gIs T n s (cD (gS2 "through")) = true
      · rw [if_pos zt] at et eI
        obtain ⟨u, e, M2, f⟩ := gf.1 (by omega)
        rw [if_neg (by omega)]
        refine ⟨u, ?_, M2, f⟩
        simp (disch := omega) only [p186_0, p186_1, p186_4, p186_7, p186_10, p186_11, p186_12, p186_15, p186_16, p186_20, p186_22, p186_23, p186_25, p186_28, p186_29, p186_30, p186_32, p186_33, p186_35, p186_38, p186_39, p186_40, p186_42, p186_46, p186_48, p186_51, p186_52, p186_53, p186_56, p186_57, p186_59, p186_62, p186_65, p186_66, p186_67, p186_70, p186_71, p186_75, p186_78, p186_81, p186_82, p186_85, p186_88, p186_90, p186_92, p186_95, p186_96, p186_99, p186_102, p186_105, p186_106, p186_107, p186_110, p186_111, p186_114, p186_115, p186_118, p186_119, p186_122, p186_123, p186_124, p186_127, p186_128, p186_131, p186_132, p186_135, p186_136, p186_139, p186_140, p186_143, p186_144, p186_147, p186_148, p186_151, p186_153, p186_156, jwd_c, jwd_0, Nat.reduceLeDiff, Nat.reduceEqDiff, Nat.reduceAdd, Nat.reduceSub, Nat.reduceMul, Int.reduceAdd, Int.reduceSub, Int.reduceMul, Int.reduceNeg, Int.reduceEq, Int.reduceLT, Int.reduceLE, jq_ldi_i, jq_ldl_l, jq_lda_a, jq_inc_i, jq_gs_t, jq_gsb_t, jq_gb_t, jq_gr_2, jq_gr_4, jq_gw_2, jq_s_t, jq_b_t, jg_c, jg_n, js_c, js_n, jrm_c, jrm_n, j2_i, j2_l, j2_a, jq_c_i, jq_c_l, jq_c_0, jq_c_n, jwd_le, jw_c0, mS_I, mS_R, mS_J, mN_I, mN_R, mN_J, mR_I, mI_R, mJ_I, mJ_R, mI_J, mR_J, ↓reduceIte, decide_true, or_true, true_or, and_self, false_or, or_false, reduceCtorEq, Bool.false_eq_true, and_false, false_and, eq_self, true_and, and_true, zero_ne, ↓br_lt_t, ↓br_lt_f, ↓br_eq_t, ↓br_eq_f, ↓br_lz_t, ↓br_lz_f, ↓br_ez_t, ↓br_ez_f, ↓br_gz_t, ↓br_gz_f, jw_id, jin_t, jix_t, ↓ite_t, ↓ite_f, a, er, et, e]
      · rw [if_neg zt] at et eI
        obtain ⟨v, u, e5, q, e6, M2, f⟩ := gf.2 (by omega)
        have av : mS v 238 = (1, 9, 0) := by rw [q]; exact a
        rw [if_neg (c := pI T n (cs wRo) s = 1) (by omega)]
        refine ⟨u, ?_, M2, f⟩
        simp (disch := omega) only [p186_0, p186_1, p186_4, p186_7, p186_10, p186_11, p186_12, p186_15, p186_16, p186_20, p186_22, p186_23, p186_25, p186_28, p186_29, p186_30, p186_32, p186_33, p186_35, p186_38, p186_39, p186_40, p186_42, p186_46, p186_48, p186_51, p186_52, p186_53, p186_56, p186_57, p186_59, p186_62, p186_65, p186_66, p186_67, p186_70, p186_71, p186_75, p186_78, p186_81, p186_82, p186_85, p186_88, p186_90, p186_92, p186_95, p186_96, p186_99, p186_102, p186_105, p186_106, p186_107, p186_110, p186_111, p186_114, p186_115, p186_118, p186_119, p186_122, p186_123, p186_124, p186_127, p186_128, p186_131, p186_132, p186_135, p186_136, p186_139, p186_140, p186_143, p186_144, p186_147, p186_148, p186_151, p186_153, p186_156, jwd_c, jwd_0, Nat.reduceLeDiff, Nat.reduceEqDiff, Nat.reduceAdd, Nat.reduceSub, Nat.reduceMul, Int.reduceAdd, Int.reduceSub, Int.reduceMul, Int.reduceNeg, Int.reduceEq, Int.reduceLT, Int.reduceLE, jq_ldi_i, jq_ldl_l, jq_lda_a, jq_inc_i, jq_gs_t, jq_gsb_t, jq_gb_t, jq_gr_2, jq_gr_4, jq_gw_2, jq_s_t, jq_b_t, jg_c, jg_n, js_c, js_n, jrm_c, jrm_n, j2_i, j2_l, j2_a, jq_c_i, jq_c_l, jq_c_0, jq_c_n, jwd_le, jw_c0, mS_I, mS_R, mS_J, mN_I, mN_R, mN_J, mR_I, mI_R, mJ_I, mJ_R, mI_J, mR_J, ↓reduceIte, decide_true, or_true, true_or, and_self, false_or, or_false, reduceCtorEq, Bool.false_eq_true, and_false, false_and, eq_self, true_and, and_true, zero_ne, ↓br_lt_t, ↓br_lt_f, ↓br_eq_t, ↓br_eq_f, ↓br_lz_t, ↓br_lz_f, ↓br_ez_t, ↓br_ez_f, ↓br_gz_t, ↓br_gz_f, jw_id, jin_t, jix_t, ↓ite_t, ↓ite_f, a, er, et, e5, av, e6]
  obtain ⟨u5, e5, M5, f5⟩ := g5
  obtain ⟨u6, e6, M6, f6⟩ := ms_needs M5 wm_5
  have M6 : MS u6 T n h H (qh7 T n s1) := M6
  have g7 : ∀ rr : Int, ∃ u7, rn 186 (81, [(0, jvr 238), (1, .inl (pV T n 3 8 (qh1 T n s1))), (2, .inl (pV T n 2 6 (qh3 T n s1))), (3, .inl rr)], [], u6) = rn 186 (114, [(0, jvr 238), (1, .inl (pV T n 3 8 (qh1 T n s1))), (2, .inl (pV T n 2 6 (qh3 T n s1))), (3, .inl rr), (4, .inl (if pI T n (cs wBe) (qh7 T n s1) = 1 then 1 else 0))], [], u7) ∧ MS u7 T n h H (qh8 T n s1) ∧ Ftk u6 u7 := by
    intro rr
    generalize pV T n 3 8 (qh1 T n s1) = W
    generalize pV T n 2 6 (qh3 T n s1) = V
    have e6 : qh8 T n s1 = pO T n (cs wBe) (qh7 T n s1) := rfl
    rw [e6, po_g]
    generalize qh7 T n s1 = s at *
    have a := M6.a
    have er := ms_isWord M6 wm_19
    have et := ms_isWord M6 wm_20
    have eI : pI T n (cs wBe) s = if gIs T n s (cD (gS2 "end")) = true then 0 else if gIs T n s (cD (gS2 "behind")) = true then 1 else -1 := (pi_ws _).trans ws_2
    have gf := ms_gf M6 (b := 0 ≤ pI T n (cs wBe) s) (fun z p e => by
      subst e
      have := pi_k z
      omega) 1
    rw [p186_81]
    by_cases zr : gIs T n s (cD (gS2 "behind")) = true
    · rw [if_pos zr] at er
      rw [if_neg (is_ne (fun x => cd_eb x.symm) zr), if_pos zr] at eI
      obtain ⟨u, e, M2, f⟩ := gf.1 (by omega)
      rw [if_pos eI]
      refine ⟨u, ?_, M2, f⟩
      simp (disch := omega) only [p186_0, p186_1, p186_4, p186_7, p186_10, p186_11, p186_12, p186_15, p186_16, p186_20, p186_22, p186_23, p186_25, p186_28, p186_29, p186_30, p186_32, p186_33, p186_35, p186_38, p186_39, p186_40, p186_42, p186_46, p186_48, p186_51, p186_52, p186_53, p186_56, p186_57, p186_59, p186_62, p186_65, p186_66, p186_67, p186_70, p186_71, p186_75, p186_78, p186_82, p186_85, p186_88, p186_90, p186_92, p186_95, p186_96, p186_99, p186_102, p186_105, p186_106, p186_107, p186_110, p186_111, p186_115, p186_118, p186_119, p186_122, p186_123, p186_124, p186_127, p186_128, p186_131, p186_132, p186_135, p186_136, p186_139, p186_140, p186_143, p186_144, p186_147, p186_148, p186_151, p186_153, p186_156, jwd_c, jwd_0, Nat.reduceLeDiff, Nat.reduceEqDiff, Nat.reduceAdd, Nat.reduceSub, Nat.reduceMul, Int.reduceAdd, Int.reduceSub, Int.reduceMul, Int.reduceNeg, Int.reduceEq, Int.reduceLT, Int.reduceLE, jq_ldi_i, jq_ldl_l, jq_lda_a, jq_inc_i, jq_gs_t, jq_gsb_t, jq_gb_t, jq_gr_2, jq_gr_4, jq_gw_2, jq_s_t, jq_b_t, jg_c, jg_n, js_c, js_n, jrm_c, jrm_n, j2_i, j2_l, j2_a, jq_c_i, jq_c_l, jq_c_0, jq_c_n, jwd_le, jw_c0, mS_I, mS_R, mS_J, mN_I, mN_R, mN_J, mR_I, mI_R, mJ_I, mJ_R, mI_J, mR_J, ↓reduceIte, decide_true, or_true, true_or, and_self, false_or, or_false, reduceCtorEq, Bool.false_eq_true, and_false, false_and, eq_self, true_and, and_true, zero_ne, ↓br_lt_t, ↓br_lt_f, ↓br_eq_t, ↓br_eq_f, ↓br_lz_t, ↓br_lz_f, ↓br_ez_t, ↓br_ez_f, ↓br_gz_t, ↓br_gz_f, jw_id, jin_t, jix_t, ↓ite_t, ↓ite_f, a, er, e]
    · rw [if_neg zr] at er eI
      by_cases zt : gIs T n s (cD (gS2 "end")) = true
      · rw [if_pos zt] at et eI
        obtain ⟨u, e, M2, f⟩ := gf.1 (by omega)
        rw [if_neg (by omega)]
        refine ⟨u, ?_, M2, f⟩
        simp (disch := omega) only [p186_0, p186_1, p186_4, p186_7, p186_10, p186_11, p186_12, p186_15, p186_16, p186_20, p186_22, p186_23, p186_25, p186_28, p186_29, p186_30, p186_32, p186_33, p186_35, p186_38, p186_39, p186_40, p186_42, p186_46, p186_48, p186_51, p186_52, p186_53, p186_56, p186_57, p186_59, p186_62, p186_65, p186_66, p186_67, p186_70, p186_71, p186_75, p186_78, p186_82, p186_85, p186_88, p186_90, p186_92, p186_95, p186_96, p186_99, p186_102, p186_105, p186_106, p186_107, p186_110, p186_111, p186_115, p186_118, p186_119, p186_122, p186_123, p186_124, p186_127, p186_128, p186_131, p186_132, p186_135, p186_136, p186_139, p186_140, p186_143, p186_144, p186_147, p186_148, p186_151, p186_153, p186_156, jwd_c, jwd_0, Nat.reduceLeDiff, Nat.reduceEqDiff, Nat.reduceAdd, Nat.reduceSub, Nat.reduceMul, Int.reduceAdd, Int.reduceSub, Int.reduceMul, Int.reduceNeg, Int.reduceEq, Int.reduceLT, Int.reduceLE, jq_ldi_i, jq_ldl_l, jq_lda_a, jq_inc_i, jq_gs_t, jq_gsb_t, jq_gb_t, jq_gr_2, jq_gr_4, jq_gw_2, jq_s_t, jq_b_t, jg_c, jg_n, js_c, js_n, jrm_c, jrm_n, j2_i, j2_l, j2_a, jq_c_i, jq_c_l, jq_c_0, jq_c_n, jwd_le, jw_c0, mS_I, mS_R, mS_J, mN_I, mN_R, mN_J, mR_I, mI_R, mJ_I, mJ_R, mI_J, mR_J, ↓reduceIte, decide_true, or_true, true_or, and_self, false_or, or_false, reduceCtorEq, Bool.false_eq_true, and_false, false_and, eq_self, true_and, and_true, zero_ne, ↓br_lt_t, ↓br_lt_f, ↓br_eq_t, ↓br_eq_f, ↓br_lz_t, ↓br_lz_f, ↓br_ez_t, ↓br_ez_f, ↓br_gz_t, ↓br_gz_f, jw_id, jin_t, jix_t, ↓ite_t, ↓ite_f, a, er, et, e]
      · rw [if_neg zt] at et eI
        obtain ⟨v, u, e5, q, e6, M2, f⟩ := gf.2 (by omega)
        have av : mS v 238 = (1, 9, 0) := by rw [q]; exact a
        rw [if_neg (c := pI T n (cs wBe) s = 1) (by omega)]
        refine ⟨u, ?_, M2, f⟩
        simp (disch := omega) only [p186_0, p186_1, p186_4, p186_7, p186_10, p186_11, p186_12, p186_15, p186_16, p186_20, p186_22, p186_23, p186_25, p186_28, p186_29, p186_30, p186_32, p186_33, p186_35, p186_38, p186_39, p186_40, p186_42, p186_46, p186_48, p186_51, p186_52, p186_53, p186_56, p186_57, p186_59, p186_62, p186_65, p186_66, p186_67, p186_70, p186_71, p186_75, p186_78, p186_82, p186_85, p186_88, p186_90, p186_92, p186_95, p186_96, p186_99, p186_102, p186_105, p186_106, p186_107, p186_110, p186_111, p186_115, p186_118, p186_119, p186_122, p186_123, p186_124, p186_127, p186_128, p186_131, p186_132, p186_135, p186_136, p186_139, p186_140, p186_143, p186_144, p186_147, p186_148, p186_151, p186_153, p186_156, jwd_c, jwd_0, Nat.reduceLeDiff, Nat.reduceEqDiff, Nat.reduceAdd, Nat.reduceSub, Nat.reduceMul, Int.reduceAdd, Int.reduceSub, Int.reduceMul, Int.reduceNeg, Int.reduceEq, Int.reduceLT, Int.reduceLE, jq_ldi_i, jq_ldl_l, jq_lda_a, jq_inc_i, jq_gs_t, jq_gsb_t, jq_gb_t, jq_gr_2, jq_gr_4, jq_gw_2, jq_s_t, jq_b_t, jg_c, jg_n, js_c, js_n, jrm_c, jrm_n, j2_i, j2_l, j2_a, jq_c_i, jq_c_l, jq_c_0, jq_c_n, jwd_le, jw_c0, mS_I, mS_R, mS_J, mN_I, mN_R, mN_J, mR_I, mI_R, mJ_I, mJ_R, mI_J, mR_J, ↓reduceIte, decide_true, or_true, true_or, and_self, false_or, or_false, reduceCtorEq, Bool.false_eq_true, and_false, false_and, eq_self, true_and, and_true, zero_ne, ↓br_lt_t, ↓br_lt_f, ↓br_eq_t, ↓br_eq_f, ↓br_lz_t, ↓br_lz_f, ↓br_ez_t, ↓br_ez_f, ↓br_gz_t, ↓br_gz_f, jw_id, jin_t, jix_t, ↓ite_t, ↓ite_f, a, er, et, e5, av, e6]
  obtain ⟨u7, e7, M7, f7⟩ := g7 (if pI T n (cs wRo) (qh5 T n s1) = 1 then 1 else 0)
  have x2 : rn 186 (19, [(0, jvr 238)], [], u1) = rn 186 (45, [(0, jvr 238), (1, .inl (pV T n 3 8 (qh1 T n s1))), (2, .inl (pV T n 2 6 (qh3 T n s1)))], [], u4) := by
    have e2 : rn 188 (0, [(0, jvr 238), (1, jvr 3), (2, .inl 3), (3, .inl 8)], [], u1) = some (some (.inl (pV T n 3 8 (qh1 T n s1))), u2) := e2
    have e3 : rn 188 (0, [(0, jvr 238), (1, jvr 4), (2, .inl 2), (3, .inl 6)], [], u2) = some (some (.inl (pV T n 2 6 (qh3 T n s1))), u3) := e3
    have e4 : rn 189 (0, [(0, jvr 238), (1, jvr 5)], [], u3) = some (none, u4) := e4
    rw [p186_19]
    simp (disch := omega) only [p186_0, p186_1, p186_4, p186_7, p186_10, p186_11, p186_12, p186_15, p186_16, p186_20, p186_22, p186_23, p186_25, p186_28, p186_29, p186_30, p186_32, p186_33, p186_35, p186_38, p186_39, p186_40, p186_42, p186_46, p186_48, p186_51, p186_52, p186_53, p186_56, p186_57, p186_59, p186_62, p186_65, p186_66, p186_67, p186_70, p186_71, p186_75, p186_78, p186_82, p186_85, p186_88, p186_90, p186_92, p186_95, p186_96, p186_99, p186_102, p186_105, p186_106, p186_107, p186_110, p186_111, p186_115, p186_118, p186_119, p186_122, p186_123, p186_124, p186_127, p186_128, p186_131, p186_132, p186_135, p186_136, p186_139, p186_140, p186_143, p186_144, p186_147, p186_148, p186_151, p186_153, p186_156, jwd_c, jwd_0, Nat.reduceLeDiff, Nat.reduceEqDiff, Nat.reduceAdd, Nat.reduceSub, Nat.reduceMul, Int.reduceAdd, Int.reduceSub, Int.reduceMul, Int.reduceNeg, Int.reduceEq, Int.reduceLT, Int.reduceLE, jq_ldi_i, jq_ldl_l, jq_lda_a, jq_inc_i, jq_gs_t, jq_gsb_t, jq_gb_t, jq_gr_2, jq_gr_4, jq_gw_2, jq_s_t, jq_b_t, jg_c, jg_n, js_c, js_n, jrm_c, jrm_n, j2_i, j2_l, j2_a, jq_c_i, jq_c_l, jq_c_0, jq_c_n, jwd_le, jw_c0, mS_I, mS_R, mS_J, mN_I, mN_R, mN_J, mR_I, mI_R, mJ_I, mJ_R, mI_J, mR_J, ↓reduceIte, decide_true, or_true, true_or, and_self, false_or, or_false, reduceCtorEq, Bool.false_eq_true, and_false, false_and, eq_self, true_and, and_true, zero_ne, ↓br_lt_t, ↓br_lt_f, ↓br_eq_t, ↓br_eq_f, ↓br_lz_t, ↓br_lz_f, ↓br_ez_t, ↓br_ez_f, ↓br_gz_t, ↓br_gz_f, jw_id, jin_t, jix_t, ↓ite_t, ↓ite_f, MS.a M1, MS.r4 M1, MS.b M1, MS.f0 M1, MS.f1 M1, MS.f2 M1, MS.f3 M1, MS.f4 M1, MS.f5 M1, MS.f6 M1, MS.f7 M1, MS.f8 M1, MS.f10 M1, MS.f12 M1, MS.f13 M1, MS.a M2, MS.r4 M2, MS.b M2, MS.f0 M2, MS.f1 M2, MS.f2 M2, MS.f3 M2, MS.f4 M2, MS.f5 M2, MS.f6 M2, MS.f7 M2, MS.f8 M2, MS.f10 M2, MS.f12 M2, MS.f13 M2, MS.a M3, MS.r4 M3, MS.b M3, MS.f0 M3, MS.f1 M3, MS.f2 M3, MS.f3 M3, MS.f4 M3, MS.f5 M3, MS.f6 M3, MS.f7 M3, MS.f8 M3, MS.f10 M3, MS.f12 M3, MS.f13 M3, MS.a M4, MS.r4 M4, MS.b M4, MS.f0 M4, MS.f1 M4, MS.f2 M4, MS.f3 M4, MS.f4 M4, MS.f5 M4, MS.f6 M4, MS.f7 M4, MS.f8 M4, MS.f10 M4, MS.f12 M4, MS.f13 M4, e2, e3, e4]
  have x6 : ∀ lv : jmL, jg lv 0 = some (jvr 238) → rn 186 (74, lv, [], u5) = rn 186 (81, lv, [], u6) := by
    intro lv hl
    have e6 : rn 189 (0, [(0, jvr 238), (1, jvr 7)], [], u5) = some (none, u6) := e6
    rw [p186_74]
    simp (disch := omega) only [p186_0, p186_1, p186_4, p186_7, p186_10, p186_11, p186_12, p186_15, p186_16, p186_20, p186_22, p186_23, p186_25, p186_28, p186_29, p186_30, p186_32, p186_33, p186_35, p186_38, p186_39, p186_40, p186_42, p186_46, p186_48, p186_51, p186_52, p186_53, p186_56, p186_57, p186_59, p186_62, p186_65, p186_66, p186_67, p186_70, p186_71, p186_75, p186_78, p186_82, p186_85, p186_88, p186_90, p186_92, p186_95, p186_96, p186_99, p186_102, p186_105, p186_106, p186_107, p186_110, p186_111, p186_115, p186_118, p186_119, p186_122, p186_123, p186_124, p186_127, p186_128, p186_131, p186_132, p186_135, p186_136, p186_139, p186_140, p186_143, p186_144, p186_147, p186_148, p186_151, p186_153, p186_156, jwd_c, jwd_0, Nat.reduceLeDiff, Nat.reduceEqDiff, Nat.reduceAdd, Nat.reduceSub, Nat.reduceMul, Int.reduceAdd, Int.reduceSub, Int.reduceMul, Int.reduceNeg, Int.reduceEq, Int.reduceLT, Int.reduceLE, jq_ldi_i, jq_ldl_l, jq_lda_a, jq_inc_i, jq_gs_t, jq_gsb_t, jq_gb_t, jq_gr_2, jq_gr_4, jq_gw_2, jq_s_t, jq_b_t, jg_c, jg_n, js_c, js_n, jrm_c, jrm_n, j2_i, j2_l, j2_a, jq_c_i, jq_c_l, jq_c_0, jq_c_n, jwd_le, jw_c0, mS_I, mS_R, mS_J, mN_I, mN_R, mN_J, mR_I, mI_R, mJ_I, mJ_R, mI_J, mR_J, ↓reduceIte, decide_true, or_true, true_or, and_self, false_or, or_false, reduceCtorEq, Bool.false_eq_true, and_false, false_and, eq_self, true_and, and_true, zero_ne, ↓br_lt_t, ↓br_lt_f, ↓br_eq_t, ↓br_eq_f, ↓br_lz_t, ↓br_lz_f, ↓br_ez_t, ↓br_ez_f, ↓br_gz_t, ↓br_gz_f, jw_id, jin_t, jix_t, ↓ite_t, ↓ite_f, MS.a M5, MS.r4 M5, MS.b M5, MS.f0 M5, MS.f1 M5, MS.f2 M5, MS.f3 M5, MS.f4 M5, MS.f5 M5, MS.f6 M5, MS.f7 M5, MS.f8 M5, MS.f10 M5, MS.f12 M5, MS.f13 M5, hl, e6]
  have F7 := (((((f1.tr f2).tr f3).tr f4).tr f5).tr f6).tr f7
  obtain ⟨v9, h9, b1, b2, b3⟩ := M7.n9
  obtain ⟨fin1, fin2⟩ := fin
  rw [e1, x2, e5, x6 _ rfl, e7, p186_114]
  cases hs : qh8 T n s1 with
  | inr x =>
    rw [hs, bl_r] at b3
    rw [hs] at M7
    refine ⟨u7, ?_, F7.ln, Or.inr ⟨x, H, fin2 x hs, M7, hi.hn⟩⟩
    simp (disch := omega) only [p186_0, p186_1, p186_4, p186_7, p186_10, p186_11, p186_12, p186_15, p186_16, p186_20, p186_22, p186_23, p186_25, p186_28, p186_29, p186_30, p186_32, p186_33, p186_35, p186_38, p186_39, p186_40, p186_42, p186_46, p186_48, p186_51, p186_52, p186_53, p186_56, p186_57, p186_59, p186_62, p186_65, p186_66, p186_67, p186_70, p186_71, p186_75, p186_78, p186_82, p186_85, p186_88, p186_90, p186_92, p186_95, p186_96, p186_99, p186_102, p186_105, p186_106, p186_107, p186_110, p186_111, p186_115, p186_118, p186_119, p186_122, p186_123, p186_124, p186_127, p186_128, p186_131, p186_132, p186_135, p186_136, p186_139, p186_140, p186_143, p186_144, p186_147, p186_148, p186_151, p186_153, p186_156, jwd_c, jwd_0, Nat.reduceLeDiff, Nat.reduceEqDiff, Nat.reduceAdd, Nat.reduceSub, Nat.reduceMul, Int.reduceAdd, Int.reduceSub, Int.reduceMul, Int.reduceNeg, Int.reduceEq, Int.reduceLT, Int.reduceLE, jq_ldi_i, jq_ldl_l, jq_lda_a, jq_inc_i, jq_gs_t, jq_gsb_t, jq_gb_t, jq_gr_2, jq_gr_4, jq_gw_2, jq_s_t, jq_b_t, jg_c, jg_n, js_c, js_n, jrm_c, jrm_n, j2_i, j2_l, j2_a, jq_c_i, jq_c_l, jq_c_0, jq_c_n, jwd_le, jw_c0, mS_I, mS_R, mS_J, mN_I, mN_R, mN_J, mR_I, mI_R, mJ_I, mJ_R, mI_J, mR_J, ↓reduceIte, decide_true, or_true, true_or, and_self, false_or, or_false, reduceCtorEq, Bool.false_eq_true, and_false, false_and, eq_self, true_and, and_true, zero_ne, ↓br_lt_t, ↓br_lt_f, ↓br_eq_t, ↓br_eq_f, ↓br_lz_t, ↓br_lz_f, ↓br_ez_t, ↓br_ez_f, ↓br_gz_t, ↓br_gz_f, jw_id, jin_t, jix_t, ↓ite_t, ↓ite_f, MS.a M7, MS.r4 M7, MS.b M7, MS.f0 M7, MS.f1 M7, MS.f2 M7, MS.f3 M7, MS.f4 M7, MS.f5 M7, MS.f6 M7, MS.f7 M7, MS.f8 M7, MS.f10 M7, MS.f12 M7, MS.f13 M7, h9]
  | inl q =>
    rw [hs, bl_l] at b3
    rw [hs] at M7
    obtain ⟨z1, z2, z3⟩ := fin1 q hs
    have z4 := fo_0 hi z1
    have eR : (if pI T n (cs wRo) (qh5 T n s1) = 1 then (1 : Int) else 0) = 0 ∨ (if pI T n (cs wRo) (qh5 T n s1) = 1 then (1 : Int) else 0) = 1 := by split <;> omega
    have eB : (if pI T n (cs wBe) (qh7 T n s1) = 1 then (1 : Int) else 0) = 0 ∨ (if pI T n (cs wBe) (qh7 T n s1) = 1 then (1 : Int) else 0) = 1 := by split <;> omega
    have eH : (gRd T n H 0 (tE T n p)).2 = uH (uH (uH (uH (uH H 0 15 (if pI T n (cs wRo) (qh5 T n s1) = 1 then 1 else 0)) 0 16 (if pI T n (cs wBe) (qh7 T n s1) = 1 then 1 else 0)) 0 0 (pV T n 3 8 (qh1 T n s1))) 0 1 (pV T n 2 6 (qh3 T n s1))) 1 0 (pV T n 3 8 (qh1 T n s1) * pV T n 2 6 (qh3 T n s1)) := by
      rw [z3]
      rfl
    generalize (if pI T n (cs wRo) (qh5 T n s1) = 1 then (1 : Int) else 0) = R at *
    generalize (if pI T n (cs wBe) (qh7 T n s1) = 1 then (1 : Int) else 0) = B at *
    generalize pV T n 3 8 (qh1 T n s1) = W at *
    generalize pV T n 2 6 (qh3 T n s1) = V at *
    have M8 := (((M7.num (k := 0) (x := W)).num (k := 1) (x := V)).num (k := 15) (x := R)).num (k := 16) (x := B)
    have eq : (gRd T n H 0 (tE T n p)).2 = uH (uH (uH (uH (uH H 0 0 W) 0 1 V) 0 15 R) 0 16 B) 1 0 (W * V) := by
      rw [eH, uH_sw (i := 0) (j := 0) (k := 0) (l := 1) (by omega), uH_sw (i := 0) (j := 16) (k := 0) (l := 1) (by omega), uH_sw (i := 0) (j := 15) (k := 0) (l := 1) (by omega), uH_sw (i := 0) (j := 16) (k := 0) (l := 0) (by omega), uH_sw (i := 0) (j := 15) (k := 0) (l := 0) (by omega), uH_sw (i := 0) (j := 1) (k := 0) (l := 0) (by omega)]
    refine ⟨_, ?_, F7.ln.tr ((((Fln.hal (b := h) (k := 0) (x := W) (by omega) hge).tr (Fln.hal (b := h) (k := 1) (x := V) (by omega) hge)).tr (Fln.hal (b := h) (k := 15) (x := R) (by omega) hge)).tr (Fln.hal (b := h) (k := 16) (x := B) (by omega) hge)), Or.inl ⟨q, z1, z2, ?_⟩⟩
    · have d1 : decide (R = 0 ∨ R = 1) = true := decide_eq_true eR
      have d2 : decide (B = 0 ∨ B = 1) = true := decide_eq_true eB
      simp (disch := omega) only [p186_0, p186_1, p186_4, p186_7, p186_10, p186_11, p186_12, p186_15, p186_16, p186_20, p186_22, p186_23, p186_25, p186_28, p186_29, p186_30, p186_32, p186_33, p186_35, p186_38, p186_39, p186_40, p186_42, p186_46, p186_48, p186_51, p186_52, p186_53, p186_56, p186_57, p186_59, p186_62, p186_65, p186_66, p186_67, p186_70, p186_71, p186_75, p186_78, p186_82, p186_85, p186_88, p186_90, p186_92, p186_95, p186_96, p186_99, p186_102, p186_105, p186_106, p186_107, p186_110, p186_111, p186_115, p186_118, p186_119, p186_122, p186_123, p186_124, p186_127, p186_128, p186_131, p186_132, p186_135, p186_136, p186_139, p186_140, p186_143, p186_144, p186_147, p186_148, p186_151, p186_153, p186_156, jwd_c, jwd_0, Nat.reduceLeDiff, Nat.reduceEqDiff, Nat.reduceAdd, Nat.reduceSub, Nat.reduceMul, Int.reduceAdd, Int.reduceSub, Int.reduceMul, Int.reduceNeg, Int.reduceEq, Int.reduceLT, Int.reduceLE, jq_ldi_i, jq_ldl_l, jq_lda_a, jq_inc_i, jq_gs_t, jq_gsb_t, jq_gb_t, jq_gr_2, jq_gr_4, jq_gw_2, jq_s_t, jq_b_t, jg_c, jg_n, js_c, js_n, jrm_c, jrm_n, j2_i, j2_l, j2_a, jq_c_i, jq_c_l, jq_c_0, jq_c_n, jwd_le, jw_c0, mS_I, mS_R, mS_J, mN_I, mN_R, mN_J, mR_I, mI_R, mJ_I, mJ_R, mI_J, mR_J, ↓reduceIte, decide_true, or_true, true_or, and_self, false_or, or_false, reduceCtorEq, Bool.false_eq_true, and_false, false_and, eq_self, true_and, and_true, zero_ne, ↓br_lt_t, ↓br_lt_f, ↓br_eq_t, ↓br_eq_f, ↓br_lz_t, ↓br_lz_f, ↓br_ez_t, ↓br_ez_f, ↓br_gz_t, ↓br_gz_f, jw_id, jin_t, jix_t, ↓ite_t, ↓ite_f, MS.a M7, MS.r4 M7, MS.b M7, MS.f0 M7, MS.f1 M7, MS.f2 M7, MS.f3 M7, MS.f4 M7, MS.f5 M7, MS.f6 M7, MS.f7 M7, MS.f8 M7, MS.f10 M7, MS.f12 M7, MS.f13 M7, h9, d1, d2]
    · rw [eq]
      exact M8.ex (fun a b z => uH_n (by omega))
end MLINE
