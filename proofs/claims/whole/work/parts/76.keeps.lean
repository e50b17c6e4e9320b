/-! The model: rows kept, acts. -/
/-- the model with a HALL, whole -/
def mX (w : jmW) (h : Nat) (H : Nat → Nat → Int) (s : gSt) : Prop := MQh w h H ∧ mI w 241 = s.1 ∧ (mI w 238 22 = s.2.1 ∧ s.2.1 ≤ 10 ∧ ∀ i k, i < s.2.1 → k < 298 → mI w 243 (298 * i + k) = s.2.2.1 i k) ∧ (mI w 238 23 = s.2.2.2.1 ∧ s.2.2.2.1 ≤ 3 ∧ ∀ i k, i < s.2.2.2.1 → k < 298 → mI w 244 (298 * i + k) = s.2.2.2.2 i k)
def qN (w u : jmW) (h : Nat) (H : Nat → Nat → Int) (s : gSt) (tr : Int) : Prop := mX u h H s ∧ Fr (fun b => b = 238 ∨ (241 ≤ b ∧ b ≤ 251)) w u ∧ mR u = mR w ∧ (∀ k, 3 ≤ k → k < 22 → mI u 238 k = mI w 238 k) ∧ mI u 238 1 = tr ∧ mI u 238 2 = -1
section KEEPS
variable {w u : jmW} {h : Nat} {H : Nat → Nat → Int} {r S q g : Nat → Int} {B : Int} {s : gSt}
theorem qM.qN (hX : mX w h H s) {tr : Int} (hq : qM w u tr) : qN w u h H s tr := by
  obtain ⟨x1, x2, x3, x4⟩ := hX
  obtain ⟨f, q1, q2, q3, q4⟩ := hq
  refine ⟨⟨⟨x1.1.frR f.q q1, x1.2.1.frF f (fun b hb => by omega), by rw [q1]; exact x1.2.2⟩, by rw [f.Iq (by omega)]; exact x2, ?_, ?_⟩, f.mo (fun b hb => by omega), q1, fun k k1 k2 => q2 k k1 (by omega), q3, q4⟩
  · rw [q2 22 (by omega) (by omega), f.Iq (b := 243) (by omega)]
    exact x3
  · rw [q2 23 (by omega) (by omega), f.Iq (b := 244) (by omega)]
    exact x4
theorem mX.z (hX : mX w h H s) : mX (setI w 238 0 0) h H s := by
  obtain ⟨x1, x2, x3, x4⟩ := hX
  exact ⟨x1.z, (mI_nb (by omega)).trans x2, by rw [mI_nk (by omega), mI_nb (by omega)]; exact x3, by rw [mI_nk (by omega), mI_nb (by omega)]; exact x4⟩
theorem mX.no (hX : mX w h H s) {w0 : jmW} (hw0 : setI w 238 0 0 = w0) {tr : Int} : qN w (setI (setI w0 238 1 tr) 238 2 (-1)) h H s tr := qM.qN hX (qM.triv hw0)
/-- numbers pushed along -/
theorem kp_lp1 (hm : MO w) (P : Nat → Int) : ∀ (n : Nat) (i : Int) (q : Nat → Int), 0 ≤ i → i + n = 2682 → (∀ j : Nat, i ≤ j → q j = P j) → rn 295 (11, [(0, jvr 238), (1, .inl i)], [], setA w 243 q) = rn 295 (40, [(0, jvr 238), (1, .inl 2682)], [], setA w 243 (fun k => if i ≤ k ∧ k < 2682 then P (k + 298) else q k)) := by
  intro n
  induction n with
  | zero =>
    intro i q i1 i2 hq
    have e0 : i = 2682 := by omega
    subst e0
    have e : (fun k : Nat => if (2682 : Int) ≤ k ∧ k < 2682 then P (k + 298) else q k) = q := by
      funext k
      rw [if_neg (by omega)]
    rw [e, p295_11]
    simp (disch := omega) only [p295_0, p295_1, p295_4, p295_6, p295_9, p295_10, p295_12, p295_15, p295_18, p295_19, p295_22, p295_23, p295_24, p295_27, p295_28, p295_31, p295_32, p295_33, p295_34, p295_37, p295_41i, p295_41a, p295_42, p295_45, p295_46, p295_47, p295_51, p295_53, p295_56, p295_59, p295_60, p295_63, p295_66, p295_67, p295_70, p295_71, p295_72, p295_73, p295_74, p295_77, p295_78, p295_79, p295_80, p295_83, p295_86, p295_87i, p295_87a, p295_88, p295_91, p295_92, p295_93, p295_96, jwd_c, jwd_0, Nat.reduceLeDiff, Nat.reduceEqDiff, Nat.reduceAdd, Nat.reduceSub, Nat.reduceMul, Int.reduceAdd, Int.reduceSub, Int.reduceMul, Int.reduceNeg, Int.reduceEq, Int.reduceLT, Int.reduceLE, jq_ldi_i, jq_ldl_l, jq_lda_a, jq_inc_i, jq_gs_t, jq_gsb_t, jq_gb_t, jq_gr_2, jq_gr_4, jq_gw_2, jq_s_t, jq_b_t, jg_c, jg_n, js_c, js_n, jrm_c, jrm_n, j2_i, j2_l, j2_a, jq_c_i, jq_c_l, jq_c_0, jq_c_n, jwd_le, jw_c0, mS_I, mS_R, mS_J, mN_I, mN_R, mN_J, mR_I, mI_R, mJ_I, mJ_R, mI_J, mR_J, ↓reduceIte, decide_true, or_true, true_or, and_self, false_or, or_false, reduceCtorEq, Bool.false_eq_true, and_false, false_and, eq_self, true_and, and_true, zero_ne, ↓br_lt_t, ↓br_lt_f, ↓br_eq_t, ↓br_eq_f, ↓br_lz_t, ↓br_lz_f, ↓br_ez_t, ↓br_ez_f, ↓br_gz_t, ↓br_gz_f, jw_id, jin_t, jix_t]
  | succ n ih =>
    intro i q i1 i2 hq
    have qv : q (i + 298).toNat = P (i.toNat + 298) := by
      rw [show (i + 298).toNat = i.toNat + 298 by omega]
      exact hq _ (by omega)
    have e := ih (i + 1) (up1 q i.toNat (P (i.toNat + 298))) (by omega) (by omega) (fun j hj => by rw [up1_n (by omega)]; exact hq j (by omega))
    have e2 : (fun k : Nat => if i + 1 ≤ k ∧ k < 2682 then P (k + 298) else up1 q i.toNat (P (i.toNat + 298)) k) = (fun k : Nat => if i ≤ k ∧ k < 2682 then P (k + 298) else q k) := by
      funext k
      by_cases z : k = i.toNat
      · rw [z, if_neg (by omega), if_pos (by omega), up1_s]
      · rw [up1_n z]
        by_cases y : i ≤ k ∧ k < 2682
        · rw [if_pos y, if_pos (by omega)]
        · rw [if_neg y, if_neg (by omega)]
    rw [e2] at e
    rw [← e, ← qv, p295_11]
    simp (disch := omega) only [p295_0, p295_1, p295_4, p295_6, p295_9, p295_10, p295_12, p295_15, p295_18, p295_19, p295_22, p295_23, p295_24, p295_27, p295_28, p295_31, p295_32, p295_33, p295_34, p295_37, p295_41i, p295_41a, p295_42, p295_45, p295_46, p295_47, p295_51, p295_53, p295_56, p295_59, p295_60, p295_63, p295_66, p295_67, p295_70, p295_71, p295_72, p295_73, p295_74, p295_77, p295_78, p295_79, p295_80, p295_83, p295_86, p295_87i, p295_87a, p295_88, p295_91, p295_92, p295_93, p295_96, jwd_c, jwd_0, Nat.reduceLeDiff, Nat.reduceEqDiff, Nat.reduceAdd, Nat.reduceSub, Nat.reduceMul, Int.reduceAdd, Int.reduceSub, Int.reduceMul, Int.reduceNeg, Int.reduceEq, Int.reduceLT, Int.reduceLE, jq_ldi_i, jq_ldl_l, jq_lda_a, jq_inc_i, jq_gs_t, jq_gsb_t, jq_gb_t, jq_gr_2, jq_gr_4, jq_gw_2, jq_s_t, jq_b_t, jg_c, jg_n, js_c, js_n, jrm_c, jrm_n, j2_i, j2_l, j2_a, jq_c_i, jq_c_l, jq_c_0, jq_c_n, jwd_le, jw_c0, mS_I, mS_R, mS_J, mN_I, mN_R, mN_J, mR_I, mI_R, mJ_I, mJ_R, mI_J, mR_J, ↓reduceIte, decide_true, or_true, true_or, and_self, false_or, or_false, reduceCtorEq, Bool.false_eq_true, and_false, false_and, eq_self, true_and, and_true, zero_ne, ↓br_lt_t, ↓br_lt_f, ↓br_eq_t, ↓br_eq_f, ↓br_lz_t, ↓br_lz_f, ↓br_ez_t, ↓br_ez_f, ↓br_gz_t, ↓br_gz_f, jw_id, jin_t, jix_t, mI_A, mI_nA, up1_s, up1_n, mS_A, mR_A, mJ_A, mN_A, setI_A, setA_A, sw_238, sw_239, sw_240, sw_241, sw_242, sw_243, sw_244, sw_245, sw_246, sw_247, sw_248, sw_249, sw_250, sw_251, Int.reduceToNat, Int.toNat_natCast, MO.s0 hm, MO.s1 hm, MO.s2 hm, MO.s3 hm, MO.s4 hm, MO.s5 hm, MO.s6 hm, MO.s7 hm, MO.s8 hm, MO.s9 hm, MO.s10 hm, MO.s11 hm, MO.s12 hm, MO.s13 hm, MO.r1 hm, MO.r2 hm, MO.r3 hm, MO.r4 hm, MO.r5 hm, MO.r6 hm, MO.r7 hm, MO.r8 hm, MO.r9 hm, MO.r10 hm, MO.r11 hm, MO.r12 hm, MO.r13 hm]
theorem kp_lp2 (hm : MO w) (hr : mI w 241 = r) {a : Int} (ha : mI w 238 22 = a) (a0 : 0 ≤ a) (a9 : a ≤ 9) : ∀ (n : Nat) (i : Int) (q : Nat → Int), 0 ≤ i → i + n = 298 → rn 295 (52, [(0, jvr 238), (1, .inl i)], [], setA w 243 q) = some (none, setA (setA w 238 (up1 (mI w 238) 22 (a + 1))) 243 (fun k => if 298 * a + i ≤ k ∧ k < 298 * a + 298 then r (k - (298 * a).toNat) else q k)) := by
  intro n
  induction n with
  | zero =>
    intro i q i1 i2
    have e : (fun k : Nat => if 298 * a + i ≤ k ∧ k < 298 * a + 298 then r (k - (298 * a).toNat) else q k) = q := by
      funext k
      rw [if_neg (by omega)]
    rw [e, p295_52]
    simp (disch := omega) only [p295_0, p295_1, p295_4, p295_6, p295_9, p295_10, p295_11, p295_12, p295_15, p295_18, p295_19, p295_22, p295_23, p295_24, p295_27, p295_28, p295_31, p295_32, p295_33, p295_34, p295_37, p295_40, p295_41i, p295_41a, p295_42, p295_45, p295_46, p295_47, p295_50, p295_51, p295_53, p295_56, p295_59, p295_60, p295_63, p295_66, p295_67, p295_70, p295_71, p295_72, p295_73, p295_74, p295_77, p295_78, p295_79, p295_80, p295_83, p295_86, p295_87i, p295_87a, p295_88, p295_91, p295_92, p295_93, p295_96, jwd_c, jwd_0, Nat.reduceLeDiff, Nat.reduceEqDiff, Nat.reduceAdd, Nat.reduceSub, Nat.reduceMul, Int.reduceAdd, Int.reduceSub, Int.reduceMul, Int.reduceNeg, Int.reduceEq, Int.reduceLT, Int.reduceLE, jq_ldi_i, jq_ldl_l, jq_lda_a, jq_inc_i, jq_gs_t, jq_gsb_t, jq_gb_t, jq_gr_2, jq_gr_4, jq_gw_2, jq_s_t, jq_b_t, jg_c, jg_n, js_c, js_n, jrm_c, jrm_n, j2_i, j2_l, j2_a, jq_c_i, jq_c_l, jq_c_0, jq_c_n, jwd_le, jw_c0, mS_I, mS_R, mS_J, mN_I, mN_R, mN_J, mR_I, mI_R, mJ_I, mJ_R, mI_J, mR_J, ↓reduceIte, decide_true, or_true, true_or, and_self, false_or, or_false, reduceCtorEq, Bool.false_eq_true, and_false, false_and, eq_self, true_and, and_true, zero_ne, ↓br_lt_t, ↓br_lt_f, ↓br_eq_t, ↓br_eq_f, ↓br_lz_t, ↓br_lz_f, ↓br_ez_t, ↓br_ez_f, ↓br_gz_t, ↓br_gz_f, jw_id, jin_t, jix_t, mI_A, mI_nA, up1_s, up1_n, mS_A, mR_A, mJ_A, mN_A, setI_A, setA_A, sw_238, sw_239, sw_240, sw_241, sw_242, sw_243, sw_244, sw_245, sw_246, sw_247, sw_248, sw_249, sw_250, sw_251, Int.reduceToNat, Int.toNat_natCast, MO.s0 hm, MO.s1 hm, MO.s2 hm, MO.s3 hm, MO.s4 hm, MO.s5 hm, MO.s6 hm, MO.s7 hm, MO.s8 hm, MO.s9 hm, MO.s10 hm, MO.s11 hm, MO.s12 hm, MO.s13 hm, MO.r1 hm, MO.r2 hm, MO.r3 hm, MO.r4 hm, MO.r5 hm, MO.r6 hm, MO.r7 hm, MO.r8 hm, MO.r9 hm, MO.r10 hm, MO.r11 hm, MO.r12 hm, MO.r13 hm, ha]
  | succ n ih =>
    intro i q i1 i2
    have e := ih (i + 1) (up1 q (298 * a + i).toNat (r i.toNat)) (by omega) (by omega)
    have e2 : (fun k : Nat => if 298 * a + (i + 1) ≤ k ∧ k < 298 * a + 298 then r (k - (298 * a).toNat) else up1 q (298 * a + i).toNat (r i.toNat) k) = (fun k : Nat => if 298 * a + i ≤ k ∧ k < 298 * a + 298 then r (k - (298 * a).toNat) else q k) := by
      funext k
      by_cases z : k = (298 * a + i).toNat
      · rw [z, if_neg (by omega), if_pos (by omega), up1_s, show (298 * a + i).toNat - (298 * a).toNat = i.toNat by omega]
      · rw [up1_n z]
        by_cases y : 298 * a + i ≤ k ∧ k < 298 * a + 298
        · rw [if_pos y, if_pos (by omega)]
        · rw [if_neg y, if_neg (by omega)]
    rw [e2] at e
    rw [← e, p295_52]
    simp (disch := omega) only [p295_0, p295_1, p295_4, p295_6, p295_9, p295_10, p295_11, p295_12, p295_15, p295_18, p295_19, p295_22, p295_23, p295_24, p295_27, p295_28, p295_31, p295_32, p295_33, p295_34, p295_37, p295_40, p295_41i, p295_41a, p295_42, p295_45, p295_46, p295_47, p295_50, p295_51, p295_53, p295_56, p295_59, p295_60, p295_63, p295_66, p295_67, p295_70, p295_71, p295_72, p295_73, p295_74, p295_77, p295_78, p295_79, p295_80, p295_83, p295_86, p295_87i, p295_87a, p295_88, p295_91, p295_92, p295_93, p295_96, jwd_c, jwd_0, Nat.reduceLeDiff, Nat.reduceEqDiff, Nat.reduceAdd, Nat.reduceSub, Nat.reduceMul, Int.reduceAdd, Int.reduceSub, Int.reduceMul, Int.reduceNeg, Int.reduceEq, Int.reduceLT, Int.reduceLE, jq_ldi_i, jq_ldl_l, jq_lda_a, jq_inc_i, jq_gs_t, jq_gsb_t, jq_gb_t, jq_gr_2, jq_gr_4, jq_gw_2, jq_s_t, jq_b_t, jg_c, jg_n, js_c, js_n, jrm_c, jrm_n, j2_i, j2_l, j2_a, jq_c_i, jq_c_l, jq_c_0, jq_c_n, jwd_le, jw_c0, mS_I, mS_R, mS_J, mN_I, mN_R, mN_J, mR_I, mI_R, mJ_I, mJ_R, mI_J, mR_J, ↓reduceIte, decide_true, or_true, true_or, and_self, false_or, or_false, reduceCtorEq, Bool.false_eq_true, and_false, false_and, eq_self, true_and, and_true, zero_ne, ↓br_lt_t, ↓br_lt_f, ↓br_eq_t, ↓br_eq_f, ↓br_lz_t, ↓br_lz_f, ↓br_ez_t, ↓br_ez_f, ↓br_gz_t, ↓br_gz_f, jw_id, jin_t, jix_t, mI_A, mI_nA, up1_s, up1_n, mS_A, mR_A, mJ_A, mN_A, setI_A, setA_A, sw_238, sw_239, sw_240, sw_241, sw_242, sw_243, sw_244, sw_245, sw_246, sw_247, sw_248, sw_249, sw_250, sw_251, Int.reduceToNat, Int.toNat_natCast, MO.s0 hm, MO.s1 hm, MO.s2 hm, MO.s3 hm, MO.s4 hm, MO.s5 hm, MO.s6 hm, MO.s7 hm, MO.s8 hm, MO.s9 hm, MO.s10 hm, MO.s11 hm, MO.s12 hm, MO.s13 hm, MO.r1 hm, MO.r2 hm, MO.r3 hm, MO.r4 hm, MO.r5 hm, MO.r6 hm, MO.r7 hm, MO.r8 hm, MO.r9 hm, MO.r10 hm, MO.r11 hm, MO.r12 hm, MO.r13 hm, ha, hr]
theorem m_keeps (hX : mX w h H s) : ∃ u, rn 295 (0, [(0, jvr 238)], [], w) = some (none, u) ∧ mX u h H (gPs s) ∧ Fr (fun b => b = 238 ∨ b = 243) w u ∧ mR u = mR w ∧ ∀ k, k ≠ 22 → mI u 238 k = mI w 238 k := by
  obtain ⟨x1, x2, ⟨x3, x4, x5⟩, y1, y2, y3⟩ := hX
  have hm := x1.1
  by_cases c : s.2.1 = 10
  · have e1 := kp_lp1 hm (mI w 243) 2682 0 (mI w 243) (by omega) (by omega) (fun j hj => rfl)
    rw [setA_self] at e1
    generalize hP : (fun k : Nat => if (0 : Int) ≤ k ∧ k < 2682 then mI w 243 (k + 298) else mI w 243 k) = P1 at e1
    have e2 := kp_lp2 (w := setA w 238 (up1 (mI w 238) 22 9)) (a := 9) (r := s.1) hm (by rw [mI_nA (by omega)]; exact x2) (by rw [mI_A, up1_s]) (by omega) (by omega) 298 0 P1 (by omega) (by omega)
    generalize hP2 : (fun k : Nat => if (298 * 9 : Int) + 0 ≤ k ∧ (k : Int) < 298 * 9 + 298 then s.1 (k - (298 * 9 : Int).toNat) else P1 k) = P2 at e2
    have eW : setA (setA (setA w 238 (up1 (mI w 238) 22 9)) 238 (up1 (mI (setA w 238 (up1 (mI w 238) 22 9)) 238) 22 (9 + 1))) 243 P2 = setA (setA w 238 (up1 (mI w 238) 22 10)) 243 P2 := by
      rw [mI_A, setA_A]
      congr 2
      funext k
      by_cases z : k = 22
      · rw [z, up1_s, up1_s]
        rfl
      · rw [up1_n z, up1_n z, up1_n z]
    rw [eW] at e2
    refine ⟨setA (setA w 238 (up1 (mI w 238) 22 10)) 243 P2, ?_, ?_, (Fr.A (Or.inl rfl)).tr (Fr.A (Or.inr rfl)), rfl, fun k hk => by rw [mI_nA (by omega), mI_A, up1_n hk]⟩
    · rw [← e2]
      have x3' : mI w 238 22 = 10 := by rw [x3, c]; rfl
      have st : rn 295 (0, [(0, jvr 238)], [], w) = rn 295 (11, [(0, jvr 238), (1, .inl 0)], [], w) := by
        simp (disch := omega) only [p295_0, p295_1, p295_4, p295_6, p295_9, p295_10, p295_12, p295_15, p295_18, p295_19, p295_22, p295_23, p295_24, p295_27, p295_28, p295_31, p295_32, p295_33, p295_34, p295_37, p295_41i, p295_41a, p295_42, p295_45, p295_46, p295_47, p295_51, p295_53, p295_56, p295_59, p295_60, p295_63, p295_66, p295_67, p295_70, p295_71, p295_72, p295_73, p295_74, p295_77, p295_78, p295_79, p295_80, p295_83, p295_86, p295_87i, p295_87a, p295_88, p295_91, p295_92, p295_93, p295_96, jwd_c, jwd_0, Nat.reduceLeDiff, Nat.reduceEqDiff, Nat.reduceAdd, Nat.reduceSub, Nat.reduceMul, Int.reduceAdd, Int.reduceSub, Int.reduceMul, Int.reduceNeg, Int.reduceEq, Int.reduceLT, Int.reduceLE, jq_ldi_i, jq_ldl_l, jq_lda_a, jq_inc_i, jq_gs_t, jq_gsb_t, jq_gb_t, jq_gr_2, jq_gr_4, jq_gw_2, jq_s_t, jq_b_t, jg_c, jg_n, js_c, js_n, jrm_c, jrm_n, j2_i, j2_l, j2_a, jq_c_i, jq_c_l, jq_c_0, jq_c_n, jwd_le, jw_c0, mS_I, mS_R, mS_J, mN_I, mN_R, mN_J, mR_I, mI_R, mJ_I, mJ_R, mI_J, mR_J, ↓reduceIte, decide_true, or_true, true_or, and_self, false_or, or_false, reduceCtorEq, Bool.false_eq_true, and_false, false_and, eq_self, true_and, and_true, zero_ne, ↓br_lt_t, ↓br_lt_f, ↓br_eq_t, ↓br_eq_f, ↓br_lz_t, ↓br_lz_f, ↓br_ez_t, ↓br_ez_f, ↓br_gz_t, ↓br_gz_f, jw_id, jin_t, jix_t, MO.s0 hm, MO.s1 hm, MO.s2 hm, MO.s3 hm, MO.s4 hm, MO.s5 hm, MO.s6 hm, MO.s7 hm, MO.s8 hm, MO.s9 hm, MO.s10 hm, MO.s11 hm, MO.s12 hm, MO.s13 hm, MO.r1 hm, MO.r2 hm, MO.r3 hm, MO.r4 hm, MO.r5 hm, MO.r6 hm, MO.r7 hm, MO.r8 hm, MO.r9 hm, MO.r10 hm, MO.r11 hm, MO.r12 hm, MO.r13 hm, x3']
      rw [st, e1, p295_40]
      have x3b : mI (setA w 243 P1) 238 22 = 10 := by rw [mI_nA (by omega)]; exact x3'
      simp (disch := omega) only [p295_0, p295_1, p295_4, p295_6, p295_9, p295_10, p295_12, p295_15, p295_18, p295_19, p295_22, p295_23, p295_24, p295_27, p295_28, p295_31, p295_32, p295_33, p295_34, p295_37, p295_41i, p295_41a, p295_42, p295_45, p295_46, p295_47, p295_51, p295_53, p295_56, p295_59, p295_60, p295_63, p295_66, p295_67, p295_70, p295_71, p295_72, p295_73, p295_74, p295_77, p295_78, p295_79, p295_80, p295_83, p295_86, p295_87i, p295_87a, p295_88, p295_91, p295_92, p295_93, p295_96, jwd_c, jwd_0, Nat.reduceLeDiff, Nat.reduceEqDiff, Nat.reduceAdd, Nat.reduceSub, Nat.reduceMul, Int.reduceAdd, Int.reduceSub, Int.reduceMul, Int.reduceNeg, Int.reduceEq, Int.reduceLT, Int.reduceLE, jq_ldi_i, jq_ldl_l, jq_lda_a, jq_inc_i, jq_gs_t, jq_gsb_t, jq_gb_t, jq_gr_2, jq_gr_4, jq_gw_2, jq_s_t, jq_b_t, jg_c, jg_n, js_c, js_n, jrm_c, jrm_n, j2_i, j2_l, j2_a, jq_c_i, jq_c_l, jq_c_0, jq_c_n, jwd_le, jw_c0, mS_I, mS_R, mS_J, mN_I, mN_R, mN_J, mR_I, mI_R, mJ_I, mJ_R, mI_J, mR_J, ↓reduceIte, decide_true, or_true, true_or, and_self, false_or, or_false, reduceCtorEq, Bool.false_eq_true, and_false, false_and, eq_self, true_and, and_true, zero_ne, ↓br_lt_t, ↓br_lt_f, ↓br_eq_t, ↓br_eq_f, ↓br_lz_t, ↓br_lz_f, ↓br_ez_t, ↓br_ez_f, ↓br_gz_t, ↓br_gz_f, jw_id, jin_t, jix_t, mI_A, mI_nA, up1_s, up1_n, mS_A, mR_A, mJ_A, mN_A, setI_A, setA_A, sw_238, sw_239, sw_240, sw_241, sw_242, sw_243, sw_244, sw_245, sw_246, sw_247, sw_248, sw_249, sw_250, sw_251, Int.reduceToNat, Int.toNat_natCast, MO.s0 hm, MO.s1 hm, MO.s2 hm, MO.s3 hm, MO.s4 hm, MO.s5 hm, MO.s6 hm, MO.s7 hm, MO.s8 hm, MO.s9 hm, MO.s10 hm, MO.s11 hm, MO.s12 hm, MO.s13 hm, MO.r1 hm, MO.r2 hm, MO.r3 hm, MO.r4 hm, MO.r5 hm, MO.r6 hm, MO.r7 hm, MO.r8 hm, MO.r9 hm, MO.r10 hm, MO.r11 hm, MO.r12 hm, MO.r13 hm, x3']
      rw [p295_50]
      simp (disch := omega) only [p295_0, p295_1, p295_4, p295_6, p295_9, p295_10, p295_12, p295_15, p295_18, p295_19, p295_22, p295_23, p295_24, p295_27, p295_28, p295_31, p295_32, p295_33, p295_34, p295_37, p295_41i, p295_41a, p295_42, p295_45, p295_46, p295_47, p295_51, p295_53, p295_56, p295_59, p295_60, p295_63, p295_66, p295_67, p295_70, p295_71, p295_72, p295_73, p295_74, p295_77, p295_78, p295_79, p295_80, p295_83, p295_86, p295_87i, p295_87a, p295_88, p295_91, p295_92, p295_93, p295_96, jwd_c, jwd_0, Nat.reduceLeDiff, Nat.reduceEqDiff, Nat.reduceAdd, Nat.reduceSub, Nat.reduceMul, Int.reduceAdd, Int.reduceSub, Int.reduceMul, Int.reduceNeg, Int.reduceEq, Int.reduceLT, Int.reduceLE, jq_ldi_i, jq_ldl_l, jq_lda_a, jq_inc_i, jq_gs_t, jq_gsb_t, jq_gb_t, jq_gr_2, jq_gr_4, jq_gw_2, jq_s_t, jq_b_t, jg_c, jg_n, js_c, js_n, jrm_c, jrm_n, j2_i, j2_l, j2_a, jq_c_i, jq_c_l, jq_c_0, jq_c_n, jwd_le, jw_c0, mS_I, mS_R, mS_J, mN_I, mN_R, mN_J, mR_I, mI_R, mJ_I, mJ_R, mI_J, mR_J, ↓reduceIte, decide_true, or_true, true_or, and_self, false_or, or_false, reduceCtorEq, Bool.false_eq_true, and_false, false_and, eq_self, true_and, and_true, zero_ne, ↓br_lt_t, ↓br_lt_f, ↓br_eq_t, ↓br_eq_f, ↓br_lz_t, ↓br_lz_f, ↓br_ez_t, ↓br_ez_f, ↓br_gz_t, ↓br_gz_f, jw_id, jin_t, jix_t, mI_A, mI_nA, up1_s, up1_n, mS_A, mR_A, mJ_A, mN_A, setI_A, setA_A, sw_238, sw_239, sw_240, sw_241, sw_242, sw_243, sw_244, sw_245, sw_246, sw_247, sw_248, sw_249, sw_250, sw_251, Int.reduceToNat, Int.toNat_natCast, MO.s0 hm, MO.s1 hm, MO.s2 hm, MO.s3 hm, MO.s4 hm, MO.s5 hm, MO.s6 hm, MO.s7 hm, MO.s8 hm, MO.s9 hm, MO.s10 hm, MO.s11 hm, MO.s12 hm, MO.s13 hm, MO.r1 hm, MO.r2 hm, MO.r3 hm, MO.r4 hm, MO.r5 hm, MO.r6 hm, MO.r7 hm, MO.r8 hm, MO.r9 hm, MO.r10 hm, MO.r11 hm, MO.r12 hm, MO.r13 hm, x3']
    · have f : Fr (fun b => b = 238 ∨ b = 243) w (setA (setA w 238 (up1 (mI w 238) 22 10)) 243 P2) := (Fr.A (Or.inl rfl)).tr (Fr.A (Or.inr rfl))
      refine ⟨⟨x1.1.frR rfl rfl, x1.2.1.frF f (fun b hb => by omega), x1.2.2⟩, by rw [f.Iq (by omega)]; exact x2, ⟨?_, ?_, ?_⟩, ?_, y2, ?_⟩
      · rw [mI_nA (by omega), mI_A, up1_s]
        show (10 : Int) = ((gPuK 10 s.2.1 : Nat) : Int)
        rw [c]
        rfl
      · show gPuK 10 s.2.1 ≤ 10
        rw [c]
        decide
      · intro i k hi hk
        have hi2 : i < 10 := by
          have : gPuK 10 s.2.1 = 10 := by rw [c]; rfl
          have h3 : i < gPuK 10 s.2.1 := hi
          omega
        rw [mI_A, ← hP2]
        show _ = gPuQ 10 s.2.1 s.2.2.1 s.1 i k
        unfold gPuQ
        rw [if_pos c]
        dsimp only
        by_cases z : i + 1 < 10
        · rw [if_pos z, if_neg (by omega), ← hP]
          dsimp only
          rw [if_pos (by omega), show 298 * i + k + 298 = 298 * (i + 1) + k by omega]
          exact x5 (i + 1) k (by omega) hk
        · rw [if_neg z, if_pos (by omega), show 298 * i + k - (298 * 9 : Int).toNat = k by omega]
      · rw [mI_nA (by omega), mI_A, up1_n (by omega)]
        exact y1
      · rw [f.Iq (by omega)]
        exact y3
  · have e2 := kp_lp2 (a := (s.2.1 : Int)) hm x2 x3 (by omega) (by omega) 298 0 (mI w 243) (by omega) (by omega)
    rw [setA_self] at e2
    generalize hP2 : (fun k : Nat => if (298 * (s.2.1 : Int)) + 0 ≤ k ∧ k < 298 * (s.2.1 : Int) + 298 then s.1 (k - (298 * (s.2.1 : Int)).toNat) else mI w 243 k) = P2 at e2
    refine ⟨setA (setA w 238 (up1 (mI w 238) 22 ((s.2.1 : Int) + 1))) 243 P2, ?_, ?_, (Fr.A (Or.inl rfl)).tr (Fr.A (Or.inr rfl)), rfl, fun k hk => by rw [mI_nA (by omega), mI_A, up1_n hk]⟩
    · rw [← e2]
      simp (disch := omega) only [p295_0, p295_1, p295_4, p295_6, p295_9, p295_10, p295_12, p295_15, p295_18, p295_19, p295_22, p295_23, p295_24, p295_27, p295_28, p295_31, p295_32, p295_33, p295_34, p295_37, p295_41i, p295_41a, p295_42, p295_45, p295_46, p295_47, p295_51, p295_53, p295_56, p295_59, p295_60, p295_63, p295_66, p295_67, p295_70, p295_71, p295_72, p295_73, p295_74, p295_77, p295_78, p295_79, p295_80, p295_83, p295_86, p295_87i, p295_87a, p295_88, p295_91, p295_92, p295_93, p295_96, jwd_c, jwd_0, Nat.reduceLeDiff, Nat.reduceEqDiff, Nat.reduceAdd, Nat.reduceSub, Nat.reduceMul, Int.reduceAdd, Int.reduceSub, Int.reduceMul, Int.reduceNeg, Int.reduceEq, Int.reduceLT, Int.reduceLE, jq_ldi_i, jq_ldl_l, jq_lda_a, jq_inc_i, jq_gs_t, jq_gsb_t, jq_gb_t, jq_gr_2, jq_gr_4, jq_gw_2, jq_s_t, jq_b_t, jg_c, jg_n, js_c, js_n, jrm_c, jrm_n, j2_i, j2_l, j2_a, jq_c_i, jq_c_l, jq_c_0, jq_c_n, jwd_le, jw_c0, mS_I, mS_R, mS_J, mN_I, mN_R, mN_J, mR_I, mI_R, mJ_I, mJ_R, mI_J, mR_J, ↓reduceIte, decide_true, or_true, true_or, and_self, false_or, or_false, reduceCtorEq, Bool.false_eq_true, and_false, false_and, eq_self, true_and, and_true, zero_ne, ↓br_lt_t, ↓br_lt_f, ↓br_eq_t, ↓br_eq_f, ↓br_lz_t, ↓br_lz_f, ↓br_ez_t, ↓br_ez_f, ↓br_gz_t, ↓br_gz_f, jw_id, jin_t, jix_t, MO.s0 hm, MO.s1 hm, MO.s2 hm, MO.s3 hm, MO.s4 hm, MO.s5 hm, MO.s6 hm, MO.s7 hm, MO.s8 hm, MO.s9 hm, MO.s10 hm, MO.s11 hm, MO.s12 hm, MO.s13 hm, MO.r1 hm, MO.r2 hm, MO.r3 hm, MO.r4 hm, MO.r5 hm, MO.r6 hm, MO.r7 hm, MO.r8 hm, MO.r9 hm, MO.r10 hm, MO.r11 hm, MO.r12 hm, MO.r13 hm, x3]
      rw [p295_50]
      simp (disch := omega) only [p295_0, p295_1, p295_4, p295_6, p295_9, p295_10, p295_12, p295_15, p295_18, p295_19, p295_22, p295_23, p295_24, p295_27, p295_28, p295_31, p295_32, p295_33, p295_34, p295_37, p295_41i, p295_41a, p295_42, p295_45, p295_46, p295_47, p295_51, p295_53, p295_56, p295_59, p295_60, p295_63, p295_66, p295_67, p295_70, p295_71, p295_72, p295_73, p295_74, p295_77, p295_78, p295_79, p295_80, p295_83, p295_86, p295_87i, p295_87a, p295_88, p295_91, p295_92, p295_93, p295_96, jwd_c, jwd_0, Nat.reduceLeDiff, Nat.reduceEqDiff, Nat.reduceAdd, Nat.reduceSub, Nat.reduceMul, Int.reduceAdd, Int.reduceSub, Int.reduceMul, Int.reduceNeg, Int.reduceEq, Int.reduceLT, Int.reduceLE, jq_ldi_i, jq_ldl_l, jq_lda_a, jq_inc_i, jq_gs_t, jq_gsb_t, jq_gb_t, jq_gr_2, jq_gr_4, jq_gw_2, jq_s_t, jq_b_t, jg_c, jg_n, js_c, js_n, jrm_c, jrm_n, j2_i, j2_l, j2_a, jq_c_i, jq_c_l, jq_c_0, jq_c_n, jwd_le, jw_c0, mS_I, mS_R, mS_J, mN_I, mN_R, mN_J, mR_I, mI_R, mJ_I, mJ_R, mI_J, mR_J, ↓reduceIte, decide_true, or_true, true_or, and_self, false_or, or_false, reduceCtorEq, Bool.false_eq_true, and_false, false_and, eq_self, true_and, and_true, zero_ne, ↓br_lt_t, ↓br_lt_f, ↓br_eq_t, ↓br_eq_f, ↓br_lz_t, ↓br_lz_f, ↓br_ez_t, ↓br_ez_f, ↓br_gz_t, ↓br_gz_f, jw_id, jin_t, jix_t, MO.s0 hm, MO.s1 hm, MO.s2 hm, MO.s3 hm, MO.s4 hm, MO.s5 hm, MO.s6 hm, MO.s7 hm, MO.s8 hm, MO.s9 hm, MO.s10 hm, MO.s11 hm, MO.s12 hm, MO.s13 hm, MO.r1 hm, MO.r2 hm, MO.r3 hm, MO.r4 hm, MO.r5 hm, MO.r6 hm, MO.r7 hm, MO.r8 hm, MO.r9 hm, MO.r10 hm, MO.r11 hm, MO.r12 hm, MO.r13 hm, x3]
    · have f : Fr (fun b => b = 238 ∨ b = 243) w (setA (setA w 238 (up1 (mI w 238) 22 ((s.2.1 : Int) + 1))) 243 P2) := (Fr.A (Or.inl rfl)).tr (Fr.A (Or.inr rfl))
      have gk : gPuK 10 s.2.1 = s.2.1 + 1 := if_neg c
      refine ⟨⟨x1.1.frR rfl rfl, x1.2.1.frF f (fun b hb => by omega), x1.2.2⟩, by rw [f.Iq (by omega)]; exact x2, ⟨?_, ?_, ?_⟩, ?_, y2, ?_⟩
      · rw [mI_nA (by omega), mI_A, up1_s]
        show _ = ((gPuK 10 s.2.1 : Nat) : Int)
        rw [gk]
        omega
      · show gPuK 10 s.2.1 ≤ 10
        rw [gk]
        omega
      · intro i k hi hk
        have hi2 : i < s.2.1 + 1 := by
          have h3 : i < gPuK 10 s.2.1 := hi
          omega
        rw [mI_A, ← hP2]
        show _ = gPuQ 10 s.2.1 s.2.2.1 s.1 i k
        unfold gPuQ
        rw [if_neg c]
        dsimp only
        by_cases z : i < s.2.1
        · rw [if_pos z, if_neg (by omega)]
          exact x5 i k z hk
        · rw [if_neg z, if_pos (by omega), show 298 * i + k - (298 * (s.2.1 : Int)).toNat = k by omega]
      · rw [mI_nA (by omega), mI_A, up1_n (by omega)]
        exact y1
      · rw [f.Iq (by omega)]
        exact y3
/-- another row now -/
theorem mX.row (hX : mX w h H s) {f : Nat → Int} : mX (setA w 241 f) h H (gRw s f) := by
  obtain ⟨x1, x2, x3, x4⟩ := hX
  exact ⟨⟨x1.1.frR rfl rfl, x1.2.1.frF (Fr.A (P := fun b => b = 241) rfl) (fun b hb => by omega), x1.2.2⟩, mI_A _ _ _, by rw [mI_nA (by omega), mI_nA (by omega)]; exact x3, by rw [mI_nA (by omega), mI_nA (by omega)]; exact x4⟩
theorem mX.fin (hX : mX u h H s) {w0 : jmW} (hw0 : setI w 238 0 0 = w0) (f : Fr (fun b => b = 238 ∨ (241 ≤ b ∧ b ≤ 251)) w0 u) (e : mR u = mR w) (k3 : ∀ k, 3 ≤ k → k < 22 → mI u 238 k = mI w0 238 k) {tr : Int} : qN w (setI (setI u 238 1 tr) 238 2 (-1)) h H s tr := by
  obtain ⟨x1, x2, x3, x4⟩ := hX
  refine ⟨⟨x1.z.z, by rw [mI_nb (by omega), mI_nb (by omega)]; exact x2, by rw [mI_nk (by omega), mI_nk (by omega), mI_nb (by omega), mI_nb (by omega)]; exact x3, by rw [mI_nk (by omega), mI_nk (by omega), mI_nb (by omega), mI_nb (by omega)]; exact x4⟩, ?_, e, fun k k1 k2 => ?_, by rw [mI_nk (by omega), mI_s], mI_s _ _ _ _⟩
  · subst hw0
    exact (((Fr.I (Or.inl rfl)).tr f).tr (Fr.I (Or.inl rfl))).tr (Fr.I (Or.inl rfl))
  · rw [mI_nk (by omega), mI_nk (by omega), k3 k k1 k2, ← hw0, mI_nk (by omega)]
end KEEPS
