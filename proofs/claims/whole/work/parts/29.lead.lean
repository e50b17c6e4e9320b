/-! The model: the way home, who leads, the front goes. -/
theorem least {P : Nat → Prop} (h : ∃ n, P n) : ∃ n, P n ∧ ∀ m, m < n → ¬ P m := by
  obtain ⟨n, hn⟩ := h
  induction n using Nat.strongRecOn with
  | ind n ih =>
    by_cases z : ∃ m, m < n ∧ P m
    · obtain ⟨m, m1, m2⟩ := z
      exact ih m m1 m2
    · exact ⟨n, hn, fun m hm hp => z ⟨m, hm, hp⟩⟩
theorem gDist_ds (H : Nat → Nat → Int) (Bk : Int → Prop) (f c : Int) : gDs H Bk f c (gDist H Bk f c) := by
  refine Classical.epsilon_spec (p := fun d : Int => gDs H Bk f c d) ?_
  by_cases z : gFrom H f ∧ ∃ n, Rch H Bk f n c
  · obtain ⟨n, n1, n2⟩ := least z.2
    exact ⟨n, Or.inl ⟨z.1, n, rfl, n1, n2⟩⟩
  · exact ⟨-2, Or.inr ⟨rfl, z⟩⟩
theorem gDist_bd {H : Nat → Nat → Int} {Bk : Int → Prop} {f c : Int} (hk : HOK H) (hf : f < H 1 0) : -2 ≤ gDist H Bk f c ∧ gDist H Bk f c < H 1 0 := ds_48 hk hf (gDist_ds H Bk f c)
theorem gTo_mod {H : Nat → Nat → Int} {c s : Int} : gTo H c (s % 4) = gTo H c s := by
  have : s % 4 % 4 = s % 4 := by omega
  unfold gTo
  rw [this]
noncomputable def gHm (p : Int → Prop) (D : Int → Int) : Nat → Int → Int → Int → Int
  | 0, _, b, _ => b
  | k + 1, s, b, l => ci (p s ∧ D s ≠ -2 ∧ (b = -1 ∨ D s < l)) (gHm p D k (s + 1) s (D s)) (gHm p D k (s + 1) b l)
noncomputable def gHd (H : Nat → Nat → Int) (r : Nat → Int) (s : Int) : Int := gDist H (fun _ => False) (H 0 12) (gTo H (gHere r) s)
noncomputable def gHome (H : Nat → Nat → Int) (r : Nat → Int) : Int := if gHere r = H 0 12 then -1 else gHm (gCG H r) (gHd H r) 4 0 (-1) 0
noncomputable def gLead (H : Nat → Nat → Int) (L : Int) (S r : Nat → Int) : Int × (Nat → Int) :=
  if r 291 = 0 then (gFirst H r (r 292) (r 292 + 1) (r 292 + 3) (r 292 + 2), r) else if r 291 = 1 then (gFirst H r (r 292 + 1) (r 292) (r 292 + 3) (r 292 + 2), r) else if r 291 = 2 then (gFirst H r (r 292 + 3) (r 292) (r 292 + 1) (r 292 + 2), r) else if r 291 = 3 then gLot H r else if r 291 = 4 then (gHome H r, r) else gTold H L S r
section LEAD
variable {w : jmW} {a h : Nat} {H : Nat → Nat → Int} {r : Nat → Int} {B : Int}
theorem here_ok (ra : RA H B r) (rw0 : RW H r) : 0 ≤ gHere r ∧ gHere r < H 1 0 := by
  have h16 := ra.1
  have e0 := rw0.1 (r 288 - 1) (by omega) (by omega)
  have e9 : (0 + (r 288 - 1)).toNat = (0 + r 288 - 1).toNat := by omega
  rw [e9] at e0
  exact ⟨e0.1, e0.2.1⟩
theorem home_loop (hm : MO w) (hh : MH w h H) (h3 : mR w 238 3 = some h) (hs : mS w a = (2, 0, 298)) (hr : mI w a = r) (hk : HOK H) (ra : RA H B r) (rb : RB r) (rw0 : RW H r) (hF : ∀ c : Int, 0 ≤ c → c < H 1 0 → mI w 245 c.toNat = gDist H (fun _ => False) (H 0 12) c) : ∀ (k : Nat) (s b l : Int) (u : jmL), 0 ≤ s → s + k = 4 → (u = [] ∨ ∃ y, u = [(6, .inl y)]) → -1 ≤ b → b < 4 → -2 ≤ l → l ≤ 48 → rn 247 (45, (0, jvr 238) :: (1, jvr a) :: (2, .inl (gHere r)) :: (3, .inl b) :: (4, .inl l) :: (5, .inl s) :: u, [], w) = some (some (.inl (gHm (gCG H r) (gHd H r) k s b l)), w) := by
  have kc := hk.1.2.2.2.2.2.2
  have kh := hk.2.2.1.2.2.2.2.2.2.2.2.1
  have hb := here_ok ra rw0
  intro k
  induction k with
  | zero =>
    intro s b l u s1 s2 hu b1 b2 l1 l2
    have e : gHm (gCG H r) (gHd H r) 0 s b l = b := rfl
    have e2 : s = 4 := by omega
    subst e2
    rw [e, p247_45]
    simp (disch := omega) only [p247_47, p247_48, p247_116, p247_117, jwd_c, jwd_0, Nat.reduceLeDiff, Nat.reduceEqDiff, Nat.reduceAdd, Nat.reduceSub, Nat.reduceMul, Int.reduceAdd, Int.reduceSub, Int.reduceMul, Int.reduceNeg, Int.reduceEq, Int.reduceLT, Int.reduceLE, jq_ldi_i, jq_ldl_l, jq_lda_a, jq_inc_i, jq_gs_t, jq_gsb_t, jq_gb_t, jq_gr_2, jq_gr_4, jq_gw_2, jq_s_t, jq_b_t, jg_c, jg_n, js_c, js_n, jrm_c, jrm_n, j2_i, j2_l, j2_a, jq_c_i, jq_c_l, jq_c_0, jq_c_n, jwd_le, jw_c0, mS_I, mS_R, mS_J, mN_I, mN_R, mN_J, mR_I, mI_R, mJ_I, mJ_R, mI_J, mR_J, ↓reduceIte, decide_true, or_true, true_or, and_self, false_or, or_false, reduceCtorEq, Bool.false_eq_true, and_false, false_and, eq_self, true_and, and_true, zero_ne, ↓br_lt_t, ↓br_lt_f, ↓br_eq_t, ↓br_eq_f, ↓br_lz_t, ↓br_lz_f, ↓br_ez_t, ↓br_ez_f, ↓br_gz_t, ↓br_gz_f, jw_id, jin_t, jix_t]
  | succ k ih =>
    intro s b l u s1 s2 hu b1 b2 l1 l2
    have e : gHm (gCG H r) (gHd H r) (k + 1) s b l = ci (gCG H r s ∧ gHd H r s ≠ -2 ∧ (b = -1 ∨ gHd H r s < l)) (gHm (gCG H r) (gHd H r) k (s + 1) s (gHd H r s)) (gHm (gCG H r) (gHd H r) k (s + 1) b l) := rfl
    have e1 := m_can hm hh h3 hs hr hk ra rb rw0 (s := s) s1 (by omega)
    have e2 := mh_to hh hk (c := gHere r) (s := s) hb.1 hb.2 s1 (by omega)
    have e3 := gTo_bd hk (c := gHere r) (s := s) hb.1 hb.2
    have hjs : ∀ (s y : Int), js ((5, .inl s) :: u) 6 (.inl y) = [(5, .inl s), (6, .inl y)] := by
      intro s y
      rcases hu with rfl | ⟨z, rfl⟩ <;> rfl
    have hjr : jrm u 5 = u := by
      rcases hu with rfl | ⟨z, rfl⟩ <;> rfl
    rw [e, p247_45]
    by_cases q : gCG H r s
    · have q0 := q.1.1
      have e4 := hF (gTo H (gHere r) s) (by omega) e3.2
      have e5 : gDist H (fun _ => False) (H 0 12) (gTo H (gHere r) s) = gHd H r s := rfl
      have e6 : -2 ≤ gHd H r s ∧ gHd H r s < H 1 0 := gDist_bd hk kh
      rw [e5] at e4
      rw [bi_t q] at e1
      generalize gHd H r s = D at *
      by_cases q2 : D = -2
      · have e7 := ih (s + 1) b l [(6, .inl D)] (by omega) (by omega) (Or.inr ⟨D, rfl⟩) b1 b2 l1 l2
        rw [ci_f (fun z => z.2.1 q2), ← e7]
        simp (disch := omega) only [p247_0, p247_1, p247_2, p247_3, p247_6, p247_7, p247_8, p247_9, p247_10, p247_11, p247_12, p247_13, p247_14, p247_17, p247_20, p247_23, p247_24, p247_25, p247_26, p247_27, p247_30, p247_33, p247_34, p247_37, p247_38, p247_39, p247_40, p247_42, p247_43, p247_47, p247_48, p247_51, p247_52, p247_53, p247_55, p247_58, p247_61, p247_64, p247_65, p247_68, p247_69, p247_72, p247_73, p247_75, p247_78, p247_79, p247_81, p247_83, p247_85, p247_88, p247_89, p247_90, p247_93, p247_95, p247_97, p247_100, p247_103, p247_105, p247_106, p247_108, p247_110, p247_113, p247_116, p247_117, jwd_c, jwd_0, Nat.reduceLeDiff, Nat.reduceEqDiff, Nat.reduceAdd, Nat.reduceSub, Nat.reduceMul, Int.reduceAdd, Int.reduceSub, Int.reduceMul, Int.reduceNeg, Int.reduceEq, Int.reduceLT, Int.reduceLE, jq_ldi_i, jq_ldl_l, jq_lda_a, jq_inc_i, jq_gs_t, jq_gsb_t, jq_gb_t, jq_gr_2, jq_gr_4, jq_gw_2, jq_s_t, jq_b_t, jg_c, jg_n, js_c, js_n, jrm_c, jrm_n, j2_i, j2_l, j2_a, jq_c_i, jq_c_l, jq_c_0, jq_c_n, jwd_le, jw_c0, mS_I, mS_R, mS_J, mN_I, mN_R, mN_J, mR_I, mI_R, mJ_I, mJ_R, mI_J, mR_J, ↓reduceIte, decide_true, or_true, true_or, and_self, false_or, or_false, reduceCtorEq, Bool.false_eq_true, and_false, false_and, eq_self, true_and, and_true, zero_ne, ↓br_lt_t, ↓br_lt_f, ↓br_eq_t, ↓br_eq_f, ↓br_lz_t, ↓br_lz_f, ↓br_ez_t, ↓br_ez_f, ↓br_gz_t, ↓br_gz_f, jw_id, jin_t, jix_t, mI_A, mI_nA, up1_s, up1_n, mS_A, mR_A, mJ_A, mN_A, setI_A, setA_A, sw_238, sw_239, sw_240, sw_241, sw_242, sw_243, sw_244, sw_245, sw_246, sw_247, sw_248, sw_249, sw_250, sw_251, Int.reduceToNat, Int.toNat_natCast, MO.s0 hm, MO.s1 hm, MO.s2 hm, MO.s3 hm, MO.s4 hm, MO.s5 hm, MO.s6 hm, MO.s7 hm, MO.s8 hm, MO.s9 hm, MO.s10 hm, MO.s11 hm, MO.s12 hm, MO.s13 hm, MO.r1 hm, MO.r2 hm, MO.r3 hm, MO.r4 hm, MO.r5 hm, MO.r6 hm, MO.r7 hm, MO.r8 hm, MO.r9 hm, MO.r10 hm, MO.r11 hm, MO.r12 hm, MO.r13 hm, MH.s hh, MH.s1 hh, MH.s2 hh, MH.s3 hh, MH.s4 hh, MH.s5 hh, MH.s6 hh, MH.s7 hh, MH.s8 hh, MH.s9 hh, MH.s10 hh, MH.s11 hh, MH.s12 hh, MH.s13 hh, MH.s14 hh, MH.s15 hh, MH.r1 hh, MH.r2 hh, MH.r3 hh, MH.r4 hh, MH.r5 hh, MH.r6 hh, MH.r7 hh, MH.r8 hh, MH.r9 hh, MH.r10 hh, MH.r11 hh, MH.r12 hh, MH.r13 hh, MH.r14 hh, MH.r15 hh, MH.f0 hh, MH.f1 hh, MH.f2 hh, MH.f3 hh, MH.f4 hh, MH.f5 hh, MH.f6 hh, MH.f7 hh, MH.f8 hh, MH.f9 hh, MH.f10 hh, MH.f11 hh, MH.f12 hh, MH.f13 hh, MH.f14 hh, MH.f15 hh, MH.f16 hh, MH.a1 hh, MH.a2 hh, MH.a3 hh, MH.a4 hh, MH.a5 hh, MH.a6 hh, MH.a7 hh, MH.a8 hh, MH.a9 hh, MH.a10 hh, MH.a11 hh, MH.a12 hh, MH.a13 hh, MH.a14 hh, MH.a15 hh, h3, e1, e2, e4, hjs]
      · by_cases q3 : b = -1 ∨ D < l
        · have e7 := ih (s + 1) s D [(6, .inl D)] (by omega) (by omega) (Or.inr ⟨D, rfl⟩) (by omega) (by omega) (by omega) (by omega)
          rw [ci_t ⟨q, q2, q3⟩, ← e7]
          by_cases q4 : b = -1
          · simp (disch := omega) only [p247_0, p247_1, p247_2, p247_3, p247_6, p247_7, p247_8, p247_9, p247_10, p247_11, p247_12, p247_13, p247_14, p247_17, p247_20, p247_23, p247_24, p247_25, p247_26, p247_27, p247_30, p247_33, p247_34, p247_37, p247_38, p247_39, p247_40, p247_42, p247_43, p247_47, p247_48, p247_51, p247_52, p247_53, p247_55, p247_58, p247_61, p247_64, p247_65, p247_68, p247_69, p247_72, p247_73, p247_75, p247_78, p247_79, p247_81, p247_83, p247_85, p247_88, p247_89, p247_90, p247_93, p247_95, p247_97, p247_100, p247_103, p247_105, p247_106, p247_108, p247_110, p247_113, p247_116, p247_117, jwd_c, jwd_0, Nat.reduceLeDiff, Nat.reduceEqDiff, Nat.reduceAdd, Nat.reduceSub, Nat.reduceMul, Int.reduceAdd, Int.reduceSub, Int.reduceMul, Int.reduceNeg, Int.reduceEq, Int.reduceLT, Int.reduceLE, jq_ldi_i, jq_ldl_l, jq_lda_a, jq_inc_i, jq_gs_t, jq_gsb_t, jq_gb_t, jq_gr_2, jq_gr_4, jq_gw_2, jq_s_t, jq_b_t, jg_c, jg_n, js_c, js_n, jrm_c, jrm_n, j2_i, j2_l, j2_a, jq_c_i, jq_c_l, jq_c_0, jq_c_n, jwd_le, jw_c0, mS_I, mS_R, mS_J, mN_I, mN_R, mN_J, mR_I, mI_R, mJ_I, mJ_R, mI_J, mR_J, ↓reduceIte, decide_true, or_true, true_or, and_self, false_or, or_false, reduceCtorEq, Bool.false_eq_true, and_false, false_and, eq_self, true_and, and_true, zero_ne, ↓br_lt_t, ↓br_lt_f, ↓br_eq_t, ↓br_eq_f, ↓br_lz_t, ↓br_lz_f, ↓br_ez_t, ↓br_ez_f, ↓br_gz_t, ↓br_gz_f, jw_id, jin_t, jix_t, mI_A, mI_nA, up1_s, up1_n, mS_A, mR_A, mJ_A, mN_A, setI_A, setA_A, sw_238, sw_239, sw_240, sw_241, sw_242, sw_243, sw_244, sw_245, sw_246, sw_247, sw_248, sw_249, sw_250, sw_251, Int.reduceToNat, Int.toNat_natCast, MO.s0 hm, MO.s1 hm, MO.s2 hm, MO.s3 hm, MO.s4 hm, MO.s5 hm, MO.s6 hm, MO.s7 hm, MO.s8 hm, MO.s9 hm, MO.s10 hm, MO.s11 hm, MO.s12 hm, MO.s13 hm, MO.r1 hm, MO.r2 hm, MO.r3 hm, MO.r4 hm, MO.r5 hm, MO.r6 hm, MO.r7 hm, MO.r8 hm, MO.r9 hm, MO.r10 hm, MO.r11 hm, MO.r12 hm, MO.r13 hm, MH.s hh, MH.s1 hh, MH.s2 hh, MH.s3 hh, MH.s4 hh, MH.s5 hh, MH.s6 hh, MH.s7 hh, MH.s8 hh, MH.s9 hh, MH.s10 hh, MH.s11 hh, MH.s12 hh, MH.s13 hh, MH.s14 hh, MH.s15 hh, MH.r1 hh, MH.r2 hh, MH.r3 hh, MH.r4 hh, MH.r5 hh, MH.r6 hh, MH.r7 hh, MH.r8 hh, MH.r9 hh, MH.r10 hh, MH.r11 hh, MH.r12 hh, MH.r13 hh, MH.r14 hh, MH.r15 hh, MH.f0 hh, MH.f1 hh, MH.f2 hh, MH.f3 hh, MH.f4 hh, MH.f5 hh, MH.f6 hh, MH.f7 hh, MH.f8 hh, MH.f9 hh, MH.f10 hh, MH.f11 hh, MH.f12 hh, MH.f13 hh, MH.f14 hh, MH.f15 hh, MH.f16 hh, MH.a1 hh, MH.a2 hh, MH.a3 hh, MH.a4 hh, MH.a5 hh, MH.a6 hh, MH.a7 hh, MH.a8 hh, MH.a9 hh, MH.a10 hh, MH.a11 hh, MH.a12 hh, MH.a13 hh, MH.a14 hh, MH.a15 hh, h3, e1, e2, e4, hjs]
          · simp (disch := omega) only [p247_0, p247_1, p247_2, p247_3, p247_6, p247_7, p247_8, p247_9, p247_10, p247_11, p247_12, p247_13, p247_14, p247_17, p247_20, p247_23, p247_24, p247_25, p247_26, p247_27, p247_30, p247_33, p247_34, p247_37, p247_38, p247_39, p247_40, p247_42, p247_43, p247_47, p247_48, p247_51, p247_52, p247_53, p247_55, p247_58, p247_61, p247_64, p247_65, p247_68, p247_69, p247_72, p247_73, p247_75, p247_78, p247_79, p247_81, p247_83, p247_85, p247_88, p247_89, p247_90, p247_93, p247_95, p247_97, p247_100, p247_103, p247_105, p247_106, p247_108, p247_110, p247_113, p247_116, p247_117, jwd_c, jwd_0, Nat.reduceLeDiff, Nat.reduceEqDiff, Nat.reduceAdd, Nat.reduceSub, Nat.reduceMul, Int.reduceAdd, Int.reduceSub, Int.reduceMul, Int.reduceNeg, Int.reduceEq, Int.reduceLT, Int.reduceLE, jq_ldi_i, jq_ldl_l, jq_lda_a, jq_inc_i, jq_gs_t, jq_gsb_t, jq_gb_t, jq_gr_2, jq_gr_4, jq_gw_2, jq_s_t, jq_b_t, jg_c, jg_n, js_c, js_n, jrm_c, jrm_n, j2_i, j2_l, j2_a, jq_c_i, jq_c_l, jq_c_0, jq_c_n, jwd_le, jw_c0, mS_I, mS_R, mS_J, mN_I, mN_R, mN_J, mR_I, mI_R, mJ_I, mJ_R, mI_J, mR_J, ↓reduceIte, decide_true, or_true, true_or, and_self, false_or, or_false, reduceCtorEq, Bool.false_eq_true, and_false, false_and, eq_self, true_and, and_true, zero_ne, ↓br_lt_t, ↓br_lt_f, ↓br_eq_t, ↓br_eq_f, ↓br_lz_t, ↓br_lz_f, ↓br_ez_t, ↓br_ez_f, ↓br_gz_t, ↓br_gz_f, jw_id, jin_t, jix_t, mI_A, mI_nA, up1_s, up1_n, mS_A, mR_A, mJ_A, mN_A, setI_A, setA_A, sw_238, sw_239, sw_240, sw_241, sw_242, sw_243, sw_244, sw_245, sw_246, sw_247, sw_248, sw_249, sw_250, sw_251, Int.reduceToNat, Int.toNat_natCast, MO.s0 hm, MO.s1 hm, MO.s2 hm, MO.s3 hm, MO.s4 hm, MO.s5 hm, MO.s6 hm, MO.s7 hm, MO.s8 hm, MO.s9 hm, MO.s10 hm, MO.s11 hm, MO.s12 hm, MO.s13 hm, MO.r1 hm, MO.r2 hm, MO.r3 hm, MO.r4 hm, MO.r5 hm, MO.r6 hm, MO.r7 hm, MO.r8 hm, MO.r9 hm, MO.r10 hm, MO.r11 hm, MO.r12 hm, MO.r13 hm, MH.s hh, MH.s1 hh, MH.s2 hh, MH.s3 hh, MH.s4 hh, MH.s5 hh, MH.s6 hh, MH.s7 hh, MH.s8 hh, MH.s9 hh, MH.s10 hh, MH.s11 hh, MH.s12 hh, MH.s13 hh, MH.s14 hh, MH.s15 hh, MH.r1 hh, MH.r2 hh, MH.r3 hh, MH.r4 hh, MH.r5 hh, MH.r6 hh, MH.r7 hh, MH.r8 hh, MH.r9 hh, MH.r10 hh, MH.r11 hh, MH.r12 hh, MH.r13 hh, MH.r14 hh, MH.r15 hh, MH.f0 hh, MH.f1 hh, MH.f2 hh, MH.f3 hh, MH.f4 hh, MH.f5 hh, MH.f6 hh, MH.f7 hh, MH.f8 hh, MH.f9 hh, MH.f10 hh, MH.f11 hh, MH.f12 hh, MH.f13 hh, MH.f14 hh, MH.f15 hh, MH.f16 hh, MH.a1 hh, MH.a2 hh, MH.a3 hh, MH.a4 hh, MH.a5 hh, MH.a6 hh, MH.a7 hh, MH.a8 hh, MH.a9 hh, MH.a10 hh, MH.a11 hh, MH.a12 hh, MH.a13 hh, MH.a14 hh, MH.a15 hh, h3, e1, e2, e4, hjs]
        · have e7 := ih (s + 1) b l [(6, .inl D)] (by omega) (by omega) (Or.inr ⟨D, rfl⟩) b1 b2 l1 l2
          rw [ci_f (fun z => q3 z.2.2), ← e7]
          simp (disch := omega) only [p247_0, p247_1, p247_2, p247_3, p247_6, p247_7, p247_8, p247_9, p247_10, p247_11, p247_12, p247_13, p247_14, p247_17, p247_20, p247_23, p247_24, p247_25, p247_26, p247_27, p247_30, p247_33, p247_34, p247_37, p247_38, p247_39, p247_40, p247_42, p247_43, p247_47, p247_48, p247_51, p247_52, p247_53, p247_55, p247_58, p247_61, p247_64, p247_65, p247_68, p247_69, p247_72, p247_73, p247_75, p247_78, p247_79, p247_81, p247_83, p247_85, p247_88, p247_89, p247_90, p247_93, p247_95, p247_97, p247_100, p247_103, p247_105, p247_106, p247_108, p247_110, p247_113, p247_116, p247_117, jwd_c, jwd_0, Nat.reduceLeDiff, Nat.reduceEqDiff, Nat.reduceAdd, Nat.reduceSub, Nat.reduceMul, Int.reduceAdd, Int.reduceSub, Int.reduceMul, Int.reduceNeg, Int.reduceEq, Int.reduceLT, Int.reduceLE, jq_ldi_i, jq_ldl_l, jq_lda_a, jq_inc_i, jq_gs_t, jq_gsb_t, jq_gb_t, jq_gr_2, jq_gr_4, jq_gw_2, jq_s_t, jq_b_t, jg_c, jg_n, js_c, js_n, jrm_c, jrm_n, j2_i, j2_l, j2_a, jq_c_i, jq_c_l, jq_c_0, jq_c_n, jwd_le, jw_c0, mS_I, mS_R, mS_J, mN_I, mN_R, mN_J, mR_I, mI_R, mJ_I, mJ_R, mI_J, mR_J, ↓reduceIte, decide_true, or_true, true_or, and_self, false_or, or_false, reduceCtorEq, Bool.false_eq_true, and_false, false_and, eq_self, true_and, and_true, zero_ne, ↓br_lt_t, ↓br_lt_f, ↓br_eq_t, ↓br_eq_f, ↓br_lz_t, ↓br_lz_f, ↓br_ez_t, ↓br_ez_f, ↓br_gz_t, ↓br_gz_f, jw_id, jin_t, jix_t, mI_A, mI_nA, up1_s, up1_n, mS_A, mR_A, mJ_A, mN_A, setI_A, setA_A, sw_238, sw_239, sw_240, sw_241, sw_242, sw_243, sw_244, sw_245, sw_246, sw_247, sw_248, sw_249, sw_250, sw_251, Int.reduceToNat, Int.toNat_natCast, MO.s0 hm, MO.s1 hm, MO.s2 hm, MO.s3 hm, MO.s4 hm, MO.s5 hm, MO.s6 hm, MO.s7 hm, MO.s8 hm, MO.s9 hm, MO.s10 hm, MO.s11 hm, MO.s12 hm, MO.s13 hm, MO.r1 hm, MO.r2 hm, MO.r3 hm, MO.r4 hm, MO.r5 hm, MO.r6 hm, MO.r7 hm, MO.r8 hm, MO.r9 hm, MO.r10 hm, MO.r11 hm, MO.r12 hm, MO.r13 hm, MH.s hh, MH.s1 hh, MH.s2 hh, MH.s3 hh, MH.s4 hh, MH.s5 hh, MH.s6 hh, MH.s7 hh, MH.s8 hh, MH.s9 hh, MH.s10 hh, MH.s11 hh, MH.s12 hh, MH.s13 hh, MH.s14 hh, MH.s15 hh, MH.r1 hh, MH.r2 hh, MH.r3 hh, MH.r4 hh, MH.r5 hh, MH.r6 hh, MH.r7 hh, MH.r8 hh, MH.r9 hh, MH.r10 hh, MH.r11 hh, MH.r12 hh, MH.r13 hh, MH.r14 hh, MH.r15 hh, MH.f0 hh, MH.f1 hh, MH.f2 hh, MH.f3 hh, MH.f4 hh, MH.f5 hh, MH.f6 hh, MH.f7 hh, MH.f8 hh, MH.f9 hh, MH.f10 hh, MH.f11 hh, MH.f12 hh, MH.f13 hh, MH.f14 hh, MH.f15 hh, MH.f16 hh, MH.a1 hh, MH.a2 hh, MH.a3 hh, MH.a4 hh, MH.a5 hh, MH.a6 hh, MH.a7 hh, MH.a8 hh, MH.a9 hh, MH.a10 hh, MH.a11 hh, MH.a12 hh, MH.a13 hh, MH.a14 hh, MH.a15 hh, h3, e1, e2, e4, hjs]
    · have e7 := ih (s + 1) b l u (by omega) (by omega) hu b1 b2 l1 l2
      rw [bi_f q] at e1
      rw [ci_f (fun z => q z.1), ← e7]
      simp (disch := omega) only [p247_0, p247_1, p247_2, p247_3, p247_6, p247_7, p247_8, p247_9, p247_10, p247_11, p247_12, p247_13, p247_14, p247_17, p247_20, p247_23, p247_24, p247_25, p247_26, p247_27, p247_30, p247_33, p247_34, p247_37, p247_38, p247_39, p247_40, p247_42, p247_43, p247_47, p247_48, p247_51, p247_52, p247_53, p247_55, p247_58, p247_61, p247_64, p247_65, p247_68, p247_69, p247_72, p247_73, p247_75, p247_78, p247_79, p247_81, p247_83, p247_85, p247_88, p247_89, p247_90, p247_93, p247_95, p247_97, p247_100, p247_103, p247_105, p247_106, p247_108, p247_110, p247_113, p247_116, p247_117, jwd_c, jwd_0, Nat.reduceLeDiff, Nat.reduceEqDiff, Nat.reduceAdd, Nat.reduceSub, Nat.reduceMul, Int.reduceAdd, Int.reduceSub, Int.reduceMul, Int.reduceNeg, Int.reduceEq, Int.reduceLT, Int.reduceLE, jq_ldi_i, jq_ldl_l, jq_lda_a, jq_inc_i, jq_gs_t, jq_gsb_t, jq_gb_t, jq_gr_2, jq_gr_4, jq_gw_2, jq_s_t, jq_b_t, jg_c, jg_n, js_c, js_n, jrm_c, jrm_n, j2_i, j2_l, j2_a, jq_c_i, jq_c_l, jq_c_0, jq_c_n, jwd_le, jw_c0, mS_I, mS_R, mS_J, mN_I, mN_R, mN_J, mR_I, mI_R, mJ_I, mJ_R, mI_J, mR_J, ↓reduceIte, decide_true, or_true, true_or, and_self, false_or, or_false, reduceCtorEq, Bool.false_eq_true, and_false, false_and, eq_self, true_and, and_true, zero_ne, ↓br_lt_t, ↓br_lt_f, ↓br_eq_t, ↓br_eq_f, ↓br_lz_t, ↓br_lz_f, ↓br_ez_t, ↓br_ez_f, ↓br_gz_t, ↓br_gz_f, jw_id, jin_t, jix_t, mI_A, mI_nA, up1_s, up1_n, mS_A, mR_A, mJ_A, mN_A, setI_A, setA_A, sw_238, sw_239, sw_240, sw_241, sw_242, sw_243, sw_244, sw_245, sw_246, sw_247, sw_248, sw_249, sw_250, sw_251, Int.reduceToNat, Int.toNat_natCast, MO.s0 hm, MO.s1 hm, MO.s2 hm, MO.s3 hm, MO.s4 hm, MO.s5 hm, MO.s6 hm, MO.s7 hm, MO.s8 hm, MO.s9 hm, MO.s10 hm, MO.s11 hm, MO.s12 hm, MO.s13 hm, MO.r1 hm, MO.r2 hm, MO.r3 hm, MO.r4 hm, MO.r5 hm, MO.r6 hm, MO.r7 hm, MO.r8 hm, MO.r9 hm, MO.r10 hm, MO.r11 hm, MO.r12 hm, MO.r13 hm, MH.s hh, MH.s1 hh, MH.s2 hh, MH.s3 hh, MH.s4 hh, MH.s5 hh, MH.s6 hh, MH.s7 hh, MH.s8 hh, MH.s9 hh, MH.s10 hh, MH.s11 hh, MH.s12 hh, MH.s13 hh, MH.s14 hh, MH.s15 hh, MH.r1 hh, MH.r2 hh, MH.r3 hh, MH.r4 hh, MH.r5 hh, MH.r6 hh, MH.r7 hh, MH.r8 hh, MH.r9 hh, MH.r10 hh, MH.r11 hh, MH.r12 hh, MH.r13 hh, MH.r14 hh, MH.r15 hh, MH.f0 hh, MH.f1 hh, MH.f2 hh, MH.f3 hh, MH.f4 hh, MH.f5 hh, MH.f6 hh, MH.f7 hh, MH.f8 hh, MH.f9 hh, MH.f10 hh, MH.f11 hh, MH.f12 hh, MH.f13 hh, MH.f14 hh, MH.f15 hh, MH.f16 hh, MH.a1 hh, MH.a2 hh, MH.a3 hh, MH.a4 hh, MH.a5 hh, MH.a6 hh, MH.a7 hh, MH.a8 hh, MH.a9 hh, MH.a10 hh, MH.a11 hh, MH.a12 hh, MH.a13 hh, MH.a14 hh, MH.a15 hh, h3, e1, hjr]
theorem m_home (hm : MO w) (hh : MH w h H) (h3 : mR w 238 3 = some h) (ha : a < 245) (hs : mS w a = (2, 0, 298)) (hr : mI w a = r) (hk : HOK H) (ra : RA H B r) (rb : RB r) (rw0 : RW H r) : ∃ F Q, rn 247 (0, [(0, jvr 238), (1, jvr a)], [], w) = some (some (.inl (gHome H r)), setA (setA w 245 F) 246 Q) := by
  have h16 := ra.1
  have kc := hk.1.2.2.2.2.2.2
  have kh := hk.2.2.1.2.2.2.2.2.2
  have hb := here_ok ra rw0
  have e1 : r (0 + r 288 - 1).toNat = gHere r := rfl
  unfold gHome
  by_cases q : gHere r = H 0 12
  · refine ⟨mI w 245, mI w 246, ?_⟩
    have e0 : setA (setA w 245 (mI w 245)) 246 (mI w 246) = w := by rw [setA_self, setA_self]
    rw [if_pos q, e0]
    simp (disch := omega) only [p247_0, p247_1, p247_2, p247_3, p247_6, p247_7, p247_8, p247_9, p247_10, p247_11, p247_12, p247_13, p247_14, p247_17, p247_20, p247_23, p247_24, p247_25, p247_26, p247_27, p247_30, p247_33, p247_34, p247_37, p247_38, p247_39, p247_40, p247_42, p247_43, p247_47, p247_48, p247_51, p247_52, p247_53, p247_55, p247_58, p247_61, p247_64, p247_65, p247_68, p247_69, p247_72, p247_73, p247_75, p247_78, p247_79, p247_81, p247_83, p247_85, p247_88, p247_89, p247_90, p247_93, p247_95, p247_97, p247_100, p247_103, p247_105, p247_106, p247_108, p247_110, p247_113, p247_116, p247_117, jwd_c, jwd_0, Nat.reduceLeDiff, Nat.reduceEqDiff, Nat.reduceAdd, Nat.reduceSub, Nat.reduceMul, Int.reduceAdd, Int.reduceSub, Int.reduceMul, Int.reduceNeg, Int.reduceEq, Int.reduceLT, Int.reduceLE, jq_ldi_i, jq_ldl_l, jq_lda_a, jq_inc_i, jq_gs_t, jq_gsb_t, jq_gb_t, jq_gr_2, jq_gr_4, jq_gw_2, jq_s_t, jq_b_t, jg_c, jg_n, js_c, js_n, jrm_c, jrm_n, j2_i, j2_l, j2_a, jq_c_i, jq_c_l, jq_c_0, jq_c_n, jwd_le, jw_c0, mS_I, mS_R, mS_J, mN_I, mN_R, mN_J, mR_I, mI_R, mJ_I, mJ_R, mI_J, mR_J, ↓reduceIte, decide_true, or_true, true_or, and_self, false_or, or_false, reduceCtorEq, Bool.false_eq_true, and_false, false_and, eq_self, true_and, and_true, zero_ne, ↓br_lt_t, ↓br_lt_f, ↓br_eq_t, ↓br_eq_f, ↓br_lz_t, ↓br_lz_f, ↓br_ez_t, ↓br_ez_f, ↓br_gz_t, ↓br_gz_f, jw_id, jin_t, jix_t, mI_A, mI_nA, up1_s, up1_n, mS_A, mR_A, mJ_A, mN_A, setI_A, setA_A, sw_238, sw_239, sw_240, sw_241, sw_242, sw_243, sw_244, sw_245, sw_246, sw_247, sw_248, sw_249, sw_250, sw_251, Int.reduceToNat, Int.toNat_natCast, MO.s0 hm, MO.s1 hm, MO.s2 hm, MO.s3 hm, MO.s4 hm, MO.s5 hm, MO.s6 hm, MO.s7 hm, MO.s8 hm, MO.s9 hm, MO.s10 hm, MO.s11 hm, MO.s12 hm, MO.s13 hm, MO.r1 hm, MO.r2 hm, MO.r3 hm, MO.r4 hm, MO.r5 hm, MO.r6 hm, MO.r7 hm, MO.r8 hm, MO.r9 hm, MO.r10 hm, MO.r11 hm, MO.r12 hm, MO.r13 hm, MH.s hh, MH.s1 hh, MH.s2 hh, MH.s3 hh, MH.s4 hh, MH.s5 hh, MH.s6 hh, MH.s7 hh, MH.s8 hh, MH.s9 hh, MH.s10 hh, MH.s11 hh, MH.s12 hh, MH.s13 hh, MH.s14 hh, MH.s15 hh, MH.r1 hh, MH.r2 hh, MH.r3 hh, MH.r4 hh, MH.r5 hh, MH.r6 hh, MH.r7 hh, MH.r8 hh, MH.r9 hh, MH.r10 hh, MH.r11 hh, MH.r12 hh, MH.r13 hh, MH.r14 hh, MH.r15 hh, MH.f0 hh, MH.f1 hh, MH.f2 hh, MH.f3 hh, MH.f4 hh, MH.f5 hh, MH.f6 hh, MH.f7 hh, MH.f8 hh, MH.f9 hh, MH.f10 hh, MH.f11 hh, MH.f12 hh, MH.f13 hh, MH.f14 hh, MH.f15 hh, MH.f16 hh, MH.a1 hh, MH.a2 hh, MH.a3 hh, MH.a4 hh, MH.a5 hh, MH.a6 hh, MH.a7 hh, MH.a8 hh, MH.a9 hh, MH.a10 hh, MH.a11 hh, MH.a12 hh, MH.a13 hh, MH.a14 hh, MH.a15 hh, h3, hs, hr, e1]
  · obtain ⟨F, Q, f1, f2⟩ := m_far hm hh h3 hk (x := H 0 12) (o := none) (Bk := fun _ => False) kh.1 kh.2.1 kh.2.2.1 (Or.inl ⟨rfl, fun _ z => z⟩)
    have g1 : mI (setA (setA w 245 F) 246 Q) 245 = F := by rw [mI_nA (by omega), mI_A]
    have e4 := home_loop (w := setA (setA w 245 F) 246 Q) (a := a) (r := r) hm ((hh.A (by omega)).A (by omega)) h3 hs (by rw [mI_nA (by omega), mI_nA (by omega)]; exact hr) hk ra rb rw0 (by rw [g1]; exact f2) 4 0 (-1) 0 [] (by omega) (by omega) (Or.inl rfl) (by omega) (by omega) (by omega) (by omega)
    refine ⟨F, Q, ?_⟩
    rw [if_neg q]
    simp (disch := omega) only [p247_0, p247_1, p247_2, p247_3, p247_6, p247_7, p247_8, p247_9, p247_10, p247_11, p247_12, p247_13, p247_14, p247_17, p247_20, p247_23, p247_24, p247_25, p247_26, p247_27, p247_30, p247_33, p247_34, p247_37, p247_38, p247_39, p247_40, p247_42, p247_43, p247_47, p247_48, p247_51, p247_52, p247_53, p247_55, p247_58, p247_61, p247_64, p247_65, p247_68, p247_69, p247_72, p247_73, p247_75, p247_78, p247_79, p247_81, p247_83, p247_85, p247_88, p247_89, p247_90, p247_93, p247_95, p247_97, p247_100, p247_103, p247_105, p247_106, p247_108, p247_110, p247_113, p247_116, p247_117, jwd_c, jwd_0, Nat.reduceLeDiff, Nat.reduceEqDiff, Nat.reduceAdd, Nat.reduceSub, Nat.reduceMul, Int.reduceAdd, Int.reduceSub, Int.reduceMul, Int.reduceNeg, Int.reduceEq, Int.reduceLT, Int.reduceLE, jq_ldi_i, jq_ldl_l, jq_lda_a, jq_inc_i, jq_gs_t, jq_gsb_t, jq_gb_t, jq_gr_2, jq_gr_4, jq_gw_2, jq_s_t, jq_b_t, jg_c, jg_n, js_c, js_n, jrm_c, jrm_n, j2_i, j2_l, j2_a, jq_c_i, jq_c_l, jq_c_0, jq_c_n, jwd_le, jw_c0, mS_I, mS_R, mS_J, mN_I, mN_R, mN_J, mR_I, mI_R, mJ_I, mJ_R, mI_J, mR_J, ↓reduceIte, decide_true, or_true, true_or, and_self, false_or, or_false, reduceCtorEq, Bool.false_eq_true, and_false, false_and, eq_self, true_and, and_true, zero_ne, ↓br_lt_t, ↓br_lt_f, ↓br_eq_t, ↓br_eq_f, ↓br_lz_t, ↓br_lz_f, ↓br_ez_t, ↓br_ez_f, ↓br_gz_t, ↓br_gz_f, jw_id, jin_t, jix_t, mI_A, mI_nA, up1_s, up1_n, mS_A, mR_A, mJ_A, mN_A, setI_A, setA_A, sw_238, sw_239, sw_240, sw_241, sw_242, sw_243, sw_244, sw_245, sw_246, sw_247, sw_248, sw_249, sw_250, sw_251, Int.reduceToNat, Int.toNat_natCast, MO.s0 hm, MO.s1 hm, MO.s2 hm, MO.s3 hm, MO.s4 hm, MO.s5 hm, MO.s6 hm, MO.s7 hm, MO.s8 hm, MO.s9 hm, MO.s10 hm, MO.s11 hm, MO.s12 hm, MO.s13 hm, MO.r1 hm, MO.r2 hm, MO.r3 hm, MO.r4 hm, MO.r5 hm, MO.r6 hm, MO.r7 hm, MO.r8 hm, MO.r9 hm, MO.r10 hm, MO.r11 hm, MO.r12 hm, MO.r13 hm, MH.s hh, MH.s1 hh, MH.s2 hh, MH.s3 hh, MH.s4 hh, MH.s5 hh, MH.s6 hh, MH.s7 hh, MH.s8 hh, MH.s9 hh, MH.s10 hh, MH.s11 hh, MH.s12 hh, MH.s13 hh, MH.s14 hh, MH.s15 hh, MH.r1 hh, MH.r2 hh, MH.r3 hh, MH.r4 hh, MH.r5 hh, MH.r6 hh, MH.r7 hh, MH.r8 hh, MH.r9 hh, MH.r10 hh, MH.r11 hh, MH.r12 hh, MH.r13 hh, MH.r14 hh, MH.r15 hh, MH.f0 hh, MH.f1 hh, MH.f2 hh, MH.f3 hh, MH.f4 hh, MH.f5 hh, MH.f6 hh, MH.f7 hh, MH.f8 hh, MH.f9 hh, MH.f10 hh, MH.f11 hh, MH.f12 hh, MH.f13 hh, MH.f14 hh, MH.f15 hh, MH.f16 hh, MH.a1 hh, MH.a2 hh, MH.a3 hh, MH.a4 hh, MH.a5 hh, MH.a6 hh, MH.a7 hh, MH.a8 hh, MH.a9 hh, MH.a10 hh, MH.a11 hh, MH.a12 hh, MH.a13 hh, MH.a14 hh, MH.a15 hh, h3, hs, hr, e1, f1, e4]
theorem m_lead (hm : MO w) (hh : MH w h H) (h3 : mR w 238 3 = some h) (ha : a < 245) (ha2 : 240 < a) (hs : mS w a = (2, 0, 298)) (hr : mI w a = r) (hk : HOK H) (ra : RA H B r) (rb : RB r) (rw0 : RW H r) {L : Int} {S : Nat → Int} (hL : mI w 238 27 = L) (hS : mI w 247 = S) (l1 : 0 ≤ L) (l2 : L ≤ 12) (s1 : ∀ k, k < 12 → 0 ≤ S k ∧ S k ≤ 3) : ∃ F Q, rn 240 (0, [(0, jvr 238), (1, jvr a)], [], w) = some (some (.inl (gLead H L S r).1), setA (setA (setA w a (gLead H L S r).2) 245 F) 246 Q) := by
  have e0 : setA w a r = w := by rw [← hr]; exact setA_self w a
  have e00 : ∀ x, setA (setA (setA w a x) 245 (mI w 245)) 246 (mI w 246) = setA w a x := by
    intro x
    have z1 : mI w 245 = mI (setA w a x) 245 := (mI_nA (by omega)).symm
    have z2 : mI w 246 = mI (setA w a x) 246 := (mI_nA (by omega)).symm
    rw [z1, setA_self, z2, setA_self]
  obtain ⟨-, -, g1, g2, g3, g4, -⟩ := id ra
  have hg : r 291 = 0 ∨ r 291 = 1 ∨ r 291 = 2 ∨ r 291 = 3 ∨ r 291 = 4 ∨ r 291 = 5 := by omega
  unfold gLead
  rcases hg with q | q | q | q | q | q
  · refine ⟨mI w 245, mI w 246, ?_⟩
    have f := m_first (s1 := r 292) (s2 := r 292 + 1) (s3 := r 292 + 3) (s4 := r 292 + 2) hm hh h3 hs hr hk ra rb rw0 (by omega) (by omega) (by omega) (by omega)
    rw [if_pos q, e00]
    simp (disch := omega) only [p240_0, p240_1, p240_4, p240_5, p240_6, p240_7, p240_10, p240_11, p240_44, p240_45, p240_46, p240_47, p240_48, p240_49, p240_50, p240_51, p240_52, p240_53, p240_54, p240_55, p240_56, p240_59, p240_60, p240_61, p240_62, p240_63, p240_64, p240_65, p240_66, p240_67, p240_68, p240_69, p240_70, p240_71, p240_72, p240_75, p240_76, p240_77, p240_78, p240_79, p240_80, p240_81, p240_82, p240_83, p240_84, p240_85, p240_86, p240_87, p240_88, p240_91, p240_92, p240_93, p240_94, p240_97, p240_98, p240_99, p240_100, p240_103, p240_104, p240_105, p240_106, p240_109, jwd_c, jwd_0, Nat.reduceLeDiff, Nat.reduceEqDiff, Nat.reduceAdd, Nat.reduceSub, Nat.reduceMul, Int.reduceAdd, Int.reduceSub, Int.reduceMul, Int.reduceNeg, Int.reduceEq, Int.reduceLT, Int.reduceLE, jq_ldi_i, jq_ldl_l, jq_lda_a, jq_inc_i, jq_gs_t, jq_gsb_t, jq_gb_t, jq_gr_2, jq_gr_4, jq_gw_2, jq_s_t, jq_b_t, jg_c, jg_n, js_c, js_n, jrm_c, jrm_n, j2_i, j2_l, j2_a, jq_c_i, jq_c_l, jq_c_0, jq_c_n, jwd_le, jw_c0, mS_I, mS_R, mS_J, mN_I, mN_R, mN_J, mR_I, mI_R, mJ_I, mJ_R, mI_J, mR_J, ↓reduceIte, decide_true, or_true, true_or, and_self, false_or, or_false, reduceCtorEq, Bool.false_eq_true, and_false, false_and, eq_self, true_and, and_true, zero_ne, ↓br_lt_t, ↓br_lt_f, ↓br_eq_t, ↓br_eq_f, ↓br_lz_t, ↓br_lz_f, ↓br_ez_t, ↓br_ez_f, ↓br_gz_t, ↓br_gz_f, jw_id, jin_t, jix_t, mI_A, mI_nA, up1_s, up1_n, mS_A, mR_A, mJ_A, mN_A, setI_A, setA_A, sw_238, sw_239, sw_240, sw_241, sw_242, sw_243, sw_244, sw_245, sw_246, sw_247, sw_248, sw_249, sw_250, sw_251, Int.reduceToNat, Int.toNat_natCast, MO.s0 hm, MO.s1 hm, MO.s2 hm, MO.s3 hm, MO.s4 hm, MO.s5 hm, MO.s6 hm, MO.s7 hm, MO.s8 hm, MO.s9 hm, MO.s10 hm, MO.s11 hm, MO.s12 hm, MO.s13 hm, MO.r1 hm, MO.r2 hm, MO.r3 hm, MO.r4 hm, MO.r5 hm, MO.r6 hm, MO.r7 hm, MO.r8 hm, MO.r9 hm, MO.r10 hm, MO.r11 hm, MO.r12 hm, MO.r13 hm, hs, hr, q, f, e0]
  · refine ⟨mI w 245, mI w 246, ?_⟩
    have f := m_first (s1 := r 292 + 1) (s2 := r 292) (s3 := r 292 + 3) (s4 := r 292 + 2) hm hh h3 hs hr hk ra rb rw0 (by omega) (by omega) (by omega) (by omega)
    rw [if_neg (by omega), if_pos q, e00]
    simp (disch := omega) only [p240_0, p240_1, p240_4, p240_5, p240_6, p240_7, p240_10, p240_11, p240_44, p240_45, p240_46, p240_47, p240_48, p240_49, p240_50, p240_51, p240_52, p240_53, p240_54, p240_55, p240_56, p240_59, p240_60, p240_61, p240_62, p240_63, p240_64, p240_65, p240_66, p240_67, p240_68, p240_69, p240_70, p240_71, p240_72, p240_75, p240_76, p240_77, p240_78, p240_79, p240_80, p240_81, p240_82, p240_83, p240_84, p240_85, p240_86, p240_87, p240_88, p240_91, p240_92, p240_93, p240_94, p240_97, p240_98, p240_99, p240_100, p240_103, p240_104, p240_105, p240_106, p240_109, jwd_c, jwd_0, Nat.reduceLeDiff, Nat.reduceEqDiff, Nat.reduceAdd, Nat.reduceSub, Nat.reduceMul, Int.reduceAdd, Int.reduceSub, Int.reduceMul, Int.reduceNeg, Int.reduceEq, Int.reduceLT, Int.reduceLE, jq_ldi_i, jq_ldl_l, jq_lda_a, jq_inc_i, jq_gs_t, jq_gsb_t, jq_gb_t, jq_gr_2, jq_gr_4, jq_gw_2, jq_s_t, jq_b_t, jg_c, jg_n, js_c, js_n, jrm_c, jrm_n, j2_i, j2_l, j2_a, jq_c_i, jq_c_l, jq_c_0, jq_c_n, jwd_le, jw_c0, mS_I, mS_R, mS_J, mN_I, mN_R, mN_J, mR_I, mI_R, mJ_I, mJ_R, mI_J, mR_J, ↓reduceIte, decide_true, or_true, true_or, and_self, false_or, or_false, reduceCtorEq, Bool.false_eq_true, and_false, false_and, eq_self, true_and, and_true, zero_ne, ↓br_lt_t, ↓br_lt_f, ↓br_eq_t, ↓br_eq_f, ↓br_lz_t, ↓br_lz_f, ↓br_ez_t, ↓br_ez_f, ↓br_gz_t, ↓br_gz_f, jw_id, jin_t, jix_t, mI_A, mI_nA, up1_s, up1_n, mS_A, mR_A, mJ_A, mN_A, setI_A, setA_A, sw_238, sw_239, sw_240, sw_241, sw_242, sw_243, sw_244, sw_245, sw_246, sw_247, sw_248, sw_249, sw_250, sw_251, Int.reduceToNat, Int.toNat_natCast, MO.s0 hm, MO.s1 hm, MO.s2 hm, MO.s3 hm, MO.s4 hm, MO.s5 hm, MO.s6 hm, MO.s7 hm, MO.s8 hm, MO.s9 hm, MO.s10 hm, MO.s11 hm, MO.s12 hm, MO.s13 hm, MO.r1 hm, MO.r2 hm, MO.r3 hm, MO.r4 hm, MO.r5 hm, MO.r6 hm, MO.r7 hm, MO.r8 hm, MO.r9 hm, MO.r10 hm, MO.r11 hm, MO.r12 hm, MO.r13 hm, hs, hr, q, f, e0]
  · refine ⟨mI w 245, mI w 246, ?_⟩
    have f := m_first (s1 := r 292 + 3) (s2 := r 292) (s3 := r 292 + 1) (s4 := r 292 + 2) hm hh h3 hs hr hk ra rb rw0 (by omega) (by omega) (by omega) (by omega)
    rw [if_neg (by omega), if_neg (by omega), if_pos q, e00]
    simp (disch := omega) only [p240_0, p240_1, p240_4, p240_5, p240_6, p240_7, p240_10, p240_11, p240_44, p240_45, p240_46, p240_47, p240_48, p240_49, p240_50, p240_51, p240_52, p240_53, p240_54, p240_55, p240_56, p240_59, p240_60, p240_61, p240_62, p240_63, p240_64, p240_65, p240_66, p240_67, p240_68, p240_69, p240_70, p240_71, p240_72, p240_75, p240_76, p240_77, p240_78, p240_79, p240_80, p240_81, p240_82, p240_83, p240_84, p240_85, p240_86, p240_87, p240_88, p240_91, p240_92, p240_93, p240_94, p240_97, p240_98, p240_99, p240_100, p240_103, p240_104, p240_105, p240_106, p240_109, jwd_c, jwd_0, Nat.reduceLeDiff, Nat.reduceEqDiff, Nat.reduceAdd, Nat.reduceSub, Nat.reduceMul, Int.reduceAdd, Int.reduceSub, Int.reduceMul, Int.reduceNeg, Int.reduceEq, Int.reduceLT, Int.reduceLE, jq_ldi_i, jq_ldl_l, jq_lda_a, jq_inc_i, jq_gs_t, jq_gsb_t, jq_gb_t, jq_gr_2, jq_gr_4, jq_gw_2, jq_s_t, jq_b_t, jg_c, jg_n, js_c, js_n, jrm_c, jrm_n, j2_i, j2_l, j2_a, jq_c_i, jq_c_l, jq_c_0, jq_c_n, jwd_le, jw_c0, mS_I, mS_R, mS_J, mN_I, mN_R, mN_J, mR_I, mI_R, mJ_I, mJ_R, mI_J, mR_J, ↓reduceIte, decide_true, or_true, true_or, and_self, false_or, or_false, reduceCtorEq, Bool.false_eq_true, and_false, false_and, eq_self, true_and, and_true, zero_ne, ↓br_lt_t, ↓br_lt_f, ↓br_eq_t, ↓br_eq_f, ↓br_lz_t, ↓br_lz_f, ↓br_ez_t, ↓br_ez_f, ↓br_gz_t, ↓br_gz_f, jw_id, jin_t, jix_t, mI_A, mI_nA, up1_s, up1_n, mS_A, mR_A, mJ_A, mN_A, setI_A, setA_A, sw_238, sw_239, sw_240, sw_241, sw_242, sw_243, sw_244, sw_245, sw_246, sw_247, sw_248, sw_249, sw_250, sw_251, Int.reduceToNat, Int.toNat_natCast, MO.s0 hm, MO.s1 hm, MO.s2 hm, MO.s3 hm, MO.s4 hm, MO.s5 hm, MO.s6 hm, MO.s7 hm, MO.s8 hm, MO.s9 hm, MO.s10 hm, MO.s11 hm, MO.s12 hm, MO.s13 hm, MO.r1 hm, MO.r2 hm, MO.r3 hm, MO.r4 hm, MO.r5 hm, MO.r6 hm, MO.r7 hm, MO.r8 hm, MO.r9 hm, MO.r10 hm, MO.r11 hm, MO.r12 hm, MO.r13 hm, hs, hr, q, f, e0]
  · refine ⟨mI w 245, mI w 246, ?_⟩
    have f := m_lot hm hh h3 (by omega) hs hr hk ra rb rw0
    rw [if_neg (by omega), if_neg (by omega), if_neg (by omega), if_pos q, e00]
    simp (disch := omega) only [p240_0, p240_1, p240_4, p240_5, p240_6, p240_7, p240_10, p240_11, p240_44, p240_45, p240_46, p240_47, p240_48, p240_49, p240_50, p240_51, p240_52, p240_53, p240_54, p240_55, p240_56, p240_59, p240_60, p240_61, p240_62, p240_63, p240_64, p240_65, p240_66, p240_67, p240_68, p240_69, p240_70, p240_71, p240_72, p240_75, p240_76, p240_77, p240_78, p240_79, p240_80, p240_81, p240_82, p240_83, p240_84, p240_85, p240_86, p240_87, p240_88, p240_91, p240_92, p240_93, p240_94, p240_97, p240_98, p240_99, p240_100, p240_103, p240_104, p240_105, p240_106, p240_109, jwd_c, jwd_0, Nat.reduceLeDiff, Nat.reduceEqDiff, Nat.reduceAdd, Nat.reduceSub, Nat.reduceMul, Int.reduceAdd, Int.reduceSub, Int.reduceMul, Int.reduceNeg, Int.reduceEq, Int.reduceLT, Int.reduceLE, jq_ldi_i, jq_ldl_l, jq_lda_a, jq_inc_i, jq_gs_t, jq_gsb_t, jq_gb_t, jq_gr_2, jq_gr_4, jq_gw_2, jq_s_t, jq_b_t, jg_c, jg_n, js_c, js_n, jrm_c, jrm_n, j2_i, j2_l, j2_a, jq_c_i, jq_c_l, jq_c_0, jq_c_n, jwd_le, jw_c0, mS_I, mS_R, mS_J, mN_I, mN_R, mN_J, mR_I, mI_R, mJ_I, mJ_R, mI_J, mR_J, ↓reduceIte, decide_true, or_true, true_or, and_self, false_or, or_false, reduceCtorEq, Bool.false_eq_true, and_false, false_and, eq_self, true_and, and_true, zero_ne, ↓br_lt_t, ↓br_lt_f, ↓br_eq_t, ↓br_eq_f, ↓br_lz_t, ↓br_lz_f, ↓br_ez_t, ↓br_ez_f, ↓br_gz_t, ↓br_gz_f, jw_id, jin_t, jix_t, mI_A, mI_nA, up1_s, up1_n, mS_A, mR_A, mJ_A, mN_A, setI_A, setA_A, sw_238, sw_239, sw_240, sw_241, sw_242, sw_243, sw_244, sw_245, sw_246, sw_247, sw_248, sw_249, sw_250, sw_251, Int.reduceToNat, Int.toNat_natCast, MO.s0 hm, MO.s1 hm, MO.s2 hm, MO.s3 hm, MO.s4 hm, MO.s5 hm, MO.s6 hm, MO.s7 hm, MO.s8 hm, MO.s9 hm, MO.s10 hm, MO.s11 hm, MO.s12 hm, MO.s13 hm, MO.r1 hm, MO.r2 hm, MO.r3 hm, MO.r4 hm, MO.r5 hm, MO.r6 hm, MO.r7 hm, MO.r8 hm, MO.r9 hm, MO.r10 hm, MO.r11 hm, MO.r12 hm, MO.r13 hm, hs, hr, q, f]
  · obtain ⟨F, Q, f⟩ := m_home hm hh h3 ha hs hr hk ra rb rw0
    refine ⟨F, Q, ?_⟩
    rw [if_neg (by omega), if_neg (by omega), if_neg (by omega), if_neg (by omega), if_pos q]
    simp (disch := omega) only [p240_0, p240_1, p240_4, p240_5, p240_6, p240_7, p240_10, p240_11, p240_44, p240_45, p240_46, p240_47, p240_48, p240_49, p240_50, p240_51, p240_52, p240_53, p240_54, p240_55, p240_56, p240_59, p240_60, p240_61, p240_62, p240_63, p240_64, p240_65, p240_66, p240_67, p240_68, p240_69, p240_70, p240_71, p240_72, p240_75, p240_76, p240_77, p240_78, p240_79, p240_80, p240_81, p240_82, p240_83, p240_84, p240_85, p240_86, p240_87, p240_88, p240_91, p240_92, p240_93, p240_94, p240_97, p240_98, p240_99, p240_100, p240_103, p240_104, p240_105, p240_106, p240_109, jwd_c, jwd_0, Nat.reduceLeDiff, Nat.reduceEqDiff, Nat.reduceAdd, Nat.reduceSub, Nat.reduceMul, Int.reduceAdd, Int.reduceSub, Int.reduceMul, Int.reduceNeg, Int.reduceEq, Int.reduceLT, Int.reduceLE, jq_ldi_i, jq_ldl_l, jq_lda_a, jq_inc_i, jq_gs_t, jq_gsb_t, jq_gb_t, jq_gr_2, jq_gr_4, jq_gw_2, jq_s_t, jq_b_t, jg_c, jg_n, js_c, js_n, jrm_c, jrm_n, j2_i, j2_l, j2_a, jq_c_i, jq_c_l, jq_c_0, jq_c_n, jwd_le, jw_c0, mS_I, mS_R, mS_J, mN_I, mN_R, mN_J, mR_I, mI_R, mJ_I, mJ_R, mI_J, mR_J, ↓reduceIte, decide_true, or_true, true_or, and_self, false_or, or_false, reduceCtorEq, Bool.false_eq_true, and_false, false_and, eq_self, true_and, and_true, zero_ne, ↓br_lt_t, ↓br_lt_f, ↓br_eq_t, ↓br_eq_f, ↓br_lz_t, ↓br_lz_f, ↓br_ez_t, ↓br_ez_f, ↓br_gz_t, ↓br_gz_f, jw_id, jin_t, jix_t, mI_A, mI_nA, up1_s, up1_n, mS_A, mR_A, mJ_A, mN_A, setI_A, setA_A, sw_238, sw_239, sw_240, sw_241, sw_242, sw_243, sw_244, sw_245, sw_246, sw_247, sw_248, sw_249, sw_250, sw_251, Int.reduceToNat, Int.toNat_natCast, MO.s0 hm, MO.s1 hm, MO.s2 hm, MO.s3 hm, MO.s4 hm, MO.s5 hm, MO.s6 hm, MO.s7 hm, MO.s8 hm, MO.s9 hm, MO.s10 hm, MO.s11 hm, MO.s12 hm, MO.s13 hm, MO.r1 hm, MO.r2 hm, MO.r3 hm, MO.r4 hm, MO.r5 hm, MO.r6 hm, MO.r7 hm, MO.r8 hm, MO.r9 hm, MO.r10 hm, MO.r11 hm, MO.r12 hm, MO.r13 hm, hs, hr, q, f, e0]
  · refine ⟨mI w 245, mI w 246, ?_⟩
    have f := m_told hm hh h3 (by omega) ha2 hs hr hk ra rb rw0 hL hS l1 l2 s1
    rw [if_neg (by omega), if_neg (by omega), if_neg (by omega), if_neg (by omega), if_neg (by omega), e00]
    simp (disch := omega) only [p240_0, p240_1, p240_4, p240_5, p240_6, p240_7, p240_10, p240_11, p240_44, p240_45, p240_46, p240_47, p240_48, p240_49, p240_50, p240_51, p240_52, p240_53, p240_54, p240_55, p240_56, p240_59, p240_60, p240_61, p240_62, p240_63, p240_64, p240_65, p240_66, p240_67, p240_68, p240_69, p240_70, p240_71, p240_72, p240_75, p240_76, p240_77, p240_78, p240_79, p240_80, p240_81, p240_82, p240_83, p240_84, p240_85, p240_86, p240_87, p240_88, p240_91, p240_92, p240_93, p240_94, p240_97, p240_98, p240_99, p240_100, p240_103, p240_104, p240_105, p240_106, p240_109, jwd_c, jwd_0, Nat.reduceLeDiff, Nat.reduceEqDiff, Nat.reduceAdd, Nat.reduceSub, Nat.reduceMul, Int.reduceAdd, Int.reduceSub, Int.reduceMul, Int.reduceNeg, Int.reduceEq, Int.reduceLT, Int.reduceLE, jq_ldi_i, jq_ldl_l, jq_lda_a, jq_inc_i, jq_gs_t, jq_gsb_t, jq_gb_t, jq_gr_2, jq_gr_4, jq_gw_2, jq_s_t, jq_b_t, jg_c, jg_n, js_c, js_n, jrm_c, jrm_n, j2_i, j2_l, j2_a, jq_c_i, jq_c_l, jq_c_0, jq_c_n, jwd_le, jw_c0, mS_I, mS_R, mS_J, mN_I, mN_R, mN_J, mR_I, mI_R, mJ_I, mJ_R, mI_J, mR_J, ↓reduceIte, decide_true, or_true, true_or, and_self, false_or, or_false, reduceCtorEq, Bool.false_eq_true, and_false, false_and, eq_self, true_and, and_true, zero_ne, ↓br_lt_t, ↓br_lt_f, ↓br_eq_t, ↓br_eq_f, ↓br_lz_t, ↓br_lz_f, ↓br_ez_t, ↓br_ez_f, ↓br_gz_t, ↓br_gz_f, jw_id, jin_t, jix_t, mI_A, mI_nA, up1_s, up1_n, mS_A, mR_A, mJ_A, mN_A, setI_A, setA_A, sw_238, sw_239, sw_240, sw_241, sw_242, sw_243, sw_244, sw_245, sw_246, sw_247, sw_248, sw_249, sw_250, sw_251, Int.reduceToNat, Int.toNat_natCast, MO.s0 hm, MO.s1 hm, MO.s2 hm, MO.s3 hm, MO.s4 hm, MO.s5 hm, MO.s6 hm, MO.s7 hm, MO.s8 hm, MO.s9 hm, MO.s10 hm, MO.s11 hm, MO.s12 hm, MO.s13 hm, MO.r1 hm, MO.r2 hm, MO.r3 hm, MO.r4 hm, MO.r5 hm, MO.r6 hm, MO.r7 hm, MO.r8 hm, MO.r9 hm, MO.r10 hm, MO.r11 hm, MO.r12 hm, MO.r13 hm, hs, hr, q, f]
theorem gNth_ok (p : Int → Prop) : ∀ (k : Nat) (s l : Int), gNth p k s l = -1 ∨ (s ≤ gNth p k s l ∧ gNth p k s l < s + k ∧ p (gNth p k s l)) := by
  intro k
  induction k with
  | zero => intro s l; exact Or.inl rfl
  | succ k ih =>
    intro s l
    have e : gNth p (k + 1) s l = ci (p s ∧ l ≤ 0) s (gNth p k (s + 1) (l - bi (p s))) := rfl
    rw [e]
    by_cases q : p s ∧ l ≤ 0
    · rw [ci_t q]
      exact Or.inr ⟨by omega, by omega, q.1⟩
    · rw [ci_f q]
      rcases ih (s + 1) (l - bi (p s)) with z | ⟨z1, z2, z3⟩
      · exact Or.inl z
      · exact Or.inr ⟨by omega, by omega, z3⟩
theorem gHm_ok (p : Int → Prop) (D : Int → Int) : ∀ (k : Nat) (s b l : Int), gHm p D k s b l = b ∨ (s ≤ gHm p D k s b l ∧ gHm p D k s b l < s + k ∧ p (gHm p D k s b l)) := by
  intro k
  induction k with
  | zero => intro s b l; exact Or.inl rfl
  | succ k ih =>
    intro s b l
    have e : gHm p D (k + 1) s b l = ci (p s ∧ D s ≠ -2 ∧ (b = -1 ∨ D s < l)) (gHm p D k (s + 1) s (D s)) (gHm p D k (s + 1) b l) := rfl
    rw [e]
    by_cases q : p s ∧ D s ≠ -2 ∧ (b = -1 ∨ D s < l)
    · rw [ci_t q]
      rcases ih (s + 1) s (D s) with z | ⟨z1, z2, z3⟩
      · rw [z]
        exact Or.inr ⟨by omega, by omega, q.1⟩
      · exact Or.inr ⟨by omega, by omega, z3⟩
    · rw [ci_f q]
      rcases ih (s + 1) b l with z | ⟨z1, z2, z3⟩
      · exact Or.inl z
      · exact Or.inr ⟨by omega, by omega, z3⟩
theorem gCG_mod {s : Int} (h : gCG H r s) : gCG H r (s % 4) := by
  unfold gCG at h ⊢
  rw [gTo_mod]
  exact h
theorem gFirst_ok (s1 s2 s3 s4 : Int) : gFirst H r s1 s2 s3 s4 = -1 ∨ (0 ≤ gFirst H r s1 s2 s3 s4 ∧ gFirst H r s1 s2 s3 s4 < 4 ∧ gCG H r (gFirst H r s1 s2 s3 s4)) := by
  unfold gFirst
  by_cases q1 : gCG H r s1
  · rw [ci_t q1]
    exact Or.inr ⟨by omega, by omega, gCG_mod q1⟩
  · rw [ci_f q1]
    by_cases q2 : gCG H r s2
    · rw [ci_t q2]
      exact Or.inr ⟨by omega, by omega, gCG_mod q2⟩
    · rw [ci_f q2]
      by_cases q3 : gCG H r s3
      · rw [ci_t q3]
        exact Or.inr ⟨by omega, by omega, gCG_mod q3⟩
      · rw [ci_f q3]
        by_cases q4 : gCG H r s4
        · rw [ci_t q4]
          exact Or.inr ⟨by omega, by omega, gCG_mod q4⟩
        · rw [ci_f q4]
          exact Or.inl rfl
/-- what leads changes, and that the side it names can be gone to -/
theorem gLead_ok {L : Int} {S : Nat → Int} (l2 : L ≤ 12) (s1 : ∀ k, k < 12 → 0 ≤ S k ∧ S k ≤ 3) (ra : RA H B r) : ((gLead H L S r).1 = -1 ∨ (0 ≤ (gLead H L S r).1 ∧ (gLead H L S r).1 < 4 ∧ gCG H r (gLead H L S r).1)) ∧ RA H B (gLead H L S r).2 ∧ ∀ k, k ≠ 293 → k ≠ 295 → (gLead H L S r).2 k = r k := by
  have hdb := gDr_bd (r := r) ra.2.2.2.2.2.2.2.2.2.2.1
  obtain ⟨-, -, -, -, -, -, g1, g2, -⟩ := id ra
  unfold gLead
  split
  · exact ⟨gFirst_ok _ _ _ _, ra, fun k _ _ => rfl⟩
  split
  · exact ⟨gFirst_ok _ _ _ _, ra, fun k _ _ => rfl⟩
  split
  · exact ⟨gFirst_ok _ _ _ _, ra, fun k _ _ => rfl⟩
  split
  · unfold gLot
    split
    · exact ⟨Or.inl rfl, ra, fun k _ _ => rfl⟩
    · refine ⟨?_, ra.seed hdb.1 hdb.2, fun k k1 k2 => up1_n k2⟩
      rcases gNth_ok (gCG H r) 4 0 (gDr r % gCnt (gCG H r) 4 0) with z | ⟨z1, z2, z3⟩
      · exact Or.inl z
      · exact Or.inr ⟨z1, by omega, z3⟩
  split
  · refine ⟨?_, ra, fun k _ _ => rfl⟩
    unfold gHome
    split
    · exact Or.inl rfl
    · rcases gHm_ok (gCG H r) (gHd H r) 4 0 (-1) 0 with z | ⟨z1, z2, z3⟩
      · exact Or.inl z
      · exact Or.inr ⟨z1, by omega, z3⟩
  · unfold gTold
    split
    · rename_i z
      refine ⟨?_, ra.gone (by omega) (by omega), fun k k1 k2 => up1_n k1⟩
      by_cases q : gCG H r (S (r 293).toNat)
      · have := s1 (r 293).toNat (by omega)
        show ci _ _ _ = -1 ∨ _
        rw [ci_t q]
        exact Or.inr ⟨by omega, by omega, q⟩
      · show ci _ _ _ = -1 ∨ _
        rw [ci_f q]
        exact Or.inl rfl
    · exact ⟨Or.inl rfl, ra, fun k _ _ => rfl⟩
end LEAD
