/-! The class: so many beats. -/
abbrev gZ : Type := gX × Int × Int × Int × Int × Int
/-- a beat of the Future: what the model's beat does, and what is counted -/
noncomputable def gF1 (H : Nat → Nat → Int) (L : Int) (S : Nat → Int) (p : Int) (z : gZ) : gZ :=
  if 0 < gOver z.1.1 then (z.1, z.2.1, z.2.2.1 + 1, z.2.2.2.1, z.2.2.2.2.1, z.2.2.2.2.2)
  else (gBeat H L S (if 0 ≤ p then p else 0) (if 0 < z.2.1 then 1 else 0) z.1, if 0 < z.2.1 then z.2.1 - 1 else z.2.1, z.2.2.1 + 1, if (gBeat H L S (if 0 ≤ p then p else 0) (if 0 < z.2.1 then 1 else 0) z.1).2.2.2.2 ≠ -1 ∧ z.2.2.2.1 < 0 then z.2.2.1 else z.2.2.2.1, if (gBeat H L S (if 0 ≤ p then p else 0) (if 0 < z.2.1 then 1 else 0) z.1).2.2.2.2 ≠ -1 ∧ z.2.2.2.1 < 0 then (gBeat H L S (if 0 ≤ p then p else 0) (if 0 < z.2.1 then 1 else 0) z.1).2.2.2.2 else z.2.2.2.2.1, if (gBeat H L S (if 0 ≤ p then p else 0) (if 0 < z.2.1 then 1 else 0) z.1).1 297 = 1 then z.2.2.1 + 1 else z.2.2.2.2.2)
noncomputable def gFr (H : Nat → Nat → Int) (L : Int) (S : Nat → Int) (p : Int) : Nat → gZ → gZ
  | 0, z => z
  | n + 1, z => gFr H L S p n (gF1 H L S p z)
/-- the Future, whole -/
def FF (w : jmW) (H : Nat → Nat → Int) (L : Int) (S : Nat → Int) (p : Int) (z : gZ) : Prop := FS w H L S z.1.1 z.1.2.1 (gOver z.1.1) ∧ FO w p z.2.1 z.2.2.1 z.2.2.2.1 z.2.2.2.2.1 z.1.2.2.1 z.1.2.2.2.1 z.2.2.2.2.2
/-- numbers that stay small -/
def ZB (H : Nat → Nat → Int) (B : Int) (p : Int) (z : gZ) : Prop := RI H B z.1.1 ∧ (p = -1 ∨ (1 ≤ p ∧ p ≤ 3)) ∧ (0 ≤ z.2.1 ∧ z.2.1 ≤ 4) ∧ (0 ≤ z.2.2.1 ∧ z.2.2.1 ≤ B) ∧ (-2 ≤ z.2.2.2.1 ∧ z.2.2.2.1 ≤ B)
section RUN
variable {w u : jmW} {H : Nat → Nat → Int} {L : Int} {S r g : Nat → Int} {c : Int} {B : Int} {p s b ta tw o j ri : Int}
theorem h_pace {b2 : Nat} (hc : CH w b2 H) (hk : HOK H) {n : Int} (n1 : 0 ≤ n) (n2 : n < 2147483648) : rn 85 (0, [(0, jvr b2), (1, .inl n)], [], w) = some (some (.inl (H 27 (n % H 0 5).toNat)), w) := by
  have k := hk.2.1
  have e0 := sg_count hc.g3
  rw [show (((H 0 5).toNat : Nat) : Int) = H 0 5 by omega] at e0
  have m1 : 0 ≤ n % H 0 5 := Int.emod_nonneg _ (by omega)
  have m2 : n % H 0 5 < H 0 5 := Int.emod_lt_of_pos _ (by omega)
  have e1 := sg_in hc.g3 (l := n % H 0 5) (k := 0) m1 (by omega) (by omega) (by omega)
  have e2 : n.tmod (H 0 5) = n % H 0 5 := tmod_nn n1
  simp (disch := omega) only [p85_0, p85_1, p85_4, p85_7, p85_8, p85_9, p85_10, p85_13, p85_14, p85_17, p85_18, p85_21, p85_22, p85_25, p85_26, p85_27, p85_28, p85_29, p85_32, jwd_c, jwd_0, Nat.reduceLeDiff, Nat.reduceEqDiff, Nat.reduceAdd, Nat.reduceSub, Nat.reduceMul, Int.reduceAdd, Int.reduceSub, Int.reduceMul, Int.reduceNeg, Int.reduceEq, Int.reduceLT, Int.reduceLE, jq_ldi_i, jq_ldl_l, jq_lda_a, jq_inc_i, jq_gs_t, jq_gsb_t, jq_gb_t, jq_gr_2, jq_gr_4, jq_gw_2, jq_s_t, jq_b_t, jg_c, jg_n, js_c, js_n, jrm_c, jrm_n, j2_i, j2_l, j2_a, jq_c_i, jq_c_l, jq_c_0, jq_c_n, jwd_le, jw_c0, mS_I, mS_R, mS_J, mN_I, mN_R, mN_J, mR_I, mI_R, mJ_I, mJ_R, mI_J, mR_J, ↓reduceIte, decide_true, or_true, true_or, and_self, false_or, or_false, reduceCtorEq, Bool.false_eq_true, and_false, false_and, eq_self, true_and, and_true, zero_ne, ↓br_lt_t, ↓br_lt_f, ↓br_eq_t, ↓br_eq_f, ↓br_lz_t, ↓br_lz_f, ↓br_ez_t, ↓br_ez_f, ↓br_gz_t, ↓br_gz_f, jw_id, jin_t, jix_t, ↓ite_t, ↓ite_f, CH.s hc, CH.r0 hc, CH.r1 hc, CH.r2 hc, CH.r3 hc, CH.r4 hc, CH.r5 hc, CH.r6 hc, CH.r7 hc, CH.f8 hc, CH.f9 hc, CH.f10 hc, CH.f11 hc, CH.f12 hc, CH.f14 hc, CH.f15 hc, CH.f16 hc, CH.f17 hc, CH.t1 hc, CH.t3 hc, CH.t5 hc, CH.t7 hc, CH.t9 hc, CH.t11 hc, CH.t13 hc, CH.t15 hc, e0, e2, e1]
theorem cr_beat {a T : Nat} (h : CR w a T c r) : mI w a 3 = r 294 := h.2.2.2.2.2.2.2.1
theorem f_due (hf : FS w H L S r g c) (ho : FO w p s b ta tw o j ri) (hk : HOK H) (ra : RA H B r) (hB : B < 2147483600) (hp : p = -1 ∨ (1 ≤ p ∧ p ≤ 3)) (hs : 0 ≤ s ∧ s ≤ 4) : ∃ u, rn 84 (0, [(0, jvr 118)], [], w) = some (some (.inl (gSteps H r (if 0 ≤ p then p else 0) (if 0 < s then 1 else 0))), u) ∧ FS u H L S r g c ∧ FO u p (if 0 < s then s - 1 else s) b ta tw o j ri ∧ Fr (fun b => b = 118) w u := by
  have r94 := ra.2.2.2.2.2.2.2.2.1
  have r94b := ra.2.2.2.2.2.2.2.2.2.1
  obtain ⟨o1, o2, o3, o4, o5, o6, o7, o8⟩ := ho
  unfold gSteps
  by_cases q1 : 0 < s
  · rw [if_pos q1, if_pos q1, if_neg (by omega)]
    refine ⟨setI w 118 8 (s - 1), ?_, hf.fl, ⟨by rw [mI_nk (by omega)]; exact o1, mI_s _ _ _ _, by rw [mI_nk (by omega)]; exact o3, by rw [mI_nk (by omega)]; exact o4, by rw [mI_nk (by omega)]; exact o5, by rw [mI_nk (by omega)]; exact o6, by rw [mI_nk (by omega)]; exact o7, by rw [mI_nk (by omega)]; exact o8⟩, Fr.I rfl⟩
    simp (disch := omega) only [p84_0, p84_1, p84_4, p84_7, p84_8i, p84_8a, p84_9, p84_12, p84_13, p84_14, p84_17, p84_18, p84_19, p84_20, p84_23, p84_26, p84_27, p84_30, p84_33, p84_34, p84_37, p84_38, p84_41, p84_44, p84_47, jwd_c, jwd_0, Nat.reduceLeDiff, Nat.reduceEqDiff, Nat.reduceAdd, Nat.reduceSub, Nat.reduceMul, Int.reduceAdd, Int.reduceSub, Int.reduceMul, Int.reduceNeg, Int.reduceEq, Int.reduceLT, Int.reduceLE, jq_ldi_i, jq_ldl_l, jq_lda_a, jq_inc_i, jq_gs_t, jq_gsb_t, jq_gb_t, jq_gr_2, jq_gr_4, jq_gw_2, jq_s_t, jq_b_t, jg_c, jg_n, js_c, js_n, jrm_c, jrm_n, j2_i, j2_l, j2_a, jq_c_i, jq_c_l, jq_c_0, jq_c_n, jwd_le, jw_c0, mS_I, mS_R, mS_J, mN_I, mN_R, mN_J, mR_I, mI_R, mJ_I, mJ_R, mI_J, mR_J, ↓reduceIte, decide_true, or_true, true_or, and_self, false_or, or_false, reduceCtorEq, Bool.false_eq_true, and_false, false_and, eq_self, true_and, and_true, zero_ne, ↓br_lt_t, ↓br_lt_f, ↓br_eq_t, ↓br_eq_f, ↓br_lz_t, ↓br_lz_f, ↓br_ez_t, ↓br_ez_f, ↓br_gz_t, ↓br_gz_f, jw_id, jin_t, jix_t, FS.s hf, FS.r0 hf, FS.r1 hf, FS.r2 hf, FS.r3 hf, FS.r4 hf, FS.r5 hf, FS.r6 hf, FS.x119 hf, FS.x119p hf, FS.x119k hf, FS.x119t hf, FS.x120 hf, FS.x122 hf, FS.x124 hf, FS.x126 hf, FS.x130 hf, FS.x128 hf, FS.x132 hf, FS.x134 hf, FS.x84 hf, FS.x84r0 hf, FS.x85 hf, FS.x84r1 hf, FS.x87 hf, FS.x84r2 hf, FS.x89 hf, FS.x84r3 hf, FS.x91 hf, FS.x84r4 hf, FS.x93 hf, FS.x84r5 hf, FS.x95 hf, FS.x84r6 hf, FS.x97 hf, FS.x84r7 hf, FS.x99 hf, FS.x84f8 hf, FS.x84f9 hf, FS.x84f10 hf, FS.x84f11 hf, FS.x84f12 hf, FS.x84f14 hf, FS.x84f15 hf, FS.x84f16 hf, FS.x84f17 hf, o2]
  · rw [if_neg q1, if_neg q1, if_pos rfl]
    refine ⟨w, ?_, hf, ⟨o1, o2, o3, o4, o5, o6, o7, o8⟩, Fr.rf _ _⟩
    rcases hp with hp | hp
    · rw [if_neg (by omega)]
      have e := h_pace hf.ch hk (n := r 294) r94 (by omega)
      have e2 := cr_beat hf.cr
      simp (disch := omega) only [p84_0, p84_1, p84_4, p84_7, p84_8i, p84_8a, p84_9, p84_12, p84_13, p84_14, p84_17, p84_18, p84_19, p84_20, p84_23, p84_26, p84_27, p84_30, p84_33, p84_34, p84_37, p84_38, p84_41, p84_44, p84_47, jwd_c, jwd_0, Nat.reduceLeDiff, Nat.reduceEqDiff, Nat.reduceAdd, Nat.reduceSub, Nat.reduceMul, Int.reduceAdd, Int.reduceSub, Int.reduceMul, Int.reduceNeg, Int.reduceEq, Int.reduceLT, Int.reduceLE, jq_ldi_i, jq_ldl_l, jq_lda_a, jq_inc_i, jq_gs_t, jq_gsb_t, jq_gb_t, jq_gr_2, jq_gr_4, jq_gw_2, jq_s_t, jq_b_t, jg_c, jg_n, js_c, js_n, jrm_c, jrm_n, j2_i, j2_l, j2_a, jq_c_i, jq_c_l, jq_c_0, jq_c_n, jwd_le, jw_c0, mS_I, mS_R, mS_J, mN_I, mN_R, mN_J, mR_I, mI_R, mJ_I, mJ_R, mI_J, mR_J, ↓reduceIte, decide_true, or_true, true_or, and_self, false_or, or_false, reduceCtorEq, Bool.false_eq_true, and_false, false_and, eq_self, true_and, and_true, zero_ne, ↓br_lt_t, ↓br_lt_f, ↓br_eq_t, ↓br_eq_f, ↓br_lz_t, ↓br_lz_f, ↓br_ez_t, ↓br_ez_f, ↓br_gz_t, ↓br_gz_f, jw_id, jin_t, jix_t, FS.s hf, FS.r0 hf, FS.r1 hf, FS.r2 hf, FS.r3 hf, FS.r4 hf, FS.r5 hf, FS.r6 hf, FS.x119 hf, FS.x119p hf, FS.x119k hf, FS.x119t hf, FS.x120 hf, FS.x122 hf, FS.x124 hf, FS.x126 hf, FS.x130 hf, FS.x128 hf, FS.x132 hf, FS.x134 hf, FS.x84 hf, FS.x84r0 hf, FS.x85 hf, FS.x84r1 hf, FS.x87 hf, FS.x84r2 hf, FS.x89 hf, FS.x84r3 hf, FS.x91 hf, FS.x84r4 hf, FS.x93 hf, FS.x84r5 hf, FS.x95 hf, FS.x84r6 hf, FS.x97 hf, FS.x84r7 hf, FS.x99 hf, FS.x84f8 hf, FS.x84f9 hf, FS.x84f10 hf, FS.x84f11 hf, FS.x84f12 hf, FS.x84f14 hf, FS.x84f15 hf, FS.x84f16 hf, FS.x84f17 hf, o2, o1, e2, e]
    · rw [if_pos (by omega), if_pos (by omega)]
      simp (disch := omega) only [p84_0, p84_1, p84_4, p84_7, p84_8i, p84_8a, p84_9, p84_12, p84_13, p84_14, p84_17, p84_18, p84_19, p84_20, p84_23, p84_26, p84_27, p84_30, p84_33, p84_34, p84_37, p84_38, p84_41, p84_44, p84_47, jwd_c, jwd_0, Nat.reduceLeDiff, Nat.reduceEqDiff, Nat.reduceAdd, Nat.reduceSub, Nat.reduceMul, Int.reduceAdd, Int.reduceSub, Int.reduceMul, Int.reduceNeg, Int.reduceEq, Int.reduceLT, Int.reduceLE, jq_ldi_i, jq_ldl_l, jq_lda_a, jq_inc_i, jq_gs_t, jq_gsb_t, jq_gb_t, jq_gr_2, jq_gr_4, jq_gw_2, jq_s_t, jq_b_t, jg_c, jg_n, js_c, js_n, jrm_c, jrm_n, j2_i, j2_l, j2_a, jq_c_i, jq_c_l, jq_c_0, jq_c_n, jwd_le, jw_c0, mS_I, mS_R, mS_J, mN_I, mN_R, mN_J, mR_I, mI_R, mJ_I, mJ_R, mI_J, mR_J, ↓reduceIte, decide_true, or_true, true_or, and_self, false_or, or_false, reduceCtorEq, Bool.false_eq_true, and_false, false_and, eq_self, true_and, and_true, zero_ne, ↓br_lt_t, ↓br_lt_f, ↓br_eq_t, ↓br_eq_f, ↓br_lz_t, ↓br_lz_f, ↓br_ez_t, ↓br_ez_f, ↓br_gz_t, ↓br_gz_f, jw_id, jin_t, jix_t, FS.s hf, FS.r0 hf, FS.r1 hf, FS.r2 hf, FS.r3 hf, FS.r4 hf, FS.r5 hf, FS.r6 hf, FS.x119 hf, FS.x119p hf, FS.x119k hf, FS.x119t hf, FS.x120 hf, FS.x122 hf, FS.x124 hf, FS.x126 hf, FS.x130 hf, FS.x128 hf, FS.x132 hf, FS.x134 hf, FS.x84 hf, FS.x84r0 hf, FS.x85 hf, FS.x84r1 hf, FS.x87 hf, FS.x84r2 hf, FS.x89 hf, FS.x84r3 hf, FS.x91 hf, FS.x84r4 hf, FS.x93 hf, FS.x84r5 hf, FS.x95 hf, FS.x84r6 hf, FS.x97 hf, FS.x84r7 hf, FS.x99 hf, FS.x84f8 hf, FS.x84f9 hf, FS.x84f10 hf, FS.x84f11 hf, FS.x84f12 hf, FS.x84f14 hf, FS.x84f15 hf, FS.x84f16 hf, FS.x84f17 hf, o2, o1]
theorem over_r (h97 : r 297 = 0 ∨ r 297 = 1) (h : ¬ 0 < gOver r) : r 297 = 0 ∧ r 288 ≤ 200 := by
  unfold gOver at h
  by_cases z : r 297 = 1
  · rw [if_pos z] at h
    omega
  · rw [if_neg z] at h
    by_cases y : 200 < r 288
    · rw [if_pos y] at h
      omega
    · omega
theorem over_b (r : Nat → Int) : 0 ≤ gOver r ∧ gOver r ≤ 2 := by
  unfold gOver
  split
  · omega
  · split <;> omega
theorem au_keep : ∀ (n : Nat) (r : Nat → Int), gAu H n r 288 = r 288 ∧ gAu H n r 297 = r 297 := by
  intro n
  induction n with
  | zero =>
    intro r
    exact ⟨rfl, rfl⟩
  | succ n ih =>
    intro r
    have e : gAu H (n + 1) r = gAu H n (if r (236 + ((n + 1 : Nat) : Int)).toNat = 1 ∧ H 17 (gCell r ((n + 1 : Nat) : Int)).toNat = 1 then gOut r ((n + 1 : Nat) : Int) else r) := rfl
    rw [e]
    split
    · have i := ih (gOut r ((n + 1 : Nat) : Int))
      rw [gOut_hi (n := 288) (by omega) (by omega), gOut_hi (n := 297) (by omega) (by omega)] at i
      exact i
    · exact ih r
theorem cr_closed {a T : Nat} (h : CR w a T c r) : mI w a 9 = c := h.2.2.2.2.2.2.2.2.2.2.2.2.2.1
theorem run_one (hk : HOK H) (l1 : 0 ≤ L) (l2 : L ≤ 12) (s1 : ∀ k, k < 12 → 0 ≤ S k ∧ S k ≤ 3) {z : gZ} (hF : FF w H L S p z) (hz : ZB H B p z) (hB : B < 2147480000) {t i : Int} (i1 : 0 ≤ i) (i2 : i < t) (t3 : t ≤ 100) {tl : jmL} (ht : tk 3 tl) : ∃ u tl2, rn 83 (2, (0, jvr 118) :: (1, .inl t) :: (2, .inl i) :: tl, [], w) = rn 83 (2, (0, jvr 118) :: (1, .inl t) :: (2, .inl (i + 1)) :: tl2, [], u) ∧ tk 3 tl2 ∧ FF u H L S p (gF1 H L S p z) ∧ ZB H (B + 1) p (gF1 H L S p z) ∧ Fr fQ w u := by
  obtain ⟨⟨r, g, o, j, tn⟩, s, b, ta, tw, ri⟩ := z
  obtain ⟨hf, ho⟩ := hF
  obtain ⟨⟨ra, rb, rw0, rp, r203⟩, z2, z3, z4, z5⟩ := hz
  dsimp only at hf ho ra rb rw0 rp r203 z2 z3 z4 z5
  have h16 := ra.1
  have r97 := ra.2.2.2.2.2.2.2.2.2.2.2.2.2.2.2.2
  have r94 := ra.2.2.2.2.2.2.2.2.1
  have ov := over_b r
  have eF : gF1 H L S p ((r, g, o, j, tn), s, b, ta, tw, ri) = if 0 < gOver r then ((r, g, o, j, tn), s, b + 1, ta, tw, ri) else (gBeat H L S (if 0 ≤ p then p else 0) (if 0 < s then 1 else 0) (r, g, o, j, tn), if 0 < s then s - 1 else s, b + 1, if (gBeat H L S (if 0 ≤ p then p else 0) (if 0 < s then 1 else 0) (r, g, o, j, tn)).2.2.2.2 ≠ -1 ∧ ta < 0 then b else ta, if (gBeat H L S (if 0 ≤ p then p else 0) (if 0 < s then 1 else 0) (r, g, o, j, tn)).2.2.2.2 ≠ -1 ∧ ta < 0 then (gBeat H L S (if 0 ≤ p then p else 0) (if 0 < s then 1 else 0) (r, g, o, j, tn)).2.2.2.2 else tw, if (gBeat H L S (if 0 ≤ p then p else 0) (if 0 < s then 1 else 0) (r, g, o, j, tn)).1 297 = 1 then b + 1 else ri) := rfl
  obtain ⟨o1, o2, o3, o4, o5, o6, o7, o8⟩ := ho
  have F0 := hf.fl (k := 9) (x := b + 1)
  have O0 : FO (setI w 118 9 (b + 1)) p s (b + 1) ta tw o j ri := ⟨by rw [mI_nk (by omega)]; exact o1, by rw [mI_nk (by omega)]; exact o2, mI_s _ _ _ _, by rw [mI_nk (by omega)]; exact o4, by rw [mI_nk (by omega)]; exact o5, by rw [mI_nk (by omega)]; exact o6, by rw [mI_nk (by omega)]; exact o7, by rw [mI_nk (by omega)]; exact o8⟩
  have f0 : Fr fQ w (setI w 118 9 (b + 1)) := Fr.I ⟨by omega, by omega⟩
  have c0 := cr_closed F0.cr
  obtain ⟨tl3, j3, k3⟩ := tk_js ht
  have J : ∀ a : Nat, a < 4 → jrm tl3 a = tl3 := fun a ha => tk_jrm tl3 4 a k3 ha
  have J0 : ∀ a : Nat, a < 3 → jrm tl a = tl := fun a ha => tk_jrm tl 3 a ht ha
  rw [eF]
  by_cases q1 : 0 < gOver r
  · rw [if_pos q1]
    refine ⟨_, tl, ?_, ht, ⟨F0, O0⟩, ⟨⟨ra.mo (by omega), rb, rw0, rp, r203⟩, z2, z3, ⟨by show 0 ≤ b + 1; omega, by show b + 1 ≤ B + 1; omega⟩, ⟨z5.1, by show ta ≤ B + 1; omega⟩⟩, f0⟩
    rw [p83_2]
    simp (disch := omega) only [p83_0, p83_1, p83_3, p83_4, p83_7, p83_8i, p83_8a, p83_9, p83_12, p83_13, p83_14, p83_17, p83_18, p83_21, p83_24, p83_27, p83_30, p83_31, p83_34, p83_35, p83_36, p83_39i, p83_39a, p83_40, p83_43, p83_44, p83_45, p83_48, p83_49, p83_50, p83_53, p83_56, p83_57, p83_60, p83_61, p83_64, p83_65, p83_66, p83_69, p83_72, p83_75, p83_76, p83_79, p83_80, p83_83, p83_84, p83_87, p83_88, p83_91, p83_92, p83_95, p83_98, p83_101, p83_104, p83_107, p83_108, p83_111, p83_112, p83_115, p83_118, p83_121, jwd_c, jwd_0, Nat.reduceLeDiff, Nat.reduceEqDiff, Nat.reduceAdd, Nat.reduceSub, Nat.reduceMul, Int.reduceAdd, Int.reduceSub, Int.reduceMul, Int.reduceNeg, Int.reduceEq, Int.reduceLT, Int.reduceLE, jq_ldi_i, jq_ldl_l, jq_lda_a, jq_inc_i, jq_gs_t, jq_gsb_t, jq_gb_t, jq_gr_2, jq_gr_4, jq_gw_2, jq_s_t, jq_b_t, jg_c, jg_n, js_c, js_n, jrm_c, jrm_n, j2_i, j2_l, j2_a, jq_c_i, jq_c_l, jq_c_0, jq_c_n, jwd_le, jw_c0, mS_I, mS_R, mS_J, mN_I, mN_R, mN_J, mR_I, mI_R, mJ_I, mJ_R, mI_J, mR_J, ↓reduceIte, decide_true, or_true, true_or, and_self, false_or, or_false, reduceCtorEq, Bool.false_eq_true, and_false, false_and, eq_self, true_and, and_true, zero_ne, ↓br_lt_t, ↓br_lt_f, ↓br_eq_t, ↓br_eq_f, ↓br_lz_t, ↓br_lz_f, ↓br_ez_t, ↓br_ez_f, ↓br_gz_t, ↓br_gz_f, jw_id, jin_t, jix_t, ↓ite_t, ↓ite_f, FS.s hf, FS.r0 hf, FS.r1 hf, FS.r2 hf, FS.r3 hf, FS.r4 hf, FS.r5 hf, FS.r6 hf, FS.x119 hf, FS.x119p hf, FS.x119k hf, FS.x119t hf, FS.x120 hf, FS.x122 hf, FS.x124 hf, FS.x126 hf, FS.x130 hf, FS.x128 hf, FS.x132 hf, FS.x134 hf, FS.x84 hf, FS.x84r0 hf, FS.x85 hf, FS.x84r1 hf, FS.x87 hf, FS.x84r2 hf, FS.x89 hf, FS.x84r3 hf, FS.x91 hf, FS.x84r4 hf, FS.x93 hf, FS.x84r5 hf, FS.x95 hf, FS.x84r6 hf, FS.x97 hf, FS.x84r7 hf, FS.x99 hf, FS.x84f8 hf, FS.x84f9 hf, FS.x84f10 hf, FS.x84f11 hf, FS.x84f12 hf, FS.x84f14 hf, FS.x84f15 hf, FS.x84f16 hf, FS.x84f17 hf, F0.s, F0.r1, F0.x119, c0, o3, J0]
  · rw [if_neg q1]
    have c1 : gOver r = 0 := by omega
    obtain ⟨h97, hl⟩ := over_r r97 q1
    obtain ⟨w1, d1, F1, O1, f1⟩ := f_due F0 O0 hk ra (by omega) z2 z3
    generalize hst : (if 0 < s then (1 : Int) else 0) = st at *
    generalize hal : (if 0 ≤ p then p else 0) = al at *
    generalize hs' : (if 0 < s then s - 1 else s) = s' at *
    have hs4 : 0 ≤ s' ∧ s' ≤ 4 := by
      rw [← hs']
      split <;> omega
    have hdue : 0 ≤ gSteps H r al st ∧ gSteps H r al st ≤ 3 := by
      have m1 : 0 ≤ r 294 % H 0 5 := Int.emod_nonneg _ (by have := hk.2.1; omega)
      have m2 : r 294 % H 0 5 < H 0 5 := Int.emod_lt_of_pos _ (by have := hk.2.1; omega)
      have k7 := hk.2.2.2.2.2.2.1 (r 294 % H 0 5) m1 m2
      have al3 : 0 ≤ al ∧ al ≤ 3 := by
        rw [← hal]
        split <;> omega
      unfold gSteps
      split
      · split <;> omega
      · omega
    have e2 := cr_beat F1.cr
    have F2 := F1.row (Fr.I (k := 3) (x := r 294 + 1) (a := 119) ⟨by omega, by omega⟩) (F1.cr.fld (by omega) (by omega) (k := 3) (m := 294) (x := r 294 + 1) (by omega))
    have O2 := O1.fr (Fr.I (P := fun b => b = 119) (k := 3) (x := r 294 + 1) (a := 119) rfl) (by omega)
    have ra2 : RA H (B + 1) (up1 r 294 (r 294 + 1)) := ra.up
    have eu : ∀ k, k ≠ 294 → up1 r 294 (r 294 + 1) k = r k := fun k hk => up1_n hk
    have rb2 : RB (up1 r 294 (r 294 + 1)) := RB_d (r := r) (fun k k1 k2 => eu k (by omega)) (eu _ (by omega)) (eu _ (by omega)) (eu _ (by omega)) (by omega) rb
    have rw2 : RW H (up1 r 294 (r 294 + 1)) := RW_c (fun k hk => eu k (by omega)) (eu _ (by omega)) ra rw0
    have rp2 : RP (up1 r 294 (r 294 + 1)) := RP_c (fun k k1 k2 => eu k (by omega)) (eu _ (by omega)) (eu _ (by omega)) (by omega) rp
    obtain ⟨w3, a1, F3, f3⟩ := f_ahead F2 hk l1 l2 s1 ra2 rb2 rw2 rp2 (by rw [eu _ (by omega)]; exact h97) hdue.1 hdue.2 (by rw [eu _ (by omega)]; omega)
    have O3 := O2.fr f3 (by omega)
    obtain ⟨y1, y2, y3, y4, y5, y6, y7⟩ := b0_ok hk l2 s1 ra2 rb2 rw2 rp2 (n := (gSteps H r al st).toNat) (by rw [eu _ (by omega)]; omega) g
    have eB : gBeat H L S al st (r, g, o, j, tn) = if 0 < gOver r then (r, g, o, j, -1) else gB1 H o j (gB0 H L S (gSteps H r al st).toNat (up1 r 294 (r 294 + 1)) g) := rfl
    rw [if_neg q1] at eB
    rw [eB]
    rw [eu _ (by omega)] at y5 y6
    have fr3 : Fr fQ w w3 := ((f0.tr (f1.mo (fun b hb => by unfold fQ; omega))).tr (Fr.I ⟨by omega, by omega⟩)).tr (f3.mo (fun b hb => by unfold fQ; omega))
    generalize gB0 H L S (gSteps H r al st).toNat (up1 r 294 (r 294 + 1)) g = x at *
    obtain ⟨r3, g3⟩ := x
    dsimp only at a1 F3 y1 y2 y3 y4 y5 y6 ⊢
    have h163 := y1.1
    have r397 := y1.2.2.2.2.2.2.2.2.2.2.2.2.2.2.2.2
    have runA : ∀ v, rn 83 (53, (0, jvr 118) :: (1, .inl t) :: (2, .inl i) :: (3, .inl (gSteps H r al st)) :: tl3, [.inl (r3 297)], w3) = v → rn 83 (2, (0, jvr 118) :: (1, .inl t) :: (2, .inl i) :: tl, [], w) = v := by
      intro v hv
      rw [← hv, p83_2]
      simp (disch := omega) only [p83_0, p83_1, p83_3, p83_4, p83_7, p83_8i, p83_8a, p83_9, p83_12, p83_13, p83_14, p83_17, p83_18, p83_21, p83_24, p83_27, p83_30, p83_31, p83_34, p83_35, p83_36, p83_39i, p83_39a, p83_40, p83_43, p83_44, p83_45, p83_48, p83_49, p83_50, p83_56, p83_57, p83_60, p83_61, p83_64, p83_65, p83_66, p83_69, p83_72, p83_75, p83_76, p83_79, p83_80, p83_83, p83_84, p83_87, p83_88, p83_91, p83_92, p83_95, p83_98, p83_101, p83_104, p83_107, p83_108, p83_111, p83_112, p83_115, p83_118, p83_121, jwd_c, jwd_0, Nat.reduceLeDiff, Nat.reduceEqDiff, Nat.reduceAdd, Nat.reduceSub, Nat.reduceMul, Int.reduceAdd, Int.reduceSub, Int.reduceMul, Int.reduceNeg, Int.reduceEq, Int.reduceLT, Int.reduceLE, jq_ldi_i, jq_ldl_l, jq_lda_a, jq_inc_i, jq_gs_t, jq_gsb_t, jq_gb_t, jq_gr_2, jq_gr_4, jq_gw_2, jq_s_t, jq_b_t, jg_c, jg_n, js_c, js_n, jrm_c, jrm_n, j2_i, j2_l, j2_a, jq_c_i, jq_c_l, jq_c_0, jq_c_n, jwd_le, jw_c0, mS_I, mS_R, mS_J, mN_I, mN_R, mN_J, mR_I, mI_R, mJ_I, mJ_R, mI_J, mR_J, ↓reduceIte, decide_true, or_true, true_or, and_self, false_or, or_false, reduceCtorEq, Bool.false_eq_true, and_false, false_and, eq_self, true_and, and_true, zero_ne, ↓br_lt_t, ↓br_lt_f, ↓br_eq_t, ↓br_eq_f, ↓br_lz_t, ↓br_lz_f, ↓br_ez_t, ↓br_ez_f, ↓br_gz_t, ↓br_gz_f, jw_id, jin_t, jix_t, ↓ite_t, ↓ite_f, FS.s hf, FS.r0 hf, FS.r1 hf, FS.r2 hf, FS.r3 hf, FS.r4 hf, FS.r5 hf, FS.r6 hf, FS.x119 hf, FS.x119p hf, FS.x119k hf, FS.x119t hf, FS.x120 hf, FS.x122 hf, FS.x124 hf, FS.x126 hf, FS.x130 hf, FS.x128 hf, FS.x132 hf, FS.x134 hf, FS.x84 hf, FS.x84r0 hf, FS.x85 hf, FS.x84r1 hf, FS.x87 hf, FS.x84r2 hf, FS.x89 hf, FS.x84r3 hf, FS.x91 hf, FS.x84r4 hf, FS.x93 hf, FS.x84r5 hf, FS.x95 hf, FS.x84r6 hf, FS.x97 hf, FS.x84r7 hf, FS.x99 hf, FS.x84f8 hf, FS.x84f9 hf, FS.x84f10 hf, FS.x84f11 hf, FS.x84f12 hf, FS.x84f14 hf, FS.x84f15 hf, FS.x84f16 hf, FS.x84f17 hf, F0.s, F0.r1, F0.x119, c0, c1, o3, d1, j3, F1.s, F1.r1, F1.x119, e2, F2.s, a1]
    by_cases q2 : r3 297 = 1
    · have eB1 : gB1 H o j (r3, g3) = (r3, g3, o, j, -1) := if_pos q2
      rw [eB1]
      have q22 : (r3, g3, o, j, (-1 : Int)).1 297 = 1 := q2
      dsimp only
      rw [if_neg (fun z => z.1 rfl), if_neg (fun z => z.1 rfl), if_pos q2]
      have ov3 : gOver r3 = 1 := if_pos q2
      have F4 := F3.row (Fr.I (P := rP 119) (a := 119) (k := 9) (x := 1) ⟨by omega, by omega⟩) (F3.cr.cls (x := 1))
      have O4 := O3.fr (Fr.I (P := fun b => b = 119) (k := 9) (x := 1) (a := 119) rfl) (by omega)
      obtain ⟨m1, m2, m3, m4, m5, m6, m7, m8⟩ := O4
      refine ⟨setI (setI w3 119 9 1) 118 14 (b + 1), (3, .inl (gSteps H r al st)) :: tl3, runA _ ?_, tk_c k3, ⟨by rw [ov3]; exact F4.fl, ⟨by rw [mI_nk (by omega)]; exact m1, by rw [mI_nk (by omega)]; exact m2, by rw [mI_nk (by omega)]; exact m3, by rw [mI_nk (by omega)]; exact m4, by rw [mI_nk (by omega)]; exact m5, by rw [mI_nk (by omega)]; exact m6, by rw [mI_nk (by omega)]; exact m7, mI_s _ _ _ _⟩⟩, ⟨⟨y1, y2, y3, y4, by show r3 288 ≤ 203; omega⟩, z2, hs4, ⟨by show 0 ≤ b + 1; omega, by show b + 1 ≤ B + 1; omega⟩, ⟨z5.1, by show ta ≤ B + 1; omega⟩⟩, (fr3.tr (Fr.I ⟨by omega, by omega⟩)).tr (Fr.I ⟨by omega, by omega⟩)⟩
      rw [q2]
      simp (disch := omega) only [p83_0, p83_1, p83_3, p83_4, p83_7, p83_8i, p83_8a, p83_9, p83_12, p83_13, p83_14, p83_17, p83_18, p83_21, p83_24, p83_27, p83_30, p83_31, p83_34, p83_35, p83_36, p83_39i, p83_39a, p83_40, p83_43, p83_44, p83_45, p83_48, p83_49, p83_50, p83_53, p83_56, p83_57, p83_60, p83_61, p83_64, p83_65, p83_66, p83_69, p83_72, p83_75, p83_76, p83_79, p83_80, p83_83, p83_84, p83_87, p83_88, p83_91, p83_92, p83_95, p83_98, p83_101, p83_104, p83_107, p83_108, p83_111, p83_112, p83_115, p83_118, p83_121, jwd_c, jwd_0, Nat.reduceLeDiff, Nat.reduceEqDiff, Nat.reduceAdd, Nat.reduceSub, Nat.reduceMul, Int.reduceAdd, Int.reduceSub, Int.reduceMul, Int.reduceNeg, Int.reduceEq, Int.reduceLT, Int.reduceLE, jq_ldi_i, jq_ldl_l, jq_lda_a, jq_inc_i, jq_gs_t, jq_gsb_t, jq_gb_t, jq_gr_2, jq_gr_4, jq_gw_2, jq_s_t, jq_b_t, jg_c, jg_n, js_c, js_n, jrm_c, jrm_n, j2_i, j2_l, j2_a, jq_c_i, jq_c_l, jq_c_0, jq_c_n, jwd_le, jw_c0, mS_I, mS_R, mS_J, mN_I, mN_R, mN_J, mR_I, mI_R, mJ_I, mJ_R, mI_J, mR_J, ↓reduceIte, decide_true, or_true, true_or, and_self, false_or, or_false, reduceCtorEq, Bool.false_eq_true, and_false, false_and, eq_self, true_and, and_true, zero_ne, ↓br_lt_t, ↓br_lt_f, ↓br_eq_t, ↓br_eq_f, ↓br_lz_t, ↓br_lz_f, ↓br_ez_t, ↓br_ez_f, ↓br_gz_t, ↓br_gz_f, jw_id, jin_t, jix_t, ↓ite_t, ↓ite_f, F3.s, F3.r1, F3.x119, F4.s, m3, J]
    · have q20 : r3 297 = 0 := by omega
      have eB1 : gB1 H o j (r3, g3) = gB5 H j (gFA (r3 289 - 1).toNat 1 (r3, g3)).2 (gB2 (gFA (r3 289 - 1).toNat 1 (r3, g3)).1 o) := if_neg q2
      rw [eB1]
      obtain ⟨w4, a4, F4, f4⟩ := f_come F3 hk y1 y2 y3 y4
      have O4 := O3.fr f4 (by omega)
      obtain ⟨x1, x2, x3, x4, x5⟩ := fa_ok (r3 289 - 1).toNat 1 r3 g3 y1 y2 y3 y4 (by omega) (by omega)
      generalize gFA (r3 289 - 1).toNat 1 (r3, g3) = y at *
      obtain ⟨r4, g4⟩ := y
      dsimp only at F4 x1 x2 x3 x4 x5 ⊢
      have r4h := x1.1
      obtain ⟨w5, a5, F5, O5, f5⟩ := f_tear F4 O4 x1 x2 (by omega) (by omega)
      have ti := te_in (r := r4) (by omega)
      have c5 : RA H (B + 1) (gB2 r4 o).1 ∧ RB (gB2 r4 o).1 ∧ RW H (gB2 r4 o).1 ∧ RP (gB2 r4 o).1 ∧ (gB2 r4 o).1 288 = r4 288 ∧ (gB2 r4 o).1 297 = r4 297 := by
        unfold gB2
        by_cases z : gTi r4 < r4 289
        · rw [if_pos z]
          obtain ⟨c1, c2, c3, c4⟩ := cut_ok x1 x2 x3 x4 ti.1 ti.2
          exact ⟨c1, c2, c3, c4, (up1_n (by decide) : up1 r4 289 (gTi r4) 288 = r4 288), (up1_n (by decide) : up1 r4 289 (gTi r4) 297 = r4 297)⟩
        · rw [if_neg z]
          exact ⟨x1, x2, x3, x4, rfl, rfl⟩
      generalize gB2 r4 o = y at *
      obtain ⟨r5, o5', tn5⟩ := y
      dsimp only at F5 O5 c5 ⊢
      obtain ⟨v1, v2, v3, v4, v5, v6⟩ := c5
      have r5h := v1.1
      obtain ⟨w6, a6, F6, f6⟩ := f_leave F5 hk v1 v2 v3 v4
      have O6 := O5.fr f6 (by omega)
      obtain ⟨u1, u2, u3, u4⟩ := au_ok hk (r5 289 - 1).toNat r5 v1 v2 v3 v4 (by omega)
      have u5 := au_keep (H := H) (r5 289 - 1).toNat r5
      unfold gB5
      dsimp only
      generalize gAu H (r5 289 - 1).toNat r5 = r6 at *
      obtain ⟨w7, a7, F7, O7, f7⟩ := f_ask F6 O6 hk u1 u2 u3 u4
      obtain ⟨t1, t2, t3', t4, t5, t6, t7, t8⟩ := aa_ok hk (H 0 3).toNat 0 j r6 u1 u2 u3 u4 (by omega) (by have := hk.2.1; omega)
      generalize gAA H (H 0 3).toNat 0 (j, r6) = y at *
      obtain ⟨j7, r7⟩ := y
      dsimp only at F7 O7 t1 t2 t3' t4 t5 t6 t7 t8 ⊢
      have r7h := t1.1
      have e8 := fs_l F7 (by omega)
      have l7 : r7 288 = r3 288 := by rw [t5, u5.1, v5, x5 288 (by omega)]
      have n7 : r7 297 = 0 := by rw [t6, u5.2, v6, x5 297 (by omega), q20]
      have fr7 : Fr fQ w w7 := (((fr3.tr (f4.mo (fun b hb => by unfold fQ; omega))).tr f5).tr (f6.mo (fun b hb => by unfold fQ; omega))).tr f7
      have ov7 : gOver r7 = if 200 < r7 288 then 2 else 0 := if_neg (by omega)
      rw [if_neg (show ¬ r7 297 = 1 by omega)]
      have bb : b + 1 - 1 = b := by omega
      rw [bb] at O7
      have zb : ZB H (B + 1) p ((r7, g4, o5', j7, tn5), s', b + 1, if tn5 ≠ -1 ∧ ta < 0 then b else ta, if tn5 ≠ -1 ∧ ta < 0 then tn5 else tw, ri) := by
        refine ⟨⟨t1, t2, t3', t4, by show r7 288 ≤ 203; omega⟩, z2, hs4, ⟨by show 0 ≤ b + 1; omega, by show b + 1 ≤ B + 1; omega⟩, ?_⟩
        show -2 ≤ (if tn5 ≠ -1 ∧ ta < 0 then b else ta) ∧ (if tn5 ≠ -1 ∧ ta < 0 then b else ta) ≤ B + 1
        split <;> omega
      by_cases q9 : 200 < r7 288
      · have F8 := F7.row (Fr.I (P := rP 119) (a := 119) (k := 9) (x := 2) ⟨by omega, by omega⟩) (F7.cr.cls (x := 2))
        refine ⟨setI w7 119 9 2, (3, .inl (gSteps H r al st)) :: tl3, runA _ ?_, tk_c k3, ⟨by show FS _ H L S r7 g4 (gOver r7); rw [ov7, if_pos q9]; exact F8, O7.fr (Fr.I (P := fun b => b = 119) rfl) (by omega)⟩, zb, fr7.tr (Fr.I ⟨by omega, by omega⟩)⟩
        rw [q20]
        simp (disch := omega) only [p83_0, p83_1, p83_3, p83_4, p83_7, p83_8i, p83_8a, p83_9, p83_12, p83_13, p83_14, p83_17, p83_18, p83_21, p83_24, p83_27, p83_30, p83_31, p83_34, p83_35, p83_36, p83_39i, p83_39a, p83_40, p83_43, p83_44, p83_45, p83_48, p83_49, p83_50, p83_53, p83_56, p83_57, p83_60, p83_61, p83_64, p83_65, p83_66, p83_69, p83_72, p83_75, p83_76, p83_79, p83_80, p83_83, p83_84, p83_87, p83_88, p83_91, p83_92, p83_95, p83_98, p83_101, p83_104, p83_107, p83_108, p83_111, p83_112, p83_115, p83_118, p83_121, jwd_c, jwd_0, Nat.reduceLeDiff, Nat.reduceEqDiff, Nat.reduceAdd, Nat.reduceSub, Nat.reduceMul, Int.reduceAdd, Int.reduceSub, Int.reduceMul, Int.reduceNeg, Int.reduceEq, Int.reduceLT, Int.reduceLE, jq_ldi_i, jq_ldl_l, jq_lda_a, jq_inc_i, jq_gs_t, jq_gsb_t, jq_gb_t, jq_gr_2, jq_gr_4, jq_gw_2, jq_s_t, jq_b_t, jg_c, jg_n, js_c, js_n, jrm_c, jrm_n, j2_i, j2_l, j2_a, jq_c_i, jq_c_l, jq_c_0, jq_c_n, jwd_le, jw_c0, mS_I, mS_R, mS_J, mN_I, mN_R, mN_J, mR_I, mI_R, mJ_I, mJ_R, mI_J, mR_J, ↓reduceIte, decide_true, or_true, true_or, and_self, false_or, or_false, reduceCtorEq, Bool.false_eq_true, and_false, false_and, eq_self, true_and, and_true, zero_ne, ↓br_lt_t, ↓br_lt_f, ↓br_eq_t, ↓br_eq_f, ↓br_lz_t, ↓br_lz_f, ↓br_ez_t, ↓br_ez_f, ↓br_gz_t, ↓br_gz_f, jw_id, jin_t, jix_t, ↓ite_t, ↓ite_f, F3.s, a4, F4.s, a5, F5.s, a6, F6.s, a7, F7.s, F7.r1, F7.x119, F7.x119p, F7.x120, e8, J]
      · refine ⟨w7, (3, .inl (gSteps H r al st)) :: tl3, runA _ ?_, tk_c k3, ⟨by show FS _ H L S r7 g4 (gOver r7); rw [ov7, if_neg q9, ← c1]; exact F7, O7⟩, zb, fr7⟩
        rw [q20]
        simp (disch := omega) only [p83_0, p83_1, p83_3, p83_4, p83_7, p83_8i, p83_8a, p83_9, p83_12, p83_13, p83_14, p83_17, p83_18, p83_21, p83_24, p83_27, p83_30, p83_31, p83_34, p83_35, p83_36, p83_39i, p83_39a, p83_40, p83_43, p83_44, p83_45, p83_48, p83_49, p83_50, p83_53, p83_56, p83_57, p83_60, p83_61, p83_64, p83_65, p83_66, p83_69, p83_72, p83_75, p83_76, p83_79, p83_80, p83_83, p83_84, p83_87, p83_88, p83_91, p83_92, p83_95, p83_98, p83_101, p83_104, p83_107, p83_108, p83_111, p83_112, p83_115, p83_118, p83_121, jwd_c, jwd_0, Nat.reduceLeDiff, Nat.reduceEqDiff, Nat.reduceAdd, Nat.reduceSub, Nat.reduceMul, Int.reduceAdd, Int.reduceSub, Int.reduceMul, Int.reduceNeg, Int.reduceEq, Int.reduceLT, Int.reduceLE, jq_ldi_i, jq_ldl_l, jq_lda_a, jq_inc_i, jq_gs_t, jq_gsb_t, jq_gb_t, jq_gr_2, jq_gr_4, jq_gw_2, jq_s_t, jq_b_t, jg_c, jg_n, js_c, js_n, jrm_c, jrm_n, j2_i, j2_l, j2_a, jq_c_i, jq_c_l, jq_c_0, jq_c_n, jwd_le, jw_c0, mS_I, mS_R, mS_J, mN_I, mN_R, mN_J, mR_I, mI_R, mJ_I, mJ_R, mI_J, mR_J, ↓reduceIte, decide_true, or_true, true_or, and_self, false_or, or_false, reduceCtorEq, Bool.false_eq_true, and_false, false_and, eq_self, true_and, and_true, zero_ne, ↓br_lt_t, ↓br_lt_f, ↓br_eq_t, ↓br_eq_f, ↓br_lz_t, ↓br_lz_f, ↓br_ez_t, ↓br_ez_f, ↓br_gz_t, ↓br_gz_f, jw_id, jin_t, jix_t, ↓ite_t, ↓ite_f, F3.s, a4, F4.s, a5, F5.s, a6, F6.s, a7, F7.s, F7.r1, F7.x119, F7.x119p, F7.x120, e8, J]
theorem run_loop (hk : HOK H) (l1 : 0 ≤ L) (l2 : L ≤ 12) (s1 : ∀ k, k < 12 → 0 ≤ S k ∧ S k ≤ 3) {t : Int} (t3 : t ≤ 100) : ∀ (n : Nat) (i : Int) (z : gZ) (tl : jmL) (w : jmW) (B : Int), FF w H L S p z → ZB H B p z → B + n < 2147480000 → 0 ≤ i → i + n = t → tk 3 tl → ∃ u, rn 83 (2, (0, jvr 118) :: (1, .inl t) :: (2, .inl i) :: tl, [], w) = some (none, u) ∧ FF u H L S p (gFr H L S p n z) ∧ ZB H (B + n) p (gFr H L S p n z) ∧ Fr fQ w u := by
  intro n
  induction n with
  | zero =>
    intro i z tl w B hF hz hB i1 i2 ht
    refine ⟨w, ?_, hF, ?_, Fr.rf _ _⟩
    · rw [p83_2]
      simp (disch := omega) only [p83_0, p83_1, p83_3, p83_4, p83_7, p83_8i, p83_8a, p83_9, p83_12, p83_13, p83_14, p83_17, p83_18, p83_21, p83_24, p83_27, p83_30, p83_31, p83_34, p83_35, p83_36, p83_39i, p83_39a, p83_40, p83_43, p83_44, p83_45, p83_48, p83_49, p83_50, p83_53, p83_56, p83_57, p83_60, p83_61, p83_64, p83_65, p83_66, p83_69, p83_72, p83_75, p83_76, p83_79, p83_80, p83_83, p83_84, p83_87, p83_88, p83_91, p83_92, p83_95, p83_98, p83_101, p83_104, p83_107, p83_108, p83_111, p83_112, p83_115, p83_118, p83_121, jwd_c, jwd_0, Nat.reduceLeDiff, Nat.reduceEqDiff, Nat.reduceAdd, Nat.reduceSub, Nat.reduceMul, Int.reduceAdd, Int.reduceSub, Int.reduceMul, Int.reduceNeg, Int.reduceEq, Int.reduceLT, Int.reduceLE, jq_ldi_i, jq_ldl_l, jq_lda_a, jq_inc_i, jq_gs_t, jq_gsb_t, jq_gb_t, jq_gr_2, jq_gr_4, jq_gw_2, jq_s_t, jq_b_t, jg_c, jg_n, js_c, js_n, jrm_c, jrm_n, j2_i, j2_l, j2_a, jq_c_i, jq_c_l, jq_c_0, jq_c_n, jwd_le, jw_c0, mS_I, mS_R, mS_J, mN_I, mN_R, mN_J, mR_I, mI_R, mJ_I, mJ_R, mI_J, mR_J, ↓reduceIte, decide_true, or_true, true_or, and_self, false_or, or_false, reduceCtorEq, Bool.false_eq_true, and_false, false_and, eq_self, true_and, and_true, zero_ne, ↓br_lt_t, ↓br_lt_f, ↓br_eq_t, ↓br_eq_f, ↓br_lz_t, ↓br_lz_f, ↓br_ez_t, ↓br_ez_f, ↓br_gz_t, ↓br_gz_f, jw_id, jin_t, jix_t]
    · rw [show B + ((0 : Nat) : Int) = B by omega]
      exact hz
  | succ n ih =>
    intro i z tl w B hF hz hB i1 i2 ht
    obtain ⟨w1, tl1, a1, a2, a3, a4, a5⟩ := run_one hk l1 l2 s1 hF hz (by omega) i1 (show i < t by omega) t3 ht
    obtain ⟨u, b1, b2, b3, b4⟩ := ih (i + 1) (gF1 H L S p z) tl1 w1 (B + 1) a3 a4 (by omega) (by omega) (by omega) a2
    rw [show B + ((n + 1 : Nat) : Int) = B + 1 + n by omega]
    exact ⟨u, a1.trans b1, b2, b3, a5.tr b4⟩
theorem f_run (hk : HOK H) (l1 : 0 ≤ L) (l2 : L ≤ 12) (s1 : ∀ k, k < 12 → 0 ≤ S k ∧ S k ≤ 3) {t : Int} (t1 : 0 ≤ t) (t3 : t ≤ 100) {z : gZ} (hF : FF w H L S p z) (hz : ZB H B p z) (hB : B + t < 2147480000) : ∃ u, rn 83 (0, [(0, jvr 118), (1, .inl t)], [], w) = some (none, u) ∧ FF u H L S p (gFr H L S p t.toNat z) ∧ ZB H (B + t) p (gFr H L S p t.toNat z) ∧ Fr fQ w u := by
  obtain ⟨u, e, F, Z, f⟩ := run_loop hk l1 l2 s1 t3 t.toNat 0 z [] w B hF hz (by omega) (by omega) (by omega) (tk_n 3)
  rw [show B + ((t.toNat : Nat) : Int) = B + t by omega] at Z
  refine ⟨u, ?_, F, Z, f⟩
  rw [← e]
  simp (disch := omega) only [p83_0, p83_1, p83_3, p83_4, p83_7, p83_8i, p83_8a, p83_9, p83_12, p83_13, p83_14, p83_17, p83_18, p83_21, p83_24, p83_27, p83_30, p83_31, p83_34, p83_35, p83_36, p83_39i, p83_39a, p83_40, p83_43, p83_44, p83_45, p83_48, p83_49, p83_50, p83_53, p83_56, p83_57, p83_60, p83_61, p83_64, p83_65, p83_66, p83_69, p83_72, p83_75, p83_76, p83_79, p83_80, p83_83, p83_84, p83_87, p83_88, p83_91, p83_92, p83_95, p83_98, p83_101, p83_104, p83_107, p83_108, p83_111, p83_112, p83_115, p83_118, p83_121, jwd_c, jwd_0, Nat.reduceLeDiff, Nat.reduceEqDiff, Nat.reduceAdd, Nat.reduceSub, Nat.reduceMul, Int.reduceAdd, Int.reduceSub, Int.reduceMul, Int.reduceNeg, Int.reduceEq, Int.reduceLT, Int.reduceLE, jq_ldi_i, jq_ldl_l, jq_lda_a, jq_inc_i, jq_gs_t, jq_gsb_t, jq_gb_t, jq_gr_2, jq_gr_4, jq_gw_2, jq_s_t, jq_b_t, jg_c, jg_n, js_c, js_n, jrm_c, jrm_n, j2_i, j2_l, j2_a, jq_c_i, jq_c_l, jq_c_0, jq_c_n, jwd_le, jw_c0, mS_I, mS_R, mS_J, mN_I, mN_R, mN_J, mR_I, mI_R, mJ_I, mJ_R, mI_J, mR_J, ↓reduceIte, decide_true, or_true, true_or, and_self, false_or, or_false, reduceCtorEq, Bool.false_eq_true, and_false, false_and, eq_self, true_and, and_true, zero_ne]
end RUN
