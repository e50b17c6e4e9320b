/-! The class: a Row copied, the Future begun. -/
def FB (w : jmW) (H : Nat → Nat → Int) : Prop := mS w 118 = (1, 0, 0) ∧ mR w 118 0 = some 84 ∧ mR w 118 1 = some 119 ∧ mR w 118 2 = some 126 ∧ mR w 118 3 = some 128 ∧ mR w 118 4 = some 130 ∧ mR w 118 5 = some 132 ∧ mR w 118 6 = some 134 ∧ (∃ T c r, CR w 119 T c r) ∧ (∃ n q, Sg w 126 1 44 n q) ∧ (∃ n q, Sg w 128 1 44 n q) ∧ (∃ n q, Sg w 130 1 12 n q) ∧ (∃ n q, Sg w 132 1 48 n q) ∧ (∃ n q, Sg w 134 1 4 n q) ∧ CH w 84 H ∧ Sg w 97 4 48 (H 1 0).toNat (gNear H) ∧ Sg w 99 1 48 (H 1 0).toNat (gHmw H) ∧ TU w
section BEGIN
variable {w u : jmW} {H : Nat → Nat → Int} {L : Int} {S r g : Nat → Int} {c : Int} {B : Int} {p s b ta tw o j ri : Int} {a b2 T : Nat}
theorem FS.fb (f : FS w H L S r g c) : FB w H := ⟨f.s, f.r0, f.r1, f.r2, f.r3, f.r4, f.r5, f.r6, ⟨_, _, _, f.cr⟩, ⟨_, _, f.g2⟩, f.g3, ⟨_, _, f.g4⟩, f.g5, f.g6, f.ch, f.nr, f.hw, f.tu⟩
theorem CR.bd (h : CR w a T c r) : (r 288).toNat ≤ 208 ∧ (r 289).toNat ≤ 16 ∧ T ≤ 4 := ⟨h.2.2.2.2.1.2.2.2.2.2.2.1, h.2.2.2.2.2.1.2.2.2.2.2.2.1, h.2.2.2.2.2.2.1.2.2.2.2.2.2.1⟩
theorem r_copy {T2 : Nat} {c2 : Int} {r2 : Nat → Int} (h : CR w a T c r) (h2 : CR w b2 T2 c2 r2) (hd : a + 6 < b2 ∨ b2 + 6 < a) : ∃ u, rn 60 (0, [(0, jvr a), (1, jvr b2)], [], w) = some (none, u) ∧ CR u a T2 c2 r2 ∧ Fr (rP a) w u := by
  have bd := h2.bd
  obtain ⟨w1, e1, s1, f1⟩ := sg_copy h.2.2.2.2.1 h2.2.2.2.2.1 (by omega) (by omega)
  have f1 : Fr (sP (a + 1)) w w1 := f1
  obtain ⟨w2, e2, s2, f2⟩ := sg_copy (h.2.2.2.2.2.1.fr f1 (sP_n (by omega)) (sP_n (by omega))) (h2.2.2.2.2.2.1.fr f1 (sP_n (by omega)) (sP_n (by omega))) (by omega) (by omega)
  have f12 : Fr (rP a) w w2 := (f1.mo (fun b hb => by unfold sP at hb; unfold rP; omega)).tr (f2.mo (fun b hb => by unfold sP at hb; unfold rP; omega))
  have p5 : ∀ k, (k < a + 1 ∨ a + 4 < k) → ¬ (a + 1 ≤ k ∧ k ≤ a + 4) := fun k hk => by omega
  have f12' : Fr (fun k => a + 1 ≤ k ∧ k ≤ a + 4) w w2 := (f1.mo (fun b hb => by unfold sP at hb; omega)).tr (f2.mo (fun b hb => by unfold sP at hb; omega))
  obtain ⟨w3, e3, s3, f3⟩ := sg_copy (h.2.2.2.2.2.2.1.fr f12' (p5 _ (by omega)) (p5 _ (by omega))) (h2.2.2.2.2.2.2.1.fr f12' (p5 _ (by omega)) (p5 _ (by omega))) (by omega) (by omega)
  have f13' : Fr (fun k => a + 1 ≤ k ∧ k ≤ a + 6) w w3 := (f12'.mo (fun b hb => by omega)).tr (f3.mo (fun b hb => by unfold sP at hb; omega))
  have q1 := f1.q
  have q2 := f12'.q
  have q3 := f13'.q
  have ra1 := f1.Rq (b := a) (sP_n (by omega))
  have rb1 := f1.Rq (b := b2) (sP_n (by omega))
  have ra2 := f12'.Rq (b := a) (p5 _ (by omega))
  have rb2 := f12'.Rq (b := b2) (p5 _ (by omega))
  have ra3 := f13'.Rq (b := a) (by omega)
  have rb3 := f13'.Rq (b := b2) (by omega)
  have ib3 := f13'.Iq (b := b2) (by omega)
  have s1' := (s1.fr f2 (sP_n (by omega)) (sP_n (by omega))).fr f3 (sP_n (by omega)) (sP_n (by omega))
  have s2' := s2.fr f3 (sP_n (by omega)) (sP_n (by omega))
  obtain ⟨x1, x2, x3, x4, x5, x6, x7, x8, x9, x10, x11, x12, x13, x14, x15⟩ := h2
  have ne : b2 ≠ a := by omega
  generalize hW : setI (setI (setI (setI (setI (setI (setI (setI w3 a 3 (r2 294)) a 4 (r2 295)) a 5 (r2 291)) a 6 (r2 292)) a 7 (r2 293)) a 8 (r2 290)) a 9 c2) a 10 (r2 296) = W
  have fW : Fr (fun k => k = a) w3 W := by
    have I : ∀ (v : jmW) (k : Nat) (x : Int), Fr (fun k => k = a) v (setI v a k x) := fun v k x => Fr.I rfl
    rw [← hW]
    exact (((((((I _ _ _).tr (I _ _ _)).tr (I _ _ _)).tr (I _ _ _)).tr (I _ _ _)).tr (I _ _ _)).tr (I _ _ _)).tr (I _ _ _)
  have rW : mR W = mR w3 := by rw [← hW]; rfl
  refine ⟨W, ?_, ⟨by rw [fW.q, q3]; exact h.1, by rw [rW, ra3]; exact h.2.1, by rw [rW, ra3]; exact h.2.2.1, by rw [rW, ra3]; exact h.2.2.2.1, s1'.fr fW (by omega) (by omega), s2'.fr fW (by omega) (by omega), s3.fr fW (by omega) (by omega), ?_⟩, (f13'.mo (fun b hb => by unfold rP; omega)).tr (fW.mo (fun b hb => by unfold rP; omega))⟩
  · rw [← hW]
    simp (disch := omega) only [p60_0, p60_1n, p60_1s, p60_4, p60_5, p60_6, p60_9, p60_10, p60_13, p60_16, p60_17, p60_20, p60_21, p60_24, p60_27, p60_28, p60_31, p60_32, p60_35, p60_38, p60_39, p60_40, p60_43, p60_46, p60_47, p60_48, p60_51, p60_54, p60_55, p60_56, p60_59, p60_62, p60_63, p60_64, p60_67, p60_70, p60_71, p60_72, p60_75, p60_78, p60_79, p60_80, p60_83, p60_86, p60_87, p60_88, p60_91, p60_94, p60_95, p60_96, p60_99, p60_102, jwd_c, jwd_0, Nat.reduceLeDiff, Nat.reduceEqDiff, Nat.reduceAdd, Nat.reduceSub, Nat.reduceMul, Int.reduceAdd, Int.reduceSub, Int.reduceMul, Int.reduceNeg, Int.reduceEq, Int.reduceLT, Int.reduceLE, jq_ldi_i, jq_ldl_l, jq_lda_a, jq_inc_i, jq_gs_t, jq_gsb_t, jq_gb_t, jq_gr_2, jq_gr_4, jq_gw_2, jq_s_t, jq_b_t, jg_c, jg_n, js_c, js_n, jrm_c, jrm_n, j2_i, j2_l, j2_a, jq_c_i, jq_c_l, jq_c_0, jq_c_n, jwd_le, jw_c0, mS_I, mS_R, mS_J, mN_I, mN_R, mN_J, mR_I, mI_R, mJ_I, mJ_R, mI_J, mR_J, ↓reduceIte, decide_true, or_true, true_or, and_self, false_or, or_false, reduceCtorEq, Bool.false_eq_true, and_false, false_and, eq_self, true_and, and_true, zero_ne, ↓br_lt_t, ↓br_lt_f, ↓br_eq_t, ↓br_eq_f, ↓br_lz_t, ↓br_lz_f, ↓br_ez_t, ↓br_ez_f, ↓br_gz_t, ↓br_gz_f, jw_id, jin_t, jix_t, CR.s0 h, CR.p h, CR.k h, CR.t h, CR.s1 h, CR.s3 h, CR.s5 h, x1, x2, x3, x4, x5.1, x6.1, x7.1, e1, e2, e3, q1, q2, q3, ra1, rb1, ra2, rb2, ra3, rb3, ib3, mI_nb, ne, ne_eq, not_false_eq_true, x8, x9, x10, x11, x12, x13, x14, x15]
  · rw [← hW]
    simp (disch := omega) only [mI_s, mI_nk, and_self]
/-- as begun -/
def gZ0 (r g : Nat → Int) : gZ := ((r, g, 0, 0, -1), 0, 0, -2, -1, -2)
theorem f_begin (hb : FB w H) (hk : HOK H) {r : Nat → Int} (hg : ∀ k, k < 44 → g k = 0) (hS : ∀ k, k < 12 → S k = H 28 k) (hr : CR w a (H 0 3).toNat (gOver r) r) (hd : a + 6 < 118 ∨ 135 < a) : ∃ u, rn 82 (0, [(0, jvr 118), (1, jvr a)], [], w) = some (none, u) ∧ FF u H (H 0 6) S (-1) (gZ0 r g) ∧ Fr fQ w u := by
  have k6 := hk.2.1
  obtain ⟨h1, h2, h3, h4, h5, h6, h7, h8, ⟨T1, c1, r1, h9⟩, ⟨n2, q2, h10⟩, h11, ⟨n4, q4, h12⟩, h13, h14, h15, h16, h17, h18⟩ := hb
  obtain ⟨w1, e1, c1', f1⟩ := r_copy h9 hr (by omega)
  have n1 : ∀ b, (b < 119 ∨ 125 < b) → ¬ rP 119 b := fun b hb => rP_n (by omega)
  obtain ⟨w2, e2, s2, f2⟩ := sg_blank (v := 0) (m := 44) (h10.fr f1 (n1 _ (by omega)) (n1 _ (by omega))) (by omega) (by omega)
  have f2 : Fr (sP 126) w1 w2 := f2
  have f12 : Fr (fun b => 119 ≤ b ∧ b ≤ 127) w w2 := (f1.mo (fun b hb => by unfold rP at hb; omega)).tr (f2.mo (fun b hb => by unfold sP at hb; omega))
  obtain ⟨w3, e3, s3, f3⟩ := sg_copy (h12.fr f12 (by omega) (by omega)) (h15.g5.fr f12 (by omega) (by omega)) (by omega) (by omega)
  have f3 : Fr (sP 130) w2 w3 := f3
  have f13 : Fr (fun b => (119 ≤ b ∧ b ≤ 127) ∨ b = 130 ∨ b = 131) w w3 := (f12.mo (fun b hb => by omega)).tr (f3.mo (fun b hb => by unfold sP at hb; omega))
  have c3 := (c1'.fr f2 (fun b b1 b2 => sP_n (by omega))).fr f3 (fun b b1 b2 => sP_n (by omega))
  have s2' : Sg w3 126 1 44 44 (fun i _ => g i) := (s2.fr f3 (sP_n (by omega)) (sP_n (by omega))).mk2 (fun i j hi hj => (hg i (by omega)).symm)
  have s3 : Sg w3 130 1 12 (H 0 6).toNat (fun i _ => S i) := s3.mk2 (fun i j hi hj => (hS i (by omega)).symm)
  generalize hW : setI (setI (setI (setI (setI (setI (setI (setI w3 118 7 (-1)) 118 8 0) 118 9 0) 118 10 (-2)) 118 11 (-1)) 118 12 0) 118 13 0) 118 14 (-2) = W
  have fW : Fr (fun k => k = 118) w3 W := by
    have I : ∀ (v : jmW) (k : Nat) (x : Int), Fr (fun k => k = 118) v (setI v 118 k x) := fun v k x => Fr.I rfl
    rw [← hW]
    exact (((((((I _ _ _).tr (I _ _ _)).tr (I _ _ _)).tr (I _ _ _)).tr (I _ _ _)).tr (I _ _ _)).tr (I _ _ _)).tr (I _ _ _)
  have rW : mR W = mR w3 := by rw [← hW]; rfl
  have fA : Fr (fun b => (118 ≤ b ∧ b ≤ 127) ∨ b = 130 ∨ b = 131) w W := (f13.mo (fun b hb => by omega)).tr (fW.mo (fun b hb => by omega))
  have r118 : mR W 118 = mR w 118 := by rw [rW]; exact f13.Rq (by omega)
  refine ⟨W, ?_, ⟨⟨by rw [fA.q]; exact h1, by rw [r118]; exact h2, by rw [r118]; exact h3, by rw [r118]; exact h4, by rw [r118]; exact h5, by rw [r118]; exact h6, by rw [r118]; exact h7, by rw [r118]; exact h8, c3.fr fW (fun b b1 b2 => by omega), s2'.fr fW (by omega) (by omega), exSg h11 fA (by omega) (by omega), s3.fr fW (by omega) (by omega), exSg h13 fA (by omega) (by omega), exSg h14 fA (by omega) (by omega), h15.fr fA (fun b b1 b2 => by omega), h16.fr fA (by omega) (by omega), h17.fr fA (by omega) (by omega), h18.fr fA (by omega)⟩, ?_⟩, fA.mo (fun b hb => by unfold fQ; omega)⟩
  · rw [← hW]
    have y1 := f1.q
    have y2 := f12.q
    have y3 := f13.q
    have z1 := f1.Rq (b := 118) (n1 _ (by omega))
    have z2 := f12.Rq (b := 118) (by omega)
    have z3 := f12.Rq (b := 84) (by omega)
    have z4 := h9.s0
    have z5 := h10.1
    have z6 := h12.1
    have z7 := h15.s
    have z8 := h15.r2
    simp (disch := omega) only [p82_0, p82_1, p82_4, p82_5, p82_8, p82_9, p82_12, p82_14, p82_15, p82_18, p82_19, p82_22, p82_23, p82_26, p82_29, p82_32, p82_33, p82_34, p82_37, p82_38, p82_39, p82_42, p82_43, p82_44, p82_47, p82_48, p82_50, p82_53, p82_54, p82_55, p82_58, p82_59, p82_60, p82_63, p82_64, p82_65, p82_68, p82_69, p82_71, p82_74, jwd_c, jwd_0, Nat.reduceLeDiff, Nat.reduceEqDiff, Nat.reduceAdd, Nat.reduceSub, Nat.reduceMul, Int.reduceAdd, Int.reduceSub, Int.reduceMul, Int.reduceNeg, Int.reduceEq, Int.reduceLT, Int.reduceLE, jq_ldi_i, jq_ldl_l, jq_lda_a, jq_inc_i, jq_gs_t, jq_gsb_t, jq_gb_t, jq_gr_2, jq_gr_4, jq_gw_2, jq_s_t, jq_b_t, jg_c, jg_n, js_c, js_n, jrm_c, jrm_n, j2_i, j2_l, j2_a, jq_c_i, jq_c_l, jq_c_0, jq_c_n, jwd_le, jw_c0, mS_I, mS_R, mS_J, mN_I, mN_R, mN_J, mR_I, mI_R, mJ_I, mJ_R, mI_J, mR_J, ↓reduceIte, decide_true, or_true, true_or, and_self, false_or, or_false, reduceCtorEq, Bool.false_eq_true, and_false, false_and, eq_self, true_and, and_true, zero_ne, ↓br_lt_t, ↓br_lt_f, ↓br_eq_t, ↓br_eq_f, ↓br_lz_t, ↓br_lz_f, ↓br_ez_t, ↓br_ez_f, ↓br_gz_t, ↓br_gz_f, jw_id, jin_t, jix_t, h1, h2, h3, h4, h6, e1, e2, e3, y1, y2, y3, z1, z2, z3, z4, z5, z6, z7, z8]
  · rw [← hW]
    unfold FO gZ0
    simp (disch := omega) only [mI_s, mI_nk, and_self]
end BEGIN
