/-! The model: hall. -/
def hmP : Nat → Prop := fun b => b = 238 ∨ b = 240 ∨ b = 241
/-- what was there stands, but for the model's own -/
def OldB (h : Nat) (w u : jmW) : Prop := ∀ b, b < h → mS u b = mS w b ∧ (¬ hmP b → mI u b = mI w b ∧ mR u b = mR w b ∧ mJ u b = mJ w b)
section DHALL
variable {w u v : jmW} {T : Nat → Int} {n h cnt : Nat} {H : Nat → Nat → Int} {s : gSt}
theorem MO.cg (m : MO w) (e1 : ∀ b, 238 ≤ b → b ≤ 251 → mS u b = mS w b) (e2 : ∀ k, 5 ≤ k → mR u 238 k = mR w 238 k) : MO u := by
  unfold MO at m ⊢
  rw [e1 238 (by omega) (by omega), e1 239 (by omega) (by omega), e1 240 (by omega) (by omega), e1 241 (by omega) (by omega), e1 242 (by omega) (by omega), e1 243 (by omega) (by omega), e1 244 (by omega) (by omega), e1 245 (by omega) (by omega), e1 246 (by omega) (by omega), e1 247 (by omega) (by omega), e1 248 (by omega) (by omega), e1 249 (by omega) (by omega), e1 250 (by omega) (by omega), e1 251 (by omega) (by omega), e2 5 (by omega), e2 16 (by omega), e2 18 (by omega), e2 19 (by omega), e2 20 (by omega), e2 21 (by omega), e2 24 (by omega), e2 25 (by omega), e2 28 (by omega), e2 29 (by omega), e2 34 (by omega), e2 35 (by omega), e2 36 (by omega)]
  exact m
theorem OldB.tr (x : OldB h w u) (y : OldB h u v) : OldB h w v := fun b hb => by
  obtain ⟨x1, x2⟩ := x b hb
  obtain ⟨y1, y2⟩ := y b hb
  refine ⟨y1.trans x1, fun z => ?_⟩
  obtain ⟨a1, a2, a3⟩ := x2 z
  obtain ⟨b1, b2, b3⟩ := y2 z
  exact ⟨b1.trans a1, b2.trans a2, b3.trans a3⟩
theorem Fr.ob {P : Nat → Prop} (f : Fr P w u) (hP : ∀ b, b < h → P b → hmP b) : OldB h w u := fun b hb => ⟨by rw [f.q], fun z => f.2.2.2 b (fun y => z (hP b hb y))⟩
theorem OldB.lo (x : OldB h w u) (hh : 238 ≤ h) : LO w u := fun b hb => by
  obtain ⟨x1, x2⟩ := x b (by omega)
  obtain ⟨a1, a2, a3⟩ := x2 (fun z => by unfold hmP at z; omega)
  exact ⟨x1, a1, a2⟩
theorem d_hall0 (m0 : MO w) (h6 : mI w 238 6 = cnt) (c9 : cnt ≤ 900) {x : Int} (x1 : -2147483648 ≤ x) (x2 : x < 2147483648) (hx : x < 0 ∨ cnt < x) : rn 175 (0, [(0, jvr 238), (1, .inl x)], [], w) = some (some (.inl (-1)), setI (setI (setI w 238 0 0) 238 1 2) 238 2 (-1)) := by
  have s := m0.s0
  by_cases z : x < 0
  · simp (disch := omega) only [p175_0, p175_1, p175_2, p175_5, p175_6, p175_9, p175_10, p175_11, p175_14, p175_17, p175_18, p175_19, p175_22, p175_23, p175_24, p175_25, p175_28, p175_29, p175_30, p175_33, p175_34, p175_35, p175_38, p175_39, p175_40, p175_43, p175_44, p175_47i, p175_47a, p175_48, p175_51, p175_54, p175_55, p175_56, p175_59, p175_60, p175_63, p175_64, p175_67, p175_68, p175_71, p175_74, p175_75, p175_76, p175_79, p175_80, p175_81, p175_84, p175_87, p175_88, p175_89, p175_90, p175_91, p175_94, p175_97, p175_98, p175_99, p175_102, p175_105, p175_106, p175_107, p175_110, p175_111, p175_112, p175_115, p175_116, p175_117, p175_120, p175_123, p175_126, p176_0, p176_1, p176_2, p176_5, p176_6, p176_7, p176_10, p176_11, jwd_c, jwd_0, Nat.reduceLeDiff, Nat.reduceEqDiff, Nat.reduceAdd, Nat.reduceSub, Nat.reduceMul, Int.reduceAdd, Int.reduceSub, Int.reduceMul, Int.reduceNeg, Int.reduceEq, Int.reduceLT, Int.reduceLE, jq_ldi_i, jq_ldl_l, jq_lda_a, jq_inc_i, jq_gs_t, jq_gsb_t, jq_gb_t, jq_gr_2, jq_gr_4, jq_gw_2, jq_s_t, jq_b_t, jg_c, jg_n, js_c, js_n, jrm_c, jrm_n, j2_i, j2_l, j2_a, jq_c_i, jq_c_l, jq_c_0, jq_c_n, jwd_le, jw_c0, mS_I, mS_R, mS_J, mN_I, mN_R, mN_J, mR_I, mI_R, mJ_I, mJ_R, mI_J, mR_J, ↓reduceIte, decide_true, or_true, true_or, and_self, false_or, or_false, reduceCtorEq, Bool.false_eq_true, and_false, false_and, eq_self, true_and, and_true, zero_ne, ↓br_lt_t, ↓br_lt_f, ↓br_eq_t, ↓br_eq_f, ↓br_lz_t, ↓br_lz_f, ↓br_ez_t, ↓br_ez_f, ↓br_gz_t, ↓br_gz_f, jw_id, jin_t, jix_t, s]
  · have z2 : (cnt : Int) < x := by omega
    simp (disch := omega) only [p175_0, p175_1, p175_2, p175_5, p175_6, p175_9, p175_10, p175_11, p175_14, p175_17, p175_18, p175_19, p175_22, p175_23, p175_24, p175_25, p175_28, p175_29, p175_30, p175_33, p175_34, p175_35, p175_38, p175_39, p175_40, p175_43, p175_44, p175_47i, p175_47a, p175_48, p175_51, p175_54, p175_55, p175_56, p175_59, p175_60, p175_63, p175_64, p175_67, p175_68, p175_71, p175_74, p175_75, p175_76, p175_79, p175_80, p175_81, p175_84, p175_87, p175_88, p175_89, p175_90, p175_91, p175_94, p175_97, p175_98, p175_99, p175_102, p175_105, p175_106, p175_107, p175_110, p175_111, p175_112, p175_115, p175_116, p175_117, p175_120, p175_123, p175_126, p176_0, p176_1, p176_2, p176_5, p176_6, p176_7, p176_10, p176_11, jwd_c, jwd_0, Nat.reduceLeDiff, Nat.reduceEqDiff, Nat.reduceAdd, Nat.reduceSub, Nat.reduceMul, Int.reduceAdd, Int.reduceSub, Int.reduceMul, Int.reduceNeg, Int.reduceEq, Int.reduceLT, Int.reduceLE, jq_ldi_i, jq_ldl_l, jq_lda_a, jq_inc_i, jq_gs_t, jq_gsb_t, jq_gb_t, jq_gr_2, jq_gr_4, jq_gw_2, jq_s_t, jq_b_t, jg_c, jg_n, js_c, js_n, jrm_c, jrm_n, j2_i, j2_l, j2_a, jq_c_i, jq_c_l, jq_c_0, jq_c_n, jwd_le, jw_c0, mS_I, mS_R, mS_J, mN_I, mN_R, mN_J, mR_I, mI_R, mJ_I, mJ_R, mI_J, mR_J, ↓reduceIte, decide_true, or_true, true_or, and_self, false_or, or_false, reduceCtorEq, Bool.false_eq_true, and_false, false_and, eq_self, true_and, and_true, zero_ne, ↓br_lt_t, ↓br_lt_f, ↓br_eq_t, ↓br_eq_f, ↓br_lz_t, ↓br_lz_f, ↓br_ez_t, ↓br_ez_f, ↓br_gz_t, ↓br_gz_f, jw_id, jin_t, jix_t, s, mI_nk, h6]
theorem d_hall (m0 : MO w) (ge : 188 ≤ mN w) (sx : SX w) (h6 : mI w 238 6 = cnt) (c9 : cnt ≤ 900) (ht : ∀ k, k < cnt → ji_and (mI w 239 k) 255 = T k) (hT : ∀ k, k < cnt → 0 ≤ T k ∧ T k ≤ 255) (hn : n ≤ cnt) (hok : ∀ q H, gRead T n (n + 1) 0 gH0 = (.inl q, H) → HOK H ∧ HS H) : ∃ u, MO u ∧ SX u ∧ mN u = mN w + 17 ∧ mK u = mK w + 177 ∧ OldB (64 + mN w) w u ∧ mI u 238 6 = 0 ∧ ((∃ q H, gRead T n (n + 1) 0 gH0 = (.inl q, H) ∧ rn 175 (0, [(0, jvr 238), (1, .inl (n : Int))], [], w) = some (some (.inl (H 0 4)), u) ∧ mX u (64 + mN w) H (gCp (gS0 H) (mI w 241), 0, (fun _ _ => 0), 0, fun _ _ => 0) ∧ mI u 238 14 = 0 ∧ mI u 238 1 = 0 ∧ mI u 238 2 = -1) ∨ (∃ e H, gRead T n (n + 1) 0 gH0 = (.inr e, H) ∧ rn 175 (0, [(0, jvr 238), (1, .inl (n : Int))], [], w) = some (some (.inl (-1)), u) ∧ mI u 241 = mI w 241 ∧ mI u 238 22 = mI w 238 22 ∧ mI u 238 23 = mI w 238 23 ∧ mR u 238 3 = mR w 238 3 ∧ mI u 238 14 = e.1 ∧ mI u 238 1 = 4 ∧ mI u 238 2 = e.2)) := by
  have s0 := m0.s0
  obtain ⟨w1, hw1⟩ : ∃ w1, w1 = setI (setI (setI (setI (setI w 238 0 0) 238 7 n) 238 6 0) 238 8 0) 238 14 0 := ⟨_, rfl⟩
  have f1 : Fr (fun b => b = 238) w w1 := by
    rw [hw1]
    exact ((((Fr.I (P := fun b => b = 238) rfl).tr (Fr.I rfl)).tr (Fr.I rfl)).tr (Fr.I rfl)).tr (Fr.I rfl)
  have r1 : mR w1 = mR w := by rw [hw1]; rfl
  have m1 : MO w1 := m0.frR f1.q r1
  have n1 : mN w1 = mN w := f1.2.1
  have k1 : mK w1 = mK w := f1.2.2.1
  have i1 : ∀ k, k ≠ 0 → k ≠ 6 → k ≠ 7 → k ≠ 8 → k ≠ 14 → mI w1 238 k = mI w 238 k := fun k a b c d e => by rw [hw1, mI_nk e, mI_nk d, mI_nk b, mI_nk c, mI_nk a]
  have i16 : mI w1 238 6 = 0 := by rw [hw1, mI_nk (by omega), mI_nk (by omega), mI_s]
  have i17 : mI w1 238 7 = n := by rw [hw1, mI_nk (by omega), mI_nk (by omega), mI_nk (by omega), mI_s]
  have i18 : mI w1 238 8 = 0 := by rw [hw1, mI_nk (by omega), mI_s]
  have i114 : mI w1 238 14 = 0 := by rw [hw1, mI_s]
  have e1 : rn 175 (0, [(0, jvr 238), (1, .inl (n : Int))], [], w) = rn 175 (44, [(0, jvr 238), (1, .inl (n : Int))], [jvr 238], w1) := by
    rw [hw1]
    simp (disch := omega) only [p175_0, p175_1, p175_2, p175_5, p175_6, p175_9, p175_10, p175_11, p175_14, p175_17, p175_18, p175_19, p175_22, p175_23, p175_24, p175_25, p175_28, p175_29, p175_30, p175_33, p175_34, p175_35, p175_38, p175_39, p175_40, p175_43, jwd_c, jwd_0, Nat.reduceLeDiff, Nat.reduceEqDiff, Nat.reduceAdd, Nat.reduceSub, Nat.reduceMul, Int.reduceAdd, Int.reduceSub, Int.reduceMul, Int.reduceNeg, Int.reduceEq, Int.reduceLT, Int.reduceLE, jq_ldi_i, jq_ldl_l, jq_lda_a, jq_inc_i, jq_gs_t, jq_gsb_t, jq_gb_t, jq_gr_2, jq_gr_4, jq_gw_2, jq_s_t, jq_b_t, jg_c, jg_n, js_c, js_n, jrm_c, jrm_n, j2_i, j2_l, j2_a, jq_c_i, jq_c_l, jq_c_0, jq_c_n, jwd_le, jw_c0, mS_I, mS_R, mS_J, mN_I, mN_R, mN_J, mR_I, mI_R, mJ_I, mJ_R, mI_J, mR_J, ↓reduceIte, decide_true, or_true, true_or, and_self, false_or, or_false, reduceCtorEq, Bool.false_eq_true, and_false, false_and, eq_self, true_and, and_true, zero_ne, ↓br_lt_t, ↓br_lt_f, ↓br_eq_t, ↓br_eq_f, ↓br_lz_t, ↓br_lz_f, ↓br_ez_t, ↓br_ez_f, ↓br_gz_t, ↓br_gz_f, jw_id, jin_t, jix_t, s0, mI_nk, h6]
  rw [e1]
  clear e1
  obtain ⟨h, hh⟩ : ∃ h, h = 64 + mN w := ⟨_, rfl⟩
  rw [← hh]
  have hh1 : 64 + mN w1 = h := by omega
  obtain ⟨v, ev, Mv, ⟨g1, g2, g3⟩, nv, kv, ov⟩ := mh_new (w := w1) (h := h) (by omega) (by omega) m1
  have hsn : mS (newC w1 (1, 8, 0) 33) h = (1, 8, 0) := by rw [← hh1]; exact mS_Cs
  obtain ⟨w2, hw2⟩ : ∃ w2, w2 = setI (setR v 238 4 (some h)) 238 9 0 := ⟨_, rfl⟩
  have f2 : Fr (fun b => b = 238) v w2 := by
    rw [hw2]
    exact (Fr.R (P := fun b => b = 238) rfl).tr (Fr.I rfl)
  obtain ⟨va1, va2, va3, va4⟩ := ov 238 (by omega)
  have sv : mS v 238 = (1, 9, 0) := va1.trans m1.s0
  have e2 : rn 175 (44, [(0, jvr 238), (1, .inl (n : Int))], [jvr 238], w1) = rn 175 (59, [(0, jvr 238), (1, .inl (n : Int))], [], w2) := by
    rw [hw2]
    simp (disch := omega) only [p175_44, p175_47i, p175_47a, p175_48, p175_51, p175_54, p175_55, p175_56, jwd_c, jwd_0, Nat.reduceLeDiff, Nat.reduceEqDiff, Nat.reduceAdd, Nat.reduceSub, Nat.reduceMul, Int.reduceAdd, Int.reduceSub, Int.reduceMul, Int.reduceNeg, Int.reduceEq, Int.reduceLT, Int.reduceLE, jq_ldi_i, jq_ldl_l, jq_lda_a, jq_inc_i, jq_gs_t, jq_gsb_t, jq_gb_t, jq_gr_2, jq_gr_4, jq_gw_2, jq_s_t, jq_b_t, jg_c, jg_n, js_c, js_n, jrm_c, jrm_n, j2_i, j2_l, j2_a, jq_c_i, jq_c_l, jq_c_0, jq_c_n, jwd_le, jw_c0, mS_I, mS_R, mS_J, mN_I, mN_R, mN_J, mR_I, mI_R, mJ_I, mJ_R, mI_J, mR_J, ↓reduceIte, decide_true, or_true, true_or, and_self, false_or, or_false, reduceCtorEq, Bool.false_eq_true, and_false, false_and, eq_self, true_and, and_true, zero_ne, hh1, hsn, ev, sv]
  rw [e2]
  clear e2
  have i2 : ∀ k, k ≠ 9 → mI w2 238 k = mI w1 238 k := fun k a => by
    rw [hw2, mI_nk a]
    exact congrFun va2 k
  have i29 : mI w2 238 9 = 0 := by rw [hw2, mI_s]
  have r2 : ∀ k, k ≠ 4 → mR w2 238 k = mR w 238 k := fun k a => by
    rw [hw2]
    show mR (setR v 238 4 (some h)) 238 k = _
    rw [mR_nk a, va3, r1]
  have r24 : mR w2 238 4 = some h := by
    rw [hw2]
    exact mR_s _ _ _ _
  have s2 : ∀ b, b < h → mS w2 b = mS w b := fun b hb => by rw [f2.q, (ov b hb).1, f1.q]
  have o2 : OldB h w w2 := ((f1.ob (h := h) (fun b hb z => Or.inl z)).tr (fun b hb => ⟨(ov b hb).1, fun _ => (ov b hb).2⟩)).tr (f2.ob (fun b hb z => Or.inl z))
  have m2 : MO w2 := m0.cg (fun b b1 b2 => s2 b (by omega)) (fun k hk => r2 k (by omega))
  have i239 : mI w2 239 = mI w 239 := ((o2 239 (by omega)).2 (fun z => by unfold hmP at z; omega)).1
  have t2 : MTp w2 T n := ⟨m2.s0, m2.s1, m2.s2, m2.r1, m2.r2, by rw [i2 7 (by omega), i17], by omega, fun k hk => by rw [i239]; exact ht k (by omega), fun k hk => hT k (by omega)⟩
  have sx2 : SX w2 := sx.lo (o2.lo (by omega))
  obtain ⟨u3, e3, t3, k3, f3⟩ := m_go t2 (p := 0) (by omega) (by rw [i2 8 (by omega), i18]; rfl) (by omega) (by rw [i2 14 (by omega), i114])
  have Mw2 := Mv.frF f2 (fun b hb => by omega)
  have M3 : MS u3 T n h gH0 (.inl 0) := ⟨m2.frR f3.1.q f3.2.1, Mw2.frF f3.1 (fun b hb z => by unfold tkP at z; omega), by rw [f3.2.1]; exact r24, t3, ⟨by rw [f3.1.q, f2.q]; exact g1, by rw [f3.2.1, f2.Rq (by omega)]; exact g2, by rw [(f3.1.2.2.2 (h + 16) (fun z => by unfold tkP at z; omega)).2.2, (f2.2.2.2 (h + 16) (by omega)).2.2]; exact g3⟩, sx2.fr f3.1, k3⟩
  obtain ⟨u4, e4, f4, h4⟩ := m_readAll M3
  have o4 : OldB h w u4 := (o2.tr (f3.1.ob (fun b hb z => by unfold tkP at z; unfold hmP; omega))).tr (f4.1.ob (fun b hb z => by unfold lnP at z; unfold hmP; omega))
  have i4 : ∀ k, (k < 8 ∨ 16 ≤ k) → mI u4 238 k = mI w2 238 k := fun k hk => (f4.2.2 k hk).trans (f3.2.2 k hk)
  have r4 : mR u4 = mR w2 := f4.2.1.trans f3.2.1
  have nn : mN u4 = mN w + 17 := by rw [f4.1.2.1, f3.1.2.1, f2.2.1, nv, n1]
  have kk : mK u4 = mK w + 177 := by rw [f4.1.2.2.1, f3.1.2.2.1, f2.2.2.1, kv, k1]
  have m4 : MO u4 := m2.frR (f4.1.q.trans f3.1.q) r4
  have sx4 : SX u4 := sx.lo (o4.lo (by omega))
  have y1 := m2.s0
  have y3 : mS u3 238 = (1, 9, 0) := by rw [f3.1.q]; exact y1
  have y4 := m4.s0
  have i46 : mI u4 238 6 = 0 := by rw [i4 6 (by omega), i2 6 (by omega), i16]
  have kind := gE.read (T := T) (n := n) (n + 1) 0 gH0
  generalize hG : gRead T n (n + 1) 0 gH0 = G at *
  obtain ⟨s3, H⟩ := G
  rcases h4 with ⟨q, g, M4⟩ | ⟨x, H2, g, M4⟩
  case inr =>
    have g : s3 = .inr x := g
    subst g
    have kind : 1 ≤ x.1 ∧ x.1 ≤ 7 := kind
    obtain ⟨z1, z2, z3⟩ : mI u4 238 9 = 5 ∧ mI u4 238 14 = x.1 ∧ mI u4 238 15 = x.2 := M4.k
    have f5 : Fr (fun b => b = 238) u4 (setI (setI u4 238 1 4) 238 2 x.2) := (Fr.I (P := fun b => b = 238) rfl).tr (Fr.I rfl)
    refine ⟨setI (setI u4 238 1 4) 238 2 x.2, m4.frR rfl rfl, sx4.fr f5, nn, kk, o4.tr (f5.ob (fun b hb z => Or.inl z)), by rw [mI_nk (by omega), mI_nk (by omega), i46], Or.inr ⟨x, H, rfl, ?_, ?_, ?_, ?_, ?_, ?_, ?_, ?_⟩⟩
    · simp (disch := omega) only [p175_59, p175_60, p175_63, p175_64, p175_67, p175_68, p175_71, p175_74, p175_75, p175_76, p175_79, p175_80, p175_81, p175_84, p175_87, p175_88, p175_89, p175_90, jwd_c, jwd_0, Nat.reduceLeDiff, Nat.reduceEqDiff, Nat.reduceAdd, Nat.reduceSub, Nat.reduceMul, Int.reduceAdd, Int.reduceSub, Int.reduceMul, Int.reduceNeg, Int.reduceEq, Int.reduceLT, Int.reduceLE, jq_ldi_i, jq_ldl_l, jq_lda_a, jq_inc_i, jq_gs_t, jq_gsb_t, jq_gb_t, jq_gr_2, jq_gr_4, jq_gw_2, jq_s_t, jq_b_t, jg_c, jg_n, js_c, js_n, jrm_c, jrm_n, j2_i, j2_l, j2_a, jq_c_i, jq_c_l, jq_c_0, jq_c_n, jwd_le, jw_c0, mS_I, mS_R, mS_J, mN_I, mN_R, mN_J, mR_I, mI_R, mJ_I, mJ_R, mI_J, mR_J, ↓reduceIte, decide_true, or_true, true_or, and_self, false_or, or_false, reduceCtorEq, Bool.false_eq_true, and_false, false_and, eq_self, true_and, and_true, zero_ne, ↓br_lt_t, ↓br_lt_f, ↓br_eq_t, ↓br_eq_f, ↓br_lz_t, ↓br_lz_f, ↓br_ez_t, ↓br_ez_f, ↓br_gz_t, ↓br_gz_f, jw_id, jin_t, jix_t, y1, y3, y4, e3, e4, z2, z3, mI_nk]
    · rw [mI_nb (by omega), mI_nb (by omega), (f4.1.2.2.2 241 (fun z => by unfold lnP at z; omega)).1, (f3.1.2.2.2 241 (fun z => by unfold tkP at z; omega)).1, f2.Iq (by omega), (ov 241 (by omega)).2.1, f1.Iq (by omega)]
    · rw [mI_nk (by omega), mI_nk (by omega), i4 22 (by omega), i2 22 (by omega), i1 22 (by omega) (by omega) (by omega) (by omega) (by omega)]
    · rw [mI_nk (by omega), mI_nk (by omega), i4 23 (by omega), i2 23 (by omega), i1 23 (by omega) (by omega) (by omega) (by omega) (by omega)]
    · show mR u4 238 3 = _
      rw [r4, r2 3 (by omega)]
    · rw [mI_nk (by omega), mI_nk (by omega), z2]
    · rw [mI_nk (by omega), mI_s]
    · rw [mI_s]
  have g : s3 = .inl q := g
  subst g
  have M4 : MS u4 T n h H (.inl q) := M4
  obtain ⟨ok, hs⟩ := hok q H rfl
  have k14 : mI u4 238 14 = 0 := M4.k.2.2.2.2.2.2.2
  obtain ⟨w5, hw5⟩ : ∃ w5, w5 = setR u4 238 3 (some h) := ⟨_, rfl⟩
  have f5 : Fr (fun b => b = 238) u4 w5 := by
    rw [hw5]
    exact Fr.R rfl
  have r5 : mR w5 238 3 = some h := by rw [hw5]; exact mR_s _ _ _ _
  have m5 : MO w5 := m4.cg (fun b _ _ => by rw [f5.q]) (fun k hk => by rw [hw5, mR_nk (by omega)])
  have M5 := M4.2.1.frF f5 (fun b hb => by omega)
  have i5 : mI w5 = mI u4 := by rw [hw5]; rfl
  have e5 := m_start m5 M5 r5 ok hs (Or.inl rfl)
  have i241 : mI w5 241 = mI w 241 := by rw [i5, (f4.1.2.2.2 241 (fun z => by unfold lnP at z; omega)).1, (f3.1.2.2.2 241 (fun z => by unfold tkP at z; omega)).1, f2.Iq (by omega), (ov 241 (by omega)).2.1, f1.Iq (by omega)]
  rw [i241] at e5
  generalize hF : gCp (gS0 H) (mI w 241) = F at *
  obtain ⟨w6, hw6⟩ : ∃ w6, w6 = setA w5 241 F := ⟨_, rfl⟩
  rw [← hw6] at e5
  have f6 : Fr (fun b => b = 241) w5 w6 := by
    rw [hw6]
    exact Fr.A rfl
  have rr6 : mR w6 = mR w5 := by rw [hw6]; rfl
  have i6 : mI w6 238 = mI u4 238 := by rw [f6.Iq (by omega), i5]
  obtain ⟨w7, hw7⟩ : ∃ w7, w7 = setI (setI (setI (setI w6 238 22 0) 238 23 0) 238 1 0) 238 2 (-1) := ⟨_, rfl⟩
  have f7 : Fr (fun b => b = 238) w6 w7 := by
    rw [hw7]
    exact (((Fr.I (P := fun b => b = 238) rfl).tr (Fr.I rfl)).tr (Fr.I rfl)).tr (Fr.I rfl)
  have rr7 : mR w7 = mR w6 := by rw [hw7]; rfl
  have i7 : ∀ k, k ≠ 1 → k ≠ 2 → k ≠ 22 → k ≠ 23 → mI w7 238 k = mI u4 238 k := fun k a b c d => by rw [hw7, mI_nk b, mI_nk a, mI_nk d, mI_nk c, i6]
  have m6 : MO w6 := m5.frR f6.q rr6
  have m7 : MO w7 := m6.frR f7.q rr7
  have M6 := M5.frF f6 (fun b hb => by omega)
  have M7 := M6.frF f7 (fun b hb => by omega)
  have o7 : OldB h w w7 := ((o4.tr (f5.ob (fun b hb z => Or.inl z))).tr (f6.ob (fun b hb z => Or.inr (Or.inr z)))).tr (f7.ob (fun b hb z => Or.inl z))
  have y5 := m5.s0
  have y6 := m6.s0
  have r44 : mR u4 238 4 = some h := M4.r4
  have x3 : mR w5 238 18 = some 241 := m5.r3
  have x6 : mR w6 238 3 = some h := by rw [rr6]; exact r5
  have b6 : mS w6 h = (1, 8, 0) := M6.s
  have x4 : mI w6 h 4 = H 0 4 := M6.f4
  have hge := M4.ge
  refine ⟨w7, m7, sx.lo (o7.lo (by omega)), by rw [f7.2.1, f6.2.1, f5.2.1, nn], by rw [f7.2.2.1, f6.2.2.1, f5.2.2.1, kk], o7, by rw [i7 6 (by omega) (by omega) (by omega) (by omega), i46], Or.inl ⟨q, H, rfl, ?_, ⟨⟨m7, M7, by rw [rr7]; exact x6⟩, ?_, ⟨?_, by show (0 : Nat) ≤ 10; omega, fun i k hi => absurd hi (by show ¬ i < (0 : Nat); omega)⟩, ⟨?_, by show (0 : Nat) ≤ 3; omega, fun i k hi => absurd hi (by show ¬ i < (0 : Nat); omega)⟩⟩, ?_, ?_, ?_⟩⟩
  · rw [hw7]
    have e6 : rn 175 (59, [(0, jvr 238), (1, .inl (n : Int))], [], w2) = rn 175 (97, [(0, jvr 238), (1, .inl (n : Int))], [], w5) := by
      rw [hw5]
      simp (disch := omega) only [p175_59, p175_60, p175_63, p175_64, p175_67, p175_68, p175_71, p175_74, p175_75, p175_76, p175_79, p175_80, p175_81, p175_84, p175_87, p175_88, p175_89, p175_90, p175_91, p175_94, jwd_c, jwd_0, Nat.reduceLeDiff, Nat.reduceEqDiff, Nat.reduceAdd, Nat.reduceSub, Nat.reduceMul, Int.reduceAdd, Int.reduceSub, Int.reduceMul, Int.reduceNeg, Int.reduceEq, Int.reduceLT, Int.reduceLE, jq_ldi_i, jq_ldl_l, jq_lda_a, jq_inc_i, jq_gs_t, jq_gsb_t, jq_gb_t, jq_gr_2, jq_gr_4, jq_gw_2, jq_s_t, jq_b_t, jg_c, jg_n, js_c, js_n, jrm_c, jrm_n, j2_i, j2_l, j2_a, jq_c_i, jq_c_l, jq_c_0, jq_c_n, jwd_le, jw_c0, mS_I, mS_R, mS_J, mN_I, mN_R, mN_J, mR_I, mI_R, mJ_I, mJ_R, mI_J, mR_J, ↓reduceIte, decide_true, or_true, true_or, and_self, false_or, or_false, reduceCtorEq, Bool.false_eq_true, and_false, false_and, eq_self, true_and, and_true, zero_ne, ↓br_lt_t, ↓br_lt_f, ↓br_eq_t, ↓br_eq_f, ↓br_lz_t, ↓br_lz_f, ↓br_ez_t, ↓br_ez_f, ↓br_gz_t, ↓br_gz_f, jw_id, jin_t, jix_t, y1, y3, y4, e3, e4, k14, r44]
    rw [e6]
    have e7 : rn 175 (97, [(0, jvr 238), (1, .inl (n : Int))], [], w5) = rn 175 (105, [(0, jvr 238), (1, .inl (n : Int))], [], w6) := by
      simp (disch := omega) only [p175_97, p175_98, p175_99, p175_102, jwd_c, jwd_0, Nat.reduceLeDiff, Nat.reduceEqDiff, Nat.reduceAdd, Nat.reduceSub, Nat.reduceMul, Int.reduceAdd, Int.reduceSub, Int.reduceMul, Int.reduceNeg, Int.reduceEq, Int.reduceLT, Int.reduceLE, jq_ldi_i, jq_ldl_l, jq_lda_a, jq_inc_i, jq_gs_t, jq_gsb_t, jq_gb_t, jq_gr_2, jq_gr_4, jq_gw_2, jq_s_t, jq_b_t, jg_c, jg_n, js_c, js_n, jrm_c, jrm_n, j2_i, j2_l, j2_a, jq_c_i, jq_c_l, jq_c_0, jq_c_n, jwd_le, jw_c0, mS_I, mS_R, mS_J, mN_I, mN_R, mN_J, mR_I, mI_R, mJ_I, mJ_R, mI_J, mR_J, ↓reduceIte, decide_true, or_true, true_or, and_self, false_or, or_false, reduceCtorEq, Bool.false_eq_true, and_false, false_and, eq_self, true_and, and_true, zero_ne, y5, x3, e5]
    rw [e7]
    simp (disch := omega) only [p175_105, p175_106, p175_107, p175_110, p175_111, p175_112, p175_115, p175_116, p175_117, p175_120, p175_123, p175_126, p213_0, p213_1, p213_2, p213_5, p213_6, p213_7, p213_10, p213_11, jwd_c, jwd_0, Nat.reduceLeDiff, Nat.reduceEqDiff, Nat.reduceAdd, Nat.reduceSub, Nat.reduceMul, Int.reduceAdd, Int.reduceSub, Int.reduceMul, Int.reduceNeg, Int.reduceEq, Int.reduceLT, Int.reduceLE, jq_ldi_i, jq_ldl_l, jq_lda_a, jq_inc_i, jq_gs_t, jq_gsb_t, jq_gb_t, jq_gr_2, jq_gr_4, jq_gw_2, jq_s_t, jq_b_t, jg_c, jg_n, js_c, js_n, jrm_c, jrm_n, j2_i, j2_l, j2_a, jq_c_i, jq_c_l, jq_c_0, jq_c_n, jwd_le, jw_c0, mS_I, mS_R, mS_J, mN_I, mN_R, mN_J, mR_I, mI_R, mJ_I, mJ_R, mI_J, mR_J, ↓reduceIte, decide_true, or_true, true_or, and_self, false_or, or_false, reduceCtorEq, Bool.false_eq_true, and_false, false_and, eq_self, true_and, and_true, zero_ne, y6, x6, b6, x4, mI_nb]
  · show mI w7 241 = gCp (gS0 H) (mI w 241)
    rw [hF, f7.Iq (by omega), hw6]
    exact mI_A _ _ _
  · rw [hw7, mI_nk (by omega), mI_nk (by omega), mI_nk (by omega), mI_s]
    rfl
  · rw [hw7, mI_nk (by omega), mI_nk (by omega), mI_s]
    rfl
  · rw [i7 14 (by omega) (by omega) (by omega) (by omega), k14]
  · rw [hw7, mI_nk (by omega), mI_s]
  · rw [hw7, mI_s]
end DHALL
