/-! The constructors: Shelf, the class, the model. -/
section INITS2
variable {w u v : jmW} {P Q : Nat → Prop} {a b c r n : Nat}
theorem exSw {c r : Nat} (h : ∃ n q, Sg w b c r n q) (x : Gw P w u) (ha : b + 1 < 64 + mN w) (z1 : ¬ P b) (z2 : ¬ P (b + 1)) : ∃ n q, Sg u b c r n q := by
  obtain ⟨n, q, h⟩ := h
  exact ⟨n, q, h.gw x ha z1 z2⟩
theorem HSx.gw (h : HSx w b) (x : Gw P w u) (hb : b + 16 < 64 + mN w) (z : ∀ y, b ≤ y → y ≤ b + 16 → ¬ P y) : HSx u b := by
  obtain ⟨h1, h2, h3, h4, h5, h6, h7, h8, h9, s1, s2, s3, s4, s5, s6, s7, s8⟩ := h
  have r := x.r (b := b) (by omega) (z b (by omega) (by omega))
  have e : ∀ {k c r : Nat}, 1 ≤ k → k ≤ 15 → (∃ n q, Sg w (b + k) c r n q) → ∃ n q, Sg u (b + k) c r n q := fun k1 k2 h => exSw h x (by omega) (z _ (by omega) (by omega)) (z _ (by omega) (by omega))
  exact ⟨by rw [x.s (by omega)]; exact h1, by rw [r]; exact h2, by rw [r]; exact h3, by rw [r]; exact h4, by rw [r]; exact h5, by rw [r]; exact h6, by rw [r]; exact h7, by rw [r]; exact h8, by rw [r]; exact h9, e (by omega) (by omega) s1, e (by omega) (by omega) s2, e (by omega) (by omega) s3, e (by omega) (by omega) s4, e (by omega) (by omega) s5, e (by omega) (by omega) s6, e (by omega) (by omega) s7, e (by omega) (by omega) s8⟩
theorem CSh.gw {s k T : Nat} {Q2 : Nat → Nat → Int} {Bt : Int} (h : CSh w s n k Q2 T Bt) (x : Gw P w u) (hs : s + 1 + 7 * n < 64 + mN w) (z : ∀ y, s ≤ y → y ≤ s + 1 + 7 * n → ¬ P y) : CSh u s n k Q2 T Bt := by
  obtain ⟨bt, h1, h2, h3, h4, h5, h6, h7, h8, h9, h10⟩ := h
  have r := x.r (b := s) (by omega) (z s (by omega) (by omega))
  have i := x.i (b := s) (by omega) (z s (by omega) (by omega))
  refine ⟨bt, by rw [x.s (by omega)]; exact h1, by rw [r]; exact h2, by rw [x.s (by omega)]; exact h3, fun j hj => by rw [x.r (b := s + 1) (by omega) (z _ (by omega) (by omega))]; exact h4 j hj, by rw [i]; exact h5, h6, by rw [i]; exact h7, h8, fun j hj => ?_, fun j hj => ?_⟩
  · obtain ⟨T2, c2, r2, g⟩ := h9 j hj
    exact ⟨T2, c2, r2, g.gw x (by omega) (fun y y1 y2 => z y (by omega) (by omega))⟩
  · have := Nat.mod_lt (bt + j) (show 0 < n by omega)
    exact (h10 j hj).gw x (by omega) (fun y y1 y2 => z y (by omega) (by omega))
/-- a Shelf while it is made -/
def SI (w : jmW) (a n i : Nat) : Prop := mS w a = (1, 6, 0) ∧ mR w a 0 = some (a + 1) ∧ mS w (a + 1) = (2, 3, n) ∧ a + 2 + 7 * i = 64 + mN w ∧ ∀ j, j < i → mR w (a + 1) j = some (a + 2 + 7 * j) ∧ CR w (a + 2 + 7 * j) 0 0 rZ
theorem sl_lp (n1 : n ≤ 100) : ∀ (m i : Nat) (w : jmW), i + m = n → SI w a n i → ∃ u, rn 9 (23, [(0, jvr a), (1, .inl (n : Int)), (2, .inl (i : Int))], [], w) = rn 9 (51, [(0, jvr a), (1, .inl (n : Int)), (2, .inl (n : Int))], [], u) ∧ SI u a n n ∧ Gw (fun b => b = a + 1) w u ∧ mK u = mK w + 315 * m ∧ mI u a = mI w a := by
  intro m
  induction m with
  | zero =>
    intro i w hi h
    have e : i = n := by omega
    subst e
    obtain ⟨h1, h2, h3, h4, h5⟩ := h
    refine ⟨w, ?_, ⟨h1, h2, h3, h4, h5⟩, Gw.rf, rfl, rfl⟩
    rw [p9_23]
    simp (disch := omega) only [p9_24, p9_25, p9_28, p9_29, p9_32, p9_33, p9_36, p9_37, p9_40i, p9_40a, p9_41, p9_44, p9_45, p9_48, jwd_c, jwd_0, Nat.reduceLeDiff, Nat.reduceEqDiff, Nat.reduceAdd, Nat.reduceSub, Nat.reduceMul, Int.reduceAdd, Int.reduceSub, Int.reduceMul, Int.reduceNeg, Int.reduceEq, Int.reduceLT, Int.reduceLE, jq_ldi_i, jq_ldl_l, jq_lda_a, jq_inc_i, jq_gs_t, jq_gsb_t, jq_gb_t, jq_gr_2, jq_gr_4, jq_gw_2, jq_s_t, jq_b_t, jg_c, jg_n, js_c, js_n, jrm_c, jrm_n, j2_i, j2_l, j2_a, jq_c_i, jq_c_l, jq_c_0, jq_c_n, jwd_le, jw_c0, mS_I, mS_R, mS_J, mN_I, mN_R, mN_J, mR_I, mI_R, mJ_I, mJ_R, mI_J, mR_J, ↓reduceIte, decide_true, or_true, true_or, and_self, false_or, or_false, reduceCtorEq, Bool.false_eq_true, and_false, false_and, eq_self, true_and, and_true, zero_ne, ↓br_lt_t, ↓br_lt_f, ↓br_eq_t, ↓br_eq_f, ↓br_lz_t, ↓br_lz_f, ↓br_ez_t, ↓br_ez_f, ↓br_gz_t, ↓br_gz_f, jw_id, jin_t, jix_t, h1, h2, h3]
  | succ m ih =>
    intro i w hi h
    obtain ⟨h1, h2, h3, h4, h5⟩ := h
    obtain ⟨v, e, g, f, nv, kv⟩ := mk_row (w := w) (P := fun _ => False) (a := a + 2 + 7 * i) h4
    have z1 : mS (newC w (1, 4, 0) 11) (a + 2 + 7 * i) = (1, 4, 0) := by rw [h4]; exact mS_Cs
    have z2 : 64 + mN w = a + 2 + 7 * i := h4.symm
    have z3 : mS v (a + 1) = (2, 3, n) := by rw [f.s (by omega)]; exact h3
    have z4 : mS v (a + 2 + 7 * i) = (1, 4, 0) := g.s0
    have z5 : mR v a 0 = some (a + 1) := by rw [f.r (by omega) (fun z => z)]; exact h2
    obtain ⟨w2, hw2⟩ : ∃ w2, w2 = setR v (a + 1) i (some (a + 2 + 7 * i)) := ⟨_, rfl⟩
    have f2 : Fr (fun b => b = a + 1) v w2 := by rw [hw2]; exact Fr.R rfl
    have F : Gw (fun b => b = a + 1) w w2 := (f.mo (fun b _ z => z.elim)).tr f2.gw
    have h' : SI w2 a n (i + 1) := by
      refine ⟨by rw [F.s (by omega)]; exact h1, by rw [F.r (by omega) (by omega)]; exact h2, by rw [F.s (by omega)]; exact h3, by rw [f2.2.1]; omega, fun j hj => ?_⟩
      by_cases z : j = i
      · subst z
        exact ⟨by rw [hw2]; exact mR_s _ _ _ _, g.fr f2 (fun b b1 b2 => by omega)⟩
      · obtain ⟨y1, y2⟩ := h5 j (by omega)
        refine ⟨?_, y2.gw F (by omega) (fun b b1 b2 => by omega)⟩
        rw [hw2, mR_nk z, f.r (by omega) (fun z => z)]
        exact y1
    obtain ⟨u, e2, s2, F2, k2, i2⟩ := ih (i + 1) w2 (by omega) h'
    refine ⟨u, ?_, s2, F.tr F2, by rw [k2, f2.2.2.1, kv]; omega, i2.trans ((f2.Iq (by omega)).trans (f.i (by omega) (fun z => z)))⟩
    have e3 : ((i + 1 : Nat) : Int) = (i : Int) + 1 := by omega
    have jx : jix (i : Int) = i := by rw [jix_t (by omega) (by omega)]; exact Int.toNat_natCast i
    rw [← e2, e3, hw2, p9_23]
    simp (disch := omega) only [p9_0, p9_1, p9_4, p9_5, p9_6, p9_7, p9_10, p9_11, p9_14, p9_15, p9_18, p9_21, p9_22, p9_24, p9_25, p9_28, p9_29, p9_32, p9_33, p9_36, p9_37, p9_40i, p9_40a, p9_41, p9_44, p9_45, p9_48, p9_51, p9_52, p9_53, p9_56, p9_57, p9_58, p9_61, jwd_c, jwd_0, Nat.reduceLeDiff, Nat.reduceEqDiff, Nat.reduceAdd, Nat.reduceSub, Nat.reduceMul, Int.reduceAdd, Int.reduceSub, Int.reduceMul, Int.reduceNeg, Int.reduceEq, Int.reduceLT, Int.reduceLE, jq_ldi_i, jq_ldl_l, jq_lda_a, jq_inc_i, jq_gs_t, jq_gsb_t, jq_gb_t, jq_gr_2, jq_gr_4, jq_gw_2, jq_s_t, jq_b_t, jg_c, jg_n, js_c, js_n, jrm_c, jrm_n, j2_i, j2_l, j2_a, jq_c_i, jq_c_l, jq_c_0, jq_c_n, jwd_le, jw_c0, mS_I, mS_R, mS_J, mN_I, mN_R, mN_J, mR_I, mI_R, mJ_I, mJ_R, mI_J, mR_J, ↓reduceIte, decide_true, or_true, true_or, and_self, false_or, or_false, reduceCtorEq, Bool.false_eq_true, and_false, false_and, eq_self, true_and, and_true, zero_ne, ↓br_lt_t, ↓br_lt_f, ↓br_eq_t, ↓br_eq_f, ↓br_lz_t, ↓br_lz_f, ↓br_ez_t, ↓br_ez_f, ↓br_gz_t, ↓br_gz_f, jw_id, jin_t, jix_t, jq_w_2, h1, h2, h3, z1, z2, z3, z4, z5, e, jx, Int.toNat_natCast]
theorem mk_shelf {N : Int} {T : Nat} {Q2 : Nat → Nat → Int} {Bt : Int} (hN : N = (n : Int)) (n1 : 1 ≤ n) (n2 : n ≤ 100) (ha : a = 64 + mN w) (hB : 0 ≤ Bt) : ∃ u, rn 9 (0, [(0, jvr a), (1, .inl N)], [], newC w (1, 6, 0) 3) = some (none, u) ∧ (CSh u a n 0 Q2 T Bt ∧ mI u a 2 = 0) ∧ Gw P w u ∧ mN u = mN w + (2 + 7 * n) ∧ mK u = mK w + (3 + n + 315 * n) := by
  subst hN
  obtain ⟨w0, hw0⟩ : ∃ w0, w0 = newC w (1, 6, 0) 3 := ⟨_, rfl⟩
  have q0 : mS w0 a = (1, 6, 0) := by rw [hw0, ha]; exact mS_Cs
  have N0 : mN w0 = mN w + 1 := by rw [hw0]; rfl
  have K0 : mK w0 = mK w + 3 := by rw [hw0]; rfl
  have B0 : Gw (fun b => b = a) w w0 := by rw [hw0]; exact Gw.C
  obtain ⟨w1, hw1⟩ : ∃ w1, w1 = setR (newC w0 (2, 3, n) n) a 0 (some (a + 1)) := ⟨_, rfl⟩
  have sn : mS (newC w0 (2, 3, n) n) a = (1, 6, 0) := by rw [mS_C (by omega)]; exact q0
  have N1 : mN w1 = mN w + 2 := by rw [hw1]; show mN w0 + 1 = _; omega
  have K1 : mK w1 = mK w0 + n := by rw [hw1]; rfl
  have h1 : 64 + mN w0 = a + 1 := by omega
  have B1 : Gw (fun b => b = a) w0 w1 := by
    rw [hw1]
    exact Gw.tr (P := fun b => b = a) Gw.C (Fr.R (P := fun b => b = a) rfl).gw
  have s1 : mS w1 (a + 1) = (2, 3, n) := by
    rw [hw1, ← h1]
    exact mS_Cs (n := n)
  have hg : ∀ (i p : Nat) (lv : jmL) (st : List jmV) (w : jmW), jq_gn (n : Int) i p lv st w = rn i (p, lv, st, w) := fun i p lv st w => jq_gn_t (by omega) (by omega) (jw_id (by omega) (by omega)) i p lv st w
  have jm : (jw (n : Int)).toNat = n := by rw [jw_id (by omega) (by omega)]; exact Int.toNat_natCast n
  have e1 : rn 9 (0, [(0, jvr a), (1, .inl (n : Int))], [], w0) = rn 9 (23, [(0, jvr a), (1, .inl (n : Int)), (2, .inl ((0 : Nat) : Int))], [], w1) := by
    rw [hw1, show ((0 : Nat) : Int) = 0 from rfl]
    simp (disch := omega) only [p9_0, p9_1, p9_4, p9_5, p9_6, p9_7, p9_10, p9_11, p9_14, p9_15, p9_18, p9_21, p9_22, jwd_c, jwd_0, Nat.reduceLeDiff, Nat.reduceEqDiff, Nat.reduceAdd, Nat.reduceSub, Nat.reduceMul, Int.reduceAdd, Int.reduceSub, Int.reduceMul, Int.reduceNeg, Int.reduceEq, Int.reduceLT, Int.reduceLE, jq_ldi_i, jq_ldl_l, jq_lda_a, jq_inc_i, jq_gs_t, jq_gsb_t, jq_gb_t, jq_gr_2, jq_gr_4, jq_gw_2, jq_s_t, jq_b_t, jg_c, jg_n, js_c, js_n, jrm_c, jrm_n, j2_i, j2_l, j2_a, jq_c_i, jq_c_l, jq_c_0, jq_c_n, jwd_le, jw_c0, mS_I, mS_R, mS_J, mN_I, mN_R, mN_J, mR_I, mI_R, mJ_I, mJ_R, mI_J, mR_J, ↓reduceIte, decide_true, or_true, true_or, and_self, false_or, or_false, reduceCtorEq, Bool.false_eq_true, and_false, false_and, eq_self, true_and, and_true, zero_ne, ↓br_lt_t, ↓br_lt_f, ↓br_eq_t, ↓br_eq_f, ↓br_lz_t, ↓br_lz_f, ↓br_ez_t, ↓br_ez_f, ↓br_gz_t, ↓br_gz_f, jw_id, jin_t, jix_t, q0, hg, jm, h1, sn, Int.toNat_natCast]
  have i1 : SI w1 a n 0 := ⟨by rw [hw1]; exact sn, by rw [hw1]; exact mR_s _ _ _ _, s1, by omega, fun j hj => absurd hj (by omega)⟩
  obtain ⟨w2, e2, ⟨x1, x2, x3, x4, x5⟩, F2, k2, i2⟩ := sl_lp n2 n 0 w1 (by omega) i1
  obtain ⟨u, hu⟩ : ∃ u, u = setI (setI w2 a 1 0) a 2 0 := ⟨_, rfl⟩
  have fu : Fr (fun b => b = a) w2 u := by rw [hu]; exact (Fr.I (P := fun b => b = a) rfl).tr (Fr.I rfl)
  rw [← hw0]
  refine ⟨u, ?_, ⟨⟨0, by rw [fu.q]; exact x1, by rw [show mR u = mR w2 by rw [hu]; rfl]; exact x2, by rw [fu.q]; exact x3, fun i hi => by rw [fu.Rq (by omega)]; exact (x5 i hi).1, by rw [hu, mI_nk (by omega), mI_s]; rfl, hB, by rw [hu, mI_s]; rfl, Nat.zero_le _, fun i hi => ⟨_, _, _, (x5 i hi).2.fr fu (fun b b1 b2 => by omega)⟩, fun i hi => absurd hi (by omega)⟩, by rw [hu, mI_s]⟩, (((B0.tr B1).mo (Q := fun b => a ≤ b) (fun b _ z => by omega)).tr ((F2.mo (Q := fun b => a ≤ b) (fun b _ z => by omega)).tr (fu.gw.mo (Q := fun b => a ≤ b) (fun b _ z => by omega)))).mo (fun b hb z => absurd hb (by omega)), by rw [fu.2.1]; omega, by rw [fu.2.2.1]; omega⟩
  rw [e1, e2, hu]
  simp (disch := omega) only [p9_51, p9_52, p9_53, p9_56, p9_57, p9_58, p9_61, jwd_c, jwd_0, Nat.reduceLeDiff, Nat.reduceEqDiff, Nat.reduceAdd, Nat.reduceSub, Nat.reduceMul, Int.reduceAdd, Int.reduceSub, Int.reduceMul, Int.reduceNeg, Int.reduceEq, Int.reduceLT, Int.reduceLE, jq_ldi_i, jq_ldl_l, jq_lda_a, jq_inc_i, jq_gs_t, jq_gsb_t, jq_gb_t, jq_gr_2, jq_gr_4, jq_gw_2, jq_s_t, jq_b_t, jg_c, jg_n, js_c, js_n, jrm_c, jrm_n, j2_i, j2_l, j2_a, jq_c_i, jq_c_l, jq_c_0, jq_c_n, jwd_le, jw_c0, mS_I, mS_R, mS_J, mN_I, mN_R, mN_J, mR_I, mI_R, mJ_I, mJ_R, mI_J, mR_J, ↓reduceIte, decide_true, or_true, true_or, and_self, false_or, or_false, reduceCtorEq, Bool.false_eq_true, and_false, false_and, eq_self, true_and, and_true, zero_ne, x1]
theorem mS0_0 (q : mS w a = (1, 7, 0)) (hN : 64 + mN w = a + 1) : ∃ v u, rn 0 (4, [(0, jvr a)], [], w) = rn 0 (19, [(0, jvr a)], [], u) ∧ (∀ g, Sg v (a + 1) 1 900 0 g) ∧ Gw (fun b => b = a) v u ∧ mN v = mN w + 2 ∧ mN u = mN w + 2 ∧ Gw (fun b => b = a) w u ∧ mR u a 0 = some (a + 1) ∧ (∀ j, j ≠ 0 → mR u a j = mR w a j) ∧ mI u a = mI w a ∧ mS u a = (1, 7, 0) ∧ mK u = mK w + 904 := by
  obtain ⟨v, e, g, f, n, k⟩ := mk_sh (w := w) (P := fun _ => False) (a := a + 1) (R := 900) (C := 1) (r := 900) (c := 1) (m := 900) rfl rfl rfl (by omega) (by omega) (by omega) (by omega) (by omega) (by omega)
  have t : mS v a = (1, 7, 0) := by rw [f.s (by omega)]; exact q
  obtain ⟨u, hu⟩ : ∃ u, u = setR v a 0 (some (a + 1)) := ⟨_, rfl⟩
  have D : Gw (fun b => b = a) v u := by rw [hu]; exact (Fr.R (P := fun b => b = a) rfl).gw
  refine ⟨v, u, ?_, g, D, by omega, by rw [hu]; show mN v = _; omega, (f.mo (fun b _ z => z.elim)).tr D, by rw [hu]; exact mR_s _ _ _ _, fun j hj => by rw [hu, mR_nk hj, f.r (by omega) (fun z => z)], by rw [hu]; exact f.i (by omega) (fun z => z), by rw [hu]; exact t, by rw [hu]; show mK v = _; omega⟩
  rw [hu]
  have z1 : mS (newC w (1, 5, 0) 4) (a + 1) = (1, 5, 0) := by rw [show a + 1 = 64 + mN w by omega]; exact mS_Cs
  have z2 : 64 + mN w = a + 1 := by omega
  simp (disch := omega) only [p0_4, p0_5, p0_8i, p0_8a, p0_9, p0_12, p0_13, p0_16, jwd_c, jwd_0, Nat.reduceLeDiff, Nat.reduceEqDiff, Nat.reduceAdd, Nat.reduceSub, Nat.reduceMul, Int.reduceAdd, Int.reduceSub, Int.reduceMul, Int.reduceNeg, Int.reduceEq, Int.reduceLT, Int.reduceLE, jq_ldi_i, jq_ldl_l, jq_lda_a, jq_inc_i, jq_gs_t, jq_gsb_t, jq_gb_t, jq_gr_2, jq_gr_4, jq_gw_2, jq_s_t, jq_b_t, jg_c, jg_n, js_c, js_n, jrm_c, jrm_n, j2_i, j2_l, j2_a, jq_c_i, jq_c_l, jq_c_0, jq_c_n, jwd_le, jw_c0, mS_I, mS_R, mS_J, mN_I, mN_R, mN_J, mR_I, mI_R, mJ_I, mJ_R, mI_J, mR_J, ↓reduceIte, decide_true, or_true, true_or, and_self, false_or, or_false, reduceCtorEq, Bool.false_eq_true, and_false, false_and, eq_self, true_and, and_true, zero_ne, z1, z2, e, t]
theorem mS0_1 (q : mS w a = (1, 7, 0)) (hN : 64 + mN w = a + 3) : ∃ v u, rn 0 (19, [(0, jvr a)], [], w) = rn 0 (30, [(0, jvr a)], [], u) ∧ (HSx v (a + 3)) ∧ Gw (fun b => b = a) v u ∧ mN v = mN w + 17 ∧ mN u = mN w + 17 ∧ Gw (fun b => b = a) w u ∧ mR u a 1 = some (a + 3) ∧ (∀ j, j ≠ 1 → mR u a j = mR w a j) ∧ mI u a = mI w a ∧ mS u a = (1, 7, 0) ∧ mK u = mK w + 430 := by
  obtain ⟨v, e, g, f, n, k⟩ := mk_hall (w := w) (P := fun _ => False) (a := a + 3) (by omega)
  have t : mS v a = (1, 7, 0) := by rw [f.s (by omega)]; exact q
  obtain ⟨u, hu⟩ : ∃ u, u = setR v a 1 (some (a + 3)) := ⟨_, rfl⟩
  have D : Gw (fun b => b = a) v u := by rw [hu]; exact (Fr.R (P := fun b => b = a) rfl).gw
  refine ⟨v, u, ?_, g, D, by omega, by rw [hu]; show mN v = _; omega, (f.mo (fun b _ z => z.elim)).tr D, by rw [hu]; exact mR_s _ _ _ _, fun j hj => by rw [hu, mR_nk hj, f.r (by omega) (fun z => z)], by rw [hu]; exact f.i (by omega) (fun z => z), by rw [hu]; exact t, by rw [hu]; show mK v = _; omega⟩
  rw [hu]
  have z1 : mS (newC w (1, 1, 0) 18) (a + 3) = (1, 1, 0) := by rw [show a + 3 = 64 + mN w by omega]; exact mS_Cs
  have z2 : 64 + mN w = a + 3 := by omega
  simp (disch := omega) only [p0_19, p0_20, p0_23i, p0_23a, p0_24, p0_27, jwd_c, jwd_0, Nat.reduceLeDiff, Nat.reduceEqDiff, Nat.reduceAdd, Nat.reduceSub, Nat.reduceMul, Int.reduceAdd, Int.reduceSub, Int.reduceMul, Int.reduceNeg, Int.reduceEq, Int.reduceLT, Int.reduceLE, jq_ldi_i, jq_ldl_l, jq_lda_a, jq_inc_i, jq_gs_t, jq_gsb_t, jq_gb_t, jq_gr_2, jq_gr_4, jq_gw_2, jq_s_t, jq_b_t, jg_c, jg_n, js_c, js_n, jrm_c, jrm_n, j2_i, j2_l, j2_a, jq_c_i, jq_c_l, jq_c_0, jq_c_n, jwd_le, jw_c0, mS_I, mS_R, mS_J, mN_I, mN_R, mN_J, mR_I, mI_R, mJ_I, mJ_R, mI_J, mR_J, ↓reduceIte, decide_true, or_true, true_or, and_self, false_or, or_false, reduceCtorEq, Bool.false_eq_true, and_false, false_and, eq_self, true_and, and_true, zero_ne, z1, z2, e, t]
theorem mS0_2 (q : mS w a = (1, 7, 0)) (hN : 64 + mN w = a + 20) : ∃ v u, rn 0 (30, [(0, jvr a)], [], w) = rn 0 (41, [(0, jvr a)], [], u) ∧ (HSx v (a + 20)) ∧ Gw (fun b => b = a) v u ∧ mN v = mN w + 17 ∧ mN u = mN w + 17 ∧ Gw (fun b => b = a) w u ∧ mR u a 2 = some (a + 20) ∧ (∀ j, j ≠ 2 → mR u a j = mR w a j) ∧ mI u a = mI w a ∧ mS u a = (1, 7, 0) ∧ mK u = mK w + 430 := by
  obtain ⟨v, e, g, f, n, k⟩ := mk_hall (w := w) (P := fun _ => False) (a := a + 20) (by omega)
  have t : mS v a = (1, 7, 0) := by rw [f.s (by omega)]; exact q
  obtain ⟨u, hu⟩ : ∃ u, u = setR v a 2 (some (a + 20)) := ⟨_, rfl⟩
  have D : Gw (fun b => b = a) v u := by rw [hu]; exact (Fr.R (P := fun b => b = a) rfl).gw
  refine ⟨v, u, ?_, g, D, by omega, by rw [hu]; show mN v = _; omega, (f.mo (fun b _ z => z.elim)).tr D, by rw [hu]; exact mR_s _ _ _ _, fun j hj => by rw [hu, mR_nk hj, f.r (by omega) (fun z => z)], by rw [hu]; exact f.i (by omega) (fun z => z), by rw [hu]; exact t, by rw [hu]; show mK v = _; omega⟩
  rw [hu]
  have z1 : mS (newC w (1, 1, 0) 18) (a + 20) = (1, 1, 0) := by rw [show a + 20 = 64 + mN w by omega]; exact mS_Cs
  have z2 : 64 + mN w = a + 20 := by omega
  simp (disch := omega) only [p0_30, p0_31, p0_34i, p0_34a, p0_35, p0_38, jwd_c, jwd_0, Nat.reduceLeDiff, Nat.reduceEqDiff, Nat.reduceAdd, Nat.reduceSub, Nat.reduceMul, Int.reduceAdd, Int.reduceSub, Int.reduceMul, Int.reduceNeg, Int.reduceEq, Int.reduceLT, Int.reduceLE, jq_ldi_i, jq_ldl_l, jq_lda_a, jq_inc_i, jq_gs_t, jq_gsb_t, jq_gb_t, jq_gr_2, jq_gr_4, jq_gw_2, jq_s_t, jq_b_t, jg_c, jg_n, js_c, js_n, jrm_c, jrm_n, j2_i, j2_l, j2_a, jq_c_i, jq_c_l, jq_c_0, jq_c_n, jwd_le, jw_c0, mS_I, mS_R, mS_J, mN_I, mN_R, mN_J, mR_I, mI_R, mJ_I, mJ_R, mI_J, mR_J, ↓reduceIte, decide_true, or_true, true_or, and_self, false_or, or_false, reduceCtorEq, Bool.false_eq_true, and_false, false_and, eq_self, true_and, and_true, zero_ne, z1, z2, e, t]
theorem mS0_3 (q : mS w a = (1, 7, 0)) (hN : 64 + mN w = a + 37) (y0 : mR w a 0 = some (a + 1)) (y1 : mR w a 1 = some (a + 3)) : ∃ v u, rn 0 (41, [(0, jvr a)], [], w) = rn 0 (60, [(0, jvr a)], [], u) ∧ (mS v (a + 37) = (1, 3, 0) ∧ mR v (a + 37) 0 = some (a + 1) ∧ mR v (a + 37) 1 = some (a + 3) ∧ mR v (a + 37) 2 = some (a + 38) ∧ (∃ n q, Sg v (a + 38) 2 4 n q)) ∧ Gw (fun b => b = a) v u ∧ mN v = mN w + 3 ∧ mN u = mN w + 3 ∧ Gw (fun b => b = a) w u ∧ mR u a 3 = some (a + 37) ∧ (∀ j, j ≠ 3 → mR u a j = mR w a j) ∧ mI u a = mI w a ∧ mS u a = (1, 7, 0) ∧ mK u = mK w + 24 := by
  obtain ⟨v, e, g, f, n, k⟩ := mk_reader (w := w) (P := fun _ => False) (tp := a + 1) (hl := a + 3) (a := a + 37) (by omega)
  have t : mS v a = (1, 7, 0) := by rw [f.s (by omega)]; exact q
  obtain ⟨u, hu⟩ : ∃ u, u = setR v a 3 (some (a + 37)) := ⟨_, rfl⟩
  have D : Gw (fun b => b = a) v u := by rw [hu]; exact (Fr.R (P := fun b => b = a) rfl).gw
  refine ⟨v, u, ?_, g, D, by omega, by rw [hu]; show mN v = _; omega, (f.mo (fun b _ z => z.elim)).tr D, by rw [hu]; exact mR_s _ _ _ _, fun j hj => by rw [hu, mR_nk hj, f.r (by omega) (fun z => z)], by rw [hu]; exact f.i (by omega) (fun z => z), by rw [hu]; exact t, by rw [hu]; show mK v = _; omega⟩
  rw [hu]
  have z1 : mS (newC w (1, 3, 0) 12) (a + 37) = (1, 3, 0) := by rw [show a + 37 = 64 + mN w by omega]; exact mS_Cs
  have z2 : 64 + mN w = a + 37 := by omega
  have y2 : mS (newC w (1, 3, 0) 12) a = (1, 7, 0) := by rw [mS_C (by omega)]; exact q
  have y3 : mR (newC w (1, 3, 0) 12) a 0 = some (a + 1) := by rw [mR_C (by omega)]; exact y0
  have y4 : mR (newC w (1, 3, 0) 12) a 1 = some (a + 3) := by rw [mR_C (by omega)]; exact y1
  simp (disch := omega) only [p0_41, p0_42, p0_45i, p0_45a, p0_46, p0_47, p0_50, p0_51, p0_54, p0_57, jwd_c, jwd_0, Nat.reduceLeDiff, Nat.reduceEqDiff, Nat.reduceAdd, Nat.reduceSub, Nat.reduceMul, Int.reduceAdd, Int.reduceSub, Int.reduceMul, Int.reduceNeg, Int.reduceEq, Int.reduceLT, Int.reduceLE, jq_ldi_i, jq_ldl_l, jq_lda_a, jq_inc_i, jq_gs_t, jq_gsb_t, jq_gb_t, jq_gr_2, jq_gr_4, jq_gw_2, jq_s_t, jq_b_t, jg_c, jg_n, js_c, js_n, jrm_c, jrm_n, j2_i, j2_l, j2_a, jq_c_i, jq_c_l, jq_c_0, jq_c_n, jwd_le, jw_c0, mS_I, mS_R, mS_J, mN_I, mN_R, mN_J, mR_I, mI_R, mJ_I, mJ_R, mI_J, mR_J, ↓reduceIte, decide_true, or_true, true_or, and_self, false_or, or_false, reduceCtorEq, Bool.false_eq_true, and_false, false_and, eq_self, true_and, and_true, zero_ne, z1, z2, e, t, y2, y3, y4]
theorem mS0_4 (q : mS w a = (1, 7, 0)) (hN : 64 + mN w = a + 40) : ∃ v u, rn 0 (60, [(0, jvr a)], [], w) = rn 0 (71, [(0, jvr a)], [], u) ∧ (CR v (a + 40) 0 0 rZ) ∧ Gw (fun b => b = a) v u ∧ mN v = mN w + 7 ∧ mN u = mN w + 7 ∧ Gw (fun b => b = a) w u ∧ mR u a 4 = some (a + 40) ∧ (∀ j, j ≠ 4 → mR u a j = mR w a j) ∧ mI u a = mI w a ∧ mS u a = (1, 7, 0) ∧ mK u = mK w + 315 := by
  obtain ⟨v, e, g, f, n, k⟩ := mk_row (w := w) (P := fun _ => False) (a := a + 40) (by omega)
  have t : mS v a = (1, 7, 0) := by rw [f.s (by omega)]; exact q
  obtain ⟨u, hu⟩ : ∃ u, u = setR v a 4 (some (a + 40)) := ⟨_, rfl⟩
  have D : Gw (fun b => b = a) v u := by rw [hu]; exact (Fr.R (P := fun b => b = a) rfl).gw
  refine ⟨v, u, ?_, g, D, by omega, by rw [hu]; show mN v = _; omega, (f.mo (fun b _ z => z.elim)).tr D, by rw [hu]; exact mR_s _ _ _ _, fun j hj => by rw [hu, mR_nk hj, f.r (by omega) (fun z => z)], by rw [hu]; exact f.i (by omega) (fun z => z), by rw [hu]; exact t, by rw [hu]; show mK v = _; omega⟩
  rw [hu]
  have z1 : mS (newC w (1, 4, 0) 11) (a + 40) = (1, 4, 0) := by rw [show a + 40 = 64 + mN w by omega]; exact mS_Cs
  have z2 : 64 + mN w = a + 40 := by omega
  simp (disch := omega) only [p0_60, p0_61, p0_64i, p0_64a, p0_65, p0_68, jwd_c, jwd_0, Nat.reduceLeDiff, Nat.reduceEqDiff, Nat.reduceAdd, Nat.reduceSub, Nat.reduceMul, Int.reduceAdd, Int.reduceSub, Int.reduceMul, Int.reduceNeg, Int.reduceEq, Int.reduceLT, Int.reduceLE, jq_ldi_i, jq_ldl_l, jq_lda_a, jq_inc_i, jq_gs_t, jq_gsb_t, jq_gb_t, jq_gr_2, jq_gr_4, jq_gw_2, jq_s_t, jq_b_t, jg_c, jg_n, js_c, js_n, jrm_c, jrm_n, j2_i, j2_l, j2_a, jq_c_i, jq_c_l, jq_c_0, jq_c_n, jwd_le, jw_c0, mS_I, mS_R, mS_J, mN_I, mN_R, mN_J, mR_I, mI_R, mJ_I, mJ_R, mI_J, mR_J, ↓reduceIte, decide_true, or_true, true_or, and_self, false_or, or_false, reduceCtorEq, Bool.false_eq_true, and_false, false_and, eq_self, true_and, and_true, zero_ne, z1, z2, e, t]
theorem mS0_5 (q : mS w a = (1, 7, 0)) (hN : 64 + mN w = a + 47) : ∃ v u, rn 0 (71, [(0, jvr a)], [], w) = rn 0 (82, [(0, jvr a)], [], u) ∧ (CR v (a + 47) 0 0 rZ) ∧ Gw (fun b => b = a) v u ∧ mN v = mN w + 7 ∧ mN u = mN w + 7 ∧ Gw (fun b => b = a) w u ∧ mR u a 5 = some (a + 47) ∧ (∀ j, j ≠ 5 → mR u a j = mR w a j) ∧ mI u a = mI w a ∧ mS u a = (1, 7, 0) ∧ mK u = mK w + 315 := by
  obtain ⟨v, e, g, f, n, k⟩ := mk_row (w := w) (P := fun _ => False) (a := a + 47) (by omega)
  have t : mS v a = (1, 7, 0) := by rw [f.s (by omega)]; exact q
  obtain ⟨u, hu⟩ : ∃ u, u = setR v a 5 (some (a + 47)) := ⟨_, rfl⟩
  have D : Gw (fun b => b = a) v u := by rw [hu]; exact (Fr.R (P := fun b => b = a) rfl).gw
  refine ⟨v, u, ?_, g, D, by omega, by rw [hu]; show mN v = _; omega, (f.mo (fun b _ z => z.elim)).tr D, by rw [hu]; exact mR_s _ _ _ _, fun j hj => by rw [hu, mR_nk hj, f.r (by omega) (fun z => z)], by rw [hu]; exact f.i (by omega) (fun z => z), by rw [hu]; exact t, by rw [hu]; show mK v = _; omega⟩
  rw [hu]
  have z1 : mS (newC w (1, 4, 0) 11) (a + 47) = (1, 4, 0) := by rw [show a + 47 = 64 + mN w by omega]; exact mS_Cs
  have z2 : 64 + mN w = a + 47 := by omega
  simp (disch := omega) only [p0_71, p0_72, p0_75i, p0_75a, p0_76, p0_79, jwd_c, jwd_0, Nat.reduceLeDiff, Nat.reduceEqDiff, Nat.reduceAdd, Nat.reduceSub, Nat.reduceMul, Int.reduceAdd, Int.reduceSub, Int.reduceMul, Int.reduceNeg, Int.reduceEq, Int.reduceLT, Int.reduceLE, jq_ldi_i, jq_ldl_l, jq_lda_a, jq_inc_i, jq_gs_t, jq_gsb_t, jq_gb_t, jq_gr_2, jq_gr_4, jq_gw_2, jq_s_t, jq_b_t, jg_c, jg_n, js_c, js_n, jrm_c, jrm_n, j2_i, j2_l, j2_a, jq_c_i, jq_c_l, jq_c_0, jq_c_n, jwd_le, jw_c0, mS_I, mS_R, mS_J, mN_I, mN_R, mN_J, mR_I, mI_R, mJ_I, mJ_R, mI_J, mR_J, ↓reduceIte, decide_true, or_true, true_or, and_self, false_or, or_false, reduceCtorEq, Bool.false_eq_true, and_false, false_and, eq_self, true_and, and_true, zero_ne, z1, z2, e, t]
theorem mS0_6 (q : mS w a = (1, 7, 0)) (hN : 64 + mN w = a + 54) (y6 : mR w a 2 = some (a + 20)) : ∃ v u, rn 0 (82, [(0, jvr a)], [], w) = rn 0 (97, [(0, jvr a)], [], u) ∧ (mS v (a + 54) = (1, 0, 0) ∧ mR v (a + 54) 0 = some (a + 20) ∧ mR v (a + 54) 1 = some (a + 55) ∧ mR v (a + 54) 2 = some (a + 62) ∧ mR v (a + 54) 3 = some (a + 64) ∧ mR v (a + 54) 4 = some (a + 66) ∧ mR v (a + 54) 5 = some (a + 68) ∧ mR v (a + 54) 6 = some (a + 70) ∧ CR v (a + 55) 0 0 rZ ∧ (∃ n q, Sg v (a + 62) 1 44 n q) ∧ (∃ n q, Sg v (a + 64) 1 44 n q) ∧ (∃ n q, Sg v (a + 66) 1 12 n q) ∧ (∃ n q, Sg v (a + 68) 1 48 n q) ∧ (∃ n q, Sg v (a + 70) 1 4 n q)) ∧ Gw (fun b => b = a) v u ∧ mN v = mN w + 18 ∧ mN u = mN w + 18 ∧ Gw (fun b => b = a) w u ∧ mR u a 6 = some (a + 54) ∧ (∀ j, j ≠ 6 → mR u a j = mR w a j) ∧ mI u a = mI w a ∧ mS u a = (1, 7, 0) ∧ mK u = mK w + 502 := by
  obtain ⟨v, e, g, f, n, k⟩ := mk_future (w := w) (P := fun _ => False) (hl := a + 20) (a := a + 54) (by omega)
  have t : mS v a = (1, 7, 0) := by rw [f.s (by omega)]; exact q
  obtain ⟨u, hu⟩ : ∃ u, u = setR v a 6 (some (a + 54)) := ⟨_, rfl⟩
  have D : Gw (fun b => b = a) v u := by rw [hu]; exact (Fr.R (P := fun b => b = a) rfl).gw
  refine ⟨v, u, ?_, g, D, by omega, by rw [hu]; show mN v = _; omega, (f.mo (fun b _ z => z.elim)).tr D, by rw [hu]; exact mR_s _ _ _ _, fun j hj => by rw [hu, mR_nk hj, f.r (by omega) (fun z => z)], by rw [hu]; exact f.i (by omega) (fun z => z), by rw [hu]; exact t, by rw [hu]; show mK v = _; omega⟩
  rw [hu]
  have z1 : mS (newC w (1, 0, 0) 15) (a + 54) = (1, 0, 0) := by rw [show a + 54 = 64 + mN w by omega]; exact mS_Cs
  have z2 : 64 + mN w = a + 54 := by omega
  have y7 : mS (newC w (1, 0, 0) 15) a = (1, 7, 0) := by rw [mS_C (by omega)]; exact q
  have y8 : mR (newC w (1, 0, 0) 15) a 2 = some (a + 20) := by rw [mR_C (by omega)]; exact y6
  simp (disch := omega) only [p0_82, p0_83, p0_86i, p0_86a, p0_87, p0_88, p0_91, p0_94, jwd_c, jwd_0, Nat.reduceLeDiff, Nat.reduceEqDiff, Nat.reduceAdd, Nat.reduceSub, Nat.reduceMul, Int.reduceAdd, Int.reduceSub, Int.reduceMul, Int.reduceNeg, Int.reduceEq, Int.reduceLT, Int.reduceLE, jq_ldi_i, jq_ldl_l, jq_lda_a, jq_inc_i, jq_gs_t, jq_gsb_t, jq_gb_t, jq_gr_2, jq_gr_4, jq_gw_2, jq_s_t, jq_b_t, jg_c, jg_n, js_c, js_n, jrm_c, jrm_n, j2_i, j2_l, j2_a, jq_c_i, jq_c_l, jq_c_0, jq_c_n, jwd_le, jw_c0, mS_I, mS_R, mS_J, mN_I, mN_R, mN_J, mR_I, mI_R, mJ_I, mJ_R, mI_J, mR_J, ↓reduceIte, decide_true, or_true, true_or, and_self, false_or, or_false, reduceCtorEq, Bool.false_eq_true, and_false, false_and, eq_self, true_and, and_true, zero_ne, z1, z2, e, t, y7, y8]
theorem mS0_7 (q : mS w a = (1, 7, 0)) (hN : 64 + mN w = a + 72) : ∃ v u, rn 0 (97, [(0, jvr a)], [], w) = rn 0 (110, [(0, jvr a)], [], u) ∧ (CSh v (a + 72) 10 0 (fun _ _ => 0) 0 0 ∧ mI v (a + 72) 2 = 0) ∧ Gw (fun b => b = a) v u ∧ mN v = mN w + 72 ∧ mN u = mN w + 72 ∧ Gw (fun b => b = a) w u ∧ mR u a 7 = some (a + 72) ∧ (∀ j, j ≠ 7 → mR u a j = mR w a j) ∧ mI u a = mI w a ∧ mS u a = (1, 7, 0) ∧ mK u = mK w + 3163 := by
  obtain ⟨v, e, g, f, n, k⟩ := mk_shelf (w := w) (P := fun _ => False) (n := 10) (N := 10) (T := 0) (Q2 := fun _ _ => 0) (Bt := 0) (a := a + 72) rfl (by omega) (by omega) (by omega) (by omega)
  have t : mS v a = (1, 7, 0) := by rw [f.s (by omega)]; exact q
  obtain ⟨u, hu⟩ : ∃ u, u = setR v a 7 (some (a + 72)) := ⟨_, rfl⟩
  have D : Gw (fun b => b = a) v u := by rw [hu]; exact (Fr.R (P := fun b => b = a) rfl).gw
  refine ⟨v, u, ?_, g, D, by omega, by rw [hu]; show mN v = _; omega, (f.mo (fun b _ z => z.elim)).tr D, by rw [hu]; exact mR_s _ _ _ _, fun j hj => by rw [hu, mR_nk hj, f.r (by omega) (fun z => z)], by rw [hu]; exact f.i (by omega) (fun z => z), by rw [hu]; exact t, by rw [hu]; show mK v = _; omega⟩
  rw [hu]
  have z1 : mS (newC w (1, 6, 0) 3) (a + 72) = (1, 6, 0) := by rw [show a + 72 = 64 + mN w by omega]; exact mS_Cs
  have z2 : 64 + mN w = a + 72 := by omega
  simp (disch := omega) only [p0_97, p0_98, p0_101i, p0_101a, p0_102, p0_104, p0_107, jwd_c, jwd_0, Nat.reduceLeDiff, Nat.reduceEqDiff, Nat.reduceAdd, Nat.reduceSub, Nat.reduceMul, Int.reduceAdd, Int.reduceSub, Int.reduceMul, Int.reduceNeg, Int.reduceEq, Int.reduceLT, Int.reduceLE, jq_ldi_i, jq_ldl_l, jq_lda_a, jq_inc_i, jq_gs_t, jq_gsb_t, jq_gb_t, jq_gr_2, jq_gr_4, jq_gw_2, jq_s_t, jq_b_t, jg_c, jg_n, js_c, js_n, jrm_c, jrm_n, j2_i, j2_l, j2_a, jq_c_i, jq_c_l, jq_c_0, jq_c_n, jwd_le, jw_c0, mS_I, mS_R, mS_J, mN_I, mN_R, mN_J, mR_I, mI_R, mJ_I, mJ_R, mI_J, mR_J, ↓reduceIte, decide_true, or_true, true_or, and_self, false_or, or_false, reduceCtorEq, Bool.false_eq_true, and_false, false_and, eq_self, true_and, and_true, zero_ne, z1, z2, e, t]
theorem mS0_8 (q : mS w a = (1, 7, 0)) (hN : 64 + mN w = a + 144) : ∃ v u, rn 0 (110, [(0, jvr a)], [], w) = rn 0 (122, [(0, jvr a)], [], u) ∧ (CSh v (a + 144) 3 0 (fun _ _ => 0) 0 0 ∧ mI v (a + 144) 2 = 0) ∧ Gw (fun b => b = a) v u ∧ mN v = mN w + 23 ∧ mN u = mN w + 23 ∧ Gw (fun b => b = a) w u ∧ mR u a 8 = some (a + 144) ∧ (∀ j, j ≠ 8 → mR u a j = mR w a j) ∧ mI u a = mI w a ∧ mS u a = (1, 7, 0) ∧ mK u = mK w + 951 := by
  obtain ⟨v, e, g, f, n, k⟩ := mk_shelf (w := w) (P := fun _ => False) (n := 3) (N := 3) (T := 0) (Q2 := fun _ _ => 0) (Bt := 0) (a := a + 144) rfl (by omega) (by omega) (by omega) (by omega)
  have t : mS v a = (1, 7, 0) := by rw [f.s (by omega)]; exact q
  obtain ⟨u, hu⟩ : ∃ u, u = setR v a 8 (some (a + 144)) := ⟨_, rfl⟩
  have D : Gw (fun b => b = a) v u := by rw [hu]; exact (Fr.R (P := fun b => b = a) rfl).gw
  refine ⟨v, u, ?_, g, D, by omega, by rw [hu]; show mN v = _; omega, (f.mo (fun b _ z => z.elim)).tr D, by rw [hu]; exact mR_s _ _ _ _, fun j hj => by rw [hu, mR_nk hj, f.r (by omega) (fun z => z)], by rw [hu]; exact f.i (by omega) (fun z => z), by rw [hu]; exact t, by rw [hu]; show mK v = _; omega⟩
  rw [hu]
  have z1 : mS (newC w (1, 6, 0) 3) (a + 144) = (1, 6, 0) := by rw [show a + 144 = 64 + mN w by omega]; exact mS_Cs
  have z2 : 64 + mN w = a + 144 := by omega
  simp (disch := omega) only [p0_110, p0_111, p0_114i, p0_114a, p0_115, p0_116, p0_119, jwd_c, jwd_0, Nat.reduceLeDiff, Nat.reduceEqDiff, Nat.reduceAdd, Nat.reduceSub, Nat.reduceMul, Int.reduceAdd, Int.reduceSub, Int.reduceMul, Int.reduceNeg, Int.reduceEq, Int.reduceLT, Int.reduceLE, jq_ldi_i, jq_ldl_l, jq_lda_a, jq_inc_i, jq_gs_t, jq_gsb_t, jq_gb_t, jq_gr_2, jq_gr_4, jq_gw_2, jq_s_t, jq_b_t, jg_c, jg_n, js_c, js_n, jrm_c, jrm_n, j2_i, j2_l, j2_a, jq_c_i, jq_c_l, jq_c_0, jq_c_n, jwd_le, jw_c0, mS_I, mS_R, mS_J, mN_I, mN_R, mN_J, mR_I, mI_R, mJ_I, mJ_R, mI_J, mR_J, ↓reduceIte, decide_true, or_true, true_or, and_self, false_or, or_false, reduceCtorEq, Bool.false_eq_true, and_false, false_and, eq_self, true_and, and_true, zero_ne, z1, z2, e, t]
theorem mS0_9 (q : mS w a = (1, 7, 0)) (hN : 64 + mN w = a + 167) : ∃ v u, rn 0 (122, [(0, jvr a)], [], w) = rn 0 (133, [(0, jvr a)], [], u) ∧ (mS v (a + 167) = (1, 2, 0) ∧ mR v (a + 167) 0 = some (a + 168) ∧ mR v (a + 167) 1 = some (a + 170) ∧ (∃ n q, Sg v (a + 168) 1 8 n q) ∧ (∃ n q, Sg v (a + 170) 1 8 n q)) ∧ Gw (fun b => b = a) v u ∧ mN v = mN w + 5 ∧ mN u = mN w + 5 ∧ Gw (fun b => b = a) w u ∧ mR u a 9 = some (a + 167) ∧ (∀ j, j ≠ 9 → mR u a j = mR w a j) ∧ mI u a = mI w a ∧ mS u a = (1, 7, 0) ∧ mK u = mK w + 26 := by
  obtain ⟨v, e, g, f, n, k⟩ := mk_orders (w := w) (P := fun _ => False) (a := a + 167) (by omega)
  have t : mS v a = (1, 7, 0) := by rw [f.s (by omega)]; exact q
  obtain ⟨u, hu⟩ : ∃ u, u = setR v a 9 (some (a + 167)) := ⟨_, rfl⟩
  have D : Gw (fun b => b = a) v u := by rw [hu]; exact (Fr.R (P := fun b => b = a) rfl).gw
  refine ⟨v, u, ?_, g, D, by omega, by rw [hu]; show mN v = _; omega, (f.mo (fun b _ z => z.elim)).tr D, by rw [hu]; exact mR_s _ _ _ _, fun j hj => by rw [hu, mR_nk hj, f.r (by omega) (fun z => z)], by rw [hu]; exact f.i (by omega) (fun z => z), by rw [hu]; exact t, by rw [hu]; show mK v = _; omega⟩
  rw [hu]
  have z1 : mS (newC w (1, 2, 0) 2) (a + 167) = (1, 2, 0) := by rw [show a + 167 = 64 + mN w by omega]; exact mS_Cs
  have z2 : 64 + mN w = a + 167 := by omega
  simp (disch := omega) only [p0_122, p0_123, p0_126i, p0_126a, p0_127, p0_130, jwd_c, jwd_0, Nat.reduceLeDiff, Nat.reduceEqDiff, Nat.reduceAdd, Nat.reduceSub, Nat.reduceMul, Int.reduceAdd, Int.reduceSub, Int.reduceMul, Int.reduceNeg, Int.reduceEq, Int.reduceLT, Int.reduceLE, jq_ldi_i, jq_ldl_l, jq_lda_a, jq_inc_i, jq_gs_t, jq_gsb_t, jq_gb_t, jq_gr_2, jq_gr_4, jq_gw_2, jq_s_t, jq_b_t, jg_c, jg_n, js_c, js_n, jrm_c, jrm_n, j2_i, j2_l, j2_a, jq_c_i, jq_c_l, jq_c_0, jq_c_n, jwd_le, jw_c0, mS_I, mS_R, mS_J, mN_I, mN_R, mN_J, mR_I, mI_R, mJ_I, mJ_R, mI_J, mR_J, ↓reduceIte, decide_true, or_true, true_or, and_self, false_or, or_false, reduceCtorEq, Bool.false_eq_true, and_false, false_and, eq_self, true_and, and_true, zero_ne, z1, z2, e, t]
theorem mS0_10 (q : mS w a = (1, 7, 0)) (hN : 64 + mN w = a + 172) : ∃ v u, rn 0 (133, [(0, jvr a)], [], w) = rn 0 (147, [(0, jvr a)], [], u) ∧ (∀ g, Sg v (a + 172) 1 48 0 g) ∧ Gw (fun b => b = a) v u ∧ mN v = mN w + 2 ∧ mN u = mN w + 2 ∧ Gw (fun b => b = a) w u ∧ mR u a 10 = some (a + 172) ∧ (∀ j, j ≠ 10 → mR u a j = mR w a j) ∧ mI u a = mI w a ∧ mS u a = (1, 7, 0) ∧ mK u = mK w + 52 := by
  obtain ⟨v, e, g, f, n, k⟩ := mk_sh (w := w) (P := fun _ => False) (a := a + 172) (R := 48) (C := 1) (r := 48) (c := 1) (m := 48) rfl rfl rfl (by omega) (by omega) (by omega) (by omega) (by omega) (by omega)
  have t : mS v a = (1, 7, 0) := by rw [f.s (by omega)]; exact q
  obtain ⟨u, hu⟩ : ∃ u, u = setR v a 10 (some (a + 172)) := ⟨_, rfl⟩
  have D : Gw (fun b => b = a) v u := by rw [hu]; exact (Fr.R (P := fun b => b = a) rfl).gw
  refine ⟨v, u, ?_, g, D, by omega, by rw [hu]; show mN v = _; omega, (f.mo (fun b _ z => z.elim)).tr D, by rw [hu]; exact mR_s _ _ _ _, fun j hj => by rw [hu, mR_nk hj, f.r (by omega) (fun z => z)], by rw [hu]; exact f.i (by omega) (fun z => z), by rw [hu]; exact t, by rw [hu]; show mK v = _; omega⟩
  rw [hu]
  have z1 : mS (newC w (1, 5, 0) 4) (a + 172) = (1, 5, 0) := by rw [show a + 172 = 64 + mN w by omega]; exact mS_Cs
  have z2 : 64 + mN w = a + 172 := by omega
  simp (disch := omega) only [p0_133, p0_134, p0_137i, p0_137a, p0_138, p0_140, p0_141, p0_144, jwd_c, jwd_0, Nat.reduceLeDiff, Nat.reduceEqDiff, Nat.reduceAdd, Nat.reduceSub, Nat.reduceMul, Int.reduceAdd, Int.reduceSub, Int.reduceMul, Int.reduceNeg, Int.reduceEq, Int.reduceLT, Int.reduceLE, jq_ldi_i, jq_ldl_l, jq_lda_a, jq_inc_i, jq_gs_t, jq_gsb_t, jq_gb_t, jq_gr_2, jq_gr_4, jq_gw_2, jq_s_t, jq_b_t, jg_c, jg_n, js_c, js_n, jrm_c, jrm_n, j2_i, j2_l, j2_a, jq_c_i, jq_c_l, jq_c_0, jq_c_n, jwd_le, jw_c0, mS_I, mS_R, mS_J, mN_I, mN_R, mN_J, mR_I, mI_R, mJ_I, mJ_R, mI_J, mR_J, ↓reduceIte, decide_true, or_true, true_or, and_self, false_or, or_false, reduceCtorEq, Bool.false_eq_true, and_false, false_and, eq_self, true_and, and_true, zero_ne, z1, z2, e, t]
theorem mk_S0 (ha : a = 64 + mN w) : ∃ u, rn 0 (0, [(0, jvr a)], [], newC w (1, 7, 0) 15) = some (none, u) ∧ (mS u a = (1, 7, 0) ∧ mR u a 0 = some (a + 1) ∧ mR u a 1 = some (a + 3) ∧ mR u a 2 = some (a + 20) ∧ mR u a 3 = some (a + 37) ∧ mR u a 4 = some (a + 40) ∧ mR u a 5 = some (a + 47) ∧ mR u a 6 = some (a + 54) ∧ mR u a 7 = some (a + 72) ∧ mR u a 8 = some (a + 144) ∧ mR u a 9 = some (a + 167) ∧ mR u a 10 = some (a + 172)) ∧ (mI u a 11 = 0 ∧ mI u a 12 = 0 ∧ mI u a 13 = 0 ∧ mI u a 14 = 0) ∧ (∀ g, Sg u (a + 1) 1 900 0 g) ∧ HSx u (a + 3) ∧ HSx u (a + 20) ∧ (mS u (a + 37) = (1, 3, 0) ∧ mR u (a + 37) 0 = some (a + 1) ∧ mR u (a + 37) 1 = some (a + 3) ∧ mR u (a + 37) 2 = some (a + 38) ∧ (∃ n q, Sg u (a + 38) 2 4 n q)) ∧ CR u (a + 40) 0 0 rZ ∧ CR u (a + 47) 0 0 rZ ∧ (mS u (a + 54) = (1, 0, 0) ∧ mR u (a + 54) 0 = some (a + 20) ∧ mR u (a + 54) 1 = some (a + 55) ∧ mR u (a + 54) 2 = some (a + 62) ∧ mR u (a + 54) 3 = some (a + 64) ∧ mR u (a + 54) 4 = some (a + 66) ∧ mR u (a + 54) 5 = some (a + 68) ∧ mR u (a + 54) 6 = some (a + 70) ∧ CR u (a + 55) 0 0 rZ ∧ (∃ n q, Sg u (a + 62) 1 44 n q) ∧ (∃ n q, Sg u (a + 64) 1 44 n q) ∧ (∃ n q, Sg u (a + 66) 1 12 n q) ∧ (∃ n q, Sg u (a + 68) 1 48 n q) ∧ (∃ n q, Sg u (a + 70) 1 4 n q)) ∧ (CSh u (a + 72) 10 0 (fun _ _ => 0) 0 0 ∧ mI u (a + 72) 2 = 0) ∧ (CSh u (a + 144) 3 0 (fun _ _ => 0) 0 0 ∧ mI u (a + 144) 2 = 0) ∧ (mS u (a + 167) = (1, 2, 0) ∧ mR u (a + 167) 0 = some (a + 168) ∧ mR u (a + 167) 1 = some (a + 170) ∧ (∃ n q, Sg u (a + 168) 1 8 n q) ∧ (∃ n q, Sg u (a + 170) 1 8 n q)) ∧ (∀ g, Sg u (a + 172) 1 48 0 g) ∧ Gw P w u ∧ mN u = mN w + 174 ∧ mK u ≤ mK w + 20000 := by
  obtain ⟨w0, hw0⟩ : ∃ w0, w0 = newC w (1, 7, 0) 15 := ⟨_, rfl⟩
  have q0 : mS w0 a = (1, 7, 0) := by rw [hw0, ha]; exact mS_Cs
  have N0 : mN w0 = mN w + 1 := by rw [hw0]; rfl
  have K0 : mK w0 = mK w + 15 := by rw [hw0]; rfl
  have B0 : Gw (fun b => b = a) w w0 := by rw [hw0]; exact Gw.C
  have e0' : rn 0 (0, [(0, jvr a)], [], w0) = rn 0 (4, [(0, jvr a)], [], w0) := by
    simp only [p0_0, p0_1, jwd_c, jwd_0, Nat.reduceLeDiff, Nat.reduceEqDiff, Nat.reduceAdd, Nat.reduceSub, Nat.reduceMul, Int.reduceAdd, Int.reduceSub, Int.reduceMul, Int.reduceNeg, Int.reduceEq, Int.reduceLT, Int.reduceLE, jq_ldi_i, jq_ldl_l, jq_lda_a, jq_inc_i, jq_gs_t, jq_gsb_t, jq_gb_t, jq_gr_2, jq_gr_4, jq_gw_2, jq_s_t, jq_b_t, jg_c, jg_n, js_c, js_n, jrm_c, jrm_n, j2_i, j2_l, j2_a, jq_c_i, jq_c_l, jq_c_0, jq_c_n, jwd_le, jw_c0, mS_I, mS_R, mS_J, mN_I, mN_R, mN_J, mR_I, mI_R, mJ_I, mJ_R, mI_J, mR_J, ↓reduceIte, decide_true, or_true, true_or, and_self, false_or, or_false, reduceCtorEq, Bool.false_eq_true, and_false, false_and, eq_self, true_and, and_true, zero_ne, q0]
  obtain ⟨v0, w1, E0, g0, D0, m0, N1, F0, R0, RN0, I0, q1, K1⟩ := mS0_0 q0 (by omega)
  obtain ⟨v1, w2, E1, g1, D1, m1, N2, F1, R1, RN1, I1, q2, K2⟩ := mS0_1 q1 (by omega)
  obtain ⟨v2, w3, E2, g2, D2, m2, N3, F2, R2, RN2, I2, q3, K3⟩ := mS0_2 q2 (by omega)
  obtain ⟨v3, w4, E3, g3, D3, m3, N4, F3, R3, RN3, I3, q4, K4⟩ := mS0_3 q3 (by omega) (by rw [RN2 0 (by omega), RN1 0 (by omega)]; exact R0) (by rw [RN2 1 (by omega)]; exact R1)
  obtain ⟨v4, w5, E4, g4, D4, m4, N5, F4, R4, RN4, I4, q5, K5⟩ := mS0_4 q4 (by omega)
  obtain ⟨v5, w6, E5, g5, D5, m5, N6, F5, R5, RN5, I5, q6, K6⟩ := mS0_5 q5 (by omega)
  obtain ⟨v6, w7, E6, g6, D6, m6, N7, F6, R6, RN6, I6, q7, K7⟩ := mS0_6 q6 (by omega) (by rw [RN5 2 (by omega), RN4 2 (by omega), RN3 2 (by omega)]; exact R2)
  obtain ⟨v7, w8, E7, g7, D7, m7, N8, F7, R7, RN7, I7, q8, K8⟩ := mS0_7 q7 (by omega)
  obtain ⟨v8, w9, E8, g8, D8, m8, N9, F8, R8, RN8, I8, q9, K9⟩ := mS0_8 q8 (by omega)
  obtain ⟨v9, w10, E9, g9, D9, m9, N10, F9, R9, RN9, I9, q10, K10⟩ := mS0_9 q9 (by omega)
  obtain ⟨v10, w11, E10, g10, D10, m10, N11, F10, R10, RN10, I10, q11, K11⟩ := mS0_10 q10 (by omega)
  have hK : mK w11 ≤ mK w + 20000 := by omega
  clear K0 K1 K2 K3 K4 K5 K6 K7 K8 K9 K10 K11
  obtain ⟨u, hu⟩ : ∃ u, u = setI (setI (setI (setI w11 a 11 0) a 12 0) a 13 0) a 14 0 := ⟨_, rfl⟩
  have fu : Fr (fun b => b = a) w11 u := by rw [hu]; exact (((Fr.I (P := fun b => b = a) rfl).tr (Fr.I rfl)).tr (Fr.I rfl)).tr (Fr.I rfl)
  have ru : mR u = mR w11 := by rw [hu]; rfl
  have S11 : Gw (fun b => b = a) w11 u := fu.gw
  have S10 : Gw (fun b => b = a) w10 u := F10.tr S11
  have S9 : Gw (fun b => b = a) w9 u := F9.tr S10
  have S8 : Gw (fun b => b = a) w8 u := F8.tr S9
  have S7 : Gw (fun b => b = a) w7 u := F7.tr S8
  have S6 : Gw (fun b => b = a) w6 u := F6.tr S7
  have S5 : Gw (fun b => b = a) w5 u := F5.tr S6
  have S4 : Gw (fun b => b = a) w4 u := F4.tr S5
  have S3 : Gw (fun b => b = a) w3 u := F3.tr S4
  have S2 : Gw (fun b => b = a) w2 u := F2.tr S3
  have S1 : Gw (fun b => b = a) w1 u := F1.tr S2
  have S0 : Gw (fun b => b = a) w0 u := F0.tr S1
  have V0 : Gw (fun b => b = a) v0 u := D0.tr S1
  have M0 : mN v0 = mN w + 3 := by omega
  have V1 : Gw (fun b => b = a) v1 u := D1.tr S2
  have M1 : mN v1 = mN w + 20 := by omega
  have V2 : Gw (fun b => b = a) v2 u := D2.tr S3
  have M2 : mN v2 = mN w + 37 := by omega
  have V3 : Gw (fun b => b = a) v3 u := D3.tr S4
  have M3 : mN v3 = mN w + 40 := by omega
  have V4 : Gw (fun b => b = a) v4 u := D4.tr S5
  have M4 : mN v4 = mN w + 47 := by omega
  have V5 : Gw (fun b => b = a) v5 u := D5.tr S6
  have M5 : mN v5 = mN w + 54 := by omega
  have V6 : Gw (fun b => b = a) v6 u := D6.tr S7
  have M6 : mN v6 = mN w + 72 := by omega
  have V7 : Gw (fun b => b = a) v7 u := D7.tr S8
  have M7 : mN v7 = mN w + 144 := by omega
  have V8 : Gw (fun b => b = a) v8 u := D8.tr S9
  have M8 : mN v8 = mN w + 167 := by omega
  have V9 : Gw (fun b => b = a) v9 u := D9.tr S10
  have M9 : mN v9 = mN w + 172 := by omega
  have V10 : Gw (fun b => b = a) v10 u := D10.tr S11
  have M10 : mN v10 = mN w + 174 := by omega
  have NN : mN w11 = mN w + 174 := by omega
  clear N0 N1 N2 N3 N4 N5 N6 N7 N8 N9 N10 N11 m0 m1 m2 m3 m4 m5 m6 m7 m8 m9 m10
  have r0 : mR u a 0 = some (a + 1) := by rw [ru, RN10 0 (by omega), RN9 0 (by omega), RN8 0 (by omega), RN7 0 (by omega), RN6 0 (by omega), RN5 0 (by omega), RN4 0 (by omega), RN3 0 (by omega), RN2 0 (by omega), RN1 0 (by omega), R0]
  have r1 : mR u a 1 = some (a + 3) := by rw [ru, RN10 1 (by omega), RN9 1 (by omega), RN8 1 (by omega), RN7 1 (by omega), RN6 1 (by omega), RN5 1 (by omega), RN4 1 (by omega), RN3 1 (by omega), RN2 1 (by omega), R1]
  have r2 : mR u a 2 = some (a + 20) := by rw [ru, RN10 2 (by omega), RN9 2 (by omega), RN8 2 (by omega), RN7 2 (by omega), RN6 2 (by omega), RN5 2 (by omega), RN4 2 (by omega), RN3 2 (by omega), R2]
  have r3 : mR u a 3 = some (a + 37) := by rw [ru, RN10 3 (by omega), RN9 3 (by omega), RN8 3 (by omega), RN7 3 (by omega), RN6 3 (by omega), RN5 3 (by omega), RN4 3 (by omega), R3]
  have r4 : mR u a 4 = some (a + 40) := by rw [ru, RN10 4 (by omega), RN9 4 (by omega), RN8 4 (by omega), RN7 4 (by omega), RN6 4 (by omega), RN5 4 (by omega), R4]
  have r5 : mR u a 5 = some (a + 47) := by rw [ru, RN10 5 (by omega), RN9 5 (by omega), RN8 5 (by omega), RN7 5 (by omega), RN6 5 (by omega), R5]
  have r6 : mR u a 6 = some (a + 54) := by rw [ru, RN10 6 (by omega), RN9 6 (by omega), RN8 6 (by omega), RN7 6 (by omega), R6]
  have r7 : mR u a 7 = some (a + 72) := by rw [ru, RN10 7 (by omega), RN9 7 (by omega), RN8 7 (by omega), R7]
  have r8 : mR u a 8 = some (a + 144) := by rw [ru, RN10 8 (by omega), RN9 8 (by omega), R8]
  have r9 : mR u a 9 = some (a + 167) := by rw [ru, RN10 9 (by omega), R9]
  have r10 : mR u a 10 = some (a + 172) := by rw [ru, R10]
  rw [← hw0]
  refine ⟨u, ?_, ⟨by rw [fu.q]; exact q11, r0, r1, r2, r3, r4, r5, r6, r7, r8, r9, r10⟩, ⟨by rw [hu, mI_nk (by decide), mI_nk (by decide), mI_nk (by decide), mI_s], by rw [hu, mI_nk (by decide), mI_nk (by decide), mI_s], by rw [hu, mI_nk (by decide), mI_s], by rw [hu, mI_s]⟩, fun g => (g0 g).gw V0 (by omega) (by omega) (by omega), g1.gw V1 (by omega) (fun y y1 y2 => by omega), g2.gw V2 (by omega) (fun y y1 y2 => by omega), ?_, g4.gw V4 (by omega) (fun y y1 y2 => by omega), g5.gw V5 (by omega) (fun y y1 y2 => by omega), ?_, ?_, ?_, ?_, fun g => (g10 g).gw V10 (by omega) (by omega) (by omega), (B0.tr S0).mo (fun b hb z => absurd hb (by omega)), by rw [fu.2.1]; omega, by rw [fu.2.2.1]; omega⟩
  · rw [e0', E0, E1, E2, E3, E4, E5, E6, E7, E8, E9, E10, hu]
    simp (disch := omega) only [p0_147, p0_148, p0_149, p0_152, p0_153, p0_154, p0_157, p0_158, p0_159, p0_162, p0_163, p0_164, p0_167, jwd_c, jwd_0, Nat.reduceLeDiff, Nat.reduceEqDiff, Nat.reduceAdd, Nat.reduceSub, Nat.reduceMul, Int.reduceAdd, Int.reduceSub, Int.reduceMul, Int.reduceNeg, Int.reduceEq, Int.reduceLT, Int.reduceLE, jq_ldi_i, jq_ldl_l, jq_lda_a, jq_inc_i, jq_gs_t, jq_gsb_t, jq_gb_t, jq_gr_2, jq_gr_4, jq_gw_2, jq_s_t, jq_b_t, jg_c, jg_n, js_c, js_n, jrm_c, jrm_n, j2_i, j2_l, j2_a, jq_c_i, jq_c_l, jq_c_0, jq_c_n, jwd_le, jw_c0, mS_I, mS_R, mS_J, mN_I, mN_R, mN_J, mR_I, mI_R, mJ_I, mJ_R, mI_J, mR_J, ↓reduceIte, decide_true, or_true, true_or, and_self, false_or, or_false, reduceCtorEq, Bool.false_eq_true, and_false, false_and, eq_self, true_and, and_true, zero_ne, q11]
  · obtain ⟨x1, x2, x3, x4, x5⟩ := g3
    have r := V3.r (b := a + 37) (by omega) (by omega)
    exact ⟨by rw [V3.s (by omega)]; exact x1, by rw [r]; exact x2, by rw [r]; exact x3, by rw [r]; exact x4, exSw x5 V3 (by omega) (by omega) (by omega)⟩
  · obtain ⟨x1, x2, x3, x4, x5, x6, x7, x8, y1, y2, y3, y4, y5, y6⟩ := g6
    have r := V6.r (b := a + 54) (by omega) (by omega)
    exact ⟨by rw [V6.s (by omega)]; exact x1, by rw [r]; exact x2, by rw [r]; exact x3, by rw [r]; exact x4, by rw [r]; exact x5, by rw [r]; exact x6, by rw [r]; exact x7, by rw [r]; exact x8, y1.gw V6 (by omega) (fun y y1 y2 => by omega), exSw y2 V6 (by omega) (by omega) (by omega), exSw y3 V6 (by omega) (by omega) (by omega), exSw y4 V6 (by omega) (by omega) (by omega), exSw y5 V6 (by omega) (by omega) (by omega), exSw y6 V6 (by omega) (by omega) (by omega)⟩
  · exact ⟨g7.1.gw V7 (by omega) (fun y y1 y2 => by omega), by rw [V7.i (by omega) (by omega)]; exact g7.2⟩
  · exact ⟨g8.1.gw V8 (by omega) (fun y y1 y2 => by omega), by rw [V8.i (by omega) (by omega)]; exact g8.2⟩
  · obtain ⟨x1, x2, x3, x4, x5⟩ := g9
    have r := V9.r (b := a + 167) (by omega) (by omega)
    exact ⟨by rw [V9.s (by omega)]; exact x1, by rw [r]; exact x2, by rw [r]; exact x3, exSw x4 V9 (by omega) (by omega) (by omega), exSw x5 V9 (by omega) (by omega) (by omega)⟩
theorem jw_c16 : jw 16 = 16 := by decide
theorem gn_16 (i p : Nat) (lv : jmL) (st : List jmV) (w : jmW) : jq_gn 16 i p lv st w = rn i (p, lv, st, w) := jq_gn_t (by omega) (by omega) jw_c16 i p lv st w
theorem jw_c128 : jw 128 = 128 := by decide
theorem gn_128 (i p : Nat) (lv : jmL) (st : List jmV) (w : jmW) : jq_gn 128 i p lv st w = rn i (p, lv, st, w) := jq_gn_t (by omega) (by omega) jw_c128 i p lv st w
theorem jw_c298 : jw 298 = 298 := by decide
theorem gn_298 (i p : Nat) (lv : jmL) (st : List jmV) (w : jmW) : jq_gn 298 i p lv st w = rn i (p, lv, st, w) := jq_gn_t (by omega) (by omega) jw_c298 i p lv st w
theorem jw_c894 : jw 894 = 894 := by decide
theorem gn_894 (i p : Nat) (lv : jmL) (st : List jmV) (w : jmW) : jq_gn 894 i p lv st w = rn i (p, lv, st, w) := jq_gn_t (by omega) (by omega) jw_c894 i p lv st w
theorem jw_c900 : jw 900 = 900 := by decide
theorem gn_900 (i p : Nat) (lv : jmL) (st : List jmV) (w : jmW) : jq_gn 900 i p lv st w = rn i (p, lv, st, w) := jq_gn_t (by omega) (by omega) jw_c900 i p lv st w
theorem jw_c2980 : jw 2980 = 2980 := by decide
theorem gn_2980 (i p : Nat) (lv : jmL) (st : List jmV) (w : jmW) : jq_gn 2980 i p lv st w = rn i (p, lv, st, w) := jq_gn_t (by omega) (by omega) jw_c2980 i p lv st w
theorem nR_p9 (hs : mS w b = (1, 9, 0)) (z : b < 64 + mN w) {k : Nat} {sh : Nat × Nat × Nat} : mS (nR w b k sh) b = (1, 9, 0) ∧ b < 64 + mN (nR w b k sh) := ⟨(mS_C (sh := sh) (n := sh.2.2) (by omega)).trans hs, by show b < 64 + (mN w + 1); omega⟩
theorem mmi_5 (hs : mS w b = (1, 9, 0)) (z : b < 64 + mN w) : rn 172 (9, [(0, jvr b)], [], w) = rn 172 (18, [(0, jvr b)], [], nR w b 5 (2, 1, 900)) := by
  have e : mS (newC w (2, 1, 900) 900) b = (1, 9, 0) := (mS_C (by omega)).trans hs
  simp only [p172_9, p172_10, p172_13, p172_15, jwd_c, jwd_0, Nat.reduceLeDiff, Nat.reduceEqDiff, Nat.reduceAdd, Nat.reduceSub, Nat.reduceMul, Int.reduceAdd, Int.reduceSub, Int.reduceMul, Int.reduceNeg, Int.reduceEq, Int.reduceLT, Int.reduceLE, jq_ldi_i, jq_ldl_l, jq_lda_a, jq_inc_i, jq_gs_t, jq_gsb_t, jq_gb_t, jq_gr_2, jq_gr_4, jq_gw_2, jq_s_t, jq_b_t, jg_c, jg_n, js_c, js_n, jrm_c, jrm_n, j2_i, j2_l, j2_a, jq_c_i, jq_c_l, jq_c_0, jq_c_n, jwd_le, jw_c0, mS_I, mS_R, mS_J, mN_I, mN_R, mN_J, mR_I, mI_R, mJ_I, mJ_R, mI_J, mR_J, ↓reduceIte, decide_true, or_true, true_or, and_self, false_or, or_false, reduceCtorEq, Bool.false_eq_true, and_false, false_and, eq_self, true_and, and_true, zero_ne, gn_900, jw_c900, Int.reduceToNat, e]
  rfl
theorem mmi_16 (hs : mS w b = (1, 9, 0)) (z : b < 64 + mN w) : rn 172 (18, [(0, jvr b)], [], w) = rn 172 (26, [(0, jvr b)], [], nR w b 16 (2, 0, 8)) := by
  have e : mS (newC w (2, 0, 8) 8) b = (1, 9, 0) := (mS_C (by omega)).trans hs
  simp only [p172_18, p172_19, p172_21, p172_23, jwd_c, jwd_0, Nat.reduceLeDiff, Nat.reduceEqDiff, Nat.reduceAdd, Nat.reduceSub, Nat.reduceMul, Int.reduceAdd, Int.reduceSub, Int.reduceMul, Int.reduceNeg, Int.reduceEq, Int.reduceLT, Int.reduceLE, jq_ldi_i, jq_ldl_l, jq_lda_a, jq_inc_i, jq_gs_t, jq_gsb_t, jq_gb_t, jq_gr_2, jq_gr_4, jq_gw_2, jq_s_t, jq_b_t, jg_c, jg_n, js_c, js_n, jrm_c, jrm_n, j2_i, j2_l, j2_a, jq_c_i, jq_c_l, jq_c_0, jq_c_n, jwd_le, jw_c0, mS_I, mS_R, mS_J, mN_I, mN_R, mN_J, mR_I, mI_R, mJ_I, mJ_R, mI_J, mR_J, ↓reduceIte, decide_true, or_true, true_or, and_self, false_or, or_false, reduceCtorEq, Bool.false_eq_true, and_false, false_and, eq_self, true_and, and_true, zero_ne, gn_8, jw_c8, Int.reduceToNat, e]
  rfl
theorem mmi_18 (hs : mS w b = (1, 9, 0)) (z : b < 64 + mN w) : rn 172 (26, [(0, jvr b)], [], w) = rn 172 (35, [(0, jvr b)], [], nR w b 18 (2, 0, 298)) := by
  have e : mS (newC w (2, 0, 298) 298) b = (1, 9, 0) := (mS_C (by omega)).trans hs
  simp only [p172_26, p172_27, p172_30, p172_32, jwd_c, jwd_0, Nat.reduceLeDiff, Nat.reduceEqDiff, Nat.reduceAdd, Nat.reduceSub, Nat.reduceMul, Int.reduceAdd, Int.reduceSub, Int.reduceMul, Int.reduceNeg, Int.reduceEq, Int.reduceLT, Int.reduceLE, jq_ldi_i, jq_ldl_l, jq_lda_a, jq_inc_i, jq_gs_t, jq_gsb_t, jq_gb_t, jq_gr_2, jq_gr_4, jq_gw_2, jq_s_t, jq_b_t, jg_c, jg_n, js_c, js_n, jrm_c, jrm_n, j2_i, j2_l, j2_a, jq_c_i, jq_c_l, jq_c_0, jq_c_n, jwd_le, jw_c0, mS_I, mS_R, mS_J, mN_I, mN_R, mN_J, mR_I, mI_R, mJ_I, mJ_R, mI_J, mR_J, ↓reduceIte, decide_true, or_true, true_or, and_self, false_or, or_false, reduceCtorEq, Bool.false_eq_true, and_false, false_and, eq_self, true_and, and_true, zero_ne, gn_298, jw_c298, Int.reduceToNat, e]
  rfl
theorem mmi_19 (hs : mS w b = (1, 9, 0)) (z : b < 64 + mN w) : rn 172 (35, [(0, jvr b)], [], w) = rn 172 (44, [(0, jvr b)], [], nR w b 19 (2, 0, 298)) := by
  have e : mS (newC w (2, 0, 298) 298) b = (1, 9, 0) := (mS_C (by omega)).trans hs
  simp only [p172_35, p172_36, p172_39, p172_41, jwd_c, jwd_0, Nat.reduceLeDiff, Nat.reduceEqDiff, Nat.reduceAdd, Nat.reduceSub, Nat.reduceMul, Int.reduceAdd, Int.reduceSub, Int.reduceMul, Int.reduceNeg, Int.reduceEq, Int.reduceLT, Int.reduceLE, jq_ldi_i, jq_ldl_l, jq_lda_a, jq_inc_i, jq_gs_t, jq_gsb_t, jq_gb_t, jq_gr_2, jq_gr_4, jq_gw_2, jq_s_t, jq_b_t, jg_c, jg_n, js_c, js_n, jrm_c, jrm_n, j2_i, j2_l, j2_a, jq_c_i, jq_c_l, jq_c_0, jq_c_n, jwd_le, jw_c0, mS_I, mS_R, mS_J, mN_I, mN_R, mN_J, mR_I, mI_R, mJ_I, mJ_R, mI_J, mR_J, ↓reduceIte, decide_true, or_true, true_or, and_self, false_or, or_false, reduceCtorEq, Bool.false_eq_true, and_false, false_and, eq_self, true_and, and_true, zero_ne, gn_298, jw_c298, Int.reduceToNat, e]
  rfl
theorem mmi_20 (hs : mS w b = (1, 9, 0)) (z : b < 64 + mN w) : rn 172 (44, [(0, jvr b)], [], w) = rn 172 (53, [(0, jvr b)], [], nR w b 20 (2, 0, 2980)) := by
  have e : mS (newC w (2, 0, 2980) 2980) b = (1, 9, 0) := (mS_C (by omega)).trans hs
  simp only [p172_44, p172_45, p172_48, p172_50, jwd_c, jwd_0, Nat.reduceLeDiff, Nat.reduceEqDiff, Nat.reduceAdd, Nat.reduceSub, Nat.reduceMul, Int.reduceAdd, Int.reduceSub, Int.reduceMul, Int.reduceNeg, Int.reduceEq, Int.reduceLT, Int.reduceLE, jq_ldi_i, jq_ldl_l, jq_lda_a, jq_inc_i, jq_gs_t, jq_gsb_t, jq_gb_t, jq_gr_2, jq_gr_4, jq_gw_2, jq_s_t, jq_b_t, jg_c, jg_n, js_c, js_n, jrm_c, jrm_n, j2_i, j2_l, j2_a, jq_c_i, jq_c_l, jq_c_0, jq_c_n, jwd_le, jw_c0, mS_I, mS_R, mS_J, mN_I, mN_R, mN_J, mR_I, mI_R, mJ_I, mJ_R, mI_J, mR_J, ↓reduceIte, decide_true, or_true, true_or, and_self, false_or, or_false, reduceCtorEq, Bool.false_eq_true, and_false, false_and, eq_self, true_and, and_true, zero_ne, gn_2980, jw_c2980, Int.reduceToNat, e]
  rfl
theorem mmi_21 (hs : mS w b = (1, 9, 0)) (z : b < 64 + mN w) : rn 172 (53, [(0, jvr b)], [], w) = rn 172 (62, [(0, jvr b)], [], nR w b 21 (2, 0, 894)) := by
  have e : mS (newC w (2, 0, 894) 894) b = (1, 9, 0) := (mS_C (by omega)).trans hs
  simp only [p172_53, p172_54, p172_57, p172_59, jwd_c, jwd_0, Nat.reduceLeDiff, Nat.reduceEqDiff, Nat.reduceAdd, Nat.reduceSub, Nat.reduceMul, Int.reduceAdd, Int.reduceSub, Int.reduceMul, Int.reduceNeg, Int.reduceEq, Int.reduceLT, Int.reduceLE, jq_ldi_i, jq_ldl_l, jq_lda_a, jq_inc_i, jq_gs_t, jq_gsb_t, jq_gb_t, jq_gr_2, jq_gr_4, jq_gw_2, jq_s_t, jq_b_t, jg_c, jg_n, js_c, js_n, jrm_c, jrm_n, j2_i, j2_l, j2_a, jq_c_i, jq_c_l, jq_c_0, jq_c_n, jwd_le, jw_c0, mS_I, mS_R, mS_J, mN_I, mN_R, mN_J, mR_I, mI_R, mJ_I, mJ_R, mI_J, mR_J, ↓reduceIte, decide_true, or_true, true_or, and_self, false_or, or_false, reduceCtorEq, Bool.false_eq_true, and_false, false_and, eq_self, true_and, and_true, zero_ne, gn_894, jw_c894, Int.reduceToNat, e]
  rfl
theorem mmi_24 (hs : mS w b = (1, 9, 0)) (z : b < 64 + mN w) : rn 172 (62, [(0, jvr b)], [], w) = rn 172 (70, [(0, jvr b)], [], nR w b 24 (2, 0, 48)) := by
  have e : mS (newC w (2, 0, 48) 48) b = (1, 9, 0) := (mS_C (by omega)).trans hs
  simp only [p172_62, p172_63, p172_65, p172_67, jwd_c, jwd_0, Nat.reduceLeDiff, Nat.reduceEqDiff, Nat.reduceAdd, Nat.reduceSub, Nat.reduceMul, Int.reduceAdd, Int.reduceSub, Int.reduceMul, Int.reduceNeg, Int.reduceEq, Int.reduceLT, Int.reduceLE, jq_ldi_i, jq_ldl_l, jq_lda_a, jq_inc_i, jq_gs_t, jq_gsb_t, jq_gb_t, jq_gr_2, jq_gr_4, jq_gw_2, jq_s_t, jq_b_t, jg_c, jg_n, js_c, js_n, jrm_c, jrm_n, j2_i, j2_l, j2_a, jq_c_i, jq_c_l, jq_c_0, jq_c_n, jwd_le, jw_c0, mS_I, mS_R, mS_J, mN_I, mN_R, mN_J, mR_I, mI_R, mJ_I, mJ_R, mI_J, mR_J, ↓reduceIte, decide_true, or_true, true_or, and_self, false_or, or_false, reduceCtorEq, Bool.false_eq_true, and_false, false_and, eq_self, true_and, and_true, zero_ne, gn_48, jw_c48, Int.reduceToNat, e]
  rfl
theorem mmi_25 (hs : mS w b = (1, 9, 0)) (z : b < 64 + mN w) : rn 172 (70, [(0, jvr b)], [], w) = rn 172 (78, [(0, jvr b)], [], nR w b 25 (2, 0, 48)) := by
  have e : mS (newC w (2, 0, 48) 48) b = (1, 9, 0) := (mS_C (by omega)).trans hs
  simp only [p172_70, p172_71, p172_73, p172_75, jwd_c, jwd_0, Nat.reduceLeDiff, Nat.reduceEqDiff, Nat.reduceAdd, Nat.reduceSub, Nat.reduceMul, Int.reduceAdd, Int.reduceSub, Int.reduceMul, Int.reduceNeg, Int.reduceEq, Int.reduceLT, Int.reduceLE, jq_ldi_i, jq_ldl_l, jq_lda_a, jq_inc_i, jq_gs_t, jq_gsb_t, jq_gb_t, jq_gr_2, jq_gr_4, jq_gw_2, jq_s_t, jq_b_t, jg_c, jg_n, js_c, js_n, jrm_c, jrm_n, j2_i, j2_l, j2_a, jq_c_i, jq_c_l, jq_c_0, jq_c_n, jwd_le, jw_c0, mS_I, mS_R, mS_J, mN_I, mN_R, mN_J, mR_I, mI_R, mJ_I, mJ_R, mI_J, mR_J, ↓reduceIte, decide_true, or_true, true_or, and_self, false_or, or_false, reduceCtorEq, Bool.false_eq_true, and_false, false_and, eq_self, true_and, and_true, zero_ne, gn_48, jw_c48, Int.reduceToNat, e]
  rfl
theorem mmi_28 (hs : mS w b = (1, 9, 0)) (z : b < 64 + mN w) : rn 172 (78, [(0, jvr b)], [], w) = rn 172 (86, [(0, jvr b)], [], nR w b 28 (2, 0, 12)) := by
  have e : mS (newC w (2, 0, 12) 12) b = (1, 9, 0) := (mS_C (by omega)).trans hs
  simp only [p172_78, p172_79, p172_81, p172_83, jwd_c, jwd_0, Nat.reduceLeDiff, Nat.reduceEqDiff, Nat.reduceAdd, Nat.reduceSub, Nat.reduceMul, Int.reduceAdd, Int.reduceSub, Int.reduceMul, Int.reduceNeg, Int.reduceEq, Int.reduceLT, Int.reduceLE, jq_ldi_i, jq_ldl_l, jq_lda_a, jq_inc_i, jq_gs_t, jq_gsb_t, jq_gb_t, jq_gr_2, jq_gr_4, jq_gw_2, jq_s_t, jq_b_t, jg_c, jg_n, js_c, js_n, jrm_c, jrm_n, j2_i, j2_l, j2_a, jq_c_i, jq_c_l, jq_c_0, jq_c_n, jwd_le, jw_c0, mS_I, mS_R, mS_J, mN_I, mN_R, mN_J, mR_I, mI_R, mJ_I, mJ_R, mI_J, mR_J, ↓reduceIte, decide_true, or_true, true_or, and_self, false_or, or_false, reduceCtorEq, Bool.false_eq_true, and_false, false_and, eq_self, true_and, and_true, zero_ne, gn_12, jw_c12, Int.reduceToNat, e]
  rfl
theorem mmi_29 (hs : mS w b = (1, 9, 0)) (z : b < 64 + mN w) : rn 172 (86, [(0, jvr b)], [], w) = rn 172 (95, [(0, jvr b)], [], nR w b 29 (2, 0, 128)) := by
  have e : mS (newC w (2, 0, 128) 128) b = (1, 9, 0) := (mS_C (by omega)).trans hs
  simp only [p172_86, p172_87, p172_90, p172_92, jwd_c, jwd_0, Nat.reduceLeDiff, Nat.reduceEqDiff, Nat.reduceAdd, Nat.reduceSub, Nat.reduceMul, Int.reduceAdd, Int.reduceSub, Int.reduceMul, Int.reduceNeg, Int.reduceEq, Int.reduceLT, Int.reduceLE, jq_ldi_i, jq_ldl_l, jq_lda_a, jq_inc_i, jq_gs_t, jq_gsb_t, jq_gb_t, jq_gr_2, jq_gr_4, jq_gw_2, jq_s_t, jq_b_t, jg_c, jg_n, js_c, js_n, jrm_c, jrm_n, j2_i, j2_l, j2_a, jq_c_i, jq_c_l, jq_c_0, jq_c_n, jwd_le, jw_c0, mS_I, mS_R, mS_J, mN_I, mN_R, mN_J, mR_I, mI_R, mJ_I, mJ_R, mI_J, mR_J, ↓reduceIte, decide_true, or_true, true_or, and_self, false_or, or_false, reduceCtorEq, Bool.false_eq_true, and_false, false_and, eq_self, true_and, and_true, zero_ne, gn_128, jw_c128, Int.reduceToNat, e]
  rfl
theorem mmi_34 (hs : mS w b = (1, 9, 0)) (z : b < 64 + mN w) : rn 172 (95, [(0, jvr b)], [], w) = rn 172 (104, [(0, jvr b)], [], nR w b 34 (2, 0, 128)) := by
  have e : mS (newC w (2, 0, 128) 128) b = (1, 9, 0) := (mS_C (by omega)).trans hs
  simp only [p172_95, p172_96, p172_99, p172_101, jwd_c, jwd_0, Nat.reduceLeDiff, Nat.reduceEqDiff, Nat.reduceAdd, Nat.reduceSub, Nat.reduceMul, Int.reduceAdd, Int.reduceSub, Int.reduceMul, Int.reduceNeg, Int.reduceEq, Int.reduceLT, Int.reduceLE, jq_ldi_i, jq_ldl_l, jq_lda_a, jq_inc_i, jq_gs_t, jq_gsb_t, jq_gb_t, jq_gr_2, jq_gr_4, jq_gw_2, jq_s_t, jq_b_t, jg_c, jg_n, js_c, js_n, jrm_c, jrm_n, j2_i, j2_l, j2_a, jq_c_i, jq_c_l, jq_c_0, jq_c_n, jwd_le, jw_c0, mS_I, mS_R, mS_J, mN_I, mN_R, mN_J, mR_I, mI_R, mJ_I, mJ_R, mI_J, mR_J, ↓reduceIte, decide_true, or_true, true_or, and_self, false_or, or_false, reduceCtorEq, Bool.false_eq_true, and_false, false_and, eq_self, true_and, and_true, zero_ne, gn_128, jw_c128, Int.reduceToNat, e]
  rfl
theorem mmi_35 (hs : mS w b = (1, 9, 0)) (z : b < 64 + mN w) : rn 172 (104, [(0, jvr b)], [], w) = rn 172 (112, [(0, jvr b)], [], nR w b 35 (2, 0, 16)) := by
  have e : mS (newC w (2, 0, 16) 16) b = (1, 9, 0) := (mS_C (by omega)).trans hs
  simp only [p172_104, p172_105, p172_107, p172_109, jwd_c, jwd_0, Nat.reduceLeDiff, Nat.reduceEqDiff, Nat.reduceAdd, Nat.reduceSub, Nat.reduceMul, Int.reduceAdd, Int.reduceSub, Int.reduceMul, Int.reduceNeg, Int.reduceEq, Int.reduceLT, Int.reduceLE, jq_ldi_i, jq_ldl_l, jq_lda_a, jq_inc_i, jq_gs_t, jq_gsb_t, jq_gb_t, jq_gr_2, jq_gr_4, jq_gw_2, jq_s_t, jq_b_t, jg_c, jg_n, js_c, js_n, jrm_c, jrm_n, j2_i, j2_l, j2_a, jq_c_i, jq_c_l, jq_c_0, jq_c_n, jwd_le, jw_c0, mS_I, mS_R, mS_J, mN_I, mN_R, mN_J, mR_I, mI_R, mJ_I, mJ_R, mI_J, mR_J, ↓reduceIte, decide_true, or_true, true_or, and_self, false_or, or_false, reduceCtorEq, Bool.false_eq_true, and_false, false_and, eq_self, true_and, and_true, zero_ne, gn_16, jw_c16, Int.reduceToNat, e]
  rfl
theorem mmi_36 (hs : mS w b = (1, 9, 0)) (z : b < 64 + mN w) : rn 172 (112, [(0, jvr b)], [], w) = rn 172 (120, [(0, jvr b)], [], nR w b 36 (2, 0, 16)) := by
  have e : mS (newC w (2, 0, 16) 16) b = (1, 9, 0) := (mS_C (by omega)).trans hs
  simp only [p172_112, p172_113, p172_115, p172_117, jwd_c, jwd_0, Nat.reduceLeDiff, Nat.reduceEqDiff, Nat.reduceAdd, Nat.reduceSub, Nat.reduceMul, Int.reduceAdd, Int.reduceSub, Int.reduceMul, Int.reduceNeg, Int.reduceEq, Int.reduceLT, Int.reduceLE, jq_ldi_i, jq_ldl_l, jq_lda_a, jq_inc_i, jq_gs_t, jq_gsb_t, jq_gb_t, jq_gr_2, jq_gr_4, jq_gw_2, jq_s_t, jq_b_t, jg_c, jg_n, js_c, js_n, jrm_c, jrm_n, j2_i, j2_l, j2_a, jq_c_i, jq_c_l, jq_c_0, jq_c_n, jwd_le, jw_c0, mS_I, mS_R, mS_J, mN_I, mN_R, mN_J, mR_I, mI_R, mJ_I, mJ_R, mI_J, mR_J, ↓reduceIte, decide_true, or_true, true_or, and_self, false_or, or_false, reduceCtorEq, Bool.false_eq_true, and_false, false_and, eq_self, true_and, and_true, zero_ne, gn_16, jw_c16, Int.reduceToNat, e]
  rfl
def LMm : List (Nat × Nat × Nat × Nat) := [(5, 2, 1, 900), (16, 2, 0, 8), (18, 2, 0, 298), (19, 2, 0, 298), (20, 2, 0, 2980), (21, 2, 0, 894), (24, 2, 0, 48), (25, 2, 0, 48), (28, 2, 0, 12), (29, 2, 0, 128), (34, 2, 0, 128), (35, 2, 0, 16), (36, 2, 0, 16)]
theorem lmm_nd : (LMm.map Prod.fst).Nodup := by decide
theorem mk_M0 (hb : b = 64 + mN w) : ∃ u, rn 172 (0, [(0, jvr b)], [], newC w (1, 9, 0) 40) = some (none, u) ∧ (mS u b = (1, 9, 0) ∧ (∀ i k sh, LMm[i]? = some (k, sh) → mS u (b + 1 + i) = sh ∧ mR u b k = some (b + 1 + i)) ∧ mI u b = up1 (fun _ => 0) 2 (-1) ∧ mR u b 3 = none) ∧ Gw P w u ∧ mN u = mN w + 14 ∧ mK u = mK w + 5814 := by
  obtain ⟨w0, hw0⟩ : ∃ w0, w0 = newC w (1, 9, 0) 40 := ⟨_, rfl⟩
  have q0 : mS w0 b = (1, 9, 0) := by rw [hw0, hb]; exact mS_Cs
  have N0 : mN w0 = mN w + 1 := by rw [hw0]; rfl
  have K0 : mK w0 = mK w + 40 := by rw [hw0]; rfl
  have i0 : mI w0 b = (fun _ => 0) := by rw [hw0, hb]; exact mI_Cs
  have r0 : mR w0 b = (fun _ => none) := by rw [hw0, hb]; exact mR_Cs
  have B0 : Gw (fun y => y = b) w w0 := by rw [hw0]; exact Gw.C
  obtain ⟨w1, hw1⟩ : ∃ w1, w1 = setI w0 b 2 (-1) := ⟨_, rfl⟩
  have B1 : Gw (fun y => y = b) w0 w1 := by rw [hw1]; exact (Fr.I (P := fun y => y = b) rfl).gw
  have s1 : mS w1 b = (1, 9, 0) := by rw [hw1]; exact q0
  have n1 : mN w1 = mN w + 1 := by rw [hw1]; exact N0
  have k1 : mK w1 = mK w + 40 := by rw [hw1]; exact K0
  have z1 : b < 64 + mN w1 := by omega
  have e0 : rn 172 (0, [(0, jvr b)], [], w0) = rn 172 (9, [(0, jvr b)], [], w1) := by
    rw [hw1]
    simp only [p172_0, p172_1, p172_4, p172_5, p172_6, jwd_c, jwd_0, Nat.reduceLeDiff, Nat.reduceEqDiff, Nat.reduceAdd, Nat.reduceSub, Nat.reduceMul, Int.reduceAdd, Int.reduceSub, Int.reduceMul, Int.reduceNeg, Int.reduceEq, Int.reduceLT, Int.reduceLE, jq_ldi_i, jq_ldl_l, jq_lda_a, jq_inc_i, jq_gs_t, jq_gsb_t, jq_gb_t, jq_gr_2, jq_gr_4, jq_gw_2, jq_s_t, jq_b_t, jg_c, jg_n, js_c, js_n, jrm_c, jrm_n, j2_i, j2_l, j2_a, jq_c_i, jq_c_l, jq_c_0, jq_c_n, jwd_le, jw_c0, mS_I, mS_R, mS_J, mN_I, mN_R, mN_J, mR_I, mI_R, mJ_I, mJ_R, mI_J, mR_J, ↓reduceIte, decide_true, or_true, true_or, and_self, false_or, or_false, reduceCtorEq, Bool.false_eq_true, and_false, false_and, eq_self, true_and, and_true, zero_ne, q0]
  obtain ⟨a1, a2, a3, a4⟩ := nRs_h (h := b) LMm w1 z1
  have nn := nRs_n (h := b) LMm w1 z1 lmm_nd
  rw [show 64 + mN w1 = b + 1 by omega] at nn
  rw [← hw0]
  refine ⟨nRs w1 b LMm, ?_, ⟨a1.trans s1, fun i k sh e => ⟨(nn i k sh e).1, (nn i k sh e).2.2.2⟩, ?_, ?_⟩, ?_, by rw [nRs_N, n1]; rfl, by rw [nRs_K, k1]; rfl⟩
  · rw [e0]
    clear e0 hw1 a1 a2 a3 a4 nn n1 k1 B1
    rw [mmi_5 s1 z1]
    obtain ⟨s1, z1⟩ := nR_p9 s1 z1 (k := 5) (sh := (2, 1, 900))
    rw [mmi_16 s1 z1]
    obtain ⟨s1, z1⟩ := nR_p9 s1 z1 (k := 16) (sh := (2, 0, 8))
    rw [mmi_18 s1 z1]
    obtain ⟨s1, z1⟩ := nR_p9 s1 z1 (k := 18) (sh := (2, 0, 298))
    rw [mmi_19 s1 z1]
    obtain ⟨s1, z1⟩ := nR_p9 s1 z1 (k := 19) (sh := (2, 0, 298))
    rw [mmi_20 s1 z1]
    obtain ⟨s1, z1⟩ := nR_p9 s1 z1 (k := 20) (sh := (2, 0, 2980))
    rw [mmi_21 s1 z1]
    obtain ⟨s1, z1⟩ := nR_p9 s1 z1 (k := 21) (sh := (2, 0, 894))
    rw [mmi_24 s1 z1]
    obtain ⟨s1, z1⟩ := nR_p9 s1 z1 (k := 24) (sh := (2, 0, 48))
    rw [mmi_25 s1 z1]
    obtain ⟨s1, z1⟩ := nR_p9 s1 z1 (k := 25) (sh := (2, 0, 48))
    rw [mmi_28 s1 z1]
    obtain ⟨s1, z1⟩ := nR_p9 s1 z1 (k := 28) (sh := (2, 0, 12))
    rw [mmi_29 s1 z1]
    obtain ⟨s1, z1⟩ := nR_p9 s1 z1 (k := 29) (sh := (2, 0, 128))
    rw [mmi_34 s1 z1]
    obtain ⟨s1, z1⟩ := nR_p9 s1 z1 (k := 34) (sh := (2, 0, 128))
    rw [mmi_35 s1 z1]
    obtain ⟨s1, z1⟩ := nR_p9 s1 z1 (k := 35) (sh := (2, 0, 16))
    rw [mmi_36 s1 z1]
    obtain ⟨s1, z1⟩ := nR_p9 s1 z1 (k := 36) (sh := (2, 0, 16))
    rw [p172_120]
    rfl
  · rw [a2, hw1]
    funext k
    by_cases z : k = 2
    · rw [z, mI_s]
      exact (up1_s _ _ _).symm
    · rw [mI_nk z, i0]
      show (0 : Int) = up1 (fun _ => (0 : Int)) 2 (-1) k
      unfold up1
      rw [if_neg z]
  · rw [a4 3 (by decide), hw1]
    show mR w0 b 3 = none
    rw [r0]
  · refine ⟨by rw [nRs_N]; omega, fun y hy => ?_⟩
    obtain ⟨c1, c2, c3, c4⟩ := nRs_o (b := y) (h := b) LMm w1 (by omega) (by omega)
    obtain ⟨d1, d2⟩ := (B0.tr B1).2 y hy
    obtain ⟨d3, d4, d5⟩ := d2 (by omega)
    exact ⟨c1.trans d1, fun _ => ⟨c2.trans d3, c3.trans d4, c4.trans d5⟩⟩
end INITS2
