/-! The constructors. -/
/-- what was there stands, but for some cells -/
def Gw (P : Nat → Prop) (w u : jmW) : Prop := mN w ≤ mN u ∧ ∀ b, b < 64 + mN w → mS u b = mS w b ∧ (¬ P b → mI u b = mI w b ∧ mR u b = mR w b ∧ mJ u b = mJ w b)
section INITS
variable {w u v : jmW} {P Q : Nat → Prop} {a b c n : Nat} {g : Nat → Nat → Int}
theorem Gw.rf : Gw P w w := ⟨Nat.le_refl _, fun b _ => ⟨rfl, fun _ => ⟨rfl, rfl, rfl⟩⟩⟩
theorem Gw.tr (x : Gw P w u) (y : Gw P u v) : Gw P w v := ⟨Nat.le_trans x.1 y.1, fun b hb => by
  obtain ⟨x1, x2⟩ := x.2 b hb
  have := x.1
  obtain ⟨y1, y2⟩ := y.2 b (by omega)
  refine ⟨y1.trans x1, fun z => ?_⟩
  obtain ⟨a1, a2, a3⟩ := x2 z
  obtain ⟨b1, b2, b3⟩ := y2 z
  exact ⟨b1.trans a1, b2.trans a2, b3.trans a3⟩⟩
theorem Gw.mo (x : Gw P w u) (h : ∀ b, b < 64 + mN w → P b → Q b) : Gw Q w u := ⟨x.1, fun b hb => ⟨(x.2 b hb).1, fun z => (x.2 b hb).2 (fun y => z (h b hb y))⟩⟩
theorem Fr.gw (f : Fr P w u) : Gw P w u := ⟨by rw [f.2.1]; exact Nat.le_refl _, fun b _ => ⟨by rw [f.q], f.2.2.2 b⟩⟩
theorem Gw.C {sh : Nat × Nat × Nat} {k : Nat} : Gw P w (newC w sh k) := ⟨by rw [mN_C]; omega, fun b hb => ⟨mS_C (by omega), fun _ => ⟨mI_C (by omega), mR_C (by omega), mJ_C (by omega)⟩⟩⟩
theorem Gw.s (x : Gw P w u) (hb : b < 64 + mN w) : mS u b = mS w b := (x.2 b hb).1
theorem Gw.i (x : Gw P w u) (hb : b < 64 + mN w) (z : ¬ P b) : mI u b = mI w b := ((x.2 b hb).2 z).1
theorem Gw.r (x : Gw P w u) (hb : b < 64 + mN w) (z : ¬ P b) : mR u b = mR w b := ((x.2 b hb).2 z).2.1
variable {r : Nat}
theorem Sg.gw (h : Sg w a c r n g) (x : Gw P w u) (ha : a + 1 < 64 + mN w) (z1 : ¬ P a) (z2 : ¬ P (a + 1)) : Sg u a c r n g := by
  unfold Sg at h ⊢
  rw [x.s (by omega), x.s ha, x.r (by omega) z1, x.i (by omega) z1, x.i ha z2]
  exact h
theorem CR.gw {T : Nat} {k : Int} {q : Nat → Int} (h : CR w a T k q) (x : Gw P w u) (ha : a + 6 < 64 + mN w) (z : ∀ b, a ≤ b → b ≤ a + 6 → ¬ P b) : CR u a T k q := by
  obtain ⟨h1, h2, h3, h4, s1, s2, s3, h5⟩ := h
  refine ⟨by rw [x.s (by omega)]; exact h1, by rw [x.r (by omega) (z a (by omega) (by omega))]; exact h2, by rw [x.r (by omega) (z a (by omega) (by omega))]; exact h3, by rw [x.r (by omega) (z a (by omega) (by omega))]; exact h4, s1.gw x (by omega) (z _ (by omega) (by omega)) (z _ (by omega) (by omega)), s2.gw x (by omega) (z _ (by omega) (by omega)) (z _ (by omega) (by omega)), s3.gw x (by omega) (z _ (by omega) (by omega)) (z _ (by omega) (by omega)), ?_⟩
  rw [x.i (by omega) (z a (by omega) (by omega))]
  exact h5
/-- a Sheet made -/
theorem mk_sh {R C : Int} {m : Nat} (hR : R = (r : Int)) (hC : C = (c : Int)) (hm : m = r * c) (r1 : 1 ≤ r) (c1 : 1 ≤ c) (rb : r ≤ 5000) (cb : c ≤ 5000) (m5 : m ≤ 5000) (ha : a = 64 + mN w) : ∃ u, rn 1 (0, [(0, jvr a), (1, .inl R), (2, .inl C)], [], newC w (1, 5, 0) 4) = some (none, u) ∧ (∀ g, Sg u a c r 0 g) ∧ Gw P w u ∧ mN u = mN w + 2 ∧ mK u = mK w + (4 + m) := by
  subst hR hC
  have hs : mS (newC w (1, 5, 0) 4) a = (1, 5, 0) := by rw [ha]; exact mS_Cs
  obtain ⟨w1, hw1⟩ : ∃ w1, w1 = setI (setI (newC w (1, 5, 0) 4) a 2 r) a 1 c := ⟨_, rfl⟩
  have n1 : mN w1 = mN w + 1 := by rw [hw1]; rfl
  have k1 : mK w1 = mK w + 4 := by rw [hw1]; rfl
  have s1 : mS w1 = mS (newC w (1, 5, 0) 4) := by rw [hw1]; rfl
  have i1 : mI w1 a 1 = c := by rw [hw1, mI_s]
  have i2 : mI w1 a 2 = r := by rw [hw1, mI_nk (by omega), mI_s]
  have hs1 : mS w1 a = (1, 5, 0) := by rw [s1]; exact hs
  have e1 : rn 1 (0, [(0, jvr a), (1, .inl (r : Int)), (2, .inl (c : Int))], [], newC w (1, 5, 0) 4) = rn 1 (32, [(0, jvr a), (1, .inl (r : Int)), (2, .inl (c : Int))], [], w1) := by
    rw [hw1]
    by_cases z1 : r = 1
    · subst z1
      by_cases z2 : c = 1
      · subst z2
        simp (disch := omega) only [p1_0, p1_1, p1_4, p1_5, p1_6, p1_7, p1_10, p1_11, p1_14, p1_15, p1_18, p1_19, p1_20, p1_21, p1_24, p1_25, p1_28, p1_29, jwd_c, jwd_0, Nat.reduceLeDiff, Nat.reduceEqDiff, Nat.reduceAdd, Nat.reduceSub, Nat.reduceMul, Int.reduceAdd, Int.reduceSub, Int.reduceMul, Int.reduceNeg, Int.reduceEq, Int.reduceLT, Int.reduceLE, jq_ldi_i, jq_ldl_l, jq_lda_a, jq_inc_i, jq_gs_t, jq_gsb_t, jq_gb_t, jq_gr_2, jq_gr_4, jq_gw_2, jq_s_t, jq_b_t, jg_c, jg_n, js_c, js_n, jrm_c, jrm_n, j2_i, j2_l, j2_a, jq_c_i, jq_c_l, jq_c_0, jq_c_n, jwd_le, jw_c0, mS_I, mS_R, mS_J, mN_I, mN_R, mN_J, mR_I, mI_R, mJ_I, mJ_R, mI_J, mR_J, ↓reduceIte, decide_true, or_true, true_or, and_self, false_or, or_false, reduceCtorEq, Bool.false_eq_true, and_false, false_and, eq_self, true_and, and_true, zero_ne, ↓br_lt_t, ↓br_lt_f, ↓br_eq_t, ↓br_eq_f, ↓br_lz_t, ↓br_lz_f, ↓br_ez_t, ↓br_ez_f, ↓br_gz_t, ↓br_gz_f, jw_id, jin_t, jix_t, hs]
      · simp (disch := omega) only [p1_0, p1_1, p1_4, p1_5, p1_6, p1_7, p1_10, p1_11, p1_14, p1_15, p1_18, p1_19, p1_20, p1_21, p1_24, p1_25, p1_28, p1_29, jwd_c, jwd_0, Nat.reduceLeDiff, Nat.reduceEqDiff, Nat.reduceAdd, Nat.reduceSub, Nat.reduceMul, Int.reduceAdd, Int.reduceSub, Int.reduceMul, Int.reduceNeg, Int.reduceEq, Int.reduceLT, Int.reduceLE, jq_ldi_i, jq_ldl_l, jq_lda_a, jq_inc_i, jq_gs_t, jq_gsb_t, jq_gb_t, jq_gr_2, jq_gr_4, jq_gw_2, jq_s_t, jq_b_t, jg_c, jg_n, js_c, js_n, jrm_c, jrm_n, j2_i, j2_l, j2_a, jq_c_i, jq_c_l, jq_c_0, jq_c_n, jwd_le, jw_c0, mS_I, mS_R, mS_J, mN_I, mN_R, mN_J, mR_I, mI_R, mJ_I, mJ_R, mI_J, mR_J, ↓reduceIte, decide_true, or_true, true_or, and_self, false_or, or_false, reduceCtorEq, Bool.false_eq_true, and_false, false_and, eq_self, true_and, and_true, zero_ne, ↓br_lt_t, ↓br_lt_f, ↓br_eq_t, ↓br_eq_f, ↓br_lz_t, ↓br_lz_f, ↓br_ez_t, ↓br_ez_f, ↓br_gz_t, ↓br_gz_f, jw_id, jin_t, jix_t, hs]
    · by_cases z2 : c = 1
      · subst z2
        simp (disch := omega) only [p1_0, p1_1, p1_4, p1_5, p1_6, p1_7, p1_10, p1_11, p1_14, p1_15, p1_18, p1_19, p1_20, p1_21, p1_24, p1_25, p1_28, p1_29, jwd_c, jwd_0, Nat.reduceLeDiff, Nat.reduceEqDiff, Nat.reduceAdd, Nat.reduceSub, Nat.reduceMul, Int.reduceAdd, Int.reduceSub, Int.reduceMul, Int.reduceNeg, Int.reduceEq, Int.reduceLT, Int.reduceLE, jq_ldi_i, jq_ldl_l, jq_lda_a, jq_inc_i, jq_gs_t, jq_gsb_t, jq_gb_t, jq_gr_2, jq_gr_4, jq_gw_2, jq_s_t, jq_b_t, jg_c, jg_n, js_c, js_n, jrm_c, jrm_n, j2_i, j2_l, j2_a, jq_c_i, jq_c_l, jq_c_0, jq_c_n, jwd_le, jw_c0, mS_I, mS_R, mS_J, mN_I, mN_R, mN_J, mR_I, mI_R, mJ_I, mJ_R, mI_J, mR_J, ↓reduceIte, decide_true, or_true, true_or, and_self, false_or, or_false, reduceCtorEq, Bool.false_eq_true, and_false, false_and, eq_self, true_and, and_true, zero_ne, ↓br_lt_t, ↓br_lt_f, ↓br_eq_t, ↓br_eq_f, ↓br_lz_t, ↓br_lz_f, ↓br_ez_t, ↓br_ez_f, ↓br_gz_t, ↓br_gz_f, jw_id, jin_t, jix_t, hs]
      · simp (disch := omega) only [p1_0, p1_1, p1_4, p1_5, p1_6, p1_7, p1_10, p1_11, p1_14, p1_15, p1_18, p1_19, p1_20, p1_21, p1_24, p1_25, p1_28, p1_29, jwd_c, jwd_0, Nat.reduceLeDiff, Nat.reduceEqDiff, Nat.reduceAdd, Nat.reduceSub, Nat.reduceMul, Int.reduceAdd, Int.reduceSub, Int.reduceMul, Int.reduceNeg, Int.reduceEq, Int.reduceLT, Int.reduceLE, jq_ldi_i, jq_ldl_l, jq_lda_a, jq_inc_i, jq_gs_t, jq_gsb_t, jq_gb_t, jq_gr_2, jq_gr_4, jq_gw_2, jq_s_t, jq_b_t, jg_c, jg_n, js_c, js_n, jrm_c, jrm_n, j2_i, j2_l, j2_a, jq_c_i, jq_c_l, jq_c_0, jq_c_n, jwd_le, jw_c0, mS_I, mS_R, mS_J, mN_I, mN_R, mN_J, mR_I, mI_R, mJ_I, mJ_R, mI_J, mR_J, ↓reduceIte, decide_true, or_true, true_or, and_self, false_or, or_false, reduceCtorEq, Bool.false_eq_true, and_false, false_and, eq_self, true_and, and_true, zero_ne, ↓br_lt_t, ↓br_lt_f, ↓br_eq_t, ↓br_eq_f, ↓br_lz_t, ↓br_lz_f, ↓br_ez_t, ↓br_ez_f, ↓br_gz_t, ↓br_gz_f, jw_id, jin_t, jix_t, hs]
  have hg : ∀ (i p : Nat) (lv : jmL) (st : List jmV) (w : jmW), jq_gn (m : Int) i p lv st w = rn i (p, lv, st, w) := fun i p lv st w => jq_gn_t (by omega) (by omega) (jw_id (by omega) (by omega)) i p lv st w
  have em : (r : Int) * (c : Int) = (m : Int) := by rw [hm]; exact (Int.natCast_mul r c).symm
  have jm : (jw (m : Int)).toNat = m := by rw [jw_id (by omega) (by omega)]; exact Int.toNat_natCast m
  have h1 : 64 + mN w1 = a + 1 := by omega
  obtain ⟨w2, hw2⟩ : ∃ w2, w2 = setR (newC w1 (2, 0, m) m) a 0 (some (a + 1)) := ⟨_, rfl⟩
  have sn : mS (newC w1 (2, 0, m) m) a = (1, 5, 0) := by rw [mS_C (by omega)]; exact hs1
  have e2 : rn 1 (32, [(0, jvr a), (1, .inl (r : Int)), (2, .inl (c : Int))], [], w1) = some (none, setI w2 a 3 0) := by
    rw [hw2]
    simp (disch := omega) only [p1_32, p1_33, p1_34, p1_37, p1_38, p1_41, p1_42, p1_44, p1_47, p1_48, p1_49, p1_52, jwd_c, jwd_0, Nat.reduceLeDiff, Nat.reduceEqDiff, Nat.reduceAdd, Nat.reduceSub, Nat.reduceMul, Int.reduceAdd, Int.reduceSub, Int.reduceMul, Int.reduceNeg, Int.reduceEq, Int.reduceLT, Int.reduceLE, jq_ldi_i, jq_ldl_l, jq_lda_a, jq_inc_i, jq_gs_t, jq_gsb_t, jq_gb_t, jq_gr_2, jq_gr_4, jq_gw_2, jq_s_t, jq_b_t, jg_c, jg_n, js_c, js_n, jrm_c, jrm_n, j2_i, j2_l, j2_a, jq_c_i, jq_c_l, jq_c_0, jq_c_n, jwd_le, jw_c0, mS_I, mS_R, mS_J, mN_I, mN_R, mN_J, mR_I, mI_R, mJ_I, mJ_R, mI_J, mR_J, ↓reduceIte, decide_true, or_true, true_or, and_self, false_or, or_false, reduceCtorEq, Bool.false_eq_true, and_false, false_and, eq_self, true_and, and_true, zero_ne, hs1, i1, i2, em, hg, jm, h1, sn]
  refine ⟨setI w2 a 3 0, e1.trans e2, fun g => ⟨?_, ?_, ?_, ?_, ?_, mI_s _ _ _ _, Nat.zero_le _, c1, by rw [← hm]; exact m5, fun i j hi => absurd hi (by omega)⟩, ⟨by show mN w ≤ mN w2; rw [hw2]; show mN w ≤ mN w1 + 1; omega, fun b hb => ⟨?_, fun _ => ⟨?_, ?_, ?_⟩⟩⟩, by show mN w2 = _; rw [hw2]; show mN w1 + 1 = _; omega, by show mK w2 = _; rw [hw2]; show mK w1 + m = _; omega⟩
  · show mS w2 a = _
    rw [hw2]
    exact sn
  · show mS w2 (a + 1) = _
    rw [hw2, ← hm, ← h1]
    exact mS_Cs (n := m)
  · show mR w2 a 0 = _
    rw [hw2]
    exact mR_s _ _ _ _
  · rw [mI_nk (by omega), hw2]
    exact (congrFun (mI_C (sh := (2, 0, m)) (n := m) (by omega)) 1).trans i1
  · rw [mI_nk (by omega), hw2]
    exact (congrFun (mI_C (sh := (2, 0, m)) (n := m) (by omega)) 2).trans i2
  · show mS w2 b = _
    rw [hw2]
    exact (mS_C (sh := (2, 0, m)) (n := m) (by omega)).trans ((congrFun s1 b).trans (mS_C (sh := (1, 5, 0)) (n := 4) (by omega)))
  · rw [mI_nb (by omega), hw2]
    refine (mI_C (sh := (2, 0, m)) (n := m) (by omega)).trans ?_
    rw [hw1, mI_nb (by omega), mI_nb (by omega)]
    exact mI_C (sh := (1, 5, 0)) (n := 4) (by omega)
  · show mR w2 b = _
    rw [hw2, mR_nb (by omega), mR_C (sh := (2, 0, m)) (n := m) (by omega), hw1]
    exact mR_C (sh := (1, 5, 0)) (n := 4) (by omega)
  · show mJ w2 b = _
    rw [hw2]
    refine (mJ_C (sh := (2, 0, m)) (n := m) (by omega)).trans ?_
    rw [hw1]
    exact mJ_C (sh := (1, 5, 0)) (n := 4) (by omega)
def rZ : Nat → Int := fun k => if k = 296 then -2 else 0
theorem mk_row (ha : a = 64 + mN w) : ∃ u, rn 7 (0, [(0, jvr a)], [], newC w (1, 4, 0) 11) = some (none, u) ∧ CR u a 0 0 rZ ∧ Gw P w u ∧ mN u = mN w + 7 ∧ mK u = mK w + 315 := by
  obtain ⟨w0, hw0⟩ : ∃ w0, w0 = newC w (1, 4, 0) 11 := ⟨_, rfl⟩
  have q0 : mS w0 a = (1, 4, 0) := by rw [hw0, ha]; exact mS_Cs
  have N0 : mN w0 = mN w + 1 := by rw [hw0]; rfl
  have K0 : mK w0 = mK w + 11 := by rw [hw0]; rfl
  have i0 : mI w0 a = (fun _ => 0) := by rw [hw0, ha]; exact mI_Cs
  have B0 : Gw (fun b => b = a) w w0 := by rw [hw0]; exact Gw.C
  have e0' : rn 7 (0, [(0, jvr a)], [], w0) = rn 7 (4, [(0, jvr a)], [], w0) := by
    simp only [p7_0, p7_1, jwd_c, jwd_0, Nat.reduceLeDiff, Nat.reduceEqDiff, Nat.reduceAdd, Nat.reduceSub, Nat.reduceMul, Int.reduceAdd, Int.reduceSub, Int.reduceMul, Int.reduceNeg, Int.reduceEq, Int.reduceLT, Int.reduceLE, jq_ldi_i, jq_ldl_l, jq_lda_a, jq_inc_i, jq_gs_t, jq_gsb_t, jq_gb_t, jq_gr_2, jq_gr_4, jq_gw_2, jq_s_t, jq_b_t, jg_c, jg_n, js_c, js_n, jrm_c, jrm_n, j2_i, j2_l, j2_a, jq_c_i, jq_c_l, jq_c_0, jq_c_n, jwd_le, jw_c0, mS_I, mS_R, mS_J, mN_I, mN_R, mN_J, mR_I, mI_R, mJ_I, mJ_R, mI_J, mR_J, ↓reduceIte, decide_true, or_true, true_or, and_self, false_or, or_false, reduceCtorEq, Bool.false_eq_true, and_false, false_and, eq_self, true_and, and_true, zero_ne, q0]
  obtain ⟨v0, e0, g0, f0, n0, k0⟩ := mk_sh (w := w0) (P := fun _ => False) (a := a + 1) (R := 208) (C := 1) (r := 208) (c := 1) (m := 208) rfl rfl rfl (by omega) (by omega) (by omega) (by omega) (by omega) (by omega)
  have t0 : mS v0 a = (1, 4, 0) := by rw [f0.s (by omega)]; exact q0
  obtain ⟨w1, hw1⟩ : ∃ w1, w1 = setR v0 a 0 (some (a + 1)) := ⟨_, rfl⟩
  have F0 : Gw (fun b => b = a) w0 w1 := (f0.mo (fun b _ z => z.elim)).tr (by rw [hw1]; exact (Fr.R (P := fun b => b = a) rfl).gw)
  have q1 : mS w1 a = (1, 4, 0) := by rw [hw1]; exact t0
  have N1 : mN w1 = mN w + 3 := by rw [hw1]; show mN v0 = _; omega
  have K1 : mK w1 = mK w0 + 212 := by rw [hw1]; exact k0
  have G0 : ∀ g, Sg w1 (a + 1) 1 208 0 g := fun g => (g0 g).fr (P := fun b => b = a) (by rw [hw1]; exact Fr.R rfl) (by omega) (by omega)
  have R0 : mR w1 a 0 = some (a + 1) := by rw [hw1]; exact mR_s _ _ _ _
  have RN0 : ∀ j, j ≠ 0 → mR w1 a j = mR w0 a j := fun j hj => by rw [hw1, mR_nk hj, f0.r (by omega) (fun z => z)]
  have I0 : mI w1 a = mI w0 a := by rw [hw1]; exact f0.i (by omega) (fun z => z)
  have E0 : rn 7 (4, [(0, jvr a)], [], w0) = rn 7 (19, [(0, jvr a)], [], w1) := by
    rw [hw1]
    have z1 : mS (newC w0 (1, 5, 0) 4) (a + 1) = (1, 5, 0) := by rw [show a + 1 = 64 + mN w0 by omega]; exact mS_Cs
    have z2 : 64 + mN w0 = a + 1 := by omega
    simp (disch := omega) only [p7_4, p7_5, p7_8i, p7_8a, p7_9, p7_12, p7_13, p7_16, jwd_c, jwd_0, Nat.reduceLeDiff, Nat.reduceEqDiff, Nat.reduceAdd, Nat.reduceSub, Nat.reduceMul, Int.reduceAdd, Int.reduceSub, Int.reduceMul, Int.reduceNeg, Int.reduceEq, Int.reduceLT, Int.reduceLE, jq_ldi_i, jq_ldl_l, jq_lda_a, jq_inc_i, jq_gs_t, jq_gsb_t, jq_gb_t, jq_gr_2, jq_gr_4, jq_gw_2, jq_s_t, jq_b_t, jg_c, jg_n, js_c, js_n, jrm_c, jrm_n, j2_i, j2_l, j2_a, jq_c_i, jq_c_l, jq_c_0, jq_c_n, jwd_le, jw_c0, mS_I, mS_R, mS_J, mN_I, mN_R, mN_J, mR_I, mI_R, mJ_I, mJ_R, mI_J, mR_J, ↓reduceIte, decide_true, or_true, true_or, and_self, false_or, or_false, reduceCtorEq, Bool.false_eq_true, and_false, false_and, eq_self, true_and, and_true, zero_ne, z1, z2, e0, t0]
  obtain ⟨v1, e1, g1, f1, n1, k1⟩ := mk_sh (w := w1) (P := fun _ => False) (a := a + 3) (R := 16) (C := 5) (r := 16) (c := 5) (m := 80) rfl rfl rfl (by omega) (by omega) (by omega) (by omega) (by omega) (by omega)
  have t1 : mS v1 a = (1, 4, 0) := by rw [f1.s (by omega)]; exact q1
  obtain ⟨w2, hw2⟩ : ∃ w2, w2 = setR v1 a 1 (some (a + 3)) := ⟨_, rfl⟩
  have F1 : Gw (fun b => b = a) w1 w2 := (f1.mo (fun b _ z => z.elim)).tr (by rw [hw2]; exact (Fr.R (P := fun b => b = a) rfl).gw)
  have q2 : mS w2 a = (1, 4, 0) := by rw [hw2]; exact t1
  have N2 : mN w2 = mN w + 5 := by rw [hw2]; show mN v1 = _; omega
  have K2 : mK w2 = mK w1 + 84 := by rw [hw2]; exact k1
  have G1 : ∀ g, Sg w2 (a + 3) 5 16 0 g := fun g => (g1 g).fr (P := fun b => b = a) (by rw [hw2]; exact Fr.R rfl) (by omega) (by omega)
  have R1 : mR w2 a 1 = some (a + 3) := by rw [hw2]; exact mR_s _ _ _ _
  have RN1 : ∀ j, j ≠ 1 → mR w2 a j = mR w1 a j := fun j hj => by rw [hw2, mR_nk hj, f1.r (by omega) (fun z => z)]
  have I1 : mI w2 a = mI w1 a := by rw [hw2]; exact f1.i (by omega) (fun z => z)
  have E1 : rn 7 (19, [(0, jvr a)], [], w1) = rn 7 (33, [(0, jvr a)], [], w2) := by
    rw [hw2]
    have z1 : mS (newC w1 (1, 5, 0) 4) (a + 3) = (1, 5, 0) := by rw [show a + 3 = 64 + mN w1 by omega]; exact mS_Cs
    have z2 : 64 + mN w1 = a + 3 := by omega
    simp (disch := omega) only [p7_19, p7_20, p7_23i, p7_23a, p7_24, p7_26, p7_27, p7_30, jwd_c, jwd_0, Nat.reduceLeDiff, Nat.reduceEqDiff, Nat.reduceAdd, Nat.reduceSub, Nat.reduceMul, Int.reduceAdd, Int.reduceSub, Int.reduceMul, Int.reduceNeg, Int.reduceEq, Int.reduceLT, Int.reduceLE, jq_ldi_i, jq_ldl_l, jq_lda_a, jq_inc_i, jq_gs_t, jq_gsb_t, jq_gb_t, jq_gr_2, jq_gr_4, jq_gw_2, jq_s_t, jq_b_t, jg_c, jg_n, js_c, js_n, jrm_c, jrm_n, j2_i, j2_l, j2_a, jq_c_i, jq_c_l, jq_c_0, jq_c_n, jwd_le, jw_c0, mS_I, mS_R, mS_J, mN_I, mN_R, mN_J, mR_I, mI_R, mJ_I, mJ_R, mI_J, mR_J, ↓reduceIte, decide_true, or_true, true_or, and_self, false_or, or_false, reduceCtorEq, Bool.false_eq_true, and_false, false_and, eq_self, true_and, and_true, zero_ne, z1, z2, e1, t1]
  obtain ⟨v2, e2, g2, f2, n2, k2⟩ := mk_sh (w := w2) (P := fun _ => False) (a := a + 5) (R := 4) (C := 1) (r := 4) (c := 1) (m := 4) rfl rfl rfl (by omega) (by omega) (by omega) (by omega) (by omega) (by omega)
  have t2 : mS v2 a = (1, 4, 0) := by rw [f2.s (by omega)]; exact q2
  obtain ⟨w3, hw3⟩ : ∃ w3, w3 = setR v2 a 2 (some (a + 5)) := ⟨_, rfl⟩
  have F2 : Gw (fun b => b = a) w2 w3 := (f2.mo (fun b _ z => z.elim)).tr (by rw [hw3]; exact (Fr.R (P := fun b => b = a) rfl).gw)
  have q3 : mS w3 a = (1, 4, 0) := by rw [hw3]; exact t2
  have N3 : mN w3 = mN w + 7 := by rw [hw3]; show mN v2 = _; omega
  have K3 : mK w3 = mK w2 + 8 := by rw [hw3]; exact k2
  have G2 : ∀ g, Sg w3 (a + 5) 1 4 0 g := fun g => (g2 g).fr (P := fun b => b = a) (by rw [hw3]; exact Fr.R rfl) (by omega) (by omega)
  have R2 : mR w3 a 2 = some (a + 5) := by rw [hw3]; exact mR_s _ _ _ _
  have RN2 : ∀ j, j ≠ 2 → mR w3 a j = mR w2 a j := fun j hj => by rw [hw3, mR_nk hj, f2.r (by omega) (fun z => z)]
  have I2 : mI w3 a = mI w2 a := by rw [hw3]; exact f2.i (by omega) (fun z => z)
  have E2 : rn 7 (33, [(0, jvr a)], [], w2) = rn 7 (46, [(0, jvr a)], [], w3) := by
    rw [hw3]
    have z1 : mS (newC w2 (1, 5, 0) 4) (a + 5) = (1, 5, 0) := by rw [show a + 5 = 64 + mN w2 by omega]; exact mS_Cs
    have z2 : 64 + mN w2 = a + 5 := by omega
    simp (disch := omega) only [p7_33, p7_34, p7_37i, p7_37a, p7_38, p7_39, p7_40, p7_43, jwd_c, jwd_0, Nat.reduceLeDiff, Nat.reduceEqDiff, Nat.reduceAdd, Nat.reduceSub, Nat.reduceMul, Int.reduceAdd, Int.reduceSub, Int.reduceMul, Int.reduceNeg, Int.reduceEq, Int.reduceLT, Int.reduceLE, jq_ldi_i, jq_ldl_l, jq_lda_a, jq_inc_i, jq_gs_t, jq_gsb_t, jq_gb_t, jq_gr_2, jq_gr_4, jq_gw_2, jq_s_t, jq_b_t, jg_c, jg_n, js_c, js_n, jrm_c, jrm_n, j2_i, j2_l, j2_a, jq_c_i, jq_c_l, jq_c_0, jq_c_n, jwd_le, jw_c0, mS_I, mS_R, mS_J, mN_I, mN_R, mN_J, mR_I, mI_R, mJ_I, mJ_R, mI_J, mR_J, ↓reduceIte, decide_true, or_true, true_or, and_self, false_or, or_false, reduceCtorEq, Bool.false_eq_true, and_false, false_and, eq_self, true_and, and_true, zero_ne, z1, z2, e2, t2]
  obtain ⟨u, hu⟩ : ∃ u, u = setI w3 a 10 (-2) := ⟨_, rfl⟩
  have fu : Fr (fun b => b = a) w3 u := by rw [hu]; exact Fr.I rfl
  have Z := ((F0.tr F1).tr F2).tr fu.gw
  have iu : ∀ k, k ≠ 10 → mI u a k = 0 := fun k hk => by rw [hu, mI_nk hk, I2, I1, I0, i0]
  have ru : mR u = mR w3 := by rw [hu]; rfl
  rw [← hw0]
  refine ⟨u, ?_, ⟨by rw [fu.q]; exact q3, ?_, ?_, ?_, ?_, ?_, ?_, iu 3 (by omega), iu 4 (by omega), iu 5 (by omega), iu 6 (by omega), iu 7 (by omega), iu 8 (by omega), iu 9 (by omega), by rw [hu]; exact mI_s _ _ _ _⟩, (B0.tr Z).mo (fun b hb z => absurd z (by omega)), by rw [fu.2.1]; omega, by rw [fu.2.2.1]; omega⟩
  · rw [e0', E0, E1, E2, hu]
    simp only [p7_46, p7_47, p7_49, p7_52, jwd_c, jwd_0, Nat.reduceLeDiff, Nat.reduceEqDiff, Nat.reduceAdd, Nat.reduceSub, Nat.reduceMul, Int.reduceAdd, Int.reduceSub, Int.reduceMul, Int.reduceNeg, Int.reduceEq, Int.reduceLT, Int.reduceLE, jq_ldi_i, jq_ldl_l, jq_lda_a, jq_inc_i, jq_gs_t, jq_gsb_t, jq_gb_t, jq_gr_2, jq_gr_4, jq_gw_2, jq_s_t, jq_b_t, jg_c, jg_n, js_c, js_n, jrm_c, jrm_n, j2_i, j2_l, j2_a, jq_c_i, jq_c_l, jq_c_0, jq_c_n, jwd_le, jw_c0, mS_I, mS_R, mS_J, mN_I, mN_R, mN_J, mR_I, mI_R, mJ_I, mJ_R, mI_J, mR_J, ↓reduceIte, decide_true, or_true, true_or, and_self, false_or, or_false, reduceCtorEq, Bool.false_eq_true, and_false, false_and, eq_self, true_and, and_true, zero_ne, q3]
  · rw [ru, RN2 0 (by omega), RN1 0 (by omega)]
    exact R0
  · rw [ru, RN2 1 (by omega)]
    exact R1
  · rw [ru]
    exact R2
  · exact (((G0 _).gw F1 (by omega) (by omega) (by omega)).gw F2 (by omega) (by omega) (by omega)).fr fu (by omega) (by omega)
  · exact ((G1 _).gw F2 (by omega) (by omega) (by omega)).fr fu (by omega) (by omega)
  · exact (G2 _).fr fu (by omega) (by omega)
theorem mk_hall (ha : a = 64 + mN w) : ∃ u, rn 2 (0, [(0, jvr a)], [], newC w (1, 1, 0) 18) = some (none, u) ∧ HSx u a ∧ Gw P w u ∧ mN u = mN w + 17 ∧ mK u = mK w + 430 := by
  obtain ⟨w0, hw0⟩ : ∃ w0, w0 = newC w (1, 1, 0) 18 := ⟨_, rfl⟩
  have q0 : mS w0 a = (1, 1, 0) := by rw [hw0, ha]; exact mS_Cs
  have N0 : mN w0 = mN w + 1 := by rw [hw0]; rfl
  have K0 : mK w0 = mK w + 18 := by rw [hw0]; rfl
  have B0 : Gw (fun b => b = a) w w0 := by rw [hw0]; exact Gw.C
  have e0' : rn 2 (0, [(0, jvr a)], [], w0) = rn 2 (4, [(0, jvr a)], [], w0) := by
    simp only [p2_0, p2_1, jwd_c, jwd_0, Nat.reduceLeDiff, Nat.reduceEqDiff, Nat.reduceAdd, Nat.reduceSub, Nat.reduceMul, Int.reduceAdd, Int.reduceSub, Int.reduceMul, Int.reduceNeg, Int.reduceEq, Int.reduceLT, Int.reduceLE, jq_ldi_i, jq_ldl_l, jq_lda_a, jq_inc_i, jq_gs_t, jq_gsb_t, jq_gb_t, jq_gr_2, jq_gr_4, jq_gw_2, jq_s_t, jq_b_t, jg_c, jg_n, js_c, js_n, jrm_c, jrm_n, j2_i, j2_l, j2_a, jq_c_i, jq_c_l, jq_c_0, jq_c_n, jwd_le, jw_c0, mS_I, mS_R, mS_J, mN_I, mN_R, mN_J, mR_I, mI_R, mJ_I, mJ_R, mI_J, mR_J, ↓reduceIte, decide_true, or_true, true_or, and_self, false_or, or_false, reduceCtorEq, Bool.false_eq_true, and_false, false_and, eq_self, true_and, and_true, zero_ne, q0]
  obtain ⟨v0, e0, g0, f0, n0, k0⟩ := mk_sh (w := w0) (P := fun _ => False) (a := a + 1) (R := 48) (C := 1) (r := 48) (c := 1) (m := 48) rfl rfl rfl (by omega) (by omega) (by omega) (by omega) (by omega) (by omega)
  have t0 : mS v0 a = (1, 1, 0) := by rw [f0.s (by omega)]; exact q0
  obtain ⟨w1, hw1⟩ : ∃ w1, w1 = setR v0 a 0 (some (a + 1)) := ⟨_, rfl⟩
  have F0 : Gw (fun b => b = a) w0 w1 := (f0.mo (fun b _ z => z.elim)).tr (by rw [hw1]; exact (Fr.R (P := fun b => b = a) rfl).gw)
  have q1 : mS w1 a = (1, 1, 0) := by rw [hw1]; exact t0
  have N1 : mN w1 = mN w + 3 := by rw [hw1]; show mN v0 = _; omega
  have K1 : mK w1 = mK w0 + 52 := by rw [hw1]; exact k0
  have G0 : ∀ g, Sg w1 (a + 1) 1 48 0 g := fun g => (g0 g).fr (P := fun b => b = a) (by rw [hw1]; exact Fr.R rfl) (by omega) (by omega)
  have R0 : mR w1 a 0 = some (a + 1) := by rw [hw1]; exact mR_s _ _ _ _
  have RN0 : ∀ j, j ≠ 0 → mR w1 a j = mR w0 a j := fun j hj => by rw [hw1, mR_nk hj, f0.r (by omega) (fun z => z)]
  have I0 : mI w1 a = mI w0 a := by rw [hw1]; exact f0.i (by omega) (fun z => z)
  have E0 : rn 2 (4, [(0, jvr a)], [], w0) = rn 2 (18, [(0, jvr a)], [], w1) := by
    rw [hw1]
    have z1 : mS (newC w0 (1, 5, 0) 4) (a + 1) = (1, 5, 0) := by rw [show a + 1 = 64 + mN w0 by omega]; exact mS_Cs
    have z2 : 64 + mN w0 = a + 1 := by omega
    simp (disch := omega) only [p2_4, p2_5, p2_8i, p2_8a, p2_9, p2_11, p2_12, p2_15, jwd_c, jwd_0, Nat.reduceLeDiff, Nat.reduceEqDiff, Nat.reduceAdd, Nat.reduceSub, Nat.reduceMul, Int.reduceAdd, Int.reduceSub, Int.reduceMul, Int.reduceNeg, Int.reduceEq, Int.reduceLT, Int.reduceLE, jq_ldi_i, jq_ldl_l, jq_lda_a, jq_inc_i, jq_gs_t, jq_gsb_t, jq_gb_t, jq_gr_2, jq_gr_4, jq_gw_2, jq_s_t, jq_b_t, jg_c, jg_n, js_c, js_n, jrm_c, jrm_n, j2_i, j2_l, j2_a, jq_c_i, jq_c_l, jq_c_0, jq_c_n, jwd_le, jw_c0, mS_I, mS_R, mS_J, mN_I, mN_R, mN_J, mR_I, mI_R, mJ_I, mJ_R, mI_J, mR_J, ↓reduceIte, decide_true, or_true, true_or, and_self, false_or, or_false, reduceCtorEq, Bool.false_eq_true, and_false, false_and, eq_self, true_and, and_true, zero_ne, z1, z2, e0, t0]
  obtain ⟨v1, e1, g1, f1, n1, k1⟩ := mk_sh (w := w1) (P := fun _ => False) (a := a + 3) (R := 8) (C := 1) (r := 8) (c := 1) (m := 8) rfl rfl rfl (by omega) (by omega) (by omega) (by omega) (by omega) (by omega)
  have t1 : mS v1 a = (1, 1, 0) := by rw [f1.s (by omega)]; exact q1
  obtain ⟨w2, hw2⟩ : ∃ w2, w2 = setR v1 a 1 (some (a + 3)) := ⟨_, rfl⟩
  have F1 : Gw (fun b => b = a) w1 w2 := (f1.mo (fun b _ z => z.elim)).tr (by rw [hw2]; exact (Fr.R (P := fun b => b = a) rfl).gw)
  have q2 : mS w2 a = (1, 1, 0) := by rw [hw2]; exact t1
  have N2 : mN w2 = mN w + 5 := by rw [hw2]; show mN v1 = _; omega
  have K2 : mK w2 = mK w1 + 12 := by rw [hw2]; exact k1
  have G1 : ∀ g, Sg w2 (a + 3) 1 8 0 g := fun g => (g1 g).fr (P := fun b => b = a) (by rw [hw2]; exact Fr.R rfl) (by omega) (by omega)
  have R1 : mR w2 a 1 = some (a + 3) := by rw [hw2]; exact mR_s _ _ _ _
  have RN1 : ∀ j, j ≠ 1 → mR w2 a j = mR w1 a j := fun j hj => by rw [hw2, mR_nk hj, f1.r (by omega) (fun z => z)]
  have I1 : mI w2 a = mI w1 a := by rw [hw2]; exact f1.i (by omega) (fun z => z)
  have E1 : rn 2 (18, [(0, jvr a)], [], w1) = rn 2 (32, [(0, jvr a)], [], w2) := by
    rw [hw2]
    have z1 : mS (newC w1 (1, 5, 0) 4) (a + 3) = (1, 5, 0) := by rw [show a + 3 = 64 + mN w1 by omega]; exact mS_Cs
    have z2 : 64 + mN w1 = a + 3 := by omega
    simp (disch := omega) only [p2_18, p2_19, p2_22i, p2_22a, p2_23, p2_25, p2_26, p2_29, jwd_c, jwd_0, Nat.reduceLeDiff, Nat.reduceEqDiff, Nat.reduceAdd, Nat.reduceSub, Nat.reduceMul, Int.reduceAdd, Int.reduceSub, Int.reduceMul, Int.reduceNeg, Int.reduceEq, Int.reduceLT, Int.reduceLE, jq_ldi_i, jq_ldl_l, jq_lda_a, jq_inc_i, jq_gs_t, jq_gsb_t, jq_gb_t, jq_gr_2, jq_gr_4, jq_gw_2, jq_s_t, jq_b_t, jg_c, jg_n, js_c, js_n, jrm_c, jrm_n, j2_i, j2_l, j2_a, jq_c_i, jq_c_l, jq_c_0, jq_c_n, jwd_le, jw_c0, mS_I, mS_R, mS_J, mN_I, mN_R, mN_J, mR_I, mI_R, mJ_I, mJ_R, mI_J, mR_J, ↓reduceIte, decide_true, or_true, true_or, and_self, false_or, or_false, reduceCtorEq, Bool.false_eq_true, and_false, false_and, eq_self, true_and, and_true, zero_ne, z1, z2, e1, t1]
  obtain ⟨v2, e2, g2, f2, n2, k2⟩ := mk_sh (w := w2) (P := fun _ => False) (a := a + 5) (R := 12) (C := 1) (r := 12) (c := 1) (m := 12) rfl rfl rfl (by omega) (by omega) (by omega) (by omega) (by omega) (by omega)
  have t2 : mS v2 a = (1, 1, 0) := by rw [f2.s (by omega)]; exact q2
  obtain ⟨w3, hw3⟩ : ∃ w3, w3 = setR v2 a 2 (some (a + 5)) := ⟨_, rfl⟩
  have F2 : Gw (fun b => b = a) w2 w3 := (f2.mo (fun b _ z => z.elim)).tr (by rw [hw3]; exact (Fr.R (P := fun b => b = a) rfl).gw)
  have q3 : mS w3 a = (1, 1, 0) := by rw [hw3]; exact t2
  have N3 : mN w3 = mN w + 7 := by rw [hw3]; show mN v2 = _; omega
  have K3 : mK w3 = mK w2 + 16 := by rw [hw3]; exact k2
  have G2 : ∀ g, Sg w3 (a + 5) 1 12 0 g := fun g => (g2 g).fr (P := fun b => b = a) (by rw [hw3]; exact Fr.R rfl) (by omega) (by omega)
  have R2 : mR w3 a 2 = some (a + 5) := by rw [hw3]; exact mR_s _ _ _ _
  have RN2 : ∀ j, j ≠ 2 → mR w3 a j = mR w2 a j := fun j hj => by rw [hw3, mR_nk hj, f2.r (by omega) (fun z => z)]
  have I2 : mI w3 a = mI w2 a := by rw [hw3]; exact f2.i (by omega) (fun z => z)
  have E2 : rn 2 (32, [(0, jvr a)], [], w2) = rn 2 (46, [(0, jvr a)], [], w3) := by
    rw [hw3]
    have z1 : mS (newC w2 (1, 5, 0) 4) (a + 5) = (1, 5, 0) := by rw [show a + 5 = 64 + mN w2 by omega]; exact mS_Cs
    have z2 : 64 + mN w2 = a + 5 := by omega
    simp (disch := omega) only [p2_32, p2_33, p2_36i, p2_36a, p2_37, p2_39, p2_40, p2_43, jwd_c, jwd_0, Nat.reduceLeDiff, Nat.reduceEqDiff, Nat.reduceAdd, Nat.reduceSub, Nat.reduceMul, Int.reduceAdd, Int.reduceSub, Int.reduceMul, Int.reduceNeg, Int.reduceEq, Int.reduceLT, Int.reduceLE, jq_ldi_i, jq_ldl_l, jq_lda_a, jq_inc_i, jq_gs_t, jq_gsb_t, jq_gb_t, jq_gr_2, jq_gr_4, jq_gw_2, jq_s_t, jq_b_t, jg_c, jg_n, js_c, js_n, jrm_c, jrm_n, j2_i, j2_l, j2_a, jq_c_i, jq_c_l, jq_c_0, jq_c_n, jwd_le, jw_c0, mS_I, mS_R, mS_J, mN_I, mN_R, mN_J, mR_I, mI_R, mJ_I, mJ_R, mI_J, mR_J, ↓reduceIte, decide_true, or_true, true_or, and_self, false_or, or_false, reduceCtorEq, Bool.false_eq_true, and_false, false_and, eq_self, true_and, and_true, zero_ne, z1, z2, e2, t2]
  obtain ⟨v3, e3, g3, f3, n3, k3⟩ := mk_sh (w := w3) (P := fun _ => False) (a := a + 7) (R := 4) (C := 6) (r := 4) (c := 6) (m := 24) rfl rfl rfl (by omega) (by omega) (by omega) (by omega) (by omega) (by omega)
  have t3 : mS v3 a = (1, 1, 0) := by rw [f3.s (by omega)]; exact q3
  obtain ⟨w4, hw4⟩ : ∃ w4, w4 = setR v3 a 3 (some (a + 7)) := ⟨_, rfl⟩
  have F3 : Gw (fun b => b = a) w3 w4 := (f3.mo (fun b _ z => z.elim)).tr (by rw [hw4]; exact (Fr.R (P := fun b => b = a) rfl).gw)
  have q4 : mS w4 a = (1, 1, 0) := by rw [hw4]; exact t3
  have N4 : mN w4 = mN w + 9 := by rw [hw4]; show mN v3 = _; omega
  have K4 : mK w4 = mK w3 + 28 := by rw [hw4]; exact k3
  have G3 : ∀ g, Sg w4 (a + 7) 6 4 0 g := fun g => (g3 g).fr (P := fun b => b = a) (by rw [hw4]; exact Fr.R rfl) (by omega) (by omega)
  have R3 : mR w4 a 3 = some (a + 7) := by rw [hw4]; exact mR_s _ _ _ _
  have RN3 : ∀ j, j ≠ 3 → mR w4 a j = mR w3 a j := fun j hj => by rw [hw4, mR_nk hj, f3.r (by omega) (fun z => z)]
  have I3 : mI w4 a = mI w3 a := by rw [hw4]; exact f3.i (by omega) (fun z => z)
  have E3 : rn 2 (46, [(0, jvr a)], [], w3) = rn 2 (60, [(0, jvr a)], [], w4) := by
    rw [hw4]
    have z1 : mS (newC w3 (1, 5, 0) 4) (a + 7) = (1, 5, 0) := by rw [show a + 7 = 64 + mN w3 by omega]; exact mS_Cs
    have z2 : 64 + mN w3 = a + 7 := by omega
    simp (disch := omega) only [p2_46, p2_47, p2_50i, p2_50a, p2_51, p2_52, p2_54, p2_57, jwd_c, jwd_0, Nat.reduceLeDiff, Nat.reduceEqDiff, Nat.reduceAdd, Nat.reduceSub, Nat.reduceMul, Int.reduceAdd, Int.reduceSub, Int.reduceMul, Int.reduceNeg, Int.reduceEq, Int.reduceLT, Int.reduceLE, jq_ldi_i, jq_ldl_l, jq_lda_a, jq_inc_i, jq_gs_t, jq_gsb_t, jq_gb_t, jq_gr_2, jq_gr_4, jq_gw_2, jq_s_t, jq_b_t, jg_c, jg_n, js_c, js_n, jrm_c, jrm_n, j2_i, j2_l, j2_a, jq_c_i, jq_c_l, jq_c_0, jq_c_n, jwd_le, jw_c0, mS_I, mS_R, mS_J, mN_I, mN_R, mN_J, mR_I, mI_R, mJ_I, mJ_R, mI_J, mR_J, ↓reduceIte, decide_true, or_true, true_or, and_self, false_or, or_false, reduceCtorEq, Bool.false_eq_true, and_false, false_and, eq_self, true_and, and_true, zero_ne, z1, z2, e3, t3]
  obtain ⟨v4, e4, g4, f4, n4, k4⟩ := mk_sh (w := w4) (P := fun _ => False) (a := a + 9) (R := 8) (C := 3) (r := 8) (c := 3) (m := 24) rfl rfl rfl (by omega) (by omega) (by omega) (by omega) (by omega) (by omega)
  have t4 : mS v4 a = (1, 1, 0) := by rw [f4.s (by omega)]; exact q4
  obtain ⟨w5, hw5⟩ : ∃ w5, w5 = setR v4 a 4 (some (a + 9)) := ⟨_, rfl⟩
  have F4 : Gw (fun b => b = a) w4 w5 := (f4.mo (fun b _ z => z.elim)).tr (by rw [hw5]; exact (Fr.R (P := fun b => b = a) rfl).gw)
  have q5 : mS w5 a = (1, 1, 0) := by rw [hw5]; exact t4
  have N5 : mN w5 = mN w + 11 := by rw [hw5]; show mN v4 = _; omega
  have K5 : mK w5 = mK w4 + 28 := by rw [hw5]; exact k4
  have G4 : ∀ g, Sg w5 (a + 9) 3 8 0 g := fun g => (g4 g).fr (P := fun b => b = a) (by rw [hw5]; exact Fr.R rfl) (by omega) (by omega)
  have R4 : mR w5 a 4 = some (a + 9) := by rw [hw5]; exact mR_s _ _ _ _
  have RN4 : ∀ j, j ≠ 4 → mR w5 a j = mR w4 a j := fun j hj => by rw [hw5, mR_nk hj, f4.r (by omega) (fun z => z)]
  have I4 : mI w5 a = mI w4 a := by rw [hw5]; exact f4.i (by omega) (fun z => z)
  have E4 : rn 2 (60, [(0, jvr a)], [], w4) = rn 2 (74, [(0, jvr a)], [], w5) := by
    rw [hw5]
    have z1 : mS (newC w4 (1, 5, 0) 4) (a + 9) = (1, 5, 0) := by rw [show a + 9 = 64 + mN w4 by omega]; exact mS_Cs
    have z2 : 64 + mN w4 = a + 9 := by omega
    simp (disch := omega) only [p2_60, p2_61, p2_64i, p2_64a, p2_65, p2_67, p2_68, p2_71, jwd_c, jwd_0, Nat.reduceLeDiff, Nat.reduceEqDiff, Nat.reduceAdd, Nat.reduceSub, Nat.reduceMul, Int.reduceAdd, Int.reduceSub, Int.reduceMul, Int.reduceNeg, Int.reduceEq, Int.reduceLT, Int.reduceLE, jq_ldi_i, jq_ldl_l, jq_lda_a, jq_inc_i, jq_gs_t, jq_gsb_t, jq_gb_t, jq_gr_2, jq_gr_4, jq_gw_2, jq_s_t, jq_b_t, jg_c, jg_n, js_c, js_n, jrm_c, jrm_n, j2_i, j2_l, j2_a, jq_c_i, jq_c_l, jq_c_0, jq_c_n, jwd_le, jw_c0, mS_I, mS_R, mS_J, mN_I, mN_R, mN_J, mR_I, mI_R, mJ_I, mJ_R, mI_J, mR_J, ↓reduceIte, decide_true, or_true, true_or, and_self, false_or, or_false, reduceCtorEq, Bool.false_eq_true, and_false, false_and, eq_self, true_and, and_true, zero_ne, z1, z2, e4, t4]
  obtain ⟨v5, e5, g5, f5, n5, k5⟩ := mk_sh (w := w5) (P := fun _ => False) (a := a + 11) (R := 8) (C := 3) (r := 8) (c := 3) (m := 24) rfl rfl rfl (by omega) (by omega) (by omega) (by omega) (by omega) (by omega)
  have t5 : mS v5 a = (1, 1, 0) := by rw [f5.s (by omega)]; exact q5
  obtain ⟨w6, hw6⟩ : ∃ w6, w6 = setR v5 a 5 (some (a + 11)) := ⟨_, rfl⟩
  have F5 : Gw (fun b => b = a) w5 w6 := (f5.mo (fun b _ z => z.elim)).tr (by rw [hw6]; exact (Fr.R (P := fun b => b = a) rfl).gw)
  have q6 : mS w6 a = (1, 1, 0) := by rw [hw6]; exact t5
  have N6 : mN w6 = mN w + 13 := by rw [hw6]; show mN v5 = _; omega
  have K6 : mK w6 = mK w5 + 28 := by rw [hw6]; exact k5
  have G5 : ∀ g, Sg w6 (a + 11) 3 8 0 g := fun g => (g5 g).fr (P := fun b => b = a) (by rw [hw6]; exact Fr.R rfl) (by omega) (by omega)
  have R5 : mR w6 a 5 = some (a + 11) := by rw [hw6]; exact mR_s _ _ _ _
  have RN5 : ∀ j, j ≠ 5 → mR w6 a j = mR w5 a j := fun j hj => by rw [hw6, mR_nk hj, f5.r (by omega) (fun z => z)]
  have I5 : mI w6 a = mI w5 a := by rw [hw6]; exact f5.i (by omega) (fun z => z)
  have E5 : rn 2 (74, [(0, jvr a)], [], w5) = rn 2 (88, [(0, jvr a)], [], w6) := by
    rw [hw6]
    have z1 : mS (newC w5 (1, 5, 0) 4) (a + 11) = (1, 5, 0) := by rw [show a + 11 = 64 + mN w5 by omega]; exact mS_Cs
    have z2 : 64 + mN w5 = a + 11 := by omega
    simp (disch := omega) only [p2_74, p2_75, p2_78i, p2_78a, p2_79, p2_81, p2_82, p2_85, jwd_c, jwd_0, Nat.reduceLeDiff, Nat.reduceEqDiff, Nat.reduceAdd, Nat.reduceSub, Nat.reduceMul, Int.reduceAdd, Int.reduceSub, Int.reduceMul, Int.reduceNeg, Int.reduceEq, Int.reduceLT, Int.reduceLE, jq_ldi_i, jq_ldl_l, jq_lda_a, jq_inc_i, jq_gs_t, jq_gsb_t, jq_gb_t, jq_gr_2, jq_gr_4, jq_gw_2, jq_s_t, jq_b_t, jg_c, jg_n, js_c, js_n, jrm_c, jrm_n, j2_i, j2_l, j2_a, jq_c_i, jq_c_l, jq_c_0, jq_c_n, jwd_le, jw_c0, mS_I, mS_R, mS_J, mN_I, mN_R, mN_J, mR_I, mI_R, mJ_I, mJ_R, mI_J, mR_J, ↓reduceIte, decide_true, or_true, true_or, and_self, false_or, or_false, reduceCtorEq, Bool.false_eq_true, and_false, false_and, eq_self, true_and, and_true, zero_ne, z1, z2, e5, t5]
  obtain ⟨v6, e6, g6, f6, n6, k6⟩ := mk_sh (w := w6) (P := fun _ => False) (a := a + 13) (R := 48) (C := 4) (r := 48) (c := 4) (m := 192) rfl rfl rfl (by omega) (by omega) (by omega) (by omega) (by omega) (by omega)
  have t6 : mS v6 a = (1, 1, 0) := by rw [f6.s (by omega)]; exact q6
  obtain ⟨w7, hw7⟩ : ∃ w7, w7 = setR v6 a 6 (some (a + 13)) := ⟨_, rfl⟩
  have F6 : Gw (fun b => b = a) w6 w7 := (f6.mo (fun b _ z => z.elim)).tr (by rw [hw7]; exact (Fr.R (P := fun b => b = a) rfl).gw)
  have q7 : mS w7 a = (1, 1, 0) := by rw [hw7]; exact t6
  have N7 : mN w7 = mN w + 15 := by rw [hw7]; show mN v6 = _; omega
  have K7 : mK w7 = mK w6 + 196 := by rw [hw7]; exact k6
  have G6 : ∀ g, Sg w7 (a + 13) 4 48 0 g := fun g => (g6 g).fr (P := fun b => b = a) (by rw [hw7]; exact Fr.R rfl) (by omega) (by omega)
  have R6 : mR w7 a 6 = some (a + 13) := by rw [hw7]; exact mR_s _ _ _ _
  have RN6 : ∀ j, j ≠ 6 → mR w7 a j = mR w6 a j := fun j hj => by rw [hw7, mR_nk hj, f6.r (by omega) (fun z => z)]
  have I6 : mI w7 a = mI w6 a := by rw [hw7]; exact f6.i (by omega) (fun z => z)
  have E6 : rn 2 (88, [(0, jvr a)], [], w6) = rn 2 (102, [(0, jvr a)], [], w7) := by
    rw [hw7]
    have z1 : mS (newC w6 (1, 5, 0) 4) (a + 13) = (1, 5, 0) := by rw [show a + 13 = 64 + mN w6 by omega]; exact mS_Cs
    have z2 : 64 + mN w6 = a + 13 := by omega
    simp (disch := omega) only [p2_88, p2_89, p2_92i, p2_92a, p2_93, p2_95, p2_96, p2_99, jwd_c, jwd_0, Nat.reduceLeDiff, Nat.reduceEqDiff, Nat.reduceAdd, Nat.reduceSub, Nat.reduceMul, Int.reduceAdd, Int.reduceSub, Int.reduceMul, Int.reduceNeg, Int.reduceEq, Int.reduceLT, Int.reduceLE, jq_ldi_i, jq_ldl_l, jq_lda_a, jq_inc_i, jq_gs_t, jq_gsb_t, jq_gb_t, jq_gr_2, jq_gr_4, jq_gw_2, jq_s_t, jq_b_t, jg_c, jg_n, js_c, js_n, jrm_c, jrm_n, j2_i, j2_l, j2_a, jq_c_i, jq_c_l, jq_c_0, jq_c_n, jwd_le, jw_c0, mS_I, mS_R, mS_J, mN_I, mN_R, mN_J, mR_I, mI_R, mJ_I, mJ_R, mI_J, mR_J, ↓reduceIte, decide_true, or_true, true_or, and_self, false_or, or_false, reduceCtorEq, Bool.false_eq_true, and_false, false_and, eq_self, true_and, and_true, zero_ne, z1, z2, e6, t6]
  obtain ⟨v7, e7, g7, f7, n7, k7⟩ := mk_sh (w := w7) (P := fun _ => False) (a := a + 15) (R := 48) (C := 1) (r := 48) (c := 1) (m := 48) rfl rfl rfl (by omega) (by omega) (by omega) (by omega) (by omega) (by omega)
  have t7 : mS v7 a = (1, 1, 0) := by rw [f7.s (by omega)]; exact q7
  obtain ⟨w8, hw8⟩ : ∃ w8, w8 = setR v7 a 7 (some (a + 15)) := ⟨_, rfl⟩
  have F7 : Gw (fun b => b = a) w7 w8 := (f7.mo (fun b _ z => z.elim)).tr (by rw [hw8]; exact (Fr.R (P := fun b => b = a) rfl).gw)
  have q8 : mS w8 a = (1, 1, 0) := by rw [hw8]; exact t7
  have N8 : mN w8 = mN w + 17 := by rw [hw8]; show mN v7 = _; omega
  have K8 : mK w8 = mK w7 + 52 := by rw [hw8]; exact k7
  have G7 : ∀ g, Sg w8 (a + 15) 1 48 0 g := fun g => (g7 g).fr (P := fun b => b = a) (by rw [hw8]; exact Fr.R rfl) (by omega) (by omega)
  have R7 : mR w8 a 7 = some (a + 15) := by rw [hw8]; exact mR_s _ _ _ _
  have RN7 : ∀ j, j ≠ 7 → mR w8 a j = mR w7 a j := fun j hj => by rw [hw8, mR_nk hj, f7.r (by omega) (fun z => z)]
  have I7 : mI w8 a = mI w7 a := by rw [hw8]; exact f7.i (by omega) (fun z => z)
  have E7 : rn 2 (102, [(0, jvr a)], [], w7) = rn 2 (116, [(0, jvr a)], [], w8) := by
    rw [hw8]
    have z1 : mS (newC w7 (1, 5, 0) 4) (a + 15) = (1, 5, 0) := by rw [show a + 15 = 64 + mN w7 by omega]; exact mS_Cs
    have z2 : 64 + mN w7 = a + 15 := by omega
    simp (disch := omega) only [p2_102, p2_103, p2_106i, p2_106a, p2_107, p2_109, p2_110, p2_113, jwd_c, jwd_0, Nat.reduceLeDiff, Nat.reduceEqDiff, Nat.reduceAdd, Nat.reduceSub, Nat.reduceMul, Int.reduceAdd, Int.reduceSub, Int.reduceMul, Int.reduceNeg, Int.reduceEq, Int.reduceLT, Int.reduceLE, jq_ldi_i, jq_ldl_l, jq_lda_a, jq_inc_i, jq_gs_t, jq_gsb_t, jq_gb_t, jq_gr_2, jq_gr_4, jq_gw_2, jq_s_t, jq_b_t, jg_c, jg_n, js_c, js_n, jrm_c, jrm_n, j2_i, j2_l, j2_a, jq_c_i, jq_c_l, jq_c_0, jq_c_n, jwd_le, jw_c0, mS_I, mS_R, mS_J, mN_I, mN_R, mN_J, mR_I, mI_R, mJ_I, mJ_R, mI_J, mR_J, ↓reduceIte, decide_true, or_true, true_or, and_self, false_or, or_false, reduceCtorEq, Bool.false_eq_true, and_false, false_and, eq_self, true_and, and_true, zero_ne, z1, z2, e7, t7]
  have S8 : Gw (fun b => b = a) w8 w8 := Gw.rf
  have S7 : Gw (fun b => b = a) w7 w8 := F7.tr S8
  have S6 : Gw (fun b => b = a) w6 w8 := F6.tr S7
  have S5 : Gw (fun b => b = a) w5 w8 := F5.tr S6
  have S4 : Gw (fun b => b = a) w4 w8 := F4.tr S5
  have S3 : Gw (fun b => b = a) w3 w8 := F3.tr S4
  have S2 : Gw (fun b => b = a) w2 w8 := F2.tr S3
  have S1 : Gw (fun b => b = a) w1 w8 := F1.tr S2
  have S0 : Gw (fun b => b = a) w0 w8 := F0.tr S1
  have r0 : mR w8 a 0 = some (a + 1) := by rw [RN7 0 (by omega), RN6 0 (by omega), RN5 0 (by omega), RN4 0 (by omega), RN3 0 (by omega), RN2 0 (by omega), RN1 0 (by omega), R0]
  have r1 : mR w8 a 1 = some (a + 3) := by rw [RN7 1 (by omega), RN6 1 (by omega), RN5 1 (by omega), RN4 1 (by omega), RN3 1 (by omega), RN2 1 (by omega), R1]
  have r2 : mR w8 a 2 = some (a + 5) := by rw [RN7 2 (by omega), RN6 2 (by omega), RN5 2 (by omega), RN4 2 (by omega), RN3 2 (by omega), R2]
  have r3 : mR w8 a 3 = some (a + 7) := by rw [RN7 3 (by omega), RN6 3 (by omega), RN5 3 (by omega), RN4 3 (by omega), R3]
  have r4 : mR w8 a 4 = some (a + 9) := by rw [RN7 4 (by omega), RN6 4 (by omega), RN5 4 (by omega), R4]
  have r5 : mR w8 a 5 = some (a + 11) := by rw [RN7 5 (by omega), RN6 5 (by omega), R5]
  have r6 : mR w8 a 6 = some (a + 13) := by rw [RN7 6 (by omega), R6]
  have r7 : mR w8 a 7 = some (a + 15) := by rw [R7]
  have h0 : ∃ n q, Sg w8 (a + 1) 1 48 n q := ⟨0, fun _ _ => 0, (G0 _).gw S1 (by omega) (by omega) (by omega)⟩
  have h1 : ∃ n q, Sg w8 (a + 3) 1 8 n q := ⟨0, fun _ _ => 0, (G1 _).gw S2 (by omega) (by omega) (by omega)⟩
  have h2 : ∃ n q, Sg w8 (a + 5) 1 12 n q := ⟨0, fun _ _ => 0, (G2 _).gw S3 (by omega) (by omega) (by omega)⟩
  have h3 : ∃ n q, Sg w8 (a + 7) 6 4 n q := ⟨0, fun _ _ => 0, (G3 _).gw S4 (by omega) (by omega) (by omega)⟩
  have h4 : ∃ n q, Sg w8 (a + 9) 3 8 n q := ⟨0, fun _ _ => 0, (G4 _).gw S5 (by omega) (by omega) (by omega)⟩
  have h5 : ∃ n q, Sg w8 (a + 11) 3 8 n q := ⟨0, fun _ _ => 0, (G5 _).gw S6 (by omega) (by omega) (by omega)⟩
  have h6 : ∃ n q, Sg w8 (a + 13) 4 48 n q := ⟨0, fun _ _ => 0, (G6 _).gw S7 (by omega) (by omega) (by omega)⟩
  have h7 : ∃ n q, Sg w8 (a + 15) 1 48 n q := ⟨0, fun _ _ => 0, (G7 _).gw S8 (by omega) (by omega) (by omega)⟩
  have H8 : HSx w8 a := ⟨q8, r0, r1, r2, r3, r4, r5, r6, r7, h0, h1, h2, h3, h4, h5, h6, h7⟩
  obtain ⟨u, eu, hu, fu, -⟩ := h_clear H8
  rw [← hw0]
  refine ⟨u, ?_, hu, (((B0.tr S0).mo (Q := fun b => a ≤ b) (fun b _ z => by omega)).tr (fu.gw.mo (fun b _ z => z.1))).mo (fun b hb z => absurd hb (by omega)), by rw [fu.2.1]; omega, by rw [fu.2.2.1]; omega⟩
  rw [e0', E0, E1, E2, E3, E4, E5, E6, E7]
  simp only [p2_116, p2_117, p2_120, jwd_c, jwd_0, Nat.reduceLeDiff, Nat.reduceEqDiff, Nat.reduceAdd, Nat.reduceSub, Nat.reduceMul, Int.reduceAdd, Int.reduceSub, Int.reduceMul, Int.reduceNeg, Int.reduceEq, Int.reduceLT, Int.reduceLE, jq_ldi_i, jq_ldl_l, jq_lda_a, jq_inc_i, jq_gs_t, jq_gsb_t, jq_gb_t, jq_gr_2, jq_gr_4, jq_gw_2, jq_s_t, jq_b_t, jg_c, jg_n, js_c, js_n, jrm_c, jrm_n, j2_i, j2_l, j2_a, jq_c_i, jq_c_l, jq_c_0, jq_c_n, jwd_le, jw_c0, mS_I, mS_R, mS_J, mN_I, mN_R, mN_J, mR_I, mI_R, mJ_I, mJ_R, mI_J, mR_J, ↓reduceIte, decide_true, or_true, true_or, and_self, false_or, or_false, reduceCtorEq, Bool.false_eq_true, and_false, false_and, eq_self, true_and, and_true, zero_ne, q8, eu]
theorem mk_future {hl : Nat} (ha : a = 64 + mN w) : ∃ u, rn 8 (0, [(0, jvr a), (1, jvr hl)], [], newC w (1, 0, 0) 15) = some (none, u) ∧ (mS u a = (1, 0, 0) ∧ mR u a 0 = some hl ∧ mR u a 1 = some (a + 1) ∧ mR u a 2 = some (a + 8) ∧ mR u a 3 = some (a + 10) ∧ mR u a 4 = some (a + 12) ∧ mR u a 5 = some (a + 14) ∧ mR u a 6 = some (a + 16) ∧ CR u (a + 1) 0 0 rZ ∧ (∃ n q, Sg u (a + 8) 1 44 n q) ∧ (∃ n q, Sg u (a + 10) 1 44 n q) ∧ (∃ n q, Sg u (a + 12) 1 12 n q) ∧ (∃ n q, Sg u (a + 14) 1 48 n q) ∧ (∃ n q, Sg u (a + 16) 1 4 n q)) ∧ Gw P w u ∧ mN u = mN w + 18 ∧ mK u = mK w + 502 := by
  obtain ⟨w0, hw0⟩ : ∃ w0, w0 = newC w (1, 0, 0) 15 := ⟨_, rfl⟩
  have q0 : mS w0 a = (1, 0, 0) := by rw [hw0, ha]; exact mS_Cs
  have N0 : mN w0 = mN w + 1 := by rw [hw0]; rfl
  have K0 : mK w0 = mK w + 15 := by rw [hw0]; rfl
  have B0 : Gw (fun b => b = a) w w0 := by rw [hw0]; exact Gw.C
  have e0' : rn 8 (0, [(0, jvr a), (1, jvr hl)], [], w0) = rn 8 (4, [(0, jvr a), (1, jvr hl)], [], w0) := by
    simp only [p8_0, p8_1, jwd_c, jwd_0, Nat.reduceLeDiff, Nat.reduceEqDiff, Nat.reduceAdd, Nat.reduceSub, Nat.reduceMul, Int.reduceAdd, Int.reduceSub, Int.reduceMul, Int.reduceNeg, Int.reduceEq, Int.reduceLT, Int.reduceLE, jq_ldi_i, jq_ldl_l, jq_lda_a, jq_inc_i, jq_gs_t, jq_gsb_t, jq_gb_t, jq_gr_2, jq_gr_4, jq_gw_2, jq_s_t, jq_b_t, jg_c, jg_n, js_c, js_n, jrm_c, jrm_n, j2_i, j2_l, j2_a, jq_c_i, jq_c_l, jq_c_0, jq_c_n, jwd_le, jw_c0, mS_I, mS_R, mS_J, mN_I, mN_R, mN_J, mR_I, mI_R, mJ_I, mJ_R, mI_J, mR_J, ↓reduceIte, decide_true, or_true, true_or, and_self, false_or, or_false, reduceCtorEq, Bool.false_eq_true, and_false, false_and, eq_self, true_and, and_true, zero_ne, q0]
  obtain ⟨v0, e0, g0, f0, n0, k0⟩ := mk_row (w := w0) (P := fun _ => False) (a := a + 1) (by omega)
  have t0 : mS v0 a = (1, 0, 0) := by rw [f0.s (by omega)]; exact q0
  obtain ⟨w1, hw1⟩ : ∃ w1, w1 = setR v0 a 1 (some (a + 1)) := ⟨_, rfl⟩
  have F0 : Gw (fun b => b = a) w0 w1 := (f0.mo (fun b _ z => z.elim)).tr (by rw [hw1]; exact (Fr.R (P := fun b => b = a) rfl).gw)
  have q1 : mS w1 a = (1, 0, 0) := by rw [hw1]; exact t0
  have N1 : mN w1 = mN w + 8 := by rw [hw1]; show mN v0 = _; omega
  have K1 : mK w1 = mK w0 + 315 := by rw [hw1]; exact k0
  have G0 : CR w1 (a + 1) 0 0 rZ := g0.fr (P := fun b => b = a) (by rw [hw1]; exact Fr.R rfl) (fun b b1 b2 => by omega)
  have R0 : mR w1 a 1 = some (a + 1) := by rw [hw1]; exact mR_s _ _ _ _
  have RN0 : ∀ j, j ≠ 1 → mR w1 a j = mR w0 a j := fun j hj => by rw [hw1, mR_nk hj, f0.r (by omega) (fun z => z)]
  have I0 : mI w1 a = mI w0 a := by rw [hw1]; exact f0.i (by omega) (fun z => z)
  have E0 : rn 8 (4, [(0, jvr a), (1, jvr hl)], [], w0) = rn 8 (15, [(0, jvr a), (1, jvr hl)], [], w1) := by
    rw [hw1]
    have z1 : mS (newC w0 (1, 4, 0) 11) (a + 1) = (1, 4, 0) := by rw [show a + 1 = 64 + mN w0 by omega]; exact mS_Cs
    have z2 : 64 + mN w0 = a + 1 := by omega
    simp (disch := omega) only [p8_4, p8_5, p8_8i, p8_8a, p8_9, p8_12, jwd_c, jwd_0, Nat.reduceLeDiff, Nat.reduceEqDiff, Nat.reduceAdd, Nat.reduceSub, Nat.reduceMul, Int.reduceAdd, Int.reduceSub, Int.reduceMul, Int.reduceNeg, Int.reduceEq, Int.reduceLT, Int.reduceLE, jq_ldi_i, jq_ldl_l, jq_lda_a, jq_inc_i, jq_gs_t, jq_gsb_t, jq_gb_t, jq_gr_2, jq_gr_4, jq_gw_2, jq_s_t, jq_b_t, jg_c, jg_n, js_c, js_n, jrm_c, jrm_n, j2_i, j2_l, j2_a, jq_c_i, jq_c_l, jq_c_0, jq_c_n, jwd_le, jw_c0, mS_I, mS_R, mS_J, mN_I, mN_R, mN_J, mR_I, mI_R, mJ_I, mJ_R, mI_J, mR_J, ↓reduceIte, decide_true, or_true, true_or, and_self, false_or, or_false, reduceCtorEq, Bool.false_eq_true, and_false, false_and, eq_self, true_and, and_true, zero_ne, z1, z2, e0, t0]
  obtain ⟨v1, e1, g1, f1, n1, k1⟩ := mk_sh (w := w1) (P := fun _ => False) (a := a + 8) (R := 44) (C := 1) (r := 44) (c := 1) (m := 44) rfl rfl rfl (by omega) (by omega) (by omega) (by omega) (by omega) (by omega)
  have t1 : mS v1 a = (1, 0, 0) := by rw [f1.s (by omega)]; exact q1
  obtain ⟨w2, hw2⟩ : ∃ w2, w2 = setR v1 a 2 (some (a + 8)) := ⟨_, rfl⟩
  have F1 : Gw (fun b => b = a) w1 w2 := (f1.mo (fun b _ z => z.elim)).tr (by rw [hw2]; exact (Fr.R (P := fun b => b = a) rfl).gw)
  have q2 : mS w2 a = (1, 0, 0) := by rw [hw2]; exact t1
  have N2 : mN w2 = mN w + 10 := by rw [hw2]; show mN v1 = _; omega
  have K2 : mK w2 = mK w1 + 48 := by rw [hw2]; exact k1
  have G1 : ∀ g, Sg w2 (a + 8) 1 44 0 g := fun g => (g1 g).fr (P := fun b => b = a) (by rw [hw2]; exact Fr.R rfl) (by omega) (by omega)
  have R1 : mR w2 a 2 = some (a + 8) := by rw [hw2]; exact mR_s _ _ _ _
  have RN1 : ∀ j, j ≠ 2 → mR w2 a j = mR w1 a j := fun j hj => by rw [hw2, mR_nk hj, f1.r (by omega) (fun z => z)]
  have I1 : mI w2 a = mI w1 a := by rw [hw2]; exact f1.i (by omega) (fun z => z)
  have E1 : rn 8 (15, [(0, jvr a), (1, jvr hl)], [], w1) = rn 8 (29, [(0, jvr a), (1, jvr hl)], [], w2) := by
    rw [hw2]
    have z1 : mS (newC w1 (1, 5, 0) 4) (a + 8) = (1, 5, 0) := by rw [show a + 8 = 64 + mN w1 by omega]; exact mS_Cs
    have z2 : 64 + mN w1 = a + 8 := by omega
    simp (disch := omega) only [p8_15, p8_16, p8_19i, p8_19a, p8_20, p8_22, p8_23, p8_26, jwd_c, jwd_0, Nat.reduceLeDiff, Nat.reduceEqDiff, Nat.reduceAdd, Nat.reduceSub, Nat.reduceMul, Int.reduceAdd, Int.reduceSub, Int.reduceMul, Int.reduceNeg, Int.reduceEq, Int.reduceLT, Int.reduceLE, jq_ldi_i, jq_ldl_l, jq_lda_a, jq_inc_i, jq_gs_t, jq_gsb_t, jq_gb_t, jq_gr_2, jq_gr_4, jq_gw_2, jq_s_t, jq_b_t, jg_c, jg_n, js_c, js_n, jrm_c, jrm_n, j2_i, j2_l, j2_a, jq_c_i, jq_c_l, jq_c_0, jq_c_n, jwd_le, jw_c0, mS_I, mS_R, mS_J, mN_I, mN_R, mN_J, mR_I, mI_R, mJ_I, mJ_R, mI_J, mR_J, ↓reduceIte, decide_true, or_true, true_or, and_self, false_or, or_false, reduceCtorEq, Bool.false_eq_true, and_false, false_and, eq_self, true_and, and_true, zero_ne, z1, z2, e1, t1]
  obtain ⟨v2, e2, g2, f2, n2, k2⟩ := mk_sh (w := w2) (P := fun _ => False) (a := a + 10) (R := 44) (C := 1) (r := 44) (c := 1) (m := 44) rfl rfl rfl (by omega) (by omega) (by omega) (by omega) (by omega) (by omega)
  have t2 : mS v2 a = (1, 0, 0) := by rw [f2.s (by omega)]; exact q2
  obtain ⟨w3, hw3⟩ : ∃ w3, w3 = setR v2 a 3 (some (a + 10)) := ⟨_, rfl⟩
  have F2 : Gw (fun b => b = a) w2 w3 := (f2.mo (fun b _ z => z.elim)).tr (by rw [hw3]; exact (Fr.R (P := fun b => b = a) rfl).gw)
  have q3 : mS w3 a = (1, 0, 0) := by rw [hw3]; exact t2
  have N3 : mN w3 = mN w + 12 := by rw [hw3]; show mN v2 = _; omega
  have K3 : mK w3 = mK w2 + 48 := by rw [hw3]; exact k2
  have G2 : ∀ g, Sg w3 (a + 10) 1 44 0 g := fun g => (g2 g).fr (P := fun b => b = a) (by rw [hw3]; exact Fr.R rfl) (by omega) (by omega)
  have R2 : mR w3 a 3 = some (a + 10) := by rw [hw3]; exact mR_s _ _ _ _
  have RN2 : ∀ j, j ≠ 3 → mR w3 a j = mR w2 a j := fun j hj => by rw [hw3, mR_nk hj, f2.r (by omega) (fun z => z)]
  have I2 : mI w3 a = mI w2 a := by rw [hw3]; exact f2.i (by omega) (fun z => z)
  have E2 : rn 8 (29, [(0, jvr a), (1, jvr hl)], [], w2) = rn 8 (43, [(0, jvr a), (1, jvr hl)], [], w3) := by
    rw [hw3]
    have z1 : mS (newC w2 (1, 5, 0) 4) (a + 10) = (1, 5, 0) := by rw [show a + 10 = 64 + mN w2 by omega]; exact mS_Cs
    have z2 : 64 + mN w2 = a + 10 := by omega
    simp (disch := omega) only [p8_29, p8_30, p8_33i, p8_33a, p8_34, p8_36, p8_37, p8_40, jwd_c, jwd_0, Nat.reduceLeDiff, Nat.reduceEqDiff, Nat.reduceAdd, Nat.reduceSub, Nat.reduceMul, Int.reduceAdd, Int.reduceSub, Int.reduceMul, Int.reduceNeg, Int.reduceEq, Int.reduceLT, Int.reduceLE, jq_ldi_i, jq_ldl_l, jq_lda_a, jq_inc_i, jq_gs_t, jq_gsb_t, jq_gb_t, jq_gr_2, jq_gr_4, jq_gw_2, jq_s_t, jq_b_t, jg_c, jg_n, js_c, js_n, jrm_c, jrm_n, j2_i, j2_l, j2_a, jq_c_i, jq_c_l, jq_c_0, jq_c_n, jwd_le, jw_c0, mS_I, mS_R, mS_J, mN_I, mN_R, mN_J, mR_I, mI_R, mJ_I, mJ_R, mI_J, mR_J, ↓reduceIte, decide_true, or_true, true_or, and_self, false_or, or_false, reduceCtorEq, Bool.false_eq_true, and_false, false_and, eq_self, true_and, and_true, zero_ne, z1, z2, e2, t2]
  obtain ⟨v3, e3, g3, f3, n3, k3⟩ := mk_sh (w := w3) (P := fun _ => False) (a := a + 12) (R := 12) (C := 1) (r := 12) (c := 1) (m := 12) rfl rfl rfl (by omega) (by omega) (by omega) (by omega) (by omega) (by omega)
  have t3 : mS v3 a = (1, 0, 0) := by rw [f3.s (by omega)]; exact q3
  obtain ⟨w4, hw4⟩ : ∃ w4, w4 = setR v3 a 4 (some (a + 12)) := ⟨_, rfl⟩
  have F3 : Gw (fun b => b = a) w3 w4 := (f3.mo (fun b _ z => z.elim)).tr (by rw [hw4]; exact (Fr.R (P := fun b => b = a) rfl).gw)
  have q4 : mS w4 a = (1, 0, 0) := by rw [hw4]; exact t3
  have N4 : mN w4 = mN w + 14 := by rw [hw4]; show mN v3 = _; omega
  have K4 : mK w4 = mK w3 + 16 := by rw [hw4]; exact k3
  have G3 : ∀ g, Sg w4 (a + 12) 1 12 0 g := fun g => (g3 g).fr (P := fun b => b = a) (by rw [hw4]; exact Fr.R rfl) (by omega) (by omega)
  have R3 : mR w4 a 4 = some (a + 12) := by rw [hw4]; exact mR_s _ _ _ _
  have RN3 : ∀ j, j ≠ 4 → mR w4 a j = mR w3 a j := fun j hj => by rw [hw4, mR_nk hj, f3.r (by omega) (fun z => z)]
  have I3 : mI w4 a = mI w3 a := by rw [hw4]; exact f3.i (by omega) (fun z => z)
  have E3 : rn 8 (43, [(0, jvr a), (1, jvr hl)], [], w3) = rn 8 (57, [(0, jvr a), (1, jvr hl)], [], w4) := by
    rw [hw4]
    have z1 : mS (newC w3 (1, 5, 0) 4) (a + 12) = (1, 5, 0) := by rw [show a + 12 = 64 + mN w3 by omega]; exact mS_Cs
    have z2 : 64 + mN w3 = a + 12 := by omega
    simp (disch := omega) only [p8_43, p8_44, p8_47i, p8_47a, p8_48, p8_50, p8_51, p8_54, jwd_c, jwd_0, Nat.reduceLeDiff, Nat.reduceEqDiff, Nat.reduceAdd, Nat.reduceSub, Nat.reduceMul, Int.reduceAdd, Int.reduceSub, Int.reduceMul, Int.reduceNeg, Int.reduceEq, Int.reduceLT, Int.reduceLE, jq_ldi_i, jq_ldl_l, jq_lda_a, jq_inc_i, jq_gs_t, jq_gsb_t, jq_gb_t, jq_gr_2, jq_gr_4, jq_gw_2, jq_s_t, jq_b_t, jg_c, jg_n, js_c, js_n, jrm_c, jrm_n, j2_i, j2_l, j2_a, jq_c_i, jq_c_l, jq_c_0, jq_c_n, jwd_le, jw_c0, mS_I, mS_R, mS_J, mN_I, mN_R, mN_J, mR_I, mI_R, mJ_I, mJ_R, mI_J, mR_J, ↓reduceIte, decide_true, or_true, true_or, and_self, false_or, or_false, reduceCtorEq, Bool.false_eq_true, and_false, false_and, eq_self, true_and, and_true, zero_ne, z1, z2, e3, t3]
  obtain ⟨v4, e4, g4, f4, n4, k4⟩ := mk_sh (w := w4) (P := fun _ => False) (a := a + 14) (R := 48) (C := 1) (r := 48) (c := 1) (m := 48) rfl rfl rfl (by omega) (by omega) (by omega) (by omega) (by omega) (by omega)
  have t4 : mS v4 a = (1, 0, 0) := by rw [f4.s (by omega)]; exact q4
  obtain ⟨w5, hw5⟩ : ∃ w5, w5 = setR v4 a 5 (some (a + 14)) := ⟨_, rfl⟩
  have F4 : Gw (fun b => b = a) w4 w5 := (f4.mo (fun b _ z => z.elim)).tr (by rw [hw5]; exact (Fr.R (P := fun b => b = a) rfl).gw)
  have q5 : mS w5 a = (1, 0, 0) := by rw [hw5]; exact t4
  have N5 : mN w5 = mN w + 16 := by rw [hw5]; show mN v4 = _; omega
  have K5 : mK w5 = mK w4 + 52 := by rw [hw5]; exact k4
  have G4 : ∀ g, Sg w5 (a + 14) 1 48 0 g := fun g => (g4 g).fr (P := fun b => b = a) (by rw [hw5]; exact Fr.R rfl) (by omega) (by omega)
  have R4 : mR w5 a 5 = some (a + 14) := by rw [hw5]; exact mR_s _ _ _ _
  have RN4 : ∀ j, j ≠ 5 → mR w5 a j = mR w4 a j := fun j hj => by rw [hw5, mR_nk hj, f4.r (by omega) (fun z => z)]
  have I4 : mI w5 a = mI w4 a := by rw [hw5]; exact f4.i (by omega) (fun z => z)
  have E4 : rn 8 (57, [(0, jvr a), (1, jvr hl)], [], w4) = rn 8 (71, [(0, jvr a), (1, jvr hl)], [], w5) := by
    rw [hw5]
    have z1 : mS (newC w4 (1, 5, 0) 4) (a + 14) = (1, 5, 0) := by rw [show a + 14 = 64 + mN w4 by omega]; exact mS_Cs
    have z2 : 64 + mN w4 = a + 14 := by omega
    simp (disch := omega) only [p8_57, p8_58, p8_61i, p8_61a, p8_62, p8_64, p8_65, p8_68, jwd_c, jwd_0, Nat.reduceLeDiff, Nat.reduceEqDiff, Nat.reduceAdd, Nat.reduceSub, Nat.reduceMul, Int.reduceAdd, Int.reduceSub, Int.reduceMul, Int.reduceNeg, Int.reduceEq, Int.reduceLT, Int.reduceLE, jq_ldi_i, jq_ldl_l, jq_lda_a, jq_inc_i, jq_gs_t, jq_gsb_t, jq_gb_t, jq_gr_2, jq_gr_4, jq_gw_2, jq_s_t, jq_b_t, jg_c, jg_n, js_c, js_n, jrm_c, jrm_n, j2_i, j2_l, j2_a, jq_c_i, jq_c_l, jq_c_0, jq_c_n, jwd_le, jw_c0, mS_I, mS_R, mS_J, mN_I, mN_R, mN_J, mR_I, mI_R, mJ_I, mJ_R, mI_J, mR_J, ↓reduceIte, decide_true, or_true, true_or, and_self, false_or, or_false, reduceCtorEq, Bool.false_eq_true, and_false, false_and, eq_self, true_and, and_true, zero_ne, z1, z2, e4, t4]
  obtain ⟨v5, e5, g5, f5, n5, k5⟩ := mk_sh (w := w5) (P := fun _ => False) (a := a + 16) (R := 4) (C := 1) (r := 4) (c := 1) (m := 4) rfl rfl rfl (by omega) (by omega) (by omega) (by omega) (by omega) (by omega)
  have t5 : mS v5 a = (1, 0, 0) := by rw [f5.s (by omega)]; exact q5
  obtain ⟨w6, hw6⟩ : ∃ w6, w6 = setR v5 a 6 (some (a + 16)) := ⟨_, rfl⟩
  have F5 : Gw (fun b => b = a) w5 w6 := (f5.mo (fun b _ z => z.elim)).tr (by rw [hw6]; exact (Fr.R (P := fun b => b = a) rfl).gw)
  have q6 : mS w6 a = (1, 0, 0) := by rw [hw6]; exact t5
  have N6 : mN w6 = mN w + 18 := by rw [hw6]; show mN v5 = _; omega
  have K6 : mK w6 = mK w5 + 8 := by rw [hw6]; exact k5
  have G5 : ∀ g, Sg w6 (a + 16) 1 4 0 g := fun g => (g5 g).fr (P := fun b => b = a) (by rw [hw6]; exact Fr.R rfl) (by omega) (by omega)
  have R5 : mR w6 a 6 = some (a + 16) := by rw [hw6]; exact mR_s _ _ _ _
  have RN5 : ∀ j, j ≠ 6 → mR w6 a j = mR w5 a j := fun j hj => by rw [hw6, mR_nk hj, f5.r (by omega) (fun z => z)]
  have I5 : mI w6 a = mI w5 a := by rw [hw6]; exact f5.i (by omega) (fun z => z)
  have E5 : rn 8 (71, [(0, jvr a), (1, jvr hl)], [], w5) = rn 8 (84, [(0, jvr a), (1, jvr hl)], [], w6) := by
    rw [hw6]
    have z1 : mS (newC w5 (1, 5, 0) 4) (a + 16) = (1, 5, 0) := by rw [show a + 16 = 64 + mN w5 by omega]; exact mS_Cs
    have z2 : 64 + mN w5 = a + 16 := by omega
    simp (disch := omega) only [p8_71, p8_72, p8_75i, p8_75a, p8_76, p8_77, p8_78, p8_81, jwd_c, jwd_0, Nat.reduceLeDiff, Nat.reduceEqDiff, Nat.reduceAdd, Nat.reduceSub, Nat.reduceMul, Int.reduceAdd, Int.reduceSub, Int.reduceMul, Int.reduceNeg, Int.reduceEq, Int.reduceLT, Int.reduceLE, jq_ldi_i, jq_ldl_l, jq_lda_a, jq_inc_i, jq_gs_t, jq_gsb_t, jq_gb_t, jq_gr_2, jq_gr_4, jq_gw_2, jq_s_t, jq_b_t, jg_c, jg_n, js_c, js_n, jrm_c, jrm_n, j2_i, j2_l, j2_a, jq_c_i, jq_c_l, jq_c_0, jq_c_n, jwd_le, jw_c0, mS_I, mS_R, mS_J, mN_I, mN_R, mN_J, mR_I, mI_R, mJ_I, mJ_R, mI_J, mR_J, ↓reduceIte, decide_true, or_true, true_or, and_self, false_or, or_false, reduceCtorEq, Bool.false_eq_true, and_false, false_and, eq_self, true_and, and_true, zero_ne, z1, z2, e5, t5]
  have S6 : Gw (fun b => b = a) w6 w6 := Gw.rf
  have S5 : Gw (fun b => b = a) w5 w6 := F5.tr S6
  have S4 : Gw (fun b => b = a) w4 w6 := F4.tr S5
  have S3 : Gw (fun b => b = a) w3 w6 := F3.tr S4
  have S2 : Gw (fun b => b = a) w2 w6 := F2.tr S3
  have S1 : Gw (fun b => b = a) w1 w6 := F1.tr S2
  have S0 : Gw (fun b => b = a) w0 w6 := F0.tr S1
  have r1 : mR w6 a 1 = some (a + 1) := by rw [RN5 1 (by omega), RN4 1 (by omega), RN3 1 (by omega), RN2 1 (by omega), RN1 1 (by omega), R0]
  have r2 : mR w6 a 2 = some (a + 8) := by rw [RN5 2 (by omega), RN4 2 (by omega), RN3 2 (by omega), RN2 2 (by omega), R1]
  have r3 : mR w6 a 3 = some (a + 10) := by rw [RN5 3 (by omega), RN4 3 (by omega), RN3 3 (by omega), R2]
  have r4 : mR w6 a 4 = some (a + 12) := by rw [RN5 4 (by omega), RN4 4 (by omega), R3]
  have r5 : mR w6 a 5 = some (a + 14) := by rw [RN5 5 (by omega), R4]
  have r6 : mR w6 a 6 = some (a + 16) := by rw [R5]
  have h0 : CR w6 (a + 1) 0 0 rZ := G0.gw S1 (by omega) (fun b b1 b2 => by omega)
  have h1 : ∃ n q, Sg w6 (a + 8) 1 44 n q := ⟨0, fun _ _ => 0, (G1 _).gw S2 (by omega) (by omega) (by omega)⟩
  have h2 : ∃ n q, Sg w6 (a + 10) 1 44 n q := ⟨0, fun _ _ => 0, (G2 _).gw S3 (by omega) (by omega) (by omega)⟩
  have h3 : ∃ n q, Sg w6 (a + 12) 1 12 n q := ⟨0, fun _ _ => 0, (G3 _).gw S4 (by omega) (by omega) (by omega)⟩
  have h4 : ∃ n q, Sg w6 (a + 14) 1 48 n q := ⟨0, fun _ _ => 0, (G4 _).gw S5 (by omega) (by omega) (by omega)⟩
  have h5 : ∃ n q, Sg w6 (a + 16) 1 4 n q := ⟨0, fun _ _ => 0, (G5 _).gw S6 (by omega) (by omega) (by omega)⟩
  obtain ⟨u, hu⟩ : ∃ u, u = setR w6 a 0 (some hl) := ⟨_, rfl⟩
  have fu : Fr (fun b => b = a) w6 u := by rw [hu]; exact Fr.R rfl
  have ru : ∀ k, k ≠ 0 → mR u a k = mR w6 a k := fun k hk => by rw [hu, mR_nk hk]
  have xs : ∀ {b c r : Nat}, b ≠ a → b + 1 ≠ a → (∃ n q, Sg w6 b c r n q) → ∃ n q, Sg u b c r n q := fun z1 z2 h => exSg h fu z1 z2
  rw [← hw0]
  refine ⟨u, ?_, ⟨by rw [fu.q]; exact q6, by rw [hu]; exact mR_s _ _ _ _, (ru 1 (by omega)).trans r1, (ru 2 (by omega)).trans r2, (ru 3 (by omega)).trans r3, (ru 4 (by omega)).trans r4, (ru 5 (by omega)).trans r5, (ru 6 (by omega)).trans r6, h0.fr fu (fun b b1 b2 => by omega), xs (by omega) (by omega) h1, xs (by omega) (by omega) h2, xs (by omega) (by omega) h3, xs (by omega) (by omega) h4, xs (by omega) (by omega) h5⟩, ((B0.tr S0).tr fu.gw).mo (fun b hb z => absurd hb (by omega)), by rw [fu.2.1]; omega, by rw [fu.2.2.1]; omega⟩
  rw [e0', E0, E1, E2, E3, E4, E5, hu]
  simp only [p8_84, p8_85, p8_86, p8_89, jwd_c, jwd_0, Nat.reduceLeDiff, Nat.reduceEqDiff, Nat.reduceAdd, Nat.reduceSub, Nat.reduceMul, Int.reduceAdd, Int.reduceSub, Int.reduceMul, Int.reduceNeg, Int.reduceEq, Int.reduceLT, Int.reduceLE, jq_ldi_i, jq_ldl_l, jq_lda_a, jq_inc_i, jq_gs_t, jq_gsb_t, jq_gb_t, jq_gr_2, jq_gr_4, jq_gw_2, jq_s_t, jq_b_t, jg_c, jg_n, js_c, js_n, jrm_c, jrm_n, j2_i, j2_l, j2_a, jq_c_i, jq_c_l, jq_c_0, jq_c_n, jwd_le, jw_c0, mS_I, mS_R, mS_J, mN_I, mN_R, mN_J, mR_I, mI_R, mJ_I, mJ_R, mI_J, mR_J, ↓reduceIte, decide_true, or_true, true_or, and_self, false_or, or_false, reduceCtorEq, Bool.false_eq_true, and_false, false_and, eq_self, true_and, and_true, zero_ne, q6]
theorem mk_orders (ha : a = 64 + mN w) : ∃ u, rn 10 (0, [(0, jvr a)], [], newC w (1, 2, 0) 2) = some (none, u) ∧ (mS u a = (1, 2, 0) ∧ mR u a 0 = some (a + 1) ∧ mR u a 1 = some (a + 3) ∧ (∃ n q, Sg u (a + 1) 1 8 n q) ∧ (∃ n q, Sg u (a + 3) 1 8 n q)) ∧ Gw P w u ∧ mN u = mN w + 5 ∧ mK u = mK w + 26 := by
  obtain ⟨w0, hw0⟩ : ∃ w0, w0 = newC w (1, 2, 0) 2 := ⟨_, rfl⟩
  have q0 : mS w0 a = (1, 2, 0) := by rw [hw0, ha]; exact mS_Cs
  have N0 : mN w0 = mN w + 1 := by rw [hw0]; rfl
  have K0 : mK w0 = mK w + 2 := by rw [hw0]; rfl
  have B0 : Gw (fun b => b = a) w w0 := by rw [hw0]; exact Gw.C
  have e0' : rn 10 (0, [(0, jvr a)], [], w0) = rn 10 (4, [(0, jvr a)], [], w0) := by
    simp only [p10_0, p10_1, jwd_c, jwd_0, Nat.reduceLeDiff, Nat.reduceEqDiff, Nat.reduceAdd, Nat.reduceSub, Nat.reduceMul, Int.reduceAdd, Int.reduceSub, Int.reduceMul, Int.reduceNeg, Int.reduceEq, Int.reduceLT, Int.reduceLE, jq_ldi_i, jq_ldl_l, jq_lda_a, jq_inc_i, jq_gs_t, jq_gsb_t, jq_gb_t, jq_gr_2, jq_gr_4, jq_gw_2, jq_s_t, jq_b_t, jg_c, jg_n, js_c, js_n, jrm_c, jrm_n, j2_i, j2_l, j2_a, jq_c_i, jq_c_l, jq_c_0, jq_c_n, jwd_le, jw_c0, mS_I, mS_R, mS_J, mN_I, mN_R, mN_J, mR_I, mI_R, mJ_I, mJ_R, mI_J, mR_J, ↓reduceIte, decide_true, or_true, true_or, and_self, false_or, or_false, reduceCtorEq, Bool.false_eq_true, and_false, false_and, eq_self, true_and, and_true, zero_ne, q0]
  obtain ⟨v0, e0, g0, f0, n0, k0⟩ := mk_sh (w := w0) (P := fun _ => False) (a := a + 1) (R := 8) (C := 1) (r := 8) (c := 1) (m := 8) rfl rfl rfl (by omega) (by omega) (by omega) (by omega) (by omega) (by omega)
  have t0 : mS v0 a = (1, 2, 0) := by rw [f0.s (by omega)]; exact q0
  obtain ⟨w1, hw1⟩ : ∃ w1, w1 = setR v0 a 0 (some (a + 1)) := ⟨_, rfl⟩
  have F0 : Gw (fun b => b = a) w0 w1 := (f0.mo (fun b _ z => z.elim)).tr (by rw [hw1]; exact (Fr.R (P := fun b => b = a) rfl).gw)
  have q1 : mS w1 a = (1, 2, 0) := by rw [hw1]; exact t0
  have N1 : mN w1 = mN w + 3 := by rw [hw1]; show mN v0 = _; omega
  have K1 : mK w1 = mK w0 + 12 := by rw [hw1]; exact k0
  have G0 : ∀ g, Sg w1 (a + 1) 1 8 0 g := fun g => (g0 g).fr (P := fun b => b = a) (by rw [hw1]; exact Fr.R rfl) (by omega) (by omega)
  have R0 : mR w1 a 0 = some (a + 1) := by rw [hw1]; exact mR_s _ _ _ _
  have RN0 : ∀ j, j ≠ 0 → mR w1 a j = mR w0 a j := fun j hj => by rw [hw1, mR_nk hj, f0.r (by omega) (fun z => z)]
  have I0 : mI w1 a = mI w0 a := by rw [hw1]; exact f0.i (by omega) (fun z => z)
  have E0 : rn 10 (4, [(0, jvr a)], [], w0) = rn 10 (18, [(0, jvr a)], [], w1) := by
    rw [hw1]
    have z1 : mS (newC w0 (1, 5, 0) 4) (a + 1) = (1, 5, 0) := by rw [show a + 1 = 64 + mN w0 by omega]; exact mS_Cs
    have z2 : 64 + mN w0 = a + 1 := by omega
    simp (disch := omega) only [p10_4, p10_5, p10_8i, p10_8a, p10_9, p10_11, p10_12, p10_15, jwd_c, jwd_0, Nat.reduceLeDiff, Nat.reduceEqDiff, Nat.reduceAdd, Nat.reduceSub, Nat.reduceMul, Int.reduceAdd, Int.reduceSub, Int.reduceMul, Int.reduceNeg, Int.reduceEq, Int.reduceLT, Int.reduceLE, jq_ldi_i, jq_ldl_l, jq_lda_a, jq_inc_i, jq_gs_t, jq_gsb_t, jq_gb_t, jq_gr_2, jq_gr_4, jq_gw_2, jq_s_t, jq_b_t, jg_c, jg_n, js_c, js_n, jrm_c, jrm_n, j2_i, j2_l, j2_a, jq_c_i, jq_c_l, jq_c_0, jq_c_n, jwd_le, jw_c0, mS_I, mS_R, mS_J, mN_I, mN_R, mN_J, mR_I, mI_R, mJ_I, mJ_R, mI_J, mR_J, ↓reduceIte, decide_true, or_true, true_or, and_self, false_or, or_false, reduceCtorEq, Bool.false_eq_true, and_false, false_and, eq_self, true_and, and_true, zero_ne, z1, z2, e0, t0]
  obtain ⟨v1, e1, g1, f1, n1, k1⟩ := mk_sh (w := w1) (P := fun _ => False) (a := a + 3) (R := 8) (C := 1) (r := 8) (c := 1) (m := 8) rfl rfl rfl (by omega) (by omega) (by omega) (by omega) (by omega) (by omega)
  have t1 : mS v1 a = (1, 2, 0) := by rw [f1.s (by omega)]; exact q1
  obtain ⟨w2, hw2⟩ : ∃ w2, w2 = setR v1 a 1 (some (a + 3)) := ⟨_, rfl⟩
  have F1 : Gw (fun b => b = a) w1 w2 := (f1.mo (fun b _ z => z.elim)).tr (by rw [hw2]; exact (Fr.R (P := fun b => b = a) rfl).gw)
  have q2 : mS w2 a = (1, 2, 0) := by rw [hw2]; exact t1
  have N2 : mN w2 = mN w + 5 := by rw [hw2]; show mN v1 = _; omega
  have K2 : mK w2 = mK w1 + 12 := by rw [hw2]; exact k1
  have G1 : ∀ g, Sg w2 (a + 3) 1 8 0 g := fun g => (g1 g).fr (P := fun b => b = a) (by rw [hw2]; exact Fr.R rfl) (by omega) (by omega)
  have R1 : mR w2 a 1 = some (a + 3) := by rw [hw2]; exact mR_s _ _ _ _
  have RN1 : ∀ j, j ≠ 1 → mR w2 a j = mR w1 a j := fun j hj => by rw [hw2, mR_nk hj, f1.r (by omega) (fun z => z)]
  have I1 : mI w2 a = mI w1 a := by rw [hw2]; exact f1.i (by omega) (fun z => z)
  have E1 : rn 10 (18, [(0, jvr a)], [], w1) = rn 10 (32, [(0, jvr a)], [], w2) := by
    rw [hw2]
    have z1 : mS (newC w1 (1, 5, 0) 4) (a + 3) = (1, 5, 0) := by rw [show a + 3 = 64 + mN w1 by omega]; exact mS_Cs
    have z2 : 64 + mN w1 = a + 3 := by omega
    simp (disch := omega) only [p10_18, p10_19, p10_22i, p10_22a, p10_23, p10_25, p10_26, p10_29, jwd_c, jwd_0, Nat.reduceLeDiff, Nat.reduceEqDiff, Nat.reduceAdd, Nat.reduceSub, Nat.reduceMul, Int.reduceAdd, Int.reduceSub, Int.reduceMul, Int.reduceNeg, Int.reduceEq, Int.reduceLT, Int.reduceLE, jq_ldi_i, jq_ldl_l, jq_lda_a, jq_inc_i, jq_gs_t, jq_gsb_t, jq_gb_t, jq_gr_2, jq_gr_4, jq_gw_2, jq_s_t, jq_b_t, jg_c, jg_n, js_c, js_n, jrm_c, jrm_n, j2_i, j2_l, j2_a, jq_c_i, jq_c_l, jq_c_0, jq_c_n, jwd_le, jw_c0, mS_I, mS_R, mS_J, mN_I, mN_R, mN_J, mR_I, mI_R, mJ_I, mJ_R, mI_J, mR_J, ↓reduceIte, decide_true, or_true, true_or, and_self, false_or, or_false, reduceCtorEq, Bool.false_eq_true, and_false, false_and, eq_self, true_and, and_true, zero_ne, z1, z2, e1, t1]
  have S2 : Gw (fun b => b = a) w2 w2 := Gw.rf
  have S1 : Gw (fun b => b = a) w1 w2 := F1.tr S2
  have S0 : Gw (fun b => b = a) w0 w2 := F0.tr S1
  have r0 : mR w2 a 0 = some (a + 1) := by rw [RN1 0 (by omega), R0]
  have r1 : mR w2 a 1 = some (a + 3) := by rw [R1]
  have h0 : ∃ n q, Sg w2 (a + 1) 1 8 n q := ⟨0, fun _ _ => 0, (G0 _).gw S1 (by omega) (by omega) (by omega)⟩
  have h1 : ∃ n q, Sg w2 (a + 3) 1 8 n q := ⟨0, fun _ _ => 0, (G1 _).gw S2 (by omega) (by omega) (by omega)⟩
  rw [← hw0]
  refine ⟨w2, ?_, ⟨q2, r0, r1, h0, h1⟩, (B0.tr S0).mo (fun b hb z => absurd hb (by omega)), by omega, by omega⟩
  rw [e0', E0, E1, p10_32]
theorem mk_reader {tp hl : Nat} (ha : a = 64 + mN w) : ∃ u, rn 6 (0, [(0, jvr a), (1, jvr tp), (2, jvr hl)], [], newC w (1, 3, 0) 12) = some (none, u) ∧ (mS u a = (1, 3, 0) ∧ mR u a 0 = some tp ∧ mR u a 1 = some hl ∧ mR u a 2 = some (a + 1) ∧ (∃ n q, Sg u (a + 1) 2 4 n q)) ∧ Gw P w u ∧ mN u = mN w + 3 ∧ mK u = mK w + 24 := by
  obtain ⟨w0, hw0⟩ : ∃ w0, w0 = newC w (1, 3, 0) 12 := ⟨_, rfl⟩
  have q0 : mS w0 a = (1, 3, 0) := by rw [hw0, ha]; exact mS_Cs
  have N0 : mN w0 = mN w + 1 := by rw [hw0]; rfl
  have K0 : mK w0 = mK w + 12 := by rw [hw0]; rfl
  have B0 : Gw (fun b => b = a) w w0 := by rw [hw0]; exact Gw.C
  have e0' : rn 6 (0, [(0, jvr a), (1, jvr tp), (2, jvr hl)], [], w0) = rn 6 (4, [(0, jvr a), (1, jvr tp), (2, jvr hl)], [], w0) := by
    simp only [p6_0, p6_1, jwd_c, jwd_0, Nat.reduceLeDiff, Nat.reduceEqDiff, Nat.reduceAdd, Nat.reduceSub, Nat.reduceMul, Int.reduceAdd, Int.reduceSub, Int.reduceMul, Int.reduceNeg, Int.reduceEq, Int.reduceLT, Int.reduceLE, jq_ldi_i, jq_ldl_l, jq_lda_a, jq_inc_i, jq_gs_t, jq_gsb_t, jq_gb_t, jq_gr_2, jq_gr_4, jq_gw_2, jq_s_t, jq_b_t, jg_c, jg_n, js_c, js_n, jrm_c, jrm_n, j2_i, j2_l, j2_a, jq_c_i, jq_c_l, jq_c_0, jq_c_n, jwd_le, jw_c0, mS_I, mS_R, mS_J, mN_I, mN_R, mN_J, mR_I, mI_R, mJ_I, mJ_R, mI_J, mR_J, ↓reduceIte, decide_true, or_true, true_or, and_self, false_or, or_false, reduceCtorEq, Bool.false_eq_true, and_false, false_and, eq_self, true_and, and_true, zero_ne, q0]
  obtain ⟨v0, e0, g0, f0, n0, k0⟩ := mk_sh (w := w0) (P := fun _ => False) (a := a + 1) (R := 4) (C := 2) (r := 4) (c := 2) (m := 8) rfl rfl rfl (by omega) (by omega) (by omega) (by omega) (by omega) (by omega)
  have t0 : mS v0 a = (1, 3, 0) := by rw [f0.s (by omega)]; exact q0
  obtain ⟨w1, hw1⟩ : ∃ w1, w1 = setR v0 a 2 (some (a + 1)) := ⟨_, rfl⟩
  have F0 : Gw (fun b => b = a) w0 w1 := (f0.mo (fun b _ z => z.elim)).tr (by rw [hw1]; exact (Fr.R (P := fun b => b = a) rfl).gw)
  have q1 : mS w1 a = (1, 3, 0) := by rw [hw1]; exact t0
  have N1 : mN w1 = mN w + 3 := by rw [hw1]; show mN v0 = _; omega
  have K1 : mK w1 = mK w0 + 12 := by rw [hw1]; exact k0
  have G0 : ∀ g, Sg w1 (a + 1) 2 4 0 g := fun g => (g0 g).fr (P := fun b => b = a) (by rw [hw1]; exact Fr.R rfl) (by omega) (by omega)
  have R0 : mR w1 a 2 = some (a + 1) := by rw [hw1]; exact mR_s _ _ _ _
  have RN0 : ∀ j, j ≠ 2 → mR w1 a j = mR w0 a j := fun j hj => by rw [hw1, mR_nk hj, f0.r (by omega) (fun z => z)]
  have I0 : mI w1 a = mI w0 a := by rw [hw1]; exact f0.i (by omega) (fun z => z)
  have E0 : rn 6 (4, [(0, jvr a), (1, jvr tp), (2, jvr hl)], [], w0) = rn 6 (17, [(0, jvr a), (1, jvr tp), (2, jvr hl)], [], w1) := by
    rw [hw1]
    have z1 : mS (newC w0 (1, 5, 0) 4) (a + 1) = (1, 5, 0) := by rw [show a + 1 = 64 + mN w0 by omega]; exact mS_Cs
    have z2 : 64 + mN w0 = a + 1 := by omega
    simp (disch := omega) only [p6_4, p6_5, p6_8i, p6_8a, p6_9, p6_10, p6_11, p6_14, jwd_c, jwd_0, Nat.reduceLeDiff, Nat.reduceEqDiff, Nat.reduceAdd, Nat.reduceSub, Nat.reduceMul, Int.reduceAdd, Int.reduceSub, Int.reduceMul, Int.reduceNeg, Int.reduceEq, Int.reduceLT, Int.reduceLE, jq_ldi_i, jq_ldl_l, jq_lda_a, jq_inc_i, jq_gs_t, jq_gsb_t, jq_gb_t, jq_gr_2, jq_gr_4, jq_gw_2, jq_s_t, jq_b_t, jg_c, jg_n, js_c, js_n, jrm_c, jrm_n, j2_i, j2_l, j2_a, jq_c_i, jq_c_l, jq_c_0, jq_c_n, jwd_le, jw_c0, mS_I, mS_R, mS_J, mN_I, mN_R, mN_J, mR_I, mI_R, mJ_I, mJ_R, mI_J, mR_J, ↓reduceIte, decide_true, or_true, true_or, and_self, false_or, or_false, reduceCtorEq, Bool.false_eq_true, and_false, false_and, eq_self, true_and, and_true, zero_ne, z1, z2, e0, t0]
  have S1 : Gw (fun b => b = a) w1 w1 := Gw.rf
  have S0 : Gw (fun b => b = a) w0 w1 := F0.tr S1
  have r2 : mR w1 a 2 = some (a + 1) := by rw [R0]
  have h0 : ∃ n q, Sg w1 (a + 1) 2 4 n q := ⟨0, fun _ _ => 0, (G0 _).gw S1 (by omega) (by omega) (by omega)⟩
  obtain ⟨u, hu⟩ : ∃ u, u = setR (setR w1 a 0 (some tp)) a 1 (some hl) := ⟨_, rfl⟩
  have fu : Fr (fun b => b = a) w1 u := by rw [hu]; exact (Fr.R (P := fun b => b = a) rfl).tr (Fr.R rfl)
  rw [← hw0]
  refine ⟨u, ?_, ⟨by rw [fu.q]; exact q1, by rw [hu, mR_nk (by omega)]; exact mR_s _ _ _ _, by rw [hu]; exact mR_s _ _ _ _, by rw [hu, mR_nk (by omega), mR_nk (by omega)]; exact r2, exSg h0 fu (by omega) (by omega)⟩, ((B0.tr S0).tr fu.gw).mo (fun b hb z => absurd hb (by omega)), by rw [fu.2.1]; omega, by rw [fu.2.2.1]; omega⟩
  rw [e0', E0, hu]
  simp only [p6_17, p6_18, p6_19, p6_22, p6_23, p6_24, p6_27, jwd_c, jwd_0, Nat.reduceLeDiff, Nat.reduceEqDiff, Nat.reduceAdd, Nat.reduceSub, Nat.reduceMul, Int.reduceAdd, Int.reduceSub, Int.reduceMul, Int.reduceNeg, Int.reduceEq, Int.reduceLT, Int.reduceLE, jq_ldi_i, jq_ldl_l, jq_lda_a, jq_inc_i, jq_gs_t, jq_gsb_t, jq_gb_t, jq_gr_2, jq_gr_4, jq_gw_2, jq_s_t, jq_b_t, jg_c, jg_n, js_c, js_n, jrm_c, jrm_n, j2_i, j2_l, j2_a, jq_c_i, jq_c_l, jq_c_0, jq_c_n, jwd_le, jw_c0, mS_I, mS_R, mS_J, mN_I, mN_R, mN_J, mR_I, mI_R, mJ_I, mJ_R, mI_J, mR_J, ↓reduceIte, decide_true, or_true, true_or, and_self, false_or, or_false, reduceCtorEq, Bool.false_eq_true, and_false, false_and, eq_self, true_and, and_true, zero_ne, q1]
end INITS
