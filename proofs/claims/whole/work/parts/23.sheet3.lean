/-! Sheet: push, drop, copy. -/
theorem shS_put {w : jmW} {a n p : Nat} {f : Nat → Int} {v : Int} : setI (shS w a n f) (a + 1) p v = shS w a n (up1 f p v) := by
  unfold shS
  rw [setI_A, setA_A, mI_A]
theorem sh_push {w : jmW} {a c r n : Nat} {F : List Int} {v : Int} (h : Sh w a c r F n) (hn : n < r) : ∃ f, rn 14 (0, [(0, jvr a), (1, .inl v)], [], w) = some (none, shS w a (n + 1) f) ∧ ∀ k, k < (n + 1) * c → f k = if k < n * c then F.getD k 0 else if k = n * c then v else 0 := by
  obtain ⟨f, e1, e2⟩ := sh_insert h hn (Nat.le_refl n)
  obtain ⟨b1, b2, b3, b4, b5⟩ := h.bd
  have hS : Sh (shS w a (n + 1) f) a c r ((List.range ((n + 1) * c)).map f) (n + 1) := by
    refine Sh.S h hn (by simp) (fun k hk => ?_)
    rw [List.getD_eq_getElem?_getD, List.getElem?_map, List.getElem?_range hk]
    rfl
  have e3 := sh_put_in (l := n) (k := 0) (v := v) hS (by omega) (by have := h.2.2.2.2.2.2.2.2.1; omega)
  obtain ⟨h1, h2, h3, h4, h5, h6, h7, h8, h9, h10, h11⟩ := h
  refine ⟨up1 f (n * c) v, ?_, fun k hk => ?_⟩
  · have e4 : mI (shS w a (n + 1) f) a 3 = ((n + 1 : Nat) : Int) := hS.2.2.2.2.2.1
    have e5 : ((n + 1 : Nat) : Int) - 1 = (n : Int) := by push_cast; omega
    rw [shS_put, show ((0 : Nat) : Int) = (0 : Int) from rfl] at e3
    simp (disch := omega) only [p14_0, p14_1, p14_2, p14_5, p14_8, p14_9, p14_10, p14_13, p14_14, p14_15, p14_16, p14_17, p14_20, jwd_c, jwd_0, Nat.reduceLeDiff, Nat.reduceEqDiff, Nat.reduceAdd, Nat.reduceSub, Nat.reduceMul, Int.reduceAdd, Int.reduceSub, Int.reduceMul, Int.reduceNeg, Int.reduceEq, Int.reduceLT, Int.reduceLE, jq_ldi_i, jq_ldl_l, jq_lda_a, jq_inc_i, jq_gs_t, jq_gsb_t, jq_gb_t, jq_gr_2, jq_gr_4, jq_gw_2, jq_s_t, jq_b_t, jg_c, jg_n, js_c, js_n, jrm_c, jrm_n, j2_i, j2_l, j2_a, jq_c_i, jq_c_l, jq_c_0, jq_c_n, jwd_le, jw_c0, mS_I, mS_R, mS_J, mN_I, mN_R, mN_J, mR_I, mI_R, mJ_I, mJ_R, mI_J, mR_J, ↓reduceIte, decide_true, or_true, true_or, and_self, false_or, or_false, reduceCtorEq, Bool.false_eq_true, and_false, false_and, eq_self, true_and, and_true, zero_ne, ↓br_lt_t, ↓br_lt_f, ↓br_eq_t, ↓br_eq_f, ↓br_lz_t, ↓br_lz_f, ↓br_ez_t, ↓br_ez_f, ↓br_gz_t, ↓br_gz_f, jw_id, jin_t, jix_t, h1, h6, e1]
    have e6 : mS (shS w a (n + 1) f) a = (1, 5, 0) := h1
    simp (disch := omega) only [p14_0, p14_1, p14_2, p14_5, p14_8, p14_9, p14_10, p14_13, p14_14, p14_15, p14_16, p14_17, p14_20, jwd_c, jwd_0, Nat.reduceLeDiff, Nat.reduceEqDiff, Nat.reduceAdd, Nat.reduceSub, Nat.reduceMul, Int.reduceAdd, Int.reduceSub, Int.reduceMul, Int.reduceNeg, Int.reduceEq, Int.reduceLT, Int.reduceLE, jq_ldi_i, jq_ldl_l, jq_lda_a, jq_inc_i, jq_gs_t, jq_gsb_t, jq_gb_t, jq_gr_2, jq_gr_4, jq_gw_2, jq_s_t, jq_b_t, jg_c, jg_n, js_c, js_n, jrm_c, jrm_n, j2_i, j2_l, j2_a, jq_c_i, jq_c_l, jq_c_0, jq_c_n, jwd_le, jw_c0, mS_I, mS_R, mS_J, mN_I, mN_R, mN_J, mR_I, mI_R, mJ_I, mJ_R, mI_J, mR_J, ↓reduceIte, decide_true, or_true, true_or, and_self, false_or, or_false, reduceCtorEq, Bool.false_eq_true, and_false, false_and, eq_self, true_and, and_true, zero_ne, ↓br_lt_t, ↓br_lt_f, ↓br_eq_t, ↓br_eq_f, ↓br_lz_t, ↓br_lz_f, ↓br_ez_t, ↓br_ez_f, ↓br_gz_t, ↓br_gz_f, jw_id, jin_t, jix_t, e4, e5, e6, e3, Nat.add_zero]
  · unfold up1
    rw [e2 k hk]
    have hnc : (n + 1) * c = n * c + c := by rw [Nat.add_mul]; omega
    by_cases q1 : k < n * c
    · rw [if_neg (by omega), if_pos q1, if_pos q1]
    · by_cases q2 : k = n * c
      · rw [if_pos q2, if_neg q1, if_pos q2]
      · rw [if_neg q2, if_neg q1, if_neg q1, if_pos (by omega), if_neg q2]
theorem drop_loop {a c r n : Nat} {l : Int} (hr : r * c ≤ 5000) (hn : n + 1 ≤ r) : ∀ (m i : Nat) (w : jmW), i + m = n * c → mS w a = (1, 5, 0) → mS w (a + 1) = (2, 0, r * c) → mR w a 0 = some (a + 1) → mI w a 1 = c → mI w a 3 = n → rn 100 (30, [(0, jvr a), (1, .inl l), (2, .inl i)], [], w) = some (none, setA w (a + 1) (fun k => if i ≤ k ∧ k < n * c then mI w (a + 1) (k + c) else mI w (a + 1) k)) := by
  have hnc : n * c + c ≤ r * c := by
    have : (n + 1) * c ≤ r * c := Nat.mul_le_mul_right c hn
    rw [Nat.add_mul] at this
    omega
  have e1 : (n : Int) * (c : Int) = ((n * c : Nat) : Int) := by push_cast; rfl
  generalize hq : n * c = q at *
  intro m
  induction m with
  | zero =>
    intro i w hi h1 h2 h3 h4 h6
    have e2 : (fun k => if i ≤ k ∧ k < q then mI w (a + 1) (k + c) else mI w (a + 1) k) = mI w (a + 1) := by
      funext k
      exact if_neg (by omega)
    rw [e2, setA_self]
    simp (disch := omega) only [p100_0, p100_1, p100_4, p100_5, p100_6, p100_9, p100_12, p100_13, p100_14i, p100_14a, p100_15, p100_18, p100_19, p100_20, p100_23, p100_24, p100_25, p100_28, p100_29, p100_30, p100_31, p100_32, p100_35, p100_36, p100_39, p100_40, p100_43, p100_44, p100_45, p100_46, p100_47, p100_50, p100_51, p100_54, p100_57, p100_60, jwd_c, jwd_0, Nat.reduceLeDiff, Nat.reduceEqDiff, Nat.reduceAdd, Nat.reduceSub, Nat.reduceMul, Int.reduceAdd, Int.reduceSub, Int.reduceMul, Int.reduceNeg, Int.reduceEq, Int.reduceLT, Int.reduceLE, jq_ldi_i, jq_ldl_l, jq_lda_a, jq_inc_i, jq_gs_t, jq_gsb_t, jq_gb_t, jq_gr_2, jq_gr_4, jq_gw_2, jq_s_t, jq_b_t, jg_c, jg_n, js_c, js_n, jrm_c, jrm_n, j2_i, j2_l, j2_a, jq_c_i, jq_c_l, jq_c_0, jq_c_n, jwd_le, jw_c0, mS_I, mS_R, mS_J, mN_I, mN_R, mN_J, mR_I, mI_R, mJ_I, mJ_R, mI_J, mR_J, ↓reduceIte, decide_true, or_true, true_or, and_self, false_or, or_false, reduceCtorEq, Bool.false_eq_true, and_false, false_and, eq_self, true_and, and_true, zero_ne, ↓br_lt_t, ↓br_lt_f, ↓br_eq_t, ↓br_eq_f, ↓br_lz_t, ↓br_lz_f, ↓br_ez_t, ↓br_ez_f, ↓br_gz_t, ↓br_gz_f, jw_id, jin_t, jix_t, h1, h2, h3, h4, h6, e1]
  | succ m ih =>
    intro i w hi h1 h2 h3 h4 h6
    have e0 : mI (setI w (a + 1) i (mI w (a + 1) (i + c))) a = mI w a := mI_nb (by omega)
    have e3 := ih (i + 1) (setI w (a + 1) i (mI w (a + 1) (i + c))) (by omega) h1 h2 h3 (by rw [e0]; exact h4) (by rw [e0]; exact h6)
    have e5 := sh_shift (t := i) (f := i + c) h1 h2 h3 hr (by omega) (by omega)
    have e6 : (i : Int) + (c : Int) = ((i + c : Nat) : Int) := by push_cast; rfl
    rw [p100_30]
    simp (disch := omega) only [p100_0, p100_1, p100_4, p100_5, p100_6, p100_9, p100_12, p100_13, p100_14i, p100_14a, p100_15, p100_18, p100_19, p100_20, p100_23, p100_24, p100_25, p100_28, p100_29, p100_31, p100_32, p100_35, p100_36, p100_39, p100_40, p100_43, p100_44, p100_45, p100_46, p100_47, p100_50, p100_51, p100_54, p100_57, p100_60, jwd_c, jwd_0, Nat.reduceLeDiff, Nat.reduceEqDiff, Nat.reduceAdd, Nat.reduceSub, Nat.reduceMul, Int.reduceAdd, Int.reduceSub, Int.reduceMul, Int.reduceNeg, Int.reduceEq, Int.reduceLT, Int.reduceLE, jq_ldi_i, jq_ldl_l, jq_lda_a, jq_inc_i, jq_gs_t, jq_gsb_t, jq_gb_t, jq_gr_2, jq_gr_4, jq_gw_2, jq_s_t, jq_b_t, jg_c, jg_n, js_c, js_n, jrm_c, jrm_n, j2_i, j2_l, j2_a, jq_c_i, jq_c_l, jq_c_0, jq_c_n, jwd_le, jw_c0, mS_I, mS_R, mS_J, mN_I, mN_R, mN_J, mR_I, mI_R, mJ_I, mJ_R, mI_J, mR_J, ↓reduceIte, decide_true, or_true, true_or, and_self, false_or, or_false, reduceCtorEq, Bool.false_eq_true, and_false, false_and, eq_self, true_and, and_true, zero_ne, ↓br_lt_t, ↓br_lt_f, ↓br_eq_t, ↓br_eq_f, ↓br_lz_t, ↓br_lz_f, ↓br_ez_t, ↓br_ez_f, ↓br_gz_t, ↓br_gz_f, jw_id, jin_t, jix_t, h1, h2, h3, h4, h6, e1, e5, e6]
    rw [show ((i : Int) + 1) = ((i + 1 : Nat) : Int) by push_cast; rfl, e3]
    rw [setI_A, setA_A]
    congr 2
    refine setA_f (fun k => ?_)
    rw [mI_A]
    unfold up1
    by_cases hk : i + 1 ≤ k ∧ k < q
    · rw [if_pos hk, if_neg (show ¬ k + c = i by omega), if_pos (show i ≤ k ∧ k < q by omega)]
    · rw [if_neg hk]
      by_cases hk2 : k = i
      · subst hk2
        rw [if_pos rfl, if_pos (show k ≤ k ∧ k < q by omega)]
      · rw [if_neg hk2, if_neg (show ¬ (i ≤ k ∧ k < q) by omega)]
theorem sh_drop {w : jmW} {a c r n L : Nat} {F : List Int} (h : Sh w a c r F (n + 1)) (hL : L ≤ n) : ∃ f, rn 100 (0, [(0, jvr a), (1, .inl L)], [], w) = some (none, shS w a n f) ∧ ∀ k, k < n * c → f k = if k < L * c then F.getD k 0 else F.getD (k + c) 0 := by
  obtain ⟨b1, b2, b3, b4, b5⟩ := h.bd
  obtain ⟨h1, h2, h3, h4, h5, h6, h7, h8, h9, h10, h11⟩ := h
  have hLn : L * c ≤ n * c := Nat.mul_le_mul_right c hL
  have hnc : (n + 1) * c = n * c + c := by rw [Nat.add_mul]; omega
  have e1 := drop_loop (a := a) (c := c) (r := r) (n := n) (l := (L : Int)) h10 h8 (n * c - L * c) (L * c) (setI w a 3 n) (by omega) h1 h2 h3 (by rw [mI_nk (by omega)]; exact h4) (mI_s _ _ _ _)
  have e2 : ((n + 1 : Nat) : Int) - 1 = (n : Int) := by push_cast; omega
  have e3 : (L : Int) * (c : Int) = ((L * c : Nat) : Int) := by push_cast; rfl
  refine ⟨fun k => if L * c ≤ k ∧ k < n * c then mI (setI w a 3 n) (a + 1) (k + c) else mI (setI w a 3 n) (a + 1) k, ?_, fun k hk => ?_⟩
  · have e4 : mI (setI w a 3 n) a 1 = mI w a 1 := mI_nk (by omega)
    simp (disch := omega) only [p100_0, p100_1, p100_4, p100_5, p100_6, p100_9, p100_12, p100_13, p100_14i, p100_14a, p100_15, p100_18, p100_19, p100_20, p100_23, p100_24, p100_25, p100_28, p100_29, p100_31, p100_32, p100_35, p100_36, p100_39, p100_40, p100_43, p100_44, p100_45, p100_46, p100_47, p100_50, p100_51, p100_54, p100_57, p100_60, jwd_c, jwd_0, Nat.reduceLeDiff, Nat.reduceEqDiff, Nat.reduceAdd, Nat.reduceSub, Nat.reduceMul, Int.reduceAdd, Int.reduceSub, Int.reduceMul, Int.reduceNeg, Int.reduceEq, Int.reduceLT, Int.reduceLE, jq_ldi_i, jq_ldl_l, jq_lda_a, jq_inc_i, jq_gs_t, jq_gsb_t, jq_gb_t, jq_gr_2, jq_gr_4, jq_gw_2, jq_s_t, jq_b_t, jg_c, jg_n, js_c, js_n, jrm_c, jrm_n, j2_i, j2_l, j2_a, jq_c_i, jq_c_l, jq_c_0, jq_c_n, jwd_le, jw_c0, mS_I, mS_R, mS_J, mN_I, mN_R, mN_J, mR_I, mI_R, mJ_I, mJ_R, mI_J, mR_J, ↓reduceIte, decide_true, or_true, true_or, and_self, false_or, or_false, reduceCtorEq, Bool.false_eq_true, and_false, false_and, eq_self, true_and, and_true, zero_ne, ↓br_lt_t, ↓br_lt_f, ↓br_eq_t, ↓br_eq_f, ↓br_lz_t, ↓br_lz_f, ↓br_ez_t, ↓br_ez_f, ↓br_gz_t, ↓br_gz_f, jw_id, jin_t, jix_t, h1, h4, h6, e2, e3, e4]
    exact e1
  · show (if L * c ≤ k ∧ k < n * c then _ else _) = _
    by_cases q : k < L * c
    · rw [if_neg (by omega), if_pos q, mI_nb (by omega)]
      exact h11 k (by omega)
    · rw [if_pos (by omega), if_neg q, mI_nb (by omega)]
      exact h11 (k + c) (by omega)
theorem sh_copy {w : jmW} {a b c r r2 n m : Nat} {F G : List Int} (h : Sh w a c r F n) (g : Sh w b c r2 G m) (hm : m ≤ r) (hab : a ≠ b) : ∃ f, rn 54 (0, [(0, jvr a), (1, jvr b)], [], w) = some (none, shS w a m f) ∧ ∀ k, k < m * c → f k = G.getD k 0 := by
  obtain ⟨b1, b2, b3, b4, b5⟩ := h.bd
  obtain ⟨d1, d2, d3, d4, d5⟩ := g.bd
  obtain ⟨h1, h2, h3, h4, h5, h6, h7, h8, h9, h10, h11⟩ := h
  obtain ⟨g1, g2, g3, g4, g5, g6, g7, g8, g9, g10, g11⟩ := g
  have hb : a + 1 ≠ b := by
    intro z
    rw [z, g1] at h2
    cases h2
  have ha : b + 1 ≠ a := by
    intro z
    rw [z, h1] at g2
    cases g2
  have hmc : m * c ≤ r * c := Nat.mul_le_mul_right c hm
  have e1 : min (m : Int) (r : Int) = m := by omega
  have e2 : (m : Int) * (c : Int) = ((m * c : Nat) : Int) := by push_cast; rfl
  have e3 : min ((m * c : Nat) : Int) (min ((r * c : Nat) : Int) ((r2 * c : Nat) : Int)) = ((m * c : Nat) : Int) := by omega
  have e4 : mI (setI w a 3 m) a 1 = mI w a 1 := mI_nk (by omega)
  refine ⟨fun j => if 0 ≤ j ∧ j < 0 + m * c then mI w (b + 1) (0 + (j - 0)) else mI w (a + 1) j, ?_, fun k hk => ?_⟩
  · have e5 : cpyI (setI w a 3 m) (b + 1) 0 (a + 1) 0 (m * c) = shS w a m (fun j => if 0 ≤ j ∧ j < 0 + m * c then mI w (b + 1) (0 + (j - 0)) else mI w (a + 1) j) := by
      have e6 : mI (setI w a 3 m) (b + 1) = mI w (b + 1) := mI_nb (by omega)
      have e7 : mI (setI w a 3 m) (a + 1) = mI w (a + 1) := mI_nb (by omega)
      unfold shS
      rw [← e6, ← e7]
      rfl
    simp (disch := omega) only [p54_0, p54_1n, p54_1s, p54_4, p54_5, p54_8, p54_9, p54_12, p54_15, p54_16, p54_17, p54_18, p54_21, p54_22, p54_25, p54_28, p54_31, p54_32, p54_35, p54_36, p54_39, p54_40, p54_41, p54_44, p54_45, p54_46, p54_49, p54_50, p54_53, p54_56, p54_57, p54_58, p54_61, p54_62, p54_63, p54_66, p54_67, p54_68, p54_71, jwd_c, jwd_0, Nat.reduceLeDiff, Nat.reduceEqDiff, Nat.reduceAdd, Nat.reduceSub, Nat.reduceMul, Int.reduceAdd, Int.reduceSub, Int.reduceMul, Int.reduceNeg, Int.reduceEq, Int.reduceLT, Int.reduceLE, jq_ldi_i, jq_ldl_l, jq_lda_a, jq_inc_i, jq_gs_t, jq_gsb_t, jq_gb_t, jq_gr_2, jq_gr_4, jq_gw_2, jq_s_t, jq_b_t, jg_c, jg_n, js_c, js_n, jrm_c, jrm_n, j2_i, j2_l, j2_a, jq_c_i, jq_c_l, jq_c_0, jq_c_n, jwd_le, jw_c0, mS_I, mS_R, mS_J, mN_I, mN_R, mN_J, mR_I, mI_R, mJ_I, mJ_R, mI_J, mR_J, ↓reduceIte, decide_true, or_true, true_or, and_self, false_or, or_false, reduceCtorEq, Bool.false_eq_true, and_false, false_and, eq_self, true_and, and_true, zero_ne, ↓br_lt_t, ↓br_lt_f, ↓br_eq_t, ↓br_eq_f, ↓br_lz_t, ↓br_lz_f, ↓br_ez_t, ↓br_ez_f, ↓br_gz_t, ↓br_gz_f, jw_id, jin_t, jix_t, h1, h2, h3, h4, h5, h6, g1, g2, g3, g4, g6, mm_min, e1, e2, e3, e4, mI_s]
    rw [p54_68 _ _ _ _ _ _ _ _ (by omega) (by decide), p54_71, mS_I, h2, g2]
    unfold jq_cp
    rw [jw_id (z := ((m * c : Nat) : Int)) (by omega) (by omega), jw_c0, if_pos ⟨rfl, rfl, rfl, rfl, by omega, by omega, by omega, by simp only; omega, by simp only; omega⟩, ← e5, jix_t (by omega) (by omega), jix_t (by omega) (by omega), Int.toNat_natCast, Int.toNat_zero]
  · show (if 0 ≤ k ∧ k < 0 + m * c then _ else _) = _
    rw [if_pos (by omega), Nat.zero_add, Nat.sub_zero]
    exact g11 k (by omega)
