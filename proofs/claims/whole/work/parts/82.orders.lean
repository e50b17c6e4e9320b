/-! The class: orders. -/
def gOw (r f : Nat → Int) : Nat → Int → (Nat → Int) → Nat → Int
  | 0, _, q => q
  | m + 1, i, q => gOw r f m (i + 1) (gTake q r i (f i.toNat))
section BOD
variable (H : Nat → Nat → Int) (S q g r : Nat → Int) (n : Nat)
noncomputable def gOo (f : Nat → Int) : Int := (gFr H (H 0 6) S (-1) 12 (gZ0 (gOw r f (n - 1) 1 q) g)).1.2.2.1
noncomputable def gBo : Nat → (Nat → Int) → Int → (Nat → Int) → Int × (Nat → Int)
  | 0, _, l, b => (l, b)
  | k + 1, f, l, b => match gNx n f with
    | none => if gOo H S q g r n f < l then (gOo H S q g r n f, f) else (l, b)
    | some f2 => if gOo H S q g r n f < l then gBo k f2 (gOo H S q g r n f) f else gBo k f2 l b
noncomputable def gBs : Int × (Nat → Int) := gBo H S q g r n 720 (gId n) 100 (gId n)
end BOD
noncomputable def A25 (H : Nat → Nat → Int) (S q g r : Nat → Int) : Int × Int := if r 289 ≤ 7 then ((gBs H S q g r (r 289).toNat).1, 0) else (-1, 3)
noncomputable def A26 (H : Nat → Nat → Int) (S q g r : Nat → Int) (i : Int) : Int × Int := if 1 ≤ i ∧ i < r 289 then (if r 289 ≤ 7 then ((gBs H S q g r (r 289).toNat).2 i.toNat, 0) else (-1, 3)) else (-1, 1)
/-- the order tried -/
def ON (w : jmW) (n : Nat) (f : Nat → Int) : Prop := mS w 231 = (1, 2, 0) ∧ mR w 231 0 = some 232 ∧ mR w 231 1 = some 234 ∧ Sg w 232 1 8 n (fun i _ => f i)
def oP : Nat → Prop := fun b => (118 ≤ b ∧ b ≤ 135) ∨ (231 ≤ b ∧ b ≤ 235)
section ORD
variable {w u : jmW} {H : Nat → Nat → Int} {r S q g f : Nat → Int} {B Bt : Int} {n : Nat}
theorem ON.fr {P : Nat → Prop} (h : ON w n f) (hf : Fr P w u) (hP : ∀ b, 231 ≤ b → b ≤ 233 → ¬ P b) : ON u n f := by
  obtain ⟨h1, h2, h3, h4⟩ := h
  exact ⟨by rw [hf.q]; exact h1, by rw [hf.Rq (hP _ (by omega) (by omega))]; exact h2, by rw [hf.Rq (hP _ (by omega) (by omega))]; exact h3, h4.fr hf (hP _ (by omega) (by omega)) (hP _ (by omega) (by omega))⟩
theorem o_swap (h : ON w n f) {i j : Nat} (hi : i < n) (hj : j < n) : ∃ u, rn 127 (0, [(0, jvr 231), (1, .inl (i : Int)), (2, .inl (j : Int))], [], w) = some (none, u) ∧ ON u n (gSwf f i j) ∧ Fr (sP 232) w u := by
  obtain ⟨h1, h2, h3, h4⟩ := h
  have hn := h4.2.2.2.2.2.2.1
  have e1 := sg_in h4 (l := (i : Int)) (k := 0) (by omega) (by omega) (by omega) (by omega)
  have e2 := sg_in h4 (l := (j : Int)) (k := 0) (by omega) (by omega) (by omega) (by omega)
  rw [Int.toNat_natCast] at e1 e2
  obtain ⟨w1, e3, s3, f3⟩ := sg_put (v := f j) h4 (l := (i : Int)) (k := 0) (by omega) (by omega) (by omega) (by omega)
  obtain ⟨w2, e4, s4, f4⟩ := sg_put (v := f i) s3 (l := (j : Int)) (k := 0) (by omega) (by omega) (by omega) (by omega)
  have f34 : Fr (sP 232) w w2 := f3.tr f4
  have x1 := f3.q
  have x2 := f3.Rq (b := 231) (sP_n (by omega))
  have x3 := h4.1
  refine ⟨w2, ?_, ⟨by rw [f34.q]; exact h1, by rw [f34.Rq (sP_n (by omega))]; exact h2, by rw [f34.Rq (sP_n (by omega))]; exact h3, s4.mk2 (fun x y hx hy => ?_)⟩, f34⟩
  · simp (disch := omega) only [p127_0, p127_1, p127_4, p127_5, p127_6, p127_9, p127_10, p127_11, p127_14, p127_15, p127_16, p127_17, p127_20, p127_21, p127_22, p127_25, p127_28, p127_29, p127_32, p127_33, p127_34, p127_35, p127_38, jwd_c, jwd_0, Nat.reduceLeDiff, Nat.reduceEqDiff, Nat.reduceAdd, Nat.reduceSub, Nat.reduceMul, Int.reduceAdd, Int.reduceSub, Int.reduceMul, Int.reduceNeg, Int.reduceEq, Int.reduceLT, Int.reduceLE, jq_ldi_i, jq_ldl_l, jq_lda_a, jq_inc_i, jq_gs_t, jq_gsb_t, jq_gb_t, jq_gr_2, jq_gr_4, jq_gw_2, jq_s_t, jq_b_t, jg_c, jg_n, js_c, js_n, jrm_c, jrm_n, j2_i, j2_l, j2_a, jq_c_i, jq_c_l, jq_c_0, jq_c_n, jwd_le, jw_c0, mS_I, mS_R, mS_J, mN_I, mN_R, mN_J, mR_I, mI_R, mJ_I, mJ_R, mI_J, mR_J, ↓reduceIte, decide_true, or_true, true_or, and_self, false_or, or_false, reduceCtorEq, Bool.false_eq_true, and_false, false_and, eq_self, true_and, and_true, zero_ne, ↓br_lt_t, ↓br_lt_f, ↓br_eq_t, ↓br_eq_f, ↓br_lz_t, ↓br_lz_f, ↓br_ez_t, ↓br_ez_f, ↓br_gz_t, ↓br_gz_f, jw_id, jin_t, jix_t, ↓ite_t, ↓ite_f, h1, h2, x1, x2, x3, e1, e2, e3, e4]
  · show (if x = ((j : Int)).toNat ∧ y = (0 : Int).toNat then f i else if x = ((i : Int)).toNat ∧ y = (0 : Int).toNat then f j else f x) = gSwf f i j x
    have y0 : y = (0 : Int).toNat := by
      show y = 0
      omega
    unfold gSwf
    by_cases z : x = j
    · rw [if_pos ⟨by omega, y0⟩, z, up1_s]
    · rw [if_neg (fun k => z (by have := k.1; omega)), up1_n z]
      by_cases z2 : x = i
      · rw [if_pos ⟨by omega, y0⟩, z2, up1_s]
      · rw [if_neg (fun k => z2 (by have := k.1; omega)), up1_n z2]
theorem nx1_lp (h : ON w n f) (hp : PF n f) {l : Int} : ∀ m : Nat, m + 1 < n → rn 126 (14, [(0, jvr 231), (1, .inl l), (2, .inl (m : Int))], [], w) = rn 126 (48, [(0, jvr 231), (1, .inl l), (2, .inl (gRs f m : Int))], [], w) := by
  obtain ⟨h1, h2, h3, h4⟩ := h
  have hn := h4.2.2.2.2.2.2.1
  have x3 := h4.1
  intro m
  induction m with
  | zero =>
    intro hm
    have e : gRs f 0 = 0 := rfl
    rw [e, p126_14]
    simp (disch := omega) only [p126_0, p126_1, p126_4, p126_7, p126_8, p126_9, p126_10, p126_11, p126_12, p126_13, p126_15, p126_16, p126_19, p126_20, p126_23, p126_24, p126_25, p126_28, p126_29, p126_32, p126_33, p126_34, p126_35, p126_36, p126_39, p126_42, p126_45, p126_49, p126_50, p126_53, p126_54, p126_55, p126_56, p126_58, p126_59, p126_62, p126_63, p126_66, p126_67, p126_68, p126_71, p126_72, p126_75, p126_76, p126_77, p126_80, p126_83, p126_86, p126_90, p126_91, p126_92, p126_95, p126_96, p126_98, p126_99, p126_100, p126_101, p126_105, p126_107, p126_110, p126_111, p126_113, p126_115, p126_118, p126_121, p126_124, p126_127, p126_128, jwd_c, jwd_0, Nat.reduceLeDiff, Nat.reduceEqDiff, Nat.reduceAdd, Nat.reduceSub, Nat.reduceMul, Int.reduceAdd, Int.reduceSub, Int.reduceMul, Int.reduceNeg, Int.reduceEq, Int.reduceLT, Int.reduceLE, jq_ldi_i, jq_ldl_l, jq_lda_a, jq_inc_i, jq_gs_t, jq_gsb_t, jq_gb_t, jq_gr_2, jq_gr_4, jq_gw_2, jq_s_t, jq_b_t, jg_c, jg_n, js_c, js_n, jrm_c, jrm_n, j2_i, j2_l, j2_a, jq_c_i, jq_c_l, jq_c_0, jq_c_n, jwd_le, jw_c0, mS_I, mS_R, mS_J, mN_I, mN_R, mN_J, mR_I, mI_R, mJ_I, mJ_R, mI_J, mR_J, ↓reduceIte, decide_true, or_true, true_or, and_self, false_or, or_false, reduceCtorEq, Bool.false_eq_true, and_false, false_and, eq_self, true_and, and_true, zero_ne, ↓br_lt_t, ↓br_lt_f, ↓br_eq_t, ↓br_eq_f, ↓br_lz_t, ↓br_lz_f, ↓br_ez_t, ↓br_ez_f, ↓br_gz_t, ↓br_gz_f, jw_id, jin_t, jix_t, ↓ite_t, ↓ite_f]
  | succ m ih =>
    intro hm
    have e : gRs f (m + 1) = if f (m + 2) < f (m + 1) then gRs f m else m + 1 := rfl
    have p1 := hp (m + 1) (by omega)
    have p2 := hp (m + 2) (by omega)
    have c1 : ((m + 1 : Nat) : Int) = (m : Int) + 1 := by omega
    have e1 := sg_in h4 (l := (m : Int) + 1) (k := 0) (by omega) (by omega) (by omega) (by omega)
    have e2 := sg_in h4 (l := (m : Int) + 1 + 1) (k := 0) (by omega) (by omega) (by omega) (by omega)
    rw [show ((m : Int) + 1).toNat = m + 1 by omega] at e1
    rw [show ((m : Int) + 1 + 1).toNat = m + 2 by omega] at e2
    rw [e]
    by_cases z : f (m + 2) < f (m + 1)
    · rw [if_pos z, ← ih (by omega), c1, p126_14]
      simp (disch := omega) only [p126_0, p126_1, p126_4, p126_7, p126_8, p126_9, p126_10, p126_11, p126_12, p126_13, p126_15, p126_16, p126_19, p126_20, p126_23, p126_24, p126_25, p126_28, p126_29, p126_32, p126_33, p126_34, p126_35, p126_36, p126_39, p126_42, p126_45, p126_49, p126_50, p126_53, p126_54, p126_55, p126_56, p126_58, p126_59, p126_62, p126_63, p126_66, p126_67, p126_68, p126_71, p126_72, p126_75, p126_76, p126_77, p126_80, p126_83, p126_86, p126_90, p126_91, p126_92, p126_95, p126_96, p126_98, p126_99, p126_100, p126_101, p126_105, p126_107, p126_110, p126_111, p126_113, p126_115, p126_118, p126_121, p126_124, p126_127, p126_128, jwd_c, jwd_0, Nat.reduceLeDiff, Nat.reduceEqDiff, Nat.reduceAdd, Nat.reduceSub, Nat.reduceMul, Int.reduceAdd, Int.reduceSub, Int.reduceMul, Int.reduceNeg, Int.reduceEq, Int.reduceLT, Int.reduceLE, jq_ldi_i, jq_ldl_l, jq_lda_a, jq_inc_i, jq_gs_t, jq_gsb_t, jq_gb_t, jq_gr_2, jq_gr_4, jq_gw_2, jq_s_t, jq_b_t, jg_c, jg_n, js_c, js_n, jrm_c, jrm_n, j2_i, j2_l, j2_a, jq_c_i, jq_c_l, jq_c_0, jq_c_n, jwd_le, jw_c0, mS_I, mS_R, mS_J, mN_I, mN_R, mN_J, mR_I, mI_R, mJ_I, mJ_R, mI_J, mR_J, ↓reduceIte, decide_true, or_true, true_or, and_self, false_or, or_false, reduceCtorEq, Bool.false_eq_true, and_false, false_and, eq_self, true_and, and_true, zero_ne, ↓br_lt_t, ↓br_lt_f, ↓br_eq_t, ↓br_eq_f, ↓br_lz_t, ↓br_lz_f, ↓br_ez_t, ↓br_ez_f, ↓br_gz_t, ↓br_gz_f, jw_id, jin_t, jix_t, ↓ite_t, ↓ite_f, h1, h2, x3, e1, e2]
      rw [show (m : Int) + 1 + -1 = (m : Int) by omega]
    · rw [if_neg z, c1, p126_14]
      simp (disch := omega) only [p126_0, p126_1, p126_4, p126_7, p126_8, p126_9, p126_10, p126_11, p126_12, p126_13, p126_15, p126_16, p126_19, p126_20, p126_23, p126_24, p126_25, p126_28, p126_29, p126_32, p126_33, p126_34, p126_35, p126_36, p126_39, p126_42, p126_45, p126_49, p126_50, p126_53, p126_54, p126_55, p126_56, p126_58, p126_59, p126_62, p126_63, p126_66, p126_67, p126_68, p126_71, p126_72, p126_75, p126_76, p126_77, p126_80, p126_83, p126_86, p126_90, p126_91, p126_92, p126_95, p126_96, p126_98, p126_99, p126_100, p126_101, p126_105, p126_107, p126_110, p126_111, p126_113, p126_115, p126_118, p126_121, p126_124, p126_127, p126_128, jwd_c, jwd_0, Nat.reduceLeDiff, Nat.reduceEqDiff, Nat.reduceAdd, Nat.reduceSub, Nat.reduceMul, Int.reduceAdd, Int.reduceSub, Int.reduceMul, Int.reduceNeg, Int.reduceEq, Int.reduceLT, Int.reduceLE, jq_ldi_i, jq_ldl_l, jq_lda_a, jq_inc_i, jq_gs_t, jq_gsb_t, jq_gb_t, jq_gr_2, jq_gr_4, jq_gw_2, jq_s_t, jq_b_t, jg_c, jg_n, js_c, js_n, jrm_c, jrm_n, j2_i, j2_l, j2_a, jq_c_i, jq_c_l, jq_c_0, jq_c_n, jwd_le, jw_c0, mS_I, mS_R, mS_J, mN_I, mN_R, mN_J, mR_I, mI_R, mJ_I, mJ_R, mI_J, mR_J, ↓reduceIte, decide_true, or_true, true_or, and_self, false_or, or_false, reduceCtorEq, Bool.false_eq_true, and_false, false_and, eq_self, true_and, and_true, zero_ne, ↓br_lt_t, ↓br_lt_f, ↓br_eq_t, ↓br_eq_f, ↓br_lz_t, ↓br_lz_f, ↓br_ez_t, ↓br_ez_f, ↓br_gz_t, ↓br_gz_f, jw_id, jin_t, jix_t, ↓ite_t, ↓ite_f, h1, h2, x3, e1, e2]
theorem nx2_lp (h : ON w n f) (hp : PF n f) {l : Int} {i : Nat} (hi : f i ≤ f (i + 1)) (hin : i + 1 < n) : ∀ m : Nat, i + 1 ≤ m → m < n → rn 126 (57, [(0, jvr 231), (1, .inl l), (2, .inl (i : Int)), (3, .inl (m : Int))], [], w) = rn 126 (89, [(0, jvr 231), (1, .inl l), (2, .inl (i : Int)), (3, .inl (gOj f i m : Int))], [], w) := by
  obtain ⟨h1, h2, h3, h4⟩ := h
  have hn := h4.2.2.2.2.2.2.1
  have x3 := h4.1
  intro m
  induction m with
  | zero =>
    intro hm
    omega
  | succ m ih =>
    intro hm hm2
    have e : gOj f i (m + 1) = if f (m + 1) < f i then gOj f i m else m + 1 := rfl
    have p1 := hp (m + 1) (by omega)
    have p2 := hp i (by omega)
    have c1 : ((m + 1 : Nat) : Int) = (m : Int) + 1 := by omega
    have e1 := sg_in h4 (l := (m : Int) + 1) (k := 0) (by omega) (by omega) (by omega) (by omega)
    have e2 := sg_in h4 (l := (i : Int)) (k := 0) (by omega) (by omega) (by omega) (by omega)
    rw [show ((m : Int) + 1).toNat = m + 1 by omega] at e1
    rw [Int.toNat_natCast] at e2
    rw [e]
    by_cases z : f (m + 1) < f i
    · have hne : m ≠ i := fun y => by
        subst y
        omega
      rw [if_pos z, ← ih (by omega) (by omega), c1, p126_57]
      simp (disch := omega) only [p126_0, p126_1, p126_4, p126_7, p126_8, p126_9, p126_10, p126_11, p126_12, p126_13, p126_15, p126_16, p126_19, p126_20, p126_23, p126_24, p126_25, p126_28, p126_29, p126_32, p126_33, p126_34, p126_35, p126_36, p126_39, p126_42, p126_45, p126_49, p126_50, p126_53, p126_54, p126_55, p126_56, p126_58, p126_59, p126_62, p126_63, p126_66, p126_67, p126_68, p126_71, p126_72, p126_75, p126_76, p126_77, p126_80, p126_83, p126_86, p126_90, p126_91, p126_92, p126_95, p126_96, p126_98, p126_99, p126_100, p126_101, p126_105, p126_107, p126_110, p126_111, p126_113, p126_115, p126_118, p126_121, p126_124, p126_127, p126_128, jwd_c, jwd_0, Nat.reduceLeDiff, Nat.reduceEqDiff, Nat.reduceAdd, Nat.reduceSub, Nat.reduceMul, Int.reduceAdd, Int.reduceSub, Int.reduceMul, Int.reduceNeg, Int.reduceEq, Int.reduceLT, Int.reduceLE, jq_ldi_i, jq_ldl_l, jq_lda_a, jq_inc_i, jq_gs_t, jq_gsb_t, jq_gb_t, jq_gr_2, jq_gr_4, jq_gw_2, jq_s_t, jq_b_t, jg_c, jg_n, js_c, js_n, jrm_c, jrm_n, j2_i, j2_l, j2_a, jq_c_i, jq_c_l, jq_c_0, jq_c_n, jwd_le, jw_c0, mS_I, mS_R, mS_J, mN_I, mN_R, mN_J, mR_I, mI_R, mJ_I, mJ_R, mI_J, mR_J, ↓reduceIte, decide_true, or_true, true_or, and_self, false_or, or_false, reduceCtorEq, Bool.false_eq_true, and_false, false_and, eq_self, true_and, and_true, zero_ne, ↓br_lt_t, ↓br_lt_f, ↓br_eq_t, ↓br_eq_f, ↓br_lz_t, ↓br_lz_f, ↓br_ez_t, ↓br_ez_f, ↓br_gz_t, ↓br_gz_f, jw_id, jin_t, jix_t, ↓ite_t, ↓ite_f, h1, h2, x3, e1, e2]
      rw [show (m : Int) + 1 + -1 = (m : Int) by omega]
    · rw [if_neg z, c1, p126_57]
      simp (disch := omega) only [p126_0, p126_1, p126_4, p126_7, p126_8, p126_9, p126_10, p126_11, p126_12, p126_13, p126_15, p126_16, p126_19, p126_20, p126_23, p126_24, p126_25, p126_28, p126_29, p126_32, p126_33, p126_34, p126_35, p126_36, p126_39, p126_42, p126_45, p126_49, p126_50, p126_53, p126_54, p126_55, p126_56, p126_58, p126_59, p126_62, p126_63, p126_66, p126_67, p126_68, p126_71, p126_72, p126_75, p126_76, p126_77, p126_80, p126_83, p126_86, p126_90, p126_91, p126_92, p126_95, p126_96, p126_98, p126_99, p126_100, p126_101, p126_105, p126_107, p126_110, p126_111, p126_113, p126_115, p126_118, p126_121, p126_124, p126_127, p126_128, jwd_c, jwd_0, Nat.reduceLeDiff, Nat.reduceEqDiff, Nat.reduceAdd, Nat.reduceSub, Nat.reduceMul, Int.reduceAdd, Int.reduceSub, Int.reduceMul, Int.reduceNeg, Int.reduceEq, Int.reduceLT, Int.reduceLE, jq_ldi_i, jq_ldl_l, jq_lda_a, jq_inc_i, jq_gs_t, jq_gsb_t, jq_gb_t, jq_gr_2, jq_gr_4, jq_gw_2, jq_s_t, jq_b_t, jg_c, jg_n, js_c, js_n, jrm_c, jrm_n, j2_i, j2_l, j2_a, jq_c_i, jq_c_l, jq_c_0, jq_c_n, jwd_le, jw_c0, mS_I, mS_R, mS_J, mN_I, mN_R, mN_J, mR_I, mI_R, mJ_I, mJ_R, mI_J, mR_J, ↓reduceIte, decide_true, or_true, true_or, and_self, false_or, or_false, reduceCtorEq, Bool.false_eq_true, and_false, false_and, eq_self, true_and, and_true, zero_ne, ↓br_lt_t, ↓br_lt_f, ↓br_eq_t, ↓br_eq_f, ↓br_lz_t, ↓br_lz_f, ↓br_ez_t, ↓br_ez_f, ↓br_gz_t, ↓br_gz_f, jw_id, jin_t, jix_t, ↓ite_t, ↓ite_f, h1, h2, x3, e1, e2]
theorem nx3_lp {l i j : Int} : ∀ (k : Nat) (f : Nat → Int) (a b : Nat) (w : jmW), ON w n f → b < n → a ≤ n → b < a + k → ∃ u, rn 126 (103, [(0, jvr 231), (1, .inl l), (2, .inl i), (3, .inl j), (4, .inl (b : Int)), (5, .inl (a : Int))], [], w) = some (some (.inl 1), u) ∧ ON u n (gRv k f a b) ∧ Fr (sP 232) w u := by
  intro k
  induction k with
  | zero =>
    intro f a b w h hb ha hk
    have hn := h.2.2.2.2.2.2.2.2.2.1
    refine ⟨w, ?_, h, Fr.rf _ _⟩
    rw [p126_103]
    simp (disch := omega) only [p126_0, p126_1, p126_4, p126_7, p126_8, p126_9, p126_10, p126_11, p126_12, p126_13, p126_15, p126_16, p126_19, p126_20, p126_23, p126_24, p126_25, p126_28, p126_29, p126_32, p126_33, p126_34, p126_35, p126_36, p126_39, p126_42, p126_45, p126_49, p126_50, p126_53, p126_54, p126_55, p126_56, p126_58, p126_59, p126_62, p126_63, p126_66, p126_67, p126_68, p126_71, p126_72, p126_75, p126_76, p126_77, p126_80, p126_83, p126_86, p126_90, p126_91, p126_92, p126_95, p126_96, p126_98, p126_99, p126_100, p126_101, p126_105, p126_107, p126_110, p126_111, p126_113, p126_115, p126_118, p126_121, p126_124, p126_127, p126_128, jwd_c, jwd_0, Nat.reduceLeDiff, Nat.reduceEqDiff, Nat.reduceAdd, Nat.reduceSub, Nat.reduceMul, Int.reduceAdd, Int.reduceSub, Int.reduceMul, Int.reduceNeg, Int.reduceEq, Int.reduceLT, Int.reduceLE, jq_ldi_i, jq_ldl_l, jq_lda_a, jq_inc_i, jq_gs_t, jq_gsb_t, jq_gb_t, jq_gr_2, jq_gr_4, jq_gw_2, jq_s_t, jq_b_t, jg_c, jg_n, js_c, js_n, jrm_c, jrm_n, j2_i, j2_l, j2_a, jq_c_i, jq_c_l, jq_c_0, jq_c_n, jwd_le, jw_c0, mS_I, mS_R, mS_J, mN_I, mN_R, mN_J, mR_I, mI_R, mJ_I, mJ_R, mI_J, mR_J, ↓reduceIte, decide_true, or_true, true_or, and_self, false_or, or_false, reduceCtorEq, Bool.false_eq_true, and_false, false_and, eq_self, true_and, and_true, zero_ne, ↓br_lt_t, ↓br_lt_f, ↓br_eq_t, ↓br_eq_f, ↓br_lz_t, ↓br_lz_f, ↓br_ez_t, ↓br_ez_f, ↓br_gz_t, ↓br_gz_f, jw_id, jin_t, jix_t, ↓ite_t, ↓ite_f]
  | succ k ih =>
    intro f a b w h hb ha hk
    have hn := h.2.2.2.2.2.2.2.2.2.1
    have e : gRv (k + 1) f a b = if a < b then gRv k (gSwf f a b) (a + 1) (b - 1) else f := rfl
    rw [e]
    by_cases z : a < b
    · rw [if_pos z]
      obtain ⟨w1, e1, h1, f1⟩ := o_swap h (i := a) (j := b) (by omega) hb
      obtain ⟨u, e2, h2, f2⟩ := ih (gSwf f a b) (a + 1) (b - 1) w1 h1 (by omega) (by omega) (by omega)
      refine ⟨u, ?_, h2, f1.tr f2⟩
      rw [← e2, p126_103]
      have hs := h.1
      simp (disch := omega) only [p126_0, p126_1, p126_4, p126_7, p126_8, p126_9, p126_10, p126_11, p126_12, p126_13, p126_15, p126_16, p126_19, p126_20, p126_23, p126_24, p126_25, p126_28, p126_29, p126_32, p126_33, p126_34, p126_35, p126_36, p126_39, p126_42, p126_45, p126_49, p126_50, p126_53, p126_54, p126_55, p126_56, p126_58, p126_59, p126_62, p126_63, p126_66, p126_67, p126_68, p126_71, p126_72, p126_75, p126_76, p126_77, p126_80, p126_83, p126_86, p126_90, p126_91, p126_92, p126_95, p126_96, p126_98, p126_99, p126_100, p126_101, p126_105, p126_107, p126_110, p126_111, p126_113, p126_115, p126_118, p126_121, p126_124, p126_127, p126_128, jwd_c, jwd_0, Nat.reduceLeDiff, Nat.reduceEqDiff, Nat.reduceAdd, Nat.reduceSub, Nat.reduceMul, Int.reduceAdd, Int.reduceSub, Int.reduceMul, Int.reduceNeg, Int.reduceEq, Int.reduceLT, Int.reduceLE, jq_ldi_i, jq_ldl_l, jq_lda_a, jq_inc_i, jq_gs_t, jq_gsb_t, jq_gb_t, jq_gr_2, jq_gr_4, jq_gw_2, jq_s_t, jq_b_t, jg_c, jg_n, js_c, js_n, jrm_c, jrm_n, j2_i, j2_l, j2_a, jq_c_i, jq_c_l, jq_c_0, jq_c_n, jwd_le, jw_c0, mS_I, mS_R, mS_J, mN_I, mN_R, mN_J, mR_I, mI_R, mJ_I, mJ_R, mI_J, mR_J, ↓reduceIte, decide_true, or_true, true_or, and_self, false_or, or_false, reduceCtorEq, Bool.false_eq_true, and_false, false_and, eq_self, true_and, and_true, zero_ne, ↓br_lt_t, ↓br_lt_f, ↓br_eq_t, ↓br_eq_f, ↓br_lz_t, ↓br_lz_f, ↓br_ez_t, ↓br_ez_f, ↓br_gz_t, ↓br_gz_f, jw_id, jin_t, jix_t, ↓ite_t, ↓ite_f, hs, e1]
      rw [show (b : Int) + -1 = ((b - 1 : Nat) : Int) by omega, show (a : Int) + 1 = ((a + 1 : Nat) : Int) by omega]
    · rw [if_neg z]
      refine ⟨w, ?_, h, Fr.rf _ _⟩
      rw [p126_103]
      simp (disch := omega) only [p126_0, p126_1, p126_4, p126_7, p126_8, p126_9, p126_10, p126_11, p126_12, p126_13, p126_15, p126_16, p126_19, p126_20, p126_23, p126_24, p126_25, p126_28, p126_29, p126_32, p126_33, p126_34, p126_35, p126_36, p126_39, p126_42, p126_45, p126_49, p126_50, p126_53, p126_54, p126_55, p126_56, p126_58, p126_59, p126_62, p126_63, p126_66, p126_67, p126_68, p126_71, p126_72, p126_75, p126_76, p126_77, p126_80, p126_83, p126_86, p126_90, p126_91, p126_92, p126_95, p126_96, p126_98, p126_99, p126_100, p126_101, p126_105, p126_107, p126_110, p126_111, p126_113, p126_115, p126_118, p126_121, p126_124, p126_127, p126_128, jwd_c, jwd_0, Nat.reduceLeDiff, Nat.reduceEqDiff, Nat.reduceAdd, Nat.reduceSub, Nat.reduceMul, Int.reduceAdd, Int.reduceSub, Int.reduceMul, Int.reduceNeg, Int.reduceEq, Int.reduceLT, Int.reduceLE, jq_ldi_i, jq_ldl_l, jq_lda_a, jq_inc_i, jq_gs_t, jq_gsb_t, jq_gb_t, jq_gr_2, jq_gr_4, jq_gw_2, jq_s_t, jq_b_t, jg_c, jg_n, js_c, js_n, jrm_c, jrm_n, j2_i, j2_l, j2_a, jq_c_i, jq_c_l, jq_c_0, jq_c_n, jwd_le, jw_c0, mS_I, mS_R, mS_J, mN_I, mN_R, mN_J, mR_I, mI_R, mJ_I, mJ_R, mI_J, mR_J, ↓reduceIte, decide_true, or_true, true_or, and_self, false_or, or_false, reduceCtorEq, Bool.false_eq_true, and_false, false_and, eq_self, true_and, and_true, zero_ne, ↓br_lt_t, ↓br_lt_f, ↓br_eq_t, ↓br_eq_f, ↓br_lz_t, ↓br_lz_f, ↓br_ez_t, ↓br_ez_f, ↓br_gz_t, ↓br_gz_f, jw_id, jin_t, jix_t, ↓ite_t, ↓ite_f]
theorem o_next (h : ON w n f) (hp : PF n f) (n1 : 1 ≤ n) : (gNx n f = none → rn 126 (0, [(0, jvr 231)], [], w) = some (some (.inl 0), w)) ∧ (∀ f2, gNx n f = some f2 → ∃ u, rn 126 (0, [(0, jvr 231)], [], w) = some (some (.inl 1), u) ∧ ON u n f2 ∧ Fr (sP 232) w u) := by
  obtain ⟨h1, h2, h3, h4⟩ := h
  have h : ON w n f := ⟨h1, h2, h3, h4⟩
  have hn := h4.2.2.2.2.2.2.1
  have x3 := h4.1
  have e0 := sg_count h4
  have b1 := rs_bd (f := f) (n - 2)
  unfold gNx
  by_cases z : n < 3 ∨ gRs f (n - 2) = 0
  · rw [if_pos z]
    refine ⟨fun _ => ?_, fun f2 hf => (by cases hf)⟩
    by_cases z1 : n = 1
    · subst z1
      simp (disch := omega) only [p126_0, p126_1, p126_4, p126_7, p126_8, p126_9, p126_10, p126_11, p126_12, p126_13, p126_15, p126_16, p126_19, p126_20, p126_23, p126_24, p126_25, p126_28, p126_29, p126_32, p126_33, p126_34, p126_35, p126_36, p126_39, p126_42, p126_45, p126_49, p126_50, p126_53, p126_54, p126_55, p126_56, p126_58, p126_59, p126_62, p126_63, p126_66, p126_67, p126_68, p126_71, p126_72, p126_75, p126_76, p126_77, p126_80, p126_83, p126_86, p126_90, p126_91, p126_92, p126_95, p126_96, p126_98, p126_99, p126_100, p126_101, p126_105, p126_107, p126_110, p126_111, p126_113, p126_115, p126_118, p126_121, p126_124, p126_127, p126_128, jwd_c, jwd_0, Nat.reduceLeDiff, Nat.reduceEqDiff, Nat.reduceAdd, Nat.reduceSub, Nat.reduceMul, Int.reduceAdd, Int.reduceSub, Int.reduceMul, Int.reduceNeg, Int.reduceEq, Int.reduceLT, Int.reduceLE, jq_ldi_i, jq_ldl_l, jq_lda_a, jq_inc_i, jq_gs_t, jq_gsb_t, jq_gb_t, jq_gr_2, jq_gr_4, jq_gw_2, jq_s_t, jq_b_t, jg_c, jg_n, js_c, js_n, jrm_c, jrm_n, j2_i, j2_l, j2_a, jq_c_i, jq_c_l, jq_c_0, jq_c_n, jwd_le, jw_c0, mS_I, mS_R, mS_J, mN_I, mN_R, mN_J, mR_I, mI_R, mJ_I, mJ_R, mI_J, mR_J, ↓reduceIte, decide_true, or_true, true_or, and_self, false_or, or_false, reduceCtorEq, Bool.false_eq_true, and_false, false_and, eq_self, true_and, and_true, zero_ne, ↓br_lt_t, ↓br_lt_f, ↓br_eq_t, ↓br_eq_f, ↓br_lz_t, ↓br_lz_f, ↓br_ez_t, ↓br_ez_f, ↓br_gz_t, ↓br_gz_f, jw_id, jin_t, jix_t, ↓ite_t, ↓ite_f, h1, h2, x3, e0, Int.reduceSub]
      rw [show ((1 : Nat) : Int) - 1 = 0 from rfl, show ((0 : Int) - 1) = -1 from rfl, p126_14]
      simp (disch := omega) only [p126_0, p126_1, p126_4, p126_7, p126_8, p126_9, p126_10, p126_11, p126_12, p126_13, p126_15, p126_16, p126_19, p126_20, p126_23, p126_24, p126_25, p126_28, p126_29, p126_32, p126_33, p126_34, p126_35, p126_36, p126_39, p126_42, p126_45, p126_49, p126_50, p126_53, p126_54, p126_55, p126_56, p126_58, p126_59, p126_62, p126_63, p126_66, p126_67, p126_68, p126_71, p126_72, p126_75, p126_76, p126_77, p126_80, p126_83, p126_86, p126_90, p126_91, p126_92, p126_95, p126_96, p126_98, p126_99, p126_100, p126_101, p126_105, p126_107, p126_110, p126_111, p126_113, p126_115, p126_118, p126_121, p126_124, p126_127, p126_128, jwd_c, jwd_0, Nat.reduceLeDiff, Nat.reduceEqDiff, Nat.reduceAdd, Nat.reduceSub, Nat.reduceMul, Int.reduceAdd, Int.reduceSub, Int.reduceMul, Int.reduceNeg, Int.reduceEq, Int.reduceLT, Int.reduceLE, jq_ldi_i, jq_ldl_l, jq_lda_a, jq_inc_i, jq_gs_t, jq_gsb_t, jq_gb_t, jq_gr_2, jq_gr_4, jq_gw_2, jq_s_t, jq_b_t, jg_c, jg_n, js_c, js_n, jrm_c, jrm_n, j2_i, j2_l, j2_a, jq_c_i, jq_c_l, jq_c_0, jq_c_n, jwd_le, jw_c0, mS_I, mS_R, mS_J, mN_I, mN_R, mN_J, mR_I, mI_R, mJ_I, mJ_R, mI_J, mR_J, ↓reduceIte, decide_true, or_true, true_or, and_self, false_or, or_false, reduceCtorEq, Bool.false_eq_true, and_false, false_and, eq_self, true_and, and_true, zero_ne, ↓br_lt_t, ↓br_lt_f, ↓br_eq_t, ↓br_eq_f, ↓br_lz_t, ↓br_lz_f, ↓br_ez_t, ↓br_ez_f, ↓br_gz_t, ↓br_gz_f, jw_id, jin_t, jix_t, ↓ite_t, ↓ite_f]
      rw [p126_48]
      simp (disch := omega) only [p126_0, p126_1, p126_4, p126_7, p126_8, p126_9, p126_10, p126_11, p126_12, p126_13, p126_15, p126_16, p126_19, p126_20, p126_23, p126_24, p126_25, p126_28, p126_29, p126_32, p126_33, p126_34, p126_35, p126_36, p126_39, p126_42, p126_45, p126_49, p126_50, p126_53, p126_54, p126_55, p126_56, p126_58, p126_59, p126_62, p126_63, p126_66, p126_67, p126_68, p126_71, p126_72, p126_75, p126_76, p126_77, p126_80, p126_83, p126_86, p126_90, p126_91, p126_92, p126_95, p126_96, p126_98, p126_99, p126_100, p126_101, p126_105, p126_107, p126_110, p126_111, p126_113, p126_115, p126_118, p126_121, p126_124, p126_127, p126_128, jwd_c, jwd_0, Nat.reduceLeDiff, Nat.reduceEqDiff, Nat.reduceAdd, Nat.reduceSub, Nat.reduceMul, Int.reduceAdd, Int.reduceSub, Int.reduceMul, Int.reduceNeg, Int.reduceEq, Int.reduceLT, Int.reduceLE, jq_ldi_i, jq_ldl_l, jq_lda_a, jq_inc_i, jq_gs_t, jq_gsb_t, jq_gb_t, jq_gr_2, jq_gr_4, jq_gw_2, jq_s_t, jq_b_t, jg_c, jg_n, js_c, js_n, jrm_c, jrm_n, j2_i, j2_l, j2_a, jq_c_i, jq_c_l, jq_c_0, jq_c_n, jwd_le, jw_c0, mS_I, mS_R, mS_J, mN_I, mN_R, mN_J, mR_I, mI_R, mJ_I, mJ_R, mI_J, mR_J, ↓reduceIte, decide_true, or_true, true_or, and_self, false_or, or_false, reduceCtorEq, Bool.false_eq_true, and_false, false_and, eq_self, true_and, and_true, zero_ne, ↓br_lt_t, ↓br_lt_f, ↓br_eq_t, ↓br_eq_f, ↓br_lz_t, ↓br_lz_f, ↓br_ez_t, ↓br_ez_f, ↓br_gz_t, ↓br_gz_f, jw_id, jin_t, jix_t, ↓ite_t, ↓ite_f]
    · have r0 : gRs f (n - 2) = 0 := by
        rcases z with z | z
        · have : n - 2 = 0 := by omega
          rw [this]
          rfl
        · exact z
      have e1 := nx1_lp h hp (l := (n : Int) - 1) (n - 2) (by omega)
      rw [r0] at e1
      simp (disch := omega) only [p126_0, p126_1, p126_4, p126_7, p126_8, p126_9, p126_10, p126_11, p126_12, p126_13, p126_15, p126_16, p126_19, p126_20, p126_23, p126_24, p126_25, p126_28, p126_29, p126_32, p126_33, p126_34, p126_35, p126_36, p126_39, p126_42, p126_45, p126_49, p126_50, p126_53, p126_54, p126_55, p126_56, p126_58, p126_59, p126_62, p126_63, p126_66, p126_67, p126_68, p126_71, p126_72, p126_75, p126_76, p126_77, p126_80, p126_83, p126_86, p126_90, p126_91, p126_92, p126_95, p126_96, p126_98, p126_99, p126_100, p126_101, p126_105, p126_107, p126_110, p126_111, p126_113, p126_115, p126_118, p126_121, p126_124, p126_127, p126_128, jwd_c, jwd_0, Nat.reduceLeDiff, Nat.reduceEqDiff, Nat.reduceAdd, Nat.reduceSub, Nat.reduceMul, Int.reduceAdd, Int.reduceSub, Int.reduceMul, Int.reduceNeg, Int.reduceEq, Int.reduceLT, Int.reduceLE, jq_ldi_i, jq_ldl_l, jq_lda_a, jq_inc_i, jq_gs_t, jq_gsb_t, jq_gb_t, jq_gr_2, jq_gr_4, jq_gw_2, jq_s_t, jq_b_t, jg_c, jg_n, js_c, js_n, jrm_c, jrm_n, j2_i, j2_l, j2_a, jq_c_i, jq_c_l, jq_c_0, jq_c_n, jwd_le, jw_c0, mS_I, mS_R, mS_J, mN_I, mN_R, mN_J, mR_I, mI_R, mJ_I, mJ_R, mI_J, mR_J, ↓reduceIte, decide_true, or_true, true_or, and_self, false_or, or_false, reduceCtorEq, Bool.false_eq_true, and_false, false_and, eq_self, true_and, and_true, zero_ne, ↓br_lt_t, ↓br_lt_f, ↓br_eq_t, ↓br_eq_f, ↓br_lz_t, ↓br_lz_f, ↓br_ez_t, ↓br_ez_f, ↓br_gz_t, ↓br_gz_f, jw_id, jin_t, jix_t, ↓ite_t, ↓ite_f, h1, h2, x3, e0]
      rw [show (n : Int) - 1 - 1 = ((n - 2 : Nat) : Int) by omega, e1, p126_48]
      simp (disch := omega) only [p126_0, p126_1, p126_4, p126_7, p126_8, p126_9, p126_10, p126_11, p126_12, p126_13, p126_15, p126_16, p126_19, p126_20, p126_23, p126_24, p126_25, p126_28, p126_29, p126_32, p126_33, p126_34, p126_35, p126_36, p126_39, p126_42, p126_45, p126_49, p126_50, p126_53, p126_54, p126_55, p126_56, p126_58, p126_59, p126_62, p126_63, p126_66, p126_67, p126_68, p126_71, p126_72, p126_75, p126_76, p126_77, p126_80, p126_83, p126_86, p126_90, p126_91, p126_92, p126_95, p126_96, p126_98, p126_99, p126_100, p126_101, p126_105, p126_107, p126_110, p126_111, p126_113, p126_115, p126_118, p126_121, p126_124, p126_127, p126_128, jwd_c, jwd_0, Nat.reduceLeDiff, Nat.reduceEqDiff, Nat.reduceAdd, Nat.reduceSub, Nat.reduceMul, Int.reduceAdd, Int.reduceSub, Int.reduceMul, Int.reduceNeg, Int.reduceEq, Int.reduceLT, Int.reduceLE, jq_ldi_i, jq_ldl_l, jq_lda_a, jq_inc_i, jq_gs_t, jq_gsb_t, jq_gb_t, jq_gr_2, jq_gr_4, jq_gw_2, jq_s_t, jq_b_t, jg_c, jg_n, js_c, js_n, jrm_c, jrm_n, j2_i, j2_l, j2_a, jq_c_i, jq_c_l, jq_c_0, jq_c_n, jwd_le, jw_c0, mS_I, mS_R, mS_J, mN_I, mN_R, mN_J, mR_I, mI_R, mJ_I, mJ_R, mI_J, mR_J, ↓reduceIte, decide_true, or_true, true_or, and_self, false_or, or_false, reduceCtorEq, Bool.false_eq_true, and_false, false_and, eq_self, true_and, and_true, zero_ne, ↓br_lt_t, ↓br_lt_f, ↓br_eq_t, ↓br_eq_f, ↓br_lz_t, ↓br_lz_f, ↓br_ez_t, ↓br_ez_f, ↓br_gz_t, ↓br_gz_f, jw_id, jin_t, jix_t, ↓ite_t, ↓ite_f]
  · rw [if_neg z]
    refine ⟨fun hf => (by cases hf), fun f2 hf => ?_⟩
    have e1 := nx1_lp h hp (l := (n : Int) - 1) (n - 2) (by omega)
    have up := rs_up (f := f) (n - 2) (by omega)
    have b2 := oj_bd up (n - 1) (by omega)
    have e2 := nx2_lp h hp (l := (n : Int) - 1) up (by omega) (n - 1) (by omega) (by omega)
    rw [← Option.some.inj hf]
    generalize hi : gRs f (n - 2) = i at *
    generalize hj : gOj f i (n - 1) = j at *
    obtain ⟨w1, e3, h5, f3⟩ := o_swap h (i := i) (j := j) (by omega) (by omega)
    obtain ⟨u, e4, h6, f4⟩ := nx3_lp (l := (n : Int) - 1) (i := (i : Int)) (j := (j : Int)) n (gSwf f i j) (i + 1) (n - 1) w1 h5 (by omega) (by omega) (by omega)
    refine ⟨u, ?_, ⟨h6.1, h6.2.1, h6.2.2.1, h6.2.2.2.mk2 (fun x y hx hy => (if_pos hx).symm)⟩, f3.tr f4⟩
    rw [← e4]
    have s1 : rn 126 (0, [(0, jvr 231)], [], w) = rn 126 (14, [(0, jvr 231), (1, .inl ((n : Int) - 1)), (2, .inl ((n - 2 : Nat) : Int))], [], w) := by
      rw [show ((n - 2 : Nat) : Int) = (n : Int) - 1 - 1 by omega]
      simp (disch := omega) only [p126_0, p126_1, p126_4, p126_7, p126_8, p126_9, p126_10, p126_11, p126_12, p126_13, p126_15, p126_16, p126_19, p126_20, p126_23, p126_24, p126_25, p126_28, p126_29, p126_32, p126_33, p126_34, p126_35, p126_36, p126_39, p126_42, p126_45, p126_49, p126_50, p126_53, p126_54, p126_55, p126_56, p126_58, p126_59, p126_62, p126_63, p126_66, p126_67, p126_68, p126_71, p126_72, p126_75, p126_76, p126_77, p126_80, p126_83, p126_86, p126_90, p126_91, p126_92, p126_95, p126_96, p126_98, p126_99, p126_100, p126_101, p126_105, p126_107, p126_110, p126_111, p126_113, p126_115, p126_118, p126_121, p126_124, p126_127, p126_128, jwd_c, jwd_0, Nat.reduceLeDiff, Nat.reduceEqDiff, Nat.reduceAdd, Nat.reduceSub, Nat.reduceMul, Int.reduceAdd, Int.reduceSub, Int.reduceMul, Int.reduceNeg, Int.reduceEq, Int.reduceLT, Int.reduceLE, jq_ldi_i, jq_ldl_l, jq_lda_a, jq_inc_i, jq_gs_t, jq_gsb_t, jq_gb_t, jq_gr_2, jq_gr_4, jq_gw_2, jq_s_t, jq_b_t, jg_c, jg_n, js_c, js_n, jrm_c, jrm_n, j2_i, j2_l, j2_a, jq_c_i, jq_c_l, jq_c_0, jq_c_n, jwd_le, jw_c0, mS_I, mS_R, mS_J, mN_I, mN_R, mN_J, mR_I, mI_R, mJ_I, mJ_R, mI_J, mR_J, ↓reduceIte, decide_true, or_true, true_or, and_self, false_or, or_false, reduceCtorEq, Bool.false_eq_true, and_false, false_and, eq_self, true_and, and_true, zero_ne, ↓br_lt_t, ↓br_lt_f, ↓br_eq_t, ↓br_eq_f, ↓br_lz_t, ↓br_lz_f, ↓br_ez_t, ↓br_ez_f, ↓br_gz_t, ↓br_gz_f, jw_id, jin_t, jix_t, ↓ite_t, ↓ite_f, h1, h2, x3, e0]
    have s2 : rn 126 (48, [(0, jvr 231), (1, .inl ((n : Int) - 1)), (2, .inl (i : Int))], [], w) = rn 126 (57, [(0, jvr 231), (1, .inl ((n : Int) - 1)), (2, .inl (i : Int)), (3, .inl ((n - 1 : Nat) : Int))], [], w) := by
      rw [show ((n - 1 : Nat) : Int) = (n : Int) - 1 by omega, p126_48]
      simp (disch := omega) only [p126_0, p126_1, p126_4, p126_7, p126_8, p126_9, p126_10, p126_11, p126_12, p126_13, p126_15, p126_16, p126_19, p126_20, p126_23, p126_24, p126_25, p126_28, p126_29, p126_32, p126_33, p126_34, p126_35, p126_36, p126_39, p126_42, p126_45, p126_49, p126_50, p126_53, p126_54, p126_55, p126_56, p126_58, p126_59, p126_62, p126_63, p126_66, p126_67, p126_68, p126_71, p126_72, p126_75, p126_76, p126_77, p126_80, p126_83, p126_86, p126_90, p126_91, p126_92, p126_95, p126_96, p126_98, p126_99, p126_100, p126_101, p126_105, p126_107, p126_110, p126_111, p126_113, p126_115, p126_118, p126_121, p126_124, p126_127, p126_128, jwd_c, jwd_0, Nat.reduceLeDiff, Nat.reduceEqDiff, Nat.reduceAdd, Nat.reduceSub, Nat.reduceMul, Int.reduceAdd, Int.reduceSub, Int.reduceMul, Int.reduceNeg, Int.reduceEq, Int.reduceLT, Int.reduceLE, jq_ldi_i, jq_ldl_l, jq_lda_a, jq_inc_i, jq_gs_t, jq_gsb_t, jq_gb_t, jq_gr_2, jq_gr_4, jq_gw_2, jq_s_t, jq_b_t, jg_c, jg_n, js_c, js_n, jrm_c, jrm_n, j2_i, j2_l, j2_a, jq_c_i, jq_c_l, jq_c_0, jq_c_n, jwd_le, jw_c0, mS_I, mS_R, mS_J, mN_I, mN_R, mN_J, mR_I, mI_R, mJ_I, mJ_R, mI_J, mR_J, ↓reduceIte, decide_true, or_true, true_or, and_self, false_or, or_false, reduceCtorEq, Bool.false_eq_true, and_false, false_and, eq_self, true_and, and_true, zero_ne, ↓br_lt_t, ↓br_lt_f, ↓br_eq_t, ↓br_eq_f, ↓br_lz_t, ↓br_lz_f, ↓br_ez_t, ↓br_ez_f, ↓br_gz_t, ↓br_gz_f, jw_id, jin_t, jix_t, ↓ite_t, ↓ite_f]
    rw [s1, e1, s2, e2, p126_89]
    simp (disch := omega) only [p126_0, p126_1, p126_4, p126_7, p126_8, p126_9, p126_10, p126_11, p126_12, p126_13, p126_15, p126_16, p126_19, p126_20, p126_23, p126_24, p126_25, p126_28, p126_29, p126_32, p126_33, p126_34, p126_35, p126_36, p126_39, p126_42, p126_45, p126_49, p126_50, p126_53, p126_54, p126_55, p126_56, p126_58, p126_59, p126_62, p126_63, p126_66, p126_67, p126_68, p126_71, p126_72, p126_75, p126_76, p126_77, p126_80, p126_83, p126_86, p126_90, p126_91, p126_92, p126_95, p126_96, p126_98, p126_99, p126_100, p126_101, p126_105, p126_107, p126_110, p126_111, p126_113, p126_115, p126_118, p126_121, p126_124, p126_127, p126_128, jwd_c, jwd_0, Nat.reduceLeDiff, Nat.reduceEqDiff, Nat.reduceAdd, Nat.reduceSub, Nat.reduceMul, Int.reduceAdd, Int.reduceSub, Int.reduceMul, Int.reduceNeg, Int.reduceEq, Int.reduceLT, Int.reduceLE, jq_ldi_i, jq_ldl_l, jq_lda_a, jq_inc_i, jq_gs_t, jq_gsb_t, jq_gb_t, jq_gr_2, jq_gr_4, jq_gw_2, jq_s_t, jq_b_t, jg_c, jg_n, js_c, js_n, jrm_c, jrm_n, j2_i, j2_l, j2_a, jq_c_i, jq_c_l, jq_c_0, jq_c_n, jwd_le, jw_c0, mS_I, mS_R, mS_J, mN_I, mN_R, mN_J, mR_I, mI_R, mJ_I, mJ_R, mI_J, mR_J, ↓reduceIte, decide_true, or_true, true_or, and_self, false_or, or_false, reduceCtorEq, Bool.false_eq_true, and_false, false_and, eq_self, true_and, and_true, zero_ne, ↓br_lt_t, ↓br_lt_f, ↓br_eq_t, ↓br_eq_f, ↓br_lz_t, ↓br_lz_f, ↓br_ez_t, ↓br_ez_f, ↓br_gz_t, ↓br_gz_f, jw_id, jin_t, jix_t, ↓ite_t, ↓ite_f, h1, e3]
    rw [show ((i : Int) + 1) = ((i + 1 : Nat) : Int) by omega, show ((n - 1 : Nat) : Int) = (n : Int) - 1 by omega]
theorem ob_lp {c : Int} (hc : c = n) (hn8 : n ≤ 8) : ∀ (m : Nat) (i : Nat) (w : jmW), ON w i (fun k => (k : Int)) → i + m = n → ∃ u, rn 124 (10, [(0, jvr 231), (1, .inl c), (2, .inl (i : Int))], [], w) = rn 124 (29, [(0, jvr 231), (1, .inl c), (2, .inl c)], [], u) ∧ ON u n (fun k => (k : Int)) ∧ Fr (sP 232) w u := by
  intro m
  induction m with
  | zero =>
    intro i w h hi
    have e : i = n := by omega
    subst e
    refine ⟨w, ?_, h, Fr.rf _ _⟩
    rw [hc, p124_10]
    simp (disch := omega) only [p124_0, p124_1, p124_4, p124_5, p124_8, p124_9, p124_11, p124_12, p124_15, p124_16, p124_19, p124_20, p124_23, p124_26, p124_30, p124_33, p124_34, p124_37, p124_40, jwd_c, jwd_0, Nat.reduceLeDiff, Nat.reduceEqDiff, Nat.reduceAdd, Nat.reduceSub, Nat.reduceMul, Int.reduceAdd, Int.reduceSub, Int.reduceMul, Int.reduceNeg, Int.reduceEq, Int.reduceLT, Int.reduceLE, jq_ldi_i, jq_ldl_l, jq_lda_a, jq_inc_i, jq_gs_t, jq_gsb_t, jq_gb_t, jq_gr_2, jq_gr_4, jq_gw_2, jq_s_t, jq_b_t, jg_c, jg_n, js_c, js_n, jrm_c, jrm_n, j2_i, j2_l, j2_a, jq_c_i, jq_c_l, jq_c_0, jq_c_n, jwd_le, jw_c0, mS_I, mS_R, mS_J, mN_I, mN_R, mN_J, mR_I, mI_R, mJ_I, mJ_R, mI_J, mR_J, ↓reduceIte, decide_true, or_true, true_or, and_self, false_or, or_false, reduceCtorEq, Bool.false_eq_true, and_false, false_and, eq_self, true_and, and_true, zero_ne, ↓br_lt_t, ↓br_lt_f, ↓br_eq_t, ↓br_eq_f, ↓br_lz_t, ↓br_lz_f, ↓br_ez_t, ↓br_ez_f, ↓br_gz_t, ↓br_gz_f, jw_id, jin_t, jix_t, ↓ite_t, ↓ite_f]
  | succ m ih =>
    intro i w h hi
    obtain ⟨h1, h2, h3, h4⟩ := h
    obtain ⟨w1, e1, s1, f1⟩ := sg_push (v := (i : Int)) h4 (by omega)
    have f1 : Fr (sP 232) w w1 := f1
    have x3 := h4.1
    have h5 : ON w1 (i + 1) (fun k => (k : Int)) := ⟨by rw [f1.q]; exact h1, by rw [f1.Rq (sP_n (by omega))]; exact h2, by rw [f1.Rq (sP_n (by omega))]; exact h3, s1.mk2 (fun x y hx hy => by
      show (if x < i then (x : Int) else if y = 0 then (i : Int) else 0) = x
      by_cases z : x < i
      · rw [if_pos z]
      · rw [if_neg z, if_pos (by omega)]
        omega)⟩
    obtain ⟨u, e2, h6, f2⟩ := ih (i + 1) w1 h5 (by omega)
    refine ⟨u, ?_, h6, f1.tr f2⟩
    rw [← e2, p124_10]
    simp (disch := omega) only [p124_0, p124_1, p124_4, p124_5, p124_8, p124_9, p124_11, p124_12, p124_15, p124_16, p124_19, p124_20, p124_23, p124_26, p124_30, p124_33, p124_34, p124_37, p124_40, jwd_c, jwd_0, Nat.reduceLeDiff, Nat.reduceEqDiff, Nat.reduceAdd, Nat.reduceSub, Nat.reduceMul, Int.reduceAdd, Int.reduceSub, Int.reduceMul, Int.reduceNeg, Int.reduceEq, Int.reduceLT, Int.reduceLE, jq_ldi_i, jq_ldl_l, jq_lda_a, jq_inc_i, jq_gs_t, jq_gsb_t, jq_gb_t, jq_gr_2, jq_gr_4, jq_gw_2, jq_s_t, jq_b_t, jg_c, jg_n, js_c, js_n, jrm_c, jrm_n, j2_i, j2_l, j2_a, jq_c_i, jq_c_l, jq_c_0, jq_c_n, jwd_le, jw_c0, mS_I, mS_R, mS_J, mN_I, mN_R, mN_J, mR_I, mI_R, mJ_I, mJ_R, mI_J, mR_J, ↓reduceIte, decide_true, or_true, true_or, and_self, false_or, or_false, reduceCtorEq, Bool.false_eq_true, and_false, false_and, eq_self, true_and, and_true, zero_ne, ↓br_lt_t, ↓br_lt_f, ↓br_eq_t, ↓br_eq_f, ↓br_lz_t, ↓br_lz_f, ↓br_ez_t, ↓br_ez_f, ↓br_gz_t, ↓br_gz_f, jw_id, jin_t, jix_t, ↓ite_t, ↓ite_f, h1, h2, x3, e1]
    rw [show (i : Int) + 1 = ((i + 1 : Nat) : Int) by omega]
theorem o_begin (h : oS w) {c : Int} (hc : c = n) (hn8 : n ≤ 8) : ∃ u, rn 124 (0, [(0, jvr 231), (1, .inl c)], [], w) = some (none, u) ∧ ON u n (gId n) ∧ Sg u 234 1 8 n (fun i _ => gId n i) ∧ Fr (fun b => 232 ≤ b ∧ b ≤ 235) w u := by
  obtain ⟨h1, h2, h3, ⟨n4, q4, h4⟩, ⟨n5, q5, h5⟩, h6⟩ := h
  obtain ⟨w1, e1, s1, f1⟩ := sg_cut h4 (m := 0) (by omega) (by omega)
  have f1 : Fr (sP 232) w w1 := f1
  have g1 : ON w1 0 (fun k => (k : Int)) := ⟨by rw [f1.q]; exact h1, by rw [f1.Rq (sP_n (by omega))]; exact h2, by rw [f1.Rq (sP_n (by omega))]; exact h3, s1.mk2 (fun x y hx hy => absurd hx (by show ¬ x < 0; omega))⟩
  obtain ⟨w2, e2, g2, f2⟩ := ob_lp hc hn8 n 0 w1 g1 (by omega)
  have f12 := f1.tr f2
  have h5' := h5.fr f12 (sP_n (by omega)) (sP_n (by omega))
  obtain ⟨w3, e3, s3, f3⟩ := sg_copy h5' g2.2.2.2 hn8 (by omega)
  have f3 : Fr (sP 234) w2 w3 := f3
  have id : ∀ x : Nat, x < n → ((x : Nat) : Int) = gId n x := fun x hx => (if_pos hx).symm
  have g3 := g2.fr f3 (fun b b1 b2 => sP_n (by omega))
  refine ⟨w3, ?_, ⟨g3.1, g3.2.1, g3.2.2.1, g3.2.2.2.mk2 (fun x y hx hy => id x hx)⟩, s3.mk2 (fun x y hx hy => id x hx), (f12.mo (fun b hb => by unfold sP at hb; omega)).tr (f3.mo (fun b hb => by unfold sP at hb; omega))⟩
  have x3 := h4.1
  have x4 := h5'.1
  have g2s := g2.1
  have g2r := g2.2.1
  have g2q := g2.2.2.1
  have e20 : rn 124 (10, [(0, jvr 231), (1, .inl c), (2, .inl 0)], [], w1) = rn 124 (29, [(0, jvr 231), (1, .inl c), (2, .inl c)], [], w2) := e2
  simp (disch := omega) only [p124_0, p124_1, p124_4, p124_5, p124_8, p124_9, p124_11, p124_12, p124_15, p124_16, p124_19, p124_20, p124_23, p124_26, p124_30, p124_33, p124_34, p124_37, p124_40, jwd_c, jwd_0, Nat.reduceLeDiff, Nat.reduceEqDiff, Nat.reduceAdd, Nat.reduceSub, Nat.reduceMul, Int.reduceAdd, Int.reduceSub, Int.reduceMul, Int.reduceNeg, Int.reduceEq, Int.reduceLT, Int.reduceLE, jq_ldi_i, jq_ldl_l, jq_lda_a, jq_inc_i, jq_gs_t, jq_gsb_t, jq_gb_t, jq_gr_2, jq_gr_4, jq_gw_2, jq_s_t, jq_b_t, jg_c, jg_n, js_c, js_n, jrm_c, jrm_n, j2_i, j2_l, j2_a, jq_c_i, jq_c_l, jq_c_0, jq_c_n, jwd_le, jw_c0, mS_I, mS_R, mS_J, mN_I, mN_R, mN_J, mR_I, mI_R, mJ_I, mJ_R, mI_J, mR_J, ↓reduceIte, decide_true, or_true, true_or, and_self, false_or, or_false, reduceCtorEq, Bool.false_eq_true, and_false, false_and, eq_self, true_and, and_true, zero_ne, ↓br_lt_t, ↓br_lt_f, ↓br_eq_t, ↓br_eq_f, ↓br_lz_t, ↓br_lz_f, ↓br_ez_t, ↓br_ez_f, ↓br_gz_t, ↓br_gz_f, jw_id, jin_t, jix_t, ↓ite_t, ↓ite_f, h1, h2, x3, e1]
  rw [e20, p124_29]
  simp (disch := omega) only [p124_0, p124_1, p124_4, p124_5, p124_8, p124_9, p124_11, p124_12, p124_15, p124_16, p124_19, p124_20, p124_23, p124_26, p124_30, p124_33, p124_34, p124_37, p124_40, jwd_c, jwd_0, Nat.reduceLeDiff, Nat.reduceEqDiff, Nat.reduceAdd, Nat.reduceSub, Nat.reduceMul, Int.reduceAdd, Int.reduceSub, Int.reduceMul, Int.reduceNeg, Int.reduceEq, Int.reduceLT, Int.reduceLE, jq_ldi_i, jq_ldl_l, jq_lda_a, jq_inc_i, jq_gs_t, jq_gsb_t, jq_gb_t, jq_gr_2, jq_gr_4, jq_gw_2, jq_s_t, jq_b_t, jg_c, jg_n, js_c, js_n, jrm_c, jrm_n, j2_i, j2_l, j2_a, jq_c_i, jq_c_l, jq_c_0, jq_c_n, jwd_le, jw_c0, mS_I, mS_R, mS_J, mN_I, mN_R, mN_J, mR_I, mI_R, mJ_I, mJ_R, mI_J, mR_J, ↓reduceIte, decide_true, or_true, true_or, and_self, false_or, or_false, reduceCtorEq, Bool.false_eq_true, and_false, false_and, eq_self, true_and, and_true, zero_ne, ↓br_lt_t, ↓br_lt_f, ↓br_eq_t, ↓br_eq_f, ↓br_lz_t, ↓br_lz_f, ↓br_ez_t, ↓br_ez_f, ↓br_gz_t, ↓br_gz_f, jw_id, jin_t, jix_t, ↓ite_t, ↓ite_f, g2s, g2r, g2q, x4, e3]
theorem tk_ri (ri : RI H B q) (rr : RI H B r) (e90 : q 290 = r 290) (e89 : q 289 = r 289) {i j : Int} (i1 : 0 ≤ i) (i2 : i < r 289) (j1 : 0 ≤ j) (j2 : j < r 289) : RI H B (gTake q r i j) := by
  obtain ⟨ra, rb, rw0, rp, r3⟩ := ri
  have h16 := ra.1
  have tk := fun k (hk : k < 204 ∨ 284 ≤ k) => tk_keep (r := q) (q := r) (i := i) (j := j) k hk i1 (by omega)
  have ra2 : RA H B (gTake q r i j) := by
    unfold RA at ra ⊢
    rw [tk 284 (by omega), tk 285 (by omega), tk 286 (by omega), tk 287 (by omega), tk 288 (by omega), tk 289 (by omega), tk 290 (by omega), tk 291 (by omega), tk 292 (by omega), tk 293 (by omega), tk 294 (by omega), tk 295 (by omega), tk 296 (by omega), tk 297 (by omega)]
    exact ra
  have rj := rr.2.1 j j1 j2
  have rb2 : RB (gTake q r i j) := by
    intro k k1 k2
    rw [tk 289 (by omega)] at k2
    have b := rb k k1 k2
    rw [tk 290 (by omega), tk 288 (by omega)]
    have t20 : gTake q r i j (220 + k).toNat = q (220 + k).toNat := by
      unfold gTake
      rw [up1_n (by omega), up1_n (by omega), up1_n (by omega), up1_n (by omega)]
    rw [t20]
    by_cases z : k = i
    · subst z
      have v1 : gTake q r k j (204 + k).toNat = r (204 + j).toNat := by
        unfold gTake
        rw [up1_n (by omega), up1_n (by omega), up1_n (by omega), up1_s]
      have v2 : gTake q r k j (236 + k).toNat = r (236 + j).toNat := by
        unfold gTake
        rw [up1_n (by omega), up1_n (by omega), up1_s]
      have v3 : gTake q r k j (252 + k).toNat = r (252 + j).toNat := by
        unfold gTake
        rw [up1_n (by omega), up1_s]
      have v4 : gTake q r k j (268 + k).toNat = r (268 + j).toNat := by
        unfold gTake
        rw [up1_s]
      rw [v1, v2, v3, v4, e90]
      exact ⟨rj.1, b.2.1, rj.2.2⟩
    · have v : ∀ p : Int, (p = 204 ∨ p = 236 ∨ p = 252 ∨ p = 268) → gTake q r i j (p + k).toNat = q (p + k).toNat := by
        intro p hp
        unfold gTake
        rw [up1_n (by omega), up1_n (by omega), up1_n (by omega), up1_n (by omega)]
      rw [v 204 (by omega), v 236 (by omega), v 252 (by omega), v 268 (by omega)]
      exact b
  have pl : ∀ k : Int, 0 ≤ k → k < 16 → gTake q r i j (220 + k).toNat = q (220 + k).toNat := by
    intro k k1 k2
    unfold gTake
    rw [up1_n (by omega), up1_n (by omega), up1_n (by omega), up1_n (by omega)]
  refine ⟨ra2, rb2, RW_c (fun k hk => tk k (by omega)) (tk 288 (by omega)) ra rw0, ⟨?_, fun k k1 k2 => ?_⟩, by rw [tk 288 (by omega)]; exact r3⟩
  · have := pl 0 (by omega) (by omega)
    rw [show (220 + (0 : Int)).toNat = 220 from rfl] at this
    rw [this, tk 288 (by omega)]
    exact rp.1
  · rw [tk 289 (by omega)] at k2
    have := rp.2 k k1 k2
    have a := pl k (by omega) (by omega)
    have c := pl (k - 1) (by omega) (by omega)
    rw [show (220 + (k - 1)).toNat = (220 + k - 1).toNat by omega] at c
    rw [a, c]
    exact this
theorem ow_ri (rr : RI H B r) {n : Nat} (hp : PF n f) (hn : (n : Int) = r 289) : ∀ (m : Nat) (i : Int) (q : Nat → Int), RI H B q → q 290 = r 290 → q 289 = r 289 → 0 ≤ i → i + m = r 289 → RI H B (gOw r f m i q) ∧ ∀ k, (k < 204 ∨ 284 ≤ k) → gOw r f m i q k = q k := by
  have h16 := rr.1.1
  intro m
  induction m with
  | zero =>
    intro i q ri e1 e2 i1 i2
    exact ⟨ri, fun _ _ => rfl⟩
  | succ m ih =>
    intro i q ri e1 e2 i1 i2
    have e : gOw r f (m + 1) i q = gOw r f m (i + 1) (gTake q r i (f i.toNat)) := rfl
    have p := hp i.toNat (by omega)
    have tk := fun k (hk : k < 204 ∨ 284 ≤ k) => tk_keep (r := q) (q := r) (i := i) (j := f i.toNat) k hk i1 (by omega)
    obtain ⟨a1, a2⟩ := ih (i + 1) _ (tk_ri ri rr e1 e2 i1 (by omega) p.1 (by omega)) (by rw [tk 290 (by omega)]; exact e1) (by rw [tk 289 (by omega)]; exact e2) (by omega) (by omega)
    rw [e]
    exact ⟨a1, fun k hk => by rw [a2 k hk, tk k hk]⟩
theorem oo_bd (b : fB H r S q g B) (rn0 : r 289 ≤ r 290) {n : Nat} (hp : PF n f) (hn : (n : Int) = r 289) : RI H B (gOw r f (n - 1) 1 q) ∧ (∀ k, (k < 204 ∨ 284 ≤ k) → gOw r f (n - 1) 1 q k = q k) ∧ 0 ≤ gOo H S q g r n f ∧ gOo H S q g r n f ≤ 43 := by
  have k6 := b.1.2.1
  have rr := b.2.2.1
  have h16 := rr.1.1
  have h17 := rr.1.2.1
  have bq := b.2.2.2.2.2.2
  obtain ⟨a1, a2⟩ := ow_ri rr hp hn (n - 1) 1 q b.i (bq 290 (by omega)) (bq 289 (by omega)) (by omega) (by omega)
  have zb := zb0 (p := -1) (g := g) a1 b.2.2.2.1.1 (Or.inl rfl)
  have hi := (fr_hi (p := -1) b.1 (L := H 0 6) (by omega) b.s1 12 (gZ0 (gOw r f (n - 1) 1 q) g) B zb).2.2 (Int.le_refl _) ⟨fun _ => rfl, fun _ => by show (-2 : Int) < 0; omega⟩
  have hr := fr_rn (p := -1) b.1 (L := H 0 6) (by omega) b.s1 12 (gZ0 (gOw r f (n - 1) 1 q) g) B zb (by
    show gOw r f (n - 1) 1 q 289 + 0 ≤ gOw r f (n - 1) 1 q 290
    rw [a2 289 (by omega), a2 290 (by omega), bq 289 (by omega), bq 290 (by omega)]
    omega)
  have hz := fr_zb (p := -1) b.1 (L := H 0 6) (by omega) b.s1 12 (gZ0 (gOw r f (n - 1) 1 q) g) B zb
  have z16 := hz.1.1.1
  have z17 := hz.1.1.2.1
  refine ⟨a1, a2, hi.1, ?_⟩
  show (gFr H (H 0 6) S (-1) 12 (gZ0 (gOw r f (n - 1) 1 q) g)).1.2.2.1 ≤ 43
  omega
theorem bo_0 (b : fB H r S q g B) (rn0 : r 289 ≤ r 290) {n : Nat} (hn : (n : Int) = r 289) : ∀ (k : Nat) (f bs : Nat → Int), PF n f → gBo H S q g r n k f 0 bs = (0, bs) := by
  intro k
  induction k with
  | zero =>
    intro f bs hp
    rfl
  | succ k ih =>
    intro f bs hp
    have ob := oo_bd b rn0 hp hn
    have e : gBo H S q g r n (k + 1) f 0 bs = (match gNx n f with | none => if gOo H S q g r n f < 0 then (gOo H S q g r n f, f) else (0, bs) | some f2 => if gOo H S q g r n f < 0 then gBo H S q g r n k f2 (gOo H S q g r n f) f else gBo H S q g r n k f2 0 bs) := rfl
    rw [e]
    cases hN : gNx n f with
    | none =>
      show (if gOo H S q g r n f < 0 then (gOo H S q g r n f, f) else (0, bs)) = (0, bs)
      rw [if_neg (by omega)]
    | some f2 =>
      show (if gOo H S q g r n f < 0 then gBo H S q g r n k f2 (gOo H S q g r n f) f else gBo H S q g r n k f2 0 bs) = (0, bs)
      rw [if_neg (by omega)]
      exact ih f2 bs (nx_pf hp hN)
end ORD
