/-! The reader: a table's name, in the class. -/
section NAMEP
variable (T : Nat → Int) (n : Nat)
def qt1 (C : Nat → Int) (K p : Nat) : gSg := if tK T n p = 1 ∧ gWi (cs wLn) (tW T n p) 0 < 0 then (if gKm C (tW T n p) K 0 = true then .inr (3, (tS T n p : Int)) else .inl (tE T n p)) else .inr (1, (tS T n p : Int))
end NAMEP
section NAMEC
variable {w u : jmW} {T : Nat → Int} {n cnt p : Nat} {H : Nat → Nat → Int} {N K : Nat} {C : Nat → Int}
theorem sm_iff {a b : Nat} : ∀ (d i : Nat), gSm T a b d i = true ↔ ∀ k, i ≤ k → k < i + d → T (a + k) = T (b + k) := by
  intro d
  induction d with
  | zero =>
    intro i
    exact ⟨fun _ k h1 h2 => by omega, fun _ => rfl⟩
  | succ d ih =>
    intro i
    have e : gSm T a b (d + 1) i = if T (a + i) = T (b + i) then gSm T a b d (i + 1) else false := rfl
    rw [e]
    by_cases z : T (a + i) = T (b + i)
    · rw [if_pos z, ih (i + 1)]
      constructor
      · intro h k h1 h2
        by_cases y : k = i
        · rw [y]
          exact z
        · exact h k (by omega) (by omega)
      · exact fun h k h1 h2 => h k (by omega) (by omega)
    · rw [if_neg z]
      exact ⟨fun h => (by cases h), fun h => absurd (h i (by omega) (by omega)) z⟩
theorem sm_lp (R : RS w T n cnt p H N K C) {a L : Nat} (hL : a + L ≤ n) (hs : tS T n p + L ≤ n) : ∀ (d i : Nat), i + d = L → rn 45 (19, [(0, jvr 101), (1, .inl (a : Int)), (2, .inl ((a + L : Nat) : Int)), (3, .inl (i : Int))], [], w) = some (some (.inl (if gSm T a (tS T n p) d i = true then 1 else 0)), w) := by
  have st := R.st
  have hc := R.1.2.2.2.2.2.2.1
  have hc2 := R.1.2.2.2.2.2.1.2.2.2.2.2.2.1
  intro d
  induction d with
  | zero =>
    intro i hi
    have e : gSm T a (tS T n p) 0 i = true := rfl
    rw [if_pos e, p45_19]
    simp (disch := omega) only [p45_0, p45_1, p45_2, p45_3, p45_4, p45_7, p45_8, p45_11, p45_12, p45_15, p45_16, p45_17, p45_18, p45_20, p45_21, p45_22, p45_23, p45_26, p45_27, p45_30, p45_31, p45_32, p45_33, p45_34, p45_37, p45_38, p45_41, p45_42, p45_45, p45_46, p45_47, p45_48, p45_51, p45_54, p45_55, p45_56, p45_59, p45_62, p45_63, jwd_c, jwd_0, Nat.reduceLeDiff, Nat.reduceEqDiff, Nat.reduceAdd, Nat.reduceSub, Nat.reduceMul, Int.reduceAdd, Int.reduceSub, Int.reduceMul, Int.reduceNeg, Int.reduceEq, Int.reduceLT, Int.reduceLE, jq_ldi_i, jq_ldl_l, jq_lda_a, jq_inc_i, jq_gs_t, jq_gsb_t, jq_gb_t, jq_gr_2, jq_gr_4, jq_gw_2, jq_s_t, jq_b_t, jg_c, jg_n, js_c, js_n, jrm_c, jrm_n, j2_i, j2_l, j2_a, jq_c_i, jq_c_l, jq_c_0, jq_c_n, jwd_le, jw_c0, mS_I, mS_R, mS_J, mN_I, mN_R, mN_J, mR_I, mI_R, mJ_I, mJ_R, mI_J, mR_J, ↓reduceIte, decide_true, or_true, true_or, and_self, false_or, or_false, reduceCtorEq, Bool.false_eq_true, and_false, false_and, eq_self, true_and, and_true, zero_ne, ↓br_lt_t, ↓br_lt_f, ↓br_eq_t, ↓br_eq_f, ↓br_lz_t, ↓br_lz_f, ↓br_ez_t, ↓br_ez_f, ↓br_gz_t, ↓br_gz_f, jw_id, jin_t, jix_t, ↓ite_t, ↓ite_f]
  | succ d ih =>
    intro i hi
    have e : gSm T a (tS T n p) (d + 1) i = if T (a + i) = T (tS T n p + i) then gSm T a (tS T n p) d (i + 1) else false := rfl
    have e1 := tp_get R.1 (k := a + i) (by omega)
    have e2 := tp_get R.1 (k := tS T n p + i) (by omega)
    have b1 := R.1.2.2.2.2.2.2.2 (a + i) (by omega)
    have b2 := R.1.2.2.2.2.2.2.2 (tS T n p + i) (by omega)
    rw [show ((a + i : Nat) : Int) = (a : Int) + (i : Int) by omega] at e1
    rw [show ((tS T n p + i : Nat) : Int) = (tS T n p : Int) + (i : Int) by omega] at e2
    rw [p45_19, e]
    have sb := ts_bd (T := T) R.pn
    generalize hS : tS T n p = s at *
    generalize hX : T (a + i) = X at *
    generalize hY : T (s + i) = Y at *
    by_cases z : X = Y
    · have i1 := ih (i + 1) (by omega)
      rw [if_pos z, ← i1, show ((i + 1 : Nat) : Int) = (i : Int) + 1 by omega]
      simp (disch := omega) only [p45_0, p45_1, p45_2, p45_3, p45_4, p45_7, p45_8, p45_11, p45_12, p45_15, p45_16, p45_17, p45_18, p45_20, p45_21, p45_22, p45_23, p45_26, p45_27, p45_30, p45_31, p45_32, p45_33, p45_34, p45_37, p45_38, p45_41, p45_42, p45_45, p45_46, p45_47, p45_48, p45_51, p45_54, p45_55, p45_56, p45_59, p45_62, p45_63, jwd_c, jwd_0, Nat.reduceLeDiff, Nat.reduceEqDiff, Nat.reduceAdd, Nat.reduceSub, Nat.reduceMul, Int.reduceAdd, Int.reduceSub, Int.reduceMul, Int.reduceNeg, Int.reduceEq, Int.reduceLT, Int.reduceLE, jq_ldi_i, jq_ldl_l, jq_lda_a, jq_inc_i, jq_gs_t, jq_gsb_t, jq_gb_t, jq_gr_2, jq_gr_4, jq_gw_2, jq_s_t, jq_b_t, jg_c, jg_n, js_c, js_n, jrm_c, jrm_n, j2_i, j2_l, j2_a, jq_c_i, jq_c_l, jq_c_0, jq_c_n, jwd_le, jw_c0, mS_I, mS_R, mS_J, mN_I, mN_R, mN_J, mR_I, mI_R, mJ_I, mJ_R, mI_J, mR_J, ↓reduceIte, decide_true, or_true, true_or, and_self, false_or, or_false, reduceCtorEq, Bool.false_eq_true, and_false, false_and, eq_self, true_and, and_true, zero_ne, ↓br_lt_t, ↓br_lt_f, ↓br_eq_t, ↓br_eq_f, ↓br_lz_t, ↓br_lz_f, ↓br_ez_t, ↓br_ez_f, ↓br_gz_t, ↓br_gz_f, jw_id, jin_t, jix_t, ↓ite_t, ↓ite_f, RS.a R, RS.r0 R, RS.h R, RS.r2 R, RS.l R, RS.s R, RS.k0 R, RS.k1 R, RS.k2 R, RS.k3 R, RS.k4 R, RS.k5 R, RS.f8 R, RS.f9 R, RS.t65 R, RS.t102 R, RS.t68 R, RS.t70 R, RS.t72 R, RS.t74 R, RS.t76 R, RS.t78 R, st.1, e1, e2]
    · rw [if_neg z]
      simp (disch := omega) only [p45_0, p45_1, p45_2, p45_3, p45_4, p45_7, p45_8, p45_11, p45_12, p45_15, p45_16, p45_17, p45_18, p45_20, p45_21, p45_22, p45_23, p45_26, p45_27, p45_30, p45_31, p45_32, p45_33, p45_34, p45_37, p45_38, p45_41, p45_42, p45_45, p45_46, p45_47, p45_48, p45_51, p45_54, p45_55, p45_56, p45_59, p45_62, p45_63, jwd_c, jwd_0, Nat.reduceLeDiff, Nat.reduceEqDiff, Nat.reduceAdd, Nat.reduceSub, Nat.reduceMul, Int.reduceAdd, Int.reduceSub, Int.reduceMul, Int.reduceNeg, Int.reduceEq, Int.reduceLT, Int.reduceLE, jq_ldi_i, jq_ldl_l, jq_lda_a, jq_inc_i, jq_gs_t, jq_gsb_t, jq_gb_t, jq_gr_2, jq_gr_4, jq_gw_2, jq_s_t, jq_b_t, jg_c, jg_n, js_c, js_n, jrm_c, jrm_n, j2_i, j2_l, j2_a, jq_c_i, jq_c_l, jq_c_0, jq_c_n, jwd_le, jw_c0, mS_I, mS_R, mS_J, mN_I, mN_R, mN_J, mR_I, mI_R, mJ_I, mJ_R, mI_J, mR_J, ↓reduceIte, decide_true, or_true, true_or, and_self, false_or, or_false, reduceCtorEq, Bool.false_eq_true, and_false, false_and, eq_self, true_and, and_true, zero_ne, ↓br_lt_t, ↓br_lt_f, ↓br_eq_t, ↓br_eq_f, ↓br_lz_t, ↓br_lz_f, ↓br_ez_t, ↓br_ez_f, ↓br_gz_t, ↓br_gz_f, jw_id, jin_t, jix_t, ↓ite_t, ↓ite_f, RS.a R, RS.r0 R, RS.h R, RS.r2 R, RS.l R, RS.s R, RS.k0 R, RS.k1 R, RS.k2 R, RS.k3 R, RS.k4 R, RS.k5 R, RS.f8 R, RS.f9 R, RS.t65 R, RS.t102 R, RS.t68 R, RS.t70 R, RS.t72 R, RS.t74 R, RS.t76 R, RS.t78 R, st.1, e1, e2]
theorem c_same (R : RS w T n cnt p H N K C) {a b : Nat} (h1 : a ≤ b) (h2 : b ≤ n) (h3 : b - a ≤ 8) (k1 : tK T n p = 1) (hl : ∀ j, j < b - a → 97 ≤ T (a + j) ∧ T (a + j) ≤ 122) : rn 45 (0, [(0, jvr 101), (1, .inl (a : Int)), (2, .inl (b : Int))], [], w) = some (some (.inl (if gCw (fun j => T (a + j)) (b - a) = tW T n p then 1 else 0)), w) := by
  have st := R.st
  have tb := tke_bd (T := T) R.pn
  have tl := tw_lt k1
  have hc := R.1.2.2.2.2.2.2.1
  have hc2 := R.1.2.2.2.2.2.1.2.2.2.2.2.2.1
  by_cases z : b - a = tE T n p - tS T n p
  · have s1 := sm_lp R (a := a) (L := b - a) (by omega) (by omega) (b - a) 0 (by omega)
    have key : (gSm T a (tS T n p) (b - a) 0 = true) ↔ gCw (fun j => T (a + j)) (b - a) = tW T n p := by
      rw [sm_iff]
      unfold tW
      constructor
      · intro h
        rw [← z]
        exact cw_cg _ (fun k hk => h k (by omega) (by omega))
      · intro h k h1 h2
        exact (cw_inj _ _ hl tl.1 h).2 k (by omega)
    rw [show a + (b - a) = b by omega] at s1
    by_cases y : gSm T a (tS T n p) (b - a) 0 = true
    · rw [if_pos y] at s1
      rw [if_pos (key.mp y), ← s1]
      simp (disch := omega) only [p45_0, p45_1, p45_2, p45_3, p45_4, p45_7, p45_8, p45_11, p45_12, p45_15, p45_16, p45_17, p45_18, p45_20, p45_21, p45_22, p45_23, p45_26, p45_27, p45_30, p45_31, p45_32, p45_33, p45_34, p45_37, p45_38, p45_41, p45_42, p45_45, p45_46, p45_47, p45_48, p45_51, p45_54, p45_55, p45_56, p45_59, p45_62, p45_63, jwd_c, jwd_0, Nat.reduceLeDiff, Nat.reduceEqDiff, Nat.reduceAdd, Nat.reduceSub, Nat.reduceMul, Int.reduceAdd, Int.reduceSub, Int.reduceMul, Int.reduceNeg, Int.reduceEq, Int.reduceLT, Int.reduceLE, jq_ldi_i, jq_ldl_l, jq_lda_a, jq_inc_i, jq_gs_t, jq_gsb_t, jq_gb_t, jq_gr_2, jq_gr_4, jq_gw_2, jq_s_t, jq_b_t, jg_c, jg_n, js_c, js_n, jrm_c, jrm_n, j2_i, j2_l, j2_a, jq_c_i, jq_c_l, jq_c_0, jq_c_n, jwd_le, jw_c0, mS_I, mS_R, mS_J, mN_I, mN_R, mN_J, mR_I, mI_R, mJ_I, mJ_R, mI_J, mR_J, ↓reduceIte, decide_true, or_true, true_or, and_self, false_or, or_false, reduceCtorEq, Bool.false_eq_true, and_false, false_and, eq_self, true_and, and_true, zero_ne, ↓br_lt_t, ↓br_lt_f, ↓br_eq_t, ↓br_eq_f, ↓br_lz_t, ↓br_lz_f, ↓br_ez_t, ↓br_ez_f, ↓br_gz_t, ↓br_gz_f, jw_id, jin_t, jix_t, ↓ite_t, ↓ite_f, RS.a R, RS.r0 R, RS.h R, RS.r2 R, RS.l R, RS.s R, RS.k0 R, RS.k1 R, RS.k2 R, RS.k3 R, RS.k4 R, RS.k5 R, RS.f8 R, RS.f9 R, RS.t65 R, RS.t102 R, RS.t68 R, RS.t70 R, RS.t72 R, RS.t74 R, RS.t76 R, RS.t78 R, st.1, st.2.1, st.2.2]
      rfl
    · rw [if_neg y] at s1
      rw [if_neg (fun x => y (key.mpr x)), ← s1]
      simp (disch := omega) only [p45_0, p45_1, p45_2, p45_3, p45_4, p45_7, p45_8, p45_11, p45_12, p45_15, p45_16, p45_17, p45_18, p45_20, p45_21, p45_22, p45_23, p45_26, p45_27, p45_30, p45_31, p45_32, p45_33, p45_34, p45_37, p45_38, p45_41, p45_42, p45_45, p45_46, p45_47, p45_48, p45_51, p45_54, p45_55, p45_56, p45_59, p45_62, p45_63, jwd_c, jwd_0, Nat.reduceLeDiff, Nat.reduceEqDiff, Nat.reduceAdd, Nat.reduceSub, Nat.reduceMul, Int.reduceAdd, Int.reduceSub, Int.reduceMul, Int.reduceNeg, Int.reduceEq, Int.reduceLT, Int.reduceLE, jq_ldi_i, jq_ldl_l, jq_lda_a, jq_inc_i, jq_gs_t, jq_gsb_t, jq_gb_t, jq_gr_2, jq_gr_4, jq_gw_2, jq_s_t, jq_b_t, jg_c, jg_n, js_c, js_n, jrm_c, jrm_n, j2_i, j2_l, j2_a, jq_c_i, jq_c_l, jq_c_0, jq_c_n, jwd_le, jw_c0, mS_I, mS_R, mS_J, mN_I, mN_R, mN_J, mR_I, mI_R, mJ_I, mJ_R, mI_J, mR_J, ↓reduceIte, decide_true, or_true, true_or, and_self, false_or, or_false, reduceCtorEq, Bool.false_eq_true, and_false, false_and, eq_self, true_and, and_true, zero_ne, ↓br_lt_t, ↓br_lt_f, ↓br_eq_t, ↓br_eq_f, ↓br_lz_t, ↓br_lz_f, ↓br_ez_t, ↓br_ez_f, ↓br_gz_t, ↓br_gz_f, jw_id, jin_t, jix_t, ↓ite_t, ↓ite_f, RS.a R, RS.r0 R, RS.h R, RS.r2 R, RS.l R, RS.s R, RS.k0 R, RS.k1 R, RS.k2 R, RS.k3 R, RS.k4 R, RS.k5 R, RS.f8 R, RS.f9 R, RS.t65 R, RS.t102 R, RS.t68 R, RS.t70 R, RS.t72 R, RS.t74 R, RS.t76 R, RS.t78 R, st.1, st.2.1, st.2.2]
      rfl
  · have ne : ¬ gCw (fun j => T (a + j)) (b - a) = tW T n p := fun h => z (cw_inj _ _ hl tl.1 h).1
    rw [if_neg ne]
    simp (disch := omega) only [p45_0, p45_1, p45_2, p45_3, p45_4, p45_7, p45_8, p45_11, p45_12, p45_15, p45_16, p45_17, p45_18, p45_20, p45_21, p45_22, p45_23, p45_26, p45_27, p45_30, p45_31, p45_32, p45_33, p45_34, p45_37, p45_38, p45_41, p45_42, p45_45, p45_46, p45_47, p45_48, p45_51, p45_54, p45_55, p45_56, p45_59, p45_62, p45_63, jwd_c, jwd_0, Nat.reduceLeDiff, Nat.reduceEqDiff, Nat.reduceAdd, Nat.reduceSub, Nat.reduceMul, Int.reduceAdd, Int.reduceSub, Int.reduceMul, Int.reduceNeg, Int.reduceEq, Int.reduceLT, Int.reduceLE, jq_ldi_i, jq_ldl_l, jq_lda_a, jq_inc_i, jq_gs_t, jq_gsb_t, jq_gb_t, jq_gr_2, jq_gr_4, jq_gw_2, jq_s_t, jq_b_t, jg_c, jg_n, js_c, js_n, jrm_c, jrm_n, j2_i, j2_l, j2_a, jq_c_i, jq_c_l, jq_c_0, jq_c_n, jwd_le, jw_c0, mS_I, mS_R, mS_J, mN_I, mN_R, mN_J, mR_I, mI_R, mJ_I, mJ_R, mI_J, mR_J, ↓reduceIte, decide_true, or_true, true_or, and_self, false_or, or_false, reduceCtorEq, Bool.false_eq_true, and_false, false_and, eq_self, true_and, and_true, zero_ne, ↓br_lt_t, ↓br_lt_f, ↓br_eq_t, ↓br_eq_f, ↓br_lz_t, ↓br_lz_f, ↓br_ez_t, ↓br_ez_f, ↓br_gz_t, ↓br_gz_f, jw_id, jin_t, jix_t, ↓ite_t, ↓ite_f, RS.a R, RS.r0 R, RS.h R, RS.r2 R, RS.l R, RS.s R, RS.k0 R, RS.k1 R, RS.k2 R, RS.k3 R, RS.k4 R, RS.k5 R, RS.f8 R, RS.f9 R, RS.t65 R, RS.t102 R, RS.t68 R, RS.t70 R, RS.t72 R, RS.t74 R, RS.t76 R, RS.t78 R, st.1, st.2.1, st.2.2]
theorem km_s {c : Int} {d m : Nat} : gKm C c (d + 1) m = if C m = c then true else gKm C c d (m + 1) := rfl
theorem nm_lp (R : RS w T n cnt p H N K C) (k1 : tK T n p = 1) {s e : Nat → Nat} (g : Sg w 102 2 4 K (fun i j => if j = 0 then (s i : Int) else (e i : Int))) (hr : ∀ i, i < K → s i ≤ e i ∧ e i ≤ n ∧ e i - s i ≤ 8 ∧ (∀ j, j < e i - s i → 97 ≤ T (s i + j) ∧ T (s i + j) ≤ 122) ∧ gCw (fun j => T (s i + j)) (e i - s i) = C i) : ∀ (d i : Nat), i + d = K → (gKm C (tW T n p) d i = true → rn 44 (29, [(0, jvr 101), (1, .inl (i : Int))], [], w) = some (some (.inl 0), setI (setI w 101 10 3) 101 11 (tS T n p))) ∧ (gKm C (tW T n p) d i = false → rn 44 (29, [(0, jvr 101), (1, .inl (i : Int))], [], w) = rn 44 (81, [(0, jvr 101), (1, .inl (K : Int))], [], w)) := by
  have st := R.st
  have hK := g.2.2.2.2.2.2.1
  have ec := sg_count g
  have fl := R.fail (f := 3) (a := (tS T n p : Int))
  have sb := ts_bd (T := T) R.pn
  intro d
  induction d with
  | zero =>
    intro i hi
    refine ⟨fun h => (by cases h), fun _ => ?_⟩
    rw [show i = K by omega, p44_29]
    simp (disch := omega) only [p44_0, p44_1, p44_4, p44_5, p44_8, p44_9, p44_11, p44_14, p44_17, p44_18, p44_19, p44_20, p44_23, p44_26, p44_27, p44_28, p44_30, p44_31, p44_34, p44_37, p44_40, p44_41, p44_42, p44_45, p44_46, p44_47, p44_50, p44_51, p44_54, p44_55, p44_56, p44_59, p44_62, p44_65, p44_66, p44_67, p44_68, p44_71, p44_74, p44_75, p44_78, p44_82, p44_85, p44_86, p44_89, p44_92, p44_93, p44_96, p44_97, p44_100, p44_103, p44_104, p44_105, p44_106, p44_107, p44_110, p44_113, p44_114, p44_117, p44_118, jwd_c, jwd_0, Nat.reduceLeDiff, Nat.reduceEqDiff, Nat.reduceAdd, Nat.reduceSub, Nat.reduceMul, Int.reduceAdd, Int.reduceSub, Int.reduceMul, Int.reduceNeg, Int.reduceEq, Int.reduceLT, Int.reduceLE, jq_ldi_i, jq_ldl_l, jq_lda_a, jq_inc_i, jq_gs_t, jq_gsb_t, jq_gb_t, jq_gr_2, jq_gr_4, jq_gw_2, jq_s_t, jq_b_t, jg_c, jg_n, js_c, js_n, jrm_c, jrm_n, j2_i, j2_l, j2_a, jq_c_i, jq_c_l, jq_c_0, jq_c_n, jwd_le, jw_c0, mS_I, mS_R, mS_J, mN_I, mN_R, mN_J, mR_I, mI_R, mJ_I, mJ_R, mI_J, mR_J, ↓reduceIte, decide_true, or_true, true_or, and_self, false_or, or_false, reduceCtorEq, Bool.false_eq_true, and_false, false_and, eq_self, true_and, and_true, zero_ne, ↓br_lt_t, ↓br_lt_f, ↓br_eq_t, ↓br_eq_f, ↓br_lz_t, ↓br_lz_f, ↓br_ez_t, ↓br_ez_f, ↓br_gz_t, ↓br_gz_f, jw_id, jin_t, jix_t, ↓ite_t, ↓ite_f, RS.a R, RS.r0 R, RS.h R, RS.r2 R, RS.l R, RS.s R, RS.k0 R, RS.k1 R, RS.k2 R, RS.k3 R, RS.k4 R, RS.k5 R, RS.f8 R, RS.f9 R, RS.t65 R, RS.t102 R, RS.t68 R, RS.t70 R, RS.t72 R, RS.t74 R, RS.t76 R, RS.t78 R, ec]
  | succ d ih =>
    intro i hi
    rw [km_s]
    obtain ⟨a1, a2, a3, a4, a5⟩ := hr i (by omega)
    have g1 := sg_in g (l := (i : Int)) (k := 0) (by omega) (by omega) (by omega) (by omega)
    have g2 := sg_in g (l := (i : Int)) (k := 1) (by omega) (by omega) (by omega) (by omega)
    rw [Int.toNat_natCast] at g1 g2
    have g1 : rn 23 (0, [(0, jvr 102), (1, .inl (i : Int)), (2, .inl 0)], [], w) = some (some (.inl (s i : Int)), w) := g1
    have g2 : rn 23 (0, [(0, jvr 102), (1, .inl (i : Int)), (2, .inl 1)], [], w) = some (some (.inl (e i : Int)), w) := g2
    have cm := c_same R a1 a2 a3 k1 a4
    rw [a5] at cm
    by_cases z : C i = tW T n p
    · rw [if_pos z]
      rw [if_pos z] at cm
      refine ⟨fun _ => ?_, fun h => (by cases h)⟩
      rw [p44_29]
      simp (disch := omega) only [p44_0, p44_1, p44_4, p44_5, p44_8, p44_9, p44_11, p44_14, p44_17, p44_18, p44_19, p44_20, p44_23, p44_26, p44_27, p44_28, p44_30, p44_31, p44_34, p44_37, p44_40, p44_41, p44_42, p44_45, p44_46, p44_47, p44_50, p44_51, p44_54, p44_55, p44_56, p44_59, p44_62, p44_65, p44_66, p44_67, p44_68, p44_71, p44_74, p44_75, p44_78, p44_82, p44_85, p44_86, p44_89, p44_92, p44_93, p44_96, p44_97, p44_100, p44_103, p44_104, p44_105, p44_106, p44_107, p44_110, p44_113, p44_114, p44_117, p44_118, jwd_c, jwd_0, Nat.reduceLeDiff, Nat.reduceEqDiff, Nat.reduceAdd, Nat.reduceSub, Nat.reduceMul, Int.reduceAdd, Int.reduceSub, Int.reduceMul, Int.reduceNeg, Int.reduceEq, Int.reduceLT, Int.reduceLE, jq_ldi_i, jq_ldl_l, jq_lda_a, jq_inc_i, jq_gs_t, jq_gsb_t, jq_gb_t, jq_gr_2, jq_gr_4, jq_gw_2, jq_s_t, jq_b_t, jg_c, jg_n, js_c, js_n, jrm_c, jrm_n, j2_i, j2_l, j2_a, jq_c_i, jq_c_l, jq_c_0, jq_c_n, jwd_le, jw_c0, mS_I, mS_R, mS_J, mN_I, mN_R, mN_J, mR_I, mI_R, mJ_I, mJ_R, mI_J, mR_J, ↓reduceIte, decide_true, or_true, true_or, and_self, false_or, or_false, reduceCtorEq, Bool.false_eq_true, and_false, false_and, eq_self, true_and, and_true, zero_ne, ↓br_lt_t, ↓br_lt_f, ↓br_eq_t, ↓br_eq_f, ↓br_lz_t, ↓br_lz_f, ↓br_ez_t, ↓br_ez_f, ↓br_gz_t, ↓br_gz_f, jw_id, jin_t, jix_t, ↓ite_t, ↓ite_f, RS.a R, RS.r0 R, RS.h R, RS.r2 R, RS.l R, RS.s R, RS.k0 R, RS.k1 R, RS.k2 R, RS.k3 R, RS.k4 R, RS.k5 R, RS.f8 R, RS.f9 R, RS.t65 R, RS.t102 R, RS.t68 R, RS.t70 R, RS.t72 R, RS.t74 R, RS.t76 R, RS.t78 R, ec, g1, g2, cm, st.1, fl.1]
    · rw [if_neg z]
      rw [if_neg z] at cm
      have i1 := ih (i + 1) (by omega)
      rw [show ((i + 1 : Nat) : Int) = (i : Int) + 1 by omega] at i1
      have e0 : rn 44 (29, [(0, jvr 101), (1, .inl (i : Int))], [], w) = rn 44 (29, [(0, jvr 101), (1, .inl ((i : Int) + 1))], [], w) := by
        rw [p44_29]
        simp (disch := omega) only [p44_0, p44_1, p44_4, p44_5, p44_8, p44_9, p44_11, p44_14, p44_17, p44_18, p44_19, p44_20, p44_23, p44_26, p44_27, p44_28, p44_30, p44_31, p44_34, p44_37, p44_40, p44_41, p44_42, p44_45, p44_46, p44_47, p44_50, p44_51, p44_54, p44_55, p44_56, p44_59, p44_62, p44_65, p44_66, p44_67, p44_68, p44_71, p44_74, p44_75, p44_78, p44_82, p44_85, p44_86, p44_89, p44_92, p44_93, p44_96, p44_97, p44_100, p44_103, p44_104, p44_105, p44_106, p44_107, p44_110, p44_113, p44_114, p44_117, p44_118, jwd_c, jwd_0, Nat.reduceLeDiff, Nat.reduceEqDiff, Nat.reduceAdd, Nat.reduceSub, Nat.reduceMul, Int.reduceAdd, Int.reduceSub, Int.reduceMul, Int.reduceNeg, Int.reduceEq, Int.reduceLT, Int.reduceLE, jq_ldi_i, jq_ldl_l, jq_lda_a, jq_inc_i, jq_gs_t, jq_gsb_t, jq_gb_t, jq_gr_2, jq_gr_4, jq_gw_2, jq_s_t, jq_b_t, jg_c, jg_n, js_c, js_n, jrm_c, jrm_n, j2_i, j2_l, j2_a, jq_c_i, jq_c_l, jq_c_0, jq_c_n, jwd_le, jw_c0, mS_I, mS_R, mS_J, mN_I, mN_R, mN_J, mR_I, mI_R, mJ_I, mJ_R, mI_J, mR_J, ↓reduceIte, decide_true, or_true, true_or, and_self, false_or, or_false, reduceCtorEq, Bool.false_eq_true, and_false, false_and, eq_self, true_and, and_true, zero_ne, ↓br_lt_t, ↓br_lt_f, ↓br_eq_t, ↓br_eq_f, ↓br_lz_t, ↓br_lz_f, ↓br_ez_t, ↓br_ez_f, ↓br_gz_t, ↓br_gz_f, jw_id, jin_t, jix_t, ↓ite_t, ↓ite_f, RS.a R, RS.r0 R, RS.h R, RS.r2 R, RS.l R, RS.s R, RS.k0 R, RS.k1 R, RS.k2 R, RS.k3 R, RS.k4 R, RS.k5 R, RS.f8 R, RS.f9 R, RS.t65 R, RS.t102 R, RS.t68 R, RS.t70 R, RS.t72 R, RS.t74 R, RS.t76 R, RS.t78 R, ec, g1, g2, cm]
      rw [e0]
      exact i1
theorem RS.nm (R : RS w T n cnt p H N K C) (f : Fr (sP 102) w u) {K2 : Nat} {C2 : Nat → Int} (m : NM u T n K2 C2) : RS u T n cnt p H N K2 C2 := by
  obtain ⟨r, t, s, d, m0⟩ := R
  obtain ⟨t1, t2, t3, t4, t5⟩ := t
  obtain ⟨r1, r2, r3, r4, r5, r6, r7, r8⟩ := r
  have i1 := f.Iq (b := 101) (sP_n (by omega))
  have q1 := f.Rq (b := 101) (sP_n (by omega))
  exact ⟨⟨by rw [f.q]; exact r1, by rw [q1]; exact r2, by rw [q1]; exact r3, by rw [q1]; exact r4, by rw [i1]; exact r5, r6.fr f (sP_n (by omega)) (sP_n (by omega)), r7, r8⟩, ⟨t1, by rw [i1]; exact t2, by rw [i1]; exact t3, by rw [i1]; exact t4, by rw [i1]; exact t5⟩, s.fr f, d.fr f (fun x a b => sP_n (by omega)), m⟩
theorem l_name (R : RS w T n cnt p H N K C) (hK : K < 4) : ∃ u, Fr rdP w u ∧ ((∃ q, qt1 T n C K p = .inl q ∧ rn 44 (0, [(0, jvr 101)], [], w) = some (some (.inl 1), u) ∧ RS u T n cnt q H N (K + 1) (fun i => if i = K then tW T n p else C i)) ∨ (∃ x, qt1 T n C K p = .inr x ∧ rn 44 (0, [(0, jvr 101)], [], w) = some (some (.inl 0), u) ∧ RFx u T n cnt x)) := by
  have st := R.st
  have kb := tk_bd (T := T) (n := n) p
  have sb := ts_bd (T := T) R.pn
  have tb := tke_bd (T := T) R.pn
  have hc := R.1.2.2.2.2.2.2.1
  have hc2 := R.1.2.2.2.2.2.1.2.2.2.2.2.2.1
  by_cases k1 : tK T n p = 1
  · have eo := c_oneOf R.1 R.2.1 k1 R.2.2.1 ok_0
    have eo : rn 26 (0, [(0, jvr 101), (1, jvr 2)], [], w) = some (some (.inl (gWi (cs wLn) (tW T n p) 0)), w) := eo
    have b6 := wi_bd (cs wLn) (tW T n p) 0 (by omega)
    have l6 : ((cs wLn).length : Int) = 10 := rfl
    by_cases z : gWi (cs wLn) (tW T n p) 0 < 0
    · obtain ⟨s, e, g, hr⟩ := R.2.2.2.2
      have lp := nm_lp R k1 g hr K 0 (by omega)
      have e0 : rn 44 (0, [(0, jvr 101)], [], w) = rn 44 (29, [(0, jvr 101), (1, .inl ((0 : Nat) : Int))], [], w) := by
        simp (disch := omega) only [p44_0, p44_1, p44_4, p44_5, p44_8, p44_9, p44_11, p44_14, p44_17, p44_18, p44_19, p44_20, p44_23, p44_26, p44_27, p44_28, p44_30, p44_31, p44_34, p44_37, p44_40, p44_41, p44_42, p44_45, p44_46, p44_47, p44_50, p44_51, p44_54, p44_55, p44_56, p44_59, p44_62, p44_65, p44_66, p44_67, p44_68, p44_71, p44_74, p44_75, p44_78, p44_82, p44_85, p44_86, p44_89, p44_92, p44_93, p44_96, p44_97, p44_100, p44_103, p44_104, p44_105, p44_106, p44_107, p44_110, p44_113, p44_114, p44_117, p44_118, jwd_c, jwd_0, Nat.reduceLeDiff, Nat.reduceEqDiff, Nat.reduceAdd, Nat.reduceSub, Nat.reduceMul, Int.reduceAdd, Int.reduceSub, Int.reduceMul, Int.reduceNeg, Int.reduceEq, Int.reduceLT, Int.reduceLE, jq_ldi_i, jq_ldl_l, jq_lda_a, jq_inc_i, jq_gs_t, jq_gsb_t, jq_gb_t, jq_gr_2, jq_gr_4, jq_gw_2, jq_s_t, jq_b_t, jg_c, jg_n, js_c, js_n, jrm_c, jrm_n, j2_i, j2_l, j2_a, jq_c_i, jq_c_l, jq_c_0, jq_c_n, jwd_le, jw_c0, mS_I, mS_R, mS_J, mN_I, mN_R, mN_J, mR_I, mI_R, mJ_I, mJ_R, mI_J, mR_J, ↓reduceIte, decide_true, or_true, true_or, and_self, false_or, or_false, reduceCtorEq, Bool.false_eq_true, and_false, false_and, eq_self, true_and, and_true, zero_ne, ↓br_lt_t, ↓br_lt_f, ↓br_eq_t, ↓br_eq_f, ↓br_lz_t, ↓br_lz_f, ↓br_ez_t, ↓br_ez_f, ↓br_gz_t, ↓br_gz_f, jw_id, jin_t, jix_t, ↓ite_t, ↓ite_f, RS.a R, RS.r0 R, RS.h R, RS.r2 R, RS.l R, RS.s R, RS.k0 R, RS.k1 R, RS.k2 R, RS.k3 R, RS.k4 R, RS.k5 R, RS.f8 R, RS.f9 R, RS.t65 R, RS.t102 R, RS.t68 R, RS.t70 R, RS.t72 R, RS.t74 R, RS.t76 R, RS.t78 R, st.1, st.2.1, eo]
        rfl
      rw [e0]
      have eq : qt1 T n C K p = if gKm C (tW T n p) K 0 = true then .inr (3, (tS T n p : Int)) else .inl (tE T n p) := if_pos ⟨k1, z⟩
      rw [eq]
      cases y : gKm C (tW T n p) K 0 with
      | true =>
        have fl := R.fail (f := 3) (a := (tS T n p : Int))
        exact ⟨_, fl.2.2, Or.inr ⟨_, if_pos rfl, lp.1 y, fl.2.1⟩⟩
      | false =>
        rw [lp.2 y]
        obtain ⟨u1, e1, s1, f1⟩ := sg_push (v := (tS T n p : Int)) g hK
        have ec := sg_count s1
        obtain ⟨u2, e2, s2, f2⟩ := sg_put (v := (tE T n p : Int)) s1 (l := (K : Int)) (k := 1) (by omega) (by omega) (by omega) (by omega)
        have f12 : Fr (sP 102) w u2 := f1.tr f2
        have nm : NM u2 T n (K + 1) (fun i => if i = K then tW T n p else C i) := by
          refine ⟨fun i => if i = K then tS T n p else s i, fun i => if i = K then tE T n p else e i, s2.mk2 (fun i j hi hj => ?_), fun i hi => ?_⟩
          · rw [Int.toNat_natCast]
            have hj : j = 0 ∨ j = 1 := by omega
            dsimp only
            by_cases x : i = K
            · rw [if_pos x, if_pos x]
              rcases hj with rfl | rfl
              · rw [if_neg (by omega), if_neg (by omega), if_pos rfl, if_pos rfl]
              · rw [if_pos ⟨x, rfl⟩, if_neg (by omega)]
            · rw [if_neg x, if_neg x, if_neg (by omega), if_pos (by omega)]
          · dsimp only
            by_cases x : i = K
            · rw [if_pos x, if_pos x, if_pos x]
              have tl := tw_lt k1
              exact ⟨tb.1, tb.2.1, tl.2, tl.1, rfl⟩
            · rw [if_neg x, if_neg x, if_neg x]
              exact hr i (by omega)
        have R2 := R.nm f12 nm
        obtain ⟨u3, e3, R3, f3⟩ := R2.over
        have fr2 : Fr rdP w u2 := f12.mo (fun b hb => by unfold sP at hb; unfold rdP; omega)
        refine ⟨u3, fr2.tr f3, Or.inl ⟨_, if_neg (by decide), ?_, R3⟩⟩
        have q1 : mS u1 = mS w := f1.q
        have q2 : mR u1 101 = mR w 101 := f1.Rq (sP_n (by omega))
        have q3 : mI u1 101 = mI w 101 := f1.Iq (sP_n (by omega))
        have q4 : mS u2 = mS w := f12.q
        rw [show ((K + 1 : Nat) : Int) = (K : Int) + 1 by omega] at ec
        rw [p44_81]
        simp (disch := omega) only [p44_0, p44_1, p44_4, p44_5, p44_8, p44_9, p44_11, p44_14, p44_17, p44_18, p44_19, p44_20, p44_23, p44_26, p44_27, p44_28, p44_30, p44_31, p44_34, p44_37, p44_40, p44_41, p44_42, p44_45, p44_46, p44_47, p44_50, p44_51, p44_54, p44_55, p44_56, p44_59, p44_62, p44_65, p44_66, p44_67, p44_68, p44_71, p44_74, p44_75, p44_78, p44_82, p44_85, p44_86, p44_89, p44_92, p44_93, p44_96, p44_97, p44_100, p44_103, p44_104, p44_105, p44_106, p44_107, p44_110, p44_113, p44_114, p44_117, p44_118, jwd_c, jwd_0, Nat.reduceLeDiff, Nat.reduceEqDiff, Nat.reduceAdd, Nat.reduceSub, Nat.reduceMul, Int.reduceAdd, Int.reduceSub, Int.reduceMul, Int.reduceNeg, Int.reduceEq, Int.reduceLT, Int.reduceLE, jq_ldi_i, jq_ldl_l, jq_lda_a, jq_inc_i, jq_gs_t, jq_gsb_t, jq_gb_t, jq_gr_2, jq_gr_4, jq_gw_2, jq_s_t, jq_b_t, jg_c, jg_n, js_c, js_n, jrm_c, jrm_n, j2_i, j2_l, j2_a, jq_c_i, jq_c_l, jq_c_0, jq_c_n, jwd_le, jw_c0, mS_I, mS_R, mS_J, mN_I, mN_R, mN_J, mR_I, mI_R, mJ_I, mJ_R, mI_J, mR_J, ↓reduceIte, decide_true, or_true, true_or, and_self, false_or, or_false, reduceCtorEq, Bool.false_eq_true, and_false, false_and, eq_self, true_and, and_true, zero_ne, ↓br_lt_t, ↓br_lt_f, ↓br_eq_t, ↓br_eq_f, ↓br_lz_t, ↓br_lz_f, ↓br_ez_t, ↓br_ez_f, ↓br_gz_t, ↓br_gz_f, jw_id, jin_t, jix_t, ↓ite_t, ↓ite_f, RS.a R, RS.r0 R, RS.h R, RS.r2 R, RS.l R, RS.s R, RS.k0 R, RS.k1 R, RS.k2 R, RS.k3 R, RS.k4 R, RS.k5 R, RS.f8 R, RS.f9 R, RS.t65 R, RS.t102 R, RS.t68 R, RS.t70 R, RS.t72 R, RS.t74 R, RS.t76 R, RS.t78 R, st.1, st.2.2, e1, q1, q2, q3, q4, ec, Int.add_sub_cancel, e2, e3]
    · have fl := R.fail (f := 1) (a := (tS T n p : Int))
      refine ⟨_, fl.2.2, Or.inr ⟨_, if_neg (fun x => z x.2), ?_, fl.2.1⟩⟩
      simp (disch := omega) only [p44_0, p44_1, p44_4, p44_5, p44_8, p44_9, p44_11, p44_14, p44_17, p44_18, p44_19, p44_20, p44_23, p44_26, p44_27, p44_28, p44_30, p44_31, p44_34, p44_37, p44_40, p44_41, p44_42, p44_45, p44_46, p44_47, p44_50, p44_51, p44_54, p44_55, p44_56, p44_59, p44_62, p44_65, p44_66, p44_67, p44_68, p44_71, p44_74, p44_75, p44_78, p44_82, p44_85, p44_86, p44_89, p44_92, p44_93, p44_96, p44_97, p44_100, p44_103, p44_104, p44_105, p44_106, p44_107, p44_110, p44_113, p44_114, p44_117, p44_118, jwd_c, jwd_0, Nat.reduceLeDiff, Nat.reduceEqDiff, Nat.reduceAdd, Nat.reduceSub, Nat.reduceMul, Int.reduceAdd, Int.reduceSub, Int.reduceMul, Int.reduceNeg, Int.reduceEq, Int.reduceLT, Int.reduceLE, jq_ldi_i, jq_ldl_l, jq_lda_a, jq_inc_i, jq_gs_t, jq_gsb_t, jq_gb_t, jq_gr_2, jq_gr_4, jq_gw_2, jq_s_t, jq_b_t, jg_c, jg_n, js_c, js_n, jrm_c, jrm_n, j2_i, j2_l, j2_a, jq_c_i, jq_c_l, jq_c_0, jq_c_n, jwd_le, jw_c0, mS_I, mS_R, mS_J, mN_I, mN_R, mN_J, mR_I, mI_R, mJ_I, mJ_R, mI_J, mR_J, ↓reduceIte, decide_true, or_true, true_or, and_self, false_or, or_false, reduceCtorEq, Bool.false_eq_true, and_false, false_and, eq_self, true_and, and_true, zero_ne, ↓br_lt_t, ↓br_lt_f, ↓br_eq_t, ↓br_eq_f, ↓br_lz_t, ↓br_lz_f, ↓br_ez_t, ↓br_ez_f, ↓br_gz_t, ↓br_gz_f, jw_id, jin_t, jix_t, ↓ite_t, ↓ite_f, RS.a R, RS.r0 R, RS.h R, RS.r2 R, RS.l R, RS.s R, RS.k0 R, RS.k1 R, RS.k2 R, RS.k3 R, RS.k4 R, RS.k5 R, RS.f8 R, RS.f9 R, RS.t65 R, RS.t102 R, RS.t68 R, RS.t70 R, RS.t72 R, RS.t74 R, RS.t76 R, RS.t78 R, st.1, st.2.1, eo, fl.1]
  · have fl := R.fail (f := 1) (a := (tS T n p : Int))
    refine ⟨_, fl.2.2, Or.inr ⟨_, if_neg (fun x => k1 x.1), ?_, fl.2.1⟩⟩
    simp (disch := omega) only [p44_0, p44_1, p44_4, p44_5, p44_8, p44_9, p44_11, p44_14, p44_17, p44_18, p44_19, p44_20, p44_23, p44_26, p44_27, p44_28, p44_30, p44_31, p44_34, p44_37, p44_40, p44_41, p44_42, p44_45, p44_46, p44_47, p44_50, p44_51, p44_54, p44_55, p44_56, p44_59, p44_62, p44_65, p44_66, p44_67, p44_68, p44_71, p44_74, p44_75, p44_78, p44_82, p44_85, p44_86, p44_89, p44_92, p44_93, p44_96, p44_97, p44_100, p44_103, p44_104, p44_105, p44_106, p44_107, p44_110, p44_113, p44_114, p44_117, p44_118, jwd_c, jwd_0, Nat.reduceLeDiff, Nat.reduceEqDiff, Nat.reduceAdd, Nat.reduceSub, Nat.reduceMul, Int.reduceAdd, Int.reduceSub, Int.reduceMul, Int.reduceNeg, Int.reduceEq, Int.reduceLT, Int.reduceLE, jq_ldi_i, jq_ldl_l, jq_lda_a, jq_inc_i, jq_gs_t, jq_gsb_t, jq_gb_t, jq_gr_2, jq_gr_4, jq_gw_2, jq_s_t, jq_b_t, jg_c, jg_n, js_c, js_n, jrm_c, jrm_n, j2_i, j2_l, j2_a, jq_c_i, jq_c_l, jq_c_0, jq_c_n, jwd_le, jw_c0, mS_I, mS_R, mS_J, mN_I, mN_R, mN_J, mR_I, mI_R, mJ_I, mJ_R, mI_J, mR_J, ↓reduceIte, decide_true, or_true, true_or, and_self, false_or, or_false, reduceCtorEq, Bool.false_eq_true, and_false, false_and, eq_self, true_and, and_true, zero_ne, ↓br_lt_t, ↓br_lt_f, ↓br_eq_t, ↓br_eq_f, ↓br_lz_t, ↓br_lz_f, ↓br_ez_t, ↓br_ez_f, ↓br_gz_t, ↓br_gz_f, jw_id, jin_t, jix_t, ↓ite_t, ↓ite_f, RS.a R, RS.r0 R, RS.h R, RS.r2 R, RS.l R, RS.s R, RS.k0 R, RS.k1 R, RS.k2 R, RS.k3 R, RS.k4 R, RS.k5 R, RS.f8 R, RS.f9 R, RS.t65 R, RS.t102 R, RS.t68 R, RS.t70 R, RS.t72 R, RS.t74 R, RS.t76 R, RS.t78 R, st.1, st.2.1, fl.1]
end NAMEC
