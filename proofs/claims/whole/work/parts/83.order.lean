/-! The class: the best order. -/
section BORD
variable {w u : jmW} {H : Nat → Nat → Int} {r S q g f : Nat → Int} {B Bt : Int} {n : Nat}
theorem cO.oset (h : cO w H r) (f : Fr (fun b => 232 ≤ b ∧ b ≤ 235) w u) (e2 : ∃ n q, Sg u 232 1 8 n q) (e3 : ∃ n q, Sg u 234 1 8 n q) : cO u H r := by
  have e := f.Iq (b := 64) (by omega)
  have r0 := f.Rq (b := 64) (by omega)
  obtain ⟨o1, o2, o3, o4, o5, o6⟩ := h.2.2.2.2
  exact ⟨h.1.fr f.q r0, by rw [e]; exact h.2.1, h.cr.fr f (fun b b1 b2 => by omega), h.fb.fr f (fun b hb => by omega), by rw [f.q]; exact o1, by rw [f.Rq (by omega)]; exact o2, by rw [f.Rq (by omega)]; exact o3, e2, e3, exSg o6 f (by omega) (by omega)⟩
theorem FF.row2 {L p : Int} (h : FF w H L S p (gZ0 q g)) (f : Fr (rP 119) w u) {q2 : Nat → Int} (e : gOver q2 = gOver q) (cr : CR u 119 (H 0 3).toNat (gOver q) q2) : FF u H L S p (gZ0 q2 g) := by
  obtain ⟨F, O⟩ := h
  refine ⟨?_, O.fr f (rP_n (by omega))⟩
  show FS _ H L S q2 _ (gOver q2)
  rw [e]
  exact F.row f cr
theorem ow_lp (rr : RI H B r) (hp : PF n f) (hn : (n : Int) = r 289) {l t : Int} : ∀ (m : Nat) (i : Int) (qi : Nat → Int) (w : jmW), cO w H r → ON w n f → FF w H (H 0 6) S (-1) (gZ0 qi g) → RI H B qi → qi 290 = r 290 → qi 289 = r 289 → 1 ≤ i → i + m = r 289 → ∃ u, rn 123 (42, [(0, jvr 64), (1, .inl l), (2, .inl t), (3, .inl i)], [], w) = rn 123 (89, [(0, jvr 64), (1, .inl l), (2, .inl t), (3, .inl (r 289))], [], u) ∧ FF u H (H 0 6) S (-1) (gZ0 (gOw r f m i qi) g) ∧ cO u H r ∧ Fr fP w u := by
  have h16 := rr.1.1
  intro m
  induction m with
  | zero =>
    intro i qi w h ho F ri e90 e89 i1 i2
    have e0 := cr_n h.cr (by omega)
    have e : i = r 289 := by omega
    subst e
    refine ⟨w, ?_, F, h, Fr.rf _ _⟩
    rw [p123_42]
    simp (disch := omega) only [p123_0, p123_2, p123_3, p123_4, p123_7, p123_8, p123_11, p123_14, p123_17, p123_20, p123_21, p123_23, p123_26, p123_29, p123_30, p123_33, p123_34, p123_37, p123_40, p123_41, p123_43, p123_44, p123_47, p123_50, p123_53, p123_56, p123_57, p123_60, p123_63, p123_64, p123_65, p123_68, p123_69, p123_72, p123_75, p123_76, p123_77, p123_80, p123_83, p123_86, p123_90, p123_93, p123_95, p123_98, p123_99, p123_102, p123_105, p123_106, p123_109, p123_110, p123_113, p123_116, p123_117, p123_118, p123_121, p123_124, p123_125, p123_128, p123_131, p123_135, p123_138, p123_139, p123_142, p123_145, p123_148, p123_151, p123_154, p123_157, p123_158, jwd_c, jwd_0, Nat.reduceLeDiff, Nat.reduceEqDiff, Nat.reduceAdd, Nat.reduceSub, Nat.reduceMul, Int.reduceAdd, Int.reduceSub, Int.reduceMul, Int.reduceNeg, Int.reduceEq, Int.reduceLT, Int.reduceLE, jq_ldi_i, jq_ldl_l, jq_lda_a, jq_inc_i, jq_gs_t, jq_gsb_t, jq_gb_t, jq_gr_2, jq_gr_4, jq_gw_2, jq_s_t, jq_b_t, jg_c, jg_n, js_c, js_n, jrm_c, jrm_n, j2_i, j2_l, j2_a, jq_c_i, jq_c_l, jq_c_0, jq_c_n, jwd_le, jw_c0, mS_I, mS_R, mS_J, mN_I, mN_R, mN_J, mR_I, mI_R, mJ_I, mJ_R, mI_J, mR_J, ↓reduceIte, decide_true, or_true, true_or, and_self, false_or, or_false, reduceCtorEq, Bool.false_eq_true, and_false, false_and, eq_self, true_and, and_true, zero_ne, ↓br_lt_t, ↓br_lt_f, ↓br_eq_t, ↓br_eq_f, ↓br_lz_t, ↓br_lz_f, ↓br_ez_t, ↓br_ez_f, ↓br_gz_t, ↓br_gz_f, jw_id, jin_t, jix_t, cO.s h, cO.r0 h, cO.r1 h, cO.r2 h, cO.r3 h, cO.r4 h, cO.r5 h, cO.r6 h, cO.r7 h, cO.r8 h, cO.r9 h, cO.r10 h, cO.o h, cO.x111 h, cO.x111p h, cO.x111k h, cO.x111t h, cO.x112 h, cO.x114 h, cO.x116 h, cO.x118 h, cO.x84 h, cO.x84r0 h, cO.x84r1 h, cO.x84r2 h, cO.x84r3 h, cO.x84r4 h, cO.x84r5 h, cO.x84r6 h, cO.x84r7 h, cO.x85 h, cO.x87 h, cO.x89 h, cO.x91 h, cO.x93 h, cO.x95 h, cO.x97 h, cO.x99 h, cO.x84f8 h, cO.x84f9 h, cO.x84f10 h, cO.x84f11 h, cO.x84f12 h, cO.x84f14 h, cO.x84f15 h, cO.x84f16 h, cO.x84f17 h, e0]
  | succ m ih =>
    intro i qi w h ho F ri e90 e89 i1 i2
    have e0 := cr_n h.cr (by omega)
    obtain ⟨h1, h2, h3, h4⟩ := ho
    have ho : ON w n f := ⟨h1, h2, h3, h4⟩
    have p := hp i.toNat (by omega)
    have e1 := sg_in h4 (l := i) (k := 0) (by omega) (by omega) (by omega) (by omega)
    have q16 := ri.1.1
    have crq : CR w 119 (H 0 3).toNat (gOver qi) qi := F.1.cr
    obtain ⟨w1, e2, c1, f1⟩ := r_take crq h.cr (by omega) (by omega) (i := i) (j := f i.toNat) (by omega) (by omega) p.1 (by omega) (by omega)
    have f1 : Fr (rP 119) w w1 := f1
    have ov : gOver (gTake qi r i (f i.toNat)) = gOver qi := over_tk (by omega) (by omega)
    have F1 := F.row2 f1 ov c1
    have f1' : Fr fP w w1 := f1.mo (fun b hb => by unfold rP at hb; unfold fP; omega)
    have hX := h.fut f1' F1.1.fb
    have ho1 := ho.fr f1 (fun b b1 b2 => rP_n (by omega))
    have tk := fun k (hk : k < 204 ∨ 284 ≤ k) => tk_keep (r := qi) (q := r) (i := i) (j := f i.toNat) k hk (by omega) (by omega)
    obtain ⟨u, e3, F3, h5, f3⟩ := ih (i + 1) _ w1 hX ho1 F1 (tk_ri ri rr e90 e89 (by omega) (by omega) p.1 (by omega)) (by rw [tk 290 (by omega)]; exact e90) (by rw [tk 289 (by omega)]; exact e89) (by omega) (by omega)
    refine ⟨u, ?_, F3, h5, f1'.tr f3⟩
    rw [← e3, p123_42]
    have z1 := F.s0
    have z2 := F.1.r1
    have z3 := F.1.x119
    have z4 := h4.1
    simp (disch := omega) only [p123_0, p123_2, p123_3, p123_4, p123_7, p123_8, p123_11, p123_14, p123_17, p123_20, p123_21, p123_23, p123_26, p123_29, p123_30, p123_33, p123_34, p123_37, p123_40, p123_41, p123_43, p123_44, p123_47, p123_50, p123_53, p123_56, p123_57, p123_60, p123_63, p123_64, p123_65, p123_68, p123_69, p123_72, p123_75, p123_76, p123_77, p123_80, p123_83, p123_86, p123_90, p123_93, p123_95, p123_98, p123_99, p123_102, p123_105, p123_106, p123_109, p123_110, p123_113, p123_116, p123_117, p123_118, p123_121, p123_124, p123_125, p123_128, p123_131, p123_135, p123_138, p123_139, p123_142, p123_145, p123_148, p123_151, p123_154, p123_157, p123_158, jwd_c, jwd_0, Nat.reduceLeDiff, Nat.reduceEqDiff, Nat.reduceAdd, Nat.reduceSub, Nat.reduceMul, Int.reduceAdd, Int.reduceSub, Int.reduceMul, Int.reduceNeg, Int.reduceEq, Int.reduceLT, Int.reduceLE, jq_ldi_i, jq_ldl_l, jq_lda_a, jq_inc_i, jq_gs_t, jq_gsb_t, jq_gb_t, jq_gr_2, jq_gr_4, jq_gw_2, jq_s_t, jq_b_t, jg_c, jg_n, js_c, js_n, jrm_c, jrm_n, j2_i, j2_l, j2_a, jq_c_i, jq_c_l, jq_c_0, jq_c_n, jwd_le, jw_c0, mS_I, mS_R, mS_J, mN_I, mN_R, mN_J, mR_I, mI_R, mJ_I, mJ_R, mI_J, mR_J, ↓reduceIte, decide_true, or_true, true_or, and_self, false_or, or_false, reduceCtorEq, Bool.false_eq_true, and_false, false_and, eq_self, true_and, and_true, zero_ne, ↓br_lt_t, ↓br_lt_f, ↓br_eq_t, ↓br_eq_f, ↓br_lz_t, ↓br_lz_f, ↓br_ez_t, ↓br_ez_f, ↓br_gz_t, ↓br_gz_f, jw_id, jin_t, jix_t, cO.s h, cO.r0 h, cO.r1 h, cO.r2 h, cO.r3 h, cO.r4 h, cO.r5 h, cO.r6 h, cO.r7 h, cO.r8 h, cO.r9 h, cO.r10 h, cO.o h, cO.x111 h, cO.x111p h, cO.x111k h, cO.x111t h, cO.x112 h, cO.x114 h, cO.x116 h, cO.x118 h, cO.x84 h, cO.x84r0 h, cO.x84r1 h, cO.x84r2 h, cO.x84r3 h, cO.x84r4 h, cO.x84r5 h, cO.x84r6 h, cO.x84r7 h, cO.x85 h, cO.x87 h, cO.x89 h, cO.x91 h, cO.x93 h, cO.x95 h, cO.x97 h, cO.x99 h, cO.x84f8 h, cO.x84f9 h, cO.x84f10 h, cO.x84f11 h, cO.x84f12 h, cO.x84f14 h, cO.x84f15 h, cO.x84f16 h, cO.x84f17 h, e0, h1, h2, e1, e2, z1, z2, z3, z4]
theorem bo_lp (b : fB H r S q g B) (rn0 : r 289 ≤ r 290) (hn : (n : Int) = r 289) (hn7 : n ≤ 7) : ∀ (k : Nat) (t l : Int) (f bs : Nat → Int) (tl : jmL) (w : jmW), t + k = 720 → 0 ≤ t → 0 ≤ l → l ≤ 100 → cO w H r → ON w n f → PF n f → Sg w 234 1 8 n (fun i _ => bs i) → t1p 3 tl → ∃ u, rn 123 (22, (0, jvr 64) :: (1, .inl l) :: (2, .inl t) :: tl, [], w) = some (some (.inl (gBo H S q g r n k f l bs).1), u) ∧ cO u H r ∧ Sg u 234 1 8 n (fun i _ => (gBo H S q g r n k f l bs).2 i) ∧ Fr oP w u := by
  have k6 := b.1.2.1
  have rr := b.2.2.1
  have h16 := rr.1.1
  have bq := b.2.2.2.2.2.2
  intro k
  induction k with
  | zero =>
    intro t l f bs tl w t1 t2 l1 l2 h ho hp hb ht
    have e : gBo H S q g r n 0 f l bs = (l, bs) := rfl
    refine ⟨w, ?_, h, by rw [e]; exact hb, Fr.rf _ _⟩
    rw [e, p123_22]
    simp (disch := omega) only [p123_0, p123_2, p123_3, p123_4, p123_7, p123_8, p123_11, p123_14, p123_17, p123_20, p123_21, p123_23, p123_26, p123_29, p123_30, p123_33, p123_34, p123_37, p123_40, p123_41, p123_43, p123_44, p123_47, p123_50, p123_53, p123_56, p123_57, p123_60, p123_63, p123_64, p123_65, p123_68, p123_69, p123_72, p123_75, p123_76, p123_77, p123_80, p123_83, p123_86, p123_90, p123_93, p123_95, p123_98, p123_99, p123_102, p123_105, p123_106, p123_109, p123_110, p123_113, p123_116, p123_117, p123_118, p123_121, p123_124, p123_125, p123_128, p123_131, p123_135, p123_138, p123_139, p123_142, p123_145, p123_148, p123_151, p123_154, p123_157, p123_158, jwd_c, jwd_0, Nat.reduceLeDiff, Nat.reduceEqDiff, Nat.reduceAdd, Nat.reduceSub, Nat.reduceMul, Int.reduceAdd, Int.reduceSub, Int.reduceMul, Int.reduceNeg, Int.reduceEq, Int.reduceLT, Int.reduceLE, jq_ldi_i, jq_ldl_l, jq_lda_a, jq_inc_i, jq_gs_t, jq_gsb_t, jq_gb_t, jq_gr_2, jq_gr_4, jq_gw_2, jq_s_t, jq_b_t, jg_c, jg_n, js_c, js_n, jrm_c, jrm_n, j2_i, j2_l, j2_a, jq_c_i, jq_c_l, jq_c_0, jq_c_n, jwd_le, jw_c0, mS_I, mS_R, mS_J, mN_I, mN_R, mN_J, mR_I, mI_R, mJ_I, mJ_R, mI_J, mR_J, ↓reduceIte, decide_true, or_true, true_or, and_self, false_or, or_false, reduceCtorEq, Bool.false_eq_true, and_false, false_and, eq_self, true_and, and_true, zero_ne, ↓br_lt_t, ↓br_lt_f, ↓br_eq_t, ↓br_eq_f, ↓br_lz_t, ↓br_lz_f, ↓br_ez_t, ↓br_ez_f, ↓br_gz_t, ↓br_gz_f, jw_id, jin_t, jix_t, cO.s h, cO.r0 h, cO.r1 h, cO.r2 h, cO.r3 h, cO.r4 h, cO.r5 h, cO.r6 h, cO.r7 h, cO.r8 h, cO.r9 h, cO.r10 h, cO.o h, cO.x111 h, cO.x111p h, cO.x111k h, cO.x111t h, cO.x112 h, cO.x114 h, cO.x116 h, cO.x118 h, cO.x84 h, cO.x84r0 h, cO.x84r1 h, cO.x84r2 h, cO.x84r3 h, cO.x84r4 h, cO.x84r5 h, cO.x84r6 h, cO.x84r7 h, cO.x85 h, cO.x87 h, cO.x89 h, cO.x91 h, cO.x93 h, cO.x95 h, cO.x97 h, cO.x99 h, cO.x84f8 h, cO.x84f9 h, cO.x84f10 h, cO.x84f11 h, cO.x84f12 h, cO.x84f14 h, cO.x84f15 h, cO.x84f16 h, cO.x84f17 h]
  | succ k ih =>
    intro t l f bs tl w t1 t2 l1 l2 h ho hp hb ht
    have ob := oo_bd b rn0 hp hn
    have n1 : 1 ≤ n := by omega
    have jr := t1p_jr ht
    have j3 := t1p_js ht
    have e : gBo H S q g r n (k + 1) f l bs = (match gNx n f with | none => if gOo H S q g r n f < l then (gOo H S q g r n f, f) else (l, bs) | some f2 => if gOo H S q g r n f < l then gBo H S q g r n k f2 (gOo H S q g r n f) f else gBo H S q g r n k f2 l bs) := rfl
    obtain ⟨w1, e1, F1, h1, f1⟩ := h.beg b
    have ho1 := ho.fr f1 (fun b b1 b2 z => by unfold fP at z; omega)
    have bi := b.i
    obtain ⟨w2, e2, F2, h2, f2⟩ := ow_lp rr hp hn (l := l) (t := t) (n - 1) 1 q w1 h1 ho1 F1 bi (bq 290 (by omega)) (bq 289 (by omega)) (by omega) (by omega)
    have zb := zb0 (p := -1) (g := g) ob.1 b.2.2.2.1.1 (Or.inl rfl)
    obtain ⟨w3, e3, F3, Z3, f3⟩ := f_run b.1 (by omega) (by omega) b.s1 (t := 12) (by omega) (by omega) F2 zb (by have := b.2.2.2.1; omega)
    rw [show (12 : Int).toNat = 12 from rfl] at F3 Z3
    have f3' : Fr fP w2 w3 := f3.mo (fun b hb => by unfold fQ at hb; unfold fP; omega)
    have h3 := h2.fut f3' F3.1.fb
    have f13 : Fr fP w w3 := (f1.tr f2).tr f3'
    have ho3 := ho.fr f13 (fun b b1 b2 z => by unfold fP at z; omega)
    have hb3 := hb.fr f13 (fun z => by unfold fP at z; omega) (fun z => by unfold fP at z; omega)
    have o5 : mI w3 118 12 = gOo H S q g r n f := F3.2.2.2.2.2.2.1
    have oP13 : Fr oP w w3 := f13.mo (fun b hb => by unfold fP at hb; unfold oP; omega)
    have hd : rn 123 (22, (0, jvr 64) :: (1, .inl l) :: (2, .inl t) :: tl, [], w) = rn 123 (105, [(0, jvr 64), (1, .inl l), (2, .inl t), (3, .inl (r 289))], [.inl (gOo H S q g r n f)], w3) := by
      have s1 : rn 123 (22, (0, jvr 64) :: (1, .inl l) :: (2, .inl t) :: tl, [], w) = rn 123 (42, [(0, jvr 64), (1, .inl l), (2, .inl t), (3, .inl 1)], [], w1) := by
        rw [p123_22]
        have z1 := h.fb.1
        have z2 := h1.s
        simp (disch := omega) only [p123_0, p123_2, p123_3, p123_4, p123_7, p123_8, p123_11, p123_14, p123_17, p123_20, p123_21, p123_23, p123_26, p123_29, p123_30, p123_33, p123_34, p123_37, p123_40, p123_41, p123_43, p123_44, p123_47, p123_50, p123_53, p123_56, p123_57, p123_60, p123_63, p123_64, p123_65, p123_68, p123_69, p123_72, p123_75, p123_76, p123_77, p123_80, p123_83, p123_86, p123_90, p123_93, p123_95, p123_98, p123_99, p123_102, p123_105, p123_106, p123_109, p123_110, p123_113, p123_116, p123_117, p123_118, p123_121, p123_124, p123_125, p123_128, p123_131, p123_135, p123_138, p123_139, p123_142, p123_145, p123_148, p123_151, p123_154, p123_157, p123_158, jwd_c, jwd_0, Nat.reduceLeDiff, Nat.reduceEqDiff, Nat.reduceAdd, Nat.reduceSub, Nat.reduceMul, Int.reduceAdd, Int.reduceSub, Int.reduceMul, Int.reduceNeg, Int.reduceEq, Int.reduceLT, Int.reduceLE, jq_ldi_i, jq_ldl_l, jq_lda_a, jq_inc_i, jq_gs_t, jq_gsb_t, jq_gb_t, jq_gr_2, jq_gr_4, jq_gw_2, jq_s_t, jq_b_t, jg_c, jg_n, js_c, js_n, jrm_c, jrm_n, j2_i, j2_l, j2_a, jq_c_i, jq_c_l, jq_c_0, jq_c_n, jwd_le, jw_c0, mS_I, mS_R, mS_J, mN_I, mN_R, mN_J, mR_I, mI_R, mJ_I, mJ_R, mI_J, mR_J, ↓reduceIte, decide_true, or_true, true_or, and_self, false_or, or_false, reduceCtorEq, Bool.false_eq_true, and_false, false_and, eq_self, true_and, and_true, zero_ne, ↓br_lt_t, ↓br_lt_f, ↓br_eq_t, ↓br_eq_f, ↓br_lz_t, ↓br_lz_f, ↓br_ez_t, ↓br_ez_f, ↓br_gz_t, ↓br_gz_f, jw_id, jin_t, jix_t, cO.s h, cO.r0 h, cO.r1 h, cO.r2 h, cO.r3 h, cO.r4 h, cO.r5 h, cO.r6 h, cO.r7 h, cO.r8 h, cO.r9 h, cO.r10 h, cO.o h, cO.x111 h, cO.x111p h, cO.x111k h, cO.x111t h, cO.x112 h, cO.x114 h, cO.x116 h, cO.x118 h, cO.x84 h, cO.x84r0 h, cO.x84r1 h, cO.x84r2 h, cO.x84r3 h, cO.x84r4 h, cO.x84r5 h, cO.x84r6 h, cO.x84r7 h, cO.x85 h, cO.x87 h, cO.x89 h, cO.x91 h, cO.x93 h, cO.x95 h, cO.x97 h, cO.x99 h, cO.x84f8 h, cO.x84f9 h, cO.x84f10 h, cO.x84f11 h, cO.x84f12 h, cO.x84f14 h, cO.x84f15 h, cO.x84f16 h, cO.x84f17 h, z1, z2, e1, j3, jr]
      rw [s1, e2, p123_89]
      have z1 := h2.s
      have z2 := h2.r6
      have z3 := F2.s0
      have z4 := h3.s
      have z5 := h3.r6
      have z6 := F3.s0
      simp (disch := omega) only [p123_0, p123_2, p123_3, p123_4, p123_7, p123_8, p123_11, p123_14, p123_17, p123_20, p123_21, p123_23, p123_26, p123_29, p123_30, p123_33, p123_34, p123_37, p123_40, p123_41, p123_43, p123_44, p123_47, p123_50, p123_53, p123_56, p123_57, p123_60, p123_63, p123_64, p123_65, p123_68, p123_69, p123_72, p123_75, p123_76, p123_77, p123_80, p123_83, p123_86, p123_90, p123_93, p123_95, p123_98, p123_99, p123_102, p123_106, p123_109, p123_110, p123_113, p123_116, p123_117, p123_118, p123_121, p123_124, p123_125, p123_128, p123_131, p123_135, p123_138, p123_139, p123_142, p123_145, p123_148, p123_151, p123_154, p123_157, p123_158, jwd_c, jwd_0, Nat.reduceLeDiff, Nat.reduceEqDiff, Nat.reduceAdd, Nat.reduceSub, Nat.reduceMul, Int.reduceAdd, Int.reduceSub, Int.reduceMul, Int.reduceNeg, Int.reduceEq, Int.reduceLT, Int.reduceLE, jq_ldi_i, jq_ldl_l, jq_lda_a, jq_inc_i, jq_gs_t, jq_gsb_t, jq_gb_t, jq_gr_2, jq_gr_4, jq_gw_2, jq_s_t, jq_b_t, jg_c, jg_n, js_c, js_n, jrm_c, jrm_n, j2_i, j2_l, j2_a, jq_c_i, jq_c_l, jq_c_0, jq_c_n, jwd_le, jw_c0, mS_I, mS_R, mS_J, mN_I, mN_R, mN_J, mR_I, mI_R, mJ_I, mJ_R, mI_J, mR_J, ↓reduceIte, decide_true, or_true, true_or, and_self, false_or, or_false, reduceCtorEq, Bool.false_eq_true, and_false, false_and, eq_self, true_and, and_true, zero_ne, ↓br_lt_t, ↓br_lt_f, ↓br_eq_t, ↓br_eq_f, ↓br_lz_t, ↓br_lz_f, ↓br_ez_t, ↓br_ez_f, ↓br_gz_t, ↓br_gz_f, jw_id, jin_t, jix_t, z1, z2, z3, z4, z5, z6, e3, o5]
    rw [hd, e]
    generalize hO : gOo H S q g r n f = O at *
    -- what is best now
    have step : ∃ (l2 : Int) (b2 : Nat → Int) (w4 : jmW), rn 123 (105, [(0, jvr 64), (1, .inl l), (2, .inl t), (3, .inl (r 289))], [.inl O], w3) = rn 123 (134, [(0, jvr 64), (1, .inl l2), (2, .inl t), (3, .inl (r 289))], [], w4) ∧ (0 ≤ l2 ∧ l2 ≤ 100) ∧ cO w4 H r ∧ ON w4 n f ∧ Sg w4 234 1 8 n (fun i _ => b2 i) ∧ Fr oP w w4 ∧ ((O < l ∧ l2 = O ∧ b2 = f) ∨ (¬ O < l ∧ l2 = l ∧ b2 = bs)) := by
      by_cases z : O < l
      · obtain ⟨w4, e4, s4, f4⟩ := sg_copy hb3 ho3.2.2.2 (by omega) (by omega)
        have f4 : Fr (sP 234) w3 w4 := f4
        have ho4 := ho3.fr f4 (fun b b1 b2 => sP_n (by omega))
        have h4 := h3.oset (f4.mo (fun b hb => by unfold sP at hb; omega)) ⟨_, _, ho4.2.2.2⟩ ⟨_, _, s4⟩
        refine ⟨O, f, w4, ?_, by omega, h4, ho4, s4, oP13.tr (f4.mo (fun b hb => by unfold sP at hb; unfold oP; omega)), Or.inl ⟨z, rfl, rfl⟩⟩
        have z1 := h3.s
        have z2 := h3.r6
        have z3 := F3.s0
        have z4 := h3.r9
        have z5 := ho3.1
        have z6 := ho3.2.1
        have z7 := ho3.2.2.1
        have z8 := hb3.1
        rw [p123_105]
        simp (disch := omega) only [p123_0, p123_2, p123_3, p123_4, p123_7, p123_8, p123_11, p123_14, p123_17, p123_20, p123_21, p123_23, p123_26, p123_29, p123_30, p123_33, p123_34, p123_37, p123_40, p123_41, p123_43, p123_44, p123_47, p123_50, p123_53, p123_56, p123_57, p123_60, p123_63, p123_64, p123_65, p123_68, p123_69, p123_72, p123_75, p123_76, p123_77, p123_80, p123_83, p123_86, p123_90, p123_93, p123_95, p123_98, p123_99, p123_102, p123_106, p123_109, p123_110, p123_113, p123_116, p123_117, p123_118, p123_121, p123_124, p123_125, p123_128, p123_131, p123_135, p123_138, p123_139, p123_142, p123_145, p123_148, p123_151, p123_154, p123_157, p123_158, jwd_c, jwd_0, Nat.reduceLeDiff, Nat.reduceEqDiff, Nat.reduceAdd, Nat.reduceSub, Nat.reduceMul, Int.reduceAdd, Int.reduceSub, Int.reduceMul, Int.reduceNeg, Int.reduceEq, Int.reduceLT, Int.reduceLE, jq_ldi_i, jq_ldl_l, jq_lda_a, jq_inc_i, jq_gs_t, jq_gsb_t, jq_gb_t, jq_gr_2, jq_gr_4, jq_gw_2, jq_s_t, jq_b_t, jg_c, jg_n, js_c, js_n, jrm_c, jrm_n, j2_i, j2_l, j2_a, jq_c_i, jq_c_l, jq_c_0, jq_c_n, jwd_le, jw_c0, mS_I, mS_R, mS_J, mN_I, mN_R, mN_J, mR_I, mI_R, mJ_I, mJ_R, mI_J, mR_J, ↓reduceIte, decide_true, or_true, true_or, and_self, false_or, or_false, reduceCtorEq, Bool.false_eq_true, and_false, false_and, eq_self, true_and, and_true, zero_ne, ↓br_lt_t, ↓br_lt_f, ↓br_eq_t, ↓br_eq_f, ↓br_lz_t, ↓br_lz_f, ↓br_ez_t, ↓br_ez_f, ↓br_gz_t, ↓br_gz_f, jw_id, jin_t, jix_t, z1, z2, z3, z4, z5, z6, z7, z8, o5, e4]
      · refine ⟨l, bs, w3, ?_, by omega, h3, ho3, hb3, oP13, Or.inr ⟨z, rfl, rfl⟩⟩
        rw [p123_105]
        simp (disch := omega) only [p123_0, p123_2, p123_3, p123_4, p123_7, p123_8, p123_11, p123_14, p123_17, p123_20, p123_21, p123_23, p123_26, p123_29, p123_30, p123_33, p123_34, p123_37, p123_40, p123_41, p123_43, p123_44, p123_47, p123_50, p123_53, p123_56, p123_57, p123_60, p123_63, p123_64, p123_65, p123_68, p123_69, p123_72, p123_75, p123_76, p123_77, p123_80, p123_83, p123_86, p123_90, p123_93, p123_95, p123_98, p123_99, p123_102, p123_106, p123_109, p123_110, p123_113, p123_116, p123_117, p123_118, p123_121, p123_124, p123_125, p123_128, p123_131, p123_135, p123_138, p123_139, p123_142, p123_145, p123_148, p123_151, p123_154, p123_157, p123_158, jwd_c, jwd_0, Nat.reduceLeDiff, Nat.reduceEqDiff, Nat.reduceAdd, Nat.reduceSub, Nat.reduceMul, Int.reduceAdd, Int.reduceSub, Int.reduceMul, Int.reduceNeg, Int.reduceEq, Int.reduceLT, Int.reduceLE, jq_ldi_i, jq_ldl_l, jq_lda_a, jq_inc_i, jq_gs_t, jq_gsb_t, jq_gb_t, jq_gr_2, jq_gr_4, jq_gw_2, jq_s_t, jq_b_t, jg_c, jg_n, js_c, js_n, jrm_c, jrm_n, j2_i, j2_l, j2_a, jq_c_i, jq_c_l, jq_c_0, jq_c_n, jwd_le, jw_c0, mS_I, mS_R, mS_J, mN_I, mN_R, mN_J, mR_I, mI_R, mJ_I, mJ_R, mI_J, mR_J, ↓reduceIte, decide_true, or_true, true_or, and_self, false_or, or_false, reduceCtorEq, Bool.false_eq_true, and_false, false_and, eq_self, true_and, and_true, zero_ne, ↓br_lt_t, ↓br_lt_f, ↓br_eq_t, ↓br_eq_f, ↓br_lz_t, ↓br_lz_f, ↓br_ez_t, ↓br_ez_f, ↓br_gz_t, ↓br_gz_f, jw_id, jin_t, jix_t]
    obtain ⟨l2', b2, w4, e5, l2b, h4, ho4, s4, f4, hc⟩ := step
    rw [e5]
    have eR : (match gNx n f with | none => if O < l then (O, f) else (l, bs) | some f2 => if O < l then gBo H S q g r n k f2 O f else gBo H S q g r n k f2 l bs) = (match gNx n f with | none => (l2', b2) | some f2 => gBo H S q g r n k f2 l2' b2) := by
      rcases hc with ⟨z, rfl, rfl⟩ | ⟨z, rfl, rfl⟩
      · cases hN : gNx n b2 with
        | none => exact if_pos z
        | some f2 => exact if_pos z
      · cases hN : gNx n f with
        | none => exact if_neg z
        | some f2 => exact if_neg z
    rw [eR]
    by_cases z0 : l2' = 0
    · subst z0
      have e6 : (match gNx n f with | none => ((0 : Int), b2) | some f2 => gBo H S q g r n k f2 0 b2) = (0, b2) := by
        cases hN : gNx n f with
        | none => rfl
        | some f2 => exact bo_0 b rn0 hn k f2 b2 (nx_pf hp hN)
      rw [e6]
      refine ⟨w4, ?_, h4, s4, f4⟩
      rw [p123_134]
      simp (disch := omega) only [p123_0, p123_2, p123_3, p123_4, p123_7, p123_8, p123_11, p123_14, p123_17, p123_20, p123_21, p123_23, p123_26, p123_29, p123_30, p123_33, p123_34, p123_37, p123_40, p123_41, p123_43, p123_44, p123_47, p123_50, p123_53, p123_56, p123_57, p123_60, p123_63, p123_64, p123_65, p123_68, p123_69, p123_72, p123_75, p123_76, p123_77, p123_80, p123_83, p123_86, p123_90, p123_93, p123_95, p123_98, p123_99, p123_102, p123_106, p123_109, p123_110, p123_113, p123_116, p123_117, p123_118, p123_121, p123_124, p123_125, p123_128, p123_131, p123_135, p123_138, p123_139, p123_142, p123_145, p123_148, p123_151, p123_154, p123_157, p123_158, jwd_c, jwd_0, Nat.reduceLeDiff, Nat.reduceEqDiff, Nat.reduceAdd, Nat.reduceSub, Nat.reduceMul, Int.reduceAdd, Int.reduceSub, Int.reduceMul, Int.reduceNeg, Int.reduceEq, Int.reduceLT, Int.reduceLE, jq_ldi_i, jq_ldl_l, jq_lda_a, jq_inc_i, jq_gs_t, jq_gsb_t, jq_gb_t, jq_gr_2, jq_gr_4, jq_gw_2, jq_s_t, jq_b_t, jg_c, jg_n, js_c, js_n, jrm_c, jrm_n, j2_i, j2_l, j2_a, jq_c_i, jq_c_l, jq_c_0, jq_c_n, jwd_le, jw_c0, mS_I, mS_R, mS_J, mN_I, mN_R, mN_J, mR_I, mI_R, mJ_I, mJ_R, mI_J, mR_J, ↓reduceIte, decide_true, or_true, true_or, and_self, false_or, or_false, reduceCtorEq, Bool.false_eq_true, and_false, false_and, eq_self, true_and, and_true, zero_ne, ↓br_lt_t, ↓br_lt_f, ↓br_eq_t, ↓br_eq_f, ↓br_lz_t, ↓br_lz_f, ↓br_ez_t, ↓br_ez_f, ↓br_gz_t, ↓br_gz_f, jw_id, jin_t, jix_t]
    · have on := o_next ho4 hp n1
      have z1 := h4.s
      have z2 := h4.r9
      have z3 := ho4.1
      cases hN : gNx n f with
      | none =>
        have e7 := on.1 hN
        refine ⟨w4, ?_, h4, s4, f4⟩
        rw [p123_134]
        simp (disch := omega) only [p123_0, p123_2, p123_3, p123_4, p123_7, p123_8, p123_11, p123_14, p123_17, p123_20, p123_21, p123_23, p123_26, p123_29, p123_30, p123_33, p123_34, p123_37, p123_40, p123_41, p123_43, p123_44, p123_47, p123_50, p123_53, p123_56, p123_57, p123_60, p123_63, p123_64, p123_65, p123_68, p123_69, p123_72, p123_75, p123_76, p123_77, p123_80, p123_83, p123_86, p123_90, p123_93, p123_95, p123_98, p123_99, p123_102, p123_106, p123_109, p123_110, p123_113, p123_116, p123_117, p123_118, p123_121, p123_124, p123_125, p123_128, p123_131, p123_135, p123_138, p123_139, p123_142, p123_145, p123_148, p123_151, p123_154, p123_157, p123_158, jwd_c, jwd_0, Nat.reduceLeDiff, Nat.reduceEqDiff, Nat.reduceAdd, Nat.reduceSub, Nat.reduceMul, Int.reduceAdd, Int.reduceSub, Int.reduceMul, Int.reduceNeg, Int.reduceEq, Int.reduceLT, Int.reduceLE, jq_ldi_i, jq_ldl_l, jq_lda_a, jq_inc_i, jq_gs_t, jq_gsb_t, jq_gb_t, jq_gr_2, jq_gr_4, jq_gw_2, jq_s_t, jq_b_t, jg_c, jg_n, js_c, js_n, jrm_c, jrm_n, j2_i, j2_l, j2_a, jq_c_i, jq_c_l, jq_c_0, jq_c_n, jwd_le, jw_c0, mS_I, mS_R, mS_J, mN_I, mN_R, mN_J, mR_I, mI_R, mJ_I, mJ_R, mI_J, mR_J, ↓reduceIte, decide_true, or_true, true_or, and_self, false_or, or_false, reduceCtorEq, Bool.false_eq_true, and_false, false_and, eq_self, true_and, and_true, zero_ne, ↓br_lt_t, ↓br_lt_f, ↓br_eq_t, ↓br_eq_f, ↓br_lz_t, ↓br_lz_f, ↓br_ez_t, ↓br_ez_f, ↓br_gz_t, ↓br_gz_f, jw_id, jin_t, jix_t, z1, z2, z3, e7]
      | some f2 =>
        obtain ⟨w5, e7, ho5, f5⟩ := on.2 f2 hN
        have s5 := s4.fr f5 (sP_n (by omega)) (sP_n (by omega))
        have h5 := h4.oset (f5.mo (fun b hb => by unfold sP at hb; omega)) ⟨_, _, ho5.2.2.2⟩ ⟨_, _, s5⟩
        obtain ⟨u, e8, h6, s6, f6⟩ := ih (t + 1) l2' f2 b2 [(3, .inl (r 289))] w5 (by omega) (by omega) l2b.1 l2b.2 h5 ho5 (nx_pf hp hN) s5 (Or.inr ⟨_, rfl⟩)
        refine ⟨u, ?_, h6, s6, (f4.tr (f5.mo (fun b hb => by unfold sP at hb; unfold oP; omega))).tr f6⟩
        rw [← e8, p123_134]
        simp (disch := omega) only [p123_0, p123_2, p123_3, p123_4, p123_7, p123_8, p123_11, p123_14, p123_17, p123_20, p123_21, p123_23, p123_26, p123_29, p123_30, p123_33, p123_34, p123_37, p123_40, p123_41, p123_43, p123_44, p123_47, p123_50, p123_53, p123_56, p123_57, p123_60, p123_63, p123_64, p123_65, p123_68, p123_69, p123_72, p123_75, p123_76, p123_77, p123_80, p123_83, p123_86, p123_90, p123_93, p123_95, p123_98, p123_99, p123_102, p123_106, p123_109, p123_110, p123_113, p123_116, p123_117, p123_118, p123_121, p123_124, p123_125, p123_128, p123_131, p123_135, p123_138, p123_139, p123_142, p123_145, p123_148, p123_151, p123_154, p123_157, p123_158, jwd_c, jwd_0, Nat.reduceLeDiff, Nat.reduceEqDiff, Nat.reduceAdd, Nat.reduceSub, Nat.reduceMul, Int.reduceAdd, Int.reduceSub, Int.reduceMul, Int.reduceNeg, Int.reduceEq, Int.reduceLT, Int.reduceLE, jq_ldi_i, jq_ldl_l, jq_lda_a, jq_inc_i, jq_gs_t, jq_gsb_t, jq_gb_t, jq_gr_2, jq_gr_4, jq_gw_2, jq_s_t, jq_b_t, jg_c, jg_n, js_c, js_n, jrm_c, jrm_n, j2_i, j2_l, j2_a, jq_c_i, jq_c_l, jq_c_0, jq_c_n, jwd_le, jw_c0, mS_I, mS_R, mS_J, mN_I, mN_R, mN_J, mR_I, mI_R, mJ_I, mJ_R, mI_J, mR_J, ↓reduceIte, decide_true, or_true, true_or, and_self, false_or, or_false, reduceCtorEq, Bool.false_eq_true, and_false, false_and, eq_self, true_and, and_true, zero_ne, ↓br_lt_t, ↓br_lt_f, ↓br_eq_t, ↓br_eq_f, ↓br_lz_t, ↓br_lz_f, ↓br_ez_t, ↓br_ez_f, ↓br_gz_t, ↓br_gz_f, jw_id, jin_t, jix_t, z1, z2, z3, e7]
theorem c_best (h : cO w H r) (b : fB H r S q g B) (rn0 : r 289 ≤ r 290) (h7 : r 289 ≤ 7) : ∃ u, rn 123 (0, [(0, jvr 64)], [], w) = some (some (.inl (gBs H S q g r (r 289).toNat).1), u) ∧ cO u H r ∧ Sg u 234 1 8 (r 289).toNat (fun i _ => (gBs H S q g r (r 289).toNat).2 i) ∧ Fr oP w u := by
  have rr := b.2.2.1
  have h16 := rr.1.1
  have hn : (((r 289).toNat : Nat) : Int) = r 289 := by omega
  have e0 := cr_n h.cr (by omega)
  obtain ⟨w1, e1, ho, s1, f1⟩ := o_begin h.2.2.2.2 (n := (r 289).toNat) (c := r 289) hn.symm (by omega)
  have h1 := h.oset f1 ⟨_, _, ho.2.2.2⟩ ⟨_, _, s1⟩
  obtain ⟨u, e2, h2, s2, f2⟩ := bo_lp b rn0 hn (by omega) 720 0 100 (gId (r 289).toNat) (gId (r 289).toNat) [] w1 (by omega) (by omega) (by omega) (by omega) h1 ho id_pf s1 (Or.inl rfl)
  refine ⟨u, ?_, h2, s2, (f1.mo (fun b hb => by unfold oP; omega)).tr f2⟩
  unfold gBs
  rw [← e2]
  have z1 := h.2.2.2.2.1
  have z2 := h1.s
  simp (disch := omega) only [p123_0, p123_2, p123_3, p123_4, p123_7, p123_8, p123_11, p123_14, p123_17, p123_20, p123_21, p123_23, p123_26, p123_29, p123_30, p123_33, p123_34, p123_37, p123_40, p123_41, p123_43, p123_44, p123_47, p123_50, p123_53, p123_56, p123_57, p123_60, p123_63, p123_64, p123_65, p123_68, p123_69, p123_72, p123_75, p123_76, p123_77, p123_80, p123_83, p123_86, p123_90, p123_93, p123_95, p123_98, p123_99, p123_102, p123_105, p123_106, p123_109, p123_110, p123_113, p123_116, p123_117, p123_118, p123_121, p123_124, p123_125, p123_128, p123_131, p123_135, p123_138, p123_139, p123_142, p123_145, p123_148, p123_151, p123_154, p123_157, p123_158, jwd_c, jwd_0, Nat.reduceLeDiff, Nat.reduceEqDiff, Nat.reduceAdd, Nat.reduceSub, Nat.reduceMul, Int.reduceAdd, Int.reduceSub, Int.reduceMul, Int.reduceNeg, Int.reduceEq, Int.reduceLT, Int.reduceLE, jq_ldi_i, jq_ldl_l, jq_lda_a, jq_inc_i, jq_gs_t, jq_gsb_t, jq_gb_t, jq_gr_2, jq_gr_4, jq_gw_2, jq_s_t, jq_b_t, jg_c, jg_n, js_c, js_n, jrm_c, jrm_n, j2_i, j2_l, j2_a, jq_c_i, jq_c_l, jq_c_0, jq_c_n, jwd_le, jw_c0, mS_I, mS_R, mS_J, mN_I, mN_R, mN_J, mR_I, mI_R, mJ_I, mJ_R, mI_J, mR_J, ↓reduceIte, decide_true, or_true, true_or, and_self, false_or, or_false, reduceCtorEq, Bool.false_eq_true, and_false, false_and, eq_self, true_and, and_true, zero_ne, ↓br_lt_t, ↓br_lt_f, ↓br_eq_t, ↓br_eq_f, ↓br_lz_t, ↓br_lz_f, ↓br_ez_t, ↓br_ez_f, ↓br_gz_t, ↓br_gz_f, jw_id, jin_t, jix_t, cO.s h, cO.r0 h, cO.r1 h, cO.r2 h, cO.r3 h, cO.r4 h, cO.r5 h, cO.r6 h, cO.r7 h, cO.r8 h, cO.r9 h, cO.r10 h, cO.o h, cO.x111 h, cO.x111p h, cO.x111k h, cO.x111t h, cO.x112 h, cO.x114 h, cO.x116 h, cO.x118 h, cO.x84 h, cO.x84r0 h, cO.x84r1 h, cO.x84r2 h, cO.x84r3 h, cO.x84r4 h, cO.x84r5 h, cO.x84r6 h, cO.x84r7 h, cO.x85 h, cO.x87 h, cO.x89 h, cO.x91 h, cO.x93 h, cO.x95 h, cO.x97 h, cO.x99 h, cO.x84f8 h, cO.x84f9 h, cO.x84f10 h, cO.x84f11 h, cO.x84f12 h, cO.x84f14 h, cO.x84f15 h, cO.x84f16 h, cO.x84f17 h, e0, z1, e1]
theorem qC.ord (h : cO w H r) (f : Fr oP w u) (hu : cO u H r) {tr : Int} : qC w (setI u 64 14 tr) H tr := by
  have g : Fr (fun b => b = 64) u (setI u 64 14 tr) := Fr.I rfl
  have e := f.Iq (b := 64) (fun z => by unfold oP at z; omega)
  have e2 := f.Rq (b := 64) (fun z => by unfold oP at z; omega)
  exact ⟨(f.mo (fun b hb => by unfold oP at hb; unfold qP; omega)).tr (g.mo (fun b hb => Or.inl hb)), e2, fun k hk => by rw [mI_nk hk, e], mI_s _ _ _ _, hu.fb.fr g (fun b hb => by omega), hu.2.2.2.2.fr g (fun b b1 b2 => by omega)⟩
theorem c_order (h : cO w H r) (b : fB H r S q g B) (rn0 : r 289 ≤ r 290) : ∃ u, rn 122 (0, [(0, jvr 64)], [], w) = some (some (.inl (A25 H S q g r).1), u) ∧ qC w u H (A25 H S q g r).2 := by
  have rr := b.2.2.1
  have h16 := rr.1.1
  have e0 := cr_n h.cr (by omega)
  unfold A25
  by_cases q1 : r 289 ≤ 7
  · rw [if_pos q1]
    obtain ⟨u, e1, h1, s1, f1⟩ := c_best h b rn0 q1
    refine ⟨_, ?_, qC.ord h f1 h1⟩
    have z1 := h1.s
    simp (disch := omega) only [p122_0, p122_1, p122_4, p122_7, p122_8, p122_9, p122_12, p122_13, p122_14, p122_17, p122_20, p122_23, p122_25, p122_28, p122_29, p122_30, p122_33, p122_34, p122_35, p122_36, p122_39, p122_42, p62_0, p62_1, p62_2, p62_5, p62_6, jwd_c, jwd_0, Nat.reduceLeDiff, Nat.reduceEqDiff, Nat.reduceAdd, Nat.reduceSub, Nat.reduceMul, Int.reduceAdd, Int.reduceSub, Int.reduceMul, Int.reduceNeg, Int.reduceEq, Int.reduceLT, Int.reduceLE, jq_ldi_i, jq_ldl_l, jq_lda_a, jq_inc_i, jq_gs_t, jq_gsb_t, jq_gb_t, jq_gr_2, jq_gr_4, jq_gw_2, jq_s_t, jq_b_t, jg_c, jg_n, js_c, js_n, jrm_c, jrm_n, j2_i, j2_l, j2_a, jq_c_i, jq_c_l, jq_c_0, jq_c_n, jwd_le, jw_c0, mS_I, mS_R, mS_J, mN_I, mN_R, mN_J, mR_I, mI_R, mJ_I, mJ_R, mI_J, mR_J, ↓reduceIte, decide_true, or_true, true_or, and_self, false_or, or_false, reduceCtorEq, Bool.false_eq_true, and_false, false_and, eq_self, true_and, and_true, zero_ne, ↓br_lt_t, ↓br_lt_f, ↓br_eq_t, ↓br_eq_f, ↓br_lz_t, ↓br_lz_f, ↓br_ez_t, ↓br_ez_f, ↓br_gz_t, ↓br_gz_f, jw_id, jin_t, jix_t, cO.s h, cO.r0 h, cO.r1 h, cO.r2 h, cO.r3 h, cO.r4 h, cO.r5 h, cO.r6 h, cO.r7 h, cO.r8 h, cO.r9 h, cO.r10 h, cO.o h, cO.x111 h, cO.x111p h, cO.x111k h, cO.x111t h, cO.x112 h, cO.x114 h, cO.x116 h, cO.x118 h, cO.x84 h, cO.x84r0 h, cO.x84r1 h, cO.x84r2 h, cO.x84r3 h, cO.x84r4 h, cO.x84r5 h, cO.x84r6 h, cO.x84r7 h, cO.x85 h, cO.x87 h, cO.x89 h, cO.x91 h, cO.x93 h, cO.x95 h, cO.x97 h, cO.x99 h, cO.x84f8 h, cO.x84f9 h, cO.x84f10 h, cO.x84f11 h, cO.x84f12 h, cO.x84f14 h, cO.x84f15 h, cO.x84f16 h, cO.x84f17 h, e0, e1, z1]
  · rw [if_neg q1]
    refine ⟨_, ?_, qC.triv h⟩
    simp (disch := omega) only [p122_0, p122_1, p122_4, p122_7, p122_8, p122_9, p122_12, p122_13, p122_14, p122_17, p122_20, p122_23, p122_25, p122_28, p122_29, p122_30, p122_33, p122_34, p122_35, p122_36, p122_39, p122_42, p19_0, p19_1, p19_2, p19_5, p19_6, jwd_c, jwd_0, Nat.reduceLeDiff, Nat.reduceEqDiff, Nat.reduceAdd, Nat.reduceSub, Nat.reduceMul, Int.reduceAdd, Int.reduceSub, Int.reduceMul, Int.reduceNeg, Int.reduceEq, Int.reduceLT, Int.reduceLE, jq_ldi_i, jq_ldl_l, jq_lda_a, jq_inc_i, jq_gs_t, jq_gsb_t, jq_gb_t, jq_gr_2, jq_gr_4, jq_gw_2, jq_s_t, jq_b_t, jg_c, jg_n, js_c, js_n, jrm_c, jrm_n, j2_i, j2_l, j2_a, jq_c_i, jq_c_l, jq_c_0, jq_c_n, jwd_le, jw_c0, mS_I, mS_R, mS_J, mN_I, mN_R, mN_J, mR_I, mI_R, mJ_I, mJ_R, mI_J, mR_J, ↓reduceIte, decide_true, or_true, true_or, and_self, false_or, or_false, reduceCtorEq, Bool.false_eq_true, and_false, false_and, eq_self, true_and, and_true, zero_ne, ↓br_lt_t, ↓br_lt_f, ↓br_eq_t, ↓br_eq_f, ↓br_lz_t, ↓br_lz_f, ↓br_ez_t, ↓br_ez_f, ↓br_gz_t, ↓br_gz_f, jw_id, jin_t, jix_t, cO.s h, cO.r0 h, cO.r1 h, cO.r2 h, cO.r3 h, cO.r4 h, cO.r5 h, cO.r6 h, cO.r7 h, cO.r8 h, cO.r9 h, cO.r10 h, cO.o h, cO.x111 h, cO.x111p h, cO.x111k h, cO.x111t h, cO.x112 h, cO.x114 h, cO.x116 h, cO.x118 h, cO.x84 h, cO.x84r0 h, cO.x84r1 h, cO.x84r2 h, cO.x84r3 h, cO.x84r4 h, cO.x84r5 h, cO.x84r6 h, cO.x84r7 h, cO.x85 h, cO.x87 h, cO.x89 h, cO.x91 h, cO.x93 h, cO.x95 h, cO.x97 h, cO.x99 h, cO.x84f8 h, cO.x84f9 h, cO.x84f10 h, cO.x84f11 h, cO.x84f12 h, cO.x84f14 h, cO.x84f15 h, cO.x84f16 h, cO.x84f17 h, e0]
theorem c_orderAt (h : cO w H r) (b : fB H r S q g B) (rn0 : r 289 ≤ r 290) {i : Int} (x1 : -2147483648 ≤ i) (x2 : i < 2147483648) : ∃ u, rn 128 (0, [(0, jvr 64), (1, .inl i)], [], w) = some (some (.inl (A26 H S q g r i).1), u) ∧ qC w u H (A26 H S q g r i).2 := by
  have rr := b.2.2.1
  have h16 := rr.1.1
  have e0 := cr_n h.cr (by omega)
  have e9 := h.isd rr.1 x1 x2
  unfold A26
  by_cases q0 : 1 ≤ i
  · by_cases q2 : i < r 289
    · rw [if_pos ⟨q0, q2⟩]
      rw [if_pos (by omega)] at e9
      by_cases q1 : r 289 ≤ 7
      · rw [if_pos q1]
        obtain ⟨u, e1, h1, s1, f1⟩ := c_best h b rn0 q1
        have e2 := sg_in s1 (l := i) (k := 0) (by omega) (by omega) (by omega) (by omega)
        refine ⟨_, ?_, qC.ord h f1 h1⟩
        have z1 := h1.s
        have z2 := h1.r9
        have z3 := h1.2.2.2.2.1
        have z4 := h1.2.2.2.2.2.2.1
        have z5 := s1.1
        simp (disch := omega) only [p128_0, p128_1, p128_2, p128_5, p128_6, p128_7, p128_10, p128_13, p128_14, p128_15, p128_18, p128_19, p128_20, p128_23, p128_26, p128_29, p128_31, p128_34, p128_35, p128_36, p128_39, p128_40, p128_41, p128_44, p128_45, p128_46, p128_47, p128_50, p128_53, p128_54, p128_55, p128_58, p128_61, p62_0, p62_1, p62_2, p62_5, p62_6, jwd_c, jwd_0, Nat.reduceLeDiff, Nat.reduceEqDiff, Nat.reduceAdd, Nat.reduceSub, Nat.reduceMul, Int.reduceAdd, Int.reduceSub, Int.reduceMul, Int.reduceNeg, Int.reduceEq, Int.reduceLT, Int.reduceLE, jq_ldi_i, jq_ldl_l, jq_lda_a, jq_inc_i, jq_gs_t, jq_gsb_t, jq_gb_t, jq_gr_2, jq_gr_4, jq_gw_2, jq_s_t, jq_b_t, jg_c, jg_n, js_c, js_n, jrm_c, jrm_n, j2_i, j2_l, j2_a, jq_c_i, jq_c_l, jq_c_0, jq_c_n, jwd_le, jw_c0, mS_I, mS_R, mS_J, mN_I, mN_R, mN_J, mR_I, mI_R, mJ_I, mJ_R, mI_J, mR_J, ↓reduceIte, decide_true, or_true, true_or, and_self, false_or, or_false, reduceCtorEq, Bool.false_eq_true, and_false, false_and, eq_self, true_and, and_true, zero_ne, ↓br_lt_t, ↓br_lt_f, ↓br_eq_t, ↓br_eq_f, ↓br_lz_t, ↓br_lz_f, ↓br_ez_t, ↓br_ez_f, ↓br_gz_t, ↓br_gz_f, jw_id, jin_t, jix_t, cO.s h, cO.r0 h, cO.r1 h, cO.r2 h, cO.r3 h, cO.r4 h, cO.r5 h, cO.r6 h, cO.r7 h, cO.r8 h, cO.r9 h, cO.r10 h, cO.o h, cO.x111 h, cO.x111p h, cO.x111k h, cO.x111t h, cO.x112 h, cO.x114 h, cO.x116 h, cO.x118 h, cO.x84 h, cO.x84r0 h, cO.x84r1 h, cO.x84r2 h, cO.x84r3 h, cO.x84r4 h, cO.x84r5 h, cO.x84r6 h, cO.x84r7 h, cO.x85 h, cO.x87 h, cO.x89 h, cO.x91 h, cO.x93 h, cO.x95 h, cO.x97 h, cO.x99 h, cO.x84f8 h, cO.x84f9 h, cO.x84f10 h, cO.x84f11 h, cO.x84f12 h, cO.x84f14 h, cO.x84f15 h, cO.x84f16 h, cO.x84f17 h, e0, e9, e1, e2, z1, z2, z3, z4, z5]
      · rw [if_neg q1]
        refine ⟨_, ?_, qC.triv h⟩
        simp (disch := omega) only [p128_0, p128_1, p128_2, p128_5, p128_6, p128_7, p128_10, p128_13, p128_14, p128_15, p128_18, p128_19, p128_20, p128_23, p128_26, p128_29, p128_31, p128_34, p128_35, p128_36, p128_39, p128_40, p128_41, p128_44, p128_45, p128_46, p128_47, p128_50, p128_53, p128_54, p128_55, p128_58, p128_61, p19_0, p19_1, p19_2, p19_5, p19_6, jwd_c, jwd_0, Nat.reduceLeDiff, Nat.reduceEqDiff, Nat.reduceAdd, Nat.reduceSub, Nat.reduceMul, Int.reduceAdd, Int.reduceSub, Int.reduceMul, Int.reduceNeg, Int.reduceEq, Int.reduceLT, Int.reduceLE, jq_ldi_i, jq_ldl_l, jq_lda_a, jq_inc_i, jq_gs_t, jq_gsb_t, jq_gb_t, jq_gr_2, jq_gr_4, jq_gw_2, jq_s_t, jq_b_t, jg_c, jg_n, js_c, js_n, jrm_c, jrm_n, j2_i, j2_l, j2_a, jq_c_i, jq_c_l, jq_c_0, jq_c_n, jwd_le, jw_c0, mS_I, mS_R, mS_J, mN_I, mN_R, mN_J, mR_I, mI_R, mJ_I, mJ_R, mI_J, mR_J, ↓reduceIte, decide_true, or_true, true_or, and_self, false_or, or_false, reduceCtorEq, Bool.false_eq_true, and_false, false_and, eq_self, true_and, and_true, zero_ne, ↓br_lt_t, ↓br_lt_f, ↓br_eq_t, ↓br_eq_f, ↓br_lz_t, ↓br_lz_f, ↓br_ez_t, ↓br_ez_f, ↓br_gz_t, ↓br_gz_f, jw_id, jin_t, jix_t, cO.s h, cO.r0 h, cO.r1 h, cO.r2 h, cO.r3 h, cO.r4 h, cO.r5 h, cO.r6 h, cO.r7 h, cO.r8 h, cO.r9 h, cO.r10 h, cO.o h, cO.x111 h, cO.x111p h, cO.x111k h, cO.x111t h, cO.x112 h, cO.x114 h, cO.x116 h, cO.x118 h, cO.x84 h, cO.x84r0 h, cO.x84r1 h, cO.x84r2 h, cO.x84r3 h, cO.x84r4 h, cO.x84r5 h, cO.x84r6 h, cO.x84r7 h, cO.x85 h, cO.x87 h, cO.x89 h, cO.x91 h, cO.x93 h, cO.x95 h, cO.x97 h, cO.x99 h, cO.x84f8 h, cO.x84f9 h, cO.x84f10 h, cO.x84f11 h, cO.x84f12 h, cO.x84f14 h, cO.x84f15 h, cO.x84f16 h, cO.x84f17 h, e0, e9]
    · rw [if_neg (by omega)] at e9
      rw [if_neg (by omega)]
      refine ⟨_, ?_, qC.triv h⟩
      simp (disch := omega) only [p128_0, p128_1, p128_2, p128_5, p128_6, p128_7, p128_10, p128_13, p128_14, p128_15, p128_18, p128_19, p128_20, p128_23, p128_26, p128_29, p128_31, p128_34, p128_35, p128_36, p128_39, p128_40, p128_41, p128_44, p128_45, p128_46, p128_47, p128_50, p128_53, p128_54, p128_55, p128_58, p128_61, p19_0, p19_1, p19_2, p19_5, p19_6, jwd_c, jwd_0, Nat.reduceLeDiff, Nat.reduceEqDiff, Nat.reduceAdd, Nat.reduceSub, Nat.reduceMul, Int.reduceAdd, Int.reduceSub, Int.reduceMul, Int.reduceNeg, Int.reduceEq, Int.reduceLT, Int.reduceLE, jq_ldi_i, jq_ldl_l, jq_lda_a, jq_inc_i, jq_gs_t, jq_gsb_t, jq_gb_t, jq_gr_2, jq_gr_4, jq_gw_2, jq_s_t, jq_b_t, jg_c, jg_n, js_c, js_n, jrm_c, jrm_n, j2_i, j2_l, j2_a, jq_c_i, jq_c_l, jq_c_0, jq_c_n, jwd_le, jw_c0, mS_I, mS_R, mS_J, mN_I, mN_R, mN_J, mR_I, mI_R, mJ_I, mJ_R, mI_J, mR_J, ↓reduceIte, decide_true, or_true, true_or, and_self, false_or, or_false, reduceCtorEq, Bool.false_eq_true, and_false, false_and, eq_self, true_and, and_true, zero_ne, ↓br_lt_t, ↓br_lt_f, ↓br_eq_t, ↓br_eq_f, ↓br_lz_t, ↓br_lz_f, ↓br_ez_t, ↓br_ez_f, ↓br_gz_t, ↓br_gz_f, jw_id, jin_t, jix_t, cO.s h, cO.r0 h, cO.r1 h, cO.r2 h, cO.r3 h, cO.r4 h, cO.r5 h, cO.r6 h, cO.r7 h, cO.r8 h, cO.r9 h, cO.r10 h, cO.o h, cO.x111 h, cO.x111p h, cO.x111k h, cO.x111t h, cO.x112 h, cO.x114 h, cO.x116 h, cO.x118 h, cO.x84 h, cO.x84r0 h, cO.x84r1 h, cO.x84r2 h, cO.x84r3 h, cO.x84r4 h, cO.x84r5 h, cO.x84r6 h, cO.x84r7 h, cO.x85 h, cO.x87 h, cO.x89 h, cO.x91 h, cO.x93 h, cO.x95 h, cO.x97 h, cO.x99 h, cO.x84f8 h, cO.x84f9 h, cO.x84f10 h, cO.x84f11 h, cO.x84f12 h, cO.x84f14 h, cO.x84f15 h, cO.x84f16 h, cO.x84f17 h, e0, e9]
  · rw [if_neg (by omega)]
    refine ⟨_, ?_, qC.triv h⟩
    simp (disch := omega) only [p128_0, p128_1, p128_2, p128_5, p128_6, p128_7, p128_10, p128_13, p128_14, p128_15, p128_18, p128_19, p128_20, p128_23, p128_26, p128_29, p128_31, p128_34, p128_35, p128_36, p128_39, p128_40, p128_41, p128_44, p128_45, p128_46, p128_47, p128_50, p128_53, p128_54, p128_55, p128_58, p128_61, p19_0, p19_1, p19_2, p19_5, p19_6, jwd_c, jwd_0, Nat.reduceLeDiff, Nat.reduceEqDiff, Nat.reduceAdd, Nat.reduceSub, Nat.reduceMul, Int.reduceAdd, Int.reduceSub, Int.reduceMul, Int.reduceNeg, Int.reduceEq, Int.reduceLT, Int.reduceLE, jq_ldi_i, jq_ldl_l, jq_lda_a, jq_inc_i, jq_gs_t, jq_gsb_t, jq_gb_t, jq_gr_2, jq_gr_4, jq_gw_2, jq_s_t, jq_b_t, jg_c, jg_n, js_c, js_n, jrm_c, jrm_n, j2_i, j2_l, j2_a, jq_c_i, jq_c_l, jq_c_0, jq_c_n, jwd_le, jw_c0, mS_I, mS_R, mS_J, mN_I, mN_R, mN_J, mR_I, mI_R, mJ_I, mJ_R, mI_J, mR_J, ↓reduceIte, decide_true, or_true, true_or, and_self, false_or, or_false, reduceCtorEq, Bool.false_eq_true, and_false, false_and, eq_self, true_and, and_true, zero_ne, ↓br_lt_t, ↓br_lt_f, ↓br_eq_t, ↓br_eq_f, ↓br_lz_t, ↓br_lz_f, ↓br_ez_t, ↓br_ez_f, ↓br_gz_t, ↓br_gz_f, jw_id, jin_t, jix_t, cO.s h, cO.r0 h, cO.r1 h, cO.r2 h, cO.r3 h, cO.r4 h, cO.r5 h, cO.r6 h, cO.r7 h, cO.r8 h, cO.r9 h, cO.r10 h, cO.o h, cO.x111 h, cO.x111p h, cO.x111k h, cO.x111t h, cO.x112 h, cO.x114 h, cO.x116 h, cO.x118 h, cO.x84 h, cO.x84r0 h, cO.x84r1 h, cO.x84r2 h, cO.x84r3 h, cO.x84r4 h, cO.x84r5 h, cO.x84r6 h, cO.x84r7 h, cO.x85 h, cO.x87 h, cO.x89 h, cO.x91 h, cO.x93 h, cO.x95 h, cO.x97 h, cO.x99 h, cO.x84f8 h, cO.x84f9 h, cO.x84f10 h, cO.x84f11 h, cO.x84f12 h, cO.x84f14 h, cO.x84f15 h, cO.x84f16 h, cO.x84f17 h, e0]
end BORD
