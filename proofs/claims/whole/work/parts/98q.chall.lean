/-! The class: hall. -/
section CHALL
variable {w u : jmW} {H : Nat → Nat → Int} {T : Nat → Int} {n cnt N : Nat} {Bt : Int}
theorem h_copy (h84 : HSx w 84) (d : DH w H N) (hN : N = (H 1 0).toNat) (hN2 : N ≤ 48) (h5 : (H 0 5).toNat ≤ 8 ∧ (H 0 6).toNat ≤ 12 ∧ (H 0 3).toNat ≤ 4 ∧ (H 0 4).toNat ≤ 8 ∧ (H 0 8).toNat ≤ 8) (h13 : 0 ≤ H 0 13) (hb : (H 0 15 = 0 ∨ H 0 15 = 1) ∧ (H 0 16 = 0 ∨ H 0 16 = 1)) : ∃ u, rn 53 (0, [(0, jvr 84), (1, jvr 67)], [], w) = some (none, u) ∧ CH u 84 H ∧ Fr (fun b => 84 ≤ b ∧ b ≤ 96) w u := by
  subst hN
  obtain ⟨d0, d1⟩ := d
  have dd := d1
  obtain ⟨a1, a2, a3, a4, a5, a6, a7, a8, a9, a10, s1, s2, s3, s4, s5, s6⟩ := d1
  rw [if_neg (by omega)] at a8
  have h84' := h84
  obtain ⟨k1, k2, k3, k4, k5, k6, k7, k8, k9, ⟨n1, q1, t1⟩, ⟨n2, q2, t2⟩, ⟨n3, q3, t3⟩, ⟨n4, q4, t4⟩, ⟨n5, q5, t5⟩, ⟨n6, q6, t6⟩, t7, t8⟩ := h84
  have mo : ∀ {a c : jmW} {k : Nat}, 85 ≤ k → k ≤ 95 → Fr (sP k) a c → Fr (fun b => 85 ≤ b ∧ b ≤ 96) a c := fun k1 k2 f => f.mo (fun x hx => by unfold sP at hx; omega)
  obtain ⟨u1, e1, r1, f1⟩ := sg_copy t1 s1 hN2 (by omega)
  have g1 := mo (by omega) (by omega) f1
  obtain ⟨u2, e2, r2, f2⟩ := sg_copy (t2.fr f1 (sP_n (by omega)) (sP_n (by omega))) (s2.fr f1 (sP_n (by omega)) (sP_n (by omega))) h5.1 (by omega)
  have g2 := g1.tr (mo (by omega) (by omega) f2)
  obtain ⟨u3, e3, r3, f3⟩ := sg_copy ((t3.fr f1 (sP_n (by omega)) (sP_n (by omega))).fr f2 (sP_n (by omega)) (sP_n (by omega))) (s3.fr g2 (by omega) (by omega)) h5.2.1 (by omega)
  have g3 := g2.tr (mo (by omega) (by omega) f3)
  obtain ⟨u4, e4, r4, f4⟩ := sg_copy (((t4.fr f1 (sP_n (by omega)) (sP_n (by omega))).fr f2 (sP_n (by omega)) (sP_n (by omega))).fr f3 (sP_n (by omega)) (sP_n (by omega))) (s4.fr g3 (by omega) (by omega)) h5.2.2.1 (by omega)
  have g4 := g3.tr (mo (by omega) (by omega) f4)
  obtain ⟨u5, e5, r5, f5⟩ := sg_copy ((((t5.fr f1 (sP_n (by omega)) (sP_n (by omega))).fr f2 (sP_n (by omega)) (sP_n (by omega))).fr f3 (sP_n (by omega)) (sP_n (by omega))).fr f4 (sP_n (by omega)) (sP_n (by omega))) (s5.fr g4 (by omega) (by omega)) h5.2.2.2.1 (by omega)
  have g5 := g4.tr (mo (by omega) (by omega) f5)
  obtain ⟨u6, e6, r6, f6⟩ := sg_copy (((((t6.fr f1 (sP_n (by omega)) (sP_n (by omega))).fr f2 (sP_n (by omega)) (sP_n (by omega))).fr f3 (sP_n (by omega)) (sP_n (by omega))).fr f4 (sP_n (by omega)) (sP_n (by omega))).fr f5 (sP_n (by omega)) (sP_n (by omega))) (s6.fr g5 (by omega) (by omega)) h5.2.2.2.2 (by omega)
  have g6 := g5.tr (mo (by omega) (by omega) f6)
  have r1 := ((((r1.fr f2 (sP_n (by omega)) (sP_n (by omega))).fr f3 (sP_n (by omega)) (sP_n (by omega))).fr f4 (sP_n (by omega)) (sP_n (by omega))).fr f5 (sP_n (by omega)) (sP_n (by omega))).fr f6 (sP_n (by omega)) (sP_n (by omega))
  have r2 := (((r2.fr f3 (sP_n (by omega)) (sP_n (by omega))).fr f4 (sP_n (by omega)) (sP_n (by omega))).fr f5 (sP_n (by omega)) (sP_n (by omega))).fr f6 (sP_n (by omega)) (sP_n (by omega))
  have r3 := ((r3.fr f4 (sP_n (by omega)) (sP_n (by omega))).fr f5 (sP_n (by omega)) (sP_n (by omega))).fr f6 (sP_n (by omega)) (sP_n (by omega))
  have r4 := (r4.fr f5 (sP_n (by omega)) (sP_n (by omega))).fr f6 (sP_n (by omega)) (sP_n (by omega))
  have r5 := r5.fr f6 (sP_n (by omega)) (sP_n (by omega))
  have i67 := g6.Iq (b := 67) (by omega)
  rw [← i67] at a1 a2 a3 a4 a5 a6 a7 a8 a9 a10
  obtain ⟨v13, hv13⟩ : ∃ v, mI u6 67 13 = v := ⟨_, rfl⟩
  rw [hv13] at a10
  obtain ⟨v, hv⟩ : ∃ v, v = setI (setI (setI (setI (setI (setI (setI (setI (setI (setI u6 84 8 (H 0 0)) 84 9 (H 0 1)) 84 10 (H 0 15)) 84 11 (H 0 16)) 84 12 (H 0 10)) 84 13 v13) 84 14 (H 0 12)) 84 15 (H 0 7)) 84 16 (H 0 13)) 84 17 (H 0 14) := ⟨_, rfl⟩
  have ff : ∀ {a : jmW} {k : Nat} {x : Int}, Fr (fun y => y = 84) a (setI a 84 k x) := Fr.I rfl
  have fv : Fr (fun y => y = 84) u6 v := by
    rw [hv]
    exact ((((((((ff.tr ff).tr ff).tr ff).tr ff).tr ff).tr ff).tr ff).tr ff).tr ff
  have F : Fr (fun b => 84 ≤ b ∧ b ≤ 96) w v := (g6.mo (fun b hb => by omega)).tr (fv.mo (fun b hb => by omega))
  have rv : mR v 84 = mR w 84 := by
    have : mR v = mR u6 := by rw [hv]; rfl
    rw [this, g6.Rq (by omega)]
  refine ⟨v, ?_, ?_, F⟩
  · have z1 := g1.Rq (b := 84) (by omega)
    have z2 := g2.Rq (b := 84) (by omega)
    have z3 := g3.Rq (b := 84) (by omega)
    have z4 := g4.Rq (b := 84) (by omega)
    have z5 := g5.Rq (b := 84) (by omega)
    have y1 := g1.Rq (b := 67) (by omega)
    have y2 := g2.Rq (b := 67) (by omega)
    have y3 := g3.Rq (b := 67) (by omega)
    have y4 := g4.Rq (b := 67) (by omega)
    have y5 := g5.Rq (b := 67) (by omega)
    have q1 := g1.q
    have q2 := g2.q
    have q3 := g3.q
    have q4 := g4.q
    have q5 := g5.q
    have q6 := g6.q
    obtain ⟨m1, m2, m3, m4, m5, m6, m7, -⟩ := d0
    have c85 : mS w 85 = (1, 5, 0) := t1.1
    have c87 : mS w 87 = (1, 5, 0) := t2.1
    have c89 : mS w 89 = (1, 5, 0) := t3.1
    have c91 : mS w 91 = (1, 5, 0) := t4.1
    have c93 : mS w 93 = (1, 5, 0) := t5.1
    have c95 : mS w 95 = (1, 5, 0) := t6.1
    have b1 : decide (H 0 15 = 0 ∨ H 0 15 = 1) = true := decide_eq_true hb.1
    have b2 : decide (H 0 16 = 0 ∨ H 0 16 = 1) = true := decide_eq_true hb.2
    rw [hv]
    simp (disch := omega) only [p53_0, p53_1n, p53_1s, p53_4, p53_5, p53_6, p53_9, p53_10, p53_13, p53_16, p53_17, p53_20, p53_21, p53_24, p53_27, p53_28, p53_31, p53_32, p53_35, p53_38, p53_39, p53_42, p53_43, p53_46, p53_49, p53_50, p53_53, p53_54, p53_57, p53_60, p53_61, p53_64, p53_65, p53_68, p53_71, p53_72, p53_73, p53_76, p53_79, p53_80, p53_81, p53_84, p53_87, p53_88, p53_89, p53_92, p53_95, p53_96, p53_97, p53_100, p53_103, p53_104, p53_105, p53_108, p53_111, p53_112, p53_113, p53_116, p53_119, p53_120, p53_121, p53_124, p53_127, p53_128, p53_129, p53_132, p53_135, p53_136, p53_137, p53_140, p53_143, p53_144, p53_145, p53_148, p53_151, jwd_c, jwd_0, Nat.reduceLeDiff, Nat.reduceEqDiff, Nat.reduceAdd, Nat.reduceSub, Nat.reduceMul, Int.reduceAdd, Int.reduceSub, Int.reduceMul, Int.reduceNeg, Int.reduceEq, Int.reduceLT, Int.reduceLE, jq_ldi_i, jq_ldl_l, jq_lda_a, jq_inc_i, jq_gs_t, jq_gsb_t, jq_gb_t, jq_gr_2, jq_gr_4, jq_gw_2, jq_s_t, jq_b_t, jg_c, jg_n, js_c, js_n, jrm_c, jrm_n, j2_i, j2_l, j2_a, jq_c_i, jq_c_l, jq_c_0, jq_c_n, jwd_le, jw_c0, mS_I, mS_R, mS_J, mN_I, mN_R, mN_J, mR_I, mI_R, mJ_I, mJ_R, mI_J, mR_J, ↓reduceIte, decide_true, or_true, true_or, and_self, false_or, or_false, reduceCtorEq, Bool.false_eq_true, and_false, false_and, eq_self, true_and, and_true, zero_ne, ↓br_lt_t, ↓br_lt_f, ↓br_eq_t, ↓br_eq_f, ↓br_lz_t, ↓br_lz_f, ↓br_ez_t, ↓br_ez_f, ↓br_gz_t, ↓br_gz_f, jw_id, jin_t, jix_t, ↓ite_t, ↓ite_f, mI_nb, mI_nk, mI_s, k1, k2, k3, k4, k5, k6, k7, m1, m2, m3, m4, m5, m6, m7, z1, z2, z3, z4, z5, y1, y2, y3, y4, y5, q1, q2, q3, q4, q5, q6, c85, c87, c89, c91, c93, c95, e1, e2, e3, e4, e5, e6, a1, a2, a3, a4, a5, a6, a7, a8, a9, hv13, b1, b2]
  · have o1 : ∀ {a c r m : Nat} {g : Nat → Nat → Int}, 85 ≤ a → Sg u6 a c r m g → Sg v a c r m g := fun ha s => s.fr fv (by omega) (by omega)
    refine ⟨by rw [F.q]; exact k1, by rw [rv]; exact k2, by rw [rv]; exact k3, by rw [rv]; exact k4, by rw [rv]; exact k5, by rw [rv]; exact k6, by rw [rv]; exact k7, by rw [rv]; exact k8, by rw [rv]; exact k9, ?_, ?_, ?_, ?_, ?_, ?_, ?_, ?_, ?_, ?_, o1 (by omega) r1, o1 (by omega) r2, o1 (by omega) r3, o1 (by omega) r4, o1 (by omega) r5, o1 (by omega) r6, exSg t7 F (by omega) (by omega), exSg t8 F (by omega) (by omega)⟩
    · rw [hv, mI_nk (by omega), mI_nk (by omega), mI_nk (by omega), mI_nk (by omega), mI_nk (by omega), mI_nk (by omega), mI_nk (by omega), mI_nk (by omega), mI_nk (by omega), mI_s]
    · rw [hv, mI_nk (by omega), mI_nk (by omega), mI_nk (by omega), mI_nk (by omega), mI_nk (by omega), mI_nk (by omega), mI_nk (by omega), mI_nk (by omega), mI_s]
    · rw [hv, mI_nk (by omega), mI_nk (by omega), mI_nk (by omega), mI_nk (by omega), mI_nk (by omega), mI_nk (by omega), mI_nk (by omega), mI_s]
    · rw [hv, mI_nk (by omega), mI_nk (by omega), mI_nk (by omega), mI_nk (by omega), mI_nk (by omega), mI_nk (by omega), mI_s]
    · rw [hv, mI_nk (by omega), mI_nk (by omega), mI_nk (by omega), mI_nk (by omega), mI_nk (by omega), mI_s]
    · rw [hv, mI_nk (by omega), mI_nk (by omega), mI_nk (by omega), mI_s]
    · rw [hv, mI_nk (by omega), mI_nk (by omega), mI_s]
    · rw [hv, mI_nk (by omega), mI_s]
    · rw [hv, mI_s]
    · intro z
      rw [hv, mI_nk (by omega), mI_nk (by omega), mI_nk (by omega), mI_nk (by omega), mI_s]
      exact a10 z
/-- what reading changes of the class -/
def hlP : Nat → Prop := fun b => (64 ≤ b ∧ b ≤ 83) ∨ (101 ≤ b ∧ b ≤ 103)
theorem c_hall0 (hB : cB w Bt) (Q : RQ w T cnt) {x : Int} (x1 : -2147483648 ≤ x) (x2 : x < 2147483648) (hx : x < 0 ∨ cnt < x) : rn 18 (0, [(0, jvr 64), (1, .inl x)], [], w) = some (some (.inl (-1)), setI w 64 14 2) := by
  have hc := Q.2.2.2.2.1.2.2.2.2.2.2.1
  have ec := sg_count Q.2.2.2.2.1
  have s := hB.1.s
  have r0 := hB.1.r0
  have t65 : mS w 65 = (1, 5, 0) := Q.2.2.2.2.1.1
  by_cases z : x < 0
  · simp (disch := omega) only [p18_0, p18_1, p18_4, p18_5, p18_6, p18_9, p18_12, p18_15, p18_16, p18_17, p18_20, p18_21, p18_22, p18_25, p18_26, p18_29, p18_30, p18_31, p18_32, p18_35, p18_38, p18_41, p18_42, p18_43, p18_46, p18_49, p18_52, p18_53, p18_56, p18_57, p18_60, p18_61, p18_64, p18_65, p18_66, p18_69, p18_70, p18_71, p18_74, p18_75, p18_78, p18_81, p18_82, p18_85, p18_88, p18_89, p18_92, p18_93, p18_96, p18_99, p18_100, p18_103, p18_104, p18_107, p18_110, p18_111, p18_114, p18_117, p18_118, p18_121, p18_124, p18_125, p18_126, p18_129, p18_130, p18_131, p18_134, p18_137, p18_140, p18_143, p19_0, p19_1, p19_2, p19_5, p19_6, jwd_c, jwd_0, Nat.reduceLeDiff, Nat.reduceEqDiff, Nat.reduceAdd, Nat.reduceSub, Nat.reduceMul, Int.reduceAdd, Int.reduceSub, Int.reduceMul, Int.reduceNeg, Int.reduceEq, Int.reduceLT, Int.reduceLE, jq_ldi_i, jq_ldl_l, jq_lda_a, jq_inc_i, jq_gs_t, jq_gsb_t, jq_gb_t, jq_gr_2, jq_gr_4, jq_gw_2, jq_s_t, jq_b_t, jg_c, jg_n, js_c, js_n, jrm_c, jrm_n, j2_i, j2_l, j2_a, jq_c_i, jq_c_l, jq_c_0, jq_c_n, jwd_le, jw_c0, mS_I, mS_R, mS_J, mN_I, mN_R, mN_J, mR_I, mI_R, mJ_I, mJ_R, mI_J, mR_J, ↓reduceIte, decide_true, or_true, true_or, and_self, false_or, or_false, reduceCtorEq, Bool.false_eq_true, and_false, false_and, eq_self, true_and, and_true, zero_ne, ↓br_lt_t, ↓br_lt_f, ↓br_eq_t, ↓br_eq_f, ↓br_lz_t, ↓br_lz_f, ↓br_ez_t, ↓br_ez_f, ↓br_gz_t, ↓br_gz_f, jw_id, jin_t, jix_t, ↓ite_t, ↓ite_f, s, r0, ec]
  · simp (disch := omega) only [p18_0, p18_1, p18_4, p18_5, p18_6, p18_9, p18_12, p18_15, p18_16, p18_17, p18_20, p18_21, p18_22, p18_25, p18_26, p18_29, p18_30, p18_31, p18_32, p18_35, p18_38, p18_41, p18_42, p18_43, p18_46, p18_49, p18_52, p18_53, p18_56, p18_57, p18_60, p18_61, p18_64, p18_65, p18_66, p18_69, p18_70, p18_71, p18_74, p18_75, p18_78, p18_81, p18_82, p18_85, p18_88, p18_89, p18_92, p18_93, p18_96, p18_99, p18_100, p18_103, p18_104, p18_107, p18_110, p18_111, p18_114, p18_117, p18_118, p18_121, p18_124, p18_125, p18_126, p18_129, p18_130, p18_131, p18_134, p18_137, p18_140, p18_143, p19_0, p19_1, p19_2, p19_5, p19_6, jwd_c, jwd_0, Nat.reduceLeDiff, Nat.reduceEqDiff, Nat.reduceAdd, Nat.reduceSub, Nat.reduceMul, Int.reduceAdd, Int.reduceSub, Int.reduceMul, Int.reduceNeg, Int.reduceEq, Int.reduceLT, Int.reduceLE, jq_ldi_i, jq_ldl_l, jq_lda_a, jq_inc_i, jq_gs_t, jq_gsb_t, jq_gb_t, jq_gr_2, jq_gr_4, jq_gw_2, jq_s_t, jq_b_t, jg_c, jg_n, js_c, js_n, jrm_c, jrm_n, j2_i, j2_l, j2_a, jq_c_i, jq_c_l, jq_c_0, jq_c_n, jwd_le, jw_c0, mS_I, mS_R, mS_J, mN_I, mN_R, mN_J, mR_I, mI_R, mJ_I, mJ_R, mI_J, mR_J, ↓reduceIte, decide_true, or_true, true_or, and_self, false_or, or_false, reduceCtorEq, Bool.false_eq_true, and_false, false_and, eq_self, true_and, and_true, zero_ne, ↓br_lt_t, ↓br_lt_f, ↓br_eq_t, ↓br_eq_f, ↓br_lz_t, ↓br_lz_f, ↓br_ez_t, ↓br_ez_f, ↓br_gz_t, ↓br_gz_f, jw_id, jin_t, jix_t, ↓ite_t, ↓ite_f, s, r0, t65, ec]
theorem c_hall (hB : cB w Bt) (Q : RQ w T cnt) (hn : n ≤ cnt) : ∃ u, RQ u T 0 ∧ Fr (fun b => 64 ≤ b ∧ b < 238) w u ∧ ((∃ q H, gRead T n (n + 1) 0 gH0 = (.inl q, H) ∧ rn 18 (0, [(0, jvr 64), (1, .inl (n : Int))], [], w) = some (some (.inl (H 0 4)), u) ∧ HOK H ∧ HS H ∧ cX u H (gS0 H, 0, (fun _ _ => 0), 0, fun _ _ => 0) Bt ∧ mI u 64 12 = 0 ∧ mI u 64 13 = 0 ∧ mI u 64 14 = 0) ∨ (∃ e H, gRead T n (n + 1) 0 gH0 = (.inr e, H) ∧ rn 18 (0, [(0, jvr 64), (1, .inl (n : Int))], [], w) = some (some (.inl (-1)), u) ∧ Fr hlP w u ∧ mR u 64 = mR w 64 ∧ (∀ k, k ≠ 12 → k ≠ 13 → k ≠ 14 → mI u 64 k = mI w 64 k) ∧ mI u 64 12 = e.1 ∧ mI u 64 13 = e.2 ∧ mI u 64 14 = 4)) := by
  have hc := Q.2.2.2.2.1.2.2.2.2.2.2.1
  have ec := sg_count Q.2.2.2.2.1
  have t65 : mS w 65 = (1, 5, 0) := Q.2.2.2.2.1.1
  have q101 := Q.1
  have sx := Q.2.2.2.2.2.2.2.2
  obtain ⟨b1, b2, ⟨T1, c1, r1, b3⟩, ⟨T2, c2, r2, b4⟩, b5, b6, ⟨k1, Q1, T3, b7⟩, ⟨k2, Q2, T4, b8⟩⟩ := hB
  have s := b1.s
  have r0 := b1.r0
  have r3 := b1.r3
  obtain ⟨u1, f1, hR⟩ := c_read (n := n) Q hn
  have f1' : Fr hlP w u1 := f1.mo (fun b hb => by unfold rdP at hb; unfold hlP; omega)
  have i64 := f1.Iq (b := 64) (by unfold rdP; omega)
  have rr64 := f1.Rq (b := 64) (by unfold rdP; omega)
  have q1 := f1.q
  -- the tape cut
  have cut : ∀ {e1 e2 : Int}, RQ u1 T cnt → mI u1 101 10 = e1 → mI u1 101 11 = e2 → ∃ u3, rn 4 (0, [(0, jvr 65), (1, .inl 0)], [], setI (setI u1 64 12 e1) 64 13 e2) = some (none, u3) ∧ RQ u3 T 0 ∧ Fr hlP u1 u3 ∧ mR u3 64 = mR u1 64 ∧ (∀ k, k ≠ 12 → k ≠ 13 → mI u3 64 k = mI u1 64 k) ∧ mI u3 64 12 = e1 ∧ mI u3 64 13 = e2 ∧ mR u3 65 = mR u1 65 ∧ (∀ b, 66 ≤ b → mI u3 b = mI u1 b ∧ mR u3 b = mR u1 b ∧ mJ u3 b = mJ u1 b) := by
    intro e1 e2 R _ _
    obtain ⟨p1, p2, p3, p4, p5, p6, p7, p8, p9⟩ := R
    have f2 : Fr (fun b => b = 64) u1 (setI (setI u1 64 12 e1) 64 13 e2) := Fr.tr (P := fun b => b = 64) (Fr.I rfl) (Fr.I rfl)
    obtain ⟨u3, e3, s3, f3⟩ := sg_cut (p5.fr f2 (by omega) (by omega)) (m := 0) (by omega) (by omega)
    have F : Fr (fun b => 64 ≤ b ∧ b ≤ 66) u1 u3 := (f2.mo (fun b hb => by omega)).tr (f3.mo (fun b hb => by unfold sP at hb; omega))
    have r101 := F.Rq (b := 101) (by omega)
    have g64 := f3.Iq (b := 64) (sP_n (by omega))
    have g66 : mI u3 66 = mI u1 66 ∧ mR u3 66 = mR u1 66 ∧ mJ u3 66 = mJ u1 66 := by
      have e : u3 = setI (setI (setI u1 64 12 e1) 64 13 e2) 65 3 0 := by
        have := sh_cut (x := 0) (p5.fr f2 (by omega) (by omega)).sh (by omega) (by omega)
        rw [if_neg (by omega), show min 0 (cnt : Int) = 0 by omega] at this
        rw [this] at e3
        exact (Prod.mk.inj (Option.some.inj e3)).2.symm
      rw [e]
      exact ⟨by rw [mI_nb (by omega), mI_nb (by omega), mI_nb (by omega)], rfl, rfl⟩
    refine ⟨u3, e3, ⟨by rw [F.q]; exact p1, by rw [r101]; exact p2, by rw [r101]; exact p3, by rw [r101]; exact p4, s3, fun i hi => absurd hi (by omega), p7.fr F (fun x a b => by omega), p8.imp (fun k h => h.imp (fun q h => h.fr F (by omega) (by omega))), p9.fr F⟩, F.mo (fun b hb => by unfold hlP; omega), ?_, fun k k1 k2 => by rw [g64, mI_nk k2, mI_nk k1], by rw [g64, mI_nk (by omega), mI_s], by rw [g64, mI_s], ?_, fun b hb => ?_⟩
    · rw [f3.Rq (sP_n (by omega))]
      rfl
    · have e : u3 = setI (setI (setI u1 64 12 e1) 64 13 e2) 65 3 0 := by
        have := sh_cut (x := 0) (p5.fr f2 (by omega) (by omega)).sh (by omega) (by omega)
        rw [if_neg (by omega), show min 0 (cnt : Int) = 0 by omega] at this
        rw [this] at e3
        exact (Prod.mk.inj (Option.some.inj e3)).2.symm
      rw [e]
      rfl
    · by_cases z : b = 66
      · rw [z]
        exact g66
      · exact F.2.2.2 b (by omega)
  rcases hR with ⟨q, gq, er, R, hj, told⟩ | ⟨e, ge, er, R⟩
  case inr =>
    have Rq := R.q (sx.fr f1)
    obtain ⟨u3, e3, Q3, f3, m1, m2, m3, m4, m5, m6⟩ := cut Rq R.2.1.1 R.2.1.2
    have F13 := f1'.tr f3
    have l14 : Fr (fun b => b = 64) u3 (setI u3 64 14 4) := Fr.I rfl
    have hp := R.2.1
    generalize hG : gRead T n (n + 1) 0 gH0 = G at *
    obtain ⟨s2, H2⟩ := G
    have ge : s2 = .inr e := ge
    subst ge
    refine ⟨setI u3 64 14 4, ?_, (F13.mo (fun b hb => by unfold hlP at hb; omega)).tr (l14.mo (fun b hb => by omega)), Or.inr ⟨e, H2, rfl, ?_, F13.tr (l14.mo (fun b hb => by unfold hlP; omega)), ?_, fun k k1 k2 k3 => ?_, ?_, ?_, mI_s _ _ _ _⟩⟩
    · obtain ⟨p1, p2, p3, p4, p5, p6, p7, p8, p9⟩ := Q3
      exact ⟨p1, p2, p3, p4, p5.fr l14 (by omega) (by omega), p6, p7.fr l14 (fun x a b => by omega), p8.imp (fun k h => h.imp (fun q h => h.fr l14 (by omega) (by omega))), p9.fr l14⟩
    · have y1 : mS u1 64 = (1, 7, 0) := by rw [q1]; exact s
      have y2 : mR u1 64 3 = some 101 := by rw [rr64]; exact r3
      have y3 : mS u1 101 = (1, 3, 0) := by rw [q1]; exact q101
      have y4 : mR u1 64 0 = some 65 := by rw [rr64]; exact r0
      have y5 : mS u1 65 = (1, 5, 0) := by rw [q1]; exact t65
      have y6 : mS u3 64 = (1, 7, 0) := by rw [F13.q]; exact s
      have p1 := hp.1
      have p2 := hp.2
      simp (disch := omega) only [p18_0, p18_1, p18_4, p18_5, p18_6, p18_9, p18_12, p18_15, p18_16, p18_17, p18_20, p18_21, p18_22, p18_25, p18_26, p18_29, p18_30, p18_31, p18_32, p18_35, p18_38, p18_41, p18_42, p18_43, p18_46, p18_49, p18_52, p18_53, p18_56, p18_57, p18_60, p18_61, p18_64, p18_65, p18_66, p18_69, p18_70, p18_71, p18_74, p18_75, p18_78, p18_81, p18_82, p18_85, p18_88, p18_89, p18_92, p18_93, p18_96, p18_99, p18_100, p18_103, p18_104, p18_107, p18_110, p18_111, p18_114, p18_117, p18_118, p18_121, p18_124, p18_125, p18_126, p18_129, p18_130, p18_131, p18_134, p18_137, p18_140, p18_143, p19_0, p19_1, p19_2, p19_5, p19_6, jwd_c, jwd_0, Nat.reduceLeDiff, Nat.reduceEqDiff, Nat.reduceAdd, Nat.reduceSub, Nat.reduceMul, Int.reduceAdd, Int.reduceSub, Int.reduceMul, Int.reduceNeg, Int.reduceEq, Int.reduceLT, Int.reduceLE, jq_ldi_i, jq_ldl_l, jq_lda_a, jq_inc_i, jq_gs_t, jq_gsb_t, jq_gb_t, jq_gr_2, jq_gr_4, jq_gw_2, jq_s_t, jq_b_t, jg_c, jg_n, js_c, js_n, jrm_c, jrm_n, j2_i, j2_l, j2_a, jq_c_i, jq_c_l, jq_c_0, jq_c_n, jwd_le, jw_c0, mS_I, mS_R, mS_J, mN_I, mN_R, mN_J, mR_I, mI_R, mJ_I, mJ_R, mI_J, mR_J, ↓reduceIte, decide_true, or_true, true_or, and_self, false_or, or_false, reduceCtorEq, Bool.false_eq_true, and_false, false_and, eq_self, true_and, and_true, zero_ne, ↓br_lt_t, ↓br_lt_f, ↓br_eq_t, ↓br_eq_f, ↓br_lz_t, ↓br_lz_f, ↓br_ez_t, ↓br_ez_f, ↓br_gz_t, ↓br_gz_f, jw_id, jin_t, jix_t, ↓ite_t, ↓ite_f, mI_nb, mI_nk, mI_s, s, r0, r3, t65, ec, q101, er, y1, y2, y3, y4, y5, y6, p1, p2, e3]
    · show mR u3 64 = _
      rw [m1, rr64]
    · rw [mI_nk k3, m2 k k1 k2, i64]
    · rw [mI_nk (by omega), m3]
    · rw [mI_nk (by omega), m4]
  -- good
  have Rq := R.q
  have tc := R.2.1.2.2.2.2.2
  obtain ⟨u3, e3, Q3, f3, m1, m2, m3, m4, m5, m6⟩ := cut Rq tc.1 tc.2
  have F13 := f1'.tr f3
  generalize hG : gRead T n (n + 1) 0 gH0 = G at *
  obtain ⟨s2, H⟩ := G
  have gq : s2 = .inl q := gq
  subst gq
  have hj : HJ H := hj
  have told : ¬ (H 0 5 < 1 ∨ H 0 7 < 0 ∨ H 0 13 < 0) := told
  have R : RSI u1 T n cnt q H := R
  obtain ⟨ok, hs⟩ := hj.ok (by omega) (by omega) (by omega)
  have kz := ok.1
  have k2' := ok.2.1
  have k3' := ok.2.2.1
  have kj := hj.2.1
  have krow := (hj.2.2.2.2.2.2.2.2.2.2 (by omega)).2.1
  have hN : (H 0 2 * H 0 0).toNat = (H 1 0).toNat := by rw [krow, kz.1, Int.mul_comm]
  have D := R.2.2.2.1
  have F3b : Fr (fun b => 64 ≤ b ∧ b ≤ 66) u1 u3 := ⟨f3.1, f3.2.1, f3.2.2.1, fun b hb => by
    by_cases z : b < 64
    · exact f3.2.2.2 b (by unfold hlP; omega)
    · exact m6 b (by omega)⟩
  have D3 := D.fr F3b (fun x a b => by omega)
  have nh : ∀ b, (84 ≤ b ∧ b ≤ 100) ∨ 104 ≤ b → ¬ hlP b := fun b hb => by unfold hlP; omega
  have b2' := b2.fr F13 (fun x a b => nh x (by omega))
  obtain ⟨u4, e4, c4, f4⟩ := h_copy b2' D3 hN (by omega) (by omega) (by omega) ⟨k3'.2.2.2.2.2.2.2.2.2.2.2.2.2.1, k3'.2.2.2.2.2.2.2.2.2.2.2.2.2.2⟩
  obtain ⟨u5, e5, c5, n5, h5, f5⟩ := h_lay (b := 84) ok c4
  have f5 : Fr (fun b => 97 ≤ b ∧ b ≤ 100) u4 u5 := f5
  have F45 : Fr (fun b => 84 ≤ b ∧ b ≤ 100) u3 u5 := (f4.mo (fun b hb => by omega)).tr (f5.mo (fun b hb => by omega))
  have b3' := (b3.fr F13 (fun b z1 z2 => nh b (by omega))).fr F45 (fun b z1 z2 => by omega)
  obtain ⟨u6, e6, c6, f6⟩ := r_enter c5 b3' ok hs
  have b4' := ((b4.fr F13 (fun b z1 z2 => nh b (by omega))).fr F45 (fun b z1 z2 => by omega)).fr f6 (fun b z1 z2 => by omega)
  obtain ⟨u7, e7, c7, f7⟩ := r_copy b4' c6 (by omega)
  have f7' : Fr (fun b => 111 ≤ b ∧ b ≤ 117) u6 u7 := f7.mo (fun b hb => by unfold rP at hb; omega)
  have F37 : Fr (fun b => (84 ≤ b ∧ b ≤ 100) ∨ (104 ≤ b ∧ b ≤ 117)) u3 u7 := ((F45.mo (fun b hb => by omega)).tr (f6.mo (fun b hb => by omega))).tr (f7'.mo (fun b hb => by omega))
  have b7' := (b7.fr F13 (fun b z1 z2 => nh b (by omega))).fr F37 (fun b z1 z2 => by omega)
  obtain ⟨u8, e8, c8, f8⟩ := sh_clear b7'
  have b8' := ((b8.fr F13 (fun b z1 z2 => nh b (by omega))).fr F37 (fun b z1 z2 => by omega)).fr f8 (by omega)
  obtain ⟨u9, e9, c9, f9⟩ := sh_clear b8'
  have F39 : Fr (fun b => (84 ≤ b ∧ b ≤ 100) ∨ (104 ≤ b ∧ b ≤ 117) ∨ b = 136 ∨ b = 208) u3 u9 := ((F37.mo (fun b hb => by omega)).tr (f8.mo (fun b hb => by omega))).tr (f9.mo (fun b hb => by omega))
  obtain ⟨v, hv⟩ : ∃ v, v = setI (setI u9 64 11 1) 64 14 0 := ⟨_, rfl⟩
  have fv : Fr (fun b => b = 64) u9 v := by
    rw [hv]
    exact Fr.tr (P := fun b => b = 64) (Fr.I rfl) (Fr.I rfl)
  have F79 : Fr (fun b => b = 136 ∨ b = 208) u7 u9 := (f8.mo (fun b hb => by omega)).tr (f9.mo (fun b hb => by omega))
  have F7v : Fr (fun b => b = 64 ∨ b = 136 ∨ b = 208) u7 v := (F79.mo (fun b hb => by omega)).tr (fv.mo (fun b hb => by omega))
  have F6v : Fr (fun b => b = 64 ∨ (111 ≤ b ∧ b ≤ 117) ∨ b = 136 ∨ b = 208) u6 v := (f7'.mo (fun b hb => by omega)).tr (F7v.mo (fun b hb => by omega))
  have F5v : Fr (fun b => b = 64 ∨ (104 ≤ b ∧ b ≤ 117) ∨ b = 136 ∨ b = 208) u5 v := (f6.mo (fun b hb => by omega)).tr (F6v.mo (fun b hb => by omega))
  have Fv : Fr (fun b => hlP b ∨ (84 ≤ b ∧ b ≤ 100) ∨ (104 ≤ b ∧ b ≤ 117) ∨ b = 136 ∨ b = 208) w v := ((F13.mo (fun b hb => Or.inl hb)).tr (F39.mo (fun b hb => Or.inr hb))).tr (fv.mo (fun b hb => Or.inl (by unfold hlP; omega)))
  have rv64 : mR v 64 = mR w 64 := by
    have : mR v = mR u9 := by rw [hv]; rfl
    rw [this, F39.Rq (by omega), m1, rr64]
  have i964 := F39.Iq (b := 64) (by omega)
  have v12 : mI v 64 12 = 0 := by rw [hv, mI_nk (by omega), mI_nk (by omega), i964, m3]
  have v13 : mI v 64 13 = 0 := by rw [hv, mI_nk (by omega), mI_nk (by omega), i964, m4]
  have v14 : mI v 64 14 = 0 := by rw [hv, mI_s]
  have v11 : mI v 64 11 = 1 := by rw [hv, mI_nk (by omega), mI_s]
  obtain ⟨z1, z2, z3, z4, z5, z6, z7, z8, z9⟩ := Q3
  have F3v : Fr (fun b => b = 64 ∨ (84 ≤ b ∧ b ≤ 100) ∨ (104 ≤ b ∧ b ≤ 117) ∨ b = 136 ∨ b = 208) u3 v := (F39.mo (fun b hb => by omega)).tr (fv.mo (fun b hb => by omega))
  have r101 := F3v.Rq (b := 101) (by omega)
  have nv : ∀ b, (b = 1 ∨ (118 ≤ b ∧ b ≤ 135) ∨ (231 ≤ b ∧ b ≤ 237)) → ¬ (hlP b ∨ (84 ≤ b ∧ b ≤ 100) ∨ (104 ≤ b ∧ b ≤ 117) ∨ b = 136 ∨ b = 208) := fun b hb => by unfold hlP; omega
  refine ⟨v, ⟨by rw [F3v.q]; exact z1, by rw [r101]; exact z2, by rw [r101]; exact z3, by rw [r101]; exact z4, z5.fr F3v (by omega) (by omega), z6, z7.fr F3v (fun x a b => by omega), z8.imp (fun k h => h.imp (fun q h => h.fr F3v (by omega) (by omega))), z9.fr F3v⟩, Fv.mo (fun b hb => by unfold hlP at hb; omega), Or.inl ⟨q, H, rfl, ?_, ok, hs, ?_, v12, v13, v14⟩⟩
  · have y1 : mS u1 64 = (1, 7, 0) := by rw [q1]; exact s
    have y2 : mR u1 64 3 = some 101 := by rw [rr64]; exact r3
    have y3 : mS u1 101 = (1, 3, 0) := by rw [q1]; exact q101
    have y4 : mR u1 64 0 = some 65 := by rw [rr64]; exact r0
    have y5 : mS u1 65 = (1, 5, 0) := by rw [q1]; exact t65
    have p1 := tc.1
    have p2 := tc.2
    have x3 : mR u3 64 = mR w 64 := by rw [m1, rr64]
    have x4 : mR u4 64 = mR w 64 := by rw [f4.Rq (by omega), x3]
    have x5 : mR u5 64 = mR w 64 := by rw [F45.Rq (by omega), x3]
    have x6 : mR u6 64 = mR w 64 := by rw [f6.Rq (by omega), x5]
    have x7 : mR u7 64 = mR w 64 := by rw [F37.Rq (by omega), x3]
    have x8 : mR u8 64 = mR w 64 := by rw [f8.Rq (by omega), x7]
    have x9 : mR u9 64 = mR w 64 := by rw [F39.Rq (by omega), x3]
    have o3 : mS u3 = mS w := F13.q
    have o4 : mS u4 = mS w := by rw [f4.q, o3]
    have o5 : mS u5 = mS w := by rw [F45.q, o3]
    have o6 : mS u6 = mS w := by rw [f6.q, o5]
    have o7 : mS u7 = mS w := by rw [F37.q, o3]
    have o8 : mS u8 = mS w := by rw [f8.q, o7]
    have o9 : mS u9 = mS w := by rw [F39.q, o3]
    have s84 : mS w 84 = (1, 1, 0) := b2.1
    have s67 : mS w 67 = (1, 1, 0) := Q.2.2.2.2.2.2.1.1
    have s104 : mS w 104 = (1, 4, 0) := b3.s0
    have s111 : mS w 111 = (1, 4, 0) := b4.s0
    have s136 : mS w 136 = (1, 6, 0) := b7.ex.1
    have s208 : mS w 208 = (1, 6, 0) := b8.ex.1
    have c7' := c7.fr F79 (fun b z1 z2 => by omega)
    have sk : mR u9 111 1 = some 114 := c7'.k
    have s114 : mS w 114 = (1, 5, 0) := b4.s3
    have f10 : Fr (fun b => b = 64) u9 (setI u9 64 11 1) := Fr.I rfl
    have ek := sg_count (c7'.fr f10 (fun b z1 z2 => by omega)).2.2.2.2.2.1
    have e289 : (((gS0 H 289).toNat : Nat) : Int) = H 0 4 := by
      have := (s0_n (H := H)).2.1
      omega
    rw [e289] at ek
    have w1 := b1.r1
    have w2 := b1.r2
    have w4 := b1.r4
    have w5 := b1.r5
    have w7 := b1.r7
    have w8 := b1.r8
    rw [hv]
    simp (disch := omega) only [p18_0, p18_1, p18_4, p18_5, p18_6, p18_9, p18_12, p18_15, p18_16, p18_17, p18_20, p18_21, p18_22, p18_25, p18_26, p18_29, p18_30, p18_31, p18_32, p18_35, p18_38, p18_41, p18_42, p18_43, p18_46, p18_49, p18_52, p18_53, p18_56, p18_57, p18_60, p18_61, p18_64, p18_65, p18_66, p18_69, p18_70, p18_71, p18_74, p18_75, p18_78, p18_81, p18_82, p18_85, p18_88, p18_89, p18_92, p18_93, p18_96, p18_99, p18_100, p18_103, p18_104, p18_107, p18_110, p18_111, p18_114, p18_117, p18_118, p18_121, p18_124, p18_125, p18_126, p18_129, p18_130, p18_131, p18_134, p18_137, p18_140, p18_143, p19_0, p19_1, p19_2, p19_5, p19_6, p62_0, p62_1, p62_2, p62_5, p62_6, jwd_c, jwd_0, Nat.reduceLeDiff, Nat.reduceEqDiff, Nat.reduceAdd, Nat.reduceSub, Nat.reduceMul, Int.reduceAdd, Int.reduceSub, Int.reduceMul, Int.reduceNeg, Int.reduceEq, Int.reduceLT, Int.reduceLE, jq_ldi_i, jq_ldl_l, jq_lda_a, jq_inc_i, jq_gs_t, jq_gsb_t, jq_gb_t, jq_gr_2, jq_gr_4, jq_gw_2, jq_s_t, jq_b_t, jg_c, jg_n, js_c, js_n, jrm_c, jrm_n, j2_i, j2_l, j2_a, jq_c_i, jq_c_l, jq_c_0, jq_c_n, jwd_le, jw_c0, mS_I, mS_R, mS_J, mN_I, mN_R, mN_J, mR_I, mI_R, mJ_I, mJ_R, mI_J, mR_J, ↓reduceIte, decide_true, or_true, true_or, and_self, false_or, or_false, reduceCtorEq, Bool.false_eq_true, and_false, false_and, eq_self, true_and, and_true, zero_ne, ↓br_lt_t, ↓br_lt_f, ↓br_eq_t, ↓br_eq_f, ↓br_lz_t, ↓br_lz_f, ↓br_ez_t, ↓br_ez_f, ↓br_gz_t, ↓br_gz_f, jw_id, jin_t, jix_t, ↓ite_t, ↓ite_f, mI_nb, mI_nk, mI_s, s, r0, r3, t65, ec, q101, er, y1, y2, y3, y4, y5, p1, p2, e3, e4, e5, e6, e7, e8, e9, x3, x4, x5, x6, x7, x8, x9, o3, o4, o5, o6, o7, o8, o9, s84, s67, s104, s111, s136, s208, s114, sk, ek, w1, w2, w4, w5, w7, w8]
  · have ch := c5.fr F5v (fun b z1 z2 => by omega)
    have g97 : Sg v 97 4 48 (H 1 0).toNat (gNear H) := Sg.fr n5 F5v (by omega) (by omega)
    have g99 : Sg v 99 1 48 (H 1 0).toNat (gHmw H) := Sg.fr h5 F5v (by omega) (by omega)
    have c7v := c7.fr F7v (fun b z1 z2 => by omega)
    have c6v := c6.fr F6v (fun b z1 z2 => by omega)
    obtain ⟨g1, g2, g3, g4, g5, g6, g7, g8, ⟨T5, c5', r5', g9⟩, g10, g11, g12, g13, g14, g18⟩ := b5
    have r118 := Fv.Rq (b := 118) (nv _ (by omega))
    have fb : FB v H := ⟨by rw [Fv.q]; exact g1, by rw [r118]; exact g2, by rw [r118]; exact g3, by rw [r118]; exact g4, by rw [r118]; exact g5, by rw [r118]; exact g6, by rw [r118]; exact g7, by rw [r118]; exact g8, ⟨T5, c5', r5', g9.fr Fv (fun b z1 z2 => nv b (by omega))⟩, exSg g10 Fv (nv _ (by omega)) (nv _ (by omega)), exSg g11 Fv (nv _ (by omega)) (nv _ (by omega)), exSg g12 Fv (nv _ (by omega)) (nv _ (by omega)), exSg g13 Fv (nv _ (by omega)) (nv _ (by omega)), exSg g14 Fv (nv _ (by omega)) (nv _ (by omega)), ch, g97, g99, g18.fr Fv (nv _ (by omega))⟩
    exact ⟨⟨b1.fr Fv.q rv64, v11, c7v, fb, b6.fr Fv (fun b z1 z2 => nv b (by omega))⟩, c6v, ((c8 _ _).fr f9 (fun b z1 z2 => by omega)).fr fv (fun b z1 z2 => by omega), (c9 _ _).fr fv (fun b z1 z2 => by omega)⟩
end CHALL
