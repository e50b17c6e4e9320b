/-! The model: laysFar, sideHome. -/
theorem sw_239 {w : jmW} {a : Nat} {f g : Nat → Int} (h : a < 239) : setA (setA w 239 f) a g = setA (setA w a g) 239 f := setA_sw h
theorem sw_240 {w : jmW} {a : Nat} {f g : Nat → Int} (h : a < 240) : setA (setA w 240 f) a g = setA (setA w a g) 240 f := setA_sw h
theorem sw_241 {w : jmW} {a : Nat} {f g : Nat → Int} (h : a < 241) : setA (setA w 241 f) a g = setA (setA w a g) 241 f := setA_sw h
theorem sw_242 {w : jmW} {a : Nat} {f g : Nat → Int} (h : a < 242) : setA (setA w 242 f) a g = setA (setA w a g) 242 f := setA_sw h
theorem sw_243 {w : jmW} {a : Nat} {f g : Nat → Int} (h : a < 243) : setA (setA w 243 f) a g = setA (setA w a g) 243 f := setA_sw h
theorem sw_244 {w : jmW} {a : Nat} {f g : Nat → Int} (h : a < 244) : setA (setA w 244 f) a g = setA (setA w a g) 244 f := setA_sw h
theorem sw_245 {w : jmW} {a : Nat} {f g : Nat → Int} (h : a < 245) : setA (setA w 245 f) a g = setA (setA w a g) 245 f := setA_sw h
theorem sw_246 {w : jmW} {a : Nat} {f g : Nat → Int} (h : a < 246) : setA (setA w 246 f) a g = setA (setA w a g) 246 f := setA_sw h
theorem sw_247 {w : jmW} {a : Nat} {f g : Nat → Int} (h : a < 247) : setA (setA w 247 f) a g = setA (setA w a g) 247 f := setA_sw h
theorem sw_248 {w : jmW} {a : Nat} {f g : Nat → Int} (h : a < 248) : setA (setA w 248 f) a g = setA (setA w a g) 248 f := setA_sw h
theorem sw_249 {w : jmW} {a : Nat} {f g : Nat → Int} (h : a < 249) : setA (setA w 249 f) a g = setA (setA w a g) 249 f := setA_sw h
theorem sw_250 {w : jmW} {a : Nat} {f g : Nat → Int} (h : a < 250) : setA (setA w 250 f) a g = setA (setA w a g) 250 f := setA_sw h
theorem sw_251 {w : jmW} {a : Nat} {f g : Nat → Int} (h : a < 251) : setA (setA w 251 f) a g = setA (setA w a g) 251 f := setA_sw h
theorem sw_238 {w : jmW} {b : Nat} {f g : Nat → Int} (h : 238 < b) : setA (setA w b f) 238 g = setA (setA w 238 g) b f := setA_sw h
section FAR
variable {w : jmW} {h : Nat} {H : Nat → Nat → Int}
/-- what is shut: nothing, or where somebody of a row stands -/
def gShut (H : Nat → Nat → Int) (w : jmW) (o : Option Nat) (Bk : Int → Prop) : Prop := (o = none ∧ ∀ c, ¬ Bk c) ∨ ∃ a r B, o = some a ∧ a < 245 ∧ mS w a = (2, 0, 298) ∧ mI w a = r ∧ RA H B r ∧ RB r ∧ RW H r ∧ ∀ c, Bk c ↔ gSO r c (-1)
theorem far_clr (hm : MO w) {x : Int} {o : Option Nat} : ∀ (k : Nat) (i : Int), 0 ≤ i → i + k = 48 → ∀ F, rn 248 (2, [(0, jvr 238), (1, .inl x), (2, .inr (.inr o)), (3, .inl i)], [], setA w 245 F) = rn 248 (22, [(0, jvr 238), (1, .inl x), (2, .inr (.inr o)), (3, .inl 48)], [], setA w 245 (fun j => if i ≤ j ∧ j < 48 then -2 else F j)) := by
  intro k
  induction k with
  | zero =>
    intro i i1 i2 F
    have e2 : i = 48 := by omega
    subst e2
    have e : (fun j : Nat => if (48 : Int) ≤ j ∧ j < 48 then -2 else F j) = F := by
      funext j
      exact if_neg (by omega)
    rw [e, p248_2]
    simp (disch := omega) only [p248_3, p248_5, jwd_c, jwd_0, Nat.reduceLeDiff, Nat.reduceEqDiff, Nat.reduceAdd, Nat.reduceSub, Nat.reduceMul, Int.reduceAdd, Int.reduceSub, Int.reduceMul, Int.reduceNeg, Int.reduceEq, Int.reduceLT, Int.reduceLE, jq_ldi_i, jq_ldl_l, jq_lda_a, jq_inc_i, jq_gs_t, jq_gsb_t, jq_gb_t, jq_gr_2, jq_gr_4, jq_gw_2, jq_s_t, jq_b_t, jg_c, jg_n, js_c, js_n, jrm_c, jrm_n, j2_i, j2_l, j2_a, jq_c_i, jq_c_l, jq_c_0, jq_c_n, jwd_le, jw_c0, mS_I, mS_R, mS_J, mN_I, mN_R, mN_J, mR_I, mI_R, mJ_I, mJ_R, mI_J, mR_J, ↓reduceIte, decide_true, or_true, true_or, and_self, false_or, or_false, reduceCtorEq, Bool.false_eq_true, and_false, false_and, eq_self, true_and, and_true, zero_ne, ↓br_lt_t, ↓br_lt_f, ↓br_eq_t, ↓br_eq_f, ↓br_lz_t, ↓br_lz_f, ↓br_ez_t, ↓br_ez_f, ↓br_gz_t, ↓br_gz_f, jw_id, jin_t, jix_t]
  | succ k ih =>
    intro i i1 i2 F
    have e := ih (i + 1) (by omega) (by omega) (up1 F i.toNat (-2))
    rw [p248_2]
    simp (disch := omega) only [p248_3, p248_5, p248_8, p248_9, p248_12, p248_13, p248_15, p248_16, p248_19, jwd_c, jwd_0, Nat.reduceLeDiff, Nat.reduceEqDiff, Nat.reduceAdd, Nat.reduceSub, Nat.reduceMul, Int.reduceAdd, Int.reduceSub, Int.reduceMul, Int.reduceNeg, Int.reduceEq, Int.reduceLT, Int.reduceLE, jq_ldi_i, jq_ldl_l, jq_lda_a, jq_inc_i, jq_gs_t, jq_gsb_t, jq_gb_t, jq_gr_2, jq_gr_4, jq_gw_2, jq_s_t, jq_b_t, jg_c, jg_n, js_c, js_n, jrm_c, jrm_n, j2_i, j2_l, j2_a, jq_c_i, jq_c_l, jq_c_0, jq_c_n, jwd_le, jw_c0, mS_I, mS_R, mS_J, mN_I, mN_R, mN_J, mR_I, mI_R, mJ_I, mJ_R, mI_J, mR_J, ↓reduceIte, decide_true, or_true, true_or, and_self, false_or, or_false, reduceCtorEq, Bool.false_eq_true, and_false, false_and, eq_self, true_and, and_true, zero_ne, ↓br_lt_t, ↓br_lt_f, ↓br_eq_t, ↓br_eq_f, ↓br_lz_t, ↓br_lz_f, ↓br_ez_t, ↓br_ez_f, ↓br_gz_t, ↓br_gz_f, jw_id, jin_t, jix_t, mI_A, mI_nA, up1_s, up1_n, mS_A, mR_A, mJ_A, mN_A, setI_A, setA_A, sw_238, sw_239, sw_240, sw_241, sw_242, sw_243, sw_244, sw_245, sw_246, sw_247, sw_248, sw_249, sw_250, sw_251, Int.reduceToNat, Int.toNat_natCast, MO.s0 hm, MO.s1 hm, MO.s2 hm, MO.s3 hm, MO.s4 hm, MO.s5 hm, MO.s6 hm, MO.s7 hm, MO.s8 hm, MO.s9 hm, MO.s10 hm, MO.s11 hm, MO.s12 hm, MO.s13 hm, MO.r1 hm, MO.r2 hm, MO.r3 hm, MO.r4 hm, MO.r5 hm, MO.r6 hm, MO.r7 hm, MO.r8 hm, MO.r9 hm, MO.r10 hm, MO.r11 hm, MO.r12 hm, MO.r13 hm, e]
    refine rn_w (setA_f (fun j => ?_))
    by_cases z : j = i.toNat
    · subst z
      rw [up1_s, if_pos (show i ≤ (i.toNat : Int) ∧ i.toNat < 48 by omega)]
      split <;> rfl
    · rw [up1_n z]
      by_cases y : i + 1 ≤ j ∧ j < 48
      · rw [if_pos y, if_pos (by omega)]
      · rw [if_neg y, if_neg (by omega)]
theorem far_step (hm : MO w) (hh : MH w h H) (h3 : mR w 238 3 = some h) (hk : HOK H) {x : Int} {o : Option Nat} {Bk : Int → Prop} (ho : gShut H w o Bk) {F Q : Nat → Int} {m q s : Int} {u : jmL} (hu : u = [] ∨ ∃ y, u = [(6, .inl y)]) (b : BI H Bk x F Q m q s) (hq : q < m) (hs : s < 4) (lo : ∀ c : Int, 0 ≤ c → c < 48 → -2 ≤ F c.toNat) : ∃ F2 Q2 m2 y, rn 248 (68, (0, jvr 238) :: (1, .inl x) :: (2, .inr (.inr o)) :: (3, .inl m) :: (4, .inl q) :: (5, .inl s) :: u, [], setA (setA w 245 F) 246 Q) = rn 248 (68, [(0, jvr 238), (1, .inl x), (2, .inr (.inr o)), (3, .inl m2), (4, .inl q), (5, .inl (s + 1)), (6, .inl y)], [], setA (setA w 245 F2) 246 Q2) ∧ BI H Bk x F2 Q2 m2 q (s + 1) ∧ q < m2 ∧ (∀ c : Int, 0 ≤ c → c < 48 → -2 ≤ F2 c.toNat) := by
  have b0 := b
  obtain ⟨b1, b2, -⟩ := b0
  have m48 := b.m48 hk
  have kc := hk.1.2.2.2.2.2.2
  have c1 := b2 q (by omega) hq
  have hw : ∀ F Q, MH (setA (setA w 245 F) 246 Q) h H := fun F Q => (hh.A (by omega)).A (by omega)
  have e1 := mh_to (hw F Q) hk (s := s) c1.1 c1.2.1 (by omega) (by omega)
  have e2 := gTo_bd hk (s := s) c1.1 c1.2.1
  have e3 := mh_open (hw F Q) hk e2.1 e2.2
  have old := b.old hk hq hs
  have new := b.new hk hq hs
  generalize hd : gTo H (Q q.toNat) s = d at *
  have hjs : ∀ (s : Int) (y : Int), js ((5, .inl s) :: u) 6 (.inl y) = [(5, .inl s), (6, .inl y)] := by
    intro s y
    rcases hu with rfl | ⟨z, rfl⟩ <;> rfl
  rw [p248_68]
  by_cases q1 : gOpen H d
  · have d1 := q1.1
    rw [bi_t q1] at e3
    have l1 := lo d (by omega) (by omega)
    by_cases q2 : F d.toNat = -2
    · by_cases q3 : Bk d
      · refine ⟨F, Q, m, d, ?_, old (fun z => z.2.2 q3), hq, lo⟩
        rcases ho with ⟨rfl, n1⟩ | ⟨a, r, B, rfl, n1, n2, n3, n4, n5, n6, n7⟩
        · exact absurd q3 (n1 d)
        · have e4 := m_so (w := setA (setA w 245 F) 246 Q) (a := a) (c := d) (but := -1) n2 (by rw [mI_nA (by omega), mI_nA (by omega)]; exact n3) hk n4 n5 n6 (by omega) (by omega)
          rw [bi_t ((n7 d).mp q3)] at e4
          simp (disch := omega) only [p248_70, p248_71, p248_74, p248_75, p248_78, p248_79, p248_82, p248_84, p248_85, p248_87, p248_90, p248_92, p248_93, p248_96, p248_98, p248_101, p248_104, p248_105, p248_108, p248_110, p248_111, p248_113, p248_116, p248_117n, p248_117s, p248_120, p248_121, p248_123, p248_124, p248_127, p248_130, p248_133, p248_134, p248_137, p248_139, p248_140, p248_143, p248_144, p248_147, p248_149, p248_150, p248_151, p248_152, p248_153, p248_154, p248_155, p248_158, p248_159, p248_161, p248_162, p248_165, p248_168, jwd_c, jwd_0, Nat.reduceLeDiff, Nat.reduceEqDiff, Nat.reduceAdd, Nat.reduceSub, Nat.reduceMul, Int.reduceAdd, Int.reduceSub, Int.reduceMul, Int.reduceNeg, Int.reduceEq, Int.reduceLT, Int.reduceLE, jq_ldi_i, jq_ldl_l, jq_lda_a, jq_inc_i, jq_gs_t, jq_gsb_t, jq_gb_t, jq_gr_2, jq_gr_4, jq_gw_2, jq_s_t, jq_b_t, jg_c, jg_n, js_c, js_n, jrm_c, jrm_n, j2_i, j2_l, j2_a, jq_c_i, jq_c_l, jq_c_0, jq_c_n, jwd_le, jw_c0, mS_I, mS_R, mS_J, mN_I, mN_R, mN_J, mR_I, mI_R, mJ_I, mJ_R, mI_J, mR_J, ↓reduceIte, decide_true, or_true, true_or, and_self, false_or, or_false, reduceCtorEq, Bool.false_eq_true, and_false, false_and, eq_self, true_and, and_true, zero_ne, ↓br_lt_t, ↓br_lt_f, ↓br_eq_t, ↓br_eq_f, ↓br_lz_t, ↓br_lz_f, ↓br_ez_t, ↓br_ez_f, ↓br_gz_t, ↓br_gz_f, jw_id, jin_t, jix_t, mI_A, mI_nA, up1_s, up1_n, mS_A, mR_A, mJ_A, mN_A, setI_A, setA_A, sw_238, sw_239, sw_240, sw_241, sw_242, sw_243, sw_244, sw_245, sw_246, sw_247, sw_248, sw_249, sw_250, sw_251, Int.reduceToNat, Int.toNat_natCast, MO.s0 hm, MO.s1 hm, MO.s2 hm, MO.s3 hm, MO.s4 hm, MO.s5 hm, MO.s6 hm, MO.s7 hm, MO.s8 hm, MO.s9 hm, MO.s10 hm, MO.s11 hm, MO.s12 hm, MO.s13 hm, MO.r1 hm, MO.r2 hm, MO.r3 hm, MO.r4 hm, MO.r5 hm, MO.r6 hm, MO.r7 hm, MO.r8 hm, MO.r9 hm, MO.r10 hm, MO.r11 hm, MO.r12 hm, MO.r13 hm, MH.s hh, MH.s1 hh, MH.s2 hh, MH.s3 hh, MH.s4 hh, MH.s5 hh, MH.s6 hh, MH.s7 hh, MH.s8 hh, MH.s9 hh, MH.s10 hh, MH.s11 hh, MH.s12 hh, MH.s13 hh, MH.s14 hh, MH.s15 hh, MH.r1 hh, MH.r2 hh, MH.r3 hh, MH.r4 hh, MH.r5 hh, MH.r6 hh, MH.r7 hh, MH.r8 hh, MH.r9 hh, MH.r10 hh, MH.r11 hh, MH.r12 hh, MH.r13 hh, MH.r14 hh, MH.r15 hh, MH.f0 hh, MH.f1 hh, MH.f2 hh, MH.f3 hh, MH.f4 hh, MH.f5 hh, MH.f6 hh, MH.f7 hh, MH.f8 hh, MH.f9 hh, MH.f10 hh, MH.f11 hh, MH.f12 hh, MH.f13 hh, MH.f14 hh, MH.f15 hh, MH.f16 hh, MH.a1 hh, MH.a2 hh, MH.a3 hh, MH.a4 hh, MH.a5 hh, MH.a6 hh, MH.a7 hh, MH.a8 hh, MH.a9 hh, MH.a10 hh, MH.a11 hh, MH.a12 hh, MH.a13 hh, MH.a14 hh, MH.a15 hh, h3, hd, e1, e3, q2, e4, hjs]
      · have n0 := new q1 q2 q3
        refine ⟨up1 F d.toNat (F (Q q.toNat).toNat + 1), up1 Q m.toNat d, m + 1, d, ?_, n0, by omega, fun c y1 y2 => ?_⟩
        · have n48 := n0.m48 hk
          rcases ho with ⟨rfl, n1⟩ | ⟨a, r, B, rfl, n1, n2, n3, n4, n5, n6, n7⟩
          · simp (disch := omega) only [p248_70, p248_71, p248_74, p248_75, p248_78, p248_79, p248_82, p248_84, p248_85, p248_87, p248_90, p248_92, p248_93, p248_96, p248_98, p248_101, p248_104, p248_105, p248_108, p248_110, p248_111, p248_113, p248_116, p248_117n, p248_117s, p248_120, p248_121, p248_123, p248_124, p248_127, p248_130, p248_133, p248_134, p248_137, p248_139, p248_140, p248_143, p248_144, p248_147, p248_149, p248_150, p248_151, p248_152, p248_153, p248_154, p248_155, p248_158, p248_159, p248_161, p248_162, p248_165, p248_168, jwd_c, jwd_0, Nat.reduceLeDiff, Nat.reduceEqDiff, Nat.reduceAdd, Nat.reduceSub, Nat.reduceMul, Int.reduceAdd, Int.reduceSub, Int.reduceMul, Int.reduceNeg, Int.reduceEq, Int.reduceLT, Int.reduceLE, jq_ldi_i, jq_ldl_l, jq_lda_a, jq_inc_i, jq_gs_t, jq_gsb_t, jq_gb_t, jq_gr_2, jq_gr_4, jq_gw_2, jq_s_t, jq_b_t, jg_c, jg_n, js_c, js_n, jrm_c, jrm_n, j2_i, j2_l, j2_a, jq_c_i, jq_c_l, jq_c_0, jq_c_n, jwd_le, jw_c0, mS_I, mS_R, mS_J, mN_I, mN_R, mN_J, mR_I, mI_R, mJ_I, mJ_R, mI_J, mR_J, ↓reduceIte, decide_true, or_true, true_or, and_self, false_or, or_false, reduceCtorEq, Bool.false_eq_true, and_false, false_and, eq_self, true_and, and_true, zero_ne, ↓br_lt_t, ↓br_lt_f, ↓br_eq_t, ↓br_eq_f, ↓br_lz_t, ↓br_lz_f, ↓br_ez_t, ↓br_ez_f, ↓br_gz_t, ↓br_gz_f, jw_id, jin_t, jix_t, mI_A, mI_nA, up1_s, up1_n, mS_A, mR_A, mJ_A, mN_A, setI_A, setA_A, sw_238, sw_239, sw_240, sw_241, sw_242, sw_243, sw_244, sw_245, sw_246, sw_247, sw_248, sw_249, sw_250, sw_251, Int.reduceToNat, Int.toNat_natCast, MO.s0 hm, MO.s1 hm, MO.s2 hm, MO.s3 hm, MO.s4 hm, MO.s5 hm, MO.s6 hm, MO.s7 hm, MO.s8 hm, MO.s9 hm, MO.s10 hm, MO.s11 hm, MO.s12 hm, MO.s13 hm, MO.r1 hm, MO.r2 hm, MO.r3 hm, MO.r4 hm, MO.r5 hm, MO.r6 hm, MO.r7 hm, MO.r8 hm, MO.r9 hm, MO.r10 hm, MO.r11 hm, MO.r12 hm, MO.r13 hm, MH.s hh, MH.s1 hh, MH.s2 hh, MH.s3 hh, MH.s4 hh, MH.s5 hh, MH.s6 hh, MH.s7 hh, MH.s8 hh, MH.s9 hh, MH.s10 hh, MH.s11 hh, MH.s12 hh, MH.s13 hh, MH.s14 hh, MH.s15 hh, MH.r1 hh, MH.r2 hh, MH.r3 hh, MH.r4 hh, MH.r5 hh, MH.r6 hh, MH.r7 hh, MH.r8 hh, MH.r9 hh, MH.r10 hh, MH.r11 hh, MH.r12 hh, MH.r13 hh, MH.r14 hh, MH.r15 hh, MH.f0 hh, MH.f1 hh, MH.f2 hh, MH.f3 hh, MH.f4 hh, MH.f5 hh, MH.f6 hh, MH.f7 hh, MH.f8 hh, MH.f9 hh, MH.f10 hh, MH.f11 hh, MH.f12 hh, MH.f13 hh, MH.f14 hh, MH.f15 hh, MH.f16 hh, MH.a1 hh, MH.a2 hh, MH.a3 hh, MH.a4 hh, MH.a5 hh, MH.a6 hh, MH.a7 hh, MH.a8 hh, MH.a9 hh, MH.a10 hh, MH.a11 hh, MH.a12 hh, MH.a13 hh, MH.a14 hh, MH.a15 hh, h3, hd, e1, e3, q2, hjs]
          · have e4 := m_so (w := setA (setA w 245 F) 246 Q) (a := a) (c := d) (but := -1) n2 (by rw [mI_nA (by omega), mI_nA (by omega)]; exact n3) hk n4 n5 n6 (by omega) (by omega)
            rw [bi_f (fun z => q3 ((n7 d).mpr z))] at e4
            simp (disch := omega) only [p248_70, p248_71, p248_74, p248_75, p248_78, p248_79, p248_82, p248_84, p248_85, p248_87, p248_90, p248_92, p248_93, p248_96, p248_98, p248_101, p248_104, p248_105, p248_108, p248_110, p248_111, p248_113, p248_116, p248_117n, p248_117s, p248_120, p248_121, p248_123, p248_124, p248_127, p248_130, p248_133, p248_134, p248_137, p248_139, p248_140, p248_143, p248_144, p248_147, p248_149, p248_150, p248_151, p248_152, p248_153, p248_154, p248_155, p248_158, p248_159, p248_161, p248_162, p248_165, p248_168, jwd_c, jwd_0, Nat.reduceLeDiff, Nat.reduceEqDiff, Nat.reduceAdd, Nat.reduceSub, Nat.reduceMul, Int.reduceAdd, Int.reduceSub, Int.reduceMul, Int.reduceNeg, Int.reduceEq, Int.reduceLT, Int.reduceLE, jq_ldi_i, jq_ldl_l, jq_lda_a, jq_inc_i, jq_gs_t, jq_gsb_t, jq_gb_t, jq_gr_2, jq_gr_4, jq_gw_2, jq_s_t, jq_b_t, jg_c, jg_n, js_c, js_n, jrm_c, jrm_n, j2_i, j2_l, j2_a, jq_c_i, jq_c_l, jq_c_0, jq_c_n, jwd_le, jw_c0, mS_I, mS_R, mS_J, mN_I, mN_R, mN_J, mR_I, mI_R, mJ_I, mJ_R, mI_J, mR_J, ↓reduceIte, decide_true, or_true, true_or, and_self, false_or, or_false, reduceCtorEq, Bool.false_eq_true, and_false, false_and, eq_self, true_and, and_true, zero_ne, ↓br_lt_t, ↓br_lt_f, ↓br_eq_t, ↓br_eq_f, ↓br_lz_t, ↓br_lz_f, ↓br_ez_t, ↓br_ez_f, ↓br_gz_t, ↓br_gz_f, jw_id, jin_t, jix_t, mI_A, mI_nA, up1_s, up1_n, mS_A, mR_A, mJ_A, mN_A, setI_A, setA_A, sw_238, sw_239, sw_240, sw_241, sw_242, sw_243, sw_244, sw_245, sw_246, sw_247, sw_248, sw_249, sw_250, sw_251, Int.reduceToNat, Int.toNat_natCast, MO.s0 hm, MO.s1 hm, MO.s2 hm, MO.s3 hm, MO.s4 hm, MO.s5 hm, MO.s6 hm, MO.s7 hm, MO.s8 hm, MO.s9 hm, MO.s10 hm, MO.s11 hm, MO.s12 hm, MO.s13 hm, MO.r1 hm, MO.r2 hm, MO.r3 hm, MO.r4 hm, MO.r5 hm, MO.r6 hm, MO.r7 hm, MO.r8 hm, MO.r9 hm, MO.r10 hm, MO.r11 hm, MO.r12 hm, MO.r13 hm, MH.s hh, MH.s1 hh, MH.s2 hh, MH.s3 hh, MH.s4 hh, MH.s5 hh, MH.s6 hh, MH.s7 hh, MH.s8 hh, MH.s9 hh, MH.s10 hh, MH.s11 hh, MH.s12 hh, MH.s13 hh, MH.s14 hh, MH.s15 hh, MH.r1 hh, MH.r2 hh, MH.r3 hh, MH.r4 hh, MH.r5 hh, MH.r6 hh, MH.r7 hh, MH.r8 hh, MH.r9 hh, MH.r10 hh, MH.r11 hh, MH.r12 hh, MH.r13 hh, MH.r14 hh, MH.r15 hh, MH.f0 hh, MH.f1 hh, MH.f2 hh, MH.f3 hh, MH.f4 hh, MH.f5 hh, MH.f6 hh, MH.f7 hh, MH.f8 hh, MH.f9 hh, MH.f10 hh, MH.f11 hh, MH.f12 hh, MH.f13 hh, MH.f14 hh, MH.f15 hh, MH.f16 hh, MH.a1 hh, MH.a2 hh, MH.a3 hh, MH.a4 hh, MH.a5 hh, MH.a6 hh, MH.a7 hh, MH.a8 hh, MH.a9 hh, MH.a10 hh, MH.a11 hh, MH.a12 hh, MH.a13 hh, MH.a14 hh, MH.a15 hh, h3, hd, e1, e3, q2, e4, hjs]
        · by_cases z : c.toNat = d.toNat
          · rw [z, up1_s]
            omega
          · rw [up1_n z]
            exact lo c y1 y2
    · refine ⟨F, Q, m, d, ?_, old (fun z => q2 z.2.1), hq, lo⟩
      have up : F d.toNat ≤ 100 := by
        obtain ⟨-, -, j, j1, j2, j3⟩ := b.2.2.1 d (by omega) e2.2 q2
        have := b2 j j1 j2
        rw [j3] at this
        omega
      simp (disch := omega) only [p248_70, p248_71, p248_74, p248_75, p248_78, p248_79, p248_82, p248_84, p248_85, p248_87, p248_90, p248_92, p248_93, p248_96, p248_98, p248_101, p248_104, p248_105, p248_108, p248_110, p248_111, p248_113, p248_116, p248_117n, p248_117s, p248_120, p248_121, p248_123, p248_124, p248_127, p248_130, p248_133, p248_134, p248_137, p248_139, p248_140, p248_143, p248_144, p248_147, p248_149, p248_150, p248_151, p248_152, p248_153, p248_154, p248_155, p248_158, p248_159, p248_161, p248_162, p248_165, p248_168, jwd_c, jwd_0, Nat.reduceLeDiff, Nat.reduceEqDiff, Nat.reduceAdd, Nat.reduceSub, Nat.reduceMul, Int.reduceAdd, Int.reduceSub, Int.reduceMul, Int.reduceNeg, Int.reduceEq, Int.reduceLT, Int.reduceLE, jq_ldi_i, jq_ldl_l, jq_lda_a, jq_inc_i, jq_gs_t, jq_gsb_t, jq_gb_t, jq_gr_2, jq_gr_4, jq_gw_2, jq_s_t, jq_b_t, jg_c, jg_n, js_c, js_n, jrm_c, jrm_n, j2_i, j2_l, j2_a, jq_c_i, jq_c_l, jq_c_0, jq_c_n, jwd_le, jw_c0, mS_I, mS_R, mS_J, mN_I, mN_R, mN_J, mR_I, mI_R, mJ_I, mJ_R, mI_J, mR_J, ↓reduceIte, decide_true, or_true, true_or, and_self, false_or, or_false, reduceCtorEq, Bool.false_eq_true, and_false, false_and, eq_self, true_and, and_true, zero_ne, ↓br_lt_t, ↓br_lt_f, ↓br_eq_t, ↓br_eq_f, ↓br_lz_t, ↓br_lz_f, ↓br_ez_t, ↓br_ez_f, ↓br_gz_t, ↓br_gz_f, jw_id, jin_t, jix_t, mI_A, mI_nA, up1_s, up1_n, mS_A, mR_A, mJ_A, mN_A, setI_A, setA_A, sw_238, sw_239, sw_240, sw_241, sw_242, sw_243, sw_244, sw_245, sw_246, sw_247, sw_248, sw_249, sw_250, sw_251, Int.reduceToNat, Int.toNat_natCast, MO.s0 hm, MO.s1 hm, MO.s2 hm, MO.s3 hm, MO.s4 hm, MO.s5 hm, MO.s6 hm, MO.s7 hm, MO.s8 hm, MO.s9 hm, MO.s10 hm, MO.s11 hm, MO.s12 hm, MO.s13 hm, MO.r1 hm, MO.r2 hm, MO.r3 hm, MO.r4 hm, MO.r5 hm, MO.r6 hm, MO.r7 hm, MO.r8 hm, MO.r9 hm, MO.r10 hm, MO.r11 hm, MO.r12 hm, MO.r13 hm, MH.s hh, MH.s1 hh, MH.s2 hh, MH.s3 hh, MH.s4 hh, MH.s5 hh, MH.s6 hh, MH.s7 hh, MH.s8 hh, MH.s9 hh, MH.s10 hh, MH.s11 hh, MH.s12 hh, MH.s13 hh, MH.s14 hh, MH.s15 hh, MH.r1 hh, MH.r2 hh, MH.r3 hh, MH.r4 hh, MH.r5 hh, MH.r6 hh, MH.r7 hh, MH.r8 hh, MH.r9 hh, MH.r10 hh, MH.r11 hh, MH.r12 hh, MH.r13 hh, MH.r14 hh, MH.r15 hh, MH.f0 hh, MH.f1 hh, MH.f2 hh, MH.f3 hh, MH.f4 hh, MH.f5 hh, MH.f6 hh, MH.f7 hh, MH.f8 hh, MH.f9 hh, MH.f10 hh, MH.f11 hh, MH.f12 hh, MH.f13 hh, MH.f14 hh, MH.f15 hh, MH.f16 hh, MH.a1 hh, MH.a2 hh, MH.a3 hh, MH.a4 hh, MH.a5 hh, MH.a6 hh, MH.a7 hh, MH.a8 hh, MH.a9 hh, MH.a10 hh, MH.a11 hh, MH.a12 hh, MH.a13 hh, MH.a14 hh, MH.a15 hh, h3, hd, e1, e3, hjs]
  · refine ⟨F, Q, m, d, ?_, old (fun z => q1 z.1), hq, lo⟩
    rw [bi_f q1] at e3
    simp (disch := omega) only [p248_70, p248_71, p248_74, p248_75, p248_78, p248_79, p248_82, p248_84, p248_85, p248_87, p248_90, p248_92, p248_93, p248_96, p248_98, p248_101, p248_104, p248_105, p248_108, p248_110, p248_111, p248_113, p248_116, p248_117n, p248_117s, p248_120, p248_121, p248_123, p248_124, p248_127, p248_130, p248_133, p248_134, p248_137, p248_139, p248_140, p248_143, p248_144, p248_147, p248_149, p248_150, p248_151, p248_152, p248_153, p248_154, p248_155, p248_158, p248_159, p248_161, p248_162, p248_165, p248_168, jwd_c, jwd_0, Nat.reduceLeDiff, Nat.reduceEqDiff, Nat.reduceAdd, Nat.reduceSub, Nat.reduceMul, Int.reduceAdd, Int.reduceSub, Int.reduceMul, Int.reduceNeg, Int.reduceEq, Int.reduceLT, Int.reduceLE, jq_ldi_i, jq_ldl_l, jq_lda_a, jq_inc_i, jq_gs_t, jq_gsb_t, jq_gb_t, jq_gr_2, jq_gr_4, jq_gw_2, jq_s_t, jq_b_t, jg_c, jg_n, js_c, js_n, jrm_c, jrm_n, j2_i, j2_l, j2_a, jq_c_i, jq_c_l, jq_c_0, jq_c_n, jwd_le, jw_c0, mS_I, mS_R, mS_J, mN_I, mN_R, mN_J, mR_I, mI_R, mJ_I, mJ_R, mI_J, mR_J, ↓reduceIte, decide_true, or_true, true_or, and_self, false_or, or_false, reduceCtorEq, Bool.false_eq_true, and_false, false_and, eq_self, true_and, and_true, zero_ne, ↓br_lt_t, ↓br_lt_f, ↓br_eq_t, ↓br_eq_f, ↓br_lz_t, ↓br_lz_f, ↓br_ez_t, ↓br_ez_f, ↓br_gz_t, ↓br_gz_f, jw_id, jin_t, jix_t, mI_A, mI_nA, up1_s, up1_n, mS_A, mR_A, mJ_A, mN_A, setI_A, setA_A, sw_238, sw_239, sw_240, sw_241, sw_242, sw_243, sw_244, sw_245, sw_246, sw_247, sw_248, sw_249, sw_250, sw_251, Int.reduceToNat, Int.toNat_natCast, MO.s0 hm, MO.s1 hm, MO.s2 hm, MO.s3 hm, MO.s4 hm, MO.s5 hm, MO.s6 hm, MO.s7 hm, MO.s8 hm, MO.s9 hm, MO.s10 hm, MO.s11 hm, MO.s12 hm, MO.s13 hm, MO.r1 hm, MO.r2 hm, MO.r3 hm, MO.r4 hm, MO.r5 hm, MO.r6 hm, MO.r7 hm, MO.r8 hm, MO.r9 hm, MO.r10 hm, MO.r11 hm, MO.r12 hm, MO.r13 hm, MH.s hh, MH.s1 hh, MH.s2 hh, MH.s3 hh, MH.s4 hh, MH.s5 hh, MH.s6 hh, MH.s7 hh, MH.s8 hh, MH.s9 hh, MH.s10 hh, MH.s11 hh, MH.s12 hh, MH.s13 hh, MH.s14 hh, MH.s15 hh, MH.r1 hh, MH.r2 hh, MH.r3 hh, MH.r4 hh, MH.r5 hh, MH.r6 hh, MH.r7 hh, MH.r8 hh, MH.r9 hh, MH.r10 hh, MH.r11 hh, MH.r12 hh, MH.r13 hh, MH.r14 hh, MH.r15 hh, MH.f0 hh, MH.f1 hh, MH.f2 hh, MH.f3 hh, MH.f4 hh, MH.f5 hh, MH.f6 hh, MH.f7 hh, MH.f8 hh, MH.f9 hh, MH.f10 hh, MH.f11 hh, MH.f12 hh, MH.f13 hh, MH.f14 hh, MH.f15 hh, MH.f16 hh, MH.a1 hh, MH.a2 hh, MH.a3 hh, MH.a4 hh, MH.a5 hh, MH.a6 hh, MH.a7 hh, MH.a8 hh, MH.a9 hh, MH.a10 hh, MH.a11 hh, MH.a12 hh, MH.a13 hh, MH.a14 hh, MH.a15 hh, h3, hd, e1, e3, hjs]
theorem far_out (hm : MO w) (hh : MH w h H) (h3 : mR w 238 3 = some h) (hk : HOK H) {x : Int} {o : Option Nat} {Bk : Int → Prop} (ho : gShut H w o Bk) : ∀ (n : Nat) (F Q : Nat → Int) (m q : Int) (u : jmL), (u = [] ∨ ∃ z y, u = [(5, .inl z), (6, .inl y)]) → q + n = 48 → BI H Bk x F Q m q 0 → (∀ c : Int, 0 ≤ c → c < 48 → -2 ≤ F c.toNat) → ∃ F2 Q2 m2, rn 248 (59, (0, jvr 238) :: (1, .inl x) :: (2, .inr (.inr o)) :: (3, .inl m) :: (4, .inl q) :: u, [], setA (setA w 245 F) 246 Q) = some (none, setA (setA w 245 F2) 246 Q2) ∧ BI H Bk x F2 Q2 m2 m2 0 ∧ (∀ c : Int, 0 ≤ c → c < 48 → -2 ≤ F2 c.toNat) := by
  have kc := hk.1.2.2.2.2.2.2
  intro n
  induction n with
  | zero =>
    intro F Q m q u hu hn b lo
    have m48 := b.m48 hk
    have b1 := b.1
    have e : q = m := by omega
    subst e
    refine ⟨F, Q, q, ?_, b, lo⟩
    rw [p248_59]
    simp (disch := omega) only [p248_61, p248_62, p248_65, p248_177, jwd_c, jwd_0, Nat.reduceLeDiff, Nat.reduceEqDiff, Nat.reduceAdd, Nat.reduceSub, Nat.reduceMul, Int.reduceAdd, Int.reduceSub, Int.reduceMul, Int.reduceNeg, Int.reduceEq, Int.reduceLT, Int.reduceLE, jq_ldi_i, jq_ldl_l, jq_lda_a, jq_inc_i, jq_gs_t, jq_gsb_t, jq_gb_t, jq_gr_2, jq_gr_4, jq_gw_2, jq_s_t, jq_b_t, jg_c, jg_n, js_c, js_n, jrm_c, jrm_n, j2_i, j2_l, j2_a, jq_c_i, jq_c_l, jq_c_0, jq_c_n, jwd_le, jw_c0, mS_I, mS_R, mS_J, mN_I, mN_R, mN_J, mR_I, mI_R, mJ_I, mJ_R, mI_J, mR_J, ↓reduceIte, decide_true, or_true, true_or, and_self, false_or, or_false, reduceCtorEq, Bool.false_eq_true, and_false, false_and, eq_self, true_and, and_true, zero_ne, ↓br_lt_t, ↓br_lt_f, ↓br_eq_t, ↓br_eq_f, ↓br_lz_t, ↓br_lz_f, ↓br_ez_t, ↓br_ez_f, ↓br_gz_t, ↓br_gz_f, jw_id, jin_t, jix_t]
  | succ n ih =>
    intro F Q m q u hu hn b lo
    have m48 := b.m48 hk
    have b1 := b.1
    by_cases hq : q < m
    · have hjs : ∃ u2, js ((4, .inl q) :: u) 5 (.inl 0) = (4, .inl q) :: (5, .inl 0) :: u2 ∧ (u2 = [] ∨ ∃ y, u2 = [(6, .inl y)]) := by
        rcases hu with rfl | ⟨z, y, rfl⟩
        · exact ⟨[], rfl, Or.inl rfl⟩
        · exact ⟨[(6, .inl y)], rfl, Or.inr ⟨y, rfl⟩⟩
      obtain ⟨u2, j1, j2⟩ := hjs
      obtain ⟨F1, Q1, m1, y1, e1, c1, d1, l1⟩ := far_step hm hh h3 hk ho j2 b hq (by omega) lo
      obtain ⟨F2, Q2, m2, y2, e2, c2, d2, l2⟩ := far_step hm hh h3 hk ho (Or.inr ⟨y1, rfl⟩) c1 d1 (by omega) l1
      obtain ⟨F3, Q3, m3, y3, e3, c3, d3, l3⟩ := far_step hm hh h3 hk ho (Or.inr ⟨y2, rfl⟩) c2 d2 (by omega) l2
      obtain ⟨F4, Q4, m4, y4, e4, c4, d4, l4⟩ := far_step hm hh h3 hk ho (Or.inr ⟨y3, rfl⟩) c3 d3 (by omega) l3
      simp only [Int.reduceAdd] at e1 e2 e3 e4 c4
      obtain ⟨F5, Q5, m5, e5, c5, l5⟩ := ih F4 Q4 m4 (q + 1) [(5, .inl 4), (6, .inl y4)] (Or.inr ⟨4, y4, rfl⟩) (by omega) (c4.next d4) l4
      refine ⟨F5, Q5, m5, ?_, c5, l5⟩
      rw [p248_59]
      simp (disch := omega) only [p248_61, p248_62, p248_65, p248_66, jwd_c, jwd_0, Nat.reduceLeDiff, Nat.reduceEqDiff, Nat.reduceAdd, Nat.reduceSub, Nat.reduceMul, Int.reduceAdd, Int.reduceSub, Int.reduceMul, Int.reduceNeg, Int.reduceEq, Int.reduceLT, Int.reduceLE, jq_ldi_i, jq_ldl_l, jq_lda_a, jq_inc_i, jq_gs_t, jq_gsb_t, jq_gb_t, jq_gr_2, jq_gr_4, jq_gw_2, jq_s_t, jq_b_t, jg_c, jg_n, js_c, js_n, jrm_c, jrm_n, j2_i, j2_l, j2_a, jq_c_i, jq_c_l, jq_c_0, jq_c_n, jwd_le, jw_c0, mS_I, mS_R, mS_J, mN_I, mN_R, mN_J, mR_I, mI_R, mJ_I, mJ_R, mI_J, mR_J, ↓reduceIte, decide_true, or_true, true_or, and_self, false_or, or_false, reduceCtorEq, Bool.false_eq_true, and_false, false_and, eq_self, true_and, and_true, zero_ne, ↓br_lt_t, ↓br_lt_f, ↓br_eq_t, ↓br_eq_f, ↓br_lz_t, ↓br_lz_f, ↓br_ez_t, ↓br_ez_f, ↓br_gz_t, ↓br_gz_f, jw_id, jin_t, jix_t, j1]
      rw [e1, e2, e3, e4, p248_68]
      simp (disch := omega) only [p248_70, p248_71, p248_171, p248_174, jwd_c, jwd_0, Nat.reduceLeDiff, Nat.reduceEqDiff, Nat.reduceAdd, Nat.reduceSub, Nat.reduceMul, Int.reduceAdd, Int.reduceSub, Int.reduceMul, Int.reduceNeg, Int.reduceEq, Int.reduceLT, Int.reduceLE, jq_ldi_i, jq_ldl_l, jq_lda_a, jq_inc_i, jq_gs_t, jq_gsb_t, jq_gb_t, jq_gr_2, jq_gr_4, jq_gw_2, jq_s_t, jq_b_t, jg_c, jg_n, js_c, js_n, jrm_c, jrm_n, j2_i, j2_l, j2_a, jq_c_i, jq_c_l, jq_c_0, jq_c_n, jwd_le, jw_c0, mS_I, mS_R, mS_J, mN_I, mN_R, mN_J, mR_I, mI_R, mJ_I, mJ_R, mI_J, mR_J, ↓reduceIte, decide_true, or_true, true_or, and_self, false_or, or_false, reduceCtorEq, Bool.false_eq_true, and_false, false_and, eq_self, true_and, and_true, zero_ne, ↓br_lt_t, ↓br_lt_f, ↓br_eq_t, ↓br_eq_f, ↓br_lz_t, ↓br_lz_f, ↓br_ez_t, ↓br_ez_f, ↓br_gz_t, ↓br_gz_f, jw_id, jin_t, jix_t, e5]
    · have e : q = m := by omega
      subst e
      refine ⟨F, Q, q, ?_, b, lo⟩
      rw [p248_59]
      simp (disch := omega) only [p248_61, p248_62, p248_65, p248_177, jwd_c, jwd_0, Nat.reduceLeDiff, Nat.reduceEqDiff, Nat.reduceAdd, Nat.reduceSub, Nat.reduceMul, Int.reduceAdd, Int.reduceSub, Int.reduceMul, Int.reduceNeg, Int.reduceEq, Int.reduceLT, Int.reduceLE, jq_ldi_i, jq_ldl_l, jq_lda_a, jq_inc_i, jq_gs_t, jq_gsb_t, jq_gb_t, jq_gr_2, jq_gr_4, jq_gw_2, jq_s_t, jq_b_t, jg_c, jg_n, js_c, js_n, jrm_c, jrm_n, j2_i, j2_l, j2_a, jq_c_i, jq_c_l, jq_c_0, jq_c_n, jwd_le, jw_c0, mS_I, mS_R, mS_J, mN_I, mN_R, mN_J, mR_I, mI_R, mJ_I, mJ_R, mI_J, mR_J, ↓reduceIte, decide_true, or_true, true_or, and_self, false_or, or_false, reduceCtorEq, Bool.false_eq_true, and_false, false_and, eq_self, true_and, and_true, zero_ne, ↓br_lt_t, ↓br_lt_f, ↓br_eq_t, ↓br_eq_f, ↓br_lz_t, ↓br_lz_f, ↓br_ez_t, ↓br_ez_f, ↓br_gz_t, ↓br_gz_f, jw_id, jin_t, jix_t]
theorem m_far (hm : MO w) (hh : MH w h H) (h3 : mR w 238 3 = some h) (hk : HOK H) {x : Int} (x1 : -2 ≤ x) (x2 : x ≠ -1) (x3 : x < H 1 0) {o : Option Nat} {Bk : Int → Prop} (ho : gShut H w o Bk) : ∃ F Q, rn 248 (0, [(0, jvr 238), (1, .inl x), (2, .inr (.inr o))], [], w) = some (none, setA (setA w 245 F) 246 Q) ∧ ∀ c : Int, 0 ≤ c → c < H 1 0 → F c.toNat = gDist H Bk x c := by
  have kc := hk.1.2.2.2.2.2.2
  have e0 : setA w 245 (mI w 245) = w := setA_self w 245
  have e1 := far_clr hm (x := x) (o := o) 48 0 (by omega) (by omega) (mI w 245)
  rw [e0] at e1
  generalize hF : (fun j : Nat => if (0 : Int) ≤ j ∧ j < 48 then -2 else mI w 245 j) = F0 at e1
  have f0 : ∀ c : Int, 0 ≤ c → c < 48 → F0 c.toNat = -2 := by
    intro c y1 y2
    rw [← hF]
    exact if_pos (by omega)
  have none2 : ¬ gFrom H x → ∀ c : Int, 0 ≤ c → c < H 1 0 → F0 c.toNat = gDist H Bk x c := by
    intro hn c y1 y2
    rw [f0 c y1 (by omega), gDist_eq (Or.inr ⟨rfl, fun z => hn z.1⟩)]
  have fin : ∀ Q, Q = mI w 246 → setA (setA w 245 F0) 246 Q = setA w 245 F0 := by
    intro Q hQ
    rw [hQ, show mI w 246 = mI (setA w 245 F0) 246 from (mI_nA (by omega)).symm]
    exact setA_self _ _
  by_cases q1 : x = -2
  · refine ⟨F0, mI w 246, ?_, none2 (fun z => by have := z.1; omega)⟩
    rw [fin _ rfl]
    simp (disch := omega) only [p248_0, p248_1, p248_3, p248_5, p248_8, p248_9, p248_12, p248_13, p248_15, p248_16, p248_19, p248_22, p248_23, p248_25, p248_28, p248_29, p248_32, p248_33, p248_36, p248_39, p248_40, p248_41, p248_44, p248_45, p248_46, p248_47, p248_48, p248_51, p248_52, p248_53, p248_54, p248_55, p248_56, p248_57, p248_61, p248_62, p248_65, p248_66, p248_70, p248_71, p248_74, p248_75, p248_78, p248_79, p248_82, p248_84, p248_85, p248_87, p248_90, p248_92, p248_93, p248_96, p248_98, p248_101, p248_104, p248_105, p248_108, p248_110, p248_111, p248_113, p248_116, p248_117n, p248_117s, p248_120, p248_121, p248_123, p248_124, p248_127, p248_130, p248_133, p248_134, p248_137, p248_139, p248_140, p248_143, p248_144, p248_147, p248_149, p248_150, p248_151, p248_152, p248_153, p248_154, p248_155, p248_158, p248_159, p248_161, p248_162, p248_165, p248_168, p248_171, p248_174, p248_177, jwd_c, jwd_0, Nat.reduceLeDiff, Nat.reduceEqDiff, Nat.reduceAdd, Nat.reduceSub, Nat.reduceMul, Int.reduceAdd, Int.reduceSub, Int.reduceMul, Int.reduceNeg, Int.reduceEq, Int.reduceLT, Int.reduceLE, jq_ldi_i, jq_ldl_l, jq_lda_a, jq_inc_i, jq_gs_t, jq_gsb_t, jq_gb_t, jq_gr_2, jq_gr_4, jq_gw_2, jq_s_t, jq_b_t, jg_c, jg_n, js_c, js_n, jrm_c, jrm_n, j2_i, j2_l, j2_a, jq_c_i, jq_c_l, jq_c_0, jq_c_n, jwd_le, jw_c0, mS_I, mS_R, mS_J, mN_I, mN_R, mN_J, mR_I, mI_R, mJ_I, mJ_R, mI_J, mR_J, ↓reduceIte, decide_true, or_true, true_or, and_self, false_or, or_false, reduceCtorEq, Bool.false_eq_true, and_false, false_and, eq_self, true_and, and_true, zero_ne, ↓br_lt_t, ↓br_lt_f, ↓br_eq_t, ↓br_eq_f, ↓br_lz_t, ↓br_lz_f, ↓br_ez_t, ↓br_ez_f, ↓br_gz_t, ↓br_gz_f, jw_id, jin_t, jix_t, e1, q1] at e1 ⊢
    rw [e1]
  · have e2 := mh_open (w := setA w 245 F0) (hh.A (by omega)) hk (c := x) (by omega) x3
    by_cases q2 : gOpen H x
    · rw [bi_t q2] at e2
      have hF : gFrom H x := ⟨by omega, q2.2⟩
      have b0 : BI H Bk x (up1 F0 x.toNat 0) (up1 (mI w 246) 0 x) 1 0 0 := by
        have g1 : up1 F0 x.toNat 0 x.toNat = 0 := up1_s _ _ _
        have g2 : up1 (mI w 246) 0 x (0 : Int).toNat = x := up1_s _ _ _
        refine ⟨by omega, fun j j1 j2 => ?_, fun c z1 z2 z3 => ?_, fun i j i1 i2 i3 => by omega, fun _ j j1 j2 => ?_, fun j t j1 j2 j3 t1 t2 hx => by omega⟩
        · have : j = 0 := by omega
          subst this
          rw [g2, g1]
          omega
        · by_cases z : c = x
          · subst z
            rw [g1]
            exact ⟨by omega, rfl, 0, by omega, by omega, g2⟩
          · rw [up1_n (by omega), f0 c z1 (by omega)] at z3
            exact absurd rfl z3
        · have : j = 0 := by omega
          subst this
          rw [g2, g1]
          omega
      have l0 : ∀ c : Int, 0 ≤ c → c < 48 → -2 ≤ up1 F0 x.toNat 0 c.toNat := by
        intro c y1 y2
        by_cases z : c.toNat = x.toNat
        · rw [z, up1_s]
          omega
        · rw [up1_n z, f0 c y1 y2]
          omega
      have ho2 : gShut H (setA (setA w 245 F0) 246 (mI w 246)) o Bk := by
        rcases ho with n1 | ⟨a, r, B, n0, n1, n2, n3, n4⟩
        · exact Or.inl n1
        · exact Or.inr ⟨a, r, B, n0, n1, n2, by rw [mI_nA (by omega), mI_nA (by omega)]; exact n3, n4⟩
      obtain ⟨F2, Q2, m2, e3, c3, -⟩ := far_out hm hh h3 hk ho 48 (up1 F0 x.toNat 0) (up1 (mI w 246) 0 x) 1 0 [] (Or.inl rfl) (by omega) b0 l0
      refine ⟨F2, Q2, ?_, fun c y1 y2 => (gDist_eq (c3.done hk hF y1 y2)).symm⟩
      simp (disch := omega) only [p248_0, p248_1, jwd_c, jwd_0, Nat.reduceLeDiff, Nat.reduceEqDiff, Nat.reduceAdd, Nat.reduceSub, Nat.reduceMul, Int.reduceAdd, Int.reduceSub, Int.reduceMul, Int.reduceNeg, Int.reduceEq, Int.reduceLT, Int.reduceLE, jq_ldi_i, jq_ldl_l, jq_lda_a, jq_inc_i, jq_gs_t, jq_gsb_t, jq_gb_t, jq_gr_2, jq_gr_4, jq_gw_2, jq_s_t, jq_b_t, jg_c, jg_n, js_c, js_n, jrm_c, jrm_n, j2_i, j2_l, j2_a, jq_c_i, jq_c_l, jq_c_0, jq_c_n, jwd_le, jw_c0, mS_I, mS_R, mS_J, mN_I, mN_R, mN_J, mR_I, mI_R, mJ_I, mJ_R, mI_J, mR_J, ↓reduceIte, decide_true, or_true, true_or, and_self, false_or, or_false, reduceCtorEq, Bool.false_eq_true, and_false, false_and, eq_self, true_and, and_true, zero_ne, e1]
      simp (disch := omega) only [p248_22, p248_23, p248_25, p248_28, p248_29, p248_32, p248_33, p248_36, p248_39, p248_40, p248_41, p248_44, p248_45, p248_46, p248_47, p248_48, p248_51, p248_52, p248_53, p248_54, p248_55, p248_56, p248_57, jwd_c, jwd_0, Nat.reduceLeDiff, Nat.reduceEqDiff, Nat.reduceAdd, Nat.reduceSub, Nat.reduceMul, Int.reduceAdd, Int.reduceSub, Int.reduceMul, Int.reduceNeg, Int.reduceEq, Int.reduceLT, Int.reduceLE, jq_ldi_i, jq_ldl_l, jq_lda_a, jq_inc_i, jq_gs_t, jq_gsb_t, jq_gb_t, jq_gr_2, jq_gr_4, jq_gw_2, jq_s_t, jq_b_t, jg_c, jg_n, js_c, js_n, jrm_c, jrm_n, j2_i, j2_l, j2_a, jq_c_i, jq_c_l, jq_c_0, jq_c_n, jwd_le, jw_c0, mS_I, mS_R, mS_J, mN_I, mN_R, mN_J, mR_I, mI_R, mJ_I, mJ_R, mI_J, mR_J, ↓reduceIte, decide_true, or_true, true_or, and_self, false_or, or_false, reduceCtorEq, Bool.false_eq_true, and_false, false_and, eq_self, true_and, and_true, zero_ne, ↓br_lt_t, ↓br_lt_f, ↓br_eq_t, ↓br_eq_f, ↓br_lz_t, ↓br_lz_f, ↓br_ez_t, ↓br_ez_f, ↓br_gz_t, ↓br_gz_f, jw_id, jin_t, jix_t, mI_A, mI_nA, up1_s, up1_n, mS_A, mR_A, mJ_A, mN_A, setI_A, setA_A, sw_238, sw_239, sw_240, sw_241, sw_242, sw_243, sw_244, sw_245, sw_246, sw_247, sw_248, sw_249, sw_250, sw_251, Int.reduceToNat, Int.toNat_natCast, MO.s0 hm, MO.s1 hm, MO.s2 hm, MO.s3 hm, MO.s4 hm, MO.s5 hm, MO.s6 hm, MO.s7 hm, MO.s8 hm, MO.s9 hm, MO.s10 hm, MO.s11 hm, MO.s12 hm, MO.s13 hm, MO.r1 hm, MO.r2 hm, MO.r3 hm, MO.r4 hm, MO.r5 hm, MO.r6 hm, MO.r7 hm, MO.r8 hm, MO.r9 hm, MO.r10 hm, MO.r11 hm, MO.r12 hm, MO.r13 hm, h3, MH.s hh, e2, e3]
    · rw [bi_f q2] at e2
      refine ⟨F0, mI w 246, ?_, none2 (fun z => q2 ⟨by have := z.1; omega, z.2⟩)⟩
      rw [fin _ rfl]
      simp (disch := omega) only [p248_0, p248_1, jwd_c, jwd_0, Nat.reduceLeDiff, Nat.reduceEqDiff, Nat.reduceAdd, Nat.reduceSub, Nat.reduceMul, Int.reduceAdd, Int.reduceSub, Int.reduceMul, Int.reduceNeg, Int.reduceEq, Int.reduceLT, Int.reduceLE, jq_ldi_i, jq_ldl_l, jq_lda_a, jq_inc_i, jq_gs_t, jq_gsb_t, jq_gb_t, jq_gr_2, jq_gr_4, jq_gw_2, jq_s_t, jq_b_t, jg_c, jg_n, js_c, js_n, jrm_c, jrm_n, j2_i, j2_l, j2_a, jq_c_i, jq_c_l, jq_c_0, jq_c_n, jwd_le, jw_c0, mS_I, mS_R, mS_J, mN_I, mN_R, mN_J, mR_I, mI_R, mJ_I, mJ_R, mI_J, mR_J, ↓reduceIte, decide_true, or_true, true_or, and_self, false_or, or_false, reduceCtorEq, Bool.false_eq_true, and_false, false_and, eq_self, true_and, and_true, zero_ne, e1]
      simp (disch := omega) only [p248_22, p248_23, p248_25, p248_28, p248_29, p248_32, p248_33, p248_36, p248_39, p248_40, p248_41, p248_44, p248_45, p248_46, p248_47, p248_48, p248_51, p248_52, p248_53, p248_54, p248_55, p248_56, p248_57, jwd_c, jwd_0, Nat.reduceLeDiff, Nat.reduceEqDiff, Nat.reduceAdd, Nat.reduceSub, Nat.reduceMul, Int.reduceAdd, Int.reduceSub, Int.reduceMul, Int.reduceNeg, Int.reduceEq, Int.reduceLT, Int.reduceLE, jq_ldi_i, jq_ldl_l, jq_lda_a, jq_inc_i, jq_gs_t, jq_gsb_t, jq_gb_t, jq_gr_2, jq_gr_4, jq_gw_2, jq_s_t, jq_b_t, jg_c, jg_n, js_c, js_n, jrm_c, jrm_n, j2_i, j2_l, j2_a, jq_c_i, jq_c_l, jq_c_0, jq_c_n, jwd_le, jw_c0, mS_I, mS_R, mS_J, mN_I, mN_R, mN_J, mR_I, mI_R, mJ_I, mJ_R, mI_J, mR_J, ↓reduceIte, decide_true, or_true, true_or, and_self, false_or, or_false, reduceCtorEq, Bool.false_eq_true, and_false, false_and, eq_self, true_and, and_true, zero_ne, ↓br_lt_t, ↓br_lt_f, ↓br_eq_t, ↓br_eq_f, ↓br_lz_t, ↓br_lz_f, ↓br_ez_t, ↓br_ez_f, ↓br_gz_t, ↓br_gz_f, jw_id, jin_t, jix_t, mI_A, mI_nA, up1_s, up1_n, mS_A, mR_A, mJ_A, mN_A, setI_A, setA_A, sw_238, sw_239, sw_240, sw_241, sw_242, sw_243, sw_244, sw_245, sw_246, sw_247, sw_248, sw_249, sw_250, sw_251, Int.reduceToNat, Int.toNat_natCast, MO.s0 hm, MO.s1 hm, MO.s2 hm, MO.s3 hm, MO.s4 hm, MO.s5 hm, MO.s6 hm, MO.s7 hm, MO.s8 hm, MO.s9 hm, MO.s10 hm, MO.s11 hm, MO.s12 hm, MO.s13 hm, MO.r1 hm, MO.r2 hm, MO.r3 hm, MO.r4 hm, MO.r5 hm, MO.r6 hm, MO.r7 hm, MO.r8 hm, MO.r9 hm, MO.r10 hm, MO.r11 hm, MO.r12 hm, MO.r13 hm, h3, MH.s hh, e2]
end FAR
