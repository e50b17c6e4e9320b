/-! The model: the front goes. -/
def gPut2 (r : Nat → Int) (d s : Int) : Nat → Int := up1 (up1 (up1 r (0 + r 288).toNat d) 288 (r 288 + 1)) 292 s
noncomputable def gPut (H : Nat → Nat → Int) (r : Nat → Int) (s : Int) : Nat → Int := gPut2 (ci (¬ H 0 15 = 0 ∧ gCloses r (gTo H (gHere r) s)) (up1 r 297 1) r) (gTo H (gHere r) s) s
noncomputable def gStep (H : Nat → Nat → Int) (L : Int) (S r : Nat → Int) : Nat → Int := if (gLead H L S r).1 = -1 then (gLead H L S r).2 else gPut H (gLead H L S r).2 (gLead H L S r).1
noncomputable def gGo (H : Nat → Nat → Int) (L : Int) (S : Nat → Int) : Nat → (Nat → Int) → Nat → Int
  | 0, r => r
  | n + 1, r => if r 297 = 0 then gGo H L S n (gStep H L S r) else r
section GOES
variable {w : jmW} {a h : Nat} {H : Nat → Nat → Int} {r : Nat → Int} {B : Int} {L : Int} {S : Nat → Int}
theorem put2_ok (hk : HOK H) (ra : RA H B r) (rb : RB r) (rw0 : RW H r) (hl : r 288 ≤ 203) {d s : Int} (s1 : 0 ≤ s) (s2 : s < 4) (hd : gTo H (gHere r) s = d) (ho : gOpen H d) : RA H B (gPut2 r d s) ∧ RB (gPut2 r d s) ∧ RW H (gPut2 r d s) ∧ gPut2 r d s 288 = r 288 + 1 := by
  have h16 := ra.1
  have hb := here_ok ra rw0
  have e3 := gTo_bd hk (c := gHere r) (s := s) hb.1 hb.2
  rw [hd] at e3
  have e4 := ho.1
  have g288 : gPut2 r d s 288 = r 288 + 1 := by
    unfold gPut2
    simp (disch := omega) only [up1_n, up1_s]
  have gw : ∀ k : Nat, k < 204 → k ≠ (r 288).toNat → gPut2 r d s k = r k := by
    intro k k1 k2
    unfold gPut2
    rw [up1_n (by omega), up1_n (by omega), up1_n (by omega)]
  have gd : gPut2 r d s (r 288).toNat = d := by
    unfold gPut2
    rw [up1_n (by omega), up1_n (by omega), Int.zero_add, up1_s]
  have gh : ∀ k : Nat, 204 ≤ k → k ≠ 288 → k ≠ 292 → gPut2 r d s k = r k := by
    intro k k1 k2 k3
    unfold gPut2
    rw [up1_n (by omega), up1_n (by omega), up1_n (by omega)]
  have g292 : gPut2 r d s 292 = s := up1_s _ _ _
  refine ⟨?_, fun i i1 i2 => ?_, ⟨fun k k1 k2 => ?_, fun k k1 k2 => ?_⟩, g288⟩
  · unfold RA at ra ⊢
    rw [g288, g292, gh 289 (by omega) (by omega) (by omega), gh 290 (by omega) (by omega) (by omega), gh 284 (by omega) (by omega) (by omega), gh 285 (by omega) (by omega) (by omega), gh 286 (by omega) (by omega) (by omega), gh 287 (by omega) (by omega) (by omega), gh 291 (by omega) (by omega) (by omega), gh 293 (by omega) (by omega) (by omega), gh 294 (by omega) (by omega) (by omega), gh 295 (by omega) (by omega) (by omega), gh 296 (by omega) (by omega) (by omega), gh 297 (by omega) (by omega) (by omega)]
    omega
  · rw [gh 289 (by omega) (by omega) (by omega)] at i2
    have := rb i i1 i2
    rw [g288, gh 290 (by omega) (by omega) (by omega), gh (204 + i).toNat (by omega) (by omega) (by omega), gh (220 + i).toNat (by omega) (by omega) (by omega), gh (236 + i).toNat (by omega) (by omega) (by omega), gh (252 + i).toNat (by omega) (by omega) (by omega), gh (268 + i).toNat (by omega) (by omega) (by omega)]
    omega
  · rw [g288] at k2
    by_cases z : k = r 288
    · rw [show (0 + k).toNat = (r 288).toNat by omega, gd]
      exact ⟨by omega, e3.2, ho.2⟩
    · rw [gw _ (by omega) (by omega)]
      exact rw0.1 k k1 (by omega)
  · rw [g288] at k2
    by_cases z : k + 1 = r 288
    · rw [show (0 + k + 1).toNat = (r 288).toNat by omega, gd, gw _ (by omega) (by omega)]
      refine ⟨s, s1, s2, ?_⟩
      rw [← hd]
      unfold gHere
      rw [show (0 + k).toNat = (0 + r 288 - 1).toNat by omega]
    · rw [gw _ (by omega) (by omega), gw _ (by omega) (by omega)]
      exact rw0.2 k k1 (by omega)
theorem ring_ok (ra : RA H B r) (rb : RB r) (rw0 : RW H r) : RA H B (up1 r 297 1) ∧ RB (up1 r 297 1) ∧ RW H (up1 r 297 1) := by
  refine ⟨?_, RB_c (fun k k1 k2 => up1_n (by omega)) ra rb, RW_c (fun k k1 => up1_n (by omega)) (up1_n (by omega)) ra rw0⟩
  unfold RA at ra ⊢
  simp (disch := omega) only [up1_n, up1_s, or_true, and_true, eq_self]
  omega
theorem put_ok (hk : HOK H) (ra : RA H B r) (rb : RB r) (rw0 : RW H r) (hl : r 288 ≤ 203) {s : Int} (s1 : 0 ≤ s) (s2 : s < 4) (hg : gCG H r s) : RA H B (gPut H r s) ∧ RB (gPut H r s) ∧ RW H (gPut H r s) ∧ gPut H r s 288 = r 288 + 1 := by
  unfold gPut
  by_cases q : ¬ H 0 15 = 0 ∧ gCloses r (gTo H (gHere r) s)
  · rw [ci_t q]
    obtain ⟨a1, a2, a3⟩ := ring_ok ra rb rw0
    have h16 := ra.1
    have e1 : gHere (up1 r 297 1) = gHere r := by
      have e2 : up1 r 297 1 288 = r 288 := up1_n (by omega)
      unfold gHere
      rw [e2]
      exact up1_n (by omega)
    have e2 : up1 r 297 1 288 = r 288 := up1_n (by omega)
    have := put2_ok hk a1 a2 a3 (by rw [e2]; exact hl) s1 s2 (d := gTo H (gHere r) s) (by rw [e1]) hg.1
    rw [e2] at this
    exact this
  · rw [ci_f q]
    exact put2_ok hk ra rb rw0 hl s1 s2 rfl hg.1
theorem lead_keeps (l2 : L ≤ 12) (s1 : ∀ k, k < 12 → 0 ≤ S k ∧ S k ≤ 3) (ra : RA H B r) (rb : RB r) (rw0 : RW H r) : RA H B (gLead H L S r).2 ∧ RB (gLead H L S r).2 ∧ RW H (gLead H L S r).2 ∧ (gLead H L S r).2 288 = r 288 ∧ ((gLead H L S r).1 = -1 ∨ (0 ≤ (gLead H L S r).1 ∧ (gLead H L S r).1 < 4 ∧ gCG H (gLead H L S r).2 (gLead H L S r).1)) := by
  obtain ⟨o1, o2, o3⟩ := gLead_ok (H := H) (r := r) (L := L) (S := S) l2 s1 ra
  refine ⟨o2, RB_c (fun k k1 k2 => o3 k (by omega) (by omega)) ra rb, RW_c (fun k k1 => o3 k (by omega) (by omega)) (o3 288 (by omega) (by omega)) ra rw0, o3 288 (by omega) (by omega), ?_⟩
  rcases o1 with o1 | ⟨o4, o5, o6⟩
  · exact Or.inl o1
  · exact Or.inr ⟨o4, o5, (gCG_c (fun k k1 => o3 k (by omega) (by omega)) (fun k k1 k2 => o3 k (by omega) (by omega)) (o3 288 (by omega) (by omega)) (o3 289 (by omega) (by omega)) ra rb _).mpr o6⟩
theorem step_ok (hk : HOK H) (l2 : L ≤ 12) (s1 : ∀ k, k < 12 → 0 ≤ S k ∧ S k ≤ 3) (ra : RA H B r) (rb : RB r) (rw0 : RW H r) (hl : r 288 ≤ 203) : RA H B (gStep H L S r) ∧ RB (gStep H L S r) ∧ RW H (gStep H L S r) ∧ r 288 ≤ gStep H L S r 288 ∧ gStep H L S r 288 ≤ r 288 + 1 := by
  obtain ⟨o1, o2, o3, o4, o5⟩ := lead_keeps l2 s1 ra rb rw0
  unfold gStep
  split
  · exact ⟨o1, o2, o3, by omega, by omega⟩
  · rename_i z
    rcases o5 with o5 | ⟨o6, o7, o8⟩
    · exact absurd o5 z
    · obtain ⟨p1, p2, p3, p4⟩ := put_ok hk o1 o2 o3 (by omega) o6 o7 o8
      exact ⟨p1, p2, p3, by omega, by omega⟩
theorem go_ok (hk : HOK H) (l2 : L ≤ 12) (s1 : ∀ k, k < 12 → 0 ≤ S k ∧ S k ≤ 3) : ∀ (n : Nat) (r : Nat → Int), RA H B r → RB r → RW H r → r 288 + n ≤ 204 → RA H B (gGo H L S n r) ∧ RB (gGo H L S n r) ∧ RW H (gGo H L S n r) ∧ r 288 ≤ gGo H L S n r 288 ∧ gGo H L S n r 288 ≤ r 288 + n := by
  intro n
  induction n with
  | zero => intro r ra rb rw0 hl; exact ⟨ra, rb, rw0, Int.le_refl _, by show r 288 ≤ _; omega⟩
  | succ n ih =>
    intro r ra rb rw0 hl
    have e : gGo H L S (n + 1) r = if r 297 = 0 then gGo H L S n (gStep H L S r) else r := rfl
    rw [e]
    split
    · obtain ⟨p1, p2, p3, p4, p5⟩ := step_ok hk l2 s1 ra rb rw0 (by omega)
      obtain ⟨q1, q2, q3, q4, q5⟩ := ih _ p1 p2 p3 (by omega)
      exact ⟨q1, q2, q3, by omega, by omega⟩
    · exact ⟨ra, rb, rw0, by omega, by omega⟩
def tl56 (u : jmL) : Prop := u = [] ∨ (∃ x, u = [(5, .inl x)]) ∨ ∃ x y, u = [(5, .inl x), (6, .inl y)]
theorem tl56_js {u : jmL} (hu : tl56 u) (s : Int) : ∃ u2, js u 5 (.inl s) = (5, .inl s) :: u2 ∧ (u2 = [] ∨ ∃ y, u2 = [(6, .inl y)]) := by
  rcases hu with rfl | ⟨x, rfl⟩ | ⟨x, y, rfl⟩
  · exact ⟨[], rfl, Or.inl rfl⟩
  · exact ⟨[], rfl, Or.inl rfl⟩
  · exact ⟨[(6, .inl y)], rfl, Or.inr ⟨y, rfl⟩⟩
theorem go_loop (hk : HOK H) (l1 : 0 ≤ L) (l2 : L ≤ 12) (s1 : ∀ k, k < 12 → 0 ≤ S k ∧ S k ≤ 3) (ha : a = 241 ∨ a = 242) {st bg : Int} (st3 : st ≤ 3) : ∀ (n : Nat) (k : Int) (r : Nat → Int) (w : jmW) (u : jmL), MO w → MH w h H → mR w 238 3 = some h → mS w a = (2, 0, 298) → mI w a = r → mI w 238 27 = L → mI w 247 = S → 0 ≤ k → k + n = st → tl56 u → RA H B r → RB r → RW H r → r 288 + n ≤ 203 → ∃ F Q lv, rn 239 (9, (0, jvr 238) :: (1, jvr a) :: (2, .inl st) :: (3, .inl bg) :: (4, .inl k) :: u, [], w) = rn 239 (119, (0, jvr 238) :: (1, jvr a) :: (2, .inl st) :: (3, .inl bg) :: lv, [], setA (setA (setA w a (gGo H L S n r)) 245 F) 246 Q) := by
  have kc := hk.1.2.2.2.2.2.2
  have k15 := hk.2.2.1.2.2.2.2.2.2.2.2.2.2.2.2.2.1
  have w0 : ∀ (w : jmW) (r : Nat → Int), mI w a = r → setA (setA (setA w a r) 245 (mI w 245)) 246 (mI w 246) = w := by
    intro w r hr
    rw [← hr, setA_self, setA_self, setA_self]
  intro n
  induction n with
  | zero =>
    intro k r w u hm hh h3 hs hr hL hS k1 k2 hu ra rb rw0 hl
    refine ⟨mI w 245, mI w 246, (4, .inl k) :: u, ?_⟩
    have e : gGo H L S 0 r = r := rfl
    rw [e, w0 w r hr, p239_9]
    simp (disch := omega) only [p239_0, p239_1, p239_4, p239_5, p239_6, p239_7, p239_11, p239_12, p239_15, p239_16, p239_19, p239_20, p239_23, p239_24, p239_25, p239_28, p239_30, p239_32, p239_33, p239_36, p239_39, p239_40, p239_43, p239_44, p239_45, p239_46, p239_49, p239_50, p239_51, p239_52, p239_53, p239_54, p239_56, p239_59, p239_61, p239_62, p239_65, p239_68, p239_71, p239_72, p239_74, p239_77, p239_80, p239_81, p239_84, p239_85, p239_86, p239_87, p239_88, p239_89, p239_92, p239_93, p239_94, p239_96, p239_97, p239_98, p239_101, p239_102, p239_103, p239_104, p239_105, p239_106, p239_107, p239_110, p239_112, p239_113, p239_116, p239_120, p239_123, p239_124, p239_127, p239_128, p239_129, p239_130, p239_131, p239_134, p239_135, p239_136, p239_137, p239_138, p239_139, p239_140, p239_143, p239_144, p239_147, p239_148, p239_149, p239_150, p239_151, jwd_c, jwd_0, Nat.reduceLeDiff, Nat.reduceEqDiff, Nat.reduceAdd, Nat.reduceSub, Nat.reduceMul, Int.reduceAdd, Int.reduceSub, Int.reduceMul, Int.reduceNeg, Int.reduceEq, Int.reduceLT, Int.reduceLE, jq_ldi_i, jq_ldl_l, jq_lda_a, jq_inc_i, jq_gs_t, jq_gsb_t, jq_gb_t, jq_gr_2, jq_gr_4, jq_gw_2, jq_s_t, jq_b_t, jg_c, jg_n, js_c, js_n, jrm_c, jrm_n, j2_i, j2_l, j2_a, jq_c_i, jq_c_l, jq_c_0, jq_c_n, jwd_le, jw_c0, mS_I, mS_R, mS_J, mN_I, mN_R, mN_J, mR_I, mI_R, mJ_I, mJ_R, mI_J, mR_J, ↓reduceIte, decide_true, or_true, true_or, and_self, false_or, or_false, reduceCtorEq, Bool.false_eq_true, and_false, false_and, eq_self, true_and, and_true, zero_ne, ↓br_lt_t, ↓br_lt_f, ↓br_eq_t, ↓br_eq_f, ↓br_lz_t, ↓br_lz_f, ↓br_ez_t, ↓br_ez_f, ↓br_gz_t, ↓br_gz_f, jw_id, jin_t, jix_t]
  | succ n ih =>
    intro k r w u hm hh h3 hs hr hL hS k1 k2 hu ra rb rw0 hl
    have e : gGo H L S (n + 1) r = if r 297 = 0 then gGo H L S n (gStep H L S r) else r := rfl
    have r297 := ra.2.2.2.2.2.2.2.2.2.2.2.2.2.2.2.2
    have hge := hh.ge
    rw [e]
    by_cases q : r 297 = 0
    · rw [if_pos q]
      obtain ⟨F, Q, f1⟩ := m_lead hm hh h3 (by omega) (by omega) hs hr hk ra rb rw0 hL hS l1 l2 s1
      obtain ⟨o1, o2, o3, o4, o5⟩ := lead_keeps l2 s1 ra rb rw0
      obtain ⟨v1, v2, v3, v4, v5⟩ := step_ok hk l2 s1 ra rb rw0 (by omega)
      have hgs : gStep H L S r = if (gLead H L S r).1 = -1 then (gLead H L S r).2 else gPut H (gLead H L S r).2 (gLead H L S r).1 := rfl
      generalize gLead H L S r = p at *
      obtain ⟨s, r1⟩ := p
      dsimp only at f1 o1 o2 o3 o4 o5 hgs
      have hW : ∀ x : Nat → Int, MH (setA (setA (setA w a x) 245 F) 246 Q) h H := fun x => ((hh.A (by omega)).A (by omega)).A (by omega)
      have hI : ∀ x : Nat → Int, mI (setA (setA (setA w a x) 245 F) 246 Q) a = x := by
        intro x
        rw [mI_nA (by omega), mI_nA (by omega), mI_A]
      obtain ⟨u2, j1, j2⟩ := tl56_js hu s
      have hjr : jrm u2 4 = u2 := by
        rcases j2 with rfl | ⟨z, rfl⟩ <;> rfl
      by_cases q2 : s = -1
      · subst q2
        rw [if_pos rfl] at hgs
        rw [hgs] at v1 v2 v3 v4 v5 ⊢
        have t56 : tl56 ((5, .inl (-1)) :: u2) := by
          rcases j2 with rfl | ⟨z, rfl⟩
          · exact Or.inr (Or.inl ⟨-1, rfl⟩)
          · exact Or.inr (Or.inr ⟨-1, z, rfl⟩)
        obtain ⟨F2, Q2, lv, e2⟩ := ih (k + 1) r1 (setA (setA (setA w a r1) 245 F) 246 Q) ((5, .inl (-1)) :: u2) hm (hW _) h3 hs (hI _) (by rw [mI_nA (by omega), mI_nA (by omega), mI_nA (by omega)]; exact hL) (by rw [mI_nA (by omega), mI_nA (by omega), mI_nA (by omega)]; exact hS) (by omega) (by omega) t56 v1 v2 v3 (by omega)
        refine ⟨F2, Q2, lv, ?_⟩
        rw [p239_9]
        simp (disch := omega) only [mI_A, mI_nA, up1_s, up1_n, mS_A, mR_A, mJ_A, mN_A, setI_A, setA_A, sw_238, sw_239, sw_240, sw_241, sw_242, sw_243, sw_244, sw_245, sw_246, sw_247, sw_248, sw_249, sw_250, sw_251, Int.reduceToNat, Int.toNat_natCast] at e2
        simp (disch := omega) only [p239_0, p239_1, p239_4, p239_5, p239_6, p239_7, p239_11, p239_12, p239_15, p239_16, p239_19, p239_20, p239_23, p239_24, p239_25, p239_28, p239_30, p239_32, p239_33, p239_36, p239_39, p239_40, p239_43, p239_44, p239_45, p239_46, p239_49, p239_50, p239_51, p239_52, p239_53, p239_54, p239_56, p239_59, p239_61, p239_62, p239_65, p239_68, p239_71, p239_72, p239_74, p239_77, p239_80, p239_81, p239_84, p239_85, p239_86, p239_87, p239_88, p239_89, p239_92, p239_93, p239_94, p239_96, p239_97, p239_98, p239_101, p239_102, p239_103, p239_104, p239_105, p239_106, p239_107, p239_110, p239_112, p239_113, p239_116, p239_120, p239_123, p239_124, p239_127, p239_128, p239_129, p239_130, p239_131, p239_134, p239_135, p239_136, p239_137, p239_138, p239_139, p239_140, p239_143, p239_144, p239_147, p239_148, p239_149, p239_150, p239_151, jwd_c, jwd_0, Nat.reduceLeDiff, Nat.reduceEqDiff, Nat.reduceAdd, Nat.reduceSub, Nat.reduceMul, Int.reduceAdd, Int.reduceSub, Int.reduceMul, Int.reduceNeg, Int.reduceEq, Int.reduceLT, Int.reduceLE, jq_ldi_i, jq_ldl_l, jq_lda_a, jq_inc_i, jq_gs_t, jq_gsb_t, jq_gb_t, jq_gr_2, jq_gr_4, jq_gw_2, jq_s_t, jq_b_t, jg_c, jg_n, js_c, js_n, jrm_c, jrm_n, j2_i, j2_l, j2_a, jq_c_i, jq_c_l, jq_c_0, jq_c_n, jwd_le, jw_c0, mS_I, mS_R, mS_J, mN_I, mN_R, mN_J, mR_I, mI_R, mJ_I, mJ_R, mI_J, mR_J, ↓reduceIte, decide_true, or_true, true_or, and_self, false_or, or_false, reduceCtorEq, Bool.false_eq_true, and_false, false_and, eq_self, true_and, and_true, zero_ne, ↓br_lt_t, ↓br_lt_f, ↓br_eq_t, ↓br_eq_f, ↓br_lz_t, ↓br_lz_f, ↓br_ez_t, ↓br_ez_f, ↓br_gz_t, ↓br_gz_f, jw_id, jin_t, jix_t, mI_A, mI_nA, up1_s, up1_n, mS_A, mR_A, mJ_A, mN_A, setI_A, setA_A, sw_238, sw_239, sw_240, sw_241, sw_242, sw_243, sw_244, sw_245, sw_246, sw_247, sw_248, sw_249, sw_250, sw_251, Int.reduceToNat, Int.toNat_natCast, MO.s0 hm, MO.s1 hm, MO.s2 hm, MO.s3 hm, MO.s4 hm, MO.s5 hm, MO.s6 hm, MO.s7 hm, MO.s8 hm, MO.s9 hm, MO.s10 hm, MO.s11 hm, MO.s12 hm, MO.s13 hm, MO.r1 hm, MO.r2 hm, MO.r3 hm, MO.r4 hm, MO.r5 hm, MO.r6 hm, MO.r7 hm, MO.r8 hm, MO.r9 hm, MO.r10 hm, MO.r11 hm, MO.r12 hm, MO.r13 hm, hs, hr, q, f1, j1, hjr, e2]
      · rw [if_neg q2] at hgs
        have o9 : 0 ≤ s ∧ s < 4 ∧ gCG H r1 s := o5.elim (fun z => absurd z q2) id
        rw [hgs] at v1 v2 v3 v4 v5 ⊢
        have h16 := o1.1
        have hb := here_ok o1 o3
        have e3 := mh_to (hW r1) hk (c := gHere r1) (s := s) hb.1 hb.2 o9.1 (by omega)
        have e4 := gTo_bd hk (c := gHere r1) (s := s) hb.1 hb.2
        have e5 := m_closes (w := setA (setA (setA w a r1) 245 F) 246 Q) (a := a) (c := gTo H (gHere r1) s) hs (hI _) hk o1 o2 o3 (by omega)
        have eH : r1 (0 + r1 288 - 1).toNat = gHere r1 := rfl
        have t56 : tl56 [(5, .inl s), (6, .inl (gTo H (gHere r1) s))] := Or.inr (Or.inr ⟨s, _, rfl⟩)
        have hj6 : js u2 6 (.inl (gTo H (gHere r1) s)) = [(6, .inl (gTo H (gHere r1) s))] := by
          rcases j2 with rfl | ⟨z, rfl⟩ <;> rfl
        obtain ⟨F2, Q2, lv, e2⟩ := ih (k + 1) (gPut H r1 s) (setA (setA (setA w a (gPut H r1 s)) 245 F) 246 Q) [(5, .inl s), (6, .inl (gTo H (gHere r1) s))] hm (hW _) h3 hs (hI _) (by rw [mI_nA (by omega), mI_nA (by omega), mI_nA (by omega)]; exact hL) (by rw [mI_nA (by omega), mI_nA (by omega), mI_nA (by omega)]; exact hS) (by omega) (by omega) t56 v1 v2 v3 (by omega)
        refine ⟨F2, Q2, lv, ?_⟩
        have e6 : gPut H r1 s = gPut2 (ci (¬ H 0 15 = 0 ∧ gCloses r1 (gTo H (gHere r1) s)) (up1 r1 297 1) r1) (gTo H (gHere r1) s) s := rfl
        generalize hd : gTo H (gHere r1) s = d at *
        have o10 := o9.2.2.1.1
        rw [hd] at o10
        rw [p239_9]
        by_cases q3 : H 0 15 = 0
        · rw [ci_f (fun z => z.1 q3)] at e6
          unfold gPut2 at e6
          simp (disch := omega) only [mI_A, mI_nA, up1_s, up1_n, mS_A, mR_A, mJ_A, mN_A, setI_A, setA_A, sw_238, sw_239, sw_240, sw_241, sw_242, sw_243, sw_244, sw_245, sw_246, sw_247, sw_248, sw_249, sw_250, sw_251, Int.reduceToNat, Int.toNat_natCast, e6] at e2
          simp (disch := omega) only [p239_0, p239_1, p239_4, p239_5, p239_6, p239_7, p239_11, p239_12, p239_15, p239_16, p239_19, p239_20, p239_23, p239_24, p239_25, p239_28, p239_30, p239_32, p239_33, p239_36, p239_39, p239_40, p239_43, p239_44, p239_45, p239_46, p239_49, p239_50, p239_51, p239_52, p239_53, p239_54, p239_56, p239_59, p239_61, p239_62, p239_65, p239_68, p239_71, p239_72, p239_74, p239_77, p239_80, p239_81, p239_84, p239_85, p239_86, p239_87, p239_88, p239_89, p239_92, p239_93, p239_94, p239_96, p239_97, p239_98, p239_101, p239_102, p239_103, p239_104, p239_105, p239_106, p239_107, p239_110, p239_112, p239_113, p239_116, p239_120, p239_123, p239_124, p239_127, p239_128, p239_129, p239_130, p239_131, p239_134, p239_135, p239_136, p239_137, p239_138, p239_139, p239_140, p239_143, p239_144, p239_147, p239_148, p239_149, p239_150, p239_151, jwd_c, jwd_0, Nat.reduceLeDiff, Nat.reduceEqDiff, Nat.reduceAdd, Nat.reduceSub, Nat.reduceMul, Int.reduceAdd, Int.reduceSub, Int.reduceMul, Int.reduceNeg, Int.reduceEq, Int.reduceLT, Int.reduceLE, jq_ldi_i, jq_ldl_l, jq_lda_a, jq_inc_i, jq_gs_t, jq_gsb_t, jq_gb_t, jq_gr_2, jq_gr_4, jq_gw_2, jq_s_t, jq_b_t, jg_c, jg_n, js_c, js_n, jrm_c, jrm_n, j2_i, j2_l, j2_a, jq_c_i, jq_c_l, jq_c_0, jq_c_n, jwd_le, jw_c0, mS_I, mS_R, mS_J, mN_I, mN_R, mN_J, mR_I, mI_R, mJ_I, mJ_R, mI_J, mR_J, ↓reduceIte, decide_true, or_true, true_or, and_self, false_or, or_false, reduceCtorEq, Bool.false_eq_true, and_false, false_and, eq_self, true_and, and_true, zero_ne, ↓br_lt_t, ↓br_lt_f, ↓br_eq_t, ↓br_eq_f, ↓br_lz_t, ↓br_lz_f, ↓br_ez_t, ↓br_ez_f, ↓br_gz_t, ↓br_gz_f, jw_id, jin_t, jix_t, mI_A, mI_nA, up1_s, up1_n, mS_A, mR_A, mJ_A, mN_A, setI_A, setA_A, sw_238, sw_239, sw_240, sw_241, sw_242, sw_243, sw_244, sw_245, sw_246, sw_247, sw_248, sw_249, sw_250, sw_251, Int.reduceToNat, Int.toNat_natCast, MO.s0 hm, MO.s1 hm, MO.s2 hm, MO.s3 hm, MO.s4 hm, MO.s5 hm, MO.s6 hm, MO.s7 hm, MO.s8 hm, MO.s9 hm, MO.s10 hm, MO.s11 hm, MO.s12 hm, MO.s13 hm, MO.r1 hm, MO.r2 hm, MO.r3 hm, MO.r4 hm, MO.r5 hm, MO.r6 hm, MO.r7 hm, MO.r8 hm, MO.r9 hm, MO.r10 hm, MO.r11 hm, MO.r12 hm, MO.r13 hm, MH.s hh, MH.f15 hh, h3, hs, hr, q, f1, j1, eH, hd, e3, hj6, q3, e2, e6]
        · by_cases q4 : gCloses r1 d
          · rw [ci_t ⟨q3, q4⟩] at e6
            rw [bi_t q4] at e5
            unfold gPut2 at e6
            simp (disch := omega) only [mI_A, mI_nA, up1_s, up1_n, mS_A, mR_A, mJ_A, mN_A, setI_A, setA_A, sw_238, sw_239, sw_240, sw_241, sw_242, sw_243, sw_244, sw_245, sw_246, sw_247, sw_248, sw_249, sw_250, sw_251, Int.reduceToNat, Int.toNat_natCast, up1_n] at e6
            simp (disch := omega) only [mI_A, mI_nA, up1_s, up1_n, mS_A, mR_A, mJ_A, mN_A, setI_A, setA_A, sw_238, sw_239, sw_240, sw_241, sw_242, sw_243, sw_244, sw_245, sw_246, sw_247, sw_248, sw_249, sw_250, sw_251, Int.reduceToNat, Int.toNat_natCast, e6] at e2
            simp (disch := omega) only [p239_0, p239_1, p239_4, p239_5, p239_6, p239_7, p239_11, p239_12, p239_15, p239_16, p239_19, p239_20, p239_23, p239_24, p239_25, p239_28, p239_30, p239_32, p239_33, p239_36, p239_39, p239_40, p239_43, p239_44, p239_45, p239_46, p239_49, p239_50, p239_51, p239_52, p239_53, p239_54, p239_56, p239_59, p239_61, p239_62, p239_65, p239_68, p239_71, p239_72, p239_74, p239_77, p239_80, p239_81, p239_84, p239_85, p239_86, p239_87, p239_88, p239_89, p239_92, p239_93, p239_94, p239_96, p239_97, p239_98, p239_101, p239_102, p239_103, p239_104, p239_105, p239_106, p239_107, p239_110, p239_112, p239_113, p239_116, p239_120, p239_123, p239_124, p239_127, p239_128, p239_129, p239_130, p239_131, p239_134, p239_135, p239_136, p239_137, p239_138, p239_139, p239_140, p239_143, p239_144, p239_147, p239_148, p239_149, p239_150, p239_151, jwd_c, jwd_0, Nat.reduceLeDiff, Nat.reduceEqDiff, Nat.reduceAdd, Nat.reduceSub, Nat.reduceMul, Int.reduceAdd, Int.reduceSub, Int.reduceMul, Int.reduceNeg, Int.reduceEq, Int.reduceLT, Int.reduceLE, jq_ldi_i, jq_ldl_l, jq_lda_a, jq_inc_i, jq_gs_t, jq_gsb_t, jq_gb_t, jq_gr_2, jq_gr_4, jq_gw_2, jq_s_t, jq_b_t, jg_c, jg_n, js_c, js_n, jrm_c, jrm_n, j2_i, j2_l, j2_a, jq_c_i, jq_c_l, jq_c_0, jq_c_n, jwd_le, jw_c0, mS_I, mS_R, mS_J, mN_I, mN_R, mN_J, mR_I, mI_R, mJ_I, mJ_R, mI_J, mR_J, ↓reduceIte, decide_true, or_true, true_or, and_self, false_or, or_false, reduceCtorEq, Bool.false_eq_true, and_false, false_and, eq_self, true_and, and_true, zero_ne, ↓br_lt_t, ↓br_lt_f, ↓br_eq_t, ↓br_eq_f, ↓br_lz_t, ↓br_lz_f, ↓br_ez_t, ↓br_ez_f, ↓br_gz_t, ↓br_gz_f, jw_id, jin_t, jix_t, mI_A, mI_nA, up1_s, up1_n, mS_A, mR_A, mJ_A, mN_A, setI_A, setA_A, sw_238, sw_239, sw_240, sw_241, sw_242, sw_243, sw_244, sw_245, sw_246, sw_247, sw_248, sw_249, sw_250, sw_251, Int.reduceToNat, Int.toNat_natCast, MO.s0 hm, MO.s1 hm, MO.s2 hm, MO.s3 hm, MO.s4 hm, MO.s5 hm, MO.s6 hm, MO.s7 hm, MO.s8 hm, MO.s9 hm, MO.s10 hm, MO.s11 hm, MO.s12 hm, MO.s13 hm, MO.r1 hm, MO.r2 hm, MO.r3 hm, MO.r4 hm, MO.r5 hm, MO.r6 hm, MO.r7 hm, MO.r8 hm, MO.r9 hm, MO.r10 hm, MO.r11 hm, MO.r12 hm, MO.r13 hm, MH.s hh, MH.f15 hh, h3, hs, hr, q, f1, j1, eH, hd, e3, hj6, e5, e2, e6]
          · rw [ci_f (fun z => q4 z.2)] at e6
            rw [bi_f q4] at e5
            unfold gPut2 at e6
            simp (disch := omega) only [mI_A, mI_nA, up1_s, up1_n, mS_A, mR_A, mJ_A, mN_A, setI_A, setA_A, sw_238, sw_239, sw_240, sw_241, sw_242, sw_243, sw_244, sw_245, sw_246, sw_247, sw_248, sw_249, sw_250, sw_251, Int.reduceToNat, Int.toNat_natCast, e6] at e2
            simp (disch := omega) only [p239_0, p239_1, p239_4, p239_5, p239_6, p239_7, p239_11, p239_12, p239_15, p239_16, p239_19, p239_20, p239_23, p239_24, p239_25, p239_28, p239_30, p239_32, p239_33, p239_36, p239_39, p239_40, p239_43, p239_44, p239_45, p239_46, p239_49, p239_50, p239_51, p239_52, p239_53, p239_54, p239_56, p239_59, p239_61, p239_62, p239_65, p239_68, p239_71, p239_72, p239_74, p239_77, p239_80, p239_81, p239_84, p239_85, p239_86, p239_87, p239_88, p239_89, p239_92, p239_93, p239_94, p239_96, p239_97, p239_98, p239_101, p239_102, p239_103, p239_104, p239_105, p239_106, p239_107, p239_110, p239_112, p239_113, p239_116, p239_120, p239_123, p239_124, p239_127, p239_128, p239_129, p239_130, p239_131, p239_134, p239_135, p239_136, p239_137, p239_138, p239_139, p239_140, p239_143, p239_144, p239_147, p239_148, p239_149, p239_150, p239_151, jwd_c, jwd_0, Nat.reduceLeDiff, Nat.reduceEqDiff, Nat.reduceAdd, Nat.reduceSub, Nat.reduceMul, Int.reduceAdd, Int.reduceSub, Int.reduceMul, Int.reduceNeg, Int.reduceEq, Int.reduceLT, Int.reduceLE, jq_ldi_i, jq_ldl_l, jq_lda_a, jq_inc_i, jq_gs_t, jq_gsb_t, jq_gb_t, jq_gr_2, jq_gr_4, jq_gw_2, jq_s_t, jq_b_t, jg_c, jg_n, js_c, js_n, jrm_c, jrm_n, j2_i, j2_l, j2_a, jq_c_i, jq_c_l, jq_c_0, jq_c_n, jwd_le, jw_c0, mS_I, mS_R, mS_J, mN_I, mN_R, mN_J, mR_I, mI_R, mJ_I, mJ_R, mI_J, mR_J, ↓reduceIte, decide_true, or_true, true_or, and_self, false_or, or_false, reduceCtorEq, Bool.false_eq_true, and_false, false_and, eq_self, true_and, and_true, zero_ne, ↓br_lt_t, ↓br_lt_f, ↓br_eq_t, ↓br_eq_f, ↓br_lz_t, ↓br_lz_f, ↓br_ez_t, ↓br_ez_f, ↓br_gz_t, ↓br_gz_f, jw_id, jin_t, jix_t, mI_A, mI_nA, up1_s, up1_n, mS_A, mR_A, mJ_A, mN_A, setI_A, setA_A, sw_238, sw_239, sw_240, sw_241, sw_242, sw_243, sw_244, sw_245, sw_246, sw_247, sw_248, sw_249, sw_250, sw_251, Int.reduceToNat, Int.toNat_natCast, MO.s0 hm, MO.s1 hm, MO.s2 hm, MO.s3 hm, MO.s4 hm, MO.s5 hm, MO.s6 hm, MO.s7 hm, MO.s8 hm, MO.s9 hm, MO.s10 hm, MO.s11 hm, MO.s12 hm, MO.s13 hm, MO.r1 hm, MO.r2 hm, MO.r3 hm, MO.r4 hm, MO.r5 hm, MO.r6 hm, MO.r7 hm, MO.r8 hm, MO.r9 hm, MO.r10 hm, MO.r11 hm, MO.r12 hm, MO.r13 hm, MH.s hh, MH.f15 hh, h3, hs, hr, q, f1, j1, eH, hd, e3, hj6, e5, e2, e6]
    · rw [if_neg q]
      refine ⟨mI w 245, mI w 246, (4, .inl k) :: u, ?_⟩
      rw [w0 w r hr, p239_9]
      simp (disch := omega) only [p239_0, p239_1, p239_4, p239_5, p239_6, p239_7, p239_11, p239_12, p239_15, p239_16, p239_19, p239_20, p239_23, p239_24, p239_25, p239_28, p239_30, p239_32, p239_33, p239_36, p239_39, p239_40, p239_43, p239_44, p239_45, p239_46, p239_49, p239_50, p239_51, p239_52, p239_53, p239_54, p239_56, p239_59, p239_61, p239_62, p239_65, p239_68, p239_71, p239_72, p239_74, p239_77, p239_80, p239_81, p239_84, p239_85, p239_86, p239_87, p239_88, p239_89, p239_92, p239_93, p239_94, p239_96, p239_97, p239_98, p239_101, p239_102, p239_103, p239_104, p239_105, p239_106, p239_107, p239_110, p239_112, p239_113, p239_116, p239_120, p239_123, p239_124, p239_127, p239_128, p239_129, p239_130, p239_131, p239_134, p239_135, p239_136, p239_137, p239_138, p239_139, p239_140, p239_143, p239_144, p239_147, p239_148, p239_149, p239_150, p239_151, jwd_c, jwd_0, Nat.reduceLeDiff, Nat.reduceEqDiff, Nat.reduceAdd, Nat.reduceSub, Nat.reduceMul, Int.reduceAdd, Int.reduceSub, Int.reduceMul, Int.reduceNeg, Int.reduceEq, Int.reduceLT, Int.reduceLE, jq_ldi_i, jq_ldl_l, jq_lda_a, jq_inc_i, jq_gs_t, jq_gsb_t, jq_gb_t, jq_gr_2, jq_gr_4, jq_gw_2, jq_s_t, jq_b_t, jg_c, jg_n, js_c, js_n, jrm_c, jrm_n, j2_i, j2_l, j2_a, jq_c_i, jq_c_l, jq_c_0, jq_c_n, jwd_le, jw_c0, mS_I, mS_R, mS_J, mN_I, mN_R, mN_J, mR_I, mI_R, mJ_I, mJ_R, mI_J, mR_J, ↓reduceIte, decide_true, or_true, true_or, and_self, false_or, or_false, reduceCtorEq, Bool.false_eq_true, and_false, false_and, eq_self, true_and, and_true, zero_ne, ↓br_lt_t, ↓br_lt_f, ↓br_eq_t, ↓br_eq_f, ↓br_lz_t, ↓br_lz_f, ↓br_ez_t, ↓br_ez_f, ↓br_gz_t, ↓br_gz_f, jw_id, jin_t, jix_t, mI_A, mI_nA, up1_s, up1_n, mS_A, mR_A, mJ_A, mN_A, setI_A, setA_A, sw_238, sw_239, sw_240, sw_241, sw_242, sw_243, sw_244, sw_245, sw_246, sw_247, sw_248, sw_249, sw_250, sw_251, Int.reduceToNat, Int.toNat_natCast, hs, hr]
end GOES
