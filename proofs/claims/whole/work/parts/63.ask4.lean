/-! The model: what will be. -/
def fU (w : jmW) (H : Nat → Nat → Int) (S q g : Nat → Int) : Prop := q = gCp (mI w 241) (mI w 242) ∧ S = gS1 H (mI w 247) ∧ g = gG0 (mI w 248)
def exq (x : gX) (z : gZ) : Prop := x.1 = z.1.1 ∧ x.2.1 = z.1.2.1 ∧ x.2.2.1 = z.1.2.2.1 ∧ x.2.2.2.1 = z.1.2.2.2.1
section ASK4
variable {w u : jmW} {h : Nat} {H : Nat → Nat → Int} {r S q g : Nat → Int} {B : Int} {L : Int} {p al st : Int}
theorem fU.z {w0 : jmW} (hu : fU w H S q g) (hw0 : setI w 238 0 0 = w0) : fU w0 H S q g := by
  subst hw0
  unfold fU at hu ⊢
  rw [mI_nb (b := 241) (by omega), mI_nb (b := 242) (by omega), mI_nb (b := 247) (by omega), mI_nb (b := 248) (by omega)]
  exact hu
theorem beat_cg {x y : gX} (h1 : x.1 = y.1) (h2 : x.2.1 = y.2.1) (h3 : x.2.2.1 = y.2.2.1) (h4 : x.2.2.2.1 = y.2.2.2.1) : gBeat H L S al st x = gBeat H L S al st y := by
  unfold gBeat
  rw [h1, h2, h3, h4]
theorem beat_over {x : gX} (h : 0 < gOver x.1) : gBeat H L S al st x = (x.1, x.2.1, x.2.2.1, x.2.2.2.1, -1) := if_pos h
theorem f1_over {z : gZ} (h : 0 < gOver z.1.1) : gF1 H L S p z = (z.1, z.2.1, z.2.2.1 + 1, z.2.2.2.1, z.2.2.2.2.1, z.2.2.2.2.2) := if_pos h
theorem f1_go {z : gZ} (h : ¬ 0 < gOver z.1.1) (hal : (if 0 ≤ p then p else 0) = al) (hst : (if 0 < z.2.1 then (1 : Int) else 0) = st) : gF1 H L S p z = (gBeat H L S al st z.1, if 0 < z.2.1 then z.2.1 - 1 else z.2.1, z.2.2.1 + 1, if (gBeat H L S al st z.1).2.2.2.2 ≠ -1 ∧ z.2.2.2.1 < 0 then z.2.2.1 else z.2.2.2.1, if (gBeat H L S al st z.1).2.2.2.2 ≠ -1 ∧ z.2.2.2.1 < 0 then (gBeat H L S al st z.1).2.2.2.2 else z.2.2.2.2.1, if (gBeat H L S al st z.1).1 297 = 1 then z.2.2.1 + 1 else z.2.2.2.2.2) := by
  subst hal hst
  exact if_neg h
theorem exq.step {x : gX} {z : gZ} (e : exq x z) (hal : (if 0 ≤ p then p else 0) = al) (hst : 0 < gOver z.1.1 ∨ (if 0 < z.2.1 then (1 : Int) else 0) = st) : exq (gBeat H L S al st x) (gF1 H L S p z) := by
  obtain ⟨e1, e2, e3, e4⟩ := e
  by_cases q1 : 0 < gOver z.1.1
  · rw [beat_over (by rw [e1]; exact q1), f1_over q1]
    exact ⟨e1, e2, e3, e4⟩
  · rw [f1_go q1 hal (hst.resolve_left q1), beat_cg e1 e2 e3 e4]
    exact ⟨rfl, rfl, rfl, rfl⟩
theorem f1_s {z : gZ} (h : z.2.1 = 0) : (gF1 H L S p z).2.1 = 0 := by
  by_cases q1 : 0 < gOver z.1.1
  · rw [f1_over q1]
    exact h
  · rw [f1_go q1 rfl rfl]
    dsimp only
    rw [h]
    rfl
theorem f1_b {z : gZ} : (gF1 H L S p z).2.2.1 = z.2.2.1 + 1 := by
  by_cases q1 : 0 < gOver z.1.1
  · rw [f1_over q1]
  · rw [f1_go q1 rfl rfl]
theorem f1_zb (hk : HOK H) (l2 : L ≤ 12) (s1 : ∀ k, k < 12 → 0 ≤ S k ∧ S k ≤ 3) {z : gZ} (hz : ZB H B p z) : ZB H (B + 1) p (gF1 H L S p z) := by
  obtain ⟨ri, z2, z3, z4, z5⟩ := hz
  by_cases q1 : 0 < gOver z.1.1
  · rw [f1_over q1]
    exact ⟨⟨ri.1.mo (by omega), ri.2⟩, z2, z3, ⟨by show 0 ≤ z.2.2.1 + 1; omega, by show z.2.2.1 + 1 ≤ B + 1; omega⟩, ⟨z5.1, by show z.2.2.2.1 ≤ B + 1; omega⟩⟩
  · rw [f1_go q1 rfl rfl]
    have bo := beat_ok (H := H) (L := L) (S := S) hk l2 s1 (al := if 0 ≤ p then p else 0) (st := if 0 < z.2.1 then 1 else 0) (o := z.1.2.2.1) (j := z.1.2.2.2.1) (tn := z.1.2.2.2.2) (g := z.1.2.1) (by split <;> omega) (by split <;> omega) ri
    refine ⟨bo.1, z2, ?_, ⟨by show 0 ≤ z.2.2.1 + 1; omega, by show z.2.2.1 + 1 ≤ B + 1; omega⟩, ?_⟩
    · show 0 ≤ (if 0 < z.2.1 then z.2.1 - 1 else z.2.1) ∧ (if 0 < z.2.1 then z.2.1 - 1 else z.2.1) ≤ 4
      split <;> omega
    · dsimp only
      split <;> omega
theorem fr_zb (hk : HOK H) (l2 : L ≤ 12) (s1 : ∀ k, k < 12 → 0 ≤ S k ∧ S k ≤ 3) : ∀ (n : Nat) (z : gZ) (B : Int), ZB H B p z → ZB H (B + n) p (gFr H L S p n z) := by
  intro n
  induction n with
  | zero =>
    intro z B hz
    rw [show B + ((0 : Nat) : Int) = B by omega]
    exact hz
  | succ n ih =>
    intro z B hz
    have := ih _ _ (f1_zb hk l2 s1 hz)
    rw [show B + 1 + (n : Int) = B + ((n + 1 : Nat) : Int) by omega] at this
    exact this
theorem fr_ta : ∀ (n : Nat) (z : gZ), 0 ≤ z.2.2.2.1 → (gFr H L S p n z).2.2.2.1 = z.2.2.2.1 ∧ (gFr H L S p n z).2.2.2.2.1 = z.2.2.2.2.1 := by
  intro n
  induction n with
  | zero =>
    intro z hz
    exact ⟨rfl, rfl⟩
  | succ n ih =>
    intro z hz
    have k : (gF1 H L S p z).2.2.2.1 = z.2.2.2.1 ∧ (gF1 H L S p z).2.2.2.2.1 = z.2.2.2.2.1 := by
      by_cases q1 : 0 < gOver z.1.1
      · rw [f1_over q1]
        exact ⟨rfl, rfl⟩
      · rw [f1_go q1 rfl rfl]
        dsimp only
        rw [if_neg (by omega), if_neg (by omega)]
        exact ⟨rfl, rfl⟩
    have := ih (gF1 H L S p z) (by omega)
    rw [k.1, k.2] at this
    exact this
theorem fr_over : ∀ (n : Nat) (z : gZ), 0 < gOver z.1.1 → (gFr H L S p n z).1 = z.1 ∧ (gFr H L S p n z).2.2.2.2.2 = z.2.2.2.2.2 := by
  intro n
  induction n with
  | zero =>
    intro z hz
    exact ⟨rfl, rfl⟩
  | succ n ih =>
    intro z hz
    have := ih (gF1 H L S p z) (by rw [f1_over hz]; exact hz)
    have e : gFr H L S p (n + 1) z = gFr H L S p n (gF1 H L S p z) := rfl
    rw [e]
    rw [f1_over hz] at this ⊢
    exact this
theorem gT_zb (b : fB H r S q g B) {t : Int} (t1 : 0 ≤ t) (t2 : t ≤ 40) : ZB H (B + t) (-1) (gT H S q g t) := by
  obtain ⟨b1, b2, b3, b4, b5, b6, b7⟩ := b
  have k6 := b1.2.1
  have := fr_zb (L := H 0 6) (S := S) (p := -1) b1 (by omega) (s_ok b2 b6) t.toNat (gZ0 q g) B (zb0 (b7.ri b3) b4.1 (Or.inl rfl))
  rw [show B + ((t.toNat : Nat) : Int) = B + t by omega] at this
  exact this
theorem MF.mq {a : Nat} {x : gX} (m : MF w a h H L S al x) : MQh w h H := ⟨m.1, m.2.1, m.2.2.1⟩
theorem mdan_loop (hk : HOK H) (l1 : 0 ≤ L) (l2 : L ≤ 12) (s1 : ∀ k, k < 12 → 0 ≤ S k ∧ S k ≤ 3) {t : Int} (t2 : t ≤ 100) : ∀ (n : Nat) (i : Int) (x : gX) (z : gZ) (w : jmW) (B : Int), MF w 242 h H L S 0 x → exq x z → z.2.1 = 0 → ZB H B (-1) z → B + n < 2147480000 → 0 ≤ i → i + n = t → ∃ x2 u, rn 235 (10, [(0, jvr 238), (1, .inl t), (2, .inl i)], [], w) = some (none, u) ∧ MF u 242 h H L S 0 x2 ∧ exq x2 (gFr H L S (-1) n z) ∧ Km 242 w u := by
  intro n
  induction n with
  | zero =>
    intro i x z w B m e hs hz hB i1 i2
    refine ⟨x, w, ?_, m, e, Km.rf _ _⟩
    have hm := m.1
    rw [p235_10]
    simp (disch := omega) only [p235_0, p235_1, p235_4, p235_5, p235_8, p235_9, p235_11, p235_12, p235_15, p235_16, p235_17, p235_20, p235_21, p235_24, p235_27, p235_30, jwd_c, jwd_0, Nat.reduceLeDiff, Nat.reduceEqDiff, Nat.reduceAdd, Nat.reduceSub, Nat.reduceMul, Int.reduceAdd, Int.reduceSub, Int.reduceMul, Int.reduceNeg, Int.reduceEq, Int.reduceLT, Int.reduceLE, jq_ldi_i, jq_ldl_l, jq_lda_a, jq_inc_i, jq_gs_t, jq_gsb_t, jq_gb_t, jq_gr_2, jq_gr_4, jq_gw_2, jq_s_t, jq_b_t, jg_c, jg_n, js_c, js_n, jrm_c, jrm_n, j2_i, j2_l, j2_a, jq_c_i, jq_c_l, jq_c_0, jq_c_n, jwd_le, jw_c0, mS_I, mS_R, mS_J, mN_I, mN_R, mN_J, mR_I, mI_R, mJ_I, mJ_R, mI_J, mR_J, ↓reduceIte, decide_true, or_true, true_or, and_self, false_or, or_false, reduceCtorEq, Bool.false_eq_true, and_false, false_and, eq_self, true_and, and_true, zero_ne, ↓br_lt_t, ↓br_lt_f, ↓br_eq_t, ↓br_eq_f, ↓br_lz_t, ↓br_lz_f, ↓br_ez_t, ↓br_ez_f, ↓br_gz_t, ↓br_gz_f, jw_id, jin_t, jix_t]
  | succ n ih =>
    intro i x z w B m e hs hz hB i1 i2
    have hm := m.1
    obtain ⟨w1, e1, m1, -, k1, -⟩ := mF_beat m (Or.inr rfl) hk (by omega) (by omega) l1 l2 s1 (by rw [e.1]; exact hz.1) (by omega) (st := 0) (Or.inl rfl)
    have ex1 : exq (gBeat H L S 0 0 x) (gF1 H L S (-1) z) := e.step rfl (Or.inr (by rw [hs]; rfl))
    obtain ⟨x2, u, e2, m2, ex2, k2⟩ := ih (i + 1) _ _ w1 (B + 1) m1 ex1 (f1_s hs) (f1_zb hk l2 s1 hz) (by omega) (by omega) (by omega)
    refine ⟨x2, u, ?_, m2, ex2, k1.tr k2⟩
    rw [← e2, p235_10]
    simp (disch := omega) only [p235_0, p235_1, p235_4, p235_5, p235_8, p235_9, p235_11, p235_12, p235_15, p235_16, p235_17, p235_20, p235_21, p235_24, p235_27, p235_30, jwd_c, jwd_0, Nat.reduceLeDiff, Nat.reduceEqDiff, Nat.reduceAdd, Nat.reduceSub, Nat.reduceMul, Int.reduceAdd, Int.reduceSub, Int.reduceMul, Int.reduceNeg, Int.reduceEq, Int.reduceLT, Int.reduceLE, jq_ldi_i, jq_ldl_l, jq_lda_a, jq_inc_i, jq_gs_t, jq_gsb_t, jq_gb_t, jq_gr_2, jq_gr_4, jq_gw_2, jq_s_t, jq_b_t, jg_c, jg_n, js_c, js_n, jrm_c, jrm_n, j2_i, j2_l, j2_a, jq_c_i, jq_c_l, jq_c_0, jq_c_n, jwd_le, jw_c0, mS_I, mS_R, mS_J, mN_I, mN_R, mN_J, mR_I, mI_R, mJ_I, mJ_R, mI_J, mR_J, ↓reduceIte, decide_true, or_true, true_or, and_self, false_or, or_false, reduceCtorEq, Bool.false_eq_true, and_false, false_and, eq_self, true_and, and_true, zero_ne, ↓br_lt_t, ↓br_lt_f, ↓br_eq_t, ↓br_eq_f, ↓br_lz_t, ↓br_lz_f, ↓br_ez_t, ↓br_ez_f, ↓br_gz_t, ↓br_gz_f, jw_id, jin_t, jix_t, MO.s0 hm, MO.s1 hm, MO.s2 hm, MO.s3 hm, MO.s4 hm, MO.s5 hm, MO.s6 hm, MO.s7 hm, MO.s8 hm, MO.s9 hm, MO.s10 hm, MO.s11 hm, MO.s12 hm, MO.s13 hm, MO.r1 hm, MO.r2 hm, MO.r3 hm, MO.r4 hm, MO.r5 hm, MO.r6 hm, MO.r7 hm, MO.r8 hm, MO.r9 hm, MO.r10 hm, MO.r11 hm, MO.r12 hm, MO.r13 hm, e1]
theorem mF_dances (hq : MQh w h H) (hv : mI w 241 = r) (b : fB H r S q g B) (hu : fU w H S q g) {t : Int} (t1 : 0 ≤ t) (t2 : t ≤ 40) : ∃ x u, rn 235 (0, [(0, jvr 238), (1, .inl t)], [], w) = some (none, u) ∧ MF u 242 h H (H 0 6) S 0 x ∧ exq x (gT H S q g t) ∧ Km 242 w u := by
  obtain ⟨b1, b2, b3, b4, b5, b6, b7⟩ := b
  obtain ⟨u1, u2, u3⟩ := hu
  have k6 := b1.2.1
  have hm := hq.1
  obtain ⟨w1, e1, e2, m1, k1⟩ := mF_start hq (-1)
  rw [← u1, ← u2, ← u3] at m1
  obtain ⟨x, u, e3, m3, ex3, k3⟩ := mdan_loop b1 (by omega) (by omega) (s_ok b2 b6) (t := t) (by omega) t.toNat 0 _ (gZ0 q g) w1 B m1 ⟨rfl, rfl, rfl, rfl⟩ rfl (zb0 (b7.ri b3) b4.1 (Or.inl rfl)) (by omega) (by omega) (by omega)
  refine ⟨x, u, ?_, m3, ex3, k1.tr k3⟩
  rw [← e3]
  have z1 := m1.1.s0
  rw [← u1] at e1 e2
  have z2 : mS (setA w 242 q) 238 = (1, 9, 0) := hm.s0
  simp (disch := omega) only [p235_0, p235_1, p235_4, p235_5, p235_8, p235_9, p235_11, p235_12, p235_15, p235_16, p235_17, p235_20, p235_21, p235_24, p235_27, p235_30, jwd_c, jwd_0, Nat.reduceLeDiff, Nat.reduceEqDiff, Nat.reduceAdd, Nat.reduceSub, Nat.reduceMul, Int.reduceAdd, Int.reduceSub, Int.reduceMul, Int.reduceNeg, Int.reduceEq, Int.reduceLT, Int.reduceLE, jq_ldi_i, jq_ldl_l, jq_lda_a, jq_inc_i, jq_gs_t, jq_gsb_t, jq_gb_t, jq_gr_2, jq_gr_4, jq_gw_2, jq_s_t, jq_b_t, jg_c, jg_n, js_c, js_n, jrm_c, jrm_n, j2_i, j2_l, j2_a, jq_c_i, jq_c_l, jq_c_0, jq_c_n, jwd_le, jw_c0, mS_I, mS_R, mS_J, mN_I, mN_R, mN_J, mR_I, mI_R, mJ_I, mJ_R, mI_J, mR_J, ↓reduceIte, decide_true, or_true, true_or, and_self, false_or, or_false, reduceCtorEq, Bool.false_eq_true, and_false, false_and, eq_self, true_and, and_true, zero_ne, ↓br_lt_t, ↓br_lt_f, ↓br_eq_t, ↓br_eq_f, ↓br_lz_t, ↓br_lz_f, ↓br_ez_t, ↓br_ez_f, ↓br_gz_t, ↓br_gz_f, jw_id, jin_t, jix_t, MO.s0 hm, MO.s1 hm, MO.s2 hm, MO.s3 hm, MO.s4 hm, MO.s5 hm, MO.s6 hm, MO.s7 hm, MO.s8 hm, MO.s9 hm, MO.s10 hm, MO.s11 hm, MO.s12 hm, MO.s13 hm, MO.r1 hm, MO.r2 hm, MO.r3 hm, MO.r4 hm, MO.r5 hm, MO.r6 hm, MO.r7 hm, MO.r8 hm, MO.r9 hm, MO.r10 hm, MO.r11 hm, MO.r12 hm, MO.r13 hm, e1, z2, e2]
theorem m_refIn (hm : MO w) (h3 : mR w 238 3 = some h) {t : Int} (x1 : -2147483648 ≤ t) (x2 : t < 2147483648) : rn 234 (0, [(0, jvr 238), (1, .inl t)], [], w) = some (some (.inl (if 0 ≤ t ∧ t ≤ 40 then 0 else 2)), w) := by
  have e := m_in (w := w) (x := t) (a := 0) (b := 40) x1 x2 (by omega) (by omega) (by omega) (by omega)
  by_cases q1 : 0 ≤ t ∧ t ≤ 40
  · rw [if_pos q1] at e ⊢
    simp (disch := omega) only [p234_0, p234_1, p234_4n, p234_4s, p234_7, p234_8, p234_11, p234_12, p234_13, p234_15, p234_18, p234_21, p234_22, p234_25, p234_26, jwd_c, jwd_0, Nat.reduceLeDiff, Nat.reduceEqDiff, Nat.reduceAdd, Nat.reduceSub, Nat.reduceMul, Int.reduceAdd, Int.reduceSub, Int.reduceMul, Int.reduceNeg, Int.reduceEq, Int.reduceLT, Int.reduceLE, jq_ldi_i, jq_ldl_l, jq_lda_a, jq_inc_i, jq_gs_t, jq_gsb_t, jq_gb_t, jq_gr_2, jq_gr_4, jq_gw_2, jq_s_t, jq_b_t, jg_c, jg_n, js_c, js_n, jrm_c, jrm_n, j2_i, j2_l, j2_a, jq_c_i, jq_c_l, jq_c_0, jq_c_n, jwd_le, jw_c0, mS_I, mS_R, mS_J, mN_I, mN_R, mN_J, mR_I, mI_R, mJ_I, mJ_R, mI_J, mR_J, ↓reduceIte, decide_true, or_true, true_or, and_self, false_or, or_false, reduceCtorEq, Bool.false_eq_true, and_false, false_and, eq_self, true_and, and_true, zero_ne, ↓br_lt_t, ↓br_lt_f, ↓br_eq_t, ↓br_eq_f, ↓br_lz_t, ↓br_lz_f, ↓br_ez_t, ↓br_ez_f, ↓br_gz_t, ↓br_gz_f, jw_id, jin_t, jix_t, MO.s0 hm, MO.s1 hm, MO.s2 hm, MO.s3 hm, MO.s4 hm, MO.s5 hm, MO.s6 hm, MO.s7 hm, MO.s8 hm, MO.s9 hm, MO.s10 hm, MO.s11 hm, MO.s12 hm, MO.s13 hm, MO.r1 hm, MO.r2 hm, MO.r3 hm, MO.r4 hm, MO.r5 hm, MO.r6 hm, MO.r7 hm, MO.r8 hm, MO.r9 hm, MO.r10 hm, MO.r11 hm, MO.r12 hm, MO.r13 hm, h3, e]
  · rw [if_neg q1] at e ⊢
    simp (disch := omega) only [p234_0, p234_1, p234_4n, p234_4s, p234_7, p234_8, p234_11, p234_12, p234_13, p234_15, p234_18, p234_21, p234_22, p234_25, p234_26, jwd_c, jwd_0, Nat.reduceLeDiff, Nat.reduceEqDiff, Nat.reduceAdd, Nat.reduceSub, Nat.reduceMul, Int.reduceAdd, Int.reduceSub, Int.reduceMul, Int.reduceNeg, Int.reduceEq, Int.reduceLT, Int.reduceLE, jq_ldi_i, jq_ldl_l, jq_lda_a, jq_inc_i, jq_gs_t, jq_gsb_t, jq_gb_t, jq_gr_2, jq_gr_4, jq_gw_2, jq_s_t, jq_b_t, jg_c, jg_n, js_c, js_n, jrm_c, jrm_n, j2_i, j2_l, j2_a, jq_c_i, jq_c_l, jq_c_0, jq_c_n, jwd_le, jw_c0, mS_I, mS_R, mS_J, mN_I, mN_R, mN_J, mR_I, mI_R, mJ_I, mJ_R, mI_J, mR_J, ↓reduceIte, decide_true, or_true, true_or, and_self, false_or, or_false, reduceCtorEq, Bool.false_eq_true, and_false, false_and, eq_self, true_and, and_true, zero_ne, ↓br_lt_t, ↓br_lt_f, ↓br_eq_t, ↓br_eq_f, ↓br_lz_t, ↓br_lz_f, ↓br_ez_t, ↓br_ez_f, ↓br_gz_t, ↓br_gz_f, jw_id, jin_t, jix_t, MO.s0 hm, MO.s1 hm, MO.s2 hm, MO.s3 hm, MO.s4 hm, MO.s5 hm, MO.s6 hm, MO.s7 hm, MO.s8 hm, MO.s9 hm, MO.s10 hm, MO.s11 hm, MO.s12 hm, MO.s13 hm, MO.r1 hm, MO.r2 hm, MO.r3 hm, MO.r4 hm, MO.r5 hm, MO.r6 hm, MO.r7 hm, MO.r8 hm, MO.r9 hm, MO.r10 hm, MO.r11 hm, MO.r12 hm, MO.r13 hm, h3, e]
theorem m_idx {a : Nat} (hs : mS w a = (2, 0, 298)) (hr : mI w a = r) (ra : RA H B r) (rb : RB r) {v : Int} (v1 : -2147483648 ≤ v) (v2 : v < 2147483648) : rn 258 (0, [(0, jvr a), (1, .inl v)], [], w) = some (some (.inl (gIx r v (r 289).toNat 0)), w) := by
  have h16 := ra.1
  have h17 := ra.2.1
  have lp : ∀ (n : Nat) (i : Int), 0 ≤ i → i + n = r 289 → rn 258 (2, [(0, jvr a), (1, .inl v), (2, .inl i)], [], w) = some (some (.inl (gIx r v n i)), w) := by
    intro n
    induction n with
    | zero =>
      intro i i1 i2
      have e : gIx r v 0 i = -1 := rfl
      rw [e, p258_2]
      simp (disch := omega) only [p258_0, p258_1, p258_3, p258_4, p258_7, p258_8, p258_11, p258_12, p258_15, p258_16, p258_17, p258_18, p258_19, p258_22, p258_23, p258_24, p258_27, p258_30, p258_31, jwd_c, jwd_0, Nat.reduceLeDiff, Nat.reduceEqDiff, Nat.reduceAdd, Nat.reduceSub, Nat.reduceMul, Int.reduceAdd, Int.reduceSub, Int.reduceMul, Int.reduceNeg, Int.reduceEq, Int.reduceLT, Int.reduceLE, jq_ldi_i, jq_ldl_l, jq_lda_a, jq_inc_i, jq_gs_t, jq_gsb_t, jq_gb_t, jq_gr_2, jq_gr_4, jq_gw_2, jq_s_t, jq_b_t, jg_c, jg_n, js_c, js_n, jrm_c, jrm_n, j2_i, j2_l, j2_a, jq_c_i, jq_c_l, jq_c_0, jq_c_n, jwd_le, jw_c0, mS_I, mS_R, mS_J, mN_I, mN_R, mN_J, mR_I, mI_R, mJ_I, mJ_R, mI_J, mR_J, ↓reduceIte, decide_true, or_true, true_or, and_self, false_or, or_false, reduceCtorEq, Bool.false_eq_true, and_false, false_and, eq_self, true_and, and_true, zero_ne, ↓br_lt_t, ↓br_lt_f, ↓br_eq_t, ↓br_eq_f, ↓br_lz_t, ↓br_lz_f, ↓br_ez_t, ↓br_ez_f, ↓br_gz_t, ↓br_gz_f, jw_id, jin_t, jix_t, hs, hr, Int.reduceToNat]
    | succ n ih =>
      intro i i1 i2
      have e : gIx r v (n + 1) i = if r (204 + i).toNat = v then i else gIx r v n (i + 1) := rfl
      have b := (rb i i1 (by omega)).1
      rw [e, p258_2]
      by_cases q : r (204 + i).toNat = v
      · rw [if_pos q]
        simp (disch := omega) only [p258_0, p258_1, p258_3, p258_4, p258_7, p258_8, p258_11, p258_12, p258_15, p258_16, p258_17, p258_18, p258_19, p258_22, p258_23, p258_24, p258_27, p258_30, p258_31, jwd_c, jwd_0, Nat.reduceLeDiff, Nat.reduceEqDiff, Nat.reduceAdd, Nat.reduceSub, Nat.reduceMul, Int.reduceAdd, Int.reduceSub, Int.reduceMul, Int.reduceNeg, Int.reduceEq, Int.reduceLT, Int.reduceLE, jq_ldi_i, jq_ldl_l, jq_lda_a, jq_inc_i, jq_gs_t, jq_gsb_t, jq_gb_t, jq_gr_2, jq_gr_4, jq_gw_2, jq_s_t, jq_b_t, jg_c, jg_n, js_c, js_n, jrm_c, jrm_n, j2_i, j2_l, j2_a, jq_c_i, jq_c_l, jq_c_0, jq_c_n, jwd_le, jw_c0, mS_I, mS_R, mS_J, mN_I, mN_R, mN_J, mR_I, mI_R, mJ_I, mJ_R, mI_J, mR_J, ↓reduceIte, decide_true, or_true, true_or, and_self, false_or, or_false, reduceCtorEq, Bool.false_eq_true, and_false, false_and, eq_self, true_and, and_true, zero_ne, ↓br_lt_t, ↓br_lt_f, ↓br_eq_t, ↓br_eq_f, ↓br_lz_t, ↓br_lz_f, ↓br_ez_t, ↓br_ez_f, ↓br_gz_t, ↓br_gz_f, jw_id, jin_t, jix_t, hs, hr, Int.reduceToNat]
      · rw [if_neg q, ← ih (i + 1) (by omega) (by omega)]
        simp (disch := omega) only [p258_0, p258_1, p258_3, p258_4, p258_7, p258_8, p258_11, p258_12, p258_15, p258_16, p258_17, p258_18, p258_19, p258_22, p258_23, p258_24, p258_27, p258_30, p258_31, jwd_c, jwd_0, Nat.reduceLeDiff, Nat.reduceEqDiff, Nat.reduceAdd, Nat.reduceSub, Nat.reduceMul, Int.reduceAdd, Int.reduceSub, Int.reduceMul, Int.reduceNeg, Int.reduceEq, Int.reduceLT, Int.reduceLE, jq_ldi_i, jq_ldl_l, jq_lda_a, jq_inc_i, jq_gs_t, jq_gsb_t, jq_gb_t, jq_gr_2, jq_gr_4, jq_gw_2, jq_s_t, jq_b_t, jg_c, jg_n, js_c, js_n, jrm_c, jrm_n, j2_i, j2_l, j2_a, jq_c_i, jq_c_l, jq_c_0, jq_c_n, jwd_le, jw_c0, mS_I, mS_R, mS_J, mN_I, mN_R, mN_J, mR_I, mI_R, mJ_I, mJ_R, mI_J, mR_J, ↓reduceIte, decide_true, or_true, true_or, and_self, false_or, or_false, reduceCtorEq, Bool.false_eq_true, and_false, false_and, eq_self, true_and, and_true, zero_ne, ↓br_lt_t, ↓br_lt_f, ↓br_eq_t, ↓br_eq_f, ↓br_lz_t, ↓br_lz_f, ↓br_ez_t, ↓br_ez_f, ↓br_gz_t, ↓br_gz_f, jw_id, jin_t, jix_t, hs, hr, Int.reduceToNat]
  rw [← lp (r 289).toNat 0 (by omega) (by omega)]
  simp (disch := omega) only [p258_0, p258_1, p258_3, p258_4, p258_7, p258_8, p258_11, p258_12, p258_15, p258_16, p258_17, p258_18, p258_19, p258_22, p258_23, p258_24, p258_27, p258_30, p258_31, jwd_c, jwd_0, Nat.reduceLeDiff, Nat.reduceEqDiff, Nat.reduceAdd, Nat.reduceSub, Nat.reduceMul, Int.reduceAdd, Int.reduceSub, Int.reduceMul, Int.reduceNeg, Int.reduceEq, Int.reduceLT, Int.reduceLE, jq_ldi_i, jq_ldl_l, jq_lda_a, jq_inc_i, jq_gs_t, jq_gsb_t, jq_gb_t, jq_gr_2, jq_gr_4, jq_gw_2, jq_s_t, jq_b_t, jg_c, jg_n, js_c, js_n, jrm_c, jrm_n, j2_i, j2_l, j2_a, jq_c_i, jq_c_l, jq_c_0, jq_c_n, jwd_le, jw_c0, mS_I, mS_R, mS_J, mN_I, mN_R, mN_J, mR_I, mI_R, mJ_I, mJ_R, mI_J, mR_J, ↓reduceIte, decide_true, or_true, true_or, and_self, false_or, or_false, reduceCtorEq, Bool.false_eq_true, and_false, false_and, eq_self, true_and, and_true, zero_ne]
theorem d_manyIn (hq : MQh w h H) (hv : mI w 241 = r) (b : fB H r S q g B) (hu : fU w H S q g) {t : Int} (x1 : -2147483648 ≤ t) (x2 : t < 2147483648) : ∃ u, rn 233 (0, [(0, jvr 238), (1, .inl t)], [], w) = some (some (.inl (A13 (gT H S q g t) t).1), u) ∧ qM w u (A13 (gT H S q g t) t).2 := by
  have hs0 := hq.1.s0
  have hq0 : MQh (setI w 238 0 0) h H := hq.z
  have hv0 : mI (setI w 238 0 0) 241 = r := (mI_nb (by omega)).trans hv
  have e00 : rn 233 (0, [(0, jvr 238), (1, .inl t)], [], w) = rn 233 (5, [(0, jvr 238), (1, .inl t)], [], setI w 238 0 0) := by
    simp only [p233_0, p233_1, p233_2, jwd_c, jwd_0, Nat.reduceLeDiff, Nat.reduceEqDiff, Nat.reduceAdd, Nat.reduceSub, Nat.reduceMul, Int.reduceAdd, Int.reduceSub, Int.reduceMul, Int.reduceNeg, Int.reduceEq, Int.reduceLT, Int.reduceLE, jq_ldi_i, jq_ldl_l, jq_lda_a, jq_inc_i, jq_gs_t, jq_gsb_t, jq_gb_t, jq_gr_2, jq_gr_4, jq_gw_2, jq_s_t, jq_b_t, jg_c, jg_n, js_c, js_n, jrm_c, jrm_n, j2_i, j2_l, j2_a, jq_c_i, jq_c_l, jq_c_0, jq_c_n, jwd_le, jw_c0, mS_I, mS_R, mS_J, mN_I, mN_R, mN_J, mR_I, mI_R, mJ_I, mJ_R, mI_J, mR_J, ↓reduceIte, decide_true, or_true, true_or, and_self, false_or, or_false, reduceCtorEq, Bool.false_eq_true, and_false, false_and, eq_self, true_and, and_true, zero_ne, hs0]
  rw [e00]
  clear e00
  generalize hw0 : setI w 238 0 0 = w0 at *
  have hq1 := hq0
  obtain ⟨hm, hh, h3⟩ := hq0
  have hge := hh.ge
  have er := m_refIn hm h3 x1 x2
  unfold A13
  by_cases ht : 0 ≤ t ∧ t ≤ 40
  · obtain ⟨x, u, e, ⟨m1, m2, m3, m4, m5, m6, m7, m8, m9, m10⟩, ex, km⟩ := mF_dances hq1 hv0 b (hu.z hw0) ht.1 ht.2
    obtain ⟨ex1, ex2, ex3, ex4⟩ := ex
    obtain ⟨⟨ra, rb, rw0, rp, r203⟩, zp, zs, zb, zt⟩ := gT_zb b ht.1 ht.2
    generalize gT H S q g t = z at *
    rw [ex1] at m4
    rw [ex2] at m5
    rw [ex4] at m7
    have h16 := ra.1
    rw [if_pos ht] at er ⊢
    refine ⟨_, ?_, qM.fut hw0 km⟩
    simp (disch := omega) only [p233_0, p233_1, p233_2, p233_5, p233_6, p233_7, p233_10, p233_11, p233_12, p233_15, p233_16, p233_17, p233_20, p233_21, p233_22, p233_23, p233_26, p233_27, p233_28, p233_31, p233_34, p233_35, p233_38, p213_0, p213_1, p213_2, p213_5, p213_6, p213_7, p213_10, p213_11, p176_0, p176_1, p176_2, p176_5, p176_6, p176_7, p176_10, p176_11, jwd_c, jwd_0, Nat.reduceLeDiff, Nat.reduceEqDiff, Nat.reduceAdd, Nat.reduceSub, Nat.reduceMul, Int.reduceAdd, Int.reduceSub, Int.reduceMul, Int.reduceNeg, Int.reduceEq, Int.reduceLT, Int.reduceLE, jq_ldi_i, jq_ldl_l, jq_lda_a, jq_inc_i, jq_gs_t, jq_gsb_t, jq_gb_t, jq_gr_2, jq_gr_4, jq_gw_2, jq_s_t, jq_b_t, jg_c, jg_n, js_c, js_n, jrm_c, jrm_n, j2_i, j2_l, j2_a, jq_c_i, jq_c_l, jq_c_0, jq_c_n, jwd_le, jw_c0, mS_I, mS_R, mS_J, mN_I, mN_R, mN_J, mR_I, mI_R, mJ_I, mJ_R, mI_J, mR_J, ↓reduceIte, decide_true, or_true, true_or, and_self, false_or, or_false, reduceCtorEq, Bool.false_eq_true, and_false, false_and, eq_self, true_and, and_true, zero_ne, ↓br_lt_t, ↓br_lt_f, ↓br_eq_t, ↓br_eq_f, ↓br_lz_t, ↓br_lz_f, ↓br_ez_t, ↓br_ez_f, ↓br_gz_t, ↓br_gz_f, jw_id, jin_t, jix_t, MO.s0 hm, MO.s1 hm, MO.s2 hm, MO.s3 hm, MO.s4 hm, MO.s5 hm, MO.s6 hm, MO.s7 hm, MO.s8 hm, MO.s9 hm, MO.s10 hm, MO.s11 hm, MO.s12 hm, MO.s13 hm, MO.r1 hm, MO.r2 hm, MO.r3 hm, MO.r4 hm, MO.r5 hm, MO.r6 hm, MO.r7 hm, MO.r8 hm, MO.r9 hm, MO.r10 hm, MO.r11 hm, MO.r12 hm, MO.r13 hm, er, e, MO.s0 m1, MO.r4 m1, MO.s4 m1, m4, Int.reduceToNat]
  · rw [if_neg ht] at er ⊢
    refine ⟨_, ?_, qM.triv hw0⟩
    simp (disch := omega) only [p233_0, p233_1, p233_2, p233_5, p233_6, p233_7, p233_10, p233_11, p233_12, p233_15, p233_16, p233_17, p233_20, p233_21, p233_22, p233_23, p233_26, p233_27, p233_28, p233_31, p233_34, p233_35, p233_38, p213_0, p213_1, p213_2, p213_5, p213_6, p213_7, p213_10, p213_11, p176_0, p176_1, p176_2, p176_5, p176_6, p176_7, p176_10, p176_11, jwd_c, jwd_0, Nat.reduceLeDiff, Nat.reduceEqDiff, Nat.reduceAdd, Nat.reduceSub, Nat.reduceMul, Int.reduceAdd, Int.reduceSub, Int.reduceMul, Int.reduceNeg, Int.reduceEq, Int.reduceLT, Int.reduceLE, jq_ldi_i, jq_ldl_l, jq_lda_a, jq_inc_i, jq_gs_t, jq_gsb_t, jq_gb_t, jq_gr_2, jq_gr_4, jq_gw_2, jq_s_t, jq_b_t, jg_c, jg_n, js_c, js_n, jrm_c, jrm_n, j2_i, j2_l, j2_a, jq_c_i, jq_c_l, jq_c_0, jq_c_n, jwd_le, jw_c0, mS_I, mS_R, mS_J, mN_I, mN_R, mN_J, mR_I, mI_R, mJ_I, mJ_R, mI_J, mR_J, ↓reduceIte, decide_true, or_true, true_or, and_self, false_or, or_false, reduceCtorEq, Bool.false_eq_true, and_false, false_and, eq_self, true_and, and_true, zero_ne, ↓br_lt_t, ↓br_lt_f, ↓br_eq_t, ↓br_eq_f, ↓br_lz_t, ↓br_lz_f, ↓br_ez_t, ↓br_ez_f, ↓br_gz_t, ↓br_gz_f, jw_id, jin_t, jix_t, MO.s0 hm, MO.s1 hm, MO.s2 hm, MO.s3 hm, MO.s4 hm, MO.s5 hm, MO.s6 hm, MO.s7 hm, MO.s8 hm, MO.s9 hm, MO.s10 hm, MO.s11 hm, MO.s12 hm, MO.s13 hm, MO.r1 hm, MO.r2 hm, MO.r3 hm, MO.r4 hm, MO.r5 hm, MO.r6 hm, MO.r7 hm, MO.r8 hm, MO.r9 hm, MO.r10 hm, MO.r11 hm, MO.r12 hm, MO.r13 hm, er]
theorem d_joined (hq : MQh w h H) (hv : mI w 241 = r) (b : fB H r S q g B) (hu : fU w H S q g) {t : Int} (x1 : -2147483648 ≤ t) (x2 : t < 2147483648) : ∃ u, rn 265 (0, [(0, jvr 238), (1, .inl t)], [], w) = some (some (.inl (A20 (gT H S q g t) t).1), u) ∧ qM w u (A20 (gT H S q g t) t).2 := by
  have hs0 := hq.1.s0
  have hq0 : MQh (setI w 238 0 0) h H := hq.z
  have hv0 : mI (setI w 238 0 0) 241 = r := (mI_nb (by omega)).trans hv
  have e00 : rn 265 (0, [(0, jvr 238), (1, .inl t)], [], w) = rn 265 (5, [(0, jvr 238), (1, .inl t)], [], setI w 238 0 0) := by
    simp only [p265_0, p265_1, p265_2, jwd_c, jwd_0, Nat.reduceLeDiff, Nat.reduceEqDiff, Nat.reduceAdd, Nat.reduceSub, Nat.reduceMul, Int.reduceAdd, Int.reduceSub, Int.reduceMul, Int.reduceNeg, Int.reduceEq, Int.reduceLT, Int.reduceLE, jq_ldi_i, jq_ldl_l, jq_lda_a, jq_inc_i, jq_gs_t, jq_gsb_t, jq_gb_t, jq_gr_2, jq_gr_4, jq_gw_2, jq_s_t, jq_b_t, jg_c, jg_n, js_c, js_n, jrm_c, jrm_n, j2_i, j2_l, j2_a, jq_c_i, jq_c_l, jq_c_0, jq_c_n, jwd_le, jw_c0, mS_I, mS_R, mS_J, mN_I, mN_R, mN_J, mR_I, mI_R, mJ_I, mJ_R, mI_J, mR_J, ↓reduceIte, decide_true, or_true, true_or, and_self, false_or, or_false, reduceCtorEq, Bool.false_eq_true, and_false, false_and, eq_self, true_and, and_true, zero_ne, hs0]
  rw [e00]
  clear e00
  generalize hw0 : setI w 238 0 0 = w0 at *
  have hq1 := hq0
  obtain ⟨hm, hh, h3⟩ := hq0
  have hge := hh.ge
  have er := m_refIn hm h3 x1 x2
  unfold A20
  by_cases ht : 0 ≤ t ∧ t ≤ 40
  · obtain ⟨x, u, e, ⟨m1, m2, m3, m4, m5, m6, m7, m8, m9, m10⟩, ex, km⟩ := mF_dances hq1 hv0 b (hu.z hw0) ht.1 ht.2
    obtain ⟨ex1, ex2, ex3, ex4⟩ := ex
    obtain ⟨⟨ra, rb, rw0, rp, r203⟩, zp, zs, zb, zt⟩ := gT_zb b ht.1 ht.2
    generalize gT H S q g t = z at *
    rw [ex1] at m4
    rw [ex2] at m5
    rw [ex4] at m7
    have h16 := ra.1
    rw [if_pos ht] at er ⊢
    refine ⟨_, ?_, qM.fut hw0 km⟩
    simp (disch := omega) only [p265_0, p265_1, p265_2, p265_5, p265_6, p265_7, p265_10, p265_11, p265_12, p265_15, p265_16, p265_17, p265_20, p265_21, p265_22, p265_23, p265_26, p265_27, p265_28, p265_31, p265_34, p213_0, p213_1, p213_2, p213_5, p213_6, p213_7, p213_10, p213_11, p176_0, p176_1, p176_2, p176_5, p176_6, p176_7, p176_10, p176_11, jwd_c, jwd_0, Nat.reduceLeDiff, Nat.reduceEqDiff, Nat.reduceAdd, Nat.reduceSub, Nat.reduceMul, Int.reduceAdd, Int.reduceSub, Int.reduceMul, Int.reduceNeg, Int.reduceEq, Int.reduceLT, Int.reduceLE, jq_ldi_i, jq_ldl_l, jq_lda_a, jq_inc_i, jq_gs_t, jq_gsb_t, jq_gb_t, jq_gr_2, jq_gr_4, jq_gw_2, jq_s_t, jq_b_t, jg_c, jg_n, js_c, js_n, jrm_c, jrm_n, j2_i, j2_l, j2_a, jq_c_i, jq_c_l, jq_c_0, jq_c_n, jwd_le, jw_c0, mS_I, mS_R, mS_J, mN_I, mN_R, mN_J, mR_I, mI_R, mJ_I, mJ_R, mI_J, mR_J, ↓reduceIte, decide_true, or_true, true_or, and_self, false_or, or_false, reduceCtorEq, Bool.false_eq_true, and_false, false_and, eq_self, true_and, and_true, zero_ne, ↓br_lt_t, ↓br_lt_f, ↓br_eq_t, ↓br_eq_f, ↓br_lz_t, ↓br_lz_f, ↓br_ez_t, ↓br_ez_f, ↓br_gz_t, ↓br_gz_f, jw_id, jin_t, jix_t, MO.s0 hm, MO.s1 hm, MO.s2 hm, MO.s3 hm, MO.s4 hm, MO.s5 hm, MO.s6 hm, MO.s7 hm, MO.s8 hm, MO.s9 hm, MO.s10 hm, MO.s11 hm, MO.s12 hm, MO.s13 hm, MO.r1 hm, MO.r2 hm, MO.r3 hm, MO.r4 hm, MO.r5 hm, MO.r6 hm, MO.r7 hm, MO.r8 hm, MO.r9 hm, MO.r10 hm, MO.r11 hm, MO.r12 hm, MO.r13 hm, er, e, MO.s0 m1, m7]
  · rw [if_neg ht] at er ⊢
    refine ⟨_, ?_, qM.triv hw0⟩
    simp (disch := omega) only [p265_0, p265_1, p265_2, p265_5, p265_6, p265_7, p265_10, p265_11, p265_12, p265_15, p265_16, p265_17, p265_20, p265_21, p265_22, p265_23, p265_26, p265_27, p265_28, p265_31, p265_34, p213_0, p213_1, p213_2, p213_5, p213_6, p213_7, p213_10, p213_11, p176_0, p176_1, p176_2, p176_5, p176_6, p176_7, p176_10, p176_11, jwd_c, jwd_0, Nat.reduceLeDiff, Nat.reduceEqDiff, Nat.reduceAdd, Nat.reduceSub, Nat.reduceMul, Int.reduceAdd, Int.reduceSub, Int.reduceMul, Int.reduceNeg, Int.reduceEq, Int.reduceLT, Int.reduceLE, jq_ldi_i, jq_ldl_l, jq_lda_a, jq_inc_i, jq_gs_t, jq_gsb_t, jq_gb_t, jq_gr_2, jq_gr_4, jq_gw_2, jq_s_t, jq_b_t, jg_c, jg_n, js_c, js_n, jrm_c, jrm_n, j2_i, j2_l, j2_a, jq_c_i, jq_c_l, jq_c_0, jq_c_n, jwd_le, jw_c0, mS_I, mS_R, mS_J, mN_I, mN_R, mN_J, mR_I, mI_R, mJ_I, mJ_R, mI_J, mR_J, ↓reduceIte, decide_true, or_true, true_or, and_self, false_or, or_false, reduceCtorEq, Bool.false_eq_true, and_false, false_and, eq_self, true_and, and_true, zero_ne, ↓br_lt_t, ↓br_lt_f, ↓br_eq_t, ↓br_eq_f, ↓br_lz_t, ↓br_lz_f, ↓br_ez_t, ↓br_ez_f, ↓br_gz_t, ↓br_gz_f, jw_id, jin_t, jix_t, MO.s0 hm, MO.s1 hm, MO.s2 hm, MO.s3 hm, MO.s4 hm, MO.s5 hm, MO.s6 hm, MO.s7 hm, MO.s8 hm, MO.s9 hm, MO.s10 hm, MO.s11 hm, MO.s12 hm, MO.s13 hm, MO.r1 hm, MO.r2 hm, MO.r3 hm, MO.r4 hm, MO.r5 hm, MO.r6 hm, MO.r7 hm, MO.r8 hm, MO.r9 hm, MO.r10 hm, MO.r11 hm, MO.r12 hm, MO.r13 hm, er]
theorem d_at (hq : MQh w h H) (hv : mI w 241 = r) (b : fB H r S q g B) (hu : fU w H S q g) {d t : Int} (d1 : -2147483648 ≤ d) (d2 : d < 2147483648) (x1 : -2147483648 ≤ t) (x2 : t < 2147483648) : ∃ u, rn 257 (0, [(0, jvr 238), (1, .inl d), (2, .inl t)], [], w) = some (some (.inl (A14 (gT H S q g t) d t).1), u) ∧ qM w u (A14 (gT H S q g t) d t).2 := by
  have hs0 := hq.1.s0
  have hq0 : MQh (setI w 238 0 0) h H := hq.z
  have hv0 : mI (setI w 238 0 0) 241 = r := (mI_nb (by omega)).trans hv
  have e00 : rn 257 (0, [(0, jvr 238), (1, .inl d), (2, .inl t)], [], w) = rn 257 (5, [(0, jvr 238), (1, .inl d), (2, .inl t)], [], setI w 238 0 0) := by
    simp only [p257_0, p257_1, p257_2, jwd_c, jwd_0, Nat.reduceLeDiff, Nat.reduceEqDiff, Nat.reduceAdd, Nat.reduceSub, Nat.reduceMul, Int.reduceAdd, Int.reduceSub, Int.reduceMul, Int.reduceNeg, Int.reduceEq, Int.reduceLT, Int.reduceLE, jq_ldi_i, jq_ldl_l, jq_lda_a, jq_inc_i, jq_gs_t, jq_gsb_t, jq_gb_t, jq_gr_2, jq_gr_4, jq_gw_2, jq_s_t, jq_b_t, jg_c, jg_n, js_c, js_n, jrm_c, jrm_n, j2_i, j2_l, j2_a, jq_c_i, jq_c_l, jq_c_0, jq_c_n, jwd_le, jw_c0, mS_I, mS_R, mS_J, mN_I, mN_R, mN_J, mR_I, mI_R, mJ_I, mJ_R, mI_J, mR_J, ↓reduceIte, decide_true, or_true, true_or, and_self, false_or, or_false, reduceCtorEq, Bool.false_eq_true, and_false, false_and, eq_self, true_and, and_true, zero_ne, hs0]
  rw [e00]
  clear e00
  generalize hw0 : setI w 238 0 0 = w0 at *
  have hq1 := hq0
  obtain ⟨hm, hh, h3⟩ := hq0
  have hge := hh.ge
  have er := m_refIn hm h3 x1 x2
  unfold A14
  by_cases hd : d < 0
  · rw [if_pos hd]
    refine ⟨_, ?_, qM.triv hw0⟩
    simp (disch := omega) only [p257_0, p257_1, p257_2, p257_5, p257_6, p257_9, p257_10, p257_13, p257_14, p257_15, p257_18, p257_19, p257_20, p257_23, p257_24, p257_25, p257_28, p257_29, p257_30, p257_31, p257_34, p257_35, p257_38, p257_39, p257_42, p257_44, p257_45, p257_47, p257_48, p257_51, p257_53, p257_56, p257_57, p257_60, p257_62, p257_65, p257_68, p213_0, p213_1, p213_2, p213_5, p213_6, p213_7, p213_10, p213_11, p176_0, p176_1, p176_2, p176_5, p176_6, p176_7, p176_10, p176_11, jwd_c, jwd_0, Nat.reduceLeDiff, Nat.reduceEqDiff, Nat.reduceAdd, Nat.reduceSub, Nat.reduceMul, Int.reduceAdd, Int.reduceSub, Int.reduceMul, Int.reduceNeg, Int.reduceEq, Int.reduceLT, Int.reduceLE, jq_ldi_i, jq_ldl_l, jq_lda_a, jq_inc_i, jq_gs_t, jq_gsb_t, jq_gb_t, jq_gr_2, jq_gr_4, jq_gw_2, jq_s_t, jq_b_t, jg_c, jg_n, js_c, js_n, jrm_c, jrm_n, j2_i, j2_l, j2_a, jq_c_i, jq_c_l, jq_c_0, jq_c_n, jwd_le, jw_c0, mS_I, mS_R, mS_J, mN_I, mN_R, mN_J, mR_I, mI_R, mJ_I, mJ_R, mI_J, mR_J, ↓reduceIte, decide_true, or_true, true_or, and_self, false_or, or_false, reduceCtorEq, Bool.false_eq_true, and_false, false_and, eq_self, true_and, and_true, zero_ne, ↓br_lt_t, ↓br_lt_f, ↓br_eq_t, ↓br_eq_f, ↓br_lz_t, ↓br_lz_f, ↓br_ez_t, ↓br_ez_f, ↓br_gz_t, ↓br_gz_f, jw_id, jin_t, jix_t, MO.s0 hm, MO.s1 hm, MO.s2 hm, MO.s3 hm, MO.s4 hm, MO.s5 hm, MO.s6 hm, MO.s7 hm, MO.s8 hm, MO.s9 hm, MO.s10 hm, MO.s11 hm, MO.s12 hm, MO.s13 hm, MO.r1 hm, MO.r2 hm, MO.r3 hm, MO.r4 hm, MO.r5 hm, MO.r6 hm, MO.r7 hm, MO.r8 hm, MO.r9 hm, MO.r10 hm, MO.r11 hm, MO.r12 hm, MO.r13 hm]
  rw [if_neg hd]
  by_cases ht : 0 ≤ t ∧ t ≤ 40
  · obtain ⟨x, u, e, ⟨m1, m2, m3, m4, m5, m6, m7, m8, m9, m10⟩, ex, km⟩ := mF_dances hq1 hv0 b (hu.z hw0) ht.1 ht.2
    obtain ⟨ex1, ex2, ex3, ex4⟩ := ex
    obtain ⟨⟨ra, rb, rw0, rp, r203⟩, zp, zs, zb, zt⟩ := gT_zb b ht.1 ht.2
    generalize gT H S q g t = z at *
    rw [ex1] at m4
    rw [ex2] at m5
    rw [ex4] at m7
    have h16 := ra.1
    rw [if_pos ht] at er ⊢
    have e1 := m_idx (MO.s4 m1) m4 ra rb d1 d2
    have ib := gIx_bd (r := z.1.1) (v := d) (z.1.1 289).toNat 0
    generalize gIx z.1.1 d (z.1.1 289).toNat 0 = i at *
    by_cases q1 : i < 0
    · have q2 : i = -1 := by omega
      rw [if_pos q1]
      refine ⟨_, ?_, qM.fut hw0 km⟩
      simp (disch := omega) only [p257_0, p257_1, p257_2, p257_5, p257_6, p257_9, p257_10, p257_13, p257_14, p257_15, p257_18, p257_19, p257_20, p257_23, p257_24, p257_25, p257_28, p257_29, p257_30, p257_31, p257_34, p257_35, p257_38, p257_39, p257_42, p257_44, p257_45, p257_47, p257_48, p257_51, p257_53, p257_56, p257_57, p257_60, p257_62, p257_65, p257_68, p213_0, p213_1, p213_2, p213_5, p213_6, p213_7, p213_10, p213_11, p176_0, p176_1, p176_2, p176_5, p176_6, p176_7, p176_10, p176_11, jwd_c, jwd_0, Nat.reduceLeDiff, Nat.reduceEqDiff, Nat.reduceAdd, Nat.reduceSub, Nat.reduceMul, Int.reduceAdd, Int.reduceSub, Int.reduceMul, Int.reduceNeg, Int.reduceEq, Int.reduceLT, Int.reduceLE, jq_ldi_i, jq_ldl_l, jq_lda_a, jq_inc_i, jq_gs_t, jq_gsb_t, jq_gb_t, jq_gr_2, jq_gr_4, jq_gw_2, jq_s_t, jq_b_t, jg_c, jg_n, js_c, js_n, jrm_c, jrm_n, j2_i, j2_l, j2_a, jq_c_i, jq_c_l, jq_c_0, jq_c_n, jwd_le, jw_c0, mS_I, mS_R, mS_J, mN_I, mN_R, mN_J, mR_I, mI_R, mJ_I, mJ_R, mI_J, mR_J, ↓reduceIte, decide_true, or_true, true_or, and_self, false_or, or_false, reduceCtorEq, Bool.false_eq_true, and_false, false_and, eq_self, true_and, and_true, zero_ne, ↓br_lt_t, ↓br_lt_f, ↓br_eq_t, ↓br_eq_f, ↓br_lz_t, ↓br_lz_f, ↓br_ez_t, ↓br_ez_f, ↓br_gz_t, ↓br_gz_f, jw_id, jin_t, jix_t, MO.s0 hm, MO.s1 hm, MO.s2 hm, MO.s3 hm, MO.s4 hm, MO.s5 hm, MO.s6 hm, MO.s7 hm, MO.s8 hm, MO.s9 hm, MO.s10 hm, MO.s11 hm, MO.s12 hm, MO.s13 hm, MO.r1 hm, MO.r2 hm, MO.r3 hm, MO.r4 hm, MO.r5 hm, MO.r6 hm, MO.r7 hm, MO.r8 hm, MO.r9 hm, MO.r10 hm, MO.r11 hm, MO.r12 hm, MO.r13 hm, er, e, MO.s0 m1, MO.r4 m1, e1]
    · rw [if_neg q1]
      have bb := (rb i (by omega) (by omega)).2.1
      have e2 := m_cell (w := u) (a := 242) (i := i) (MO.s4 m1) m4 (by omega) (by omega) (by omega) (by omega)
      refine ⟨_, ?_, qM.fut hw0 km⟩
      simp (disch := omega) only [p257_0, p257_1, p257_2, p257_5, p257_6, p257_9, p257_10, p257_13, p257_14, p257_15, p257_18, p257_19, p257_20, p257_23, p257_24, p257_25, p257_28, p257_29, p257_30, p257_31, p257_34, p257_35, p257_38, p257_39, p257_42, p257_44, p257_45, p257_47, p257_48, p257_51, p257_53, p257_56, p257_57, p257_60, p257_62, p257_65, p257_68, p213_0, p213_1, p213_2, p213_5, p213_6, p213_7, p213_10, p213_11, p176_0, p176_1, p176_2, p176_5, p176_6, p176_7, p176_10, p176_11, jwd_c, jwd_0, Nat.reduceLeDiff, Nat.reduceEqDiff, Nat.reduceAdd, Nat.reduceSub, Nat.reduceMul, Int.reduceAdd, Int.reduceSub, Int.reduceMul, Int.reduceNeg, Int.reduceEq, Int.reduceLT, Int.reduceLE, jq_ldi_i, jq_ldl_l, jq_lda_a, jq_inc_i, jq_gs_t, jq_gsb_t, jq_gb_t, jq_gr_2, jq_gr_4, jq_gw_2, jq_s_t, jq_b_t, jg_c, jg_n, js_c, js_n, jrm_c, jrm_n, j2_i, j2_l, j2_a, jq_c_i, jq_c_l, jq_c_0, jq_c_n, jwd_le, jw_c0, mS_I, mS_R, mS_J, mN_I, mN_R, mN_J, mR_I, mI_R, mJ_I, mJ_R, mI_J, mR_J, ↓reduceIte, decide_true, or_true, true_or, and_self, false_or, or_false, reduceCtorEq, Bool.false_eq_true, and_false, false_and, eq_self, true_and, and_true, zero_ne, ↓br_lt_t, ↓br_lt_f, ↓br_eq_t, ↓br_eq_f, ↓br_lz_t, ↓br_lz_f, ↓br_ez_t, ↓br_ez_f, ↓br_gz_t, ↓br_gz_f, jw_id, jin_t, jix_t, MO.s0 hm, MO.s1 hm, MO.s2 hm, MO.s3 hm, MO.s4 hm, MO.s5 hm, MO.s6 hm, MO.s7 hm, MO.s8 hm, MO.s9 hm, MO.s10 hm, MO.s11 hm, MO.s12 hm, MO.s13 hm, MO.r1 hm, MO.r2 hm, MO.r3 hm, MO.r4 hm, MO.r5 hm, MO.r6 hm, MO.r7 hm, MO.r8 hm, MO.r9 hm, MO.r10 hm, MO.r11 hm, MO.r12 hm, MO.r13 hm, er, e, MO.s0 m1, MO.r4 m1, e1, e2]
  · rw [if_neg ht] at er ⊢
    refine ⟨_, ?_, qM.triv hw0⟩
    simp (disch := omega) only [p257_0, p257_1, p257_2, p257_5, p257_6, p257_9, p257_10, p257_13, p257_14, p257_15, p257_18, p257_19, p257_20, p257_23, p257_24, p257_25, p257_28, p257_29, p257_30, p257_31, p257_34, p257_35, p257_38, p257_39, p257_42, p257_44, p257_45, p257_47, p257_48, p257_51, p257_53, p257_56, p257_57, p257_60, p257_62, p257_65, p257_68, p213_0, p213_1, p213_2, p213_5, p213_6, p213_7, p213_10, p213_11, p176_0, p176_1, p176_2, p176_5, p176_6, p176_7, p176_10, p176_11, jwd_c, jwd_0, Nat.reduceLeDiff, Nat.reduceEqDiff, Nat.reduceAdd, Nat.reduceSub, Nat.reduceMul, Int.reduceAdd, Int.reduceSub, Int.reduceMul, Int.reduceNeg, Int.reduceEq, Int.reduceLT, Int.reduceLE, jq_ldi_i, jq_ldl_l, jq_lda_a, jq_inc_i, jq_gs_t, jq_gsb_t, jq_gb_t, jq_gr_2, jq_gr_4, jq_gw_2, jq_s_t, jq_b_t, jg_c, jg_n, js_c, js_n, jrm_c, jrm_n, j2_i, j2_l, j2_a, jq_c_i, jq_c_l, jq_c_0, jq_c_n, jwd_le, jw_c0, mS_I, mS_R, mS_J, mN_I, mN_R, mN_J, mR_I, mI_R, mJ_I, mJ_R, mI_J, mR_J, ↓reduceIte, decide_true, or_true, true_or, and_self, false_or, or_false, reduceCtorEq, Bool.false_eq_true, and_false, false_and, eq_self, true_and, and_true, zero_ne, ↓br_lt_t, ↓br_lt_f, ↓br_eq_t, ↓br_eq_f, ↓br_lz_t, ↓br_lz_f, ↓br_ez_t, ↓br_ez_f, ↓br_gz_t, ↓br_gz_f, jw_id, jin_t, jix_t, MO.s0 hm, MO.s1 hm, MO.s2 hm, MO.s3 hm, MO.s4 hm, MO.s5 hm, MO.s6 hm, MO.s7 hm, MO.s8 hm, MO.s9 hm, MO.s10 hm, MO.s11 hm, MO.s12 hm, MO.s13 hm, MO.r1 hm, MO.r2 hm, MO.r3 hm, MO.r4 hm, MO.r5 hm, MO.r6 hm, MO.r7 hm, MO.r8 hm, MO.r9 hm, MO.r10 hm, MO.r11 hm, MO.r12 hm, MO.r13 hm, er]
theorem d_ran (hq : MQh w h H) (hv : mI w 241 = r) (b : fB H r S q g B) (hu : fU w H S q g) {d t : Int} (d1 : -2147483648 ≤ d) (d2 : d < 2147483648) (x1 : -2147483648 ≤ t) (x2 : t < 2147483648) : ∃ u, rn 259 (0, [(0, jvr 238), (1, .inl d), (2, .inl t)], [], w) = some (some (.inl (A15 (gT H S q g t) d t).1), u) ∧ qM w u (A15 (gT H S q g t) d t).2 := by
  have hs0 := hq.1.s0
  have hq0 : MQh (setI w 238 0 0) h H := hq.z
  have hv0 : mI (setI w 238 0 0) 241 = r := (mI_nb (by omega)).trans hv
  have e00 : rn 259 (0, [(0, jvr 238), (1, .inl d), (2, .inl t)], [], w) = rn 259 (5, [(0, jvr 238), (1, .inl d), (2, .inl t)], [], setI w 238 0 0) := by
    simp only [p259_0, p259_1, p259_2, jwd_c, jwd_0, Nat.reduceLeDiff, Nat.reduceEqDiff, Nat.reduceAdd, Nat.reduceSub, Nat.reduceMul, Int.reduceAdd, Int.reduceSub, Int.reduceMul, Int.reduceNeg, Int.reduceEq, Int.reduceLT, Int.reduceLE, jq_ldi_i, jq_ldl_l, jq_lda_a, jq_inc_i, jq_gs_t, jq_gsb_t, jq_gb_t, jq_gr_2, jq_gr_4, jq_gw_2, jq_s_t, jq_b_t, jg_c, jg_n, js_c, js_n, jrm_c, jrm_n, j2_i, j2_l, j2_a, jq_c_i, jq_c_l, jq_c_0, jq_c_n, jwd_le, jw_c0, mS_I, mS_R, mS_J, mN_I, mN_R, mN_J, mR_I, mI_R, mJ_I, mJ_R, mI_J, mR_J, ↓reduceIte, decide_true, or_true, true_or, and_self, false_or, or_false, reduceCtorEq, Bool.false_eq_true, and_false, false_and, eq_self, true_and, and_true, zero_ne, hs0]
  rw [e00]
  clear e00
  generalize hw0 : setI w 238 0 0 = w0 at *
  have hq1 := hq0
  obtain ⟨hm, hh, h3⟩ := hq0
  have hge := hh.ge
  have er := m_refIn hm h3 x1 x2
  unfold A15
  by_cases hd : d < 0
  · rw [if_pos hd]
    refine ⟨_, ?_, qM.triv hw0⟩
    simp (disch := omega) only [p259_0, p259_1, p259_2, p259_5, p259_6, p259_9, p259_10, p259_13, p259_14, p259_15, p259_18, p259_19, p259_20, p259_23, p259_24, p259_25, p259_28, p259_29, p259_30, p259_31, p259_34, p259_35, p259_36, p259_39, p259_40, p259_43, p259_44, p259_47, p259_48, p259_51, p259_52, p259_55, p259_56, p259_57, p259_60, p213_0, p213_1, p213_2, p213_5, p213_6, p213_7, p213_10, p213_11, p176_0, p176_1, p176_2, p176_5, p176_6, p176_7, p176_10, p176_11, jwd_c, jwd_0, Nat.reduceLeDiff, Nat.reduceEqDiff, Nat.reduceAdd, Nat.reduceSub, Nat.reduceMul, Int.reduceAdd, Int.reduceSub, Int.reduceMul, Int.reduceNeg, Int.reduceEq, Int.reduceLT, Int.reduceLE, jq_ldi_i, jq_ldl_l, jq_lda_a, jq_inc_i, jq_gs_t, jq_gsb_t, jq_gb_t, jq_gr_2, jq_gr_4, jq_gw_2, jq_s_t, jq_b_t, jg_c, jg_n, js_c, js_n, jrm_c, jrm_n, j2_i, j2_l, j2_a, jq_c_i, jq_c_l, jq_c_0, jq_c_n, jwd_le, jw_c0, mS_I, mS_R, mS_J, mN_I, mN_R, mN_J, mR_I, mI_R, mJ_I, mJ_R, mI_J, mR_J, ↓reduceIte, decide_true, or_true, true_or, and_self, false_or, or_false, reduceCtorEq, Bool.false_eq_true, and_false, false_and, eq_self, true_and, and_true, zero_ne, ↓br_lt_t, ↓br_lt_f, ↓br_eq_t, ↓br_eq_f, ↓br_lz_t, ↓br_lz_f, ↓br_ez_t, ↓br_ez_f, ↓br_gz_t, ↓br_gz_f, jw_id, jin_t, jix_t, MO.s0 hm, MO.s1 hm, MO.s2 hm, MO.s3 hm, MO.s4 hm, MO.s5 hm, MO.s6 hm, MO.s7 hm, MO.s8 hm, MO.s9 hm, MO.s10 hm, MO.s11 hm, MO.s12 hm, MO.s13 hm, MO.r1 hm, MO.r2 hm, MO.r3 hm, MO.r4 hm, MO.r5 hm, MO.r6 hm, MO.r7 hm, MO.r8 hm, MO.r9 hm, MO.r10 hm, MO.r11 hm, MO.r12 hm, MO.r13 hm]
  rw [if_neg hd]
  by_cases ht : 0 ≤ t ∧ t ≤ 40
  · obtain ⟨x, u, e, ⟨m1, m2, m3, m4, m5, m6, m7, m8, m9, m10⟩, ex, km⟩ := mF_dances hq1 hv0 b (hu.z hw0) ht.1 ht.2
    obtain ⟨ex1, ex2, ex3, ex4⟩ := ex
    obtain ⟨⟨ra, rb, rw0, rp, r203⟩, zp, zs, zb, zt⟩ := gT_zb b ht.1 ht.2
    generalize gT H S q g t = z at *
    rw [ex1] at m4
    rw [ex2] at m5
    rw [ex4] at m7
    have h16 := ra.1
    rw [if_pos ht] at er ⊢
    have h17 := ra.2.1
    have e1 := m_idx (MO.s4 m1) m4 ra rb d1 d2
    have ib := gIx_bd (r := z.1.1) (v := d) (z.1.1 289).toNat 0
    have iv := gIx_v (r := z.1.1) (v := d) (z.1.1 289).toNat 0 (by omega)
    generalize gIx z.1.1 d (z.1.1 289).toNat 0 = i at *
    by_cases q1 : i < 0
    · have q2 : i = -1 := by omega
      rw [if_pos q1]
      refine ⟨_, ?_, qM.fut hw0 km⟩
      simp (disch := omega) only [p259_0, p259_1, p259_2, p259_5, p259_6, p259_9, p259_10, p259_13, p259_14, p259_15, p259_18, p259_19, p259_20, p259_23, p259_24, p259_25, p259_28, p259_29, p259_30, p259_31, p259_34, p259_35, p259_36, p259_39, p259_40, p259_43, p259_44, p259_47, p259_48, p259_51, p259_52, p259_55, p259_56, p259_57, p259_60, p213_0, p213_1, p213_2, p213_5, p213_6, p213_7, p213_10, p213_11, p176_0, p176_1, p176_2, p176_5, p176_6, p176_7, p176_10, p176_11, jwd_c, jwd_0, Nat.reduceLeDiff, Nat.reduceEqDiff, Nat.reduceAdd, Nat.reduceSub, Nat.reduceMul, Int.reduceAdd, Int.reduceSub, Int.reduceMul, Int.reduceNeg, Int.reduceEq, Int.reduceLT, Int.reduceLE, jq_ldi_i, jq_ldl_l, jq_lda_a, jq_inc_i, jq_gs_t, jq_gsb_t, jq_gb_t, jq_gr_2, jq_gr_4, jq_gw_2, jq_s_t, jq_b_t, jg_c, jg_n, js_c, js_n, jrm_c, jrm_n, j2_i, j2_l, j2_a, jq_c_i, jq_c_l, jq_c_0, jq_c_n, jwd_le, jw_c0, mS_I, mS_R, mS_J, mN_I, mN_R, mN_J, mR_I, mI_R, mJ_I, mJ_R, mI_J, mR_J, ↓reduceIte, decide_true, or_true, true_or, and_self, false_or, or_false, reduceCtorEq, Bool.false_eq_true, and_false, false_and, eq_self, true_and, and_true, zero_ne, ↓br_lt_t, ↓br_lt_f, ↓br_eq_t, ↓br_eq_f, ↓br_lz_t, ↓br_lz_f, ↓br_ez_t, ↓br_ez_f, ↓br_gz_t, ↓br_gz_f, jw_id, jin_t, jix_t, MO.s0 hm, MO.s1 hm, MO.s2 hm, MO.s3 hm, MO.s4 hm, MO.s5 hm, MO.s6 hm, MO.s7 hm, MO.s8 hm, MO.s9 hm, MO.s10 hm, MO.s11 hm, MO.s12 hm, MO.s13 hm, MO.r1 hm, MO.r2 hm, MO.r3 hm, MO.r4 hm, MO.r5 hm, MO.r6 hm, MO.r7 hm, MO.r8 hm, MO.r9 hm, MO.r10 hm, MO.r11 hm, MO.r12 hm, MO.r13 hm, er, e, MO.s0 m1, MO.r4 m1, e1]
    · rw [if_neg q1]
      have bb := (rb i (by omega) (by omega)).1
      refine ⟨_, ?_, qM.fut hw0 km⟩
      simp (disch := omega) only [p259_0, p259_1, p259_2, p259_5, p259_6, p259_9, p259_10, p259_13, p259_14, p259_15, p259_18, p259_19, p259_20, p259_23, p259_24, p259_25, p259_28, p259_29, p259_30, p259_31, p259_34, p259_35, p259_36, p259_39, p259_40, p259_43, p259_44, p259_47, p259_48, p259_51, p259_52, p259_55, p259_56, p259_57, p259_60, p213_0, p213_1, p213_2, p213_5, p213_6, p213_7, p213_10, p213_11, p176_0, p176_1, p176_2, p176_5, p176_6, p176_7, p176_10, p176_11, jwd_c, jwd_0, Nat.reduceLeDiff, Nat.reduceEqDiff, Nat.reduceAdd, Nat.reduceSub, Nat.reduceMul, Int.reduceAdd, Int.reduceSub, Int.reduceMul, Int.reduceNeg, Int.reduceEq, Int.reduceLT, Int.reduceLE, jq_ldi_i, jq_ldl_l, jq_lda_a, jq_inc_i, jq_gs_t, jq_gsb_t, jq_gb_t, jq_gr_2, jq_gr_4, jq_gw_2, jq_s_t, jq_b_t, jg_c, jg_n, js_c, js_n, jrm_c, jrm_n, j2_i, j2_l, j2_a, jq_c_i, jq_c_l, jq_c_0, jq_c_n, jwd_le, jw_c0, mS_I, mS_R, mS_J, mN_I, mN_R, mN_J, mR_I, mI_R, mJ_I, mJ_R, mI_J, mR_J, ↓reduceIte, decide_true, or_true, true_or, and_self, false_or, or_false, reduceCtorEq, Bool.false_eq_true, and_false, false_and, eq_self, true_and, and_true, zero_ne, ↓br_lt_t, ↓br_lt_f, ↓br_eq_t, ↓br_eq_f, ↓br_lz_t, ↓br_lz_f, ↓br_ez_t, ↓br_ez_f, ↓br_gz_t, ↓br_gz_f, jw_id, jin_t, jix_t, MO.s0 hm, MO.s1 hm, MO.s2 hm, MO.s3 hm, MO.s4 hm, MO.s5 hm, MO.s6 hm, MO.s7 hm, MO.s8 hm, MO.s9 hm, MO.s10 hm, MO.s11 hm, MO.s12 hm, MO.s13 hm, MO.r1 hm, MO.r2 hm, MO.r3 hm, MO.r4 hm, MO.r5 hm, MO.r6 hm, MO.r7 hm, MO.r8 hm, MO.r9 hm, MO.r10 hm, MO.r11 hm, MO.r12 hm, MO.r13 hm, er, e, MO.s0 m1, MO.r4 m1, MO.r10 m1, MO.s10 m1, m5, e1]
  · rw [if_neg ht] at er ⊢
    refine ⟨_, ?_, qM.triv hw0⟩
    simp (disch := omega) only [p259_0, p259_1, p259_2, p259_5, p259_6, p259_9, p259_10, p259_13, p259_14, p259_15, p259_18, p259_19, p259_20, p259_23, p259_24, p259_25, p259_28, p259_29, p259_30, p259_31, p259_34, p259_35, p259_36, p259_39, p259_40, p259_43, p259_44, p259_47, p259_48, p259_51, p259_52, p259_55, p259_56, p259_57, p259_60, p213_0, p213_1, p213_2, p213_5, p213_6, p213_7, p213_10, p213_11, p176_0, p176_1, p176_2, p176_5, p176_6, p176_7, p176_10, p176_11, jwd_c, jwd_0, Nat.reduceLeDiff, Nat.reduceEqDiff, Nat.reduceAdd, Nat.reduceSub, Nat.reduceMul, Int.reduceAdd, Int.reduceSub, Int.reduceMul, Int.reduceNeg, Int.reduceEq, Int.reduceLT, Int.reduceLE, jq_ldi_i, jq_ldl_l, jq_lda_a, jq_inc_i, jq_gs_t, jq_gsb_t, jq_gb_t, jq_gr_2, jq_gr_4, jq_gw_2, jq_s_t, jq_b_t, jg_c, jg_n, js_c, js_n, jrm_c, jrm_n, j2_i, j2_l, j2_a, jq_c_i, jq_c_l, jq_c_0, jq_c_n, jwd_le, jw_c0, mS_I, mS_R, mS_J, mN_I, mN_R, mN_J, mR_I, mI_R, mJ_I, mJ_R, mI_J, mR_J, ↓reduceIte, decide_true, or_true, true_or, and_self, false_or, or_false, reduceCtorEq, Bool.false_eq_true, and_false, false_and, eq_self, true_and, and_true, zero_ne, ↓br_lt_t, ↓br_lt_f, ↓br_eq_t, ↓br_eq_f, ↓br_lz_t, ↓br_lz_f, ↓br_ez_t, ↓br_ez_f, ↓br_gz_t, ↓br_gz_f, jw_id, jin_t, jix_t, MO.s0 hm, MO.s1 hm, MO.s2 hm, MO.s3 hm, MO.s4 hm, MO.s5 hm, MO.s6 hm, MO.s7 hm, MO.s8 hm, MO.s9 hm, MO.s10 hm, MO.s11 hm, MO.s12 hm, MO.s13 hm, MO.r1 hm, MO.r2 hm, MO.r3 hm, MO.r4 hm, MO.r5 hm, MO.r6 hm, MO.r7 hm, MO.r8 hm, MO.r9 hm, MO.r10 hm, MO.r11 hm, MO.r12 hm, MO.r13 hm, er]
theorem mrun_lp (hm : MO w) (hr : mI w 242 = r) (hg : mI w 248 = g) (ra : RA H B r) (rb : RB r) {t y : Int} : ∀ (n : Nat) (i b : Int), 1 ≤ i → i + n = r 289 → 0 ≤ b → b < r 289 → rn 260 (31, [(0, jvr 238), (1, .inl t), (2, .inl y), (3, .inl b), (4, .inl i)], [], w) = some (some (.inl (r (204 + gRun r g n i b).toNat)), setI (setI w 238 1 0) 238 2 (-1)) := by
  have h16 := ra.1
  have h17 := ra.2.1
  intro n
  induction n with
  | zero =>
    intro i b i1 i2 b1 b2
    have e : gRun r g 0 i b = b := rfl
    rw [e, p260_31]
    simp (disch := omega) only [p260_0, p260_1, p260_2, p260_5, p260_6, p260_7, p260_10, p260_11, p260_12, p260_15, p260_16, p260_17, p260_20, p260_21, p260_22, p260_23, p260_26, p260_27, p260_28, p260_29, p260_33, p260_34, p260_37, p260_40, p260_41, p260_44, p260_45, p260_48, p260_49, p260_52, p260_55, p260_57, p260_58, p260_59, p260_60, p260_61, p260_64, p260_65, p260_68, p260_71, p260_72, p260_73, p260_74, p260_75, p260_78, p260_80, p260_81, p260_84, p260_87, p260_88, p260_89, p260_92, p260_95, p260_96, p260_97, p260_98, p260_101, p213_0, p213_1, p213_2, p213_5, p213_6, p213_7, p213_10, p213_11, p176_0, p176_1, p176_2, p176_5, p176_6, p176_7, p176_10, p176_11, jwd_c, jwd_0, Nat.reduceLeDiff, Nat.reduceEqDiff, Nat.reduceAdd, Nat.reduceSub, Nat.reduceMul, Int.reduceAdd, Int.reduceSub, Int.reduceMul, Int.reduceNeg, Int.reduceEq, Int.reduceLT, Int.reduceLE, jq_ldi_i, jq_ldl_l, jq_lda_a, jq_inc_i, jq_gs_t, jq_gsb_t, jq_gb_t, jq_gr_2, jq_gr_4, jq_gw_2, jq_s_t, jq_b_t, jg_c, jg_n, js_c, js_n, jrm_c, jrm_n, j2_i, j2_l, j2_a, jq_c_i, jq_c_l, jq_c_0, jq_c_n, jwd_le, jw_c0, mS_I, mS_R, mS_J, mN_I, mN_R, mN_J, mR_I, mI_R, mJ_I, mJ_R, mI_J, mR_J, ↓reduceIte, decide_true, or_true, true_or, and_self, false_or, or_false, reduceCtorEq, Bool.false_eq_true, and_false, false_and, eq_self, true_and, and_true, zero_ne, ↓br_lt_t, ↓br_lt_f, ↓br_eq_t, ↓br_eq_f, ↓br_lz_t, ↓br_lz_f, ↓br_ez_t, ↓br_ez_f, ↓br_gz_t, ↓br_gz_f, jw_id, jin_t, jix_t, MO.s0 hm, MO.s1 hm, MO.s2 hm, MO.s3 hm, MO.s4 hm, MO.s5 hm, MO.s6 hm, MO.s7 hm, MO.s8 hm, MO.s9 hm, MO.s10 hm, MO.s11 hm, MO.s12 hm, MO.s13 hm, MO.r1 hm, MO.r2 hm, MO.r3 hm, MO.r4 hm, MO.r5 hm, MO.r6 hm, MO.r7 hm, MO.r8 hm, MO.r9 hm, MO.r10 hm, MO.r11 hm, MO.r12 hm, MO.r13 hm, hr, Int.reduceToNat]
  | succ n ih =>
    intro i b i1 i2 b1 b2
    have e : gRun r g (n + 1) i b = gRun r g n (i + 1) (if jw (g (r (204 + b).toNat).toNat) < jw (g (r (204 + i).toNat).toNat) then i else b) := rfl
    have bi := (rb i (by omega) (by omega)).1
    have bb := (rb b (by omega) (by omega)).1
    rw [e, p260_31]
    by_cases q1 : jw (g (r (204 + b).toNat).toNat) < jw (g (r (204 + i).toNat).toNat)
    · rw [if_pos q1, ← ih (i + 1) i (by omega) (by omega) (by omega) (by omega)]
      simp (disch := omega) only [p260_0, p260_1, p260_2, p260_5, p260_6, p260_7, p260_10, p260_11, p260_12, p260_15, p260_16, p260_17, p260_20, p260_21, p260_22, p260_23, p260_26, p260_27, p260_28, p260_29, p260_33, p260_34, p260_37, p260_40, p260_41, p260_44, p260_45, p260_48, p260_49, p260_52, p260_55, p260_57, p260_58, p260_59, p260_60, p260_61, p260_64, p260_65, p260_68, p260_71, p260_72, p260_73, p260_74, p260_75, p260_78, p260_80, p260_81, p260_84, p260_87, p260_88, p260_89, p260_92, p260_95, p260_96, p260_97, p260_98, p260_101, jwd_c, jwd_0, Nat.reduceLeDiff, Nat.reduceEqDiff, Nat.reduceAdd, Nat.reduceSub, Nat.reduceMul, Int.reduceAdd, Int.reduceSub, Int.reduceMul, Int.reduceNeg, Int.reduceEq, Int.reduceLT, Int.reduceLE, jq_ldi_i, jq_ldl_l, jq_lda_a, jq_inc_i, jq_gs_t, jq_gsb_t, jq_gb_t, jq_gr_2, jq_gr_4, jq_gw_2, jq_s_t, jq_b_t, jg_c, jg_n, js_c, js_n, jrm_c, jrm_n, j2_i, j2_l, j2_a, jq_c_i, jq_c_l, jq_c_0, jq_c_n, jwd_le, jw_c0, mS_I, mS_R, mS_J, mN_I, mN_R, mN_J, mR_I, mI_R, mJ_I, mJ_R, mI_J, mR_J, ↓reduceIte, decide_true, or_true, true_or, and_self, false_or, or_false, reduceCtorEq, Bool.false_eq_true, and_false, false_and, eq_self, true_and, and_true, zero_ne, ↓br_lt_t, ↓br_lt_f, ↓br_eq_t, ↓br_eq_f, ↓br_lz_t, ↓br_lz_f, ↓br_ez_t, ↓br_ez_f, ↓br_gz_t, ↓br_gz_f, jw_id, jin_t, jix_t, MO.s0 hm, MO.s1 hm, MO.s2 hm, MO.s3 hm, MO.s4 hm, MO.s5 hm, MO.s6 hm, MO.s7 hm, MO.s8 hm, MO.s9 hm, MO.s10 hm, MO.s11 hm, MO.s12 hm, MO.s13 hm, MO.r1 hm, MO.r2 hm, MO.r3 hm, MO.r4 hm, MO.r5 hm, MO.r6 hm, MO.r7 hm, MO.r8 hm, MO.r9 hm, MO.r10 hm, MO.r11 hm, MO.r12 hm, MO.r13 hm, hr, hg, Int.reduceToNat, if_pos q1]
    · rw [if_neg q1, ← ih (i + 1) b (by omega) (by omega) (by omega) (by omega)]
      simp (disch := omega) only [p260_0, p260_1, p260_2, p260_5, p260_6, p260_7, p260_10, p260_11, p260_12, p260_15, p260_16, p260_17, p260_20, p260_21, p260_22, p260_23, p260_26, p260_27, p260_28, p260_29, p260_33, p260_34, p260_37, p260_40, p260_41, p260_44, p260_45, p260_48, p260_49, p260_52, p260_55, p260_57, p260_58, p260_59, p260_60, p260_61, p260_64, p260_65, p260_68, p260_71, p260_72, p260_73, p260_74, p260_75, p260_78, p260_80, p260_81, p260_84, p260_87, p260_88, p260_89, p260_92, p260_95, p260_96, p260_97, p260_98, p260_101, jwd_c, jwd_0, Nat.reduceLeDiff, Nat.reduceEqDiff, Nat.reduceAdd, Nat.reduceSub, Nat.reduceMul, Int.reduceAdd, Int.reduceSub, Int.reduceMul, Int.reduceNeg, Int.reduceEq, Int.reduceLT, Int.reduceLE, jq_ldi_i, jq_ldl_l, jq_lda_a, jq_inc_i, jq_gs_t, jq_gsb_t, jq_gb_t, jq_gr_2, jq_gr_4, jq_gw_2, jq_s_t, jq_b_t, jg_c, jg_n, js_c, js_n, jrm_c, jrm_n, j2_i, j2_l, j2_a, jq_c_i, jq_c_l, jq_c_0, jq_c_n, jwd_le, jw_c0, mS_I, mS_R, mS_J, mN_I, mN_R, mN_J, mR_I, mI_R, mJ_I, mJ_R, mI_J, mR_J, ↓reduceIte, decide_true, or_true, true_or, and_self, false_or, or_false, reduceCtorEq, Bool.false_eq_true, and_false, false_and, eq_self, true_and, and_true, zero_ne, ↓br_lt_t, ↓br_lt_f, ↓br_eq_t, ↓br_eq_f, ↓br_lz_t, ↓br_lz_f, ↓br_ez_t, ↓br_ez_f, ↓br_gz_t, ↓br_gz_f, jw_id, jin_t, jix_t, MO.s0 hm, MO.s1 hm, MO.s2 hm, MO.s3 hm, MO.s4 hm, MO.s5 hm, MO.s6 hm, MO.s7 hm, MO.s8 hm, MO.s9 hm, MO.s10 hm, MO.s11 hm, MO.s12 hm, MO.s13 hm, MO.r1 hm, MO.r2 hm, MO.r3 hm, MO.r4 hm, MO.r5 hm, MO.r6 hm, MO.r7 hm, MO.r8 hm, MO.r9 hm, MO.r10 hm, MO.r11 hm, MO.r12 hm, MO.r13 hm, hr, hg, Int.reduceToNat, if_neg q1]
theorem d_runner (hq : MQh w h H) (hv : mI w 241 = r) (b : fB H r S q g B) (hu : fU w H S q g) {t : Int} (x1 : -2147483648 ≤ t) (x2 : t < 2147483648) : ∃ u, rn 260 (0, [(0, jvr 238), (1, .inl t)], [], w) = some (some (.inl (A16 (gT H S q g t) t).1), u) ∧ qM w u (A16 (gT H S q g t) t).2 := by
  have hs0 := hq.1.s0
  have hq0 : MQh (setI w 238 0 0) h H := hq.z
  have hv0 : mI (setI w 238 0 0) 241 = r := (mI_nb (by omega)).trans hv
  have e00 : rn 260 (0, [(0, jvr 238), (1, .inl t)], [], w) = rn 260 (5, [(0, jvr 238), (1, .inl t)], [], setI w 238 0 0) := by
    simp only [p260_0, p260_1, p260_2, jwd_c, jwd_0, Nat.reduceLeDiff, Nat.reduceEqDiff, Nat.reduceAdd, Nat.reduceSub, Nat.reduceMul, Int.reduceAdd, Int.reduceSub, Int.reduceMul, Int.reduceNeg, Int.reduceEq, Int.reduceLT, Int.reduceLE, jq_ldi_i, jq_ldl_l, jq_lda_a, jq_inc_i, jq_gs_t, jq_gsb_t, jq_gb_t, jq_gr_2, jq_gr_4, jq_gw_2, jq_s_t, jq_b_t, jg_c, jg_n, js_c, js_n, jrm_c, jrm_n, j2_i, j2_l, j2_a, jq_c_i, jq_c_l, jq_c_0, jq_c_n, jwd_le, jw_c0, mS_I, mS_R, mS_J, mN_I, mN_R, mN_J, mR_I, mI_R, mJ_I, mJ_R, mI_J, mR_J, ↓reduceIte, decide_true, or_true, true_or, and_self, false_or, or_false, reduceCtorEq, Bool.false_eq_true, and_false, false_and, eq_self, true_and, and_true, zero_ne, hs0]
  rw [e00]
  clear e00
  generalize hw0 : setI w 238 0 0 = w0 at *
  have hq1 := hq0
  obtain ⟨hm, hh, h3⟩ := hq0
  have hge := hh.ge
  have er := m_refIn hm h3 x1 x2
  unfold A16
  by_cases ht : 0 ≤ t ∧ t ≤ 40
  · obtain ⟨x, u, e, ⟨m1, m2, m3, m4, m5, m6, m7, m8, m9, m10⟩, ex, km⟩ := mF_dances hq1 hv0 b (hu.z hw0) ht.1 ht.2
    obtain ⟨ex1, ex2, ex3, ex4⟩ := ex
    obtain ⟨⟨ra, rb, rw0, rp, r203⟩, zp, zs, zb, zt⟩ := gT_zb b ht.1 ht.2
    generalize gT H S q g t = z at *
    rw [ex1] at m4
    rw [ex2] at m5
    rw [ex4] at m7
    have h16 := ra.1
    rw [if_pos ht] at er ⊢
    have e1 := mrun_lp m1 m4 m5 ra rb (t := t) (y := 0) (z.1.1 289 - 1).toNat 1 0 (by omega) (by omega) (by omega) (by omega)
    refine ⟨_, ?_, qM.fut hw0 km⟩
    simp (disch := omega) only [p260_0, p260_1, p260_2, p260_5, p260_6, p260_7, p260_10, p260_11, p260_12, p260_15, p260_16, p260_17, p260_20, p260_21, p260_22, p260_23, p260_26, p260_27, p260_28, p260_29, p260_33, p260_34, p260_37, p260_40, p260_41, p260_44, p260_45, p260_48, p260_49, p260_52, p260_55, p260_57, p260_58, p260_59, p260_60, p260_61, p260_64, p260_65, p260_68, p260_71, p260_72, p260_73, p260_74, p260_75, p260_78, p260_80, p260_81, p260_84, p260_87, p260_88, p260_89, p260_92, p260_95, p260_96, p260_97, p260_98, p260_101, jwd_c, jwd_0, Nat.reduceLeDiff, Nat.reduceEqDiff, Nat.reduceAdd, Nat.reduceSub, Nat.reduceMul, Int.reduceAdd, Int.reduceSub, Int.reduceMul, Int.reduceNeg, Int.reduceEq, Int.reduceLT, Int.reduceLE, jq_ldi_i, jq_ldl_l, jq_lda_a, jq_inc_i, jq_gs_t, jq_gsb_t, jq_gb_t, jq_gr_2, jq_gr_4, jq_gw_2, jq_s_t, jq_b_t, jg_c, jg_n, js_c, js_n, jrm_c, jrm_n, j2_i, j2_l, j2_a, jq_c_i, jq_c_l, jq_c_0, jq_c_n, jwd_le, jw_c0, mS_I, mS_R, mS_J, mN_I, mN_R, mN_J, mR_I, mI_R, mJ_I, mJ_R, mI_J, mR_J, ↓reduceIte, decide_true, or_true, true_or, and_self, false_or, or_false, reduceCtorEq, Bool.false_eq_true, and_false, false_and, eq_self, true_and, and_true, zero_ne, ↓br_lt_t, ↓br_lt_f, ↓br_eq_t, ↓br_eq_f, ↓br_lz_t, ↓br_lz_f, ↓br_ez_t, ↓br_ez_f, ↓br_gz_t, ↓br_gz_f, jw_id, jin_t, jix_t, MO.s0 hm, MO.s1 hm, MO.s2 hm, MO.s3 hm, MO.s4 hm, MO.s5 hm, MO.s6 hm, MO.s7 hm, MO.s8 hm, MO.s9 hm, MO.s10 hm, MO.s11 hm, MO.s12 hm, MO.s13 hm, MO.r1 hm, MO.r2 hm, MO.r3 hm, MO.r4 hm, MO.r5 hm, MO.r6 hm, MO.r7 hm, MO.r8 hm, MO.r9 hm, MO.r10 hm, MO.r11 hm, MO.r12 hm, MO.r13 hm, er, e, e1]
  · rw [if_neg ht] at er ⊢
    refine ⟨_, ?_, qM.triv hw0⟩
    simp (disch := omega) only [p260_0, p260_1, p260_2, p260_5, p260_6, p260_7, p260_10, p260_11, p260_12, p260_15, p260_16, p260_17, p260_20, p260_21, p260_22, p260_23, p260_26, p260_27, p260_28, p260_29, p260_33, p260_34, p260_37, p260_40, p260_41, p260_44, p260_45, p260_48, p260_49, p260_52, p260_55, p260_57, p260_58, p260_59, p260_60, p260_61, p260_64, p260_65, p260_68, p260_71, p260_72, p260_73, p260_74, p260_75, p260_78, p260_80, p260_81, p260_84, p260_87, p260_88, p260_89, p260_92, p260_95, p260_96, p260_97, p260_98, p260_101, p213_0, p213_1, p213_2, p213_5, p213_6, p213_7, p213_10, p213_11, p176_0, p176_1, p176_2, p176_5, p176_6, p176_7, p176_10, p176_11, jwd_c, jwd_0, Nat.reduceLeDiff, Nat.reduceEqDiff, Nat.reduceAdd, Nat.reduceSub, Nat.reduceMul, Int.reduceAdd, Int.reduceSub, Int.reduceMul, Int.reduceNeg, Int.reduceEq, Int.reduceLT, Int.reduceLE, jq_ldi_i, jq_ldl_l, jq_lda_a, jq_inc_i, jq_gs_t, jq_gsb_t, jq_gb_t, jq_gr_2, jq_gr_4, jq_gw_2, jq_s_t, jq_b_t, jg_c, jg_n, js_c, js_n, jrm_c, jrm_n, j2_i, j2_l, j2_a, jq_c_i, jq_c_l, jq_c_0, jq_c_n, jwd_le, jw_c0, mS_I, mS_R, mS_J, mN_I, mN_R, mN_J, mR_I, mI_R, mJ_I, mJ_R, mI_J, mR_J, ↓reduceIte, decide_true, or_true, true_or, and_self, false_or, or_false, reduceCtorEq, Bool.false_eq_true, and_false, false_and, eq_self, true_and, and_true, zero_ne, ↓br_lt_t, ↓br_lt_f, ↓br_eq_t, ↓br_eq_f, ↓br_lz_t, ↓br_lz_f, ↓br_ez_t, ↓br_ez_f, ↓br_gz_t, ↓br_gz_f, jw_id, jin_t, jix_t, MO.s0 hm, MO.s1 hm, MO.s2 hm, MO.s3 hm, MO.s4 hm, MO.s5 hm, MO.s6 hm, MO.s7 hm, MO.s8 hm, MO.s9 hm, MO.s10 hm, MO.s11 hm, MO.s12 hm, MO.s13 hm, MO.r1 hm, MO.r2 hm, MO.r3 hm, MO.r4 hm, MO.r5 hm, MO.r6 hm, MO.r7 hm, MO.r8 hm, MO.r9 hm, MO.r10 hm, MO.r11 hm, MO.r12 hm, MO.r13 hm, er]
theorem mwid_lp (hm : MO w) (hr : mI w 242 = r) (ra : RA H B r) (rb : RB r) {t y : Int} : ∀ (n : Nat) (i m : Int), 1 ≤ i → i + n = r 289 → -2 ≤ m → m ≤ 300 → rn 261 (32, [(0, jvr 238), (1, .inl t), (2, .inl y), (3, .inl m), (4, .inl i)], [], w) = some (some (.inl (gWid r n i m)), setI (setI w 238 1 0) 238 2 (-1)) := by
  have h16 := ra.1
  intro n
  induction n with
  | zero =>
    intro i m i1 i2 m1 m2
    have e : gWid r 0 i m = m := rfl
    rw [e, p261_32]
    simp (disch := omega) only [p261_0, p261_1, p261_2, p261_5, p261_6, p261_7, p261_10, p261_11, p261_12, p261_15, p261_16, p261_17, p261_20, p261_21, p261_22, p261_23, p261_26, p261_28, p261_29, p261_30, p261_34, p261_35, p261_38, p261_41, p261_42, p261_45, p261_46, p261_49, p261_51, p261_54, p261_55, p261_58, p261_59, p261_62, p261_64, p261_67, p261_70, p261_71, p261_72, p261_75, p261_78, p261_79, p261_80, p261_83, p213_0, p213_1, p213_2, p213_5, p213_6, p213_7, p213_10, p213_11, p176_0, p176_1, p176_2, p176_5, p176_6, p176_7, p176_10, p176_11, jwd_c, jwd_0, Nat.reduceLeDiff, Nat.reduceEqDiff, Nat.reduceAdd, Nat.reduceSub, Nat.reduceMul, Int.reduceAdd, Int.reduceSub, Int.reduceMul, Int.reduceNeg, Int.reduceEq, Int.reduceLT, Int.reduceLE, jq_ldi_i, jq_ldl_l, jq_lda_a, jq_inc_i, jq_gs_t, jq_gsb_t, jq_gb_t, jq_gr_2, jq_gr_4, jq_gw_2, jq_s_t, jq_b_t, jg_c, jg_n, js_c, js_n, jrm_c, jrm_n, j2_i, j2_l, j2_a, jq_c_i, jq_c_l, jq_c_0, jq_c_n, jwd_le, jw_c0, mS_I, mS_R, mS_J, mN_I, mN_R, mN_J, mR_I, mI_R, mJ_I, mJ_R, mI_J, mR_J, ↓reduceIte, decide_true, or_true, true_or, and_self, false_or, or_false, reduceCtorEq, Bool.false_eq_true, and_false, false_and, eq_self, true_and, and_true, zero_ne, ↓br_lt_t, ↓br_lt_f, ↓br_eq_t, ↓br_eq_f, ↓br_lz_t, ↓br_lz_f, ↓br_ez_t, ↓br_ez_f, ↓br_gz_t, ↓br_gz_f, jw_id, jin_t, jix_t, MO.s0 hm, MO.s1 hm, MO.s2 hm, MO.s3 hm, MO.s4 hm, MO.s5 hm, MO.s6 hm, MO.s7 hm, MO.s8 hm, MO.s9 hm, MO.s10 hm, MO.s11 hm, MO.s12 hm, MO.s13 hm, MO.r1 hm, MO.r2 hm, MO.r3 hm, MO.r4 hm, MO.r5 hm, MO.r6 hm, MO.r7 hm, MO.r8 hm, MO.r9 hm, MO.r10 hm, MO.r11 hm, MO.r12 hm, MO.r13 hm, hr, Int.reduceToNat]
  | succ n ih =>
    intro i m i1 i2 m1 m2
    have e : gWid r (n + 1) i m = gWid r n (i + 1) (max m (gGap r i)) := rfl
    have e1 := m_gap (w := w) (a := 242) (i := i) hm.s4 hr i1 (by omega)
    have gb := gap_bd ra rb i1 (i := i) (by omega)
    rw [e, p261_32]
    generalize gGap r i = G at *
    rw [← ih (i + 1) (max m G) (by omega) (by omega) (by omega) (by omega)]
    by_cases q1 : m < G
    · rw [show max m G = G by omega]
      simp (disch := omega) only [p261_0, p261_1, p261_2, p261_5, p261_6, p261_7, p261_10, p261_11, p261_12, p261_15, p261_16, p261_17, p261_20, p261_21, p261_22, p261_23, p261_26, p261_28, p261_29, p261_30, p261_34, p261_35, p261_38, p261_41, p261_42, p261_45, p261_46, p261_49, p261_51, p261_54, p261_55, p261_58, p261_59, p261_62, p261_64, p261_67, p261_70, p261_71, p261_72, p261_75, p261_78, p261_79, p261_80, p261_83, jwd_c, jwd_0, Nat.reduceLeDiff, Nat.reduceEqDiff, Nat.reduceAdd, Nat.reduceSub, Nat.reduceMul, Int.reduceAdd, Int.reduceSub, Int.reduceMul, Int.reduceNeg, Int.reduceEq, Int.reduceLT, Int.reduceLE, jq_ldi_i, jq_ldl_l, jq_lda_a, jq_inc_i, jq_gs_t, jq_gsb_t, jq_gb_t, jq_gr_2, jq_gr_4, jq_gw_2, jq_s_t, jq_b_t, jg_c, jg_n, js_c, js_n, jrm_c, jrm_n, j2_i, j2_l, j2_a, jq_c_i, jq_c_l, jq_c_0, jq_c_n, jwd_le, jw_c0, mS_I, mS_R, mS_J, mN_I, mN_R, mN_J, mR_I, mI_R, mJ_I, mJ_R, mI_J, mR_J, ↓reduceIte, decide_true, or_true, true_or, and_self, false_or, or_false, reduceCtorEq, Bool.false_eq_true, and_false, false_and, eq_self, true_and, and_true, zero_ne, ↓br_lt_t, ↓br_lt_f, ↓br_eq_t, ↓br_eq_f, ↓br_lz_t, ↓br_lz_f, ↓br_ez_t, ↓br_ez_f, ↓br_gz_t, ↓br_gz_f, jw_id, jin_t, jix_t, MO.s0 hm, MO.s1 hm, MO.s2 hm, MO.s3 hm, MO.s4 hm, MO.s5 hm, MO.s6 hm, MO.s7 hm, MO.s8 hm, MO.s9 hm, MO.s10 hm, MO.s11 hm, MO.s12 hm, MO.s13 hm, MO.r1 hm, MO.r2 hm, MO.r3 hm, MO.r4 hm, MO.r5 hm, MO.r6 hm, MO.r7 hm, MO.r8 hm, MO.r9 hm, MO.r10 hm, MO.r11 hm, MO.r12 hm, MO.r13 hm, hr, Int.reduceToNat, e1]
    · rw [show max m G = m by omega]
      simp (disch := omega) only [p261_0, p261_1, p261_2, p261_5, p261_6, p261_7, p261_10, p261_11, p261_12, p261_15, p261_16, p261_17, p261_20, p261_21, p261_22, p261_23, p261_26, p261_28, p261_29, p261_30, p261_34, p261_35, p261_38, p261_41, p261_42, p261_45, p261_46, p261_49, p261_51, p261_54, p261_55, p261_58, p261_59, p261_62, p261_64, p261_67, p261_70, p261_71, p261_72, p261_75, p261_78, p261_79, p261_80, p261_83, jwd_c, jwd_0, Nat.reduceLeDiff, Nat.reduceEqDiff, Nat.reduceAdd, Nat.reduceSub, Nat.reduceMul, Int.reduceAdd, Int.reduceSub, Int.reduceMul, Int.reduceNeg, Int.reduceEq, Int.reduceLT, Int.reduceLE, jq_ldi_i, jq_ldl_l, jq_lda_a, jq_inc_i, jq_gs_t, jq_gsb_t, jq_gb_t, jq_gr_2, jq_gr_4, jq_gw_2, jq_s_t, jq_b_t, jg_c, jg_n, js_c, js_n, jrm_c, jrm_n, j2_i, j2_l, j2_a, jq_c_i, jq_c_l, jq_c_0, jq_c_n, jwd_le, jw_c0, mS_I, mS_R, mS_J, mN_I, mN_R, mN_J, mR_I, mI_R, mJ_I, mJ_R, mI_J, mR_J, ↓reduceIte, decide_true, or_true, true_or, and_self, false_or, or_false, reduceCtorEq, Bool.false_eq_true, and_false, false_and, eq_self, true_and, and_true, zero_ne, ↓br_lt_t, ↓br_lt_f, ↓br_eq_t, ↓br_eq_f, ↓br_lz_t, ↓br_lz_f, ↓br_ez_t, ↓br_ez_f, ↓br_gz_t, ↓br_gz_f, jw_id, jin_t, jix_t, MO.s0 hm, MO.s1 hm, MO.s2 hm, MO.s3 hm, MO.s4 hm, MO.s5 hm, MO.s6 hm, MO.s7 hm, MO.s8 hm, MO.s9 hm, MO.s10 hm, MO.s11 hm, MO.s12 hm, MO.s13 hm, MO.r1 hm, MO.r2 hm, MO.r3 hm, MO.r4 hm, MO.r5 hm, MO.r6 hm, MO.r7 hm, MO.r8 hm, MO.r9 hm, MO.r10 hm, MO.r11 hm, MO.r12 hm, MO.r13 hm, hr, Int.reduceToNat, e1]
theorem d_widest (hq : MQh w h H) (hv : mI w 241 = r) (b : fB H r S q g B) (hu : fU w H S q g) {t : Int} (x1 : -2147483648 ≤ t) (x2 : t < 2147483648) : ∃ u, rn 261 (0, [(0, jvr 238), (1, .inl t)], [], w) = some (some (.inl (A17 (gT H S q g t) t).1), u) ∧ qM w u (A17 (gT H S q g t) t).2 := by
  have hs0 := hq.1.s0
  have hq0 : MQh (setI w 238 0 0) h H := hq.z
  have hv0 : mI (setI w 238 0 0) 241 = r := (mI_nb (by omega)).trans hv
  have e00 : rn 261 (0, [(0, jvr 238), (1, .inl t)], [], w) = rn 261 (5, [(0, jvr 238), (1, .inl t)], [], setI w 238 0 0) := by
    simp only [p261_0, p261_1, p261_2, jwd_c, jwd_0, Nat.reduceLeDiff, Nat.reduceEqDiff, Nat.reduceAdd, Nat.reduceSub, Nat.reduceMul, Int.reduceAdd, Int.reduceSub, Int.reduceMul, Int.reduceNeg, Int.reduceEq, Int.reduceLT, Int.reduceLE, jq_ldi_i, jq_ldl_l, jq_lda_a, jq_inc_i, jq_gs_t, jq_gsb_t, jq_gb_t, jq_gr_2, jq_gr_4, jq_gw_2, jq_s_t, jq_b_t, jg_c, jg_n, js_c, js_n, jrm_c, jrm_n, j2_i, j2_l, j2_a, jq_c_i, jq_c_l, jq_c_0, jq_c_n, jwd_le, jw_c0, mS_I, mS_R, mS_J, mN_I, mN_R, mN_J, mR_I, mI_R, mJ_I, mJ_R, mI_J, mR_J, ↓reduceIte, decide_true, or_true, true_or, and_self, false_or, or_false, reduceCtorEq, Bool.false_eq_true, and_false, false_and, eq_self, true_and, and_true, zero_ne, hs0]
  rw [e00]
  clear e00
  generalize hw0 : setI w 238 0 0 = w0 at *
  have hq1 := hq0
  obtain ⟨hm, hh, h3⟩ := hq0
  have hge := hh.ge
  have er := m_refIn hm h3 x1 x2
  unfold A17
  by_cases ht : 0 ≤ t ∧ t ≤ 40
  · obtain ⟨x, u, e, ⟨m1, m2, m3, m4, m5, m6, m7, m8, m9, m10⟩, ex, km⟩ := mF_dances hq1 hv0 b (hu.z hw0) ht.1 ht.2
    obtain ⟨ex1, ex2, ex3, ex4⟩ := ex
    obtain ⟨⟨ra, rb, rw0, rp, r203⟩, zp, zs, zb, zt⟩ := gT_zb b ht.1 ht.2
    generalize gT H S q g t = z at *
    rw [ex1] at m4
    rw [ex2] at m5
    rw [ex4] at m7
    have h16 := ra.1
    rw [if_pos ht] at er ⊢
    have e1 := mwid_lp m1 m4 ra rb (t := t) (y := 0) (z.1.1 289 - 1).toNat 1 (-2) (by omega) (by omega) (by omega) (by omega)
    refine ⟨_, ?_, qM.fut hw0 km⟩
    simp (disch := omega) only [p261_0, p261_1, p261_2, p261_5, p261_6, p261_7, p261_10, p261_11, p261_12, p261_15, p261_16, p261_17, p261_20, p261_21, p261_22, p261_23, p261_26, p261_28, p261_29, p261_30, p261_34, p261_35, p261_38, p261_41, p261_42, p261_45, p261_46, p261_49, p261_51, p261_54, p261_55, p261_58, p261_59, p261_62, p261_64, p261_67, p261_70, p261_71, p261_72, p261_75, p261_78, p261_79, p261_80, p261_83, jwd_c, jwd_0, Nat.reduceLeDiff, Nat.reduceEqDiff, Nat.reduceAdd, Nat.reduceSub, Nat.reduceMul, Int.reduceAdd, Int.reduceSub, Int.reduceMul, Int.reduceNeg, Int.reduceEq, Int.reduceLT, Int.reduceLE, jq_ldi_i, jq_ldl_l, jq_lda_a, jq_inc_i, jq_gs_t, jq_gsb_t, jq_gb_t, jq_gr_2, jq_gr_4, jq_gw_2, jq_s_t, jq_b_t, jg_c, jg_n, js_c, js_n, jrm_c, jrm_n, j2_i, j2_l, j2_a, jq_c_i, jq_c_l, jq_c_0, jq_c_n, jwd_le, jw_c0, mS_I, mS_R, mS_J, mN_I, mN_R, mN_J, mR_I, mI_R, mJ_I, mJ_R, mI_J, mR_J, ↓reduceIte, decide_true, or_true, true_or, and_self, false_or, or_false, reduceCtorEq, Bool.false_eq_true, and_false, false_and, eq_self, true_and, and_true, zero_ne, ↓br_lt_t, ↓br_lt_f, ↓br_eq_t, ↓br_eq_f, ↓br_lz_t, ↓br_lz_f, ↓br_ez_t, ↓br_ez_f, ↓br_gz_t, ↓br_gz_f, jw_id, jin_t, jix_t, MO.s0 hm, MO.s1 hm, MO.s2 hm, MO.s3 hm, MO.s4 hm, MO.s5 hm, MO.s6 hm, MO.s7 hm, MO.s8 hm, MO.s9 hm, MO.s10 hm, MO.s11 hm, MO.s12 hm, MO.s13 hm, MO.r1 hm, MO.r2 hm, MO.r3 hm, MO.r4 hm, MO.r5 hm, MO.r6 hm, MO.r7 hm, MO.r8 hm, MO.r9 hm, MO.r10 hm, MO.r11 hm, MO.r12 hm, MO.r13 hm, er, e, e1]
  · rw [if_neg ht] at er ⊢
    refine ⟨_, ?_, qM.triv hw0⟩
    simp (disch := omega) only [p261_0, p261_1, p261_2, p261_5, p261_6, p261_7, p261_10, p261_11, p261_12, p261_15, p261_16, p261_17, p261_20, p261_21, p261_22, p261_23, p261_26, p261_28, p261_29, p261_30, p261_34, p261_35, p261_38, p261_41, p261_42, p261_45, p261_46, p261_49, p261_51, p261_54, p261_55, p261_58, p261_59, p261_62, p261_64, p261_67, p261_70, p261_71, p261_72, p261_75, p261_78, p261_79, p261_80, p261_83, p213_0, p213_1, p213_2, p213_5, p213_6, p213_7, p213_10, p213_11, p176_0, p176_1, p176_2, p176_5, p176_6, p176_7, p176_10, p176_11, jwd_c, jwd_0, Nat.reduceLeDiff, Nat.reduceEqDiff, Nat.reduceAdd, Nat.reduceSub, Nat.reduceMul, Int.reduceAdd, Int.reduceSub, Int.reduceMul, Int.reduceNeg, Int.reduceEq, Int.reduceLT, Int.reduceLE, jq_ldi_i, jq_ldl_l, jq_lda_a, jq_inc_i, jq_gs_t, jq_gsb_t, jq_gb_t, jq_gr_2, jq_gr_4, jq_gw_2, jq_s_t, jq_b_t, jg_c, jg_n, js_c, js_n, jrm_c, jrm_n, j2_i, j2_l, j2_a, jq_c_i, jq_c_l, jq_c_0, jq_c_n, jwd_le, jw_c0, mS_I, mS_R, mS_J, mN_I, mN_R, mN_J, mR_I, mI_R, mJ_I, mJ_R, mI_J, mR_J, ↓reduceIte, decide_true, or_true, true_or, and_self, false_or, or_false, reduceCtorEq, Bool.false_eq_true, and_false, false_and, eq_self, true_and, and_true, zero_ne, ↓br_lt_t, ↓br_lt_f, ↓br_eq_t, ↓br_eq_f, ↓br_lz_t, ↓br_lz_f, ↓br_ez_t, ↓br_ez_f, ↓br_gz_t, ↓br_gz_f, jw_id, jin_t, jix_t, MO.s0 hm, MO.s1 hm, MO.s2 hm, MO.s3 hm, MO.s4 hm, MO.s5 hm, MO.s6 hm, MO.s7 hm, MO.s8 hm, MO.s9 hm, MO.s10 hm, MO.s11 hm, MO.s12 hm, MO.s13 hm, MO.r1 hm, MO.r2 hm, MO.r3 hm, MO.r4 hm, MO.r5 hm, MO.r6 hm, MO.r7 hm, MO.r8 hm, MO.r9 hm, MO.r10 hm, MO.r11 hm, MO.r12 hm, MO.r13 hm, er]
end ASK4
