/-! The model: where it tears, when it is a ring. -/
section ASK5
variable {w u : jmW} {h : Nat} {H : Nat → Nat → Int} {r S q g : Nat → Int} {B : Int} {L : Int} {p al st : Int}
theorem f1_torn {x : gX} {z : gZ} (e : exq x z) (hs : z.2.1 = 0) (ht : z.2.2.2.1 = -2) : (((gBeat H L S 0 0 x).2.2.2.2 = -1 ∧ (gF1 H L S (-1) z).2.2.2.1 = -2) ∨ ((gBeat H L S 0 0 x).2.2.2.2 ≠ -1 ∧ (gF1 H L S (-1) z).2.2.2.1 = z.2.2.1 ∧ (gF1 H L S (-1) z).2.2.2.2.1 = (gBeat H L S 0 0 x).2.2.2.2)) := by
  obtain ⟨e1, e2, e3, e4⟩ := e
  by_cases q1 : 0 < gOver z.1.1
  · rw [beat_over (by rw [e1]; exact q1), f1_over q1]
    exact Or.inl ⟨rfl, ht⟩
  · rw [f1_go (al := 0) (st := 0) q1 rfl (by rw [hs]; rfl), beat_cg e1 e2 e3 e4]
    generalize gBeat H L S 0 0 z.1 = y
    dsimp only
    by_cases q2 : y.2.2.2.2 = -1
    · rw [if_neg (fun k => k.1 q2)]
      exact Or.inl ⟨q2, ht⟩
    · rw [if_pos ⟨q2, by omega⟩, if_pos ⟨q2, by omega⟩]
      exact Or.inr ⟨q2, rfl, rfl⟩
theorem tn_bd (hk : HOK H) (l2 : L ≤ 12) (s1 : ∀ k, k < 12 → 0 ≤ S k ∧ S k ≤ 3) {x : gX} (al1 : 0 ≤ al) (al3 : al ≤ 3) (ri : RI H B x.1) : -1 ≤ (gBeat H L S al st x).2.2.2.2 ∧ (gBeat H L S al st x).2.2.2.2 ≤ 44 := by
  obtain ⟨r, g, o, j, tn⟩ := x
  obtain ⟨ra, rb, rw0, rp, r203⟩ := ri
  dsimp only at ra rb rw0 rp r203
  by_cases q1 : 0 < gOver r
  · rw [beat_over q1]
    exact ⟨by show (-1 : Int) ≤ -1; omega, by show (-1 : Int) ≤ 44; omega⟩
  · have h16 := ra.1
    have r97 := ra.2.2.2.2.2.2.2.2.2.2.2.2.2.2.2.2
    obtain ⟨h97, hl⟩ := over_r r97 q1
    have eB : gBeat H L S al st (r, g, o, j, tn) = gB1 H o j (gB0 H L S (gSteps H r al st).toNat (up1 r 294 (r 294 + 1)) g) := if_neg q1
    have hdue : 0 ≤ gSteps H r al st ∧ gSteps H r al st ≤ 3 := by
      have m1 : 0 ≤ r 294 % H 0 5 := Int.emod_nonneg _ (by have := hk.2.1; omega)
      have m2 : r 294 % H 0 5 < H 0 5 := Int.emod_lt_of_pos _ (by have := hk.2.1; omega)
      have k7 := hk.2.2.2.2.2.2.1 (r 294 % H 0 5) m1 m2
      unfold gSteps
      split
      · split <;> omega
      · omega
    have ra2 : RA H (B + 1) (up1 r 294 (r 294 + 1)) := ra.up
    have eu : ∀ k, k ≠ 294 → up1 r 294 (r 294 + 1) k = r k := fun k hk => up1_n hk
    have rb2 : RB (up1 r 294 (r 294 + 1)) := RB_d (r := r) (fun k k1 k2 => eu k (by omega)) (eu _ (by omega)) (eu _ (by omega)) (eu _ (by omega)) (by omega) rb
    have rw2 : RW H (up1 r 294 (r 294 + 1)) := RW_c (fun k hk => eu k (by omega)) (eu _ (by omega)) ra rw0
    have rp2 : RP (up1 r 294 (r 294 + 1)) := RP_c (fun k k1 k2 => eu k (by omega)) (eu _ (by omega)) (eu _ (by omega)) (by omega) rp
    obtain ⟨y1, y2, y3, y4, y5, y6, y7⟩ := b0_ok hk l2 s1 ra2 rb2 rw2 rp2 (n := (gSteps H r al st).toNat) (by rw [eu _ (by omega)]; omega) g
    rw [eB]
    generalize gB0 H L S (gSteps H r al st).toNat (up1 r 294 (r 294 + 1)) g = x at *
    obtain ⟨r3, g3⟩ := x
    dsimp only at y1 y2 y3 y4
    by_cases q2 : r3 297 = 1
    · have eB1 : gB1 H o j (r3, g3) = (r3, g3, o, j, -1) := if_pos q2
      rw [eB1]
      exact ⟨by show (-1 : Int) ≤ -1; omega, by show (-1 : Int) ≤ 44; omega⟩
    · have eB1 : gB1 H o j (r3, g3) = gB5 H j (gFA (r3 289 - 1).toNat 1 (r3, g3)).2 (gB2 (gFA (r3 289 - 1).toNat 1 (r3, g3)).1 o) := if_neg q2
      rw [eB1]
      have h3 := y1.1
      obtain ⟨x1, x2, x3, x4, x5⟩ := fa_ok (r3 289 - 1).toNat 1 r3 g3 y1 y2 y3 y4 (by omega) (by omega)
      generalize (gFA (r3 289 - 1).toNat 1 (r3, g3)).1 = r4 at *
      have r4h := x1.1
      have ti := te_in (r := r4) (by omega)
      unfold gB5
      dsimp only
      unfold gB2
      by_cases z : gTi r4 < r4 289
      · rw [if_pos z]
        have b := (x2 (gTi r4) (by omega) z).1
        have h17 := x1.2.1
        exact ⟨by show -1 ≤ r4 (204 + gTi r4).toNat; omega, by show r4 (204 + gTi r4).toNat ≤ 44; omega⟩
      · rw [if_neg z]
        exact ⟨by show (-1 : Int) ≤ -1; omega, by show (-1 : Int) ≤ 44; omega⟩
theorem mtorn_loop (hk : HOK H) (l1 : 0 ≤ L) (l2 : L ≤ 12) (s1 : ∀ k, k < 12 → 0 ≤ S k ∧ S k ≤ 3) {t : Int} (t2 : t ≤ 100) : ∀ (n : Nat) (i : Int) (x : gX) (z : gZ) (w : jmW) (B : Int), MF w 242 h H L S 0 x → exq x z → z.2.1 = 0 → z.2.2.2.1 = -2 → z.2.2.1 = i → ZB H B (-1) z → B + n < 2147480000 → 0 ≤ i → i + n = t → ∃ u, rn 263 (10, [(0, jvr 238), (1, .inl t), (2, .inl i)], [], w) = some (some (.inl (gFr H L S (-1) n z).2.2.2.1), u) ∧ MO u ∧ ((gFr H L S (-1) n z).2.2.2.1 = -2 ∨ (0 ≤ (gFr H L S (-1) n z).2.2.2.1 ∧ mI u 238 33 = (gFr H L S (-1) n z).2.2.2.2.1)) ∧ Km 242 w u := by
  intro n
  induction n with
  | zero =>
    intro i x z w B m e hs ht hb hz hB i1 i2
    have e0 : (gFr H L S (-1) 0 z).2.2.2.1 = -2 := ht
    refine ⟨w, ?_, m.1, Or.inl e0, Km.rf _ _⟩
    have hm := m.1
    rw [e0, p263_10]
    simp (disch := omega) only [p263_0, p263_1, p263_4, p263_5, p263_8, p263_9, p263_11, p263_12, p263_15, p263_16, p263_17, p263_20, p263_21, p263_24, p263_25, p263_26, p263_29, p263_32, p263_33, p263_36, p263_37, p263_40, p263_41, p263_42, p263_45, p263_48, p263_50, jwd_c, jwd_0, Nat.reduceLeDiff, Nat.reduceEqDiff, Nat.reduceAdd, Nat.reduceSub, Nat.reduceMul, Int.reduceAdd, Int.reduceSub, Int.reduceMul, Int.reduceNeg, Int.reduceEq, Int.reduceLT, Int.reduceLE, jq_ldi_i, jq_ldl_l, jq_lda_a, jq_inc_i, jq_gs_t, jq_gsb_t, jq_gb_t, jq_gr_2, jq_gr_4, jq_gw_2, jq_s_t, jq_b_t, jg_c, jg_n, js_c, js_n, jrm_c, jrm_n, j2_i, j2_l, j2_a, jq_c_i, jq_c_l, jq_c_0, jq_c_n, jwd_le, jw_c0, mS_I, mS_R, mS_J, mN_I, mN_R, mN_J, mR_I, mI_R, mJ_I, mJ_R, mI_J, mR_J, ↓reduceIte, decide_true, or_true, true_or, and_self, false_or, or_false, reduceCtorEq, Bool.false_eq_true, and_false, false_and, eq_self, true_and, and_true, zero_ne, ↓br_lt_t, ↓br_lt_f, ↓br_eq_t, ↓br_eq_f, ↓br_lz_t, ↓br_lz_f, ↓br_ez_t, ↓br_ez_f, ↓br_gz_t, ↓br_gz_f, jw_id, jin_t, jix_t]
  | succ n ih =>
    intro i x z w B m e hs ht hb hz hB i1 i2
    have hm := m.1
    obtain ⟨w1, e1, m1, tn, k1, -⟩ := mF_beat m (Or.inr rfl) hk (by omega) (by omega) l1 l2 s1 (by rw [e.1]; exact hz.1) (by omega) (st := 0) (Or.inl rfl)
    have ex1 : exq (gBeat H L S 0 0 x) (gF1 H L S (-1) z) := e.step rfl (Or.inr (by rw [hs]; rfl))
    have hm1 := m1.1
    have eF : gFr H L S (-1) (n + 1) z = gFr H L S (-1) n (gF1 H L S (-1) z) := rfl
    have k2 : Km 242 w1 (setI w1 238 33 (mI w1 238 30)) := Km.I (by omega)
    have zb1 := f1_zb hk l2 s1 hz
    rw [eF]
    rcases f1_torn (H := H) (L := L) (S := S) e hs ht with ⟨y1, y2⟩ | ⟨y1, y2, y3⟩
    · rw [y1] at tn
      have m2 : MF (setI w1 238 33 (-1)) 242 h H L S 0 (gBeat H L S 0 0 x) := by
        obtain ⟨a1, a2, a3, a4, a5, a6, a7, a8, a9, a10⟩ := m1
        exact ⟨a1.frR rfl rfl, a2.frF (Fr.I (P := fun b => b = 238) rfl) (fun b hb => by omega), a3, by rw [mI_nb (by omega)]; exact a4, by rw [mI_nb (by omega)]; exact a5, by rw [mI_nk (by omega)]; exact a6, by rw [mI_nk (by omega)]; exact a7, by rw [mI_nk (by omega)]; exact a8, by rw [mI_nk (by omega)]; exact a9, by rw [mI_nb (by omega)]; exact a10⟩
      obtain ⟨u, e2, u1, u2, u3⟩ := ih (i + 1) _ _ (setI w1 238 33 (-1)) (B + 1) m2 ex1 (f1_s hs) y2 (by rw [f1_b, hb]) zb1 (by omega) (by omega) (by omega)
      rw [tn] at k2
      refine ⟨u, ?_, u1, u2, (k1.tr k2).tr u3⟩
      rw [← e2, p263_10]
      simp (disch := omega) only [p263_0, p263_1, p263_4, p263_5, p263_8, p263_9, p263_11, p263_12, p263_15, p263_16, p263_17, p263_20, p263_21, p263_24, p263_25, p263_26, p263_29, p263_32, p263_33, p263_36, p263_37, p263_40, p263_41, p263_42, p263_45, p263_48, p263_50, jwd_c, jwd_0, Nat.reduceLeDiff, Nat.reduceEqDiff, Nat.reduceAdd, Nat.reduceSub, Nat.reduceMul, Int.reduceAdd, Int.reduceSub, Int.reduceMul, Int.reduceNeg, Int.reduceEq, Int.reduceLT, Int.reduceLE, jq_ldi_i, jq_ldl_l, jq_lda_a, jq_inc_i, jq_gs_t, jq_gsb_t, jq_gb_t, jq_gr_2, jq_gr_4, jq_gw_2, jq_s_t, jq_b_t, jg_c, jg_n, js_c, js_n, jrm_c, jrm_n, j2_i, j2_l, j2_a, jq_c_i, jq_c_l, jq_c_0, jq_c_n, jwd_le, jw_c0, mS_I, mS_R, mS_J, mN_I, mN_R, mN_J, mR_I, mI_R, mJ_I, mJ_R, mI_J, mR_J, ↓reduceIte, decide_true, or_true, true_or, and_self, false_or, or_false, reduceCtorEq, Bool.false_eq_true, and_false, false_and, eq_self, true_and, and_true, zero_ne, ↓br_lt_t, ↓br_lt_f, ↓br_eq_t, ↓br_eq_f, ↓br_lz_t, ↓br_lz_f, ↓br_ez_t, ↓br_ez_f, ↓br_gz_t, ↓br_gz_f, jw_id, jin_t, jix_t, MO.s0 hm, MO.s1 hm, MO.s2 hm, MO.s3 hm, MO.s4 hm, MO.s5 hm, MO.s6 hm, MO.s7 hm, MO.s8 hm, MO.s9 hm, MO.s10 hm, MO.s11 hm, MO.s12 hm, MO.s13 hm, MO.r1 hm, MO.r2 hm, MO.r3 hm, MO.r4 hm, MO.r5 hm, MO.r6 hm, MO.r7 hm, MO.r8 hm, MO.r9 hm, MO.r10 hm, MO.r11 hm, MO.r12 hm, MO.r13 hm, e1, MO.s0 hm1, tn, mI_nk]
    · have kt := fr_ta (H := H) (L := L) (S := S) (p := -1) n (gF1 H L S (-1) z) (by omega)
      refine ⟨setI w1 238 33 (mI w1 238 30), ?_, hm1.frR rfl rfl, Or.inr ⟨by omega, by rw [kt.2, mI_s, tn, y3]⟩, k1.tr k2⟩
      rw [kt.1, y2, hb, p263_10]
      have tb := zb1.2.2.2.2
      have nb : ¬ jw (mI w1 238 30) = -1 := by
        have bo := tn_bd (H := H) (L := L) (S := S) (al := 0) (st := 0) hk l2 s1 (x := x) (B := B) (by omega) (by omega) (by rw [e.1]; exact hz.1)
        rw [tn, jw_id (by omega) (by omega)]
        exact y1
      simp (disch := omega) only [p263_0, p263_1, p263_4, p263_5, p263_8, p263_9, p263_11, p263_12, p263_15, p263_16, p263_17, p263_20, p263_21, p263_24, p263_25, p263_26, p263_29, p263_32, p263_33, p263_36, p263_37, p263_40, p263_41, p263_42, p263_45, p263_48, p263_50, jwd_c, jwd_0, Nat.reduceLeDiff, Nat.reduceEqDiff, Nat.reduceAdd, Nat.reduceSub, Nat.reduceMul, Int.reduceAdd, Int.reduceSub, Int.reduceMul, Int.reduceNeg, Int.reduceEq, Int.reduceLT, Int.reduceLE, jq_ldi_i, jq_ldl_l, jq_lda_a, jq_inc_i, jq_gs_t, jq_gsb_t, jq_gb_t, jq_gr_2, jq_gr_4, jq_gw_2, jq_s_t, jq_b_t, jg_c, jg_n, js_c, js_n, jrm_c, jrm_n, j2_i, j2_l, j2_a, jq_c_i, jq_c_l, jq_c_0, jq_c_n, jwd_le, jw_c0, mS_I, mS_R, mS_J, mN_I, mN_R, mN_J, mR_I, mI_R, mJ_I, mJ_R, mI_J, mR_J, ↓reduceIte, decide_true, or_true, true_or, and_self, false_or, or_false, reduceCtorEq, Bool.false_eq_true, and_false, false_and, eq_self, true_and, and_true, zero_ne, ↓br_lt_t, ↓br_lt_f, ↓br_eq_t, ↓br_eq_f, ↓br_lz_t, ↓br_lz_f, ↓br_ez_t, ↓br_ez_f, ↓br_gz_t, ↓br_gz_f, jw_id, jin_t, jix_t, MO.s0 hm, MO.s1 hm, MO.s2 hm, MO.s3 hm, MO.s4 hm, MO.s5 hm, MO.s6 hm, MO.s7 hm, MO.s8 hm, MO.s9 hm, MO.s10 hm, MO.s11 hm, MO.s12 hm, MO.s13 hm, MO.r1 hm, MO.r2 hm, MO.r3 hm, MO.r4 hm, MO.r5 hm, MO.r6 hm, MO.r7 hm, MO.r8 hm, MO.r9 hm, MO.r10 hm, MO.r11 hm, MO.r12 hm, MO.r13 hm, e1, MO.s0 hm1, mI_nk, if_neg nb]
theorem m_tornIn (hq : MQh w h H) (hv : mI w 241 = r) (b : fB H r S q g B) (hu : fU w H S q g) {t : Int} (t1 : 0 ≤ t) (t2 : t ≤ 40) : ∃ u, rn 263 (0, [(0, jvr 238), (1, .inl t)], [], w) = some (some (.inl (gT H S q g t).2.2.2.1), u) ∧ MO u ∧ ((gT H S q g t).2.2.2.1 = -2 ∨ (0 ≤ (gT H S q g t).2.2.2.1 ∧ mI u 238 33 = (gT H S q g t).2.2.2.2.1)) ∧ Km 242 w u := by
  obtain ⟨b1, b2, b3, b4, b5, b6, b7⟩ := b
  obtain ⟨u1, u2, u3⟩ := hu
  have k6 := b1.2.1
  have hm := hq.1
  obtain ⟨w1, e1, e2, m1, k1⟩ := mF_start hq (-1)
  rw [← u1, ← u2, ← u3] at m1
  obtain ⟨u, e3, m3, ex3, k3⟩ := mtorn_loop b1 (by omega) (by omega) (s_ok b2 b6) (t := t) (by omega) t.toNat 0 _ (gZ0 q g) w1 B m1 ⟨rfl, rfl, rfl, rfl⟩ rfl rfl rfl (zb0 (b7.ri b3) b4.1 (Or.inl rfl)) (by omega) (by omega) (by omega)
  refine ⟨u, ?_, m3, ex3, k1.tr k3⟩
  have e5 : gT H S q g t = gFr H (H 0 6) S (-1) t.toNat (gZ0 q g) := rfl
  rw [e5, ← e3]
  rw [← u1] at e1 e2
  have z2 : mS (setA w 242 q) 238 = (1, 9, 0) := hm.s0
  simp (disch := omega) only [p263_0, p263_1, p263_4, p263_5, p263_8, p263_9, p263_11, p263_12, p263_15, p263_16, p263_17, p263_20, p263_21, p263_24, p263_25, p263_26, p263_29, p263_32, p263_33, p263_36, p263_37, p263_40, p263_41, p263_42, p263_45, p263_48, p263_50, jwd_c, jwd_0, Nat.reduceLeDiff, Nat.reduceEqDiff, Nat.reduceAdd, Nat.reduceSub, Nat.reduceMul, Int.reduceAdd, Int.reduceSub, Int.reduceMul, Int.reduceNeg, Int.reduceEq, Int.reduceLT, Int.reduceLE, jq_ldi_i, jq_ldl_l, jq_lda_a, jq_inc_i, jq_gs_t, jq_gsb_t, jq_gb_t, jq_gr_2, jq_gr_4, jq_gw_2, jq_s_t, jq_b_t, jg_c, jg_n, js_c, js_n, jrm_c, jrm_n, j2_i, j2_l, j2_a, jq_c_i, jq_c_l, jq_c_0, jq_c_n, jwd_le, jw_c0, mS_I, mS_R, mS_J, mN_I, mN_R, mN_J, mR_I, mI_R, mJ_I, mJ_R, mI_J, mR_J, ↓reduceIte, decide_true, or_true, true_or, and_self, false_or, or_false, reduceCtorEq, Bool.false_eq_true, and_false, false_and, eq_self, true_and, and_true, zero_ne, ↓br_lt_t, ↓br_lt_f, ↓br_eq_t, ↓br_eq_f, ↓br_lz_t, ↓br_lz_f, ↓br_ez_t, ↓br_ez_f, ↓br_gz_t, ↓br_gz_f, jw_id, jin_t, jix_t, MO.s0 hm, MO.s1 hm, MO.s2 hm, MO.s3 hm, MO.s4 hm, MO.s5 hm, MO.s6 hm, MO.s7 hm, MO.s8 hm, MO.s9 hm, MO.s10 hm, MO.s11 hm, MO.s12 hm, MO.s13 hm, MO.r1 hm, MO.r2 hm, MO.r3 hm, MO.r4 hm, MO.r5 hm, MO.r6 hm, MO.r7 hm, MO.r8 hm, MO.r9 hm, MO.r10 hm, MO.r11 hm, MO.r12 hm, MO.r13 hm, e1, z2, e2]
theorem d_torn (hq : MQh w h H) (hv : mI w 241 = r) (b : fB H r S q g B) (hu : fU w H S q g) {t : Int} (x1 : -2147483648 ≤ t) (x2 : t < 2147483648) : ∃ u, rn 262 (0, [(0, jvr 238), (1, .inl t)], [], w) = some (some (.inl (A18 (gT H S q g t) t).1), u) ∧ qM w u (A18 (gT H S q g t) t).2 := by
  have hs0 := hq.1.s0
  have hq0 : MQh (setI w 238 0 0) h H := hq.z
  have hv0 : mI (setI w 238 0 0) 241 = r := (mI_nb (by omega)).trans hv
  have e00 : rn 262 (0, [(0, jvr 238), (1, .inl t)], [], w) = rn 262 (5, [(0, jvr 238), (1, .inl t)], [], setI w 238 0 0) := by
    simp only [p262_0, p262_1, p262_2, jwd_c, jwd_0, Nat.reduceLeDiff, Nat.reduceEqDiff, Nat.reduceAdd, Nat.reduceSub, Nat.reduceMul, Int.reduceAdd, Int.reduceSub, Int.reduceMul, Int.reduceNeg, Int.reduceEq, Int.reduceLT, Int.reduceLE, jq_ldi_i, jq_ldl_l, jq_lda_a, jq_inc_i, jq_gs_t, jq_gsb_t, jq_gb_t, jq_gr_2, jq_gr_4, jq_gw_2, jq_s_t, jq_b_t, jg_c, jg_n, js_c, js_n, jrm_c, jrm_n, j2_i, j2_l, j2_a, jq_c_i, jq_c_l, jq_c_0, jq_c_n, jwd_le, jw_c0, mS_I, mS_R, mS_J, mN_I, mN_R, mN_J, mR_I, mI_R, mJ_I, mJ_R, mI_J, mR_J, ↓reduceIte, decide_true, or_true, true_or, and_self, false_or, or_false, reduceCtorEq, Bool.false_eq_true, and_false, false_and, eq_self, true_and, and_true, zero_ne, hs0]
  rw [e00]
  clear e00
  generalize hw0 : setI w 238 0 0 = w0 at *
  have hq1 := hq0
  obtain ⟨hm, hh, h3⟩ := hq0
  have hge := hh.ge
  have er := m_refIn hm h3 x1 x2
  unfold A18
  by_cases ht : 0 ≤ t ∧ t ≤ 40
  · obtain ⟨u, e, m1, -, km⟩ := m_tornIn hq1 hv0 b (hu.z hw0) ht.1 ht.2
    rw [if_pos ht] at er ⊢
    refine ⟨_, ?_, qM.fut hw0 km⟩
    simp (disch := omega) only [p262_0, p262_1, p262_2, p262_5, p262_6, p262_7, p262_10, p262_11, p262_12, p262_15, p262_16, p262_17, p262_20, p262_23, p262_24, p262_25, p262_26, p262_29, p262_32, p213_0, p213_1, p213_2, p213_5, p213_6, p213_7, p213_10, p213_11, p176_0, p176_1, p176_2, p176_5, p176_6, p176_7, p176_10, p176_11, jwd_c, jwd_0, Nat.reduceLeDiff, Nat.reduceEqDiff, Nat.reduceAdd, Nat.reduceSub, Nat.reduceMul, Int.reduceAdd, Int.reduceSub, Int.reduceMul, Int.reduceNeg, Int.reduceEq, Int.reduceLT, Int.reduceLE, jq_ldi_i, jq_ldl_l, jq_lda_a, jq_inc_i, jq_gs_t, jq_gsb_t, jq_gb_t, jq_gr_2, jq_gr_4, jq_gw_2, jq_s_t, jq_b_t, jg_c, jg_n, js_c, js_n, jrm_c, jrm_n, j2_i, j2_l, j2_a, jq_c_i, jq_c_l, jq_c_0, jq_c_n, jwd_le, jw_c0, mS_I, mS_R, mS_J, mN_I, mN_R, mN_J, mR_I, mI_R, mJ_I, mJ_R, mI_J, mR_J, ↓reduceIte, decide_true, or_true, true_or, and_self, false_or, or_false, reduceCtorEq, Bool.false_eq_true, and_false, false_and, eq_self, true_and, and_true, zero_ne, ↓br_lt_t, ↓br_lt_f, ↓br_eq_t, ↓br_eq_f, ↓br_lz_t, ↓br_lz_f, ↓br_ez_t, ↓br_ez_f, ↓br_gz_t, ↓br_gz_f, jw_id, jin_t, jix_t, MO.s0 hm, MO.s1 hm, MO.s2 hm, MO.s3 hm, MO.s4 hm, MO.s5 hm, MO.s6 hm, MO.s7 hm, MO.s8 hm, MO.s9 hm, MO.s10 hm, MO.s11 hm, MO.s12 hm, MO.s13 hm, MO.r1 hm, MO.r2 hm, MO.r3 hm, MO.r4 hm, MO.r5 hm, MO.r6 hm, MO.r7 hm, MO.r8 hm, MO.r9 hm, MO.r10 hm, MO.r11 hm, MO.r12 hm, MO.r13 hm, er, e, MO.s0 m1]
  · rw [if_neg ht] at er ⊢
    refine ⟨_, ?_, qM.triv hw0⟩
    simp (disch := omega) only [p262_0, p262_1, p262_2, p262_5, p262_6, p262_7, p262_10, p262_11, p262_12, p262_15, p262_16, p262_17, p262_20, p262_23, p262_24, p262_25, p262_26, p262_29, p262_32, p213_0, p213_1, p213_2, p213_5, p213_6, p213_7, p213_10, p213_11, p176_0, p176_1, p176_2, p176_5, p176_6, p176_7, p176_10, p176_11, jwd_c, jwd_0, Nat.reduceLeDiff, Nat.reduceEqDiff, Nat.reduceAdd, Nat.reduceSub, Nat.reduceMul, Int.reduceAdd, Int.reduceSub, Int.reduceMul, Int.reduceNeg, Int.reduceEq, Int.reduceLT, Int.reduceLE, jq_ldi_i, jq_ldl_l, jq_lda_a, jq_inc_i, jq_gs_t, jq_gsb_t, jq_gb_t, jq_gr_2, jq_gr_4, jq_gw_2, jq_s_t, jq_b_t, jg_c, jg_n, js_c, js_n, jrm_c, jrm_n, j2_i, j2_l, j2_a, jq_c_i, jq_c_l, jq_c_0, jq_c_n, jwd_le, jw_c0, mS_I, mS_R, mS_J, mN_I, mN_R, mN_J, mR_I, mI_R, mJ_I, mJ_R, mI_J, mR_J, ↓reduceIte, decide_true, or_true, true_or, and_self, false_or, or_false, reduceCtorEq, Bool.false_eq_true, and_false, false_and, eq_self, true_and, and_true, zero_ne, ↓br_lt_t, ↓br_lt_f, ↓br_eq_t, ↓br_eq_f, ↓br_lz_t, ↓br_lz_f, ↓br_ez_t, ↓br_ez_f, ↓br_gz_t, ↓br_gz_f, jw_id, jin_t, jix_t, MO.s0 hm, MO.s1 hm, MO.s2 hm, MO.s3 hm, MO.s4 hm, MO.s5 hm, MO.s6 hm, MO.s7 hm, MO.s8 hm, MO.s9 hm, MO.s10 hm, MO.s11 hm, MO.s12 hm, MO.s13 hm, MO.r1 hm, MO.r2 hm, MO.r3 hm, MO.r4 hm, MO.r5 hm, MO.r6 hm, MO.r7 hm, MO.r8 hm, MO.r9 hm, MO.r10 hm, MO.r11 hm, MO.r12 hm, MO.r13 hm, er]
theorem d_tornBy (hq : MQh w h H) (hv : mI w 241 = r) (b : fB H r S q g B) (hu : fU w H S q g) {t : Int} (x1 : -2147483648 ≤ t) (x2 : t < 2147483648) : ∃ u, rn 264 (0, [(0, jvr 238), (1, .inl t)], [], w) = some (some (.inl (A19 (gT H S q g t) t).1), u) ∧ qM w u (A19 (gT H S q g t) t).2 := by
  have hs0 := hq.1.s0
  have hq0 : MQh (setI w 238 0 0) h H := hq.z
  have hv0 : mI (setI w 238 0 0) 241 = r := (mI_nb (by omega)).trans hv
  have e00 : rn 264 (0, [(0, jvr 238), (1, .inl t)], [], w) = rn 264 (5, [(0, jvr 238), (1, .inl t)], [], setI w 238 0 0) := by
    simp only [p264_0, p264_1, p264_2, jwd_c, jwd_0, Nat.reduceLeDiff, Nat.reduceEqDiff, Nat.reduceAdd, Nat.reduceSub, Nat.reduceMul, Int.reduceAdd, Int.reduceSub, Int.reduceMul, Int.reduceNeg, Int.reduceEq, Int.reduceLT, Int.reduceLE, jq_ldi_i, jq_ldl_l, jq_lda_a, jq_inc_i, jq_gs_t, jq_gsb_t, jq_gb_t, jq_gr_2, jq_gr_4, jq_gw_2, jq_s_t, jq_b_t, jg_c, jg_n, js_c, js_n, jrm_c, jrm_n, j2_i, j2_l, j2_a, jq_c_i, jq_c_l, jq_c_0, jq_c_n, jwd_le, jw_c0, mS_I, mS_R, mS_J, mN_I, mN_R, mN_J, mR_I, mI_R, mJ_I, mJ_R, mI_J, mR_J, ↓reduceIte, decide_true, or_true, true_or, and_self, false_or, or_false, reduceCtorEq, Bool.false_eq_true, and_false, false_and, eq_self, true_and, and_true, zero_ne, hs0]
  rw [e00]
  clear e00
  generalize hw0 : setI w 238 0 0 = w0 at *
  have hq1 := hq0
  obtain ⟨hm, hh, h3⟩ := hq0
  have hge := hh.ge
  have er := m_refIn hm h3 x1 x2
  have b4 := b.2.2.2.1
  unfold A19
  by_cases ht : 0 ≤ t ∧ t ≤ 40
  · obtain ⟨u, e, m1, tt, km⟩ := m_tornIn hq1 hv0 b (hu.z hw0) ht.1 ht.2
    have zb := (gT_zb b ht.1 ht.2).2.2.2.2
    generalize gT H S q g t = z at *
    rw [if_pos ht] at er ⊢
    rcases tt with tt | ⟨tt, t3⟩
    · rw [if_pos (by omega)]
      refine ⟨_, ?_, qM.fut hw0 km⟩
      simp (disch := omega) only [p264_0, p264_1, p264_2, p264_5, p264_6, p264_7, p264_10, p264_11, p264_12, p264_15, p264_16, p264_17, p264_20, p264_21, p264_22, p264_23, p264_26, p264_28, p264_31, p264_32, p264_34, p264_37, p264_40, p264_41, p264_42, p264_45, p264_48, p213_0, p213_1, p213_2, p213_5, p213_6, p213_7, p213_10, p213_11, p176_0, p176_1, p176_2, p176_5, p176_6, p176_7, p176_10, p176_11, jwd_c, jwd_0, Nat.reduceLeDiff, Nat.reduceEqDiff, Nat.reduceAdd, Nat.reduceSub, Nat.reduceMul, Int.reduceAdd, Int.reduceSub, Int.reduceMul, Int.reduceNeg, Int.reduceEq, Int.reduceLT, Int.reduceLE, jq_ldi_i, jq_ldl_l, jq_lda_a, jq_inc_i, jq_gs_t, jq_gsb_t, jq_gb_t, jq_gr_2, jq_gr_4, jq_gw_2, jq_s_t, jq_b_t, jg_c, jg_n, js_c, js_n, jrm_c, jrm_n, j2_i, j2_l, j2_a, jq_c_i, jq_c_l, jq_c_0, jq_c_n, jwd_le, jw_c0, mS_I, mS_R, mS_J, mN_I, mN_R, mN_J, mR_I, mI_R, mJ_I, mJ_R, mI_J, mR_J, ↓reduceIte, decide_true, or_true, true_or, and_self, false_or, or_false, reduceCtorEq, Bool.false_eq_true, and_false, false_and, eq_self, true_and, and_true, zero_ne, ↓br_lt_t, ↓br_lt_f, ↓br_eq_t, ↓br_eq_f, ↓br_lz_t, ↓br_lz_f, ↓br_ez_t, ↓br_ez_f, ↓br_gz_t, ↓br_gz_f, jw_id, jin_t, jix_t, MO.s0 hm, MO.s1 hm, MO.s2 hm, MO.s3 hm, MO.s4 hm, MO.s5 hm, MO.s6 hm, MO.s7 hm, MO.s8 hm, MO.s9 hm, MO.s10 hm, MO.s11 hm, MO.s12 hm, MO.s13 hm, MO.r1 hm, MO.r2 hm, MO.r3 hm, MO.r4 hm, MO.r5 hm, MO.r6 hm, MO.r7 hm, MO.r8 hm, MO.r9 hm, MO.r10 hm, MO.r11 hm, MO.r12 hm, MO.r13 hm, er, e, MO.s0 m1]
    · rw [if_neg (by omega)]
      refine ⟨_, ?_, qM.fut hw0 km⟩
      simp (disch := omega) only [p264_0, p264_1, p264_2, p264_5, p264_6, p264_7, p264_10, p264_11, p264_12, p264_15, p264_16, p264_17, p264_20, p264_21, p264_22, p264_23, p264_26, p264_28, p264_31, p264_32, p264_34, p264_37, p264_40, p264_41, p264_42, p264_45, p264_48, p213_0, p213_1, p213_2, p213_5, p213_6, p213_7, p213_10, p213_11, p176_0, p176_1, p176_2, p176_5, p176_6, p176_7, p176_10, p176_11, jwd_c, jwd_0, Nat.reduceLeDiff, Nat.reduceEqDiff, Nat.reduceAdd, Nat.reduceSub, Nat.reduceMul, Int.reduceAdd, Int.reduceSub, Int.reduceMul, Int.reduceNeg, Int.reduceEq, Int.reduceLT, Int.reduceLE, jq_ldi_i, jq_ldl_l, jq_lda_a, jq_inc_i, jq_gs_t, jq_gsb_t, jq_gb_t, jq_gr_2, jq_gr_4, jq_gw_2, jq_s_t, jq_b_t, jg_c, jg_n, js_c, js_n, jrm_c, jrm_n, j2_i, j2_l, j2_a, jq_c_i, jq_c_l, jq_c_0, jq_c_n, jwd_le, jw_c0, mS_I, mS_R, mS_J, mN_I, mN_R, mN_J, mR_I, mI_R, mJ_I, mJ_R, mI_J, mR_J, ↓reduceIte, decide_true, or_true, true_or, and_self, false_or, or_false, reduceCtorEq, Bool.false_eq_true, and_false, false_and, eq_self, true_and, and_true, zero_ne, ↓br_lt_t, ↓br_lt_f, ↓br_eq_t, ↓br_eq_f, ↓br_lz_t, ↓br_lz_f, ↓br_ez_t, ↓br_ez_f, ↓br_gz_t, ↓br_gz_f, jw_id, jin_t, jix_t, MO.s0 hm, MO.s1 hm, MO.s2 hm, MO.s3 hm, MO.s4 hm, MO.s5 hm, MO.s6 hm, MO.s7 hm, MO.s8 hm, MO.s9 hm, MO.s10 hm, MO.s11 hm, MO.s12 hm, MO.s13 hm, MO.r1 hm, MO.r2 hm, MO.r3 hm, MO.r4 hm, MO.r5 hm, MO.r6 hm, MO.r7 hm, MO.r8 hm, MO.r9 hm, MO.r10 hm, MO.r11 hm, MO.r12 hm, MO.r13 hm, er, e, MO.s0 m1, t3]
  · rw [if_neg ht] at er ⊢
    refine ⟨_, ?_, qM.triv hw0⟩
    simp (disch := omega) only [p264_0, p264_1, p264_2, p264_5, p264_6, p264_7, p264_10, p264_11, p264_12, p264_15, p264_16, p264_17, p264_20, p264_21, p264_22, p264_23, p264_26, p264_28, p264_31, p264_32, p264_34, p264_37, p264_40, p264_41, p264_42, p264_45, p264_48, p213_0, p213_1, p213_2, p213_5, p213_6, p213_7, p213_10, p213_11, p176_0, p176_1, p176_2, p176_5, p176_6, p176_7, p176_10, p176_11, jwd_c, jwd_0, Nat.reduceLeDiff, Nat.reduceEqDiff, Nat.reduceAdd, Nat.reduceSub, Nat.reduceMul, Int.reduceAdd, Int.reduceSub, Int.reduceMul, Int.reduceNeg, Int.reduceEq, Int.reduceLT, Int.reduceLE, jq_ldi_i, jq_ldl_l, jq_lda_a, jq_inc_i, jq_gs_t, jq_gsb_t, jq_gb_t, jq_gr_2, jq_gr_4, jq_gw_2, jq_s_t, jq_b_t, jg_c, jg_n, js_c, js_n, jrm_c, jrm_n, j2_i, j2_l, j2_a, jq_c_i, jq_c_l, jq_c_0, jq_c_n, jwd_le, jw_c0, mS_I, mS_R, mS_J, mN_I, mN_R, mN_J, mR_I, mI_R, mJ_I, mJ_R, mI_J, mR_J, ↓reduceIte, decide_true, or_true, true_or, and_self, false_or, or_false, reduceCtorEq, Bool.false_eq_true, and_false, false_and, eq_self, true_and, and_true, zero_ne, ↓br_lt_t, ↓br_lt_f, ↓br_eq_t, ↓br_eq_f, ↓br_lz_t, ↓br_lz_f, ↓br_ez_t, ↓br_ez_f, ↓br_gz_t, ↓br_gz_f, jw_id, jin_t, jix_t, MO.s0 hm, MO.s1 hm, MO.s2 hm, MO.s3 hm, MO.s4 hm, MO.s5 hm, MO.s6 hm, MO.s7 hm, MO.s8 hm, MO.s9 hm, MO.s10 hm, MO.s11 hm, MO.s12 hm, MO.s13 hm, MO.r1 hm, MO.r2 hm, MO.r3 hm, MO.r4 hm, MO.r5 hm, MO.r6 hm, MO.r7 hm, MO.r8 hm, MO.r9 hm, MO.r10 hm, MO.r11 hm, MO.r12 hm, MO.r13 hm, er]
theorem mring_loop (hk : HOK H) (l1 : 0 ≤ L) (l2 : L ≤ 12) (s1 : ∀ k, k < 12 → 0 ≤ S k ∧ S k ≤ 3) {t y : Int} (t2 : t ≤ 100) : ∀ (n : Nat) (i : Int) (x : gX) (z : gZ) (w : jmW) (B : Int), MF w 242 h H L S 0 x → mI w 241 297 = 0 → exq x z → z.2.1 = 0 → z.1.1 297 = 0 → z.2.2.2.2.2 = -2 → z.2.2.1 = i - 1 → ZB H B (-1) z → B + n < 2147480000 → 1 ≤ i → i + n = t + 1 → ∃ u, rn 266 (31, [(0, jvr 238), (1, .inl t), (2, .inl y), (3, .inl i)], [], w) = some (some (.inl (gFr H L S (-1) n z).2.2.2.2.2), setI (setI u 238 1 0) 238 2 (-1)) ∧ Km 242 w u := by
  intro n
  induction n with
  | zero =>
    intro i x z w B m hv e hs h97 hri hb hz hB i1 i2
    have e0 : (gFr H L S (-1) 0 z).2.2.2.2.2 = -2 := hri
    refine ⟨w, ?_, Km.rf _ _⟩
    have hm := m.1
    rw [e0, p266_31]
    simp (disch := omega) only [p266_0, p266_1, p266_2, p266_5, p266_6, p266_7, p266_10, p266_11, p266_12, p266_15, p266_16, p266_17, p266_20, p266_21, p266_22, p266_25, p266_26, p266_29, p266_30, p266_32, p266_33, p266_36, p266_37, p266_40, p266_43, p266_44, p266_47, p266_48, p266_49, p266_52, p266_53, p266_56, p266_57, p266_60, p266_63, p266_64, p266_65, p266_68, p266_69, p266_70, p266_73, p266_74, p266_77, p266_80, p266_81, p266_83, p266_86, p213_0, p213_1, p213_2, p213_5, p213_6, p213_7, p213_10, p213_11, p176_0, p176_1, p176_2, p176_5, p176_6, p176_7, p176_10, p176_11, jwd_c, jwd_0, Nat.reduceLeDiff, Nat.reduceEqDiff, Nat.reduceAdd, Nat.reduceSub, Nat.reduceMul, Int.reduceAdd, Int.reduceSub, Int.reduceMul, Int.reduceNeg, Int.reduceEq, Int.reduceLT, Int.reduceLE, jq_ldi_i, jq_ldl_l, jq_lda_a, jq_inc_i, jq_gs_t, jq_gsb_t, jq_gb_t, jq_gr_2, jq_gr_4, jq_gw_2, jq_s_t, jq_b_t, jg_c, jg_n, js_c, js_n, jrm_c, jrm_n, j2_i, j2_l, j2_a, jq_c_i, jq_c_l, jq_c_0, jq_c_n, jwd_le, jw_c0, mS_I, mS_R, mS_J, mN_I, mN_R, mN_J, mR_I, mI_R, mJ_I, mJ_R, mI_J, mR_J, ↓reduceIte, decide_true, or_true, true_or, and_self, false_or, or_false, reduceCtorEq, Bool.false_eq_true, and_false, false_and, eq_self, true_and, and_true, zero_ne, ↓br_lt_t, ↓br_lt_f, ↓br_eq_t, ↓br_eq_f, ↓br_lz_t, ↓br_lz_f, ↓br_ez_t, ↓br_ez_f, ↓br_gz_t, ↓br_gz_f, jw_id, jin_t, jix_t, MO.s0 hm, MO.s1 hm, MO.s2 hm, MO.s3 hm, MO.s4 hm, MO.s5 hm, MO.s6 hm, MO.s7 hm, MO.s8 hm, MO.s9 hm, MO.s10 hm, MO.s11 hm, MO.s12 hm, MO.s13 hm, MO.r1 hm, MO.r2 hm, MO.r3 hm, MO.r4 hm, MO.r5 hm, MO.r6 hm, MO.r7 hm, MO.r8 hm, MO.r9 hm, MO.r10 hm, MO.r11 hm, MO.r12 hm, MO.r13 hm]
  | succ n ih =>
    intro i x z w B m hv e hs h97 hri hb hz hB i1 i2
    have hm := m.1
    obtain ⟨w1, e1, m1, tn, k1, -⟩ := mF_beat m (Or.inr rfl) hk (by omega) (by omega) l1 l2 s1 (by rw [e.1]; exact hz.1) (by omega) (st := 0) (Or.inl rfl)
    have ex1 : exq (gBeat H L S 0 0 x) (gF1 H L S (-1) z) := e.step rfl (Or.inr (by rw [hs]; rfl))
    have hm1 := m1.1
    have eF : gFr H L S (-1) (n + 1) z = gFr H L S (-1) n (gF1 H L S (-1) z) := rfl
    have zb1 := f1_zb hk l2 s1 hz
    have r97 := zb1.1.1.2.2.2.2.2.2.2.2.2.2.2.2.2.2.2.2
    have v1 : mI w1 241 297 = 0 := by
      rw [k1.1.Iq (b := 241) (by omega)]
      exact hv
    have m4 : mI w1 242 = (gF1 H L S (-1) z).1.1 := by rw [m1.2.2.2.1, ex1.1]
    have rr : (gF1 H L S (-1) z).2.2.2.2.2 = if (gF1 H L S (-1) z).1.1 297 = 1 then i else -2 := by
      by_cases q1 : 0 < gOver z.1.1
      · rw [f1_over q1]
        dsimp only
        rw [if_neg (by omega)]
        exact hri
      · rw [f1_go (al := 0) (st := 0) q1 rfl (by rw [hs]; rfl)]
        dsimp only
        rw [hb, hri, show i - 1 + 1 = i by omega]
    rw [eF]
    by_cases q1 : (gF1 H L S (-1) z).1.1 297 = 1
    · rw [if_pos q1] at rr
      have ov : 0 < gOver (gF1 H L S (-1) z).1.1 := by
        unfold gOver
        rw [if_pos q1]
        omega
      have kt := fr_over (H := H) (L := L) (S := S) (p := -1) n _ ov
      refine ⟨w1, ?_, k1⟩
      rw [kt.2, rr, p266_31]
      simp (disch := omega) only [p266_0, p266_1, p266_2, p266_5, p266_6, p266_7, p266_10, p266_11, p266_12, p266_15, p266_16, p266_17, p266_20, p266_21, p266_22, p266_25, p266_26, p266_29, p266_30, p266_32, p266_33, p266_36, p266_37, p266_40, p266_43, p266_44, p266_47, p266_48, p266_49, p266_52, p266_53, p266_56, p266_57, p266_60, p266_63, p266_64, p266_65, p266_68, p266_69, p266_70, p266_73, p266_74, p266_77, p266_80, p266_81, p266_83, p266_86, p213_0, p213_1, p213_2, p213_5, p213_6, p213_7, p213_10, p213_11, p176_0, p176_1, p176_2, p176_5, p176_6, p176_7, p176_10, p176_11, jwd_c, jwd_0, Nat.reduceLeDiff, Nat.reduceEqDiff, Nat.reduceAdd, Nat.reduceSub, Nat.reduceMul, Int.reduceAdd, Int.reduceSub, Int.reduceMul, Int.reduceNeg, Int.reduceEq, Int.reduceLT, Int.reduceLE, jq_ldi_i, jq_ldl_l, jq_lda_a, jq_inc_i, jq_gs_t, jq_gsb_t, jq_gb_t, jq_gr_2, jq_gr_4, jq_gw_2, jq_s_t, jq_b_t, jg_c, jg_n, js_c, js_n, jrm_c, jrm_n, j2_i, j2_l, j2_a, jq_c_i, jq_c_l, jq_c_0, jq_c_n, jwd_le, jw_c0, mS_I, mS_R, mS_J, mN_I, mN_R, mN_J, mR_I, mI_R, mJ_I, mJ_R, mI_J, mR_J, ↓reduceIte, decide_true, or_true, true_or, and_self, false_or, or_false, reduceCtorEq, Bool.false_eq_true, and_false, false_and, eq_self, true_and, and_true, zero_ne, ↓br_lt_t, ↓br_lt_f, ↓br_eq_t, ↓br_eq_f, ↓br_lz_t, ↓br_lz_f, ↓br_ez_t, ↓br_ez_f, ↓br_gz_t, ↓br_gz_f, jw_id, jin_t, jix_t, MO.s0 hm, MO.s1 hm, MO.s2 hm, MO.s3 hm, MO.s4 hm, MO.s5 hm, MO.s6 hm, MO.s7 hm, MO.s8 hm, MO.s9 hm, MO.s10 hm, MO.s11 hm, MO.s12 hm, MO.s13 hm, MO.r1 hm, MO.r2 hm, MO.r3 hm, MO.r4 hm, MO.r5 hm, MO.r6 hm, MO.r7 hm, MO.r8 hm, MO.r9 hm, MO.r10 hm, MO.r11 hm, MO.r12 hm, MO.r13 hm, hv, e1, MO.s0 hm1, MO.r4 hm1, MO.s4 hm1, m4, Int.reduceToNat, q1]
    · have q0 : (gF1 H L S (-1) z).1.1 297 = 0 := by omega
      rw [if_neg q1] at rr
      obtain ⟨u, e2, u2⟩ := ih (i + 1) _ _ w1 (B + 1) m1 v1 ex1 (f1_s hs) q0 rr (by rw [f1_b, hb]; omega) zb1 (by omega) (by omega) (by omega)
      refine ⟨u, ?_, k1.tr u2⟩
      rw [← e2, p266_31]
      simp (disch := omega) only [p266_0, p266_1, p266_2, p266_5, p266_6, p266_7, p266_10, p266_11, p266_12, p266_15, p266_16, p266_17, p266_20, p266_21, p266_22, p266_25, p266_26, p266_29, p266_30, p266_32, p266_33, p266_36, p266_37, p266_40, p266_43, p266_44, p266_47, p266_48, p266_49, p266_52, p266_53, p266_56, p266_57, p266_60, p266_63, p266_64, p266_65, p266_68, p266_69, p266_70, p266_73, p266_74, p266_77, p266_80, p266_81, p266_83, p266_86, p213_0, p213_1, p213_2, p213_5, p213_6, p213_7, p213_10, p213_11, p176_0, p176_1, p176_2, p176_5, p176_6, p176_7, p176_10, p176_11, jwd_c, jwd_0, Nat.reduceLeDiff, Nat.reduceEqDiff, Nat.reduceAdd, Nat.reduceSub, Nat.reduceMul, Int.reduceAdd, Int.reduceSub, Int.reduceMul, Int.reduceNeg, Int.reduceEq, Int.reduceLT, Int.reduceLE, jq_ldi_i, jq_ldl_l, jq_lda_a, jq_inc_i, jq_gs_t, jq_gsb_t, jq_gb_t, jq_gr_2, jq_gr_4, jq_gw_2, jq_s_t, jq_b_t, jg_c, jg_n, js_c, js_n, jrm_c, jrm_n, j2_i, j2_l, j2_a, jq_c_i, jq_c_l, jq_c_0, jq_c_n, jwd_le, jw_c0, mS_I, mS_R, mS_J, mN_I, mN_R, mN_J, mR_I, mI_R, mJ_I, mJ_R, mI_J, mR_J, ↓reduceIte, decide_true, or_true, true_or, and_self, false_or, or_false, reduceCtorEq, Bool.false_eq_true, and_false, false_and, eq_self, true_and, and_true, zero_ne, ↓br_lt_t, ↓br_lt_f, ↓br_eq_t, ↓br_eq_f, ↓br_lz_t, ↓br_lz_f, ↓br_ez_t, ↓br_ez_f, ↓br_gz_t, ↓br_gz_f, jw_id, jin_t, jix_t, MO.s0 hm, MO.s1 hm, MO.s2 hm, MO.s3 hm, MO.s4 hm, MO.s5 hm, MO.s6 hm, MO.s7 hm, MO.s8 hm, MO.s9 hm, MO.s10 hm, MO.s11 hm, MO.s12 hm, MO.s13 hm, MO.r1 hm, MO.r2 hm, MO.r3 hm, MO.r4 hm, MO.r5 hm, MO.r6 hm, MO.r7 hm, MO.r8 hm, MO.r9 hm, MO.r10 hm, MO.r11 hm, MO.r12 hm, MO.r13 hm, hv, e1, MO.s0 hm1, MO.r4 hm1, MO.s4 hm1, m4, Int.reduceToNat, q0]
theorem d_ring (hq : MQh w h H) (hv : mI w 241 = r) (b : fB H r S q g B) (hu : fU w H S q g) {t : Int} (x1 : -2147483648 ≤ t) (x2 : t < 2147483648) : ∃ u, rn 266 (0, [(0, jvr 238), (1, .inl t)], [], w) = some (some (.inl (A21 (gT H S q g t) t).1), u) ∧ qM w u (A21 (gT H S q g t) t).2 := by
  have hs0 := hq.1.s0
  have hq0 : MQh (setI w 238 0 0) h H := hq.z
  have hv0 : mI (setI w 238 0 0) 241 = r := (mI_nb (by omega)).trans hv
  have e00 : rn 266 (0, [(0, jvr 238), (1, .inl t)], [], w) = rn 266 (5, [(0, jvr 238), (1, .inl t)], [], setI w 238 0 0) := by
    simp only [p266_0, p266_1, p266_2, jwd_c, jwd_0, Nat.reduceLeDiff, Nat.reduceEqDiff, Nat.reduceAdd, Nat.reduceSub, Nat.reduceMul, Int.reduceAdd, Int.reduceSub, Int.reduceMul, Int.reduceNeg, Int.reduceEq, Int.reduceLT, Int.reduceLE, jq_ldi_i, jq_ldl_l, jq_lda_a, jq_inc_i, jq_gs_t, jq_gsb_t, jq_gb_t, jq_gr_2, jq_gr_4, jq_gw_2, jq_s_t, jq_b_t, jg_c, jg_n, js_c, js_n, jrm_c, jrm_n, j2_i, j2_l, j2_a, jq_c_i, jq_c_l, jq_c_0, jq_c_n, jwd_le, jw_c0, mS_I, mS_R, mS_J, mN_I, mN_R, mN_J, mR_I, mI_R, mJ_I, mJ_R, mI_J, mR_J, ↓reduceIte, decide_true, or_true, true_or, and_self, false_or, or_false, reduceCtorEq, Bool.false_eq_true, and_false, false_and, eq_self, true_and, and_true, zero_ne, hs0]
  rw [e00]
  clear e00
  generalize hw0 : setI w 238 0 0 = w0 at *
  have hq1 := hq0
  obtain ⟨hm, hh, h3⟩ := hq0
  have hge := hh.ge
  have er := m_refIn hm h3 x1 x2
  unfold A21
  by_cases ht : 0 ≤ t ∧ t ≤ 40
  · have hb := b
    obtain ⟨b1, b2, b3, b4, b5, b6, b7⟩ := b
    obtain ⟨u1, u2, u3⟩ := hu.z hw0
    have k6 := b1.2.1
    have r97 := b3.1.2.2.2.2.2.2.2.2.2.2.2.2.2.2.2.2
    have q97 : q 297 = r 297 := b7 297 (by omega)
    obtain ⟨w1, e1, e2, m1, k1⟩ := mF_start hq1 (-1)
    rw [← u1, ← u2, ← u3] at m1
    have v1 : mI w1 241 = r := by
      rw [k1.1.Iq (b := 241) (by omega)]
      exact hv0
    have z2 : mS (setA w0 242 q) 238 = (1, 9, 0) := hm.s0
    have e5 : gT H S q g t = gFr H (H 0 6) S (-1) t.toNat (gZ0 q g) := rfl
    rw [if_pos ht] at er ⊢
    rw [← u1] at e1 e2
    by_cases q1 : r 297 = 0
    · obtain ⟨u, e3, k3⟩ := mring_loop b1 (by omega) (by omega) (s_ok b2 b6) (t := t) (y := 0) (by omega) t.toNat 1 _ (gZ0 q g) w1 B m1 (by rw [v1]; exact q1) ⟨rfl, rfl, rfl, rfl⟩ rfl (by show q 297 = 0; omega) rfl rfl (zb0 (b7.ri b3) b4.1 (Or.inl rfl)) (by omega) (by omega) (by omega)
      refine ⟨_, ?_, qM.fut hw0 (k1.tr k3)⟩
      rw [e5, ← e3]
      simp (disch := omega) only [p266_0, p266_1, p266_2, p266_5, p266_6, p266_7, p266_10, p266_11, p266_12, p266_15, p266_16, p266_17, p266_20, p266_21, p266_22, p266_25, p266_26, p266_29, p266_30, p266_32, p266_33, p266_36, p266_37, p266_40, p266_43, p266_44, p266_47, p266_48, p266_49, p266_52, p266_53, p266_56, p266_57, p266_60, p266_63, p266_64, p266_65, p266_68, p266_69, p266_70, p266_73, p266_74, p266_77, p266_80, p266_81, p266_83, p266_86, jwd_c, jwd_0, Nat.reduceLeDiff, Nat.reduceEqDiff, Nat.reduceAdd, Nat.reduceSub, Nat.reduceMul, Int.reduceAdd, Int.reduceSub, Int.reduceMul, Int.reduceNeg, Int.reduceEq, Int.reduceLT, Int.reduceLE, jq_ldi_i, jq_ldl_l, jq_lda_a, jq_inc_i, jq_gs_t, jq_gsb_t, jq_gb_t, jq_gr_2, jq_gr_4, jq_gw_2, jq_s_t, jq_b_t, jg_c, jg_n, js_c, js_n, jrm_c, jrm_n, j2_i, j2_l, j2_a, jq_c_i, jq_c_l, jq_c_0, jq_c_n, jwd_le, jw_c0, mS_I, mS_R, mS_J, mN_I, mN_R, mN_J, mR_I, mI_R, mJ_I, mJ_R, mI_J, mR_J, ↓reduceIte, decide_true, or_true, true_or, and_self, false_or, or_false, reduceCtorEq, Bool.false_eq_true, and_false, false_and, eq_self, true_and, and_true, zero_ne, ↓br_lt_t, ↓br_lt_f, ↓br_eq_t, ↓br_eq_f, ↓br_lz_t, ↓br_lz_f, ↓br_ez_t, ↓br_ez_f, ↓br_gz_t, ↓br_gz_f, jw_id, jin_t, jix_t, MO.s0 hm, MO.s1 hm, MO.s2 hm, MO.s3 hm, MO.s4 hm, MO.s5 hm, MO.s6 hm, MO.s7 hm, MO.s8 hm, MO.s9 hm, MO.s10 hm, MO.s11 hm, MO.s12 hm, MO.s13 hm, MO.r1 hm, MO.r2 hm, MO.r3 hm, MO.r4 hm, MO.r5 hm, MO.r6 hm, MO.r7 hm, MO.r8 hm, MO.r9 hm, MO.r10 hm, MO.r11 hm, MO.r12 hm, MO.r13 hm, er, e1, z2, e2]
    · have ov : 0 < gOver (gZ0 q g).1.1 := by
        show 0 < gOver q
        unfold gOver
        rw [if_pos (by omega)]
        omega
      have kt := (fr_over (H := H) (L := H 0 6) (S := S) (p := -1) t.toNat _ ov).2
      refine ⟨_, ?_, qM.fut hw0 k1⟩
      rw [e5, kt, show (gZ0 q g).2.2.2.2.2 = -2 from rfl]
      have hm1 := m1.1
      by_cases q2 : t < 1
      · simp (disch := omega) only [p266_0, p266_1, p266_2, p266_5, p266_6, p266_7, p266_10, p266_11, p266_12, p266_15, p266_16, p266_17, p266_20, p266_21, p266_22, p266_25, p266_26, p266_29, p266_30, p266_31, p266_32, p266_33, p266_36, p266_37, p266_40, p266_43, p266_44, p266_47, p266_48, p266_49, p266_52, p266_53, p266_56, p266_57, p266_60, p266_63, p266_64, p266_65, p266_68, p266_69, p266_70, p266_73, p266_74, p266_77, p266_80, p266_81, p266_83, p266_86, p213_0, p213_1, p213_2, p213_5, p213_6, p213_7, p213_10, p213_11, p176_0, p176_1, p176_2, p176_5, p176_6, p176_7, p176_10, p176_11, jwd_c, jwd_0, Nat.reduceLeDiff, Nat.reduceEqDiff, Nat.reduceAdd, Nat.reduceSub, Nat.reduceMul, Int.reduceAdd, Int.reduceSub, Int.reduceMul, Int.reduceNeg, Int.reduceEq, Int.reduceLT, Int.reduceLE, jq_ldi_i, jq_ldl_l, jq_lda_a, jq_inc_i, jq_gs_t, jq_gsb_t, jq_gb_t, jq_gr_2, jq_gr_4, jq_gw_2, jq_s_t, jq_b_t, jg_c, jg_n, js_c, js_n, jrm_c, jrm_n, j2_i, j2_l, j2_a, jq_c_i, jq_c_l, jq_c_0, jq_c_n, jwd_le, jw_c0, mS_I, mS_R, mS_J, mN_I, mN_R, mN_J, mR_I, mI_R, mJ_I, mJ_R, mI_J, mR_J, ↓reduceIte, decide_true, or_true, true_or, and_self, false_or, or_false, reduceCtorEq, Bool.false_eq_true, and_false, false_and, eq_self, true_and, and_true, zero_ne, ↓br_lt_t, ↓br_lt_f, ↓br_eq_t, ↓br_eq_f, ↓br_lz_t, ↓br_lz_f, ↓br_ez_t, ↓br_ez_f, ↓br_gz_t, ↓br_gz_f, jw_id, jin_t, jix_t, MO.s0 hm, MO.s1 hm, MO.s2 hm, MO.s3 hm, MO.s4 hm, MO.s5 hm, MO.s6 hm, MO.s7 hm, MO.s8 hm, MO.s9 hm, MO.s10 hm, MO.s11 hm, MO.s12 hm, MO.s13 hm, MO.r1 hm, MO.r2 hm, MO.r3 hm, MO.r4 hm, MO.r5 hm, MO.r6 hm, MO.r7 hm, MO.r8 hm, MO.r9 hm, MO.r10 hm, MO.r11 hm, MO.r12 hm, MO.r13 hm, er, e1, z2, e2, MO.s0 hm1]
      · simp (disch := omega) only [p266_0, p266_1, p266_2, p266_5, p266_6, p266_7, p266_10, p266_11, p266_12, p266_15, p266_16, p266_17, p266_20, p266_21, p266_22, p266_25, p266_26, p266_29, p266_30, p266_31, p266_32, p266_33, p266_36, p266_37, p266_40, p266_43, p266_44, p266_47, p266_48, p266_49, p266_52, p266_53, p266_56, p266_57, p266_60, p266_63, p266_64, p266_65, p266_68, p266_69, p266_70, p266_73, p266_74, p266_77, p266_80, p266_81, p266_83, p266_86, p213_0, p213_1, p213_2, p213_5, p213_6, p213_7, p213_10, p213_11, p176_0, p176_1, p176_2, p176_5, p176_6, p176_7, p176_10, p176_11, jwd_c, jwd_0, Nat.reduceLeDiff, Nat.reduceEqDiff, Nat.reduceAdd, Nat.reduceSub, Nat.reduceMul, Int.reduceAdd, Int.reduceSub, Int.reduceMul, Int.reduceNeg, Int.reduceEq, Int.reduceLT, Int.reduceLE, jq_ldi_i, jq_ldl_l, jq_lda_a, jq_inc_i, jq_gs_t, jq_gsb_t, jq_gb_t, jq_gr_2, jq_gr_4, jq_gw_2, jq_s_t, jq_b_t, jg_c, jg_n, js_c, js_n, jrm_c, jrm_n, j2_i, j2_l, j2_a, jq_c_i, jq_c_l, jq_c_0, jq_c_n, jwd_le, jw_c0, mS_I, mS_R, mS_J, mN_I, mN_R, mN_J, mR_I, mI_R, mJ_I, mJ_R, mI_J, mR_J, ↓reduceIte, decide_true, or_true, true_or, and_self, false_or, or_false, reduceCtorEq, Bool.false_eq_true, and_false, false_and, eq_self, true_and, and_true, zero_ne, ↓br_lt_t, ↓br_lt_f, ↓br_eq_t, ↓br_eq_f, ↓br_lz_t, ↓br_lz_f, ↓br_ez_t, ↓br_ez_f, ↓br_gz_t, ↓br_gz_f, jw_id, jin_t, jix_t, MO.s0 hm, MO.s1 hm, MO.s2 hm, MO.s3 hm, MO.s4 hm, MO.s5 hm, MO.s6 hm, MO.s7 hm, MO.s8 hm, MO.s9 hm, MO.s10 hm, MO.s11 hm, MO.s12 hm, MO.s13 hm, MO.r1 hm, MO.r2 hm, MO.r3 hm, MO.r4 hm, MO.r5 hm, MO.r6 hm, MO.r7 hm, MO.r8 hm, MO.r9 hm, MO.r10 hm, MO.r11 hm, MO.r12 hm, MO.r13 hm, er, e1, z2, e2, MO.s0 hm1, MO.r3 hm1, MO.s3 hm1, v1, Int.reduceToNat]
  · rw [if_neg ht] at er ⊢
    refine ⟨_, ?_, qM.triv hw0⟩
    simp (disch := omega) only [p266_0, p266_1, p266_2, p266_5, p266_6, p266_7, p266_10, p266_11, p266_12, p266_15, p266_16, p266_17, p266_20, p266_21, p266_22, p266_25, p266_26, p266_29, p266_30, p266_32, p266_33, p266_36, p266_37, p266_40, p266_43, p266_44, p266_47, p266_48, p266_49, p266_52, p266_53, p266_56, p266_57, p266_60, p266_63, p266_64, p266_65, p266_68, p266_69, p266_70, p266_73, p266_74, p266_77, p266_80, p266_81, p266_83, p266_86, p213_0, p213_1, p213_2, p213_5, p213_6, p213_7, p213_10, p213_11, p176_0, p176_1, p176_2, p176_5, p176_6, p176_7, p176_10, p176_11, jwd_c, jwd_0, Nat.reduceLeDiff, Nat.reduceEqDiff, Nat.reduceAdd, Nat.reduceSub, Nat.reduceMul, Int.reduceAdd, Int.reduceSub, Int.reduceMul, Int.reduceNeg, Int.reduceEq, Int.reduceLT, Int.reduceLE, jq_ldi_i, jq_ldl_l, jq_lda_a, jq_inc_i, jq_gs_t, jq_gsb_t, jq_gb_t, jq_gr_2, jq_gr_4, jq_gw_2, jq_s_t, jq_b_t, jg_c, jg_n, js_c, js_n, jrm_c, jrm_n, j2_i, j2_l, j2_a, jq_c_i, jq_c_l, jq_c_0, jq_c_n, jwd_le, jw_c0, mS_I, mS_R, mS_J, mN_I, mN_R, mN_J, mR_I, mI_R, mJ_I, mJ_R, mI_J, mR_J, ↓reduceIte, decide_true, or_true, true_or, and_self, false_or, or_false, reduceCtorEq, Bool.false_eq_true, and_false, false_and, eq_self, true_and, and_true, zero_ne, ↓br_lt_t, ↓br_lt_f, ↓br_eq_t, ↓br_eq_f, ↓br_lz_t, ↓br_lz_f, ↓br_ez_t, ↓br_ez_f, ↓br_gz_t, ↓br_gz_f, jw_id, jin_t, jix_t, MO.s0 hm, MO.s1 hm, MO.s2 hm, MO.s3 hm, MO.s4 hm, MO.s5 hm, MO.s6 hm, MO.s7 hm, MO.s8 hm, MO.s9 hm, MO.s10 hm, MO.s11 hm, MO.s12 hm, MO.s13 hm, MO.r1 hm, MO.r2 hm, MO.r3 hm, MO.r4 hm, MO.r5 hm, MO.r6 hm, MO.r7 hm, MO.r8 hm, MO.r9 hm, MO.r10 hm, MO.r11 hm, MO.r12 hm, MO.r13 hm, er]
end ASK5
