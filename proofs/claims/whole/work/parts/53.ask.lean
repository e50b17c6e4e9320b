/-! The class: the tables ask. -/
section ASK
variable {w u : jmW} {H : Nat → Nat → Int} {L : Int} {S r g : Nat → Int} {c : Int} {B : Int} {p s b ta tw o j ri : Int}
theorem RA.sit (ra : RA H B r) {t x : Int} (t1 : 0 ≤ t) (t2 : t < 4) (x1 : 0 ≤ x) (x2 : x ≤ r (284 + t).toNat) : RA H B (up1 r (284 + t).toNat x) := by
  obtain ⟨a1, a2, a3⟩ := ra
  have ht : t = 0 ∨ t = 1 ∨ t = 2 ∨ t = 3 := by omega
  unfold RA
  rw [up1_n (b := 288) (by omega), up1_n (b := 289) (by omega), up1_n (b := 290) (by omega), up1_n (b := 291) (by omega), up1_n (b := 292) (by omega), up1_n (b := 293) (by omega), up1_n (b := 294) (by omega), up1_n (b := 295) (by omega), up1_n (b := 296) (by omega), up1_n (b := 297) (by omega)]
  refine ⟨a1, ?_, a3⟩
  rcases ht with rfl | rfl | rfl | rfl
  · rw [show (284 + (0 : Int)).toNat = 284 from rfl] at *
    rw [up1_s, up1_n (b := 285) (by omega), up1_n (b := 286) (by omega), up1_n (b := 287) (by omega)]
    omega
  · rw [show (284 + (1 : Int)).toNat = 285 from rfl] at *
    rw [up1_s, up1_n (b := 284) (by omega), up1_n (b := 286) (by omega), up1_n (b := 287) (by omega)]
    omega
  · rw [show (284 + (2 : Int)).toNat = 286 from rfl] at *
    rw [up1_s, up1_n (b := 284) (by omega), up1_n (b := 285) (by omega), up1_n (b := 287) (by omega)]
    omega
  · rw [show (284 + (3 : Int)).toNat = 287 from rfl] at *
    rw [up1_s, up1_n (b := 284) (by omega), up1_n (b := 285) (by omega), up1_n (b := 286) (by omega)]
    omega
theorem RB_d {q : Nat → Int} (h : ∀ k, 204 ≤ k → k < 284 → q k = r k) (h8 : q 288 = r 288) (h9 : q 289 = r 289) (h90 : q 290 = r 290) (h16 : r 289 ≤ 16) (rb : RB r) : RB q := by
  intro i i1 i2
  rw [h9] at i2
  have b := rb i i1 i2
  rw [h (204 + i).toNat (by omega) (by omega), h (220 + i).toNat (by omega) (by omega), h (236 + i).toNat (by omega) (by omega), h (252 + i).toNat (by omega) (by omega), h (268 + i).toNat (by omega) (by omega), h8, h90]
  exact b
theorem sit_nn (ra : RA H B r) {t : Int} (t1 : 0 ≤ t) (t2 : t < 4) : 0 ≤ r (284 + t).toNat ∧ r (284 + t).toNat ≤ 44 := by
  obtain ⟨a1, a2, a3⟩ := ra
  have ht : t = 0 ∨ t = 1 ∨ t = 2 ∨ t = 3 := by omega
  rcases ht with rfl | rfl | rfl | rfl
  · rw [show (284 + (0 : Int)).toNat = 284 from rfl]
    omega
  · rw [show (284 + (1 : Int)).toNat = 285 from rfl]
    omega
  · rw [show (284 + (2 : Int)).toNat = 286 from rfl]
    omega
  · rw [show (284 + (3 : Int)).toNat = 287 from rfl]
    omega
theorem cr_sit {a T : Nat} (h : CR w a T c r) {t : Int} (t1 : 0 ≤ t) (t2 : t < T) : rn 23 (0, [(0, jvr (a + 5)), (1, .inl t), (2, .inl 0)], [], w) = some (some (.inl (r (284 + t).toNat)), w) := by
  have e := sg_in h.2.2.2.2.2.2.1 (l := t) (k := 0) t1 t2 (by omega) (by omega)
  rw [show 284 + t.toNat = (284 + t).toNat by omega] at e
  exact e
theorem RW_d {q : Nat → Int} (h : ∀ k, k < 204 → q k = r k) (h3 : q 288 = r 288) (ra : RA H B r) (rw0 : RW H r) : RW H q := RW_c h h3 ra rw0
theorem cask_loop (hk : HOK H) : ∀ (n : Nat) (t jj : Int) (r : Nat → Int) (tl : jmL) (w : jmW), FS w H L S r g c → FO w p s b ta tw o jj ri → RA H B r → RB r → RW H r → RP r → 0 ≤ t → t + n = H 0 3 → tk 2 tl → ∃ u, rn 101 (2, (0, jvr 118) :: (1, .inl t) :: tl, [], w) = some (none, u) ∧ FS u H L S (gAA H n t (jj, r)).2 g c ∧ FO u p s b ta tw o (gAA H n t (jj, r)).1 ri ∧ Fr fQ w u := by
  have k3 := hk.2.1
  intro n
  induction n with
  | zero =>
    intro t jj r tl w hf ho ra rb rw0 rp t1 t2 ht
    have e0 := sg_count hf.ch.g7
    rw [show (((H 0 3).toNat : Nat) : Int) = H 0 3 by omega] at e0
    refine ⟨w, ?_, hf, ho, Fr.rf _ _⟩
    rw [p101_2]
    simp (disch := omega) only [p101_0, p101_1, p101_3, p101_4, p101_7, p101_10, p101_13, p101_16, p101_17, p101_20, p101_23, p101_24, p101_25, p101_28, p101_29, p101_30, p101_31, p101_34, p101_37, p101_38, p101_39, p101_42, p101_45, p101_46, p101_47, p101_48, p101_51, p101_52, p101_55, p101_56, p101_59, p101_62, p101_65, p101_67, p101_70, p101_73, p101_74, p101_77, p101_80, p101_82, p101_83, p101_84, p101_87, p101_90, p101_91, p101_92, p101_95, p101_98, p101_99, p101_102, p101_105, p101_106, p101_107, p101_108, p101_109, p101_110, p101_113, p101_114, p101_117, p101_118, p101_121, p101_122, p101_123, p101_126, p101_127i, p101_127a, p101_128, p101_131, p101_132, p101_133, p101_136, p101_139, p101_142, jwd_c, jwd_0, Nat.reduceLeDiff, Nat.reduceEqDiff, Nat.reduceAdd, Nat.reduceSub, Nat.reduceMul, Int.reduceAdd, Int.reduceSub, Int.reduceMul, Int.reduceNeg, Int.reduceEq, Int.reduceLT, Int.reduceLE, jq_ldi_i, jq_ldl_l, jq_lda_a, jq_inc_i, jq_gs_t, jq_gsb_t, jq_gb_t, jq_gr_2, jq_gr_4, jq_gw_2, jq_s_t, jq_b_t, jg_c, jg_n, js_c, js_n, jrm_c, jrm_n, j2_i, j2_l, j2_a, jq_c_i, jq_c_l, jq_c_0, jq_c_n, jwd_le, jw_c0, mS_I, mS_R, mS_J, mN_I, mN_R, mN_J, mR_I, mI_R, mJ_I, mJ_R, mI_J, mR_J, ↓reduceIte, decide_true, or_true, true_or, and_self, false_or, or_false, reduceCtorEq, Bool.false_eq_true, and_false, false_and, eq_self, true_and, and_true, zero_ne, ↓br_lt_t, ↓br_lt_f, ↓br_eq_t, ↓br_eq_f, ↓br_lz_t, ↓br_lz_f, ↓br_ez_t, ↓br_ez_f, ↓br_gz_t, ↓br_gz_f, jw_id, jin_t, jix_t, FS.s hf, FS.r0 hf, FS.r1 hf, FS.r2 hf, FS.r3 hf, FS.r4 hf, FS.r5 hf, FS.r6 hf, FS.x119 hf, FS.x119p hf, FS.x119k hf, FS.x119t hf, FS.x120 hf, FS.x122 hf, FS.x124 hf, FS.x126 hf, FS.x130 hf, FS.x128 hf, FS.x132 hf, FS.x134 hf, FS.x84 hf, FS.x84r0 hf, FS.x85 hf, FS.x84r1 hf, FS.x87 hf, FS.x84r2 hf, FS.x89 hf, FS.x84r3 hf, FS.x91 hf, FS.x84r4 hf, FS.x93 hf, FS.x84r5 hf, FS.x95 hf, FS.x84r6 hf, FS.x97 hf, FS.x84r7 hf, FS.x99 hf, FS.x84f8 hf, FS.x84f9 hf, FS.x84f10 hf, FS.x84f11 hf, FS.x84f12 hf, FS.x84f14 hf, FS.x84f15 hf, FS.x84f16 hf, FS.x84f17 hf, e0]
  | succ n ih =>
    intro t jj r tl w hf ho ra rb rw0 rp t1 t2 ht
    have h16 := ra.1
    have e0 := sg_count hf.ch.g7
    rw [show (((H 0 3).toNat : Nat) : Int) = H 0 3 by omega] at e0
    have e1 := cr_sit hf.cr (t := t) t1 (by omega)
    have e2 := ch_tab hf.ch hk t1 (t := t) (k := 0) (by omega) (by omega) (by omega)
    rw [show gTab H t.toNat (0 : Int).toNat = H 18 t.toNat from rfl] at e2
    have e3 := f_asker hf hk ra rb rw0 t1 (t := t) (by omega)
    have e4 := fs_n hf (by omega)
    have sb := sit_nn ra t1 (t := t) (by omega)
    have ab := gAi_bd (H := H) (r := r) (t := t) (by omega)
    obtain ⟨t2', j2, k2⟩ := tk_js ht
    obtain ⟨t3, j3, k3'⟩ := tk_js k2
    have J : ∀ a : Nat, a < 4 → jrm t3 a = t3 := fun a ha => tk_jrm t3 4 a k3' ha
    have eA : gAA H (n + 1) t (jj, r) = gAA H n (t + 1) (jj + (gAsk H r t).1, (gAsk H r t).2) := rfl
    obtain ⟨x0, x1, x2, x3, x4, -, -⟩ := ask_ok hk ra rb rw0 rp t1 (t := t) (by omega)
    have eK : gAsk H r t = if r (284 + t).toNat = 0 ∨ ¬ r 289 < 16 then (0, r) else if gAi H r t = r 289 then (0, r) else if gDr r % 100 < H 23 t.toNat then (1, gJoin H (up1 r 295 (gDr r)) t (gAi H r t)) else (0, up1 r 295 (gDr r)) := rfl
    have fin : ∀ (w1 : jmW) (y z : Int), FS w1 H L S (gAsk H r t).2 g c → FO w1 p s b ta tw o (jj + (gAsk H r t).1) ri → Fr fQ w w1 → ∃ u, rn 101 (2, (0, jvr 118) :: (1, .inl (t + 1)) :: (2, .inl y) :: (3, .inl z) :: t3, [], w1) = some (none, u) ∧ FS u H L S (gAA H (n + 1) t (jj, r)).2 g c ∧ FO u p s b ta tw o (gAA H (n + 1) t (jj, r)).1 ri ∧ Fr fQ w u := by
      intro w1 y z F1 O1 f1
      obtain ⟨u, y1, y2, y3, y4⟩ := ih (t + 1) _ _ ((2, .inl y) :: (3, .inl z) :: t3) w1 F1 O1 x1 x2 x3 x4 (by omega) (by omega) (tk_c (tk_c k3'))
      rw [eA]
      exact ⟨u, y1, y2, y3, f1.tr y4⟩
    have nothing : gAsk H r t = (0, r) → ∃ u, rn 101 (2, (0, jvr 118) :: (1, .inl (t + 1)) :: (2, .inl (r (284 + t).toNat)) :: (3, .inl (if gAi H r t = r 289 then -1 else gAi H r t)) :: t3, [], w) = some (none, u) ∧ FS u H L S (gAA H (n + 1) t (jj, r)).2 g c ∧ FO u p s b ta tw o (gAA H (n + 1) t (jj, r)).1 ri ∧ Fr fQ w u := by
      intro e
      exact fin w _ _ (by rw [e]; exact hf) (by rw [e]; dsimp only; rw [Int.add_zero]; exact ho) (Fr.rf _ _)
    by_cases q1 : r (284 + t).toNat = 0
    · rw [if_pos (Or.inl q1)] at eK
      obtain ⟨u, y1, y2⟩ := nothing eK
      refine ⟨u, ?_, y2⟩
      rw [← y1, p101_2]
      simp (disch := omega) only [p101_0, p101_1, p101_3, p101_4, p101_7, p101_10, p101_13, p101_16, p101_17, p101_20, p101_23, p101_24, p101_25, p101_28, p101_29, p101_30, p101_31, p101_34, p101_37, p101_38, p101_39, p101_42, p101_45, p101_46, p101_47, p101_48, p101_51, p101_52, p101_55, p101_56, p101_59, p101_62, p101_65, p101_67, p101_70, p101_73, p101_74, p101_77, p101_80, p101_82, p101_83, p101_84, p101_87, p101_90, p101_91, p101_92, p101_95, p101_98, p101_99, p101_102, p101_105, p101_106, p101_107, p101_108, p101_109, p101_110, p101_113, p101_114, p101_117, p101_118, p101_121, p101_122, p101_123, p101_126, p101_127i, p101_127a, p101_128, p101_131, p101_132, p101_133, p101_136, p101_139, p101_142, jwd_c, jwd_0, Nat.reduceLeDiff, Nat.reduceEqDiff, Nat.reduceAdd, Nat.reduceSub, Nat.reduceMul, Int.reduceAdd, Int.reduceSub, Int.reduceMul, Int.reduceNeg, Int.reduceEq, Int.reduceLT, Int.reduceLE, jq_ldi_i, jq_ldl_l, jq_lda_a, jq_inc_i, jq_gs_t, jq_gsb_t, jq_gb_t, jq_gr_2, jq_gr_4, jq_gw_2, jq_s_t, jq_b_t, jg_c, jg_n, js_c, js_n, jrm_c, jrm_n, j2_i, j2_l, j2_a, jq_c_i, jq_c_l, jq_c_0, jq_c_n, jwd_le, jw_c0, mS_I, mS_R, mS_J, mN_I, mN_R, mN_J, mR_I, mI_R, mJ_I, mJ_R, mI_J, mR_J, ↓reduceIte, decide_true, or_true, true_or, and_self, false_or, or_false, reduceCtorEq, Bool.false_eq_true, and_false, false_and, eq_self, true_and, and_true, zero_ne, ↓br_lt_t, ↓br_lt_f, ↓br_eq_t, ↓br_eq_f, ↓br_lz_t, ↓br_lz_f, ↓br_ez_t, ↓br_ez_f, ↓br_gz_t, ↓br_gz_f, jw_id, jin_t, jix_t, FS.s hf, FS.r0 hf, FS.r1 hf, FS.r2 hf, FS.r3 hf, FS.r4 hf, FS.r5 hf, FS.r6 hf, FS.x119 hf, FS.x119p hf, FS.x119k hf, FS.x119t hf, FS.x120 hf, FS.x122 hf, FS.x124 hf, FS.x126 hf, FS.x130 hf, FS.x128 hf, FS.x132 hf, FS.x134 hf, FS.x84 hf, FS.x84r0 hf, FS.x85 hf, FS.x84r1 hf, FS.x87 hf, FS.x84r2 hf, FS.x89 hf, FS.x84r3 hf, FS.x91 hf, FS.x84r4 hf, FS.x93 hf, FS.x84r5 hf, FS.x95 hf, FS.x84r6 hf, FS.x97 hf, FS.x84r7 hf, FS.x99 hf, FS.x84f8 hf, FS.x84f9 hf, FS.x84f10 hf, FS.x84f11 hf, FS.x84f12 hf, FS.x84f14 hf, FS.x84f15 hf, FS.x84f16 hf, FS.x84f17 hf, e0, e1, e2, e3, j2, j3, J]
    · by_cases q2 : gAi H r t = r 289
      · have eK2 : gAsk H r t = (0, r) := by
          rw [eK, if_pos q2]
          split <;> rfl
        obtain ⟨u, y1, y2⟩ := nothing eK2
        refine ⟨u, ?_, y2⟩
        rw [← y1, p101_2]
        rw [if_pos q2] at e3 ⊢
        simp (disch := omega) only [p101_0, p101_1, p101_3, p101_4, p101_7, p101_10, p101_13, p101_16, p101_17, p101_20, p101_23, p101_24, p101_25, p101_28, p101_29, p101_30, p101_31, p101_34, p101_37, p101_38, p101_39, p101_42, p101_45, p101_46, p101_47, p101_48, p101_51, p101_52, p101_55, p101_56, p101_59, p101_62, p101_65, p101_67, p101_70, p101_73, p101_74, p101_77, p101_80, p101_82, p101_83, p101_84, p101_87, p101_90, p101_91, p101_92, p101_95, p101_98, p101_99, p101_102, p101_105, p101_106, p101_107, p101_108, p101_109, p101_110, p101_113, p101_114, p101_117, p101_118, p101_121, p101_122, p101_123, p101_126, p101_127i, p101_127a, p101_128, p101_131, p101_132, p101_133, p101_136, p101_139, p101_142, jwd_c, jwd_0, Nat.reduceLeDiff, Nat.reduceEqDiff, Nat.reduceAdd, Nat.reduceSub, Nat.reduceMul, Int.reduceAdd, Int.reduceSub, Int.reduceMul, Int.reduceNeg, Int.reduceEq, Int.reduceLT, Int.reduceLE, jq_ldi_i, jq_ldl_l, jq_lda_a, jq_inc_i, jq_gs_t, jq_gsb_t, jq_gb_t, jq_gr_2, jq_gr_4, jq_gw_2, jq_s_t, jq_b_t, jg_c, jg_n, js_c, js_n, jrm_c, jrm_n, j2_i, j2_l, j2_a, jq_c_i, jq_c_l, jq_c_0, jq_c_n, jwd_le, jw_c0, mS_I, mS_R, mS_J, mN_I, mN_R, mN_J, mR_I, mI_R, mJ_I, mJ_R, mI_J, mR_J, ↓reduceIte, decide_true, or_true, true_or, and_self, false_or, or_false, reduceCtorEq, Bool.false_eq_true, and_false, false_and, eq_self, true_and, and_true, zero_ne, ↓br_lt_t, ↓br_lt_f, ↓br_eq_t, ↓br_eq_f, ↓br_lz_t, ↓br_lz_f, ↓br_ez_t, ↓br_ez_f, ↓br_gz_t, ↓br_gz_f, jw_id, jin_t, jix_t, FS.s hf, FS.r0 hf, FS.r1 hf, FS.r2 hf, FS.r3 hf, FS.r4 hf, FS.r5 hf, FS.r6 hf, FS.x119 hf, FS.x119p hf, FS.x119k hf, FS.x119t hf, FS.x120 hf, FS.x122 hf, FS.x124 hf, FS.x126 hf, FS.x130 hf, FS.x128 hf, FS.x132 hf, FS.x134 hf, FS.x84 hf, FS.x84r0 hf, FS.x85 hf, FS.x84r1 hf, FS.x87 hf, FS.x84r2 hf, FS.x89 hf, FS.x84r3 hf, FS.x91 hf, FS.x84r4 hf, FS.x93 hf, FS.x84r5 hf, FS.x95 hf, FS.x84r6 hf, FS.x97 hf, FS.x84r7 hf, FS.x99 hf, FS.x84f8 hf, FS.x84f9 hf, FS.x84f10 hf, FS.x84f11 hf, FS.x84f12 hf, FS.x84f14 hf, FS.x84f15 hf, FS.x84f16 hf, FS.x84f17 hf, e0, e1, e2, e3, j2, j3, J]
      · rw [if_neg q2] at e3 nothing
        by_cases q3 : r 289 < 16
        · rw [if_neg (by omega), if_neg q2] at eK
          have m1 := tmod_nn (x := gDr r) (y := 100) (gDr_bd (r := r) ra.2.2.2.2.2.2.2.2.2.2.1).1
          have m2 := gDr_bd (r := r) ra.2.2.2.2.2.2.2.2.2.2.1
          obtain ⟨w1, d1, d2, d3⟩ := r_draw hf.cr ra
          have F1 := hf.row (d3.mo (fun b hb => by unfold rP; omega)) d2
          have O1 := ho.fr d3 (by omega)
          have e5 := ch_tab F1.ch hk t1 (t := t) (k := 4) (by omega) (by omega) (by omega)
          rw [show gTab H t.toNat (4 : Int).toNat = H 23 t.toNat from rfl] at e5
          have kt := hk.2.2.2.2.1 t t1 (by omega)
          by_cases q4 : gDr r % 100 < H 23 t.toNat
          · rw [if_pos q4] at eK
            obtain ⟨w2, a1, a2, a3⟩ := F1.cr.puts (v := r (284 + t).toNat - 1) (by rw [up1_n (by omega)]; omega) (by rw [up1_n (by omega)]; omega) (t := t) t1 (by omega)
            have F2 := F1.row (a3.mo (fun b hb => by unfold sP at hb; unfold rP; omega)) a2
            have O2 := O1.fr a3 (sP_n (by omega))
            have ra1 := ra.seed m2.1 m2.2
            have r1s : up1 r 295 (gDr r) (284 + t).toNat = r (284 + t).toNat := up1_n (by omega)
            have ra2 := ra1.sit t1 (t := t) (x := r (284 + t).toNat - 1) (by omega) (by omega) (by omega)
            have rb2 : RB (up1 (up1 r 295 (gDr r)) (284 + t).toNat (r (284 + t).toNat - 1)) := RB_d (r := r) (fun k k1 k2 => by rw [up1_n (by omega), up1_n (by omega)]) (by rw [up1_n (by omega), up1_n (by omega)]) (by rw [up1_n (by omega), up1_n (by omega)]) (by rw [up1_n (by omega), up1_n (by omega)]) (by omega) rb
            obtain ⟨w3, b1, b2, b3⟩ := r_join F2.cr F2.ch hk ra2 rb2 (by omega) (t := t) (i := gAi H r t) t1 (by omega) (by omega) (by rw [up1_n (by omega), up1_n (by omega)]; omega) (by rw [up1_n (by omega), up1_n (by omega)]; omega)
            have js := join_sits (H := H) (r := up1 r 295 (gDr r)) (t := t) (i := gAi H r t) (by rw [up1_n (by omega)]; omega) t1 (by omega) (by omega)
            rw [r1s] at js
            rw [js] at b2
            have F3 := F2.row b3 b2
            have O3 := O2.fr b3 (rP_n (by omega))
            obtain ⟨o1, o2, o3, o4, o5, o6, o7, o8⟩ := O3
            obtain ⟨u, y1, y2⟩ := fin (setI w3 118 13 (jj + 1)) (r (284 + t).toNat) (gAi H r t) (by rw [eK]; exact F3.fl) (by rw [eK]; exact ⟨by rw [mI_nk (by omega)]; exact o1, by rw [mI_nk (by omega)]; exact o2, by rw [mI_nk (by omega)]; exact o3, by rw [mI_nk (by omega)]; exact o4, by rw [mI_nk (by omega)]; exact o5, by rw [mI_nk (by omega)]; exact o6, mI_s _ _ _ _, by rw [mI_nk (by omega)]; exact o8⟩) ((((d3.mo (fun b hb => by unfold fQ; omega)).tr (a3.mo (fun b hb => by unfold sP at hb; unfold fQ; omega))).tr (b3.mo (fun b hb => by unfold rP at hb; unfold fQ; omega))).tr (Fr.I ⟨by omega, by omega⟩))
            refine ⟨u, ?_, y2⟩
            rw [← y1, p101_2]
            simp (disch := omega) only [p101_0, p101_1, p101_3, p101_4, p101_7, p101_10, p101_13, p101_16, p101_17, p101_20, p101_23, p101_24, p101_25, p101_28, p101_29, p101_30, p101_31, p101_34, p101_37, p101_38, p101_39, p101_42, p101_45, p101_46, p101_47, p101_48, p101_51, p101_52, p101_55, p101_56, p101_59, p101_62, p101_65, p101_67, p101_70, p101_73, p101_74, p101_77, p101_80, p101_82, p101_83, p101_84, p101_87, p101_90, p101_91, p101_92, p101_95, p101_98, p101_99, p101_102, p101_105, p101_106, p101_107, p101_108, p101_109, p101_110, p101_113, p101_114, p101_117, p101_118, p101_121, p101_122, p101_123, p101_126, p101_127i, p101_127a, p101_128, p101_131, p101_132, p101_133, p101_136, p101_139, p101_142, jwd_c, jwd_0, Nat.reduceLeDiff, Nat.reduceEqDiff, Nat.reduceAdd, Nat.reduceSub, Nat.reduceMul, Int.reduceAdd, Int.reduceSub, Int.reduceMul, Int.reduceNeg, Int.reduceEq, Int.reduceLT, Int.reduceLE, jq_ldi_i, jq_ldl_l, jq_lda_a, jq_inc_i, jq_gs_t, jq_gsb_t, jq_gb_t, jq_gr_2, jq_gr_4, jq_gw_2, jq_s_t, jq_b_t, jg_c, jg_n, js_c, js_n, jrm_c, jrm_n, j2_i, j2_l, j2_a, jq_c_i, jq_c_l, jq_c_0, jq_c_n, jwd_le, jw_c0, mS_I, mS_R, mS_J, mN_I, mN_R, mN_J, mR_I, mI_R, mJ_I, mJ_R, mI_J, mR_J, ↓reduceIte, decide_true, or_true, true_or, and_self, false_or, or_false, reduceCtorEq, Bool.false_eq_true, and_false, false_and, eq_self, true_and, and_true, zero_ne, ↓br_lt_t, ↓br_lt_f, ↓br_eq_t, ↓br_eq_f, ↓br_lz_t, ↓br_lz_f, ↓br_ez_t, ↓br_ez_f, ↓br_gz_t, ↓br_gz_f, jw_id, jin_t, jix_t, FS.s hf, FS.r0 hf, FS.r1 hf, FS.r2 hf, FS.r3 hf, FS.r4 hf, FS.r5 hf, FS.r6 hf, FS.x119 hf, FS.x119p hf, FS.x119k hf, FS.x119t hf, FS.x120 hf, FS.x122 hf, FS.x124 hf, FS.x126 hf, FS.x130 hf, FS.x128 hf, FS.x132 hf, FS.x134 hf, FS.x84 hf, FS.x84r0 hf, FS.x85 hf, FS.x84r1 hf, FS.x87 hf, FS.x84r2 hf, FS.x89 hf, FS.x84r3 hf, FS.x91 hf, FS.x84r4 hf, FS.x93 hf, FS.x84r5 hf, FS.x95 hf, FS.x84r6 hf, FS.x97 hf, FS.x84r7 hf, FS.x99 hf, FS.x84f8 hf, FS.x84f9 hf, FS.x84f10 hf, FS.x84f11 hf, FS.x84f12 hf, FS.x84f14 hf, FS.x84f15 hf, FS.x84f16 hf, FS.x84f17 hf, e0, e1, e2, e3, e4, j2, j3, J, d1, m1, F1.s, F1.r0, F1.x84, F1.x84r3, F1.x91, e5, F1.r1, F1.x119, F1.x119t, F1.x124, a1, F2.s, F2.r1, F2.r0, F2.x119, b1, F3.s, o7]
          · rw [if_neg q4] at eK
            obtain ⟨u, y1, y2⟩ := fin w1 (r (284 + t).toNat) (gAi H r t) (by rw [eK]; exact F1) (by rw [eK]; dsimp only; rw [Int.add_zero]; exact O1) (d3.mo (fun b hb => by unfold fQ; omega))
            refine ⟨u, ?_, y2⟩
            rw [← y1, p101_2]
            simp (disch := omega) only [p101_0, p101_1, p101_3, p101_4, p101_7, p101_10, p101_13, p101_16, p101_17, p101_20, p101_23, p101_24, p101_25, p101_28, p101_29, p101_30, p101_31, p101_34, p101_37, p101_38, p101_39, p101_42, p101_45, p101_46, p101_47, p101_48, p101_51, p101_52, p101_55, p101_56, p101_59, p101_62, p101_65, p101_67, p101_70, p101_73, p101_74, p101_77, p101_80, p101_82, p101_83, p101_84, p101_87, p101_90, p101_91, p101_92, p101_95, p101_98, p101_99, p101_102, p101_105, p101_106, p101_107, p101_108, p101_109, p101_110, p101_113, p101_114, p101_117, p101_118, p101_121, p101_122, p101_123, p101_126, p101_127i, p101_127a, p101_128, p101_131, p101_132, p101_133, p101_136, p101_139, p101_142, jwd_c, jwd_0, Nat.reduceLeDiff, Nat.reduceEqDiff, Nat.reduceAdd, Nat.reduceSub, Nat.reduceMul, Int.reduceAdd, Int.reduceSub, Int.reduceMul, Int.reduceNeg, Int.reduceEq, Int.reduceLT, Int.reduceLE, jq_ldi_i, jq_ldl_l, jq_lda_a, jq_inc_i, jq_gs_t, jq_gsb_t, jq_gb_t, jq_gr_2, jq_gr_4, jq_gw_2, jq_s_t, jq_b_t, jg_c, jg_n, js_c, js_n, jrm_c, jrm_n, j2_i, j2_l, j2_a, jq_c_i, jq_c_l, jq_c_0, jq_c_n, jwd_le, jw_c0, mS_I, mS_R, mS_J, mN_I, mN_R, mN_J, mR_I, mI_R, mJ_I, mJ_R, mI_J, mR_J, ↓reduceIte, decide_true, or_true, true_or, and_self, false_or, or_false, reduceCtorEq, Bool.false_eq_true, and_false, false_and, eq_self, true_and, and_true, zero_ne, ↓br_lt_t, ↓br_lt_f, ↓br_eq_t, ↓br_eq_f, ↓br_lz_t, ↓br_lz_f, ↓br_ez_t, ↓br_ez_f, ↓br_gz_t, ↓br_gz_f, jw_id, jin_t, jix_t, FS.s hf, FS.r0 hf, FS.r1 hf, FS.r2 hf, FS.r3 hf, FS.r4 hf, FS.r5 hf, FS.r6 hf, FS.x119 hf, FS.x119p hf, FS.x119k hf, FS.x119t hf, FS.x120 hf, FS.x122 hf, FS.x124 hf, FS.x126 hf, FS.x130 hf, FS.x128 hf, FS.x132 hf, FS.x134 hf, FS.x84 hf, FS.x84r0 hf, FS.x85 hf, FS.x84r1 hf, FS.x87 hf, FS.x84r2 hf, FS.x89 hf, FS.x84r3 hf, FS.x91 hf, FS.x84r4 hf, FS.x93 hf, FS.x84r5 hf, FS.x95 hf, FS.x84r6 hf, FS.x97 hf, FS.x84r7 hf, FS.x99 hf, FS.x84f8 hf, FS.x84f9 hf, FS.x84f10 hf, FS.x84f11 hf, FS.x84f12 hf, FS.x84f14 hf, FS.x84f15 hf, FS.x84f16 hf, FS.x84f17 hf, e0, e1, e2, e3, e4, j2, j3, J, d1, m1, F1.s, F1.r0, F1.x84, F1.x84r3, F1.x91, e5]
        · rw [if_pos (Or.inr q3)] at eK
          obtain ⟨u, y1, y2⟩ := nothing eK
          refine ⟨u, ?_, y2⟩
          rw [← y1, p101_2]
          simp (disch := omega) only [p101_0, p101_1, p101_3, p101_4, p101_7, p101_10, p101_13, p101_16, p101_17, p101_20, p101_23, p101_24, p101_25, p101_28, p101_29, p101_30, p101_31, p101_34, p101_37, p101_38, p101_39, p101_42, p101_45, p101_46, p101_47, p101_48, p101_51, p101_52, p101_55, p101_56, p101_59, p101_62, p101_65, p101_67, p101_70, p101_73, p101_74, p101_77, p101_80, p101_82, p101_83, p101_84, p101_87, p101_90, p101_91, p101_92, p101_95, p101_98, p101_99, p101_102, p101_105, p101_106, p101_107, p101_108, p101_109, p101_110, p101_113, p101_114, p101_117, p101_118, p101_121, p101_122, p101_123, p101_126, p101_127i, p101_127a, p101_128, p101_131, p101_132, p101_133, p101_136, p101_139, p101_142, jwd_c, jwd_0, Nat.reduceLeDiff, Nat.reduceEqDiff, Nat.reduceAdd, Nat.reduceSub, Nat.reduceMul, Int.reduceAdd, Int.reduceSub, Int.reduceMul, Int.reduceNeg, Int.reduceEq, Int.reduceLT, Int.reduceLE, jq_ldi_i, jq_ldl_l, jq_lda_a, jq_inc_i, jq_gs_t, jq_gsb_t, jq_gb_t, jq_gr_2, jq_gr_4, jq_gw_2, jq_s_t, jq_b_t, jg_c, jg_n, js_c, js_n, jrm_c, jrm_n, j2_i, j2_l, j2_a, jq_c_i, jq_c_l, jq_c_0, jq_c_n, jwd_le, jw_c0, mS_I, mS_R, mS_J, mN_I, mN_R, mN_J, mR_I, mI_R, mJ_I, mJ_R, mI_J, mR_J, ↓reduceIte, decide_true, or_true, true_or, and_self, false_or, or_false, reduceCtorEq, Bool.false_eq_true, and_false, false_and, eq_self, true_and, and_true, zero_ne, ↓br_lt_t, ↓br_lt_f, ↓br_eq_t, ↓br_eq_f, ↓br_lz_t, ↓br_lz_f, ↓br_ez_t, ↓br_ez_f, ↓br_gz_t, ↓br_gz_f, jw_id, jin_t, jix_t, FS.s hf, FS.r0 hf, FS.r1 hf, FS.r2 hf, FS.r3 hf, FS.r4 hf, FS.r5 hf, FS.r6 hf, FS.x119 hf, FS.x119p hf, FS.x119k hf, FS.x119t hf, FS.x120 hf, FS.x122 hf, FS.x124 hf, FS.x126 hf, FS.x130 hf, FS.x128 hf, FS.x132 hf, FS.x134 hf, FS.x84 hf, FS.x84r0 hf, FS.x85 hf, FS.x84r1 hf, FS.x87 hf, FS.x84r2 hf, FS.x89 hf, FS.x84r3 hf, FS.x91 hf, FS.x84r4 hf, FS.x93 hf, FS.x84r5 hf, FS.x95 hf, FS.x84r6 hf, FS.x97 hf, FS.x84r7 hf, FS.x99 hf, FS.x84f8 hf, FS.x84f9 hf, FS.x84f10 hf, FS.x84f11 hf, FS.x84f12 hf, FS.x84f14 hf, FS.x84f15 hf, FS.x84f16 hf, FS.x84f17 hf, e0, e1, e2, e3, e4, j2, j3, J]
theorem f_ask (hf : FS w H L S r g c) (ho : FO w p s b ta tw o j ri) (hk : HOK H) (ra : RA H B r) (rb : RB r) (rw0 : RW H r) (rp : RP r) : ∃ u, rn 101 (0, [(0, jvr 118)], [], w) = some (none, u) ∧ FS u H L S (gAA H (H 0 3).toNat 0 (j, r)).2 g c ∧ FO u p s b ta tw o (gAA H (H 0 3).toNat 0 (j, r)).1 ri ∧ Fr fQ w u := by
  have k3 := hk.2.1
  obtain ⟨u, e, F⟩ := cask_loop hk (H 0 3).toNat 0 j r [] w hf ho ra rb rw0 rp (by omega) (by omega) (tk_n 2)
  refine ⟨u, ?_, F⟩
  rw [← e]
  simp (disch := omega) only [p101_0, p101_1, p101_3, p101_4, p101_7, p101_10, p101_13, p101_16, p101_17, p101_20, p101_23, p101_24, p101_25, p101_28, p101_29, p101_30, p101_31, p101_34, p101_37, p101_38, p101_39, p101_42, p101_45, p101_46, p101_47, p101_48, p101_51, p101_52, p101_55, p101_56, p101_59, p101_62, p101_65, p101_67, p101_70, p101_73, p101_74, p101_77, p101_80, p101_82, p101_83, p101_84, p101_87, p101_90, p101_91, p101_92, p101_95, p101_98, p101_99, p101_102, p101_105, p101_106, p101_107, p101_108, p101_109, p101_110, p101_113, p101_114, p101_117, p101_118, p101_121, p101_122, p101_123, p101_126, p101_127i, p101_127a, p101_128, p101_131, p101_132, p101_133, p101_136, p101_139, p101_142, jwd_c, jwd_0, Nat.reduceLeDiff, Nat.reduceEqDiff, Nat.reduceAdd, Nat.reduceSub, Nat.reduceMul, Int.reduceAdd, Int.reduceSub, Int.reduceMul, Int.reduceNeg, Int.reduceEq, Int.reduceLT, Int.reduceLE, jq_ldi_i, jq_ldl_l, jq_lda_a, jq_inc_i, jq_gs_t, jq_gsb_t, jq_gb_t, jq_gr_2, jq_gr_4, jq_gw_2, jq_s_t, jq_b_t, jg_c, jg_n, js_c, js_n, jrm_c, jrm_n, j2_i, j2_l, j2_a, jq_c_i, jq_c_l, jq_c_0, jq_c_n, jwd_le, jw_c0, mS_I, mS_R, mS_J, mN_I, mN_R, mN_J, mR_I, mI_R, mJ_I, mJ_R, mI_J, mR_J, ↓reduceIte, decide_true, or_true, true_or, and_self, false_or, or_false, reduceCtorEq, Bool.false_eq_true, and_false, false_and, eq_self, true_and, and_true, zero_ne]
end ASK
