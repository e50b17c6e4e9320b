/-! The class: the front goes, step by step. -/
section AHEAD2
variable {w u : jmW} {H : Nat → Nat → Int} {L : Int} {S r g : Nat → Int} {c : Int} {B : Int}
theorem ahead_loop (hk : HOK H) (l1 : 0 ≤ L) (l2 : L ≤ 12) (s1 : ∀ k, k < 12 → 0 ≤ S k ∧ S k ≤ 3) {D : Int} (D3 : D ≤ 3) : ∀ (n : Nat) (i : Int) (r g : Nat → Int) (t : jmL) (w : jmW), FS w H L S r g c → RA H B r → RB r → RW H r → r 220 = r 288 - 1 → r 297 = 0 → r 288 + n ≤ 203 → Sg w 132 1 48 (H 1 0).toNat (fun x _ => bi (gSO r x 0)) → 0 ≤ i → i + n = D → tk 3 t → ∃ u, rn 86 (23, (0, jvr 118) :: (1, .inl D) :: (2, .inl i) :: t, [], w) = some (some (.inl (gGo H L S n r 297)), u) ∧ FS u H L S (gFx (gGo H L S n r)) (up1 g (r 204).toNat (g (r 204).toNat + (gGo H L S n r 288 - r 288))) c ∧ Fr (fun b => 119 ≤ b ∧ b ≤ 135 ∧ b ≠ 128 ∧ b ≠ 129) w u := by
  have kc := hk.1.2.2.2.2.2
  have k15 := hk.2.2.1.2.2.2.2.2.2.2.2.2.2.2.2.2.1
  intro n
  induction n with
  | zero =>
    intro i r g t w hf ra rb rw0 rp h97 hl hsh i1 i2 ht
    have e : gGo H L S 0 r = r := rfl
    refine ⟨w, ?_, ?_, Fr.rf _ _⟩
    · rw [e, h97, p86_23]
      simp (disch := omega) only [p86_0, p86_1, p86_4, p86_5, p86_8, p86_11, p86_14, p86_15, p86_18, p86_21, p86_22, p86_24, p86_25, p86_28, p86_29, p86_32, p86_33, p86_36, p86_37, p86_38, p86_41, p86_42, p86_45, p86_46, p86_49, p86_50, p86_51, p86_54, p86_56, p86_58, p86_61, p86_64, p86_65, p86_68, p86_71, p86_73, p86_76, p86_77, p86_80, p86_83, p86_84, p86_85, p86_86, p86_89, p86_92, p86_95, p86_96, p86_97, p86_100, p86_101, p86_104, p86_105, p86_108, p86_109, p86_110, p86_111, p86_114, p86_115, p86_118, p86_121, p86_124, p86_125, p86_128, p86_130, p86_131, p86_134, p86_137, p86_138, p86_139, p86_142, p86_145, p86_146, jwd_c, jwd_0, Nat.reduceLeDiff, Nat.reduceEqDiff, Nat.reduceAdd, Nat.reduceSub, Nat.reduceMul, Int.reduceAdd, Int.reduceSub, Int.reduceMul, Int.reduceNeg, Int.reduceEq, Int.reduceLT, Int.reduceLE, jq_ldi_i, jq_ldl_l, jq_lda_a, jq_inc_i, jq_gs_t, jq_gsb_t, jq_gb_t, jq_gr_2, jq_gr_4, jq_gw_2, jq_s_t, jq_b_t, jg_c, jg_n, js_c, js_n, jrm_c, jrm_n, j2_i, j2_l, j2_a, jq_c_i, jq_c_l, jq_c_0, jq_c_n, jwd_le, jw_c0, mS_I, mS_R, mS_J, mN_I, mN_R, mN_J, mR_I, mI_R, mJ_I, mJ_R, mI_J, mR_J, ↓reduceIte, decide_true, or_true, true_or, and_self, false_or, or_false, reduceCtorEq, Bool.false_eq_true, and_false, false_and, eq_self, true_and, and_true, zero_ne, ↓br_lt_t, ↓br_lt_f, ↓br_eq_t, ↓br_eq_f, ↓br_lz_t, ↓br_lz_f, ↓br_ez_t, ↓br_ez_f, ↓br_gz_t, ↓br_gz_f, jw_id, jin_t, jix_t, FS.s hf, FS.r0 hf, FS.r1 hf, FS.r2 hf, FS.r3 hf, FS.r4 hf, FS.r5 hf, FS.r6 hf, FS.x119 hf, FS.x119p hf, FS.x119k hf, FS.x119t hf, FS.x120 hf, FS.x122 hf, FS.x124 hf, FS.x126 hf, FS.x130 hf, FS.x128 hf, FS.x132 hf, FS.x134 hf, FS.x84 hf, FS.x84r0 hf, FS.x85 hf, FS.x84r1 hf, FS.x87 hf, FS.x84r2 hf, FS.x89 hf, FS.x84r3 hf, FS.x91 hf, FS.x84r4 hf, FS.x93 hf, FS.x84r5 hf, FS.x95 hf, FS.x84r6 hf, FS.x97 hf, FS.x84r7 hf, FS.x99 hf, FS.x84f8 hf, FS.x84f9 hf, FS.x84f10 hf, FS.x84f11 hf, FS.x84f12 hf, FS.x84f14 hf, FS.x84f15 hf, FS.x84f16 hf, FS.x84f17 hf]
    · rw [e, fx_id rp, up1_id (by omega)]
      exact hf
  | succ n ih =>
    intro i r g t w hf ra rb rw0 rp h97 hl hsh i1 i2 ht
    have h16 := ra.1
    have eg : gGo H L S (n + 1) r = gGo H L S n (gStep H L S r) := if_pos h97
    obtain ⟨w1, a1, a2, a3⟩ := f_look hf hk ra rb rw0 rp hsh
    have F1 := hf.ar a3 ⟨_, _, a2⟩
    obtain ⟨w2, s, b1, F2, b3, b4, b5⟩ := f_pick F1 hk ra rw0 a2 l1 l2 s1
    have har := a2.fr b3 (by omega) (by omega)
    have hsh2 := (hsh.fr a3 (sP_n (by omega)) (sP_n (by omega))).fr b3 (by omega) (by omega)
    have fr2 : Fr (fun b => 119 ≤ b ∧ b ≤ 135 ∧ b ≠ 128 ∧ b ≠ 129) w w2 := (a3.mo (fun b hb => by unfold sP at hb; omega)).tr (b3.mo (fun b hb => by omega))
    obtain ⟨p1, p2, p3, p4, p5⟩ := lead_keeps (L := L) (S := S) l2 s1 ra rb rw0
    obtain ⟨p6, -, p7⟩ := gLead_ok (H := H) (L := L) (S := S) l2 s1 ra
    have hse : gStep H L S r = if (gLead H L S r).1 = -1 then (gLead H L S r).2 else gPut H (gLead H L S r).2 (gLead H L S r).1 := rfl
    have skp := step_keep hk l2 s1 ra rb rw0 (by omega) h97
    obtain ⟨t3, j3, k3⟩ := tk_js ht
    obtain ⟨t4, j4, k4⟩ := tk_js k3
    have J : ∀ a : Nat, a < 5 → jrm t4 a = t4 := fun a ha => tk_jrm t4 5 a k4 ha
    rw [eg, p86_23]
    by_cases z : (gLead H L S r).1 = -1
    · rw [if_pos z] at hse
      rw [hse]
      have q8 := p7 288 (by omega) (by omega)
      have q7 := p7 297 (by omega) (by omega)
      have q2 := p7 220 (by omega) (by omega)
      have q4 := p7 204 (by omega) (by omega)
      have fin : ∀ t5, tk 3 t5 → ∃ u, rn 86 (23, (0, jvr 118) :: (1, .inl D) :: (2, .inl (i + 1)) :: t5, [], w2) = some (some (.inl (gGo H L S n (gLead H L S r).2 297)), u) ∧ FS u H L S (gFx (gGo H L S n (gLead H L S r).2)) (up1 g (r 204).toNat (g (r 204).toNat + (gGo H L S n (gLead H L S r).2 288 - r 288))) c ∧ Fr (fun b => 119 ≤ b ∧ b ≤ 135 ∧ b ≠ 128 ∧ b ≠ 129) w u := by
        intro t5 ht5
        obtain ⟨u, x1, x2, x3⟩ := ih (i + 1) _ g t5 w2 F2 p1 p2 p3 (by omega) (by omega) (by omega) (hsh2.mk2 (fun x y hx hy => bi_c (so0_c (q := (gLead H L S r).2) (r := r) (fun k hk => p7 k (by omega) (by omega)) (fun k k1 k2 => p7 k (by omega) (by omega)) (p7 289 (by omega) (by omega)) (by omega) rb).symm)) (by omega) (by omega) ht5
        rw [q4, q8] at x2
        exact ⟨u, x1, x2, fr2.tr x3⟩
      rcases b5 z with y | ⟨y1, y2, y3⟩
      · subst y
        obtain ⟨u, x1, x2, x3⟩ := fin ((3, .inl (-1)) :: (4, .inl (-1)) :: t4) (tk_c (tk_c k4))
        refine ⟨u, ?_, x2, x3⟩
        rw [← x1]
        simp (disch := omega) only [p86_0, p86_1, p86_4, p86_5, p86_8, p86_11, p86_14, p86_15, p86_18, p86_21, p86_22, p86_24, p86_25, p86_28, p86_29, p86_32, p86_33, p86_36, p86_37, p86_38, p86_41, p86_42, p86_45, p86_46, p86_49, p86_50, p86_51, p86_54, p86_56, p86_58, p86_61, p86_64, p86_65, p86_68, p86_71, p86_73, p86_76, p86_77, p86_80, p86_83, p86_84, p86_85, p86_86, p86_89, p86_92, p86_95, p86_96, p86_97, p86_100, p86_101, p86_104, p86_105, p86_108, p86_109, p86_110, p86_111, p86_114, p86_115, p86_118, p86_121, p86_124, p86_125, p86_128, p86_130, p86_131, p86_134, p86_137, p86_138, p86_139, p86_142, p86_145, p86_146, jwd_c, jwd_0, Nat.reduceLeDiff, Nat.reduceEqDiff, Nat.reduceAdd, Nat.reduceSub, Nat.reduceMul, Int.reduceAdd, Int.reduceSub, Int.reduceMul, Int.reduceNeg, Int.reduceEq, Int.reduceLT, Int.reduceLE, jq_ldi_i, jq_ldl_l, jq_lda_a, jq_inc_i, jq_gs_t, jq_gsb_t, jq_gb_t, jq_gr_2, jq_gr_4, jq_gw_2, jq_s_t, jq_b_t, jg_c, jg_n, js_c, js_n, jrm_c, jrm_n, j2_i, j2_l, j2_a, jq_c_i, jq_c_l, jq_c_0, jq_c_n, jwd_le, jw_c0, mS_I, mS_R, mS_J, mN_I, mN_R, mN_J, mR_I, mI_R, mJ_I, mJ_R, mI_J, mR_J, ↓reduceIte, decide_true, or_true, true_or, and_self, false_or, or_false, reduceCtorEq, Bool.false_eq_true, and_false, false_and, eq_self, true_and, and_true, zero_ne, ↓br_lt_t, ↓br_lt_f, ↓br_eq_t, ↓br_eq_f, ↓br_lz_t, ↓br_lz_f, ↓br_ez_t, ↓br_ez_f, ↓br_gz_t, ↓br_gz_f, jw_id, jin_t, jix_t, FS.s hf, FS.r0 hf, FS.r1 hf, FS.r2 hf, FS.r3 hf, FS.r4 hf, FS.r5 hf, FS.r6 hf, FS.x119 hf, FS.x119p hf, FS.x119k hf, FS.x119t hf, FS.x120 hf, FS.x122 hf, FS.x124 hf, FS.x126 hf, FS.x130 hf, FS.x128 hf, FS.x132 hf, FS.x134 hf, FS.x84 hf, FS.x84r0 hf, FS.x85 hf, FS.x84r1 hf, FS.x87 hf, FS.x84r2 hf, FS.x89 hf, FS.x84r3 hf, FS.x91 hf, FS.x84r4 hf, FS.x93 hf, FS.x84r5 hf, FS.x95 hf, FS.x84r6 hf, FS.x97 hf, FS.x84r7 hf, FS.x99 hf, FS.x84f8 hf, FS.x84f9 hf, FS.x84f10 hf, FS.x84f11 hf, FS.x84f12 hf, FS.x84f14 hf, FS.x84f15 hf, FS.x84f16 hf, FS.x84f17 hf, a1, F1.s, b1, j3, j4, J]
      · obtain ⟨u, x1, x2, x3⟩ := fin ((3, .inl s) :: (4, .inl (-1)) :: t4) (tk_c (tk_c k4))
        refine ⟨u, ?_, x2, x3⟩
        have e1 := ar_get har y1 y2
        rw [ard_f y3] at e1
        rw [← x1]
        have z1 := F2.s
        have z2 := F2.r6
        simp (disch := omega) only [p86_0, p86_1, p86_4, p86_5, p86_8, p86_11, p86_14, p86_15, p86_18, p86_21, p86_22, p86_24, p86_25, p86_28, p86_29, p86_32, p86_33, p86_36, p86_37, p86_38, p86_41, p86_42, p86_45, p86_46, p86_49, p86_50, p86_51, p86_54, p86_56, p86_58, p86_61, p86_64, p86_65, p86_68, p86_71, p86_73, p86_76, p86_77, p86_80, p86_83, p86_84, p86_85, p86_86, p86_89, p86_92, p86_95, p86_96, p86_97, p86_100, p86_101, p86_104, p86_105, p86_108, p86_109, p86_110, p86_111, p86_114, p86_115, p86_118, p86_121, p86_124, p86_125, p86_128, p86_130, p86_131, p86_134, p86_137, p86_138, p86_139, p86_142, p86_145, p86_146, jwd_c, jwd_0, Nat.reduceLeDiff, Nat.reduceEqDiff, Nat.reduceAdd, Nat.reduceSub, Nat.reduceMul, Int.reduceAdd, Int.reduceSub, Int.reduceMul, Int.reduceNeg, Int.reduceEq, Int.reduceLT, Int.reduceLE, jq_ldi_i, jq_ldl_l, jq_lda_a, jq_inc_i, jq_gs_t, jq_gsb_t, jq_gb_t, jq_gr_2, jq_gr_4, jq_gw_2, jq_s_t, jq_b_t, jg_c, jg_n, js_c, js_n, jrm_c, jrm_n, j2_i, j2_l, j2_a, jq_c_i, jq_c_l, jq_c_0, jq_c_n, jwd_le, jw_c0, mS_I, mS_R, mS_J, mN_I, mN_R, mN_J, mR_I, mI_R, mJ_I, mJ_R, mI_J, mR_J, ↓reduceIte, decide_true, or_true, true_or, and_self, false_or, or_false, reduceCtorEq, Bool.false_eq_true, and_false, false_and, eq_self, true_and, and_true, zero_ne, ↓br_lt_t, ↓br_lt_f, ↓br_eq_t, ↓br_eq_f, ↓br_lz_t, ↓br_lz_f, ↓br_ez_t, ↓br_ez_f, ↓br_gz_t, ↓br_gz_f, jw_id, jin_t, jix_t, FS.s hf, FS.r0 hf, FS.r1 hf, FS.r2 hf, FS.r3 hf, FS.r4 hf, FS.r5 hf, FS.r6 hf, FS.x119 hf, FS.x119p hf, FS.x119k hf, FS.x119t hf, FS.x120 hf, FS.x122 hf, FS.x124 hf, FS.x126 hf, FS.x130 hf, FS.x128 hf, FS.x132 hf, FS.x134 hf, FS.x84 hf, FS.x84r0 hf, FS.x85 hf, FS.x84r1 hf, FS.x87 hf, FS.x84r2 hf, FS.x89 hf, FS.x84r3 hf, FS.x91 hf, FS.x84r4 hf, FS.x93 hf, FS.x84r5 hf, FS.x95 hf, FS.x84r6 hf, FS.x97 hf, FS.x84r7 hf, FS.x99 hf, FS.x84f8 hf, FS.x84f9 hf, FS.x84f10 hf, FS.x84f11 hf, FS.x84f12 hf, FS.x84f14 hf, FS.x84f15 hf, FS.x84f16 hf, FS.x84f17 hf, a1, F1.s, b1, j3, j4, J, z1, z2, F2.x134, e1]
    · rw [if_neg z] at hse
      have b4 := b4 z
      rw [← b4] at hse p5 p6
      obtain ⟨sa, sb, sc⟩ := p6.resolve_left (by rw [b4]; exact z)
      have sd := (p5.resolve_left (by rw [b4]; exact z)).2.2
      generalize hq : (gLead H L S r).2 = q at *
      obtain ⟨v1, v2, v3⟩ := ard_t hk ra rw0 sc
      have v4 := gTo_bd hk (c := gHere r) (s := s) (here_ok ra rw0).1 (here_ok ra rw0).2
      have q8 := p7 288 (by omega) (by omega)
      have q9 := p7 289 (by omega) (by omega)
      have q7 := p7 297 (by omega) (by omega)
      have q2 := p7 220 (by omega) (by omega)
      have q4 := p7 204 (by omega) (by omega)
      have hh : gHere q = gHere r := by
        unfold gHere
        rw [q8, p7 _ (by omega) (by omega)]
      obtain ⟨P1, P2, P3, P4⟩ := put_ok hk p1 p2 p3 (by omega) sa sb sd
      rw [← hse] at P1 P2 P3 P4
      have e1 := ar_get har sa sb
      rw [v1] at e1
      have hX : gStep H L S r = gPut2 (ci (¬ H 0 15 = 0 ∧ gCloses q (gTo H (gHere r) s)) (up1 q 297 1) q) (gTo H (gHere r) s) s := by
        rw [hse]
        unfold gPut
        rw [hh]
      have cq : gCloses q (gTo H (gHere r) s) ↔ gCloses r (gTo H (gHere r) s) := clo_c (q := q) (r := r) (fun k hk => p7 k (by omega) (by omega)) (fun k k1 k2 => p7 k (by omega) (by omega)) q9 (by omega) rb
      generalize hd : gTo H (gHere r) s = d at *
      obtain ⟨w3, c1, c2, c3⟩ := F2.cr.pushw (by omega) (by omega) (by omega) (v := d)
      have F3 := F2.row (c3.mo (fun b hb => by unfold sP at hb; unfold rP; omega)) c2
      have e2 := fs_l F3 (by rw [up1_s]; omega)
      rw [up1_s] at e2
      obtain ⟨w4, d1, d2, d3⟩ := F3.cr.putc (v := q 288 + 1 - 1) (by rw [up1_s, up1_n (by omega), up1_n (by omega)]; omega) (i := 0) (k := 1) (by omega) (by rw [up1_n (by omega), up1_n (by omega)]; omega) (by omega) (by omega)
      rw [show (204 + 16 * (1 : Int) + 0).toNat = 220 from rfl, show q 288 + 1 - 1 = q 288 by omega] at d2
      have F4 := F3.row (d3.mo (fun b hb => by unfold sP at hb; unfold rP; omega)) d2
      have F5 := F4.row (Fr.I (k := 6) (x := s) ⟨by omega, by omega⟩) (F4.cr.fld (by rw [up1_n (by omega), up1_s]; omega) (by rw [up1_n (by omega), up1_n (by omega), up1_n (by omega)]; omega) (k := 6) (m := 292) (x := s) (by omega))
      rw [fx_put2 (by omega)] at F5
      have Y8 : gFx (gPut2 q d s) 288 = q 288 + 1 := by
        unfold gFx gPut2
        rw [up1_n (by omega), up1_n (by omega), up1_s]
      have Y9 : gFx (gPut2 q d s) 289 = q 289 := by
        unfold gFx gPut2
        rw [up1_n (by omega), up1_n (by omega), up1_n (by omega), up1_n (by omega)]
      have F6 : FS (setI w4 119 6 s) H L S (gFx (gStep H L S r)) g c := by
        refine F5.ring (by omega) (fun k hk => ?_)
        rw [hX]
        by_cases y : ¬ H 0 15 = 0 ∧ gCloses q d
        · rw [ci_t y, put2_297 (by omega), fx_297, up1_n hk]
        · rw [ci_f y]
      obtain ⟨G1, G2, G3, G4⟩ := fx_ok P1 P2 P3
      have X4 := skp 204 (by omega) (by omega) (by omega) (by omega) (by omega) (by omega)
      have X9 := skp 289 (by omega) (by omega) (by omega) (by omega) (by omega) (by omega)
      have fxe : ∀ k, k ≠ 220 → gFx (gStep H L S r) k = gStep H L S r k := fun k hk => up1_n hk
      obtain ⟨w6, f1, F7, f3⟩ := f_tally F6 G1 G2 (i := 0) (n := 1) (by omega) (by rw [fxe _ (by omega), X9]; omega)
      rw [show (204 + (0 : Int)).toNat = 204 from rfl, fxe 204 (by omega), X4] at F7
      have fr6 : Fr (fun b => 119 ≤ b ∧ b ≤ 135 ∧ b ≠ 128 ∧ b ≠ 129) w2 w6 := (((c3.mo (fun b hb => by unfold sP at hb; omega)).tr (d3.mo (fun b hb => by unfold sP at hb; omega))).tr (Fr.I (by omega))).tr (f3.mo (fun b hb => by unfold sP at hb; omega))
      have fr6s : Fr (fun b => 119 ≤ b ∧ b ≤ 127) w2 w6 := (((c3.mo (fun b hb => by unfold sP at hb; omega)).tr (d3.mo (fun b hb => by unfold sP at hb; omega))).tr (Fr.I (by omega))).tr (f3.mo (fun b hb => by unfold sP at hb; omega))
      have hsh6 := hsh2.fr fr6s (by omega) (by omega)
      have e3 := sg_in hsh6 (l := d) (k := 0) (by omega) (by omega) (by omega) (by omega)
      rw [show ((d.toNat : Nat) : Int) = d by omega] at e3
      have run : ∀ v, rn 86 (114, (0, jvr 118) :: (1, .inl D) :: (2, .inl i) :: (3, .inl s) :: (4, .inl d) :: t4, [], w6) = v → rn 86 (23, (0, jvr 118) :: (1, .inl D) :: (2, .inl i) :: t, [], w) = v := by
        intro v hv
        rw [← hv, p86_23]
        simp (disch := omega) only [p86_0, p86_1, p86_4, p86_5, p86_8, p86_11, p86_14, p86_15, p86_18, p86_21, p86_22, p86_24, p86_25, p86_28, p86_29, p86_32, p86_33, p86_36, p86_37, p86_38, p86_41, p86_42, p86_45, p86_46, p86_49, p86_50, p86_51, p86_54, p86_56, p86_58, p86_61, p86_64, p86_65, p86_68, p86_71, p86_73, p86_76, p86_77, p86_80, p86_83, p86_84, p86_85, p86_86, p86_89, p86_92, p86_95, p86_96, p86_97, p86_100, p86_101, p86_104, p86_105, p86_108, p86_109, p86_110, p86_111, p86_115, p86_118, p86_121, p86_124, p86_125, p86_128, p86_130, p86_131, p86_134, p86_137, p86_138, p86_139, p86_142, p86_145, p86_146, jwd_c, jwd_0, Nat.reduceLeDiff, Nat.reduceEqDiff, Nat.reduceAdd, Nat.reduceSub, Nat.reduceMul, Int.reduceAdd, Int.reduceSub, Int.reduceMul, Int.reduceNeg, Int.reduceEq, Int.reduceLT, Int.reduceLE, jq_ldi_i, jq_ldl_l, jq_lda_a, jq_inc_i, jq_gs_t, jq_gsb_t, jq_gb_t, jq_gr_2, jq_gr_4, jq_gw_2, jq_s_t, jq_b_t, jg_c, jg_n, js_c, js_n, jrm_c, jrm_n, j2_i, j2_l, j2_a, jq_c_i, jq_c_l, jq_c_0, jq_c_n, jwd_le, jw_c0, mS_I, mS_R, mS_J, mN_I, mN_R, mN_J, mR_I, mI_R, mJ_I, mJ_R, mI_J, mR_J, ↓reduceIte, decide_true, or_true, true_or, and_self, false_or, or_false, reduceCtorEq, Bool.false_eq_true, and_false, false_and, eq_self, true_and, and_true, zero_ne, ↓br_lt_t, ↓br_lt_f, ↓br_eq_t, ↓br_eq_f, ↓br_lz_t, ↓br_lz_f, ↓br_ez_t, ↓br_ez_f, ↓br_gz_t, ↓br_gz_f, jw_id, jin_t, jix_t, FS.s hf, FS.r0 hf, FS.r1 hf, FS.r2 hf, FS.r3 hf, FS.r4 hf, FS.r5 hf, FS.r6 hf, FS.x119 hf, FS.x119p hf, FS.x119k hf, FS.x119t hf, FS.x120 hf, FS.x122 hf, FS.x124 hf, FS.x126 hf, FS.x130 hf, FS.x128 hf, FS.x132 hf, FS.x134 hf, FS.x84 hf, FS.x84r0 hf, FS.x85 hf, FS.x84r1 hf, FS.x87 hf, FS.x84r2 hf, FS.x89 hf, FS.x84r3 hf, FS.x91 hf, FS.x84r4 hf, FS.x93 hf, FS.x84r5 hf, FS.x95 hf, FS.x84r6 hf, FS.x97 hf, FS.x84r7 hf, FS.x99 hf, FS.x84f8 hf, FS.x84f9 hf, FS.x84f10 hf, FS.x84f11 hf, FS.x84f12 hf, FS.x84f14 hf, FS.x84f15 hf, FS.x84f16 hf, FS.x84f17 hf, a1, F1.s, b1, j3, j4, J, F2.s, F2.r6, F2.r1, F2.x134, e1, F2.x119, F2.x119p, F2.x120, c1, F3.s, F3.r1, F3.x119, F3.x119p, F3.x119k, F3.x120, F3.x122, e2, d1, F4.s, F4.r1, F4.x119, F6.s, f1]
      rw [← p86_23]
      by_cases y : ¬ H 0 15 = 0 ∧ gCloses q d
      · rw [ci_t y, put2_297 (by omega)] at hX
        have X97 : gStep H L S r 297 = 1 := by
          rw [hX, up1_s]
        rw [go_stop n _ (by omega), X97]
        refine ⟨w6, run _ ?_, ?_, fr2.tr fr6⟩
        · have so : gSO r d 0 := ⟨r 289 - 1, by have := (cq.mp y.2).1; omega, by omega, by have := (cq.mp y.2).1; omega, (cq.mp y.2).2⟩
          rw [bi_t so] at e3
          have y0 := y.1
          simp (disch := omega) only [p86_0, p86_1, p86_4, p86_5, p86_8, p86_11, p86_14, p86_15, p86_18, p86_21, p86_22, p86_24, p86_25, p86_28, p86_29, p86_32, p86_33, p86_36, p86_37, p86_38, p86_41, p86_42, p86_45, p86_46, p86_49, p86_50, p86_51, p86_54, p86_56, p86_58, p86_61, p86_64, p86_65, p86_68, p86_71, p86_73, p86_76, p86_77, p86_80, p86_83, p86_84, p86_85, p86_86, p86_89, p86_92, p86_95, p86_96, p86_97, p86_100, p86_101, p86_104, p86_105, p86_108, p86_109, p86_110, p86_111, p86_114, p86_115, p86_118, p86_121, p86_124, p86_125, p86_128, p86_130, p86_131, p86_134, p86_137, p86_138, p86_139, p86_142, p86_145, p86_146, jwd_c, jwd_0, Nat.reduceLeDiff, Nat.reduceEqDiff, Nat.reduceAdd, Nat.reduceSub, Nat.reduceMul, Int.reduceAdd, Int.reduceSub, Int.reduceMul, Int.reduceNeg, Int.reduceEq, Int.reduceLT, Int.reduceLE, jq_ldi_i, jq_ldl_l, jq_lda_a, jq_inc_i, jq_gs_t, jq_gsb_t, jq_gb_t, jq_gr_2, jq_gr_4, jq_gw_2, jq_s_t, jq_b_t, jg_c, jg_n, js_c, js_n, jrm_c, jrm_n, j2_i, j2_l, j2_a, jq_c_i, jq_c_l, jq_c_0, jq_c_n, jwd_le, jw_c0, mS_I, mS_R, mS_J, mN_I, mN_R, mN_J, mR_I, mI_R, mJ_I, mJ_R, mI_J, mR_J, ↓reduceIte, decide_true, or_true, true_or, and_self, false_or, or_false, reduceCtorEq, Bool.false_eq_true, and_false, false_and, eq_self, true_and, and_true, zero_ne, ↓br_lt_t, ↓br_lt_f, ↓br_eq_t, ↓br_eq_f, ↓br_lz_t, ↓br_lz_f, ↓br_ez_t, ↓br_ez_f, ↓br_gz_t, ↓br_gz_f, jw_id, jin_t, jix_t, F7.s, F7.r0, F7.r5, F7.x84, F7.x84f10, F7.x132, e3, J]
        · rw [show gStep H L S r 288 - r 288 = 1 by omega]
          exact F7
      · rw [ci_f y] at hX
        have X97 : gStep H L S r 297 = 0 := by
          rw [hX]
          unfold gPut2
          rw [up1_n (by omega), up1_n (by omega), up1_n (by omega)]
          omega
        obtain ⟨u, x1, x2, x3⟩ := ih (i + 1) _ _ ((3, .inl s) :: (4, .inl d) :: t4) w6 F7 G1 G2 G3 G4 (by rw [fxe _ (by omega)]; exact X97) (by rw [fxe _ (by omega)]; omega) (hsh6.mk2 (fun x y hx hy => bi_c (so0_c (q := gFx (gStep H L S r)) (r := r) (fun k hk2 => by
          rw [fxe _ (by omega), hX]
          unfold gPut2
          rw [up1_n (by omega), up1_n (by omega), up1_n (by omega)]
          exact p7 k (by omega) (by omega)) (fun k k1 k2 => by rw [fxe _ (by omega)]; exact skp k (by omega) (by omega) (by omega) (by omega) (by omega) (by omega)) (by rw [fxe _ (by omega)]; exact X9) (by omega) rb).symm)) (by omega) (by omega) (tk_c (tk_c k4))
        have e9 := go_220 hk l2 s1 (x := gStep H L S r 288 - 1) n (gStep H L S r) P1 P2 P3 (by omega)
        rw [show gFx (gStep H L S r) = up1 (gStep H L S r) 220 (gStep H L S r 288 - 1) from rfl, e9, fx_up, up1_n (b := 204) (by omega), X4, up1_s, up1_up1, up1_n (b := 288) (by omega), up1_n (b := 288) (by omega)] at x2
        rw [show gFx (gStep H L S r) = up1 (gStep H L S r) 220 (gStep H L S r 288 - 1) from rfl, e9, up1_n (b := 297) (by omega)] at x1
        refine ⟨u, run _ ?_, ?_, (fr2.tr fr6).tr x3⟩
        · rw [← x1]
          by_cases y0 : H 0 15 = 0
          · simp (disch := omega) only [p86_0, p86_1, p86_4, p86_5, p86_8, p86_11, p86_14, p86_15, p86_18, p86_21, p86_22, p86_24, p86_25, p86_28, p86_29, p86_32, p86_33, p86_36, p86_37, p86_38, p86_41, p86_42, p86_45, p86_46, p86_49, p86_50, p86_51, p86_54, p86_56, p86_58, p86_61, p86_64, p86_65, p86_68, p86_71, p86_73, p86_76, p86_77, p86_80, p86_83, p86_84, p86_85, p86_86, p86_89, p86_92, p86_95, p86_96, p86_97, p86_100, p86_101, p86_104, p86_105, p86_108, p86_109, p86_110, p86_111, p86_114, p86_115, p86_118, p86_121, p86_124, p86_125, p86_128, p86_130, p86_131, p86_134, p86_137, p86_138, p86_139, p86_142, p86_145, p86_146, jwd_c, jwd_0, Nat.reduceLeDiff, Nat.reduceEqDiff, Nat.reduceAdd, Nat.reduceSub, Nat.reduceMul, Int.reduceAdd, Int.reduceSub, Int.reduceMul, Int.reduceNeg, Int.reduceEq, Int.reduceLT, Int.reduceLE, jq_ldi_i, jq_ldl_l, jq_lda_a, jq_inc_i, jq_gs_t, jq_gsb_t, jq_gb_t, jq_gr_2, jq_gr_4, jq_gw_2, jq_s_t, jq_b_t, jg_c, jg_n, js_c, js_n, jrm_c, jrm_n, j2_i, j2_l, j2_a, jq_c_i, jq_c_l, jq_c_0, jq_c_n, jwd_le, jw_c0, mS_I, mS_R, mS_J, mN_I, mN_R, mN_J, mR_I, mI_R, mJ_I, mJ_R, mI_J, mR_J, ↓reduceIte, decide_true, or_true, true_or, and_self, false_or, or_false, reduceCtorEq, Bool.false_eq_true, and_false, false_and, eq_self, true_and, and_true, zero_ne, ↓br_lt_t, ↓br_lt_f, ↓br_eq_t, ↓br_eq_f, ↓br_lz_t, ↓br_lz_f, ↓br_ez_t, ↓br_ez_f, ↓br_gz_t, ↓br_gz_f, jw_id, jin_t, jix_t, F7.s, F7.r0, F7.r5, F7.x84, F7.x84f10, F7.x132, y0, J]
          · have so : ¬ gSO r d 0 := by
              intro so
              have g2 := sc.2
              rw [hd] at g2
              rcases g2 with g2 | g2 | g2
              · exact y0 g2
              · exact g2 so
              · exact y ⟨y0, cq.mpr g2⟩
            rw [bi_f so] at e3
            simp (disch := omega) only [p86_0, p86_1, p86_4, p86_5, p86_8, p86_11, p86_14, p86_15, p86_18, p86_21, p86_22, p86_24, p86_25, p86_28, p86_29, p86_32, p86_33, p86_36, p86_37, p86_38, p86_41, p86_42, p86_45, p86_46, p86_49, p86_50, p86_51, p86_54, p86_56, p86_58, p86_61, p86_64, p86_65, p86_68, p86_71, p86_73, p86_76, p86_77, p86_80, p86_83, p86_84, p86_85, p86_86, p86_89, p86_92, p86_95, p86_96, p86_97, p86_100, p86_101, p86_104, p86_105, p86_108, p86_109, p86_110, p86_111, p86_114, p86_115, p86_118, p86_121, p86_124, p86_125, p86_128, p86_130, p86_131, p86_134, p86_137, p86_138, p86_139, p86_142, p86_145, p86_146, jwd_c, jwd_0, Nat.reduceLeDiff, Nat.reduceEqDiff, Nat.reduceAdd, Nat.reduceSub, Nat.reduceMul, Int.reduceAdd, Int.reduceSub, Int.reduceMul, Int.reduceNeg, Int.reduceEq, Int.reduceLT, Int.reduceLE, jq_ldi_i, jq_ldl_l, jq_lda_a, jq_inc_i, jq_gs_t, jq_gsb_t, jq_gb_t, jq_gr_2, jq_gr_4, jq_gw_2, jq_s_t, jq_b_t, jg_c, jg_n, js_c, js_n, jrm_c, jrm_n, j2_i, j2_l, j2_a, jq_c_i, jq_c_l, jq_c_0, jq_c_n, jwd_le, jw_c0, mS_I, mS_R, mS_J, mN_I, mN_R, mN_J, mR_I, mI_R, mJ_I, mJ_R, mI_J, mR_J, ↓reduceIte, decide_true, or_true, true_or, and_self, false_or, or_false, reduceCtorEq, Bool.false_eq_true, and_false, false_and, eq_self, true_and, and_true, zero_ne, ↓br_lt_t, ↓br_lt_f, ↓br_eq_t, ↓br_eq_f, ↓br_lz_t, ↓br_lz_f, ↓br_ez_t, ↓br_ez_f, ↓br_gz_t, ↓br_gz_f, jw_id, jin_t, jix_t, F7.s, F7.r0, F7.r5, F7.x84, F7.x84f10, F7.x132, e3, J]
        · rw [show g (r 204).toNat + 1 + (gGo H L S n (gStep H L S r) 288 - gStep H L S r 288) = g (r 204).toNat + (gGo H L S n (gStep H L S r) 288 - r 288) by omega] at x2
          exact x2
theorem f_ahead (hf : FS w H L S r g c) (hk : HOK H) (l1 : 0 ≤ L) (l2 : L ≤ 12) (s1 : ∀ k, k < 12 → 0 ≤ S k ∧ S k ≤ 3) (ra : RA H B r) (rb : RB r) (rw0 : RW H r) (rp : RP r) (h97 : r 297 = 0) {n : Int} (n1 : 0 ≤ n) (n2 : n ≤ 3) (hl : r 288 + n ≤ 203) : ∃ u, rn 86 (0, [(0, jvr 118), (1, .inl n)], [], w) = some (some (.inl ((gB0 H L S n.toNat r g).1 297)), u) ∧ FS u H L S (gB0 H L S n.toNat r g).1 (gB0 H L S n.toNat r g).2 c ∧ Fr (fun b => 119 ≤ b ∧ b ≤ 135 ∧ b ≠ 128 ∧ b ≠ 129) w u := by
  have h16 := ra.1
  have kc := hk.1.2.2.2.2.2
  obtain ⟨n5, q5, h5⟩ := hf.g5
  have e0 := sg_count hf.ch.g1
  rw [show (((H 1 0).toNat : Nat) : Int) = H 1 0 by omega] at e0
  obtain ⟨w1, e1, s2, f1⟩ := r_shut hf.cr h5 hk ra rb rw0 (by omega)
  have F1 := hf.sh f1 ⟨_, _, s2⟩
  obtain ⟨u, e2, F2, f2⟩ := ahead_loop hk l1 l2 s1 n2 n.toNat 0 r g [] w1 F1 ra rb rw0 rp.1 h97 (by omega) s2 (by omega) (by omega) (tk_n 3)
  have k4 := (b0_ok hk l2 s1 ra rb rw0 rp (n := n.toNat) (by omega) g).2.2.2.2.2.2
  have a1 : (gB0 H L S n.toNat r g).1 = gFx (gGo H L S n.toNat r) := rfl
  have a2 : (gB0 H L S n.toNat r g).2 = up1 g (r 204).toNat (g (r 204).toNat + (gGo H L S n.toNat r 288 - r 288)) := by
    unfold gB0
    dsimp only
    rw [k4]
  rw [a1, a2]
  have a3 : gFx (gGo H L S n.toNat r) 297 = gGo H L S n.toNat r 297 := up1_n (by omega)
  refine ⟨u, ?_, F2, (f1.mo (fun b hb => by unfold sP at hb; omega)).tr f2⟩
  rw [a3, ← e2]
  simp (disch := omega) only [p86_0, p86_1, p86_4, p86_5, p86_8, p86_11, p86_14, p86_15, p86_18, p86_21, p86_22, p86_24, p86_25, p86_28, p86_29, p86_32, p86_33, p86_36, p86_37, p86_38, p86_41, p86_42, p86_45, p86_46, p86_49, p86_50, p86_51, p86_54, p86_56, p86_58, p86_61, p86_64, p86_65, p86_68, p86_71, p86_73, p86_76, p86_77, p86_80, p86_83, p86_84, p86_85, p86_86, p86_89, p86_92, p86_95, p86_96, p86_97, p86_100, p86_101, p86_104, p86_105, p86_108, p86_109, p86_110, p86_111, p86_114, p86_115, p86_118, p86_121, p86_124, p86_125, p86_128, p86_130, p86_131, p86_134, p86_137, p86_138, p86_139, p86_142, p86_145, p86_146, jwd_c, jwd_0, Nat.reduceLeDiff, Nat.reduceEqDiff, Nat.reduceAdd, Nat.reduceSub, Nat.reduceMul, Int.reduceAdd, Int.reduceSub, Int.reduceMul, Int.reduceNeg, Int.reduceEq, Int.reduceLT, Int.reduceLE, jq_ldi_i, jq_ldl_l, jq_lda_a, jq_inc_i, jq_gs_t, jq_gsb_t, jq_gb_t, jq_gr_2, jq_gr_4, jq_gw_2, jq_s_t, jq_b_t, jg_c, jg_n, js_c, js_n, jrm_c, jrm_n, j2_i, j2_l, j2_a, jq_c_i, jq_c_l, jq_c_0, jq_c_n, jwd_le, jw_c0, mS_I, mS_R, mS_J, mN_I, mN_R, mN_J, mR_I, mI_R, mJ_I, mJ_R, mI_J, mR_J, ↓reduceIte, decide_true, or_true, true_or, and_self, false_or, or_false, reduceCtorEq, Bool.false_eq_true, and_false, false_and, eq_self, true_and, and_true, zero_ne, ↓br_lt_t, ↓br_lt_f, ↓br_eq_t, ↓br_eq_f, ↓br_lz_t, ↓br_lz_f, ↓br_ez_t, ↓br_ez_f, ↓br_gz_t, ↓br_gz_f, jw_id, jin_t, jix_t, FS.s hf, FS.r0 hf, FS.r1 hf, FS.r2 hf, FS.r3 hf, FS.r4 hf, FS.r5 hf, FS.r6 hf, FS.x119 hf, FS.x119p hf, FS.x119k hf, FS.x119t hf, FS.x120 hf, FS.x122 hf, FS.x124 hf, FS.x126 hf, FS.x130 hf, FS.x128 hf, FS.x132 hf, FS.x134 hf, FS.x84 hf, FS.x84r0 hf, FS.x85 hf, FS.x84r1 hf, FS.x87 hf, FS.x84r2 hf, FS.x89 hf, FS.x84r3 hf, FS.x91 hf, FS.x84r4 hf, FS.x93 hf, FS.x84r5 hf, FS.x95 hf, FS.x84r6 hf, FS.x97 hf, FS.x84r7 hf, FS.x99 hf, FS.x84f8 hf, FS.x84f9 hf, FS.x84f10 hf, FS.x84f11 hf, FS.x84f12 hf, FS.x84f14 hf, FS.x84f15 hf, FS.x84f16 hf, FS.x84f17 hf, e0, e1]
end AHEAD2
