/-! The class: who joins. -/
theorem w6 {W : Int} (h1 : 3 ≤ W) (h2 : W ≤ 8) : W = 3 ∨ W = 4 ∨ W = 5 ∨ W = 6 ∨ W = 7 ∨ W = 8 := by omega
theorem gTo_sym {H : Nat → Nat → Int} (hk : HOK H) {c s : Int} (c1 : 0 ≤ c) (c2 : c < H 1 0) (s1 : 0 ≤ s) (s2 : s < 4) (hd : gTo H c s ≠ -1) : gTo H (gTo H c s) ((s + 2) % 4) = c := by
  have k := hk.1
  have hs : s = 0 ∨ s = 1 ∨ s = 2 ∨ s = 3 := by omega
  have hW := w6 k.2.1 k.2.2.1
  unfold gTo at hd ⊢
  generalize H 0 0 = W at *
  rcases hs with rfl | rfl | rfl | rfl
  · simp only [Int.reduceMod, Int.reduceAdd, Int.reduceEq, ↓reduceIte] at hd ⊢
    by_cases q : c < W
    · rw [if_pos q] at hd
      exact absurd rfl hd
    · rw [if_neg q, if_pos (by omega)]
      omega
  · simp only [Int.reduceMod, Int.reduceAdd, Int.reduceEq, ↓reduceIte] at hd ⊢
    by_cases q : c % W + 1 < W
    · rw [if_pos q]
      have : 0 < (c + 1) % W := by
        rcases hW with rfl | rfl | rfl | rfl | rfl | rfl <;> omega
      rw [if_pos this]
      omega
    · rw [if_neg q] at hd
      exact absurd rfl hd
  · simp only [Int.reduceMod, Int.reduceAdd, Int.reduceEq, ↓reduceIte] at hd ⊢
    by_cases q : c + W < H 1 0
    · rw [if_pos q, if_neg (by omega)]
      omega
    · rw [if_neg q] at hd
      exact absurd rfl hd
  · simp only [Int.reduceMod, Int.reduceAdd, Int.reduceEq, ↓reduceIte] at hd ⊢
    by_cases q : 0 < c % W
    · rw [if_pos q]
      have : (c - 1) % W + 1 < W := by
        rcases hW with rfl | rfl | rfl | rfl | rfl | rfl <;> omega
      rw [if_pos this]
      omega
    · rw [if_neg q] at hd
      exact absurd rfl hd
theorem gBes_near {H : Nat → Nat → Int} (hk : HOK H) {x d : Int} (x1 : 0 ≤ x) (x2 : x < H 1 0) (xo : H 17 x.toNat < 2) (d1 : 0 ≤ d) (d2 : d < H 1 0) : gBes H x d ↔ ∃ s : Int, 0 ≤ s ∧ s < 4 ∧ ci (gOpen H (gTo H d s)) (gTo H d s) (-1) = x := by
  constructor
  · rintro ⟨s, s1, s2, e⟩
    have e2 := gTo_sym hk x1 x2 s1 s2 (by omega)
    rw [e] at e2
    refine ⟨(s + 2) % 4, by omega, by omega, ?_⟩
    rw [e2, ci_t ⟨by omega, xo⟩]
  · rintro ⟨s, s1, s2, e⟩
    by_cases o : gOpen H (gTo H d s)
    · rw [ci_t o] at e
      have e2 := gTo_sym hk d1 d2 s1 s2 o.1
      rw [e] at e2
      exact ⟨(s + 2) % 4, by omega, by omega, e2⟩
    · rw [ci_f o] at e
      omega
section ASKERS
variable {w u : jmW} {H : Nat → Nat → Int} {L : Int} {S r g : Nat → Int} {c : Int} {B : Int} {p s b ta tw o j ri : Int}
theorem at_in (hf : FS w H L S r g c) {d i x : Int} (d1 : 0 ≤ d) (d2 : d < H 1 0) (kc : H 1 0 ≤ 48) (x1 : 0 ≤ x) (x2 : x < 48) (hk : HOK H) {t5 : jmL} (h5 : tk 5 t5) : ∀ (n : Nat) (s : Int), 0 ≤ s → s + n = 4 → rn 102 (28, (0, jvr 118) :: (1, .inl d) :: (2, .inl i) :: (3, .inl x) :: (4, .inl s) :: t5, [], w) = ci (∃ k : Int, s ≤ k ∧ k < 4 ∧ ci (gOpen H (gTo H d k)) (gTo H d k) (-1) = x) (some (some (.inl i), w)) (rn 102 (59, (0, jvr 118) :: (1, .inl d) :: (2, .inl i) :: (3, .inl x) :: (4, .inl 4) :: t5, [], w)) := by
  have J : ∀ a : Nat, a < 5 → jrm t5 a = t5 := fun a ha => tk_jrm t5 5 a h5 ha
  intro n
  induction n with
  | zero =>
    intro s s1 s2
    have e : s = 4 := by omega
    subst e
    rw [ci_f (fun ⟨k, k1, k2, _⟩ => by omega), p102_28]
    simp (disch := omega) only [p102_0, p102_1, p102_3, p102_4, p102_7, p102_10, p102_13, p102_16, p102_17, p102_20, p102_21, p102_24, p102_25, p102_26, p102_30, p102_31, p102_34, p102_35, p102_38, p102_41, p102_42, p102_44, p102_47, p102_48, p102_51, p102_52, p102_53, p102_56, p102_62, p102_65, p102_66, jwd_c, jwd_0, Nat.reduceLeDiff, Nat.reduceEqDiff, Nat.reduceAdd, Nat.reduceSub, Nat.reduceMul, Int.reduceAdd, Int.reduceSub, Int.reduceMul, Int.reduceNeg, Int.reduceEq, Int.reduceLT, Int.reduceLE, jq_ldi_i, jq_ldl_l, jq_lda_a, jq_inc_i, jq_gs_t, jq_gsb_t, jq_gb_t, jq_gr_2, jq_gr_4, jq_gw_2, jq_s_t, jq_b_t, jg_c, jg_n, js_c, js_n, jrm_c, jrm_n, j2_i, j2_l, j2_a, jq_c_i, jq_c_l, jq_c_0, jq_c_n, jwd_le, jw_c0, mS_I, mS_R, mS_J, mN_I, mN_R, mN_J, mR_I, mI_R, mJ_I, mJ_R, mI_J, mR_J, ↓reduceIte, decide_true, or_true, true_or, and_self, false_or, or_false, reduceCtorEq, Bool.false_eq_true, and_false, false_and, eq_self, true_and, and_true, zero_ne, ↓br_lt_t, ↓br_lt_f, ↓br_eq_t, ↓br_eq_f, ↓br_lz_t, ↓br_lz_f, ↓br_ez_t, ↓br_ez_f, ↓br_gz_t, ↓br_gz_f, jw_id, jin_t, jix_t]
  | succ n ih =>
    intro s s1 s2
    have e1 := fs_near hf (i := d) (k := s) d1 d2 s1 (by omega)
    have gb := gTo_bd hk (c := d) (s := s) d1 d2
    have nb : -1 ≤ ci (gOpen H (gTo H d s)) (gTo H d s) (-1) ∧ ci (gOpen H (gTo H d s)) (gTo H d s) (-1) < 48 := by
      by_cases q : gOpen H (gTo H d s)
      · rw [ci_t q]
        omega
      · rw [ci_f q]
        omega
    by_cases q : ci (gOpen H (gTo H d s)) (gTo H d s) (-1) = x
    · rw [ci_t ⟨s, by omega, by omega, q⟩, p102_28]
      rw [q] at e1
      simp (disch := omega) only [p102_0, p102_1, p102_3, p102_4, p102_7, p102_10, p102_13, p102_16, p102_17, p102_20, p102_21, p102_24, p102_25, p102_26, p102_30, p102_31, p102_34, p102_35, p102_38, p102_41, p102_42, p102_44, p102_47, p102_48, p102_51, p102_52, p102_53, p102_56, p102_62, p102_65, p102_66, jwd_c, jwd_0, Nat.reduceLeDiff, Nat.reduceEqDiff, Nat.reduceAdd, Nat.reduceSub, Nat.reduceMul, Int.reduceAdd, Int.reduceSub, Int.reduceMul, Int.reduceNeg, Int.reduceEq, Int.reduceLT, Int.reduceLE, jq_ldi_i, jq_ldl_l, jq_lda_a, jq_inc_i, jq_gs_t, jq_gsb_t, jq_gb_t, jq_gr_2, jq_gr_4, jq_gw_2, jq_s_t, jq_b_t, jg_c, jg_n, js_c, js_n, jrm_c, jrm_n, j2_i, j2_l, j2_a, jq_c_i, jq_c_l, jq_c_0, jq_c_n, jwd_le, jw_c0, mS_I, mS_R, mS_J, mN_I, mN_R, mN_J, mR_I, mI_R, mJ_I, mJ_R, mI_J, mR_J, ↓reduceIte, decide_true, or_true, true_or, and_self, false_or, or_false, reduceCtorEq, Bool.false_eq_true, and_false, false_and, eq_self, true_and, and_true, zero_ne, ↓br_lt_t, ↓br_lt_f, ↓br_eq_t, ↓br_eq_f, ↓br_lz_t, ↓br_lz_f, ↓br_ez_t, ↓br_ez_f, ↓br_gz_t, ↓br_gz_f, jw_id, jin_t, jix_t, FS.s hf, FS.r0 hf, FS.r1 hf, FS.r2 hf, FS.r3 hf, FS.r4 hf, FS.r5 hf, FS.r6 hf, FS.x119 hf, FS.x119p hf, FS.x119k hf, FS.x119t hf, FS.x120 hf, FS.x122 hf, FS.x124 hf, FS.x126 hf, FS.x130 hf, FS.x128 hf, FS.x132 hf, FS.x134 hf, FS.x84 hf, FS.x84r0 hf, FS.x85 hf, FS.x84r1 hf, FS.x87 hf, FS.x84r2 hf, FS.x89 hf, FS.x84r3 hf, FS.x91 hf, FS.x84r4 hf, FS.x93 hf, FS.x84r5 hf, FS.x95 hf, FS.x84r6 hf, FS.x97 hf, FS.x84r7 hf, FS.x99 hf, FS.x84f8 hf, FS.x84f9 hf, FS.x84f10 hf, FS.x84f11 hf, FS.x84f12 hf, FS.x84f14 hf, FS.x84f15 hf, FS.x84f16 hf, FS.x84f17 hf, e1]
    · have e2 := ih (s + 1) (by omega) (by omega)
      have e3 : (∃ k : Int, s ≤ k ∧ k < 4 ∧ ci (gOpen H (gTo H d k)) (gTo H d k) (-1) = x) ↔ (∃ k : Int, s + 1 ≤ k ∧ k < 4 ∧ ci (gOpen H (gTo H d k)) (gTo H d k) (-1) = x) := by
        constructor
        · rintro ⟨k, k1, k2, k3⟩
          refine ⟨k, ?_, k2, k3⟩
          by_cases z : k = s
          · subst z
            exact absurd k3 q
          · omega
        · rintro ⟨k, k1, k2, k3⟩
          exact ⟨k, by omega, k2, k3⟩
      rw [propext e3, ← e2, p102_28]
      generalize ci (gOpen H (gTo H d s)) (gTo H d s) (-1) = y at *
      simp (disch := omega) only [p102_0, p102_1, p102_3, p102_4, p102_7, p102_10, p102_13, p102_16, p102_17, p102_20, p102_21, p102_24, p102_25, p102_26, p102_30, p102_31, p102_34, p102_35, p102_38, p102_41, p102_42, p102_44, p102_47, p102_48, p102_51, p102_52, p102_53, p102_56, p102_62, p102_65, p102_66, jwd_c, jwd_0, Nat.reduceLeDiff, Nat.reduceEqDiff, Nat.reduceAdd, Nat.reduceSub, Nat.reduceMul, Int.reduceAdd, Int.reduceSub, Int.reduceMul, Int.reduceNeg, Int.reduceEq, Int.reduceLT, Int.reduceLE, jq_ldi_i, jq_ldl_l, jq_lda_a, jq_inc_i, jq_gs_t, jq_gsb_t, jq_gb_t, jq_gr_2, jq_gr_4, jq_gw_2, jq_s_t, jq_b_t, jg_c, jg_n, js_c, js_n, jrm_c, jrm_n, j2_i, j2_l, j2_a, jq_c_i, jq_c_l, jq_c_0, jq_c_n, jwd_le, jw_c0, mS_I, mS_R, mS_J, mN_I, mN_R, mN_J, mR_I, mI_R, mJ_I, mJ_R, mI_J, mR_J, ↓reduceIte, decide_true, or_true, true_or, and_self, false_or, or_false, reduceCtorEq, Bool.false_eq_true, and_false, false_and, eq_self, true_and, and_true, zero_ne, ↓br_lt_t, ↓br_lt_f, ↓br_eq_t, ↓br_eq_f, ↓br_lz_t, ↓br_lz_f, ↓br_ez_t, ↓br_ez_f, ↓br_gz_t, ↓br_gz_f, jw_id, jin_t, jix_t, FS.s hf, FS.r0 hf, FS.r1 hf, FS.r2 hf, FS.r3 hf, FS.r4 hf, FS.r5 hf, FS.r6 hf, FS.x119 hf, FS.x119p hf, FS.x119k hf, FS.x119t hf, FS.x120 hf, FS.x122 hf, FS.x124 hf, FS.x126 hf, FS.x130 hf, FS.x128 hf, FS.x132 hf, FS.x134 hf, FS.x84 hf, FS.x84r0 hf, FS.x85 hf, FS.x84r1 hf, FS.x87 hf, FS.x84r2 hf, FS.x89 hf, FS.x84r3 hf, FS.x91 hf, FS.x84r4 hf, FS.x93 hf, FS.x84r5 hf, FS.x95 hf, FS.x84r6 hf, FS.x97 hf, FS.x84r7 hf, FS.x99 hf, FS.x84f8 hf, FS.x84f9 hf, FS.x84f10 hf, FS.x84f11 hf, FS.x84f12 hf, FS.x84f14 hf, FS.x84f15 hf, FS.x84f16 hf, FS.x84f17 hf, e1, J]
theorem at_loop (hf : FS w H L S r g c) (hk : HOK H) (ra : RA H B r) (rb : RB r) (rw0 : RW H r) {d : Int} (d1 : 0 ≤ d) (d2 : d < H 1 0) : ∀ (n : Nat) (i : Int) (t : jmL), 0 ≤ i → i + n = r 289 → tk 3 t → rn 102 (2, (0, jvr 118) :: (1, .inl d) :: (2, .inl i) :: t, [], w) = some (some (.inl (if gAk H r d n i = r 289 then -1 else gAk H r d n i)), w) := by
  have kc := hk.1.2.2.2.2.2
  have h16 := ra.1
  have e0 := fs_n hf (by omega)
  intro n
  induction n with
  | zero =>
    intro i t i1 i2 ht
    have e : gAk H r d 0 i = i := rfl
    rw [e, if_pos (by omega), p102_2]
    simp (disch := omega) only [p102_0, p102_1, p102_3, p102_4, p102_7, p102_10, p102_13, p102_16, p102_17, p102_20, p102_21, p102_24, p102_25, p102_26, p102_30, p102_31, p102_34, p102_35, p102_38, p102_41, p102_42, p102_44, p102_47, p102_48, p102_51, p102_52, p102_53, p102_56, p102_62, p102_65, p102_66, jwd_c, jwd_0, Nat.reduceLeDiff, Nat.reduceEqDiff, Nat.reduceAdd, Nat.reduceSub, Nat.reduceMul, Int.reduceAdd, Int.reduceSub, Int.reduceMul, Int.reduceNeg, Int.reduceEq, Int.reduceLT, Int.reduceLE, jq_ldi_i, jq_ldl_l, jq_lda_a, jq_inc_i, jq_gs_t, jq_gsb_t, jq_gb_t, jq_gr_2, jq_gr_4, jq_gw_2, jq_s_t, jq_b_t, jg_c, jg_n, js_c, js_n, jrm_c, jrm_n, j2_i, j2_l, j2_a, jq_c_i, jq_c_l, jq_c_0, jq_c_n, jwd_le, jw_c0, mS_I, mS_R, mS_J, mN_I, mN_R, mN_J, mR_I, mI_R, mJ_I, mJ_R, mI_J, mR_J, ↓reduceIte, decide_true, or_true, true_or, and_self, false_or, or_false, reduceCtorEq, Bool.false_eq_true, and_false, false_and, eq_self, true_and, and_true, zero_ne, ↓br_lt_t, ↓br_lt_f, ↓br_eq_t, ↓br_eq_f, ↓br_lz_t, ↓br_lz_f, ↓br_ez_t, ↓br_ez_f, ↓br_gz_t, ↓br_gz_f, jw_id, jin_t, jix_t, FS.s hf, FS.r0 hf, FS.r1 hf, FS.r2 hf, FS.r3 hf, FS.r4 hf, FS.r5 hf, FS.r6 hf, FS.x119 hf, FS.x119p hf, FS.x119k hf, FS.x119t hf, FS.x120 hf, FS.x122 hf, FS.x124 hf, FS.x126 hf, FS.x130 hf, FS.x128 hf, FS.x132 hf, FS.x134 hf, FS.x84 hf, FS.x84r0 hf, FS.x85 hf, FS.x84r1 hf, FS.x87 hf, FS.x84r2 hf, FS.x89 hf, FS.x84r3 hf, FS.x91 hf, FS.x84r4 hf, FS.x93 hf, FS.x84r5 hf, FS.x95 hf, FS.x84r6 hf, FS.x97 hf, FS.x84r7 hf, FS.x99 hf, FS.x84f8 hf, FS.x84f9 hf, FS.x84f10 hf, FS.x84f11 hf, FS.x84f12 hf, FS.x84f14 hf, FS.x84f15 hf, FS.x84f16 hf, FS.x84f17 hf, e0]
  | succ n ih =>
    intro i t i1 i2 ht
    have e : gAk H r d (n + 1) i = ci (gBes H (gCell r i) d) i (gAk H r d n (i + 1)) := rfl
    have e1 := fs_cell hf ra rb (i := i) (by omega) (by omega)
    have c0 := RC rb rw0 (i := i) (by omega) (by omega)
    have bn := gBes_near hk c0.1 c0.2.1 c0.2.2 d1 d2
    obtain ⟨t3, j3, k3⟩ := tk_js ht
    obtain ⟨t4, j4, k4⟩ := tk_js k3
    have ab := ak_bd (H := H) (r := r) (d := d) n (i + 1)
    generalize gCell r i = x at *
    have e2 := at_in hf (d := d) (i := i) (x := x) d1 d2 (by omega) c0.1 (by omega) hk k4 4 0 (by omega) (by omega)
    have J : ∀ a : Nat, a < 5 → jrm t4 a = t4 := fun a ha => tk_jrm t4 5 a k4 ha
    rw [p102_2]
    simp (disch := omega) only [p102_0, p102_1, p102_3, p102_4, p102_7, p102_10, p102_13, p102_16, p102_17, p102_20, p102_21, p102_24, p102_25, p102_26, p102_30, p102_31, p102_34, p102_35, p102_38, p102_41, p102_42, p102_44, p102_47, p102_48, p102_51, p102_52, p102_53, p102_56, p102_62, p102_65, p102_66, jwd_c, jwd_0, Nat.reduceLeDiff, Nat.reduceEqDiff, Nat.reduceAdd, Nat.reduceSub, Nat.reduceMul, Int.reduceAdd, Int.reduceSub, Int.reduceMul, Int.reduceNeg, Int.reduceEq, Int.reduceLT, Int.reduceLE, jq_ldi_i, jq_ldl_l, jq_lda_a, jq_inc_i, jq_gs_t, jq_gsb_t, jq_gb_t, jq_gr_2, jq_gr_4, jq_gw_2, jq_s_t, jq_b_t, jg_c, jg_n, js_c, js_n, jrm_c, jrm_n, j2_i, j2_l, j2_a, jq_c_i, jq_c_l, jq_c_0, jq_c_n, jwd_le, jw_c0, mS_I, mS_R, mS_J, mN_I, mN_R, mN_J, mR_I, mI_R, mJ_I, mJ_R, mI_J, mR_J, ↓reduceIte, decide_true, or_true, true_or, and_self, false_or, or_false, reduceCtorEq, Bool.false_eq_true, and_false, false_and, eq_self, true_and, and_true, zero_ne, ↓br_lt_t, ↓br_lt_f, ↓br_eq_t, ↓br_eq_f, ↓br_lz_t, ↓br_lz_f, ↓br_ez_t, ↓br_ez_f, ↓br_gz_t, ↓br_gz_f, jw_id, jin_t, jix_t, FS.s hf, FS.r0 hf, FS.r1 hf, FS.r2 hf, FS.r3 hf, FS.r4 hf, FS.r5 hf, FS.r6 hf, FS.x119 hf, FS.x119p hf, FS.x119k hf, FS.x119t hf, FS.x120 hf, FS.x122 hf, FS.x124 hf, FS.x126 hf, FS.x130 hf, FS.x128 hf, FS.x132 hf, FS.x134 hf, FS.x84 hf, FS.x84r0 hf, FS.x85 hf, FS.x84r1 hf, FS.x87 hf, FS.x84r2 hf, FS.x89 hf, FS.x84r3 hf, FS.x91 hf, FS.x84r4 hf, FS.x93 hf, FS.x84r5 hf, FS.x95 hf, FS.x84r6 hf, FS.x97 hf, FS.x84r7 hf, FS.x99 hf, FS.x84f8 hf, FS.x84f9 hf, FS.x84f10 hf, FS.x84f11 hf, FS.x84f12 hf, FS.x84f14 hf, FS.x84f15 hf, FS.x84f16 hf, FS.x84f17 hf, e0, e1, j3, j4, e2]
    rw [e, propext bn]
    by_cases q : ∃ s : Int, 0 ≤ s ∧ s < 4 ∧ ci (gOpen H (gTo H d s)) (gTo H d s) (-1) = x
    · rw [ci_t q, ci_t q, if_neg (by omega)]
    · have e3 := ih (i + 1) ((3, .inl x) :: (4, .inl 4) :: t4) (by omega) (by omega) (tk_c (tk_c k4))
      rw [ci_f q, ci_f q, ← e3]
      simp (disch := omega) only [p102_0, p102_1, p102_3, p102_4, p102_7, p102_10, p102_13, p102_16, p102_17, p102_20, p102_21, p102_24, p102_25, p102_26, p102_30, p102_31, p102_34, p102_35, p102_38, p102_41, p102_42, p102_44, p102_47, p102_48, p102_51, p102_52, p102_53, p102_56, p102_59, p102_62, p102_65, p102_66, jwd_c, jwd_0, Nat.reduceLeDiff, Nat.reduceEqDiff, Nat.reduceAdd, Nat.reduceSub, Nat.reduceMul, Int.reduceAdd, Int.reduceSub, Int.reduceMul, Int.reduceNeg, Int.reduceEq, Int.reduceLT, Int.reduceLE, jq_ldi_i, jq_ldl_l, jq_lda_a, jq_inc_i, jq_gs_t, jq_gsb_t, jq_gb_t, jq_gr_2, jq_gr_4, jq_gw_2, jq_s_t, jq_b_t, jg_c, jg_n, js_c, js_n, jrm_c, jrm_n, j2_i, j2_l, j2_a, jq_c_i, jq_c_l, jq_c_0, jq_c_n, jwd_le, jw_c0, mS_I, mS_R, mS_J, mN_I, mN_R, mN_J, mR_I, mI_R, mJ_I, mJ_R, mI_J, mR_J, ↓reduceIte, decide_true, or_true, true_or, and_self, false_or, or_false, reduceCtorEq, Bool.false_eq_true, and_false, false_and, eq_self, true_and, and_true, zero_ne, ↓br_lt_t, ↓br_lt_f, ↓br_eq_t, ↓br_eq_f, ↓br_lz_t, ↓br_lz_f, ↓br_ez_t, ↓br_ez_f, ↓br_gz_t, ↓br_gz_f, jw_id, jin_t, jix_t, FS.s hf, FS.r0 hf, FS.r1 hf, FS.r2 hf, FS.r3 hf, FS.r4 hf, FS.r5 hf, FS.r6 hf, FS.x119 hf, FS.x119p hf, FS.x119k hf, FS.x119t hf, FS.x120 hf, FS.x122 hf, FS.x124 hf, FS.x126 hf, FS.x130 hf, FS.x128 hf, FS.x132 hf, FS.x134 hf, FS.x84 hf, FS.x84r0 hf, FS.x85 hf, FS.x84r1 hf, FS.x87 hf, FS.x84r2 hf, FS.x89 hf, FS.x84r3 hf, FS.x91 hf, FS.x84r4 hf, FS.x93 hf, FS.x84r5 hf, FS.x95 hf, FS.x84r6 hf, FS.x97 hf, FS.x84r7 hf, FS.x99 hf, FS.x84f8 hf, FS.x84f9 hf, FS.x84f10 hf, FS.x84f11 hf, FS.x84f12 hf, FS.x84f14 hf, FS.x84f15 hf, FS.x84f16 hf, FS.x84f17 hf, J]
theorem f_asker (hf : FS w H L S r g c) (hk : HOK H) (ra : RA H B r) (rb : RB r) (rw0 : RW H r) {t : Int} (t1 : 0 ≤ t) (t2 : t < H 0 3) : rn 102 (0, [(0, jvr 118), (1, .inl (H 18 t.toNat))], [], w) = some (some (.inl (if gAi H r t = r 289 then -1 else gAi H r t)), w) := by
  have h16 := ra.1
  have kt := hk.2.2.2.2.1 t t1 t2
  have e := at_loop hf hk ra rb rw0 (d := H 18 t.toNat) (by omega) (by omega) (r 289).toNat 0 [] (by omega) (by omega) (tk_n 3)
  rw [show gAi H r t = gAk H r (H 18 t.toNat) (r 289).toNat 0 from rfl, ← e]
  simp (disch := omega) only [p102_0, p102_1, p102_3, p102_4, p102_7, p102_10, p102_13, p102_16, p102_17, p102_20, p102_21, p102_24, p102_25, p102_26, p102_30, p102_31, p102_34, p102_35, p102_38, p102_41, p102_42, p102_44, p102_47, p102_48, p102_51, p102_52, p102_53, p102_56, p102_59, p102_62, p102_65, p102_66, jwd_c, jwd_0, Nat.reduceLeDiff, Nat.reduceEqDiff, Nat.reduceAdd, Nat.reduceSub, Nat.reduceMul, Int.reduceAdd, Int.reduceSub, Int.reduceMul, Int.reduceNeg, Int.reduceEq, Int.reduceLT, Int.reduceLE, jq_ldi_i, jq_ldl_l, jq_lda_a, jq_inc_i, jq_gs_t, jq_gsb_t, jq_gb_t, jq_gr_2, jq_gr_4, jq_gw_2, jq_s_t, jq_b_t, jg_c, jg_n, js_c, js_n, jrm_c, jrm_n, j2_i, j2_l, j2_a, jq_c_i, jq_c_l, jq_c_0, jq_c_n, jwd_le, jw_c0, mS_I, mS_R, mS_J, mN_I, mN_R, mN_J, mR_I, mI_R, mJ_I, mJ_R, mI_J, mR_J, ↓reduceIte, decide_true, or_true, true_or, and_self, false_or, or_false, reduceCtorEq, Bool.false_eq_true, and_false, false_and, eq_self, true_and, and_true, zero_ne]
theorem cr_fresh {a T : Nat} (h : CR w a T c r) : mI w a 8 = r 290 := h.2.2.2.2.2.2.2.2.2.2.2.2.1
theorem ch_tab {b2 : Nat} (hc : CH w b2 H) (hk : HOK H) {t k : Int} (t1 : 0 ≤ t) (t2 : t < H 0 3) (k1 : 0 ≤ k) (k2 : k < 6) : rn 23 (0, [(0, jvr (b2 + 7)), (1, .inl t), (2, .inl k)], [], w) = some (some (.inl (gTab H t.toNat k.toNat)), w) := sg_in hc.g7 t1 (by omega) k1 (by omega)
theorem J8_sits {t p sp x : Int} (h9 : r 289 ≤ 16) (t1 : 0 ≤ t) (t2 : t < 4) (p1 : 0 ≤ p) (p2 : p < 16) : gJ8 H (up1 r (284 + t).toNat x) t p sp = up1 (gJ8 H r t p sp) (284 + t).toNat x := by
  have e : gInsK (up1 r (284 + t).toNat x) p = up1 (gInsK r p) (284 + t).toNat x := by
    funext n
    unfold gInsK
    rw [up1_n (b := 289) (by omega)]
    by_cases z : n = (284 + t).toNat
    · subst z
      rw [if_neg (by omega), up1_s, up1_s]
    · rw [up1_n z, up1_n z]
      split
      · rw [up1_n (by omega)]
      · rfl
  unfold gJ8
  rw [e, up1_n (b := 289) (by omega), up1_n (b := 290) (by omega), up1_cm (a := (284 + t).toNat) (b := (204 + p).toNat) (by omega), up1_cm (a := (284 + t).toNat) (b := (220 + p).toNat) (by omega), up1_cm (a := (284 + t).toNat) (b := (236 + p).toNat) (by omega), up1_cm (a := (284 + t).toNat) (b := (252 + p).toNat) (by omega), up1_cm (a := (284 + t).toNat) (b := (268 + p).toNat) (by omega), up1_cm (a := (284 + t).toNat) (b := 289) (by omega), up1_cm (a := (284 + t).toNat) (b := 290) (by omega)]
theorem join_sits {t i : Int} (h9 : 1 ≤ r 289 ∧ r 289 ≤ 15) (t1 : 0 ≤ t) (t2 : t < 4) (i1 : 0 ≤ i) : gJoin8 H (up1 r (284 + t).toNat (r (284 + t).toNat - 1)) t i = gJoin H r t i := by
  unfold gJoin8 gJoin
  rw [up1_n (b := 289) (by omega), up1_n (b := (220 + (r 289 - 1)).toNat) (by omega)]
  split
  · rw [up1_n (b := (220 + (i + 1)).toNat) (by omega), J8_sits (by omega) t1 t2 (by omega) (by omega)]
    rfl
  · rw [J8_sits (by omega) t1 t2 (by omega) (by omega)]
    rfl
end ASKERS
