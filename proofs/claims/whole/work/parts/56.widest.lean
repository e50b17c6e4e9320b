/-! The class: gaps measured, plans laid, frames shown. -/
noncomputable def gMs (r : Nat → Int) : Nat → Int → (Nat → Int) → Nat → Int
  | 0, _, d => d
  | n + 1, i, d => gMs r n (i + 1) (up1 d (r (204 + i).toNat).toNat (max (d (r (204 + i).toNat).toNat) (gGap r i)))
noncomputable def gMe (r d : Nat → Int) : Nat → Int := gMs r (r 289 - 1).toNat 1 d
def DB (d : Nat → Int) : Prop := ∀ k, k < 44 → -2 ≤ d k ∧ d k ≤ 300
/-- a plan's side -/
def gSd (d code i : Int) : Int := if i < 0 ∨ d ≤ i then 0 else ji_and (ji_shr code (2 * (d - 1 - i))) 3
noncomputable def gShn (H : Nat → Nat → Int) (r : Nat → Int) (f : Int) : Prop := 0 ≤ gIx r (H 30 f.toNat) (r 289).toNat 0 ∧ gCell r (gIx r (H 30 f.toNat) (r 289).toNat 0) = H 31 f.toNat
def gFrs (H : Nat → Nat → Int) (r : Nat → Int) (t m : Int) : Prop := ∀ f : Int, m ≤ f → f < H 0 8 → H 29 f.toNat = t → gShn H r f
noncomputable def gShs (H : Nat → Nat → Int) (L : Int) (S : Nat → Int) : Nat → Int → gZ → Prop
  | 0, _, _ => True
  | n + 1, t, z => gFrs H z.1.1 t 0 ∧ gShs H L S n (t + 1) (gF1 H L S (-1) z)
section WIDEST
variable {w u : jmW} {H : Nat → Nat → Int} {L : Int} {S r g : Nat → Int} {c : Int} {B : Int} {p s b ta tw o j ri : Int} {a b2 T : Nat}
theorem gIx_bd {v : Int} : ∀ (n : Nat) (i : Int), gIx r v n i = -1 ∨ (i ≤ gIx r v n i ∧ gIx r v n i < i + n) := by
  intro n
  induction n with
  | zero =>
    intro i
    exact Or.inl rfl
  | succ n ih =>
    intro i
    have e : gIx r v (n + 1) i = if r (204 + i).toNat = v then i else gIx r v n (i + 1) := rfl
    have := ih (i + 1)
    rw [e]
    split <;> omega
theorem gap_bd (ra : RA H B r) (rb : RB r) {i : Int} (i1 : 1 ≤ i) (i2 : i < r 289) : -300 ≤ gGap r i ∧ gGap r i ≤ 300 := by
  have h16 := ra.1
  have b0 := rb i (by omega) (by omega)
  have b1 := rb (i - 1) (by omega) (by omega)
  rw [show (220 + (i - 1)).toNat = (220 + i - 1).toNat by omega] at b1
  unfold gGap
  omega
theorem ms_loop (ra : RA H B r) (rb : RB r) : ∀ (n : Nat) (i : Int) (d : Nat → Int) (t : jmL) (w : jmW), FS w H L S r g c → Sg w 128 1 44 44 (fun x _ => d x) → DB d → 1 ≤ i → i + n = r 289 → tk 2 t → ∃ u, rn 117 (2, (0, jvr 118) :: (1, .inl i) :: t, [], w) = some (none, u) ∧ FS u H L S r g c ∧ Sg u 128 1 44 44 (fun x _ => gMs r n i d x) ∧ DB (gMs r n i d) ∧ Fr (sP 128) w u := by
  have h16 := ra.1
  have h17 := ra.2.1
  intro n
  induction n with
  | zero =>
    intro i d t w hf hd db i1 i2 ht
    have e0 := fs_n hf (by omega)
    refine ⟨w, ?_, hf, hd, db, Fr.rf _ _⟩
    rw [p117_2]
    simp (disch := omega) only [p117_0, p117_1, p117_3, p117_4, p117_7, p117_10, p117_13, p117_16, p117_17, p117_20, p117_23, p117_24, p117_25, p117_28, p117_29, p117_30, p117_33, p117_34, p117_35, p117_36, p117_39, p117_40, p117_41, p117_44, p117_45, p117_48, p117_49, p117_52, p117_55, p117_58, p117_61, p117_64, jwd_c, jwd_0, Nat.reduceLeDiff, Nat.reduceEqDiff, Nat.reduceAdd, Nat.reduceSub, Nat.reduceMul, Int.reduceAdd, Int.reduceSub, Int.reduceMul, Int.reduceNeg, Int.reduceEq, Int.reduceLT, Int.reduceLE, jq_ldi_i, jq_ldl_l, jq_lda_a, jq_inc_i, jq_gs_t, jq_gsb_t, jq_gb_t, jq_gr_2, jq_gr_4, jq_gw_2, jq_s_t, jq_b_t, jg_c, jg_n, js_c, js_n, jrm_c, jrm_n, j2_i, j2_l, j2_a, jq_c_i, jq_c_l, jq_c_0, jq_c_n, jwd_le, jw_c0, mS_I, mS_R, mS_J, mN_I, mN_R, mN_J, mR_I, mI_R, mJ_I, mJ_R, mI_J, mR_J, ↓reduceIte, decide_true, or_true, true_or, and_self, false_or, or_false, reduceCtorEq, Bool.false_eq_true, and_false, false_and, eq_self, true_and, and_true, zero_ne, ↓br_lt_t, ↓br_lt_f, ↓br_eq_t, ↓br_eq_f, ↓br_lz_t, ↓br_lz_f, ↓br_ez_t, ↓br_ez_f, ↓br_gz_t, ↓br_gz_f, jw_id, jin_t, jix_t, FS.s hf, FS.r0 hf, FS.r1 hf, FS.r2 hf, FS.r3 hf, FS.r4 hf, FS.r5 hf, FS.r6 hf, FS.x119 hf, FS.x119p hf, FS.x119k hf, FS.x119t hf, FS.x120 hf, FS.x122 hf, FS.x124 hf, FS.x126 hf, FS.x130 hf, FS.x128 hf, FS.x132 hf, FS.x134 hf, FS.x84 hf, FS.x84r0 hf, FS.x85 hf, FS.x84r1 hf, FS.x87 hf, FS.x84r2 hf, FS.x89 hf, FS.x84r3 hf, FS.x91 hf, FS.x84r4 hf, FS.x93 hf, FS.x84r5 hf, FS.x95 hf, FS.x84r6 hf, FS.x97 hf, FS.x84r7 hf, FS.x99 hf, FS.x84f8 hf, FS.x84f9 hf, FS.x84f10 hf, FS.x84f11 hf, FS.x84f12 hf, FS.x84f14 hf, FS.x84f15 hf, FS.x84f16 hf, FS.x84f17 hf, e0]
  | succ n ih =>
    intro i d t w hf hd db i1 i2 ht
    have e0 := fs_n hf (by omega)
    have b0 := (rb i (by omega) (by omega)).1
    have e1 := fs_get hf (i := i) (k := 0) (by omega) (by omega) (by omega) (by omega)
    rw [show (204 + 16 * (0 : Int) + i).toNat = (204 + i).toNat by omega] at e1
    have e : gMs r (n + 1) i d = gMs r n (i + 1) (up1 d (r (204 + i).toNat).toNat (max (d (r (204 + i).toNat).toNat) (gGap r i))) := rfl
    have gb := gap_bd ra rb i1 (i := i) (by omega)
    have e3 := r_gap hf.cr ra rb i1 (i := i) (by omega)
    rw [e]
    generalize r (204 + i).toNat = N at *
    generalize gGap r i = G at *
    have dN := db N.toNat (by omega)
    have e2 := sg_in hd (l := N) (k := 0) (by omega) (by omega) (by omega) (by omega)
    have e4 := mm_max (w := w) (x := d N.toNat) (y := G) (by omega) (by omega) (by omega) (by omega)
    obtain ⟨w1, e5, s5, f5⟩ := sg_put (v := max (d N.toNat) G) hd (l := N) (k := 0) (by omega) (by omega) (by omega) (by omega)
    have F1 := hf.mk f5 (fun b hb => by unfold sP at hb; omega) (f5.Rq (sP_n (by omega))) (hf.cr.fr f5 (fun b b1 b2 => sP_n (by omega))) (hf.g2.fr f5 (sP_n (by omega)) (sP_n (by omega))) ⟨_, _, s5⟩ (hf.g4.fr f5 (sP_n (by omega)) (sP_n (by omega))) (exSg hf.g5 f5 (sP_n (by omega)) (sP_n (by omega))) (exSg hf.g6 f5 (sP_n (by omega)) (sP_n (by omega)))
    obtain ⟨t2, j2, k2⟩ := tk_js ht
    have J : ∀ a : Nat, a < 3 → jrm t2 a = t2 := fun a ha => tk_jrm t2 3 a k2 ha
    have hd1 : Sg w1 128 1 44 44 (fun x _ => up1 d N.toNat (max (d N.toNat) G) x) := s5.mk2 (fun x y hx hy => by
      show (if x = N.toNat ∧ y = (0 : Int).toNat then max (d N.toNat) G else d x) = up1 d N.toNat (max (d N.toNat) G) x
      by_cases z : x = N.toNat
      · rw [if_pos ⟨z, by show y = 0; omega⟩, z, up1_s]
      · rw [if_neg (fun y2 => z y2.1), up1_n z])
    have db1 : DB (up1 d N.toNat (max (d N.toNat) G)) := by
      intro k hk
      by_cases z : k = N.toNat
      · rw [z, up1_s]
        omega
      · rw [up1_n z]
        exact db k hk
    obtain ⟨u, x1, x2, x3, x4, x5⟩ := ih (i + 1) _ ((2, .inl N) :: t2) w1 F1 hd1 db1 (by omega) (by omega) (tk_c k2)
    refine ⟨u, ?_, x2, x3, x4, f5.tr x5⟩
    rw [← x1, p117_2]
    have z1 := hd.1
    simp (disch := omega) only [p117_0, p117_1, p117_3, p117_4, p117_7, p117_10, p117_13, p117_16, p117_17, p117_20, p117_23, p117_24, p117_25, p117_28, p117_29, p117_30, p117_33, p117_34, p117_35, p117_36, p117_39, p117_40, p117_41, p117_44, p117_45, p117_48, p117_49, p117_52, p117_55, p117_58, p117_61, p117_64, jwd_c, jwd_0, Nat.reduceLeDiff, Nat.reduceEqDiff, Nat.reduceAdd, Nat.reduceSub, Nat.reduceMul, Int.reduceAdd, Int.reduceSub, Int.reduceMul, Int.reduceNeg, Int.reduceEq, Int.reduceLT, Int.reduceLE, jq_ldi_i, jq_ldl_l, jq_lda_a, jq_inc_i, jq_gs_t, jq_gsb_t, jq_gb_t, jq_gr_2, jq_gr_4, jq_gw_2, jq_s_t, jq_b_t, jg_c, jg_n, js_c, js_n, jrm_c, jrm_n, j2_i, j2_l, j2_a, jq_c_i, jq_c_l, jq_c_0, jq_c_n, jwd_le, jw_c0, mS_I, mS_R, mS_J, mN_I, mN_R, mN_J, mR_I, mI_R, mJ_I, mJ_R, mI_J, mR_J, ↓reduceIte, decide_true, or_true, true_or, and_self, false_or, or_false, reduceCtorEq, Bool.false_eq_true, and_false, false_and, eq_self, true_and, and_true, zero_ne, ↓br_lt_t, ↓br_lt_f, ↓br_eq_t, ↓br_eq_f, ↓br_lz_t, ↓br_lz_f, ↓br_ez_t, ↓br_ez_f, ↓br_gz_t, ↓br_gz_f, jw_id, jin_t, jix_t, FS.s hf, FS.r0 hf, FS.r1 hf, FS.r2 hf, FS.r3 hf, FS.r4 hf, FS.r5 hf, FS.r6 hf, FS.x119 hf, FS.x119p hf, FS.x119k hf, FS.x119t hf, FS.x120 hf, FS.x122 hf, FS.x124 hf, FS.x126 hf, FS.x130 hf, FS.x128 hf, FS.x132 hf, FS.x134 hf, FS.x84 hf, FS.x84r0 hf, FS.x85 hf, FS.x84r1 hf, FS.x87 hf, FS.x84r2 hf, FS.x89 hf, FS.x84r3 hf, FS.x91 hf, FS.x84r4 hf, FS.x93 hf, FS.x84r5 hf, FS.x95 hf, FS.x84r6 hf, FS.x97 hf, FS.x84r7 hf, FS.x99 hf, FS.x84f8 hf, FS.x84f9 hf, FS.x84f10 hf, FS.x84f11 hf, FS.x84f12 hf, FS.x84f14 hf, FS.x84f15 hf, FS.x84f16 hf, FS.x84f17 hf, e0, e1, e2, e3, e4, e5, j2, J, z1]
theorem f_measure (hf : FS w H L S r g c) (ra : RA H B r) (rb : RB r) {d : Nat → Int} (hd : Sg w 128 1 44 44 (fun x _ => d x)) (db : DB d) : ∃ u, rn 117 (0, [(0, jvr 118)], [], w) = some (none, u) ∧ FS u H L S r g c ∧ Sg u 128 1 44 44 (fun x _ => gMe r d x) ∧ DB (gMe r d) ∧ Fr (sP 128) w u := by
  have h16 := ra.1
  obtain ⟨u, e, F⟩ := ms_loop ra rb (r 289 - 1).toNat 1 d [] w hf hd db (by omega) (by omega) (tk_n 2)
  refine ⟨u, ?_, F⟩
  rw [← e]
  simp (disch := omega) only [p117_0, p117_1, p117_3, p117_4, p117_7, p117_10, p117_13, p117_16, p117_17, p117_20, p117_23, p117_24, p117_25, p117_28, p117_29, p117_30, p117_33, p117_34, p117_35, p117_36, p117_39, p117_40, p117_41, p117_44, p117_45, p117_48, p117_49, p117_52, p117_55, p117_58, p117_61, p117_64, jwd_c, jwd_0, Nat.reduceLeDiff, Nat.reduceEqDiff, Nat.reduceAdd, Nat.reduceSub, Nat.reduceMul, Int.reduceAdd, Int.reduceSub, Int.reduceMul, Int.reduceNeg, Int.reduceEq, Int.reduceLT, Int.reduceLE, jq_ldi_i, jq_ldl_l, jq_lda_a, jq_inc_i, jq_gs_t, jq_gsb_t, jq_gb_t, jq_gr_2, jq_gr_4, jq_gw_2, jq_s_t, jq_b_t, jg_c, jg_n, js_c, js_n, jrm_c, jrm_n, j2_i, j2_l, j2_a, jq_c_i, jq_c_l, jq_c_0, jq_c_n, jwd_le, jw_c0, mS_I, mS_R, mS_J, mN_I, mN_R, mN_J, mR_I, mI_R, mJ_I, mJ_R, mI_J, mR_J, ↓reduceIte, decide_true, or_true, true_or, and_self, false_or, or_false, reduceCtorEq, Bool.false_eq_true, and_false, false_and, eq_self, true_and, and_true, zero_ne]
theorem f_side {d code i : Int} (d1 : 0 ≤ d) (d2 : d ≤ 5) (i1 : -2147483648 ≤ i) (i2 : i < 2147483648) : rn 133 (0, [(0, jvr a), (1, .inl d), (2, .inl code), (3, .inl i)], [], w) = some (some (.inl (gSd d code i)), w) := by
  unfold gSd
  by_cases q1 : i < 0
  · rw [if_pos (Or.inl q1)]
    simp (disch := omega) only [p133_0, p133_1, p133_4, p133_5, p133_6, p133_9, p133_10, p133_13, p133_14, p133_15, p133_16, p133_17, p133_18, p133_19, p133_20, p133_21, p133_22, p133_23, p133_24, jwd_c, jwd_0, Nat.reduceLeDiff, Nat.reduceEqDiff, Nat.reduceAdd, Nat.reduceSub, Nat.reduceMul, Int.reduceAdd, Int.reduceSub, Int.reduceMul, Int.reduceNeg, Int.reduceEq, Int.reduceLT, Int.reduceLE, jq_ldi_i, jq_ldl_l, jq_lda_a, jq_inc_i, jq_gs_t, jq_gsb_t, jq_gb_t, jq_gr_2, jq_gr_4, jq_gw_2, jq_s_t, jq_b_t, jg_c, jg_n, js_c, js_n, jrm_c, jrm_n, j2_i, j2_l, j2_a, jq_c_i, jq_c_l, jq_c_0, jq_c_n, jwd_le, jw_c0, mS_I, mS_R, mS_J, mN_I, mN_R, mN_J, mR_I, mI_R, mJ_I, mJ_R, mI_J, mR_J, ↓reduceIte, decide_true, or_true, true_or, and_self, false_or, or_false, reduceCtorEq, Bool.false_eq_true, and_false, false_and, eq_self, true_and, and_true, zero_ne, ↓br_lt_t, ↓br_lt_f, ↓br_eq_t, ↓br_eq_f, ↓br_lz_t, ↓br_lz_f, ↓br_ez_t, ↓br_ez_f, ↓br_gz_t, ↓br_gz_f, jw_id, jin_t, jix_t]
  · by_cases q2 : d ≤ i
    · rw [if_pos (Or.inr q2)]
      simp (disch := omega) only [p133_0, p133_1, p133_4, p133_5, p133_6, p133_9, p133_10, p133_13, p133_14, p133_15, p133_16, p133_17, p133_18, p133_19, p133_20, p133_21, p133_22, p133_23, p133_24, jwd_c, jwd_0, Nat.reduceLeDiff, Nat.reduceEqDiff, Nat.reduceAdd, Nat.reduceSub, Nat.reduceMul, Int.reduceAdd, Int.reduceSub, Int.reduceMul, Int.reduceNeg, Int.reduceEq, Int.reduceLT, Int.reduceLE, jq_ldi_i, jq_ldl_l, jq_lda_a, jq_inc_i, jq_gs_t, jq_gsb_t, jq_gb_t, jq_gr_2, jq_gr_4, jq_gw_2, jq_s_t, jq_b_t, jg_c, jg_n, js_c, js_n, jrm_c, jrm_n, j2_i, j2_l, j2_a, jq_c_i, jq_c_l, jq_c_0, jq_c_n, jwd_le, jw_c0, mS_I, mS_R, mS_J, mN_I, mN_R, mN_J, mR_I, mI_R, mJ_I, mJ_R, mI_J, mR_J, ↓reduceIte, decide_true, or_true, true_or, and_self, false_or, or_false, reduceCtorEq, Bool.false_eq_true, and_false, false_and, eq_self, true_and, and_true, zero_ne, ↓br_lt_t, ↓br_lt_f, ↓br_eq_t, ↓br_eq_f, ↓br_lz_t, ↓br_lz_f, ↓br_ez_t, ↓br_ez_f, ↓br_gz_t, ↓br_gz_f, jw_id, jin_t, jix_t]
    · rw [if_neg (by omega)]
      simp (disch := omega) only [p133_0, p133_1, p133_4, p133_5, p133_6, p133_9, p133_10, p133_13, p133_14, p133_15, p133_16, p133_17, p133_18, p133_19, p133_20, p133_21, p133_22, p133_23, p133_24, jwd_c, jwd_0, Nat.reduceLeDiff, Nat.reduceEqDiff, Nat.reduceAdd, Nat.reduceSub, Nat.reduceMul, Int.reduceAdd, Int.reduceSub, Int.reduceMul, Int.reduceNeg, Int.reduceEq, Int.reduceLT, Int.reduceLE, jq_ldi_i, jq_ldl_l, jq_lda_a, jq_inc_i, jq_gs_t, jq_gsb_t, jq_gb_t, jq_gr_2, jq_gr_4, jq_gw_2, jq_s_t, jq_b_t, jg_c, jg_n, js_c, js_n, jrm_c, jrm_n, j2_i, j2_l, j2_a, jq_c_i, jq_c_l, jq_c_0, jq_c_n, jwd_le, jw_c0, mS_I, mS_R, mS_J, mN_I, mN_R, mN_J, mR_I, mI_R, mJ_I, mJ_R, mI_J, mR_J, ↓reduceIte, decide_true, or_true, true_or, and_self, false_or, or_false, reduceCtorEq, Bool.false_eq_true, and_false, false_and, eq_self, true_and, and_true, zero_ne, ↓br_lt_t, ↓br_lt_f, ↓br_eq_t, ↓br_eq_f, ↓br_lz_t, ↓br_lz_f, ↓br_ez_t, ↓br_ez_f, ↓br_gz_t, ↓br_gz_f, jw_id, jin_t, jix_t]
theorem FF.pace {z : gZ} (h : FF w H L S p z) {q : Int} : FF (setI w 118 7 q) H L S q z := by
  obtain ⟨F, o1, o2, o3, o4, o5, o6, o7, o8⟩ := h
  exact ⟨F.fl, mI_s _ _ _ _, by rw [mI_nk (by omega)]; exact o2, by rw [mI_nk (by omega)]; exact o3, by rw [mI_nk (by omega)]; exact o4, by rw [mI_nk (by omega)]; exact o5, by rw [mI_nk (by omega)]; exact o6, by rw [mI_nk (by omega)]; exact o7, by rw [mI_nk (by omega)]; exact o8⟩
theorem FF.still {z : gZ} (h : FF w H L S p z) {q : Int} : FF (setI w 118 8 q) H L S p (z.1, q, z.2.2) := by
  obtain ⟨F, o1, o2, o3, o4, o5, o6, o7, o8⟩ := h
  exact ⟨F.fl, by rw [mI_nk (by omega)]; exact o1, mI_s _ _ _ _, by rw [mI_nk (by omega)]; exact o3, by rw [mI_nk (by omega)]; exact o4, by rw [mI_nk (by omega)]; exact o5, by rw [mI_nk (by omega)]; exact o6, by rw [mI_nk (by omega)]; exact o7, by rw [mI_nk (by omega)]; exact o8⟩
theorem over_u {k : Nat} {x : Int} (h1 : k ≠ 297) (h2 : k ≠ 288) : gOver (up1 r k x) = gOver r := by
  unfold gOver
  rw [up1_n (by omega), up1_n (by omega)]
/-- a number of the row told anew -/
theorem FF.fld (h : FF w H L S p (gZ0 r g)) (h8 : r 288 ≤ 204) (h9 : r 289 ≤ 16) {k m : Nat} {x : Int} (hkm : (k = 4 ∧ m = 295) ∨ (k = 5 ∧ m = 291) ∨ (k = 7 ∧ m = 293)) : FF (setI w 119 k x) H L S p (gZ0 (up1 r m x) g) := by
  obtain ⟨F, O⟩ := h
  have f : Fr (fun b => b = 119) w (setI w 119 k x) := Fr.I rfl
  refine ⟨?_, O.fr f (by omega)⟩
  show FS _ H L S (up1 r m x) _ (gOver (up1 r m x))
  rw [over_u (by omega) (by omega)]
  exact F.row (f.mo (fun b hb => by unfold rP; omega)) (F.cr.fld h8 h9 (by omega))
theorem FF.s0 {z : gZ} (h : FF w H L S p z) : mS w 118 = (1, 0, 0) := h.1.s
theorem FF.sides {z : gZ} (h : FF w H L S p z) (f : Fr (sP 130) w u) {L2 : Int} {S2 : Nat → Int} (k4 : Sg u 130 1 12 L2.toNat (fun i _ => S2 i)) : FF u H L2 S2 p z :=
  ⟨h.1.mk f (fun b hb => by unfold sP at hb; omega) (f.Rq (sP_n (by omega))) (h.1.cr.fr f (fun b b1 b2 => sP_n (by omega))) (h.1.g2.fr f (sP_n (by omega)) (sP_n (by omega))) (exSg h.1.g3 f (sP_n (by omega)) (sP_n (by omega))) k4 (exSg h.1.g5 f (sP_n (by omega)) (sP_n (by omega))) (exSg h.1.g6 f (sP_n (by omega)) (sP_n (by omega))), h.2.fr f (sP_n (by omega))⟩
theorem plan_loop {z : gZ} {d code : Int} (d2 : d ≤ 5) (hS : ∀ k : Nat, (k : Int) < d → S k = gSd d code k) {ar : Option Nat} : ∀ (n : Nat) (i : Int) (t : jmL) (w : jmW), FF w H i S p z → 0 ≤ i → i + n = d → ∃ u, rn 132 (16, [(0, jvr 118), (1, .inr (.inr ar)), (2, .inl d), (3, .inl code), (4, .inl i)], [], w) = rn 132 (43, [(0, jvr 118), (1, .inr (.inr ar)), (2, .inl d), (3, .inl code), (4, .inl d)], [], u) ∧ FF u H d S p z ∧ Fr (sP 130) w u := by
  intro n
  induction n with
  | zero =>
    intro i t w hF i1 i2
    have e : i = d := by omega
    subst e
    refine ⟨w, ?_, hF, Fr.rf _ _⟩
    rw [p132_16]
    simp (disch := omega) only [p132_0, p132_1, p132_2, p132_5, p132_6, p132_9, p132_10, p132_13, p132_14, p132_18, p132_19, p132_22, p132_23, p132_26, p132_27, p132_28, p132_29, p132_31, p132_34, p132_37, p132_40, p132_44, p132_47, p132_48, p132_51, p132_52, p132_55, p132_56, p132_59, jwd_c, jwd_0, Nat.reduceLeDiff, Nat.reduceEqDiff, Nat.reduceAdd, Nat.reduceSub, Nat.reduceMul, Int.reduceAdd, Int.reduceSub, Int.reduceMul, Int.reduceNeg, Int.reduceEq, Int.reduceLT, Int.reduceLE, jq_ldi_i, jq_ldl_l, jq_lda_a, jq_inc_i, jq_gs_t, jq_gsb_t, jq_gb_t, jq_gr_2, jq_gr_4, jq_gw_2, jq_s_t, jq_b_t, jg_c, jg_n, js_c, js_n, jrm_c, jrm_n, j2_i, j2_l, j2_a, jq_c_i, jq_c_l, jq_c_0, jq_c_n, jwd_le, jw_c0, mS_I, mS_R, mS_J, mN_I, mN_R, mN_J, mR_I, mI_R, mJ_I, mJ_R, mI_J, mR_J, ↓reduceIte, decide_true, or_true, true_or, and_self, false_or, or_false, reduceCtorEq, Bool.false_eq_true, and_false, false_and, eq_self, true_and, and_true, zero_ne, ↓br_lt_t, ↓br_lt_f, ↓br_eq_t, ↓br_eq_f, ↓br_lz_t, ↓br_lz_f, ↓br_ez_t, ↓br_ez_f, ↓br_gz_t, ↓br_gz_f, jw_id, jin_t, jix_t]
  | succ n ih =>
    intro i t w hF i1 i2
    have hf := hF.1
    obtain ⟨w1, e1, s1, f1⟩ := sg_push (v := gSd d code i) hf.g4 (by omega)
    have F1 := hF.sides f1 (L2 := i + 1) (S2 := S) (by
      rw [show (i + 1).toNat = i.toNat + 1 by omega]
      refine s1.mk2 (fun x y hx hy => ?_)
      show (if x < i.toNat then S x else if y = 0 then gSd d code i else 0) = S x
      by_cases z : x < i.toNat
      · rw [if_pos z]
      · have hx2 : x = i.toNat := by omega
        have hs := hS x (by omega)
        rw [show ((x : Nat) : Int) = i by omega] at hs
        rw [if_neg z, if_pos (by omega), hs])
    obtain ⟨u, x1, x2, x3⟩ := ih (i + 1) t w1 F1 (by omega) (by omega)
    have e2 := f_side (w := w) (a := 118) (d := d) (code := code) (i := i) (by omega) d2 (by omega) (by omega)
    refine ⟨u, ?_, x2, f1.tr x3⟩
    rw [← x1, p132_16]
    simp (disch := omega) only [p132_0, p132_1, p132_2, p132_5, p132_6, p132_9, p132_10, p132_13, p132_14, p132_18, p132_19, p132_22, p132_23, p132_26, p132_27, p132_28, p132_29, p132_31, p132_34, p132_37, p132_40, p132_44, p132_47, p132_48, p132_51, p132_52, p132_55, p132_56, p132_59, jwd_c, jwd_0, Nat.reduceLeDiff, Nat.reduceEqDiff, Nat.reduceAdd, Nat.reduceSub, Nat.reduceMul, Int.reduceAdd, Int.reduceSub, Int.reduceMul, Int.reduceNeg, Int.reduceEq, Int.reduceLT, Int.reduceLE, jq_ldi_i, jq_ldl_l, jq_lda_a, jq_inc_i, jq_gs_t, jq_gsb_t, jq_gb_t, jq_gr_2, jq_gr_4, jq_gw_2, jq_s_t, jq_b_t, jg_c, jg_n, js_c, js_n, jrm_c, jrm_n, j2_i, j2_l, j2_a, jq_c_i, jq_c_l, jq_c_0, jq_c_n, jwd_le, jw_c0, mS_I, mS_R, mS_J, mN_I, mN_R, mN_J, mR_I, mI_R, mJ_I, mJ_R, mI_J, mR_J, ↓reduceIte, decide_true, or_true, true_or, and_self, false_or, or_false, reduceCtorEq, Bool.false_eq_true, and_false, false_and, eq_self, true_and, and_true, zero_ne, ↓br_lt_t, ↓br_lt_f, ↓br_eq_t, ↓br_eq_f, ↓br_lz_t, ↓br_lz_f, ↓br_ez_t, ↓br_ez_f, ↓br_gz_t, ↓br_gz_f, jw_id, jin_t, jix_t, FS.s hf, FS.r0 hf, FS.r1 hf, FS.r2 hf, FS.r3 hf, FS.r4 hf, FS.r5 hf, FS.r6 hf, FS.x119 hf, FS.x119p hf, FS.x119k hf, FS.x119t hf, FS.x120 hf, FS.x122 hf, FS.x124 hf, FS.x126 hf, FS.x130 hf, FS.x128 hf, FS.x132 hf, FS.x134 hf, FS.x84 hf, FS.x84r0 hf, FS.x85 hf, FS.x84r1 hf, FS.x87 hf, FS.x84r2 hf, FS.x89 hf, FS.x84r3 hf, FS.x91 hf, FS.x84r4 hf, FS.x93 hf, FS.x84r5 hf, FS.x95 hf, FS.x84r6 hf, FS.x97 hf, FS.x84r7 hf, FS.x99 hf, FS.x84f8 hf, FS.x84f9 hf, FS.x84f10 hf, FS.x84f11 hf, FS.x84f12 hf, FS.x84f14 hf, FS.x84f15 hf, FS.x84f16 hf, FS.x84f17 hf, e1, e2]
theorem f_plan (hb : FB w H) (hk : HOK H) (ra : RA H B r) (hg : ∀ k, k < 44 → g k = 0) (hr : CR w a (H 0 3).toNat (gOver r) r) (hd : a + 6 < 118 ∨ 135 < a) {d code : Int} (d1 : 1 ≤ d) (d2 : d ≤ 5) (hS : ∀ k : Nat, (k : Int) < d → S k = gSd d code k) : ∃ u, rn 132 (0, [(0, jvr 118), (1, jvr a), (2, .inl d), (3, .inl code)], [], w) = some (none, u) ∧ FF u H d S (-1) (gZ0 (up1 (up1 r 291 5) 293 0) g) ∧ Fr fP w u := by
  have h16 := ra.1
  obtain ⟨w1, e1, F1, f1⟩ := f_begin (S := H 28) hb hk hg (fun _ _ => rfl) hr hd
  obtain ⟨w2, e2, s2, f2⟩ := sg_cut F1.1.g4 (m := 0) (by omega) (by omega)
  have F2 := F1.sides f2 (L2 := 0) (S2 := S) (s2.mk2 (fun x y hx hy => absurd hx (by show ¬ x < 0; omega)))
  obtain ⟨w3, e3, F3, f3⟩ := plan_loop d2 hS (ar := some a) d.toNat 0 [] w2 F2 (by omega) (by omega)
  have F4 := F3.fld (by omega) (by omega) (k := 5) (m := 291) (x := 5) (by omega)
  have F5 := F4.fld (by rw [up1_n (by omega)]; omega) (by rw [up1_n (by omega)]; omega) (k := 7) (m := 293) (x := 0) (by omega)
  refine ⟨_, ?_, F5, (((f1.mo (fun b hb => by unfold fQ at hb; unfold fP; omega)).tr (f2.mo (fun b hb => by unfold sP at hb; unfold fP; omega))).tr (f3.mo (fun b hb => by unfold sP at hb; unfold fP; omega))).tr ((Fr.I ⟨by omega, by omega⟩).tr (Fr.I ⟨by omega, by omega⟩))⟩
  have z0 := hb.1
  simp (disch := omega) only [p132_0, p132_1, p132_2, p132_5, p132_6, p132_9, p132_10, p132_13, p132_14, p132_18, p132_19, p132_22, p132_23, p132_26, p132_27, p132_28, p132_29, p132_31, p132_34, p132_37, p132_40, p132_43, p132_44, p132_47, p132_48, p132_51, p132_52, p132_55, p132_56, p132_59, jwd_c, jwd_0, Nat.reduceLeDiff, Nat.reduceEqDiff, Nat.reduceAdd, Nat.reduceSub, Nat.reduceMul, Int.reduceAdd, Int.reduceSub, Int.reduceMul, Int.reduceNeg, Int.reduceEq, Int.reduceLT, Int.reduceLE, jq_ldi_i, jq_ldl_l, jq_lda_a, jq_inc_i, jq_gs_t, jq_gsb_t, jq_gb_t, jq_gr_2, jq_gr_4, jq_gw_2, jq_s_t, jq_b_t, jg_c, jg_n, js_c, js_n, jrm_c, jrm_n, j2_i, j2_l, j2_a, jq_c_i, jq_c_l, jq_c_0, jq_c_n, jwd_le, jw_c0, mS_I, mS_R, mS_J, mN_I, mN_R, mN_J, mR_I, mI_R, mJ_I, mJ_R, mI_J, mR_J, ↓reduceIte, decide_true, or_true, true_or, and_self, false_or, or_false, reduceCtorEq, Bool.false_eq_true, and_false, false_and, eq_self, true_and, and_true, zero_ne, ↓br_lt_t, ↓br_lt_f, ↓br_eq_t, ↓br_eq_f, ↓br_lz_t, ↓br_lz_f, ↓br_ez_t, ↓br_ez_f, ↓br_gz_t, ↓br_gz_f, jw_id, jin_t, jix_t, z0, e1, F1.1.s, F1.1.r4, F1.1.x130, e2, e3, F3.1.s, F3.1.r1, F3.1.x119, F4.1.s, F4.1.r1, F4.1.x119]
theorem f_shown (hf : FS w H L S r g c) (hk : HOK H) (ra : RA H B r) (rb : RB r) (rw0 : RW H r) {f : Int} (f1 : 0 ≤ f) (f2 : f < H 0 8) : rn 146 (0, [(0, jvr 118), (1, .inl f)], [], w) = some (some (.inl (bi (gShn H r f))), w) := by
  have h16 := ra.1
  have kc := hk.1.2.2.2.2.2
  have kf := hk.2.2.2.2.2.2.2.2 f f1 f2
  have k8 := hk.2.1
  have e1 := sg_in hf.ch.g11 (l := f) (k := 1) f1 (by omega) (by omega) (by omega)
  have e2 := sg_in hf.ch.g11 (l := f) (k := 2) f1 (by omega) (by omega) (by omega)
  rw [show H (29 + (1 : Int).toNat) f.toNat = H 30 f.toNat from rfl] at e1
  rw [show H (29 + (2 : Int).toNat) f.toNat = H 31 f.toNat from rfl] at e2
  have e3 := r_find hf.cr ra rb (v := H 30 f.toNat) (by omega) (by omega)
  have ib := gIx_bd (r := r) (v := H 30 f.toNat) (r 289).toNat 0
  have gs : gShn H r f ↔ 0 ≤ gIx r (H 30 f.toNat) (r 289).toNat 0 ∧ gCell r (gIx r (H 30 f.toNat) (r 289).toNat 0) = H 31 f.toNat := Iff.rfl
  generalize gIx r (H 30 f.toNat) (r 289).toNat 0 = i at *
  by_cases q : 0 ≤ i
  · have e4 := fs_cell hf ra rb (i := i) q (by omega)
    have c0 := RC rb rw0 (i := i) q (by omega)
    by_cases q2 : gCell r i = H 31 f.toNat
    · rw [bi_t (gs.mpr ⟨q, q2⟩)]
      simp (disch := omega) only [p146_0, p146_1, p146_4, p146_5, p146_8, p146_11, p146_12, p146_13, p146_16, p146_19, p146_20, p146_21, p146_24, p146_25, p146_28, p146_29, p146_32, p146_33, p146_36, p146_39, p146_40, p146_41, p146_44, p146_47, p146_48, p146_51, p146_52, jwd_c, jwd_0, Nat.reduceLeDiff, Nat.reduceEqDiff, Nat.reduceAdd, Nat.reduceSub, Nat.reduceMul, Int.reduceAdd, Int.reduceSub, Int.reduceMul, Int.reduceNeg, Int.reduceEq, Int.reduceLT, Int.reduceLE, jq_ldi_i, jq_ldl_l, jq_lda_a, jq_inc_i, jq_gs_t, jq_gsb_t, jq_gb_t, jq_gr_2, jq_gr_4, jq_gw_2, jq_s_t, jq_b_t, jg_c, jg_n, js_c, js_n, jrm_c, jrm_n, j2_i, j2_l, j2_a, jq_c_i, jq_c_l, jq_c_0, jq_c_n, jwd_le, jw_c0, mS_I, mS_R, mS_J, mN_I, mN_R, mN_J, mR_I, mI_R, mJ_I, mJ_R, mI_J, mR_J, ↓reduceIte, decide_true, or_true, true_or, and_self, false_or, or_false, reduceCtorEq, Bool.false_eq_true, and_false, false_and, eq_self, true_and, and_true, zero_ne, ↓br_lt_t, ↓br_lt_f, ↓br_eq_t, ↓br_eq_f, ↓br_lz_t, ↓br_lz_f, ↓br_ez_t, ↓br_ez_f, ↓br_gz_t, ↓br_gz_f, jw_id, jin_t, jix_t, FS.s hf, FS.r0 hf, FS.r1 hf, FS.r2 hf, FS.r3 hf, FS.r4 hf, FS.r5 hf, FS.r6 hf, FS.x119 hf, FS.x119p hf, FS.x119k hf, FS.x119t hf, FS.x120 hf, FS.x122 hf, FS.x124 hf, FS.x126 hf, FS.x130 hf, FS.x128 hf, FS.x132 hf, FS.x134 hf, FS.x84 hf, FS.x84r0 hf, FS.x85 hf, FS.x84r1 hf, FS.x87 hf, FS.x84r2 hf, FS.x89 hf, FS.x84r3 hf, FS.x91 hf, FS.x84r4 hf, FS.x93 hf, FS.x84r5 hf, FS.x95 hf, FS.x84r6 hf, FS.x97 hf, FS.x84r7 hf, FS.x99 hf, FS.x84f8 hf, FS.x84f9 hf, FS.x84f10 hf, FS.x84f11 hf, FS.x84f12 hf, FS.x84f14 hf, FS.x84f15 hf, FS.x84f16 hf, FS.x84f17 hf, e1, e2, e3, e4, q2]
    · rw [bi_f (fun z => q2 (gs.mp z).2)]
      simp (disch := omega) only [p146_0, p146_1, p146_4, p146_5, p146_8, p146_11, p146_12, p146_13, p146_16, p146_19, p146_20, p146_21, p146_24, p146_25, p146_28, p146_29, p146_32, p146_33, p146_36, p146_39, p146_40, p146_41, p146_44, p146_47, p146_48, p146_51, p146_52, jwd_c, jwd_0, Nat.reduceLeDiff, Nat.reduceEqDiff, Nat.reduceAdd, Nat.reduceSub, Nat.reduceMul, Int.reduceAdd, Int.reduceSub, Int.reduceMul, Int.reduceNeg, Int.reduceEq, Int.reduceLT, Int.reduceLE, jq_ldi_i, jq_ldl_l, jq_lda_a, jq_inc_i, jq_gs_t, jq_gsb_t, jq_gb_t, jq_gr_2, jq_gr_4, jq_gw_2, jq_s_t, jq_b_t, jg_c, jg_n, js_c, js_n, jrm_c, jrm_n, j2_i, j2_l, j2_a, jq_c_i, jq_c_l, jq_c_0, jq_c_n, jwd_le, jw_c0, mS_I, mS_R, mS_J, mN_I, mN_R, mN_J, mR_I, mI_R, mJ_I, mJ_R, mI_J, mR_J, ↓reduceIte, decide_true, or_true, true_or, and_self, false_or, or_false, reduceCtorEq, Bool.false_eq_true, and_false, false_and, eq_self, true_and, and_true, zero_ne, ↓br_lt_t, ↓br_lt_f, ↓br_eq_t, ↓br_eq_f, ↓br_lz_t, ↓br_lz_f, ↓br_ez_t, ↓br_ez_f, ↓br_gz_t, ↓br_gz_f, jw_id, jin_t, jix_t, FS.s hf, FS.r0 hf, FS.r1 hf, FS.r2 hf, FS.r3 hf, FS.r4 hf, FS.r5 hf, FS.r6 hf, FS.x119 hf, FS.x119p hf, FS.x119k hf, FS.x119t hf, FS.x120 hf, FS.x122 hf, FS.x124 hf, FS.x126 hf, FS.x130 hf, FS.x128 hf, FS.x132 hf, FS.x134 hf, FS.x84 hf, FS.x84r0 hf, FS.x85 hf, FS.x84r1 hf, FS.x87 hf, FS.x84r2 hf, FS.x89 hf, FS.x84r3 hf, FS.x91 hf, FS.x84r4 hf, FS.x93 hf, FS.x84r5 hf, FS.x95 hf, FS.x84r6 hf, FS.x97 hf, FS.x84r7 hf, FS.x99 hf, FS.x84f8 hf, FS.x84f9 hf, FS.x84f10 hf, FS.x84f11 hf, FS.x84f12 hf, FS.x84f14 hf, FS.x84f15 hf, FS.x84f16 hf, FS.x84f17 hf, e1, e2, e3, e4]
  · rw [bi_f (fun z => q (gs.mp z).1)]
    simp (disch := omega) only [p146_0, p146_1, p146_4, p146_5, p146_8, p146_11, p146_12, p146_13, p146_16, p146_19, p146_20, p146_21, p146_24, p146_25, p146_28, p146_29, p146_32, p146_33, p146_36, p146_39, p146_40, p146_41, p146_44, p146_47, p146_48, p146_51, p146_52, jwd_c, jwd_0, Nat.reduceLeDiff, Nat.reduceEqDiff, Nat.reduceAdd, Nat.reduceSub, Nat.reduceMul, Int.reduceAdd, Int.reduceSub, Int.reduceMul, Int.reduceNeg, Int.reduceEq, Int.reduceLT, Int.reduceLE, jq_ldi_i, jq_ldl_l, jq_lda_a, jq_inc_i, jq_gs_t, jq_gsb_t, jq_gb_t, jq_gr_2, jq_gr_4, jq_gw_2, jq_s_t, jq_b_t, jg_c, jg_n, js_c, js_n, jrm_c, jrm_n, j2_i, j2_l, j2_a, jq_c_i, jq_c_l, jq_c_0, jq_c_n, jwd_le, jw_c0, mS_I, mS_R, mS_J, mN_I, mN_R, mN_J, mR_I, mI_R, mJ_I, mJ_R, mI_J, mR_J, ↓reduceIte, decide_true, or_true, true_or, and_self, false_or, or_false, reduceCtorEq, Bool.false_eq_true, and_false, false_and, eq_self, true_and, and_true, zero_ne, ↓br_lt_t, ↓br_lt_f, ↓br_eq_t, ↓br_eq_f, ↓br_lz_t, ↓br_lz_f, ↓br_ez_t, ↓br_ez_f, ↓br_gz_t, ↓br_gz_f, jw_id, jin_t, jix_t, FS.s hf, FS.r0 hf, FS.r1 hf, FS.r2 hf, FS.r3 hf, FS.r4 hf, FS.r5 hf, FS.r6 hf, FS.x119 hf, FS.x119p hf, FS.x119k hf, FS.x119t hf, FS.x120 hf, FS.x122 hf, FS.x124 hf, FS.x126 hf, FS.x130 hf, FS.x128 hf, FS.x132 hf, FS.x134 hf, FS.x84 hf, FS.x84r0 hf, FS.x85 hf, FS.x84r1 hf, FS.x87 hf, FS.x84r2 hf, FS.x89 hf, FS.x84r3 hf, FS.x91 hf, FS.x84r4 hf, FS.x93 hf, FS.x84r5 hf, FS.x95 hf, FS.x84r6 hf, FS.x97 hf, FS.x84r7 hf, FS.x99 hf, FS.x84f8 hf, FS.x84f9 hf, FS.x84f10 hf, FS.x84f11 hf, FS.x84f12 hf, FS.x84f14 hf, FS.x84f15 hf, FS.x84f16 hf, FS.x84f17 hf, e1, e2, e3]
theorem shows_in (hf : FS w H L S r g c) (hk : HOK H) (ra : RA H B r) (rb : RB r) (rw0 : RW H r) {l t : Int} (t1 : 0 ≤ t) (t2 : t ≤ 40) : ∀ (n : Nat) (f : Int), 0 ≤ f → f + n = H 0 8 → rn 145 (9, [(0, jvr 118), (1, .inl l), (2, .inl t), (3, .inl f)], [], w) = ci (gFrs H r t f) (rn 145 (55, [(0, jvr 118), (1, .inl l), (2, .inl t), (3, .inl (H 0 8))], [], w)) (some (some (.inl 0), w)) := by
  have k8 := hk.2.1
  have e0 := sg_count hf.ch.g11
  rw [show (((H 0 8).toNat : Nat) : Int) = H 0 8 by omega] at e0
  intro n
  induction n with
  | zero =>
    intro f f1 f2
    have e : f = H 0 8 := by omega
    subst e
    rw [ci_t (show gFrs H r t (H 0 8) from fun k k1 k2 => by omega), p145_9]
    simp (disch := omega) only [p145_0, p145_1, p145_3, p145_4, p145_7, p145_8, p145_10, p145_11, p145_14, p145_17, p145_20, p145_23, p145_24, p145_27, p145_30, p145_31, p145_32, p145_35, p145_36, p145_39, p145_40, p145_41, p145_44, p145_47, p145_48, p145_49, p145_52, p145_56, p145_57, p145_60, p145_63, p145_66, p145_67, jwd_c, jwd_0, Nat.reduceLeDiff, Nat.reduceEqDiff, Nat.reduceAdd, Nat.reduceSub, Nat.reduceMul, Int.reduceAdd, Int.reduceSub, Int.reduceMul, Int.reduceNeg, Int.reduceEq, Int.reduceLT, Int.reduceLE, jq_ldi_i, jq_ldl_l, jq_lda_a, jq_inc_i, jq_gs_t, jq_gsb_t, jq_gb_t, jq_gr_2, jq_gr_4, jq_gw_2, jq_s_t, jq_b_t, jg_c, jg_n, js_c, js_n, jrm_c, jrm_n, j2_i, j2_l, j2_a, jq_c_i, jq_c_l, jq_c_0, jq_c_n, jwd_le, jw_c0, mS_I, mS_R, mS_J, mN_I, mN_R, mN_J, mR_I, mI_R, mJ_I, mJ_R, mI_J, mR_J, ↓reduceIte, decide_true, or_true, true_or, and_self, false_or, or_false, reduceCtorEq, Bool.false_eq_true, and_false, false_and, eq_self, true_and, and_true, zero_ne, ↓br_lt_t, ↓br_lt_f, ↓br_eq_t, ↓br_eq_f, ↓br_lz_t, ↓br_lz_f, ↓br_ez_t, ↓br_ez_f, ↓br_gz_t, ↓br_gz_f, jw_id, jin_t, jix_t, FS.s hf, FS.r0 hf, FS.r1 hf, FS.r2 hf, FS.r3 hf, FS.r4 hf, FS.r5 hf, FS.r6 hf, FS.x119 hf, FS.x119p hf, FS.x119k hf, FS.x119t hf, FS.x120 hf, FS.x122 hf, FS.x124 hf, FS.x126 hf, FS.x130 hf, FS.x128 hf, FS.x132 hf, FS.x134 hf, FS.x84 hf, FS.x84r0 hf, FS.x85 hf, FS.x84r1 hf, FS.x87 hf, FS.x84r2 hf, FS.x89 hf, FS.x84r3 hf, FS.x91 hf, FS.x84r4 hf, FS.x93 hf, FS.x84r5 hf, FS.x95 hf, FS.x84r6 hf, FS.x97 hf, FS.x84r7 hf, FS.x99 hf, FS.x84f8 hf, FS.x84f9 hf, FS.x84f10 hf, FS.x84f11 hf, FS.x84f12 hf, FS.x84f14 hf, FS.x84f15 hf, FS.x84f16 hf, FS.x84f17 hf, e0]
  | succ n ih =>
    intro f f1 f2
    have kf := hk.2.2.2.2.2.2.2.2 f f1 (by omega)
    have e1 := sg_in hf.ch.g11 (l := f) (k := 0) f1 (by omega) (by omega) (by omega)
    rw [show H (29 + (0 : Int).toNat) f.toNat = H 29 f.toNat from rfl] at e1
    have e2 := f_shown hf hk ra rb rw0 f1 (f := f) (by omega)
    have e3 := ih (f + 1) (by omega) (by omega)
    have e4 : gFrs H r t f ↔ (H 29 f.toNat = t → gShn H r f) ∧ gFrs H r t (f + 1) := by
      constructor
      · intro h
        exact ⟨h f (by omega) (by omega), fun k k1 k2 => h k (by omega) k2⟩
      · rintro ⟨h1, h2⟩ k k1 k2
        by_cases z : k = f
        · subst z
          exact h1
        · exact h2 k (by omega) k2
    rw [p145_9]
    by_cases q1 : H 29 f.toNat = t
    · by_cases q2 : gShn H r f
      · rw [bi_t q2] at e2
        rw [propext (e4.trans ⟨fun z => z.2, fun z => ⟨fun _ => q2, z⟩⟩), ← e3]
        simp (disch := omega) only [p145_0, p145_1, p145_3, p145_4, p145_7, p145_8, p145_10, p145_11, p145_14, p145_17, p145_20, p145_23, p145_24, p145_27, p145_30, p145_31, p145_32, p145_35, p145_36, p145_39, p145_40, p145_41, p145_44, p145_47, p145_48, p145_49, p145_52, p145_56, p145_57, p145_60, p145_63, p145_66, p145_67, jwd_c, jwd_0, Nat.reduceLeDiff, Nat.reduceEqDiff, Nat.reduceAdd, Nat.reduceSub, Nat.reduceMul, Int.reduceAdd, Int.reduceSub, Int.reduceMul, Int.reduceNeg, Int.reduceEq, Int.reduceLT, Int.reduceLE, jq_ldi_i, jq_ldl_l, jq_lda_a, jq_inc_i, jq_gs_t, jq_gsb_t, jq_gb_t, jq_gr_2, jq_gr_4, jq_gw_2, jq_s_t, jq_b_t, jg_c, jg_n, js_c, js_n, jrm_c, jrm_n, j2_i, j2_l, j2_a, jq_c_i, jq_c_l, jq_c_0, jq_c_n, jwd_le, jw_c0, mS_I, mS_R, mS_J, mN_I, mN_R, mN_J, mR_I, mI_R, mJ_I, mJ_R, mI_J, mR_J, ↓reduceIte, decide_true, or_true, true_or, and_self, false_or, or_false, reduceCtorEq, Bool.false_eq_true, and_false, false_and, eq_self, true_and, and_true, zero_ne, ↓br_lt_t, ↓br_lt_f, ↓br_eq_t, ↓br_eq_f, ↓br_lz_t, ↓br_lz_f, ↓br_ez_t, ↓br_ez_f, ↓br_gz_t, ↓br_gz_f, jw_id, jin_t, jix_t, FS.s hf, FS.r0 hf, FS.r1 hf, FS.r2 hf, FS.r3 hf, FS.r4 hf, FS.r5 hf, FS.r6 hf, FS.x119 hf, FS.x119p hf, FS.x119k hf, FS.x119t hf, FS.x120 hf, FS.x122 hf, FS.x124 hf, FS.x126 hf, FS.x130 hf, FS.x128 hf, FS.x132 hf, FS.x134 hf, FS.x84 hf, FS.x84r0 hf, FS.x85 hf, FS.x84r1 hf, FS.x87 hf, FS.x84r2 hf, FS.x89 hf, FS.x84r3 hf, FS.x91 hf, FS.x84r4 hf, FS.x93 hf, FS.x84r5 hf, FS.x95 hf, FS.x84r6 hf, FS.x97 hf, FS.x84r7 hf, FS.x99 hf, FS.x84f8 hf, FS.x84f9 hf, FS.x84f10 hf, FS.x84f11 hf, FS.x84f12 hf, FS.x84f14 hf, FS.x84f15 hf, FS.x84f16 hf, FS.x84f17 hf, e0, e1, e2]
      · rw [bi_f q2] at e2
        rw [ci_f (show ¬ gFrs H r t f from fun z => q2 ((e4.mp z).1 q1))]
        simp (disch := omega) only [p145_0, p145_1, p145_3, p145_4, p145_7, p145_8, p145_10, p145_11, p145_14, p145_17, p145_20, p145_23, p145_24, p145_27, p145_30, p145_31, p145_32, p145_35, p145_36, p145_39, p145_40, p145_41, p145_44, p145_47, p145_48, p145_49, p145_52, p145_56, p145_57, p145_60, p145_63, p145_66, p145_67, jwd_c, jwd_0, Nat.reduceLeDiff, Nat.reduceEqDiff, Nat.reduceAdd, Nat.reduceSub, Nat.reduceMul, Int.reduceAdd, Int.reduceSub, Int.reduceMul, Int.reduceNeg, Int.reduceEq, Int.reduceLT, Int.reduceLE, jq_ldi_i, jq_ldl_l, jq_lda_a, jq_inc_i, jq_gs_t, jq_gsb_t, jq_gb_t, jq_gr_2, jq_gr_4, jq_gw_2, jq_s_t, jq_b_t, jg_c, jg_n, js_c, js_n, jrm_c, jrm_n, j2_i, j2_l, j2_a, jq_c_i, jq_c_l, jq_c_0, jq_c_n, jwd_le, jw_c0, mS_I, mS_R, mS_J, mN_I, mN_R, mN_J, mR_I, mI_R, mJ_I, mJ_R, mI_J, mR_J, ↓reduceIte, decide_true, or_true, true_or, and_self, false_or, or_false, reduceCtorEq, Bool.false_eq_true, and_false, false_and, eq_self, true_and, and_true, zero_ne, ↓br_lt_t, ↓br_lt_f, ↓br_eq_t, ↓br_eq_f, ↓br_lz_t, ↓br_lz_f, ↓br_ez_t, ↓br_ez_f, ↓br_gz_t, ↓br_gz_f, jw_id, jin_t, jix_t, FS.s hf, FS.r0 hf, FS.r1 hf, FS.r2 hf, FS.r3 hf, FS.r4 hf, FS.r5 hf, FS.r6 hf, FS.x119 hf, FS.x119p hf, FS.x119k hf, FS.x119t hf, FS.x120 hf, FS.x122 hf, FS.x124 hf, FS.x126 hf, FS.x130 hf, FS.x128 hf, FS.x132 hf, FS.x134 hf, FS.x84 hf, FS.x84r0 hf, FS.x85 hf, FS.x84r1 hf, FS.x87 hf, FS.x84r2 hf, FS.x89 hf, FS.x84r3 hf, FS.x91 hf, FS.x84r4 hf, FS.x93 hf, FS.x84r5 hf, FS.x95 hf, FS.x84r6 hf, FS.x97 hf, FS.x84r7 hf, FS.x99 hf, FS.x84f8 hf, FS.x84f9 hf, FS.x84f10 hf, FS.x84f11 hf, FS.x84f12 hf, FS.x84f14 hf, FS.x84f15 hf, FS.x84f16 hf, FS.x84f17 hf, e0, e1, e2]
    · rw [propext (e4.trans ⟨fun z => z.2, fun z => ⟨fun y => absurd y q1, z⟩⟩), ← e3]
      simp (disch := omega) only [p145_0, p145_1, p145_3, p145_4, p145_7, p145_8, p145_10, p145_11, p145_14, p145_17, p145_20, p145_23, p145_24, p145_27, p145_30, p145_31, p145_32, p145_35, p145_36, p145_39, p145_40, p145_41, p145_44, p145_47, p145_48, p145_49, p145_52, p145_56, p145_57, p145_60, p145_63, p145_66, p145_67, jwd_c, jwd_0, Nat.reduceLeDiff, Nat.reduceEqDiff, Nat.reduceAdd, Nat.reduceSub, Nat.reduceMul, Int.reduceAdd, Int.reduceSub, Int.reduceMul, Int.reduceNeg, Int.reduceEq, Int.reduceLT, Int.reduceLE, jq_ldi_i, jq_ldl_l, jq_lda_a, jq_inc_i, jq_gs_t, jq_gsb_t, jq_gb_t, jq_gr_2, jq_gr_4, jq_gw_2, jq_s_t, jq_b_t, jg_c, jg_n, js_c, js_n, jrm_c, jrm_n, j2_i, j2_l, j2_a, jq_c_i, jq_c_l, jq_c_0, jq_c_n, jwd_le, jw_c0, mS_I, mS_R, mS_J, mN_I, mN_R, mN_J, mR_I, mI_R, mJ_I, mJ_R, mI_J, mR_J, ↓reduceIte, decide_true, or_true, true_or, and_self, false_or, or_false, reduceCtorEq, Bool.false_eq_true, and_false, false_and, eq_self, true_and, and_true, zero_ne, ↓br_lt_t, ↓br_lt_f, ↓br_eq_t, ↓br_eq_f, ↓br_lz_t, ↓br_lz_f, ↓br_ez_t, ↓br_ez_f, ↓br_gz_t, ↓br_gz_f, jw_id, jin_t, jix_t, FS.s hf, FS.r0 hf, FS.r1 hf, FS.r2 hf, FS.r3 hf, FS.r4 hf, FS.r5 hf, FS.r6 hf, FS.x119 hf, FS.x119p hf, FS.x119k hf, FS.x119t hf, FS.x120 hf, FS.x122 hf, FS.x124 hf, FS.x126 hf, FS.x130 hf, FS.x128 hf, FS.x132 hf, FS.x134 hf, FS.x84 hf, FS.x84r0 hf, FS.x85 hf, FS.x84r1 hf, FS.x87 hf, FS.x84r2 hf, FS.x89 hf, FS.x84r3 hf, FS.x91 hf, FS.x84r4 hf, FS.x93 hf, FS.x84r5 hf, FS.x95 hf, FS.x84r6 hf, FS.x97 hf, FS.x84r7 hf, FS.x99 hf, FS.x84f8 hf, FS.x84f9 hf, FS.x84f10 hf, FS.x84f11 hf, FS.x84f12 hf, FS.x84f14 hf, FS.x84f15 hf, FS.x84f16 hf, FS.x84f17 hf, e0, e1]
end WIDEST
