/-! The class: those behind come after. -/
/-- places from a on, whole numbers all -/
def tk : Nat → jmL → Prop
  | _, [] => True
  | a, q :: t => q.1 = a ∧ (∃ x : Int, q.2 = .inl x) ∧ tk (a + 1) t
theorem tk_jrm : ∀ (t : jmL) (b a : Nat), tk b t → a < b → jrm t a = t := by
  intro t
  induction t with
  | nil =>
    intro b a h1 h2
    rfl
  | cons q t ih =>
    intro b a h1 h2
    obtain ⟨e1, ⟨x, e2⟩, e3⟩ := h1
    have e4 := ih (b + 1) a e3 (by omega)
    rw [jrm_c, if_neg (by omega), if_neg (by omega), e4]
theorem tk_js {a : Nat} {t : jmL} (h : tk a t) : ∃ t2, (∀ v : Int, js t a (.inl v) = (a, .inl v) :: t2) ∧ tk (a + 1) t2 := by
  cases t with
  | nil => exact ⟨[], fun v => rfl, trivial⟩
  | cons q t =>
    obtain ⟨e1, ⟨x, e2⟩, e3⟩ := h
    refine ⟨t, fun v => ?_, e3⟩
    rw [js_c, if_pos e1, tk_jrm t (a + 1) a e3 (by omega)]
theorem tk_c {a : Nat} {x : Int} {t : jmL} (h : tk (a + 1) t) : tk a ((a, .inl x) :: t) := ⟨rfl, ⟨x, rfl⟩, h⟩
theorem tk_n (a : Nat) : tk a [] := trivial
/-- the Future's cells, but the widest gaps -/
def fQ : Nat → Prop := fun b => 118 ≤ b ∧ b ≤ 135 ∧ b ≠ 128 ∧ b ≠ 129
/-- the Future's own numbers -/
def FO (w : jmW) (p s b ta tw o j ri : Int) : Prop := mI w 118 7 = p ∧ mI w 118 8 = s ∧ mI w 118 9 = b ∧ mI w 118 10 = ta ∧ mI w 118 11 = tw ∧ mI w 118 12 = o ∧ mI w 118 13 = j ∧ mI w 118 14 = ri
theorem FO.fr {P : Nat → Prop} {w u : jmW} {p s b ta tw o j ri : Int} (h : FO w p s b ta tw o j ri) (f : Fr P w u) (hP : ¬ P 118) : FO u p s b ta tw o j ri := by
  unfold FO at h ⊢
  rw [f.Iq hP]
  exact h
theorem setI_ne {w : jmW} {a k j : Nat} {x : Int} (h : j ≠ k) : mI (setI w a k x) a j = mI w a j := mI_nk h
section COME
variable {w u : jmW} {H : Nat → Nat → Int} {L : Int} {S r g : Nat → Int} {c : Int} {B : Int}
theorem FS.fl (hf : FS w H L S r g c) {k : Nat} {x : Int} : FS (setI w 118 k x) H L S r g c := hf.own (Fr.I rfl) rfl
theorem f_tally (hf : FS w H L S r g c) (ra : RA H B r) (rb : RB r) {i n : Int} (i1 : 0 ≤ i) (i2 : i < r 289) : ∃ u, rn 95 (0, [(0, jvr 118), (1, .inl i), (2, .inl n)], [], w) = some (none, u) ∧ FS u H L S r (up1 g (r (204 + i).toNat).toNat (g (r (204 + i).toNat).toNat + n)) c ∧ Fr (sP 126) w u := by
  have h16 := ra.1
  have h17 := ra.2.1
  have b := (rb i i1 i2).1
  have e1 := fs_get hf (i := i) (k := 0) i1 i2 (by omega) (by omega)
  rw [show (204 + 16 * (0 : Int) + i).toNat = (204 + i).toNat by omega] at e1
  generalize r (204 + i).toNat = N at *
  have e2 := sg_in hf.g2 (l := N) (k := 0) (by omega) (by omega) (by omega) (by omega)
  obtain ⟨u, e3, s3, f3⟩ := sg_put (v := g N.toNat + n) hf.g2 (l := N) (k := 0) (by omega) (by omega) (by omega) (by omega)
  refine ⟨u, ?_, hf.we f3 (s3.mk2 (fun x y hx hy => ?_)), f3⟩
  · simp (disch := omega) only [p95_0, p95_1, p95_4, p95_7, p95_8, p95_9, p95_12, p95_13, p95_14, p95_17, p95_18, p95_19, p95_20, p95_23, p95_24, p95_25, p95_28, p95_29, p95_30, p95_33, jwd_c, jwd_0, Nat.reduceLeDiff, Nat.reduceEqDiff, Nat.reduceAdd, Nat.reduceSub, Nat.reduceMul, Int.reduceAdd, Int.reduceSub, Int.reduceMul, Int.reduceNeg, Int.reduceEq, Int.reduceLT, Int.reduceLE, jq_ldi_i, jq_ldl_l, jq_lda_a, jq_inc_i, jq_gs_t, jq_gsb_t, jq_gb_t, jq_gr_2, jq_gr_4, jq_gw_2, jq_s_t, jq_b_t, jg_c, jg_n, js_c, js_n, jrm_c, jrm_n, j2_i, j2_l, j2_a, jq_c_i, jq_c_l, jq_c_0, jq_c_n, jwd_le, jw_c0, mS_I, mS_R, mS_J, mN_I, mN_R, mN_J, mR_I, mI_R, mJ_I, mJ_R, mI_J, mR_J, ↓reduceIte, decide_true, or_true, true_or, and_self, false_or, or_false, reduceCtorEq, Bool.false_eq_true, and_false, false_and, eq_self, true_and, and_true, zero_ne, ↓br_lt_t, ↓br_lt_f, ↓br_eq_t, ↓br_eq_f, ↓br_lz_t, ↓br_lz_f, ↓br_ez_t, ↓br_ez_f, ↓br_gz_t, ↓br_gz_f, jw_id, jin_t, jix_t, FS.s hf, FS.r0 hf, FS.r1 hf, FS.r2 hf, FS.r3 hf, FS.r4 hf, FS.r5 hf, FS.r6 hf, FS.x119 hf, FS.x119p hf, FS.x119k hf, FS.x119t hf, FS.x120 hf, FS.x122 hf, FS.x124 hf, FS.x126 hf, FS.x130 hf, FS.x128 hf, FS.x132 hf, FS.x134 hf, FS.x84 hf, FS.x84r0 hf, FS.x85 hf, FS.x84r1 hf, FS.x87 hf, FS.x84r2 hf, FS.x89 hf, FS.x84r3 hf, FS.x91 hf, FS.x84r4 hf, FS.x93 hf, FS.x84r5 hf, FS.x95 hf, FS.x84r6 hf, FS.x97 hf, FS.x84r7 hf, FS.x99 hf, FS.x84f8 hf, FS.x84f9 hf, FS.x84f10 hf, FS.x84f11 hf, FS.x84f12 hf, FS.x84f14 hf, FS.x84f15 hf, FS.x84f16 hf, FS.x84f17 hf, e1, e2, e3]
  · show (if x = N.toNat ∧ y = (0 : Int).toNat then g N.toNat + n else g x) = up1 g N.toNat (g N.toNat + n) x
    by_cases z : x = N.toNat
    · rw [if_pos ⟨z, by show y = 0; omega⟩, z, up1_s]
    · rw [if_neg (fun y2 => z y2.1), up1_n z]
theorem fol_in (hf : FS w H L S r g c) (hk : HOK H) (ra : RA H B r) (rw0 : RW H r) {i fr to kind : Int} (k1 : 0 ≤ kind) (k2 : kind ≤ 3) (t1 : -2 ≤ to) (t2 : to < 204) : ∀ (n : Nat) (p l : Int) (t : jmL), tk 7 t → to ≤ p + n → 0 ≤ p → p < 204 → 0 ≤ l → l < 100 → ∃ l2 t2, tk 7 t2 ∧ rn 96 (77, (0, jvr 118) :: (1, .inl i) :: (2, .inl fr) :: (3, .inl to) :: (4, .inl kind) :: (5, .inl l) :: (6, .inl p) :: t, [], w) = rn 96 (119, (0, jvr 118) :: (1, .inl i) :: (2, .inl fr) :: (3, .inl to) :: (4, .inl kind) :: (5, .inl l2) :: (6, .inl (gFol (gTk r kind) to n p l)) :: t2, [], w) := by
  have h16 := ra.1
  intro n
  induction n with
  | zero =>
    intro p l t ht h1 p1 p2 l1 l2
    refine ⟨l, t, ht, ?_⟩
    have e : gFol (gTk r kind) to 0 p l = p := rfl
    rw [e, p96_77]
    simp (disch := omega) only [p96_79, p96_80, p96_83, p96_84, p96_87, p96_89, p96_91, p96_94, p96_96, p96_98, p96_100, p96_103, p96_106, p96_108, p96_110, p96_111, p96_113, p96_116, jwd_c, jwd_0, Nat.reduceLeDiff, Nat.reduceEqDiff, Nat.reduceAdd, Nat.reduceSub, Nat.reduceMul, Int.reduceAdd, Int.reduceSub, Int.reduceMul, Int.reduceNeg, Int.reduceEq, Int.reduceLT, Int.reduceLE, jq_ldi_i, jq_ldl_l, jq_lda_a, jq_inc_i, jq_gs_t, jq_gsb_t, jq_gb_t, jq_gr_2, jq_gr_4, jq_gw_2, jq_s_t, jq_b_t, jg_c, jg_n, js_c, js_n, jrm_c, jrm_n, j2_i, j2_l, j2_a, jq_c_i, jq_c_l, jq_c_0, jq_c_n, jwd_le, jw_c0, mS_I, mS_R, mS_J, mN_I, mN_R, mN_J, mR_I, mI_R, mJ_I, mJ_R, mI_J, mR_J, ↓reduceIte, decide_true, or_true, true_or, and_self, false_or, or_false, reduceCtorEq, Bool.false_eq_true, and_false, false_and, eq_self, true_and, and_true, zero_ne, ↓br_lt_t, ↓br_lt_f, ↓br_eq_t, ↓br_eq_f, ↓br_lz_t, ↓br_lz_f, ↓br_ez_t, ↓br_ez_f, ↓br_gz_t, ↓br_gz_f, jw_id, jin_t, jix_t]
  | succ n ih =>
    intro p l t ht h1 p1 p2 l1 l2
    have e : gFol (gTk r kind) to (n + 1) p l = if p < to then (if l < gTk r kind p then p else gFol (gTk r kind) to n (p + 1) (l - gTk r kind p)) else p := rfl
    have e2 := r_cost hf.cr hk ra rw0 (k := p) (kind := kind) (by omega) (by omega) k1 k2
    have tb := gTk_bd (r := r) kind p
    obtain ⟨t7, j7, k7⟩ := tk_js ht
    rw [e]
    generalize gTk r kind p = q at *
    by_cases q1 : p < to
    · rw [if_pos q1]
      by_cases q2 : l < q
      · rw [if_pos q2]
        refine ⟨l, (7, .inl q) :: t7, tk_c k7, ?_⟩
        rw [p96_77]
        simp (disch := omega) only [p96_79, p96_80, p96_83, p96_84, p96_87, p96_89, p96_91, p96_94, p96_96, p96_98, p96_100, p96_103, p96_106, p96_108, p96_110, p96_111, p96_113, p96_116, jwd_c, jwd_0, Nat.reduceLeDiff, Nat.reduceEqDiff, Nat.reduceAdd, Nat.reduceSub, Nat.reduceMul, Int.reduceAdd, Int.reduceSub, Int.reduceMul, Int.reduceNeg, Int.reduceEq, Int.reduceLT, Int.reduceLE, jq_ldi_i, jq_ldl_l, jq_lda_a, jq_inc_i, jq_gs_t, jq_gsb_t, jq_gb_t, jq_gr_2, jq_gr_4, jq_gw_2, jq_s_t, jq_b_t, jg_c, jg_n, js_c, js_n, jrm_c, jrm_n, j2_i, j2_l, j2_a, jq_c_i, jq_c_l, jq_c_0, jq_c_n, jwd_le, jw_c0, mS_I, mS_R, mS_J, mN_I, mN_R, mN_J, mR_I, mI_R, mJ_I, mJ_R, mI_J, mR_J, ↓reduceIte, decide_true, or_true, true_or, and_self, false_or, or_false, reduceCtorEq, Bool.false_eq_true, and_false, false_and, eq_self, true_and, and_true, zero_ne, ↓br_lt_t, ↓br_lt_f, ↓br_eq_t, ↓br_eq_f, ↓br_lz_t, ↓br_lz_f, ↓br_ez_t, ↓br_ez_f, ↓br_gz_t, ↓br_gz_f, jw_id, jin_t, jix_t, FS.s hf, FS.r0 hf, FS.r1 hf, FS.r2 hf, FS.r3 hf, FS.r4 hf, FS.r5 hf, FS.r6 hf, FS.x119 hf, FS.x119p hf, FS.x119k hf, FS.x119t hf, FS.x120 hf, FS.x122 hf, FS.x124 hf, FS.x126 hf, FS.x130 hf, FS.x128 hf, FS.x132 hf, FS.x134 hf, FS.x84 hf, FS.x84r0 hf, FS.x85 hf, FS.x84r1 hf, FS.x87 hf, FS.x84r2 hf, FS.x89 hf, FS.x84r3 hf, FS.x91 hf, FS.x84r4 hf, FS.x93 hf, FS.x84r5 hf, FS.x95 hf, FS.x84r6 hf, FS.x97 hf, FS.x84r7 hf, FS.x99 hf, FS.x84f8 hf, FS.x84f9 hf, FS.x84f10 hf, FS.x84f11 hf, FS.x84f12 hf, FS.x84f14 hf, FS.x84f15 hf, FS.x84f16 hf, FS.x84f17 hf, e2, j7]
      · rw [if_neg q2]
        have J : ∀ a : Nat, a < 8 → jrm t7 a = t7 := fun a ha => tk_jrm t7 8 a k7 ha
        obtain ⟨l3, t3, a1, a2⟩ := ih (p + 1) (l - q) ((7, .inl q) :: t7) (tk_c k7) (by omega) (by omega) (by omega) (by omega) (by omega)
        refine ⟨l3, t3, a1, ?_⟩
        rw [← a2, p96_77]
        simp (disch := omega) only [p96_79, p96_80, p96_83, p96_84, p96_87, p96_89, p96_91, p96_94, p96_96, p96_98, p96_100, p96_103, p96_106, p96_108, p96_110, p96_111, p96_113, p96_116, jwd_c, jwd_0, Nat.reduceLeDiff, Nat.reduceEqDiff, Nat.reduceAdd, Nat.reduceSub, Nat.reduceMul, Int.reduceAdd, Int.reduceSub, Int.reduceMul, Int.reduceNeg, Int.reduceEq, Int.reduceLT, Int.reduceLE, jq_ldi_i, jq_ldl_l, jq_lda_a, jq_inc_i, jq_gs_t, jq_gsb_t, jq_gb_t, jq_gr_2, jq_gr_4, jq_gw_2, jq_s_t, jq_b_t, jg_c, jg_n, js_c, js_n, jrm_c, jrm_n, j2_i, j2_l, j2_a, jq_c_i, jq_c_l, jq_c_0, jq_c_n, jwd_le, jw_c0, mS_I, mS_R, mS_J, mN_I, mN_R, mN_J, mR_I, mI_R, mJ_I, mJ_R, mI_J, mR_J, ↓reduceIte, decide_true, or_true, true_or, and_self, false_or, or_false, reduceCtorEq, Bool.false_eq_true, and_false, false_and, eq_self, true_and, and_true, zero_ne, ↓br_lt_t, ↓br_lt_f, ↓br_eq_t, ↓br_eq_f, ↓br_lz_t, ↓br_lz_f, ↓br_ez_t, ↓br_ez_f, ↓br_gz_t, ↓br_gz_f, jw_id, jin_t, jix_t, FS.s hf, FS.r0 hf, FS.r1 hf, FS.r2 hf, FS.r3 hf, FS.r4 hf, FS.r5 hf, FS.r6 hf, FS.x119 hf, FS.x119p hf, FS.x119k hf, FS.x119t hf, FS.x120 hf, FS.x122 hf, FS.x124 hf, FS.x126 hf, FS.x130 hf, FS.x128 hf, FS.x132 hf, FS.x134 hf, FS.x84 hf, FS.x84r0 hf, FS.x85 hf, FS.x84r1 hf, FS.x87 hf, FS.x84r2 hf, FS.x89 hf, FS.x84r3 hf, FS.x91 hf, FS.x84r4 hf, FS.x93 hf, FS.x84r5 hf, FS.x95 hf, FS.x84r6 hf, FS.x97 hf, FS.x84r7 hf, FS.x99 hf, FS.x84f8 hf, FS.x84f9 hf, FS.x84f10 hf, FS.x84f11 hf, FS.x84f12 hf, FS.x84f14 hf, FS.x84f15 hf, FS.x84f16 hf, FS.x84f17 hf, e2, j7, J]
    · rw [if_neg q1]
      refine ⟨l, t, ht, ?_⟩
      rw [p96_77]
      simp (disch := omega) only [p96_79, p96_80, p96_83, p96_84, p96_87, p96_89, p96_91, p96_94, p96_96, p96_98, p96_100, p96_103, p96_106, p96_108, p96_110, p96_111, p96_113, p96_116, jwd_c, jwd_0, Nat.reduceLeDiff, Nat.reduceEqDiff, Nat.reduceAdd, Nat.reduceSub, Nat.reduceMul, Int.reduceAdd, Int.reduceSub, Int.reduceMul, Int.reduceNeg, Int.reduceEq, Int.reduceLT, Int.reduceLE, jq_ldi_i, jq_ldl_l, jq_lda_a, jq_inc_i, jq_gs_t, jq_gsb_t, jq_gb_t, jq_gr_2, jq_gr_4, jq_gw_2, jq_s_t, jq_b_t, jg_c, jg_n, js_c, js_n, jrm_c, jrm_n, j2_i, j2_l, j2_a, jq_c_i, jq_c_l, jq_c_0, jq_c_n, jwd_le, jw_c0, mS_I, mS_R, mS_J, mN_I, mN_R, mN_J, mR_I, mI_R, mJ_I, mJ_R, mI_J, mR_J, ↓reduceIte, decide_true, or_true, true_or, and_self, false_or, or_false, reduceCtorEq, Bool.false_eq_true, and_false, false_and, eq_self, true_and, and_true, zero_ne, ↓br_lt_t, ↓br_lt_f, ↓br_eq_t, ↓br_eq_f, ↓br_lz_t, ↓br_lz_f, ↓br_ez_t, ↓br_ez_f, ↓br_gz_t, ↓br_gz_f, jw_id, jin_t, jix_t]
theorem come_loop (hk : HOK H) : ∀ (n : Nat) (i : Int) (r g : Nat → Int) (t : jmL) (w : jmW), FS w H L S r g c → RA H B r → RB r → RW H r → RP r → 1 ≤ i → i + n = r 289 → tk 2 t → ∃ u, rn 96 (2, (0, jvr 118) :: (1, .inl i) :: t, [], w) = some (none, u) ∧ FS u H L S (gFA n i (r, g)).1 (gFA n i (r, g)).2 c ∧ Fr (fun b => 119 ≤ b ∧ b ≤ 127) w u := by
  intro n
  induction n with
  | zero =>
    intro i r g t w hf ra rb rw0 rp i1 i2 ht
    have h16 := ra.1
    have e0 := fs_n hf (by omega)
    refine ⟨w, ?_, hf, Fr.rf _ _⟩
    rw [p96_2]
    simp (disch := omega) only [p96_0, p96_1, p96_3, p96_4, p96_7, p96_10, p96_13, p96_16, p96_17, p96_20, p96_23, p96_24, p96_25, p96_28, p96_29, p96_30, p96_33, p96_36, p96_37, p96_38, p96_39, p96_40, p96_43, p96_44, p96_45, p96_46, p96_47, p96_50, p96_53, p96_54, p96_55, p96_58, p96_60, p96_61, p96_64, p96_67, p96_68, p96_69, p96_72, p96_74, p96_75, p96_79, p96_80, p96_83, p96_84, p96_87, p96_89, p96_91, p96_94, p96_96, p96_98, p96_100, p96_103, p96_106, p96_108, p96_110, p96_111, p96_113, p96_116, p96_119, p96_120, p96_123, p96_126, p96_127, p96_128, p96_130, p96_133, p96_134, p96_135, p96_137, p96_138, p96_139, p96_142, p96_145, p96_148, jwd_c, jwd_0, Nat.reduceLeDiff, Nat.reduceEqDiff, Nat.reduceAdd, Nat.reduceSub, Nat.reduceMul, Int.reduceAdd, Int.reduceSub, Int.reduceMul, Int.reduceNeg, Int.reduceEq, Int.reduceLT, Int.reduceLE, jq_ldi_i, jq_ldl_l, jq_lda_a, jq_inc_i, jq_gs_t, jq_gsb_t, jq_gb_t, jq_gr_2, jq_gr_4, jq_gw_2, jq_s_t, jq_b_t, jg_c, jg_n, js_c, js_n, jrm_c, jrm_n, j2_i, j2_l, j2_a, jq_c_i, jq_c_l, jq_c_0, jq_c_n, jwd_le, jw_c0, mS_I, mS_R, mS_J, mN_I, mN_R, mN_J, mR_I, mI_R, mJ_I, mJ_R, mI_J, mR_J, ↓reduceIte, decide_true, or_true, true_or, and_self, false_or, or_false, reduceCtorEq, Bool.false_eq_true, and_false, false_and, eq_self, true_and, and_true, zero_ne, ↓br_lt_t, ↓br_lt_f, ↓br_eq_t, ↓br_eq_f, ↓br_lz_t, ↓br_lz_f, ↓br_ez_t, ↓br_ez_f, ↓br_gz_t, ↓br_gz_f, jw_id, jin_t, jix_t, FS.s hf, FS.r0 hf, FS.r1 hf, FS.r2 hf, FS.r3 hf, FS.r4 hf, FS.r5 hf, FS.r6 hf, FS.x119 hf, FS.x119p hf, FS.x119k hf, FS.x119t hf, FS.x120 hf, FS.x122 hf, FS.x124 hf, FS.x126 hf, FS.x130 hf, FS.x128 hf, FS.x132 hf, FS.x134 hf, FS.x84 hf, FS.x84r0 hf, FS.x85 hf, FS.x84r1 hf, FS.x87 hf, FS.x84r2 hf, FS.x89 hf, FS.x84r3 hf, FS.x91 hf, FS.x84r4 hf, FS.x93 hf, FS.x84r5 hf, FS.x95 hf, FS.x84r6 hf, FS.x97 hf, FS.x84r7 hf, FS.x99 hf, FS.x84f8 hf, FS.x84f9 hf, FS.x84f10 hf, FS.x84f11 hf, FS.x84f12 hf, FS.x84f14 hf, FS.x84f15 hf, FS.x84f16 hf, FS.x84f17 hf, e0]
  | succ n ih =>
    intro i r g t w hf ra rb rw0 rp i1 i2 ht
    have h16 := ra.1
    have b0 := rb i (by omega) (by omega)
    have b1 := rb (i - 1) (by omega) (by omega)
    rw [show (220 + (i - 1)).toNat = (220 + i - 1).toNat by omega] at b1
    have e0 := fs_n hf (by omega)
    have e1 := fs_get hf (i := i) (k := 1) (by omega) (by omega) (by omega) (by omega)
    rw [show (204 + 16 * (1 : Int) + i).toNat = (220 + i).toNat by omega] at e1
    have e2 := fs_get hf (i := i - 1) (k := 1) (by omega) (by omega) (by omega) (by omega)
    rw [show (204 + 16 * (1 : Int) + (i - 1)).toNat = (220 + i - 1).toNat by omega] at e2
    have e3 := fs_get hf (i := i) (k := 2) (by omega) (by omega) (by omega) (by omega)
    rw [show (204 + 16 * (2 : Int) + i).toNat = (236 + i).toNat by omega] at e3
    have e4 := fs_get hf (i := i) (k := 3) (by omega) (by omega) (by omega) (by omega)
    rw [show (204 + 16 * (3 : Int) + i).toNat = (252 + i).toNat by omega] at e4
    obtain ⟨t2, j2, k2⟩ := tk_js ht
    obtain ⟨t3, j3, k3⟩ := tk_js k2
    obtain ⟨t4, j4, k4⟩ := tk_js k3
    obtain ⟨t5, j5, k5⟩ := tk_js k4
    obtain ⟨t6, j6, k6⟩ := tk_js k5
    obtain ⟨l2, t7, k7, e5⟩ := fol_in hf hk ra rw0 (i := i) (fr := r (220 + i).toNat) (to := r (220 + i - 1).toNat - 1) (kind := r (236 + i).toNat) (by omega) (by omega) (by omega) (by omega) 204 (r (220 + i).toNat) (r (252 + i).toNat) t6 k6 (by omega) (by omega) (by omega) (by omega) (by omega)
    have e6 : gFol (gTk r (r (236 + i).toNat)) (r (220 + i - 1).toNat - 1) 204 (r (220 + i).toNat) (r (252 + i).toNat) = gFp r i := rfl
    rw [e6] at e5
    obtain ⟨w1, e7, c7, f7⟩ := hf.cr.putc (v := gFp r i) (by omega) (i := i) (k := 1) (by omega) (by omega) (by omega) (by omega)
    rw [show (204 + 16 * (1 : Int) + i).toNat = (220 + i).toNat by omega] at c7
    have F1 := hf.row (f7.mo (fun b hb => by unfold sP at hb; unfold rP; omega)) c7
    obtain ⟨ra1, rb1, rw1, rp1⟩ := fol_ok ra rb rw0 rp (i := i) (by omega) (by omega)
    obtain ⟨w2, e8, F2, f8⟩ := f_tally F1 ra1 rb1 (i := i) (n := gFp r i - r (220 + i).toNat) (by omega) (by rw [up1_n (by omega)]; omega)
    rw [up1_n (b := (204 + i).toNat) (by omega)] at F2
    obtain ⟨u, e9, F3, f9⟩ := ih (i + 1) _ _ ((2, .inl (r (220 + i).toNat)) :: (3, .inl (r (220 + i - 1).toNat - 1)) :: (4, .inl (r (236 + i).toNat)) :: (5, .inl l2) :: (6, .inl (gFp r i)) :: t7) w2 F2 ra1 rb1 rw1 rp1 (by omega) (by rw [up1_n (by omega)]; omega) (tk_c (tk_c (tk_c (tk_c (tk_c k7)))))
    refine ⟨u, ?_, F3, ((f7.mo (fun b hb => by unfold sP at hb; omega)).tr (f8.mo (fun b hb => by unfold sP at hb; omega))).tr f9⟩
    rw [← e9, p96_2]
    simp (disch := omega) only [p96_3, p96_4, p96_7, p96_10, p96_13, p96_16, p96_17, p96_20, p96_23, p96_24, p96_25, p96_28, p96_29, p96_30, p96_33, p96_36, p96_37, p96_38, p96_39, p96_40, p96_43, p96_44, p96_45, p96_46, p96_47, p96_50, p96_53, p96_54, p96_55, p96_58, p96_60, p96_61, p96_64, p96_67, p96_68, p96_69, p96_72, p96_74, p96_75, jwd_c, jwd_0, Nat.reduceLeDiff, Nat.reduceEqDiff, Nat.reduceAdd, Nat.reduceSub, Nat.reduceMul, Int.reduceAdd, Int.reduceSub, Int.reduceMul, Int.reduceNeg, Int.reduceEq, Int.reduceLT, Int.reduceLE, jq_ldi_i, jq_ldl_l, jq_lda_a, jq_inc_i, jq_gs_t, jq_gsb_t, jq_gb_t, jq_gr_2, jq_gr_4, jq_gw_2, jq_s_t, jq_b_t, jg_c, jg_n, js_c, js_n, jrm_c, jrm_n, j2_i, j2_l, j2_a, jq_c_i, jq_c_l, jq_c_0, jq_c_n, jwd_le, jw_c0, mS_I, mS_R, mS_J, mN_I, mN_R, mN_J, mR_I, mI_R, mJ_I, mJ_R, mI_J, mR_J, ↓reduceIte, decide_true, or_true, true_or, and_self, false_or, or_false, reduceCtorEq, Bool.false_eq_true, and_false, false_and, eq_self, true_and, and_true, zero_ne, ↓br_lt_t, ↓br_lt_f, ↓br_eq_t, ↓br_eq_f, ↓br_lz_t, ↓br_lz_f, ↓br_ez_t, ↓br_ez_f, ↓br_gz_t, ↓br_gz_f, jw_id, jin_t, jix_t, FS.s hf, FS.r0 hf, FS.r1 hf, FS.r2 hf, FS.r3 hf, FS.r4 hf, FS.r5 hf, FS.r6 hf, FS.x119 hf, FS.x119p hf, FS.x119k hf, FS.x119t hf, FS.x120 hf, FS.x122 hf, FS.x124 hf, FS.x126 hf, FS.x130 hf, FS.x128 hf, FS.x132 hf, FS.x134 hf, FS.x84 hf, FS.x84r0 hf, FS.x85 hf, FS.x84r1 hf, FS.x87 hf, FS.x84r2 hf, FS.x89 hf, FS.x84r3 hf, FS.x91 hf, FS.x84r4 hf, FS.x93 hf, FS.x84r5 hf, FS.x95 hf, FS.x84r6 hf, FS.x97 hf, FS.x84r7 hf, FS.x99 hf, FS.x84f8 hf, FS.x84f9 hf, FS.x84f10 hf, FS.x84f11 hf, FS.x84f12 hf, FS.x84f14 hf, FS.x84f15 hf, FS.x84f16 hf, FS.x84f17 hf, e0, e1, e2, e3, e4, j2, j3, j4, j5, j6]
    rw [e5]
    have J : ∀ a : Nat, a < 7 → jrm t7 a = t7 := fun a ha => tk_jrm t7 7 a k7 ha
    simp (disch := omega) only [p96_0, p96_1, p96_3, p96_4, p96_7, p96_10, p96_13, p96_16, p96_17, p96_20, p96_23, p96_24, p96_25, p96_28, p96_29, p96_30, p96_33, p96_36, p96_37, p96_38, p96_39, p96_40, p96_43, p96_44, p96_45, p96_46, p96_47, p96_50, p96_53, p96_54, p96_55, p96_58, p96_60, p96_61, p96_64, p96_67, p96_68, p96_69, p96_72, p96_74, p96_75, p96_79, p96_80, p96_83, p96_84, p96_87, p96_89, p96_91, p96_94, p96_96, p96_98, p96_100, p96_103, p96_106, p96_108, p96_110, p96_111, p96_113, p96_116, p96_119, p96_120, p96_123, p96_126, p96_127, p96_128, p96_130, p96_133, p96_134, p96_135, p96_137, p96_138, p96_139, p96_142, p96_145, p96_148, jwd_c, jwd_0, Nat.reduceLeDiff, Nat.reduceEqDiff, Nat.reduceAdd, Nat.reduceSub, Nat.reduceMul, Int.reduceAdd, Int.reduceSub, Int.reduceMul, Int.reduceNeg, Int.reduceEq, Int.reduceLT, Int.reduceLE, jq_ldi_i, jq_ldl_l, jq_lda_a, jq_inc_i, jq_gs_t, jq_gsb_t, jq_gb_t, jq_gr_2, jq_gr_4, jq_gw_2, jq_s_t, jq_b_t, jg_c, jg_n, js_c, js_n, jrm_c, jrm_n, j2_i, j2_l, j2_a, jq_c_i, jq_c_l, jq_c_0, jq_c_n, jwd_le, jw_c0, mS_I, mS_R, mS_J, mN_I, mN_R, mN_J, mR_I, mI_R, mJ_I, mJ_R, mI_J, mR_J, ↓reduceIte, decide_true, or_true, true_or, and_self, false_or, or_false, reduceCtorEq, Bool.false_eq_true, and_false, false_and, eq_self, true_and, and_true, zero_ne, ↓br_lt_t, ↓br_lt_f, ↓br_eq_t, ↓br_eq_f, ↓br_lz_t, ↓br_lz_f, ↓br_ez_t, ↓br_ez_f, ↓br_gz_t, ↓br_gz_f, jw_id, jin_t, jix_t, FS.s hf, FS.r0 hf, FS.r1 hf, FS.r2 hf, FS.r3 hf, FS.r4 hf, FS.r5 hf, FS.r6 hf, FS.x119 hf, FS.x119p hf, FS.x119k hf, FS.x119t hf, FS.x120 hf, FS.x122 hf, FS.x124 hf, FS.x126 hf, FS.x130 hf, FS.x128 hf, FS.x132 hf, FS.x134 hf, FS.x84 hf, FS.x84r0 hf, FS.x85 hf, FS.x84r1 hf, FS.x87 hf, FS.x84r2 hf, FS.x89 hf, FS.x84r3 hf, FS.x91 hf, FS.x84r4 hf, FS.x93 hf, FS.x84r5 hf, FS.x95 hf, FS.x84r6 hf, FS.x97 hf, FS.x84r7 hf, FS.x99 hf, FS.x84f8 hf, FS.x84f9 hf, FS.x84f10 hf, FS.x84f11 hf, FS.x84f12 hf, FS.x84f14 hf, FS.x84f15 hf, FS.x84f16 hf, FS.x84f17 hf, e7, FS.s F1, e8, J]
theorem f_come (hf : FS w H L S r g c) (hk : HOK H) (ra : RA H B r) (rb : RB r) (rw0 : RW H r) (rp : RP r) : ∃ u, rn 96 (0, [(0, jvr 118)], [], w) = some (none, u) ∧ FS u H L S (gFA (r 289 - 1).toNat 1 (r, g)).1 (gFA (r 289 - 1).toNat 1 (r, g)).2 c ∧ Fr (fun b => 119 ≤ b ∧ b ≤ 127) w u := by
  have h16 := ra.1
  obtain ⟨u, e, F, f⟩ := come_loop hk (r 289 - 1).toNat 1 r g [] w hf ra rb rw0 rp (by omega) (by omega) (tk_n 2)
  refine ⟨u, ?_, F, f⟩
  rw [← e]
  simp (disch := omega) only [p96_0, p96_1, jwd_c, jwd_0, Nat.reduceLeDiff, Nat.reduceEqDiff, Nat.reduceAdd, Nat.reduceSub, Nat.reduceMul, Int.reduceAdd, Int.reduceSub, Int.reduceMul, Int.reduceNeg, Int.reduceEq, Int.reduceLT, Int.reduceLE, jq_ldi_i, jq_ldl_l, jq_lda_a, jq_inc_i, jq_gs_t, jq_gsb_t, jq_gb_t, jq_gr_2, jq_gr_4, jq_gw_2, jq_s_t, jq_b_t, jg_c, jg_n, js_c, js_n, jrm_c, jrm_n, j2_i, j2_l, j2_a, jq_c_i, jq_c_l, jq_c_0, jq_c_n, jwd_le, jw_c0, mS_I, mS_R, mS_J, mN_I, mN_R, mN_J, mR_I, mI_R, mJ_I, mJ_R, mI_J, mR_J, ↓reduceIte, decide_true, or_true, true_or, and_self, false_or, or_false, reduceCtorEq, Bool.false_eq_true, and_false, false_and, eq_self, true_and, and_true, zero_ne]
end COME
