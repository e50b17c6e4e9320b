/-! The model: who tears off, who leaves, who is let in. -/
def gMov (r : Nat → Int) (f t : Int) : Nat → Int := up1 (up1 (up1 (up1 (up1 r (204 + t).toNat (r (204 + f).toNat)) (220 + t).toNat (r (220 + f).toNat)) (236 + t).toNat (r (236 + f).toNat)) (252 + t).toNat (r (252 + f).toNat)) (268 + t).toNat (r (268 + f).toNat)
def gOutK (r : Nat → Int) (i K : Int) : Nat → Int := fun n => if 204 ≤ n ∧ n < 284 ∧ i ≤ (((n - 204) % 16 : Nat) : Int) ∧ (((n - 204) % 16 : Nat) : Int) < K then r (n + 1) else r n
def gOut (r : Nat → Int) (i : Int) : Nat → Int := up1 (gOutK r i (r 289 - 1)) 289 (r 289 - 1)
def gInsK (r : Nat → Int) (K : Int) : Nat → Int := fun n => if 204 ≤ n ∧ n < 284 ∧ K < (((n - 204) % 16 : Nat) : Int) ∧ (((n - 204) % 16 : Nat) : Int) ≤ r 289 then r (n - 1) else r n
theorem gOutK_s {r : Nat → Int} {i K : Int} (h1 : 0 ≤ i) (h2 : i ≤ K) (h3 : K < 15) : gMov (gOutK r i K) (K + 1) K = gOutK r i (K + 1) := by
  obtain ⟨k, rfl⟩ := Int.eq_ofNat_of_zero_le (show 0 ≤ K by omega)
  obtain ⟨j, rfl⟩ := Int.eq_ofNat_of_zero_le h1
  funext n
  unfold gMov up1 gOutK
  by_cases z1 : n = 268 + k
  · rw [if_pos (show n = (268 + (k : Int)).toNat by omega), if_neg (by omega), if_pos (by omega)]
    congr 1
    omega
  rw [if_neg (show ¬ n = (268 + (k : Int)).toNat by omega)]
  by_cases z2 : n = 252 + k
  · rw [if_pos (show n = (252 + (k : Int)).toNat by omega), if_neg (by omega), if_pos (by omega)]
    congr 1
    omega
  rw [if_neg (show ¬ n = (252 + (k : Int)).toNat by omega)]
  by_cases z3 : n = 236 + k
  · rw [if_pos (show n = (236 + (k : Int)).toNat by omega), if_neg (by omega), if_pos (by omega)]
    congr 1
    omega
  rw [if_neg (show ¬ n = (236 + (k : Int)).toNat by omega)]
  by_cases z4 : n = 220 + k
  · rw [if_pos (show n = (220 + (k : Int)).toNat by omega), if_neg (by omega), if_pos (by omega)]
    congr 1
    omega
  rw [if_neg (show ¬ n = (220 + (k : Int)).toNat by omega)]
  by_cases z5 : n = 204 + k
  · rw [if_pos (show n = (204 + (k : Int)).toNat by omega), if_neg (by omega), if_pos (by omega)]
    congr 1
    omega
  rw [if_neg (show ¬ n = (204 + (k : Int)).toNat by omega)]
  split
  · rw [if_pos (by omega)]
  · rw [if_neg (by omega)]
theorem gInsK_s {r : Nat → Int} {K : Int} (h2 : 1 ≤ K) (h3 : K ≤ r 289) (h4 : r 289 ≤ 15) : gMov (gInsK r K) (K - 1) K = gInsK r (K - 1) := by
  obtain ⟨k, rfl⟩ := Int.eq_ofNat_of_zero_le (show 0 ≤ K by omega)
  funext n
  unfold gMov up1 gInsK
  by_cases z1 : n = 268 + k
  · rw [if_pos (show n = (268 + (k : Int)).toNat by omega), if_neg (by omega), if_pos (by omega)]
    congr 1
    omega
  rw [if_neg (show ¬ n = (268 + (k : Int)).toNat by omega)]
  by_cases z2 : n = 252 + k
  · rw [if_pos (show n = (252 + (k : Int)).toNat by omega), if_neg (by omega), if_pos (by omega)]
    congr 1
    omega
  rw [if_neg (show ¬ n = (252 + (k : Int)).toNat by omega)]
  by_cases z3 : n = 236 + k
  · rw [if_pos (show n = (236 + (k : Int)).toNat by omega), if_neg (by omega), if_pos (by omega)]
    congr 1
    omega
  rw [if_neg (show ¬ n = (236 + (k : Int)).toNat by omega)]
  by_cases z4 : n = 220 + k
  · rw [if_pos (show n = (220 + (k : Int)).toNat by omega), if_neg (by omega), if_pos (by omega)]
    congr 1
    omega
  rw [if_neg (show ¬ n = (220 + (k : Int)).toNat by omega)]
  by_cases z5 : n = 204 + k
  · rw [if_pos (show n = (204 + (k : Int)).toNat by omega), if_neg (by omega), if_pos (by omega)]
    congr 1
    omega
  rw [if_neg (show ¬ n = (204 + (k : Int)).toNat by omega)]
  split
  · rw [if_pos (by omega)]
  · rw [if_neg (by omega)]
theorem gOut_rd {r : Nat → Int} {i j b : Int} (hb : b = 204 ∨ b = 220 ∨ b = 236 ∨ b = 252 ∨ b = 268) (h1 : 0 ≤ j) (h2 : j < 16) (h3 : j < r 289 - 1) : gOut r i (b + j).toNat = if i ≤ j then r (b + j + 1).toNat else r (b + j).toNat := by
  unfold gOut gOutK
  rw [up1_n (by omega)]
  by_cases q : i ≤ j
  · rw [if_pos q, if_pos (by rcases hb with rfl | rfl | rfl | rfl | rfl <;> omega)]
    congr 1
    omega
  · rw [if_neg q, if_neg (by rcases hb with rfl | rfl | rfl | rfl | rfl <;> omega)]
theorem gOut_hi {r : Nat → Int} {i : Int} {n : Nat} (h : n < 204 ∨ 284 ≤ n) (h2 : n ≠ 289) : gOut r i n = r n := by
  unfold gOut gOutK
  rw [up1_n h2, if_neg (by omega)]
theorem gOut_289 {r : Nat → Int} {i : Int} : gOut r i 289 = r 289 - 1 := up1_s _ _ _
theorem gInsK_rd {r : Nat → Int} {K j b : Int} (hb : b = 204 ∨ b = 220 ∨ b = 236 ∨ b = 252 ∨ b = 268) (h1 : 0 ≤ j) (h2 : j < 16) (h3 : j ≤ r 289) (h4 : 0 ≤ K) : gInsK r K (b + j).toNat = if K < j then r (b + j - 1).toNat else r (b + j).toNat := by
  unfold gInsK
  by_cases q : K < j
  · rw [if_pos q, if_pos (by rcases hb with rfl | rfl | rfl | rfl | rfl <;> omega)]
    congr 1
    omega
  · rw [if_neg q, if_neg (by rcases hb with rfl | rfl | rfl | rfl | rfl <;> omega)]
theorem gInsK_hi {r : Nat → Int} {K : Int} {n : Nat} (h : n < 204 ∨ 284 ≤ n) : gInsK r K n = r n := by
  unfold gInsK
  exact if_neg (by omega)
noncomputable def gTe (r : Nat → Int) : Nat → Int → Int
  | 0, i => i
  | n + 1, i => if r (268 + i).toNat < gGap r i then i else gTe r n (i + 1)
noncomputable def gTi (r : Nat → Int) : Int := gTe r (r 289 - 1).toNat 1
noncomputable def gAu (H : Nat → Nat → Int) : Nat → (Nat → Int) → Nat → Int
  | 0, r => r
  | n + 1, r => gAu H n (if r (236 + ((n + 1 : Nat) : Int)).toNat = 1 ∧ H 17 (gCell r ((n + 1 : Nat) : Int)).toNat = 1 then gOut r ((n + 1 : Nat) : Int) else r)
section LEAVE
variable {w : jmW} {a h : Nat} {H : Nat → Nat → Int} {r : Nat → Int} {B : Int}
theorem m_mov (hs : mS w a = (2, 0, 298)) (hr : mI w a = r) {f t : Int} (f1 : 0 ≤ f) (f2 : f < 16) (t1 : 0 ≤ t) (t2 : t < 16) : rn 254 (0, [(0, jvr a), (1, .inl f), (2, .inl t)], [], w) = some (none, setA w a (gMov r f t)) := by
  unfold gMov
  simp (disch := omega) only [p254_0, p254_1, p254_4, p254_5, p254_6, p254_7, p254_10, p254_11, p254_12, p254_13, p254_14, p254_15, p254_18, p254_19, p254_20, p254_21, p254_24, p254_25, p254_26, p254_27, p254_28, p254_29, p254_32, p254_33, p254_34, p254_35, p254_38, p254_39, p254_40, p254_41, p254_42, p254_43, p254_46, p254_47, p254_48, p254_49, p254_52, p254_53, p254_54, p254_55, p254_56, p254_57, p254_60, p254_61, p254_62, p254_63, p254_66, p254_67, p254_68, p254_69, p254_70, jwd_c, jwd_0, Nat.reduceLeDiff, Nat.reduceEqDiff, Nat.reduceAdd, Nat.reduceSub, Nat.reduceMul, Int.reduceAdd, Int.reduceSub, Int.reduceMul, Int.reduceNeg, Int.reduceEq, Int.reduceLT, Int.reduceLE, jq_ldi_i, jq_ldl_l, jq_lda_a, jq_inc_i, jq_gs_t, jq_gsb_t, jq_gb_t, jq_gr_2, jq_gr_4, jq_gw_2, jq_s_t, jq_b_t, jg_c, jg_n, js_c, js_n, jrm_c, jrm_n, j2_i, j2_l, j2_a, jq_c_i, jq_c_l, jq_c_0, jq_c_n, jwd_le, jw_c0, mS_I, mS_R, mS_J, mN_I, mN_R, mN_J, mR_I, mI_R, mJ_I, mJ_R, mI_J, mR_J, ↓reduceIte, decide_true, or_true, true_or, and_self, false_or, or_false, reduceCtorEq, Bool.false_eq_true, and_false, false_and, eq_self, true_and, and_true, zero_ne, ↓br_lt_t, ↓br_lt_f, ↓br_eq_t, ↓br_eq_f, ↓br_lz_t, ↓br_lz_f, ↓br_ez_t, ↓br_ez_f, ↓br_gz_t, ↓br_gz_f, jw_id, jin_t, jix_t, mI_A, mI_nA, up1_s, up1_n, mS_A, mR_A, mJ_A, mN_A, setI_A, setA_A, sw_238, sw_239, sw_240, sw_241, sw_242, sw_243, sw_244, sw_245, sw_246, sw_247, sw_248, sw_249, sw_250, sw_251, Int.reduceToNat, Int.toNat_natCast, hs, hr]
theorem out_loop (hs : mS w a = (2, 0, 298)) {i : Int} (i1 : 0 ≤ i) (h16 : r 289 ≤ 16) : ∀ (n : Nat) (k : Int), i ≤ k → k + n = r 289 - 1 → rn 253 (2, [(0, jvr a), (1, .inl i), (2, .inl k)], [], setA w a (gOutK r i k)) = some (none, setA w a (gOut r i)) := by
  have e289 : ∀ K, gOutK r i K 289 = r 289 := fun K => if_neg (by omega)
  intro n
  induction n with
  | zero =>
    intro k k1 k2
    have : k = r 289 - 1 := by omega
    subst this
    unfold gOut
    rw [p253_2]
    simp (disch := omega) only [p253_0, p253_1, p253_3, p253_4, p253_5, p253_6, p253_9, p253_10, p253_13, p253_14, p253_15, p253_16, p253_17, p253_18, p253_21, p253_24, p253_27, p253_28, p253_31, p253_32, p253_33, p253_34, p253_35, p253_36, jwd_c, jwd_0, Nat.reduceLeDiff, Nat.reduceEqDiff, Nat.reduceAdd, Nat.reduceSub, Nat.reduceMul, Int.reduceAdd, Int.reduceSub, Int.reduceMul, Int.reduceNeg, Int.reduceEq, Int.reduceLT, Int.reduceLE, jq_ldi_i, jq_ldl_l, jq_lda_a, jq_inc_i, jq_gs_t, jq_gsb_t, jq_gb_t, jq_gr_2, jq_gr_4, jq_gw_2, jq_s_t, jq_b_t, jg_c, jg_n, js_c, js_n, jrm_c, jrm_n, j2_i, j2_l, j2_a, jq_c_i, jq_c_l, jq_c_0, jq_c_n, jwd_le, jw_c0, mS_I, mS_R, mS_J, mN_I, mN_R, mN_J, mR_I, mI_R, mJ_I, mJ_R, mI_J, mR_J, ↓reduceIte, decide_true, or_true, true_or, and_self, false_or, or_false, reduceCtorEq, Bool.false_eq_true, and_false, false_and, eq_self, true_and, and_true, zero_ne, ↓br_lt_t, ↓br_lt_f, ↓br_eq_t, ↓br_eq_f, ↓br_lz_t, ↓br_lz_f, ↓br_ez_t, ↓br_ez_f, ↓br_gz_t, ↓br_gz_f, jw_id, jin_t, jix_t, mI_A, mI_nA, up1_s, up1_n, mS_A, mR_A, mJ_A, mN_A, setI_A, setA_A, sw_238, sw_239, sw_240, sw_241, sw_242, sw_243, sw_244, sw_245, sw_246, sw_247, sw_248, sw_249, sw_250, sw_251, Int.reduceToNat, Int.toNat_natCast, hs, e289]
  | succ n ih =>
    intro k k1 k2
    have e1 := m_mov (w := setA w a (gOutK r i k)) (a := a) (f := k + 1) (t := k) hs (mI_A _ _ _) (by omega) (by omega) (by omega) (by omega)
    rw [gOutK_s i1 k1 (by omega)] at e1
    have e2 := ih (k + 1) (by omega) (by omega)
    rw [p253_2]
    simp (disch := omega) only [p253_0, p253_1, p253_3, p253_4, p253_5, p253_6, p253_9, p253_10, p253_13, p253_14, p253_15, p253_16, p253_17, p253_18, p253_21, p253_24, p253_27, p253_28, p253_31, p253_32, p253_33, p253_34, p253_35, p253_36, jwd_c, jwd_0, Nat.reduceLeDiff, Nat.reduceEqDiff, Nat.reduceAdd, Nat.reduceSub, Nat.reduceMul, Int.reduceAdd, Int.reduceSub, Int.reduceMul, Int.reduceNeg, Int.reduceEq, Int.reduceLT, Int.reduceLE, jq_ldi_i, jq_ldl_l, jq_lda_a, jq_inc_i, jq_gs_t, jq_gsb_t, jq_gb_t, jq_gr_2, jq_gr_4, jq_gw_2, jq_s_t, jq_b_t, jg_c, jg_n, js_c, js_n, jrm_c, jrm_n, j2_i, j2_l, j2_a, jq_c_i, jq_c_l, jq_c_0, jq_c_n, jwd_le, jw_c0, mS_I, mS_R, mS_J, mN_I, mN_R, mN_J, mR_I, mI_R, mJ_I, mJ_R, mI_J, mR_J, ↓reduceIte, decide_true, or_true, true_or, and_self, false_or, or_false, reduceCtorEq, Bool.false_eq_true, and_false, false_and, eq_self, true_and, and_true, zero_ne, ↓br_lt_t, ↓br_lt_f, ↓br_eq_t, ↓br_eq_f, ↓br_lz_t, ↓br_lz_f, ↓br_ez_t, ↓br_ez_f, ↓br_gz_t, ↓br_gz_f, jw_id, jin_t, jix_t, mI_A, mI_nA, up1_s, up1_n, mS_A, mR_A, mJ_A, mN_A, setI_A, setA_A, sw_238, sw_239, sw_240, sw_241, sw_242, sw_243, sw_244, sw_245, sw_246, sw_247, sw_248, sw_249, sw_250, sw_251, Int.reduceToNat, Int.toNat_natCast, hs, e289, e1, e2]
theorem m_outs (hs : mS w a = (2, 0, 298)) (hr : mI w a = r) {i : Int} (i1 : 0 ≤ i) (i2 : i < r 289) (h16 : r 289 ≤ 16) : rn 253 (0, [(0, jvr a), (1, .inl i)], [], w) = some (none, setA w a (gOut r i)) := by
  have e0 : gOutK r i i = r := by
    funext n
    exact if_neg (by omega)
  have e := out_loop (w := w) hs i1 h16 (r 289 - 1 - i).toNat i (Int.le_refl _) (by omega)
  rw [e0, ← hr, setA_self] at e
  rw [hr] at e
  simp (disch := omega) only [p253_0, p253_1, p253_3, p253_4, p253_5, p253_6, p253_9, p253_10, p253_13, p253_14, p253_15, p253_16, p253_17, p253_18, p253_21, p253_24, p253_27, p253_28, p253_31, p253_32, p253_33, p253_34, p253_35, p253_36, jwd_c, jwd_0, Nat.reduceLeDiff, Nat.reduceEqDiff, Nat.reduceAdd, Nat.reduceSub, Nat.reduceMul, Int.reduceAdd, Int.reduceSub, Int.reduceMul, Int.reduceNeg, Int.reduceEq, Int.reduceLT, Int.reduceLE, jq_ldi_i, jq_ldl_l, jq_lda_a, jq_inc_i, jq_gs_t, jq_gsb_t, jq_gb_t, jq_gr_2, jq_gr_4, jq_gw_2, jq_s_t, jq_b_t, jg_c, jg_n, js_c, js_n, jrm_c, jrm_n, j2_i, j2_l, j2_a, jq_c_i, jq_c_l, jq_c_0, jq_c_n, jwd_le, jw_c0, mS_I, mS_R, mS_J, mN_I, mN_R, mN_J, mR_I, mI_R, mJ_I, mJ_R, mI_J, mR_J, ↓reduceIte, decide_true, or_true, true_or, and_self, false_or, or_false, reduceCtorEq, Bool.false_eq_true, and_false, false_and, eq_self, true_and, and_true, zero_ne, e]
theorem out_ok (ra : RA H B r) (rb : RB r) (rw0 : RW H r) (rp : RP r) {i : Int} (i1 : 1 ≤ i) (i2 : i < r 289) : RA H B (gOut r i) ∧ RB (gOut r i) ∧ RW H (gOut r i) ∧ RP (gOut r i) := by
  have h16 := ra.1
  have g : ∀ n : Nat, (n < 204 ∨ 284 ≤ n) → n ≠ 289 → gOut r i n = r n := fun n => gOut_hi
  have g9 := @gOut_289 r i
  refine ⟨?_, fun j j1 j2 => ?_, RW_c (fun k k1 => g _ (by omega) (by omega)) (g _ (by omega) (by omega)) ra rw0, ?_, fun j j1 j2 => ?_⟩
  · unfold RA at ra ⊢
    rw [g9, g 288 (by omega) (by omega), g 290 (by omega) (by omega), g 284 (by omega) (by omega), g 285 (by omega) (by omega), g 286 (by omega) (by omega), g 287 (by omega) (by omega), g 291 (by omega) (by omega), g 292 (by omega) (by omega), g 293 (by omega) (by omega), g 294 (by omega) (by omega), g 295 (by omega) (by omega), g 296 (by omega) (by omega), g 297 (by omega) (by omega)]
    omega
  · rw [g9] at j2
    rw [g 288 (by omega) (by omega), g 290 (by omega) (by omega), gOut_rd (by omega) j1 (by omega) j2, gOut_rd (by omega) j1 (by omega) j2, gOut_rd (by omega) j1 (by omega) j2, gOut_rd (by omega) j1 (by omega) j2, gOut_rd (by omega) j1 (by omega) j2]
    by_cases q : i ≤ j
    · rw [if_pos q, if_pos q, if_pos q, if_pos q, if_pos q]
      have := rb (j + 1) (by omega) (by omega)
      rw [show 204 + (j + 1) = 204 + j + 1 by omega, show 220 + (j + 1) = 220 + j + 1 by omega, show 236 + (j + 1) = 236 + j + 1 by omega, show 252 + (j + 1) = 252 + j + 1 by omega, show 268 + (j + 1) = 268 + j + 1 by omega] at this
      exact this
    · rw [if_neg q, if_neg q, if_neg q, if_neg q, if_neg q]
      exact rb j j1 (by omega)
  · have e : gOut r i 220 = r 220 := by
      unfold gOut gOutK
      rw [up1_n (by omega), if_neg (by omega)]
    rw [e, g 288 (by omega) (by omega)]
    exact rp.1
  · rw [g9] at j2
    rw [show (220 + j - 1) = 220 + (j - 1) by omega, gOut_rd (by omega) (by omega) (by omega) j2, gOut_rd (by omega) (by omega) (by omega) (by omega)]
    have c1 := rp.2 j j1 (by omega)
    have c2 := rp.2 (j + 1) (by omega) (by omega)
    rw [show 220 + (j + 1) = 220 + j + 1 by omega, show (220 + j + 1 - 1) = 220 + j by omega] at c2
    by_cases q : i ≤ j - 1
    · rw [if_pos (by omega), if_pos q, show (220 + (j - 1) + 1) = 220 + j by omega]
      exact c2
    · rw [if_neg q]
      rw [show 220 + j - 1 = 220 + (j - 1) by omega] at c1
      by_cases q2 : i ≤ j
      · rw [if_pos q2]
        omega
      · rw [if_neg q2]
        exact c1
theorem te_bd : ∀ (n : Nat) (i : Int), i ≤ gTe r n i ∧ gTe r n i ≤ i + n := by
  intro n
  induction n with
  | zero => intro i; exact ⟨Int.le_refl _, by show i ≤ _; omega⟩
  | succ n ih =>
    intro i
    have := ih (i + 1)
    have e : gTe r (n + 1) i = if r (268 + i).toNat < gGap r i then i else gTe r n (i + 1) := rfl
    rw [e]
    split <;> omega
theorem tear_loop (hm : MO w) (ha : a = 241 ∨ a = 242) (hs : mS w a = (2, 0, 298)) (hr : mI w a = r) (ra : RA H B r) (rb : RB r) {o : Int} (ho : mI w 238 31 = o) : ∀ (n : Nat) (i : Int), 1 ≤ i → i + n = r 289 → rn 251 (2, [(0, jvr 238), (1, jvr a), (2, .inl i)], [], w) = if gTe r n i < r 289 then some (some (.inl (r (204 + gTe r n i).toNat)), setA (setA w 238 (up1 (mI w 238) 31 (o + (r 289 - gTe r n i)))) a (up1 r 289 (gTe r n i))) else some (some (.inl (-1)), w) := by
  have h16 := ra.1
  intro n
  induction n with
  | zero =>
    intro i i1 i2
    have e : gTe r 0 i = i := rfl
    rw [e, if_neg (by omega), p251_2]
    simp (disch := omega) only [p251_0, p251_1, p251_3, p251_4, p251_7, p251_8, p251_11, p251_12, p251_13, p251_16, p251_17, p251_20, p251_21, p251_22, p251_23, p251_26, p251_29, p251_30i, p251_30a, p251_31, p251_34, p251_35, p251_38, p251_39, p251_40, p251_41, p251_42, p251_45, p251_46, p251_49, p251_50, p251_51, p251_52, p251_55, p251_56, p251_57, p251_58, p251_59, p251_62, p251_65, p251_66, jwd_c, jwd_0, Nat.reduceLeDiff, Nat.reduceEqDiff, Nat.reduceAdd, Nat.reduceSub, Nat.reduceMul, Int.reduceAdd, Int.reduceSub, Int.reduceMul, Int.reduceNeg, Int.reduceEq, Int.reduceLT, Int.reduceLE, jq_ldi_i, jq_ldl_l, jq_lda_a, jq_inc_i, jq_gs_t, jq_gsb_t, jq_gb_t, jq_gr_2, jq_gr_4, jq_gw_2, jq_s_t, jq_b_t, jg_c, jg_n, js_c, js_n, jrm_c, jrm_n, j2_i, j2_l, j2_a, jq_c_i, jq_c_l, jq_c_0, jq_c_n, jwd_le, jw_c0, mS_I, mS_R, mS_J, mN_I, mN_R, mN_J, mR_I, mI_R, mJ_I, mJ_R, mI_J, mR_J, ↓reduceIte, decide_true, or_true, true_or, and_self, false_or, or_false, reduceCtorEq, Bool.false_eq_true, and_false, false_and, eq_self, true_and, and_true, zero_ne, ↓br_lt_t, ↓br_lt_f, ↓br_eq_t, ↓br_eq_f, ↓br_lz_t, ↓br_lz_f, ↓br_ez_t, ↓br_ez_f, ↓br_gz_t, ↓br_gz_f, jw_id, jin_t, jix_t, Int.reduceToNat, hs, hr]
  | succ n ih =>
    intro i i1 i2
    have e : gTe r (n + 1) i = if r (268 + i).toNat < gGap r i then i else gTe r n (i + 1) := rfl
    have e1 := m_gap hs hr i1 (by omega)
    have b1 := rb i (by omega) (by omega)
    have b2 := rb (i - 1) (by omega) (by omega)
    rw [show (220 + (i - 1)).toNat = (220 + i - 1).toNat by omega] at b2
    have e2 : gGap r i = r (220 + i - 1).toNat - r (220 + i).toNat - 1 := rfl
    rw [e, p251_2]
    by_cases q : r (268 + i).toNat < gGap r i
    · rw [if_pos q, if_pos (by omega)]
      have e3 : up1 r 289 i (204 + i).toNat = r (204 + i).toNat := up1_n (by omega)
      simp (disch := omega) only [p251_0, p251_1, p251_3, p251_4, p251_7, p251_8, p251_11, p251_12, p251_13, p251_16, p251_17, p251_20, p251_21, p251_22, p251_23, p251_26, p251_29, p251_30i, p251_30a, p251_31, p251_34, p251_35, p251_38, p251_39, p251_40, p251_41, p251_42, p251_45, p251_46, p251_49, p251_50, p251_51, p251_52, p251_55, p251_56, p251_57, p251_58, p251_59, p251_62, p251_65, p251_66, jwd_c, jwd_0, Nat.reduceLeDiff, Nat.reduceEqDiff, Nat.reduceAdd, Nat.reduceSub, Nat.reduceMul, Int.reduceAdd, Int.reduceSub, Int.reduceMul, Int.reduceNeg, Int.reduceEq, Int.reduceLT, Int.reduceLE, jq_ldi_i, jq_ldl_l, jq_lda_a, jq_inc_i, jq_gs_t, jq_gsb_t, jq_gb_t, jq_gr_2, jq_gr_4, jq_gw_2, jq_s_t, jq_b_t, jg_c, jg_n, js_c, js_n, jrm_c, jrm_n, j2_i, j2_l, j2_a, jq_c_i, jq_c_l, jq_c_0, jq_c_n, jwd_le, jw_c0, mS_I, mS_R, mS_J, mN_I, mN_R, mN_J, mR_I, mI_R, mJ_I, mJ_R, mI_J, mR_J, ↓reduceIte, decide_true, or_true, true_or, and_self, false_or, or_false, reduceCtorEq, Bool.false_eq_true, and_false, false_and, eq_self, true_and, and_true, zero_ne, ↓br_lt_t, ↓br_lt_f, ↓br_eq_t, ↓br_eq_f, ↓br_lz_t, ↓br_lz_f, ↓br_ez_t, ↓br_ez_f, ↓br_gz_t, ↓br_gz_f, jw_id, jin_t, jix_t, mI_A, mI_nA, up1_s, up1_n, mS_A, mR_A, mJ_A, mN_A, setI_A, setA_A, sw_238, sw_239, sw_240, sw_241, sw_242, sw_243, sw_244, sw_245, sw_246, sw_247, sw_248, sw_249, sw_250, sw_251, Int.reduceToNat, Int.toNat_natCast, MO.s0 hm, MO.s1 hm, MO.s2 hm, MO.s3 hm, MO.s4 hm, MO.s5 hm, MO.s6 hm, MO.s7 hm, MO.s8 hm, MO.s9 hm, MO.s10 hm, MO.s11 hm, MO.s12 hm, MO.s13 hm, MO.r1 hm, MO.r2 hm, MO.r3 hm, MO.r4 hm, MO.r5 hm, MO.r6 hm, MO.r7 hm, MO.r8 hm, MO.r9 hm, MO.r10 hm, MO.r11 hm, MO.r12 hm, MO.r13 hm, hs, hr, e1, ho, e3]
    · rw [if_neg q]
      have e3 := ih (i + 1) (by omega) (by omega)
      rw [← e3]
      simp (disch := omega) only [p251_0, p251_1, p251_3, p251_4, p251_7, p251_8, p251_11, p251_12, p251_13, p251_16, p251_17, p251_20, p251_21, p251_22, p251_23, p251_26, p251_29, p251_30i, p251_30a, p251_31, p251_34, p251_35, p251_38, p251_39, p251_40, p251_41, p251_42, p251_45, p251_46, p251_49, p251_50, p251_51, p251_52, p251_55, p251_56, p251_57, p251_58, p251_59, p251_62, p251_65, p251_66, jwd_c, jwd_0, Nat.reduceLeDiff, Nat.reduceEqDiff, Nat.reduceAdd, Nat.reduceSub, Nat.reduceMul, Int.reduceAdd, Int.reduceSub, Int.reduceMul, Int.reduceNeg, Int.reduceEq, Int.reduceLT, Int.reduceLE, jq_ldi_i, jq_ldl_l, jq_lda_a, jq_inc_i, jq_gs_t, jq_gsb_t, jq_gb_t, jq_gr_2, jq_gr_4, jq_gw_2, jq_s_t, jq_b_t, jg_c, jg_n, js_c, js_n, jrm_c, jrm_n, j2_i, j2_l, j2_a, jq_c_i, jq_c_l, jq_c_0, jq_c_n, jwd_le, jw_c0, mS_I, mS_R, mS_J, mN_I, mN_R, mN_J, mR_I, mI_R, mJ_I, mJ_R, mI_J, mR_J, ↓reduceIte, decide_true, or_true, true_or, and_self, false_or, or_false, reduceCtorEq, Bool.false_eq_true, and_false, false_and, eq_self, true_and, and_true, zero_ne, ↓br_lt_t, ↓br_lt_f, ↓br_eq_t, ↓br_eq_f, ↓br_lz_t, ↓br_lz_f, ↓br_ez_t, ↓br_ez_f, ↓br_gz_t, ↓br_gz_f, jw_id, jin_t, jix_t, Int.reduceToNat, hs, hr, e1]
theorem m_tears (hm : MO w) (ha : a = 241 ∨ a = 242) (hs : mS w a = (2, 0, 298)) (hr : mI w a = r) (ra : RA H B r) (rb : RB r) {o : Int} (ho : mI w 238 31 = o) : rn 251 (0, [(0, jvr 238), (1, jvr a)], [], w) = if gTi r < r 289 then some (some (.inl (r (204 + gTi r).toNat)), setA (setA w 238 (up1 (mI w 238) 31 (o + (r 289 - gTi r)))) a (up1 r 289 (gTi r))) else some (some (.inl (-1)), w) := by
  have h16 := ra.1
  have e := tear_loop hm ha hs hr ra rb ho (r 289 - 1).toNat 1 (by omega) (by omega)
  unfold gTi
  rw [← e]
  simp (disch := omega) only [p251_0, p251_1, p251_3, p251_4, p251_7, p251_8, p251_11, p251_12, p251_13, p251_16, p251_17, p251_20, p251_21, p251_22, p251_23, p251_26, p251_29, p251_30i, p251_30a, p251_31, p251_34, p251_35, p251_38, p251_39, p251_40, p251_41, p251_42, p251_45, p251_46, p251_49, p251_50, p251_51, p251_52, p251_55, p251_56, p251_57, p251_58, p251_59, p251_62, p251_65, p251_66, jwd_c, jwd_0, Nat.reduceLeDiff, Nat.reduceEqDiff, Nat.reduceAdd, Nat.reduceSub, Nat.reduceMul, Int.reduceAdd, Int.reduceSub, Int.reduceMul, Int.reduceNeg, Int.reduceEq, Int.reduceLT, Int.reduceLE, jq_ldi_i, jq_ldl_l, jq_lda_a, jq_inc_i, jq_gs_t, jq_gsb_t, jq_gb_t, jq_gr_2, jq_gr_4, jq_gw_2, jq_s_t, jq_b_t, jg_c, jg_n, js_c, js_n, jrm_c, jrm_n, j2_i, j2_l, j2_a, jq_c_i, jq_c_l, jq_c_0, jq_c_n, jwd_le, jw_c0, mS_I, mS_R, mS_J, mN_I, mN_R, mN_J, mR_I, mI_R, mJ_I, mJ_R, mI_J, mR_J, ↓reduceIte, decide_true, or_true, true_or, and_self, false_or, or_false, reduceCtorEq, Bool.false_eq_true, and_false, false_and, eq_self, true_and, and_true, zero_ne]
theorem cut_ok (ra : RA H B r) (rb : RB r) (rw0 : RW H r) (rp : RP r) {i : Int} (i1 : 1 ≤ i) (i2 : i ≤ r 289) : RA H B (up1 r 289 i) ∧ RB (up1 r 289 i) ∧ RW H (up1 r 289 i) ∧ RP (up1 r 289 i) := by
  have h16 := ra.1
  have g9 : up1 r 289 i 289 = i := up1_s _ _ _
  have g : ∀ n, n ≠ 289 → up1 r 289 i n = r n := fun n hn => up1_n hn
  refine ⟨?_, fun j j1 j2 => ?_, RW_c (fun k k1 => g _ (by omega)) (g _ (by omega)) ra rw0, ?_, fun j j1 j2 => ?_⟩
  · unfold RA at ra ⊢
    rw [g9, g 288 (by omega), g 290 (by omega), g 284 (by omega), g 285 (by omega), g 286 (by omega), g 287 (by omega), g 291 (by omega), g 292 (by omega), g 293 (by omega), g 294 (by omega), g 295 (by omega), g 296 (by omega), g 297 (by omega)]
    omega
  · rw [g9] at j2
    have := rb j j1 (by omega)
    rw [g 288 (by omega), g 290 (by omega), g _ (by omega), g _ (by omega), g _ (by omega), g _ (by omega), g _ (by omega)]
    exact this
  · rw [g 220 (by omega), g 288 (by omega)]
    exact rp.1
  · rw [g9] at j2
    rw [g _ (by omega), g _ (by omega)]
    exact rp.2 j j1 (by omega)
theorem au_ok (hk : HOK H) : ∀ (n : Nat) (r : Nat → Int), RA H B r → RB r → RW H r → RP r → (n : Int) < r 289 → RA H B (gAu H n r) ∧ RB (gAu H n r) ∧ RW H (gAu H n r) ∧ RP (gAu H n r) := by
  intro n
  induction n with
  | zero => intro r ra rb rw0 rp hn; exact ⟨ra, rb, rw0, rp⟩
  | succ n ih =>
    intro r ra rb rw0 rp hn
    have e : gAu H (n + 1) r = gAu H n (if r (236 + ((n + 1 : Nat) : Int)).toNat = 1 ∧ H 17 (gCell r ((n + 1 : Nat) : Int)).toNat = 1 then gOut r ((n + 1 : Nat) : Int) else r) := rfl
    rw [e]
    split
    · obtain ⟨o1, o2, o3, o4⟩ := out_ok ra rb rw0 rp (i := ((n + 1 : Nat) : Int)) (by omega) hn
      exact ih _ o1 o2 o3 o4 (by rw [gOut_289]; omega)
    · exact ih _ ra rb rw0 rp (by omega)
theorem au_loop (hm : MO w) (hh : MH w h H) (h3 : mR w 238 3 = some h) (ha : a = 241 ∨ a = 242) (hs : mS w a = (2, 0, 298)) (hk : HOK H) : ∀ (n : Nat) (r : Nat → Int), RA H B r → RB r → RW H r → RP r → (n : Int) < r 289 → rn 252 (8, [(0, jvr 238), (1, jvr a), (2, .inl n)], [], setA w a r) = some (none, setA w a (gAu H n r)) := by
  have kc := hk.1.2.2.2.2.2.2
  intro n
  induction n with
  | zero =>
    intro r ra rb rw0 rp hn
    have e : gAu H 0 r = r := rfl
    rw [e, p252_8]
    simp (disch := omega) only [p252_0, p252_1, p252_4, p252_5, p252_6, p252_7, p252_9, p252_12, p252_13, p252_16, p252_17, p252_18, p252_19, p252_20, p252_23, p252_24, p252_27, p252_30, p252_31, p252_32, p252_35, p252_36, p252_37, p252_40, p252_41, p252_42, p252_45, p252_48, p252_51, jwd_c, jwd_0, Nat.reduceLeDiff, Nat.reduceEqDiff, Nat.reduceAdd, Nat.reduceSub, Nat.reduceMul, Int.reduceAdd, Int.reduceSub, Int.reduceMul, Int.reduceNeg, Int.reduceEq, Int.reduceLT, Int.reduceLE, jq_ldi_i, jq_ldl_l, jq_lda_a, jq_inc_i, jq_gs_t, jq_gsb_t, jq_gb_t, jq_gr_2, jq_gr_4, jq_gw_2, jq_s_t, jq_b_t, jg_c, jg_n, js_c, js_n, jrm_c, jrm_n, j2_i, j2_l, j2_a, jq_c_i, jq_c_l, jq_c_0, jq_c_n, jwd_le, jw_c0, mS_I, mS_R, mS_J, mN_I, mN_R, mN_J, mR_I, mI_R, mJ_I, mJ_R, mI_J, mR_J, ↓reduceIte, decide_true, or_true, true_or, and_self, false_or, or_false, reduceCtorEq, Bool.false_eq_true, and_false, false_and, eq_self, true_and, and_true, zero_ne, ↓br_lt_t, ↓br_lt_f, ↓br_eq_t, ↓br_eq_f, ↓br_lz_t, ↓br_lz_f, ↓br_ez_t, ↓br_ez_f, ↓br_gz_t, ↓br_gz_f, jw_id, jin_t, jix_t, Int.natCast_zero, Int.ofNat_zero, Int.cast_ofNat_Int]
  | succ n ih =>
    intro r ra rb rw0 rp hn
    have h16 := ra.1
    have hge := hh.ge
    have e : gAu H (n + 1) r = gAu H n (if r (236 + ((n + 1 : Nat) : Int)).toNat = 1 ∧ H 17 (gCell r ((n + 1 : Nat) : Int)).toNat = 1 then gOut r ((n + 1 : Nat) : Int) else r) := rfl
    rw [e, p252_8]
    have e9 : ((n + 1 : Nat) : Int) + -1 = (n : Int) := by omega
    have f1 : 0 ≤ ((n + 1 : Nat) : Int) := by omega
    have f2 : 1 ≤ ((n + 1 : Nat) : Int) := by omega
    generalize hi : ((n + 1 : Nat) : Int) = i at *
    have b1 := rb i (by omega) hn
    have c1 := RC rb rw0 (i := i) (by omega) hn
    have e1 := m_cell (w := setA w a r) (a := a) (i := i) hs (mI_A _ _ _) (by omega) (by omega) b1.2.1.1 (by omega)
    have c2 := hk.2.2.2.1 (gCell r i) c1.1 c1.2.1
    by_cases q1 : r (236 + i).toNat = 1
    · by_cases q2 : H 17 (gCell r i).toNat = 1
      · rw [if_pos ⟨q1, q2⟩]
        obtain ⟨o1, o2, o3, o4⟩ := out_ok ra rb rw0 rp (i := i) (by omega) hn
        have e2 := ih _ o1 o2 o3 o4 (by rw [gOut_289]; omega)
        have e3 := m_outs (w := setA w a r) (a := a) (i := i) hs (mI_A _ _ _) (by omega) hn (by omega)
        simp (disch := omega) only [p252_0, p252_1, p252_4, p252_5, p252_6, p252_7, p252_9, p252_12, p252_13, p252_16, p252_17, p252_18, p252_19, p252_20, p252_23, p252_24, p252_27, p252_30, p252_31, p252_32, p252_35, p252_36, p252_37, p252_40, p252_41, p252_42, p252_45, p252_48, p252_51, jwd_c, jwd_0, Nat.reduceLeDiff, Nat.reduceEqDiff, Nat.reduceAdd, Nat.reduceSub, Nat.reduceMul, Int.reduceAdd, Int.reduceSub, Int.reduceMul, Int.reduceNeg, Int.reduceEq, Int.reduceLT, Int.reduceLE, jq_ldi_i, jq_ldl_l, jq_lda_a, jq_inc_i, jq_gs_t, jq_gsb_t, jq_gb_t, jq_gr_2, jq_gr_4, jq_gw_2, jq_s_t, jq_b_t, jg_c, jg_n, js_c, js_n, jrm_c, jrm_n, j2_i, j2_l, j2_a, jq_c_i, jq_c_l, jq_c_0, jq_c_n, jwd_le, jw_c0, mS_I, mS_R, mS_J, mN_I, mN_R, mN_J, mR_I, mI_R, mJ_I, mJ_R, mI_J, mR_J, ↓reduceIte, decide_true, or_true, true_or, and_self, false_or, or_false, reduceCtorEq, Bool.false_eq_true, and_false, false_and, eq_self, true_and, and_true, zero_ne, ↓br_lt_t, ↓br_lt_f, ↓br_eq_t, ↓br_eq_f, ↓br_lz_t, ↓br_lz_f, ↓br_ez_t, ↓br_ez_f, ↓br_gz_t, ↓br_gz_f, jw_id, jin_t, jix_t, mI_A, mI_nA, up1_s, up1_n, mS_A, mR_A, mJ_A, mN_A, setI_A, setA_A, sw_238, sw_239, sw_240, sw_241, sw_242, sw_243, sw_244, sw_245, sw_246, sw_247, sw_248, sw_249, sw_250, sw_251, Int.reduceToNat, Int.toNat_natCast, MO.s0 hm, MO.s1 hm, MO.s2 hm, MO.s3 hm, MO.s4 hm, MO.s5 hm, MO.s6 hm, MO.s7 hm, MO.s8 hm, MO.s9 hm, MO.s10 hm, MO.s11 hm, MO.s12 hm, MO.s13 hm, MO.r1 hm, MO.r2 hm, MO.r3 hm, MO.r4 hm, MO.r5 hm, MO.r6 hm, MO.r7 hm, MO.r8 hm, MO.r9 hm, MO.r10 hm, MO.r11 hm, MO.r12 hm, MO.r13 hm, MH.s hh, MH.r1 hh, MH.s1 hh, MH.a1 hh, h3, hs, e1, q1, q2, e3, e9, e2]
      · rw [if_neg (fun z => q2 z.2)]
        have e2 := ih _ ra rb rw0 rp (by omega)
        simp (disch := omega) only [p252_0, p252_1, p252_4, p252_5, p252_6, p252_7, p252_9, p252_12, p252_13, p252_16, p252_17, p252_18, p252_19, p252_20, p252_23, p252_24, p252_27, p252_30, p252_31, p252_32, p252_35, p252_36, p252_37, p252_40, p252_41, p252_42, p252_45, p252_48, p252_51, jwd_c, jwd_0, Nat.reduceLeDiff, Nat.reduceEqDiff, Nat.reduceAdd, Nat.reduceSub, Nat.reduceMul, Int.reduceAdd, Int.reduceSub, Int.reduceMul, Int.reduceNeg, Int.reduceEq, Int.reduceLT, Int.reduceLE, jq_ldi_i, jq_ldl_l, jq_lda_a, jq_inc_i, jq_gs_t, jq_gsb_t, jq_gb_t, jq_gr_2, jq_gr_4, jq_gw_2, jq_s_t, jq_b_t, jg_c, jg_n, js_c, js_n, jrm_c, jrm_n, j2_i, j2_l, j2_a, jq_c_i, jq_c_l, jq_c_0, jq_c_n, jwd_le, jw_c0, mS_I, mS_R, mS_J, mN_I, mN_R, mN_J, mR_I, mI_R, mJ_I, mJ_R, mI_J, mR_J, ↓reduceIte, decide_true, or_true, true_or, and_self, false_or, or_false, reduceCtorEq, Bool.false_eq_true, and_false, false_and, eq_self, true_and, and_true, zero_ne, ↓br_lt_t, ↓br_lt_f, ↓br_eq_t, ↓br_eq_f, ↓br_lz_t, ↓br_lz_f, ↓br_ez_t, ↓br_ez_f, ↓br_gz_t, ↓br_gz_f, jw_id, jin_t, jix_t, mI_A, mI_nA, up1_s, up1_n, mS_A, mR_A, mJ_A, mN_A, setI_A, setA_A, sw_238, sw_239, sw_240, sw_241, sw_242, sw_243, sw_244, sw_245, sw_246, sw_247, sw_248, sw_249, sw_250, sw_251, Int.reduceToNat, Int.toNat_natCast, MO.s0 hm, MO.s1 hm, MO.s2 hm, MO.s3 hm, MO.s4 hm, MO.s5 hm, MO.s6 hm, MO.s7 hm, MO.s8 hm, MO.s9 hm, MO.s10 hm, MO.s11 hm, MO.s12 hm, MO.s13 hm, MO.r1 hm, MO.r2 hm, MO.r3 hm, MO.r4 hm, MO.r5 hm, MO.r6 hm, MO.r7 hm, MO.r8 hm, MO.r9 hm, MO.r10 hm, MO.r11 hm, MO.r12 hm, MO.r13 hm, MH.s hh, MH.r1 hh, MH.s1 hh, MH.a1 hh, h3, hs, e1, q1, e9, e2]
    · rw [if_neg (fun z => q1 z.1)]
      have e2 := ih _ ra rb rw0 rp (by omega)
      simp (disch := omega) only [p252_0, p252_1, p252_4, p252_5, p252_6, p252_7, p252_9, p252_12, p252_13, p252_16, p252_17, p252_18, p252_19, p252_20, p252_23, p252_24, p252_27, p252_30, p252_31, p252_32, p252_35, p252_36, p252_37, p252_40, p252_41, p252_42, p252_45, p252_48, p252_51, jwd_c, jwd_0, Nat.reduceLeDiff, Nat.reduceEqDiff, Nat.reduceAdd, Nat.reduceSub, Nat.reduceMul, Int.reduceAdd, Int.reduceSub, Int.reduceMul, Int.reduceNeg, Int.reduceEq, Int.reduceLT, Int.reduceLE, jq_ldi_i, jq_ldl_l, jq_lda_a, jq_inc_i, jq_gs_t, jq_gsb_t, jq_gb_t, jq_gr_2, jq_gr_4, jq_gw_2, jq_s_t, jq_b_t, jg_c, jg_n, js_c, js_n, jrm_c, jrm_n, j2_i, j2_l, j2_a, jq_c_i, jq_c_l, jq_c_0, jq_c_n, jwd_le, jw_c0, mS_I, mS_R, mS_J, mN_I, mN_R, mN_J, mR_I, mI_R, mJ_I, mJ_R, mI_J, mR_J, ↓reduceIte, decide_true, or_true, true_or, and_self, false_or, or_false, reduceCtorEq, Bool.false_eq_true, and_false, false_and, eq_self, true_and, and_true, zero_ne, ↓br_lt_t, ↓br_lt_f, ↓br_eq_t, ↓br_eq_f, ↓br_lz_t, ↓br_lz_f, ↓br_ez_t, ↓br_ez_f, ↓br_gz_t, ↓br_gz_f, jw_id, jin_t, jix_t, mI_A, mI_nA, up1_s, up1_n, mS_A, mR_A, mJ_A, mN_A, setI_A, setA_A, sw_238, sw_239, sw_240, sw_241, sw_242, sw_243, sw_244, sw_245, sw_246, sw_247, sw_248, sw_249, sw_250, sw_251, Int.reduceToNat, Int.toNat_natCast, MO.s0 hm, MO.s1 hm, MO.s2 hm, MO.s3 hm, MO.s4 hm, MO.s5 hm, MO.s6 hm, MO.s7 hm, MO.s8 hm, MO.s9 hm, MO.s10 hm, MO.s11 hm, MO.s12 hm, MO.s13 hm, MO.r1 hm, MO.r2 hm, MO.r3 hm, MO.r4 hm, MO.r5 hm, MO.r6 hm, MO.r7 hm, MO.r8 hm, MO.r9 hm, MO.r10 hm, MO.r11 hm, MO.r12 hm, MO.r13 hm, hs, e9, e2]
theorem m_au (hm : MO w) (hh : MH w h H) (h3 : mR w 238 3 = some h) (ha : a = 241 ∨ a = 242) (hs : mS w a = (2, 0, 298)) (hr : mI w a = r) (hk : HOK H) (ra : RA H B r) (rb : RB r) (rw0 : RW H r) (rp : RP r) : rn 252 (0, [(0, jvr 238), (1, jvr a)], [], w) = some (none, setA w a (gAu H (r 289 - 1).toNat r)) := by
  have h16 := ra.1
  have e := au_loop hm hh h3 ha hs hk (r 289 - 1).toNat r ra rb rw0 rp (by omega)
  have e0 : setA w a r = w := by rw [← hr]; exact setA_self w a
  rw [e0, show (((r 289 - 1).toNat : Nat) : Int) = r 289 - 1 by omega] at e
  simp (disch := omega) only [p252_0, p252_1, p252_4, p252_5, p252_6, p252_7, p252_9, p252_12, p252_13, p252_16, p252_17, p252_18, p252_19, p252_20, p252_23, p252_24, p252_27, p252_30, p252_31, p252_32, p252_35, p252_36, p252_37, p252_40, p252_41, p252_42, p252_45, p252_48, p252_51, jwd_c, jwd_0, Nat.reduceLeDiff, Nat.reduceEqDiff, Nat.reduceAdd, Nat.reduceSub, Nat.reduceMul, Int.reduceAdd, Int.reduceSub, Int.reduceMul, Int.reduceNeg, Int.reduceEq, Int.reduceLT, Int.reduceLE, jq_ldi_i, jq_ldl_l, jq_lda_a, jq_inc_i, jq_gs_t, jq_gsb_t, jq_gb_t, jq_gr_2, jq_gr_4, jq_gw_2, jq_s_t, jq_b_t, jg_c, jg_n, js_c, js_n, jrm_c, jrm_n, j2_i, j2_l, j2_a, jq_c_i, jq_c_l, jq_c_0, jq_c_n, jwd_le, jw_c0, mS_I, mS_R, mS_J, mN_I, mN_R, mN_J, mR_I, mI_R, mJ_I, mJ_R, mI_J, mR_J, ↓reduceIte, decide_true, or_true, true_or, and_self, false_or, or_false, reduceCtorEq, Bool.false_eq_true, and_false, false_and, eq_self, true_and, and_true, zero_ne, ↓br_lt_t, ↓br_lt_f, ↓br_eq_t, ↓br_eq_f, ↓br_lz_t, ↓br_lz_f, ↓br_ez_t, ↓br_ez_f, ↓br_gz_t, ↓br_gz_f, jw_id, jin_t, jix_t, Int.reduceToNat, hs, hr, e]
end LEAVE
