/-! The reader: what a text holds, token by token; the class. -/
def gSo (b : Int) : Int := if 97 ≤ b ∧ b ≤ 122 then 1 else if 48 ≤ b ∧ b ≤ 57 then 2 else if b = 59 then 3 else if b = 44 then 4 else 0
def gSk (T : Nat → Int) : Nat → Nat → Nat
  | 0, p => p
  | m + 1, p => if T p = 32 then gSk T m (p + 1) else p
def gEd (T : Nat → Int) (c : Int) : Nat → Nat → Nat
  | 0, p => p
  | m + 1, p => if gSo (T p) = c then gEd T c m (p + 1) else p
def gNu (T : Nat → Int) (s : Nat) : Nat → Int
  | 0 => 0
  | m + 1 => gNu T s m * 10 + T (s + m) - 48
def gCw (f : Nat → Int) : Nat → Int
  | 0 => 0
  | m + 1 => 32 * gCw f m + (f m - 97 + 1)
section TOKD
variable (T : Nat → Int) (n : Nat)
/-- where a token begins, what it is, where it ends; its number; its word -/
def tS (p : Nat) : Nat := gSk T (n - p) p
def tE (p : Nat) : Nat := if n ≤ tS T n p then n else if gSo (T (tS T n p)) = 1 ∨ gSo (T (tS T n p)) = 2 then gEd T (gSo (T (tS T n p))) (n - tS T n p) (tS T n p) else tS T n p + 1
def tK (p : Nat) : Int := if n ≤ tS T n p then 5 else if gSo (T (tS T n p)) = 1 then (if tE T n p - tS T n p ≤ 8 then 1 else 0) else if gSo (T (tS T n p)) = 2 then (if tE T n p - tS T n p ≤ 3 then 2 else 0) else gSo (T (tS T n p))
def tN (p : Nat) : Int := gNu T (tS T n p) (tE T n p - tS T n p)
def tW (p : Nat) : Int := gCw (fun k => T (tS T n p + k)) (tE T n p - tS T n p)
end TOKD
/-- the Reader's cell, the tape -/
def RC' (w : jmW) (n cnt : Nat) (T : Nat → Int) : Prop := mS w 101 = (1, 3, 0) ∧ mR w 101 0 = some 65 ∧ mR w 101 1 = some 67 ∧ mR w 101 2 = some 102 ∧ mI w 101 3 = n ∧ Sg w 65 1 900 cnt (fun i _ => T i) ∧ n ≤ cnt ∧ ∀ i, i < cnt → 0 ≤ T i ∧ T i ≤ 255
/-- the token from p on is the one that is there -/
def tC0 (w : jmW) (T : Nat → Int) (n p : Nat) : Prop := p ≤ n ∧ mI w 101 4 = tK T n p ∧ mI w 101 5 = tS T n p ∧ mI w 101 6 = tE T n p ∧ (tK T n p = 2 → mI w 101 7 = tN T n p)
/-- and no fault yet -/
def tC (w : jmW) (T : Nat → Int) (n p : Nat) : Prop := p ≤ n ∧ mI w 101 4 = tK T n p ∧ mI w 101 5 = tS T n p ∧ mI w 101 6 = tE T n p ∧ ((tK T n p = 2 → mI w 101 7 = tN T n p) ∧ mI w 101 10 = 0 ∧ mI w 101 11 = 0)
section TOK
variable {w u : jmW} {T : Nat → Int} {n cnt : Nat}
theorem so_bd (b : Int) : 0 ≤ gSo b ∧ gSo b ≤ 4 := by
  unfold gSo
  (repeat' split) <;> omega
theorem sk_bd : ∀ (m p : Nat), p ≤ gSk T m p ∧ gSk T m p ≤ p + m := by
  intro m
  induction m with
  | zero =>
    intro p
    exact ⟨Nat.le_refl _, Nat.le_refl _⟩
  | succ m ih =>
    intro p
    have e : gSk T (m + 1) p = if T p = 32 then gSk T m (p + 1) else p := rfl
    have := ih (p + 1)
    rw [e]
    split <;> omega
theorem ed_bd {c : Int} : ∀ (m p : Nat), p ≤ gEd T c m p ∧ gEd T c m p ≤ p + m := by
  intro m
  induction m with
  | zero =>
    intro p
    exact ⟨Nat.le_refl _, Nat.le_refl _⟩
  | succ m ih =>
    intro p
    have e : gEd T c (m + 1) p = if gSo (T p) = c then gEd T c m (p + 1) else p := rfl
    have := ih (p + 1)
    rw [e]
    split <;> omega
theorem ed_all {c : Int} : ∀ (m p k : Nat), p ≤ k → k < gEd T c m p → gSo (T k) = c := by
  intro m
  induction m with
  | zero =>
    intro p k h1 h2
    have e : gEd T c 0 p = p := rfl
    omega
  | succ m ih =>
    intro p k h1 h2
    have e : gEd T c (m + 1) p = if gSo (T p) = c then gEd T c m (p + 1) else p := rfl
    rw [e] at h2
    by_cases z : gSo (T p) = c
    · rw [if_pos z] at h2
      by_cases y : k = p
      · rw [y]
        exact z
      · exact ih (p + 1) k (by omega) h2
    · rw [if_neg z] at h2
      omega
theorem ts_bd {p : Nat} (hp : p ≤ n) : p ≤ tS T n p ∧ tS T n p ≤ n := by
  have := sk_bd (T := T) (n - p) p
  unfold tS
  omega
theorem tke_bd {p : Nat} (hp : p ≤ n) : tS T n p ≤ tE T n p ∧ tE T n p ≤ n ∧ (tK T n p ≠ 5 → tS T n p < tE T n p) := by
  have a := ts_bd (T := T) hp
  have b := ed_bd (T := T) (c := gSo (T (tS T n p))) (n - tS T n p) (tS T n p)
  unfold tE tK
  by_cases z : n ≤ tS T n p
  · rw [if_pos z, if_pos z]
    omega
  · rw [if_neg z, if_neg z]
    obtain ⟨k, hk⟩ : ∃ k, n - tS T n p = k + 1 := ⟨n - tS T n p - 1, by omega⟩
    have e1 : gEd T (gSo (T (tS T n p))) (n - tS T n p) (tS T n p) = gEd T (gSo (T (tS T n p))) k (tS T n p + 1) := by
      rw [hk]
      exact if_pos rfl
    have b2 := ed_bd (T := T) (c := gSo (T (tS T n p))) k (tS T n p + 1)
    by_cases y : gSo (T (tS T n p)) = 1 ∨ gSo (T (tS T n p)) = 2
    · rw [if_pos y]
      omega
    · rw [if_neg y]
      omega
theorem nu_bd {s : Nat} (h : ∀ k, k < 3 → 0 ≤ T (s + k) ∧ T (s + k) ≤ 255) : (∀ m, m ≤ 3 → -100000 ≤ gNu T s m ∧ gNu T s m ≤ 100000) := by
  intro m hm
  have a := h 0 (by omega)
  have b := h 1 (by omega)
  have c := h 2 (by omega)
  have e0 : gNu T s 0 = 0 := rfl
  have e1 : gNu T s 1 = gNu T s 0 * 10 + T (s + 0) - 48 := rfl
  have e2 : gNu T s 2 = gNu T s 1 * 10 + T (s + 1) - 48 := rfl
  have e3 : gNu T s 3 = gNu T s 2 * 10 + T (s + 2) - 48 := rfl
  have : m = 0 ∨ m = 1 ∨ m = 2 ∨ m = 3 := by omega
  rcases this with rfl | rfl | rfl | rfl <;> omega
theorem c_sortOf {a : Nat} {b : Int} (b1 : 0 ≤ b) (b2 : b ≤ 255) : rn 24 (0, [(0, jvr a), (1, .inl b)], [], w) = some (some (.inl (gSo b)), w) := by
  unfold gSo
  by_cases q1 : 97 ≤ b
  · by_cases q2 : b ≤ 122
    · rw [if_pos ⟨q1, q2⟩]
      simp (disch := omega) only [p24_0, p24_1, p24_3, p24_6, p24_7, p24_9, p24_12, p24_13, p24_14, p24_15, p24_17, p24_20, p24_21, p24_23, p24_26, p24_27, p24_28, p24_29, p24_31, p24_34, p24_35, p24_38, p24_39, p24_41, p24_44, p24_45, p24_48, p24_49, jwd_c, jwd_0, Nat.reduceLeDiff, Nat.reduceEqDiff, Nat.reduceAdd, Nat.reduceSub, Nat.reduceMul, Int.reduceAdd, Int.reduceSub, Int.reduceMul, Int.reduceNeg, Int.reduceEq, Int.reduceLT, Int.reduceLE, jq_ldi_i, jq_ldl_l, jq_lda_a, jq_inc_i, jq_gs_t, jq_gsb_t, jq_gb_t, jq_gr_2, jq_gr_4, jq_gw_2, jq_s_t, jq_b_t, jg_c, jg_n, js_c, js_n, jrm_c, jrm_n, j2_i, j2_l, j2_a, jq_c_i, jq_c_l, jq_c_0, jq_c_n, jwd_le, jw_c0, mS_I, mS_R, mS_J, mN_I, mN_R, mN_J, mR_I, mI_R, mJ_I, mJ_R, mI_J, mR_J, ↓reduceIte, decide_true, or_true, true_or, and_self, false_or, or_false, reduceCtorEq, Bool.false_eq_true, and_false, false_and, eq_self, true_and, and_true, zero_ne, ↓br_lt_t, ↓br_lt_f, ↓br_eq_t, ↓br_eq_f, ↓br_lz_t, ↓br_lz_f, ↓br_ez_t, ↓br_ez_f, ↓br_gz_t, ↓br_gz_f, jw_id, jin_t, jix_t, ↓ite_t, ↓ite_f]
    · rw [if_neg (fun z => q2 z.2), if_neg (by omega), if_neg (by omega), if_neg (by omega)]
      simp (disch := omega) only [p24_0, p24_1, p24_3, p24_6, p24_7, p24_9, p24_12, p24_13, p24_14, p24_15, p24_17, p24_20, p24_21, p24_23, p24_26, p24_27, p24_28, p24_29, p24_31, p24_34, p24_35, p24_38, p24_39, p24_41, p24_44, p24_45, p24_48, p24_49, jwd_c, jwd_0, Nat.reduceLeDiff, Nat.reduceEqDiff, Nat.reduceAdd, Nat.reduceSub, Nat.reduceMul, Int.reduceAdd, Int.reduceSub, Int.reduceMul, Int.reduceNeg, Int.reduceEq, Int.reduceLT, Int.reduceLE, jq_ldi_i, jq_ldl_l, jq_lda_a, jq_inc_i, jq_gs_t, jq_gsb_t, jq_gb_t, jq_gr_2, jq_gr_4, jq_gw_2, jq_s_t, jq_b_t, jg_c, jg_n, js_c, js_n, jrm_c, jrm_n, j2_i, j2_l, j2_a, jq_c_i, jq_c_l, jq_c_0, jq_c_n, jwd_le, jw_c0, mS_I, mS_R, mS_J, mN_I, mN_R, mN_J, mR_I, mI_R, mJ_I, mJ_R, mI_J, mR_J, ↓reduceIte, decide_true, or_true, true_or, and_self, false_or, or_false, reduceCtorEq, Bool.false_eq_true, and_false, false_and, eq_self, true_and, and_true, zero_ne, ↓br_lt_t, ↓br_lt_f, ↓br_eq_t, ↓br_eq_f, ↓br_lz_t, ↓br_lz_f, ↓br_ez_t, ↓br_ez_f, ↓br_gz_t, ↓br_gz_f, jw_id, jin_t, jix_t, ↓ite_t, ↓ite_f]
  · rw [if_neg (fun z => q1 z.1)]
    by_cases q3 : 48 ≤ b ∧ b ≤ 57
    · rw [if_pos q3]
      simp (disch := omega) only [p24_0, p24_1, p24_3, p24_6, p24_7, p24_9, p24_12, p24_13, p24_14, p24_15, p24_17, p24_20, p24_21, p24_23, p24_26, p24_27, p24_28, p24_29, p24_31, p24_34, p24_35, p24_38, p24_39, p24_41, p24_44, p24_45, p24_48, p24_49, jwd_c, jwd_0, Nat.reduceLeDiff, Nat.reduceEqDiff, Nat.reduceAdd, Nat.reduceSub, Nat.reduceMul, Int.reduceAdd, Int.reduceSub, Int.reduceMul, Int.reduceNeg, Int.reduceEq, Int.reduceLT, Int.reduceLE, jq_ldi_i, jq_ldl_l, jq_lda_a, jq_inc_i, jq_gs_t, jq_gsb_t, jq_gb_t, jq_gr_2, jq_gr_4, jq_gw_2, jq_s_t, jq_b_t, jg_c, jg_n, js_c, js_n, jrm_c, jrm_n, j2_i, j2_l, j2_a, jq_c_i, jq_c_l, jq_c_0, jq_c_n, jwd_le, jw_c0, mS_I, mS_R, mS_J, mN_I, mN_R, mN_J, mR_I, mI_R, mJ_I, mJ_R, mI_J, mR_J, ↓reduceIte, decide_true, or_true, true_or, and_self, false_or, or_false, reduceCtorEq, Bool.false_eq_true, and_false, false_and, eq_self, true_and, and_true, zero_ne, ↓br_lt_t, ↓br_lt_f, ↓br_eq_t, ↓br_eq_f, ↓br_lz_t, ↓br_lz_f, ↓br_ez_t, ↓br_ez_f, ↓br_gz_t, ↓br_gz_f, jw_id, jin_t, jix_t, ↓ite_t, ↓ite_f]
    · rw [if_neg q3]
      by_cases q4 : b = 59
      · rw [if_pos q4]
        simp (disch := omega) only [p24_0, p24_1, p24_3, p24_6, p24_7, p24_9, p24_12, p24_13, p24_14, p24_15, p24_17, p24_20, p24_21, p24_23, p24_26, p24_27, p24_28, p24_29, p24_31, p24_34, p24_35, p24_38, p24_39, p24_41, p24_44, p24_45, p24_48, p24_49, jwd_c, jwd_0, Nat.reduceLeDiff, Nat.reduceEqDiff, Nat.reduceAdd, Nat.reduceSub, Nat.reduceMul, Int.reduceAdd, Int.reduceSub, Int.reduceMul, Int.reduceNeg, Int.reduceEq, Int.reduceLT, Int.reduceLE, jq_ldi_i, jq_ldl_l, jq_lda_a, jq_inc_i, jq_gs_t, jq_gsb_t, jq_gb_t, jq_gr_2, jq_gr_4, jq_gw_2, jq_s_t, jq_b_t, jg_c, jg_n, js_c, js_n, jrm_c, jrm_n, j2_i, j2_l, j2_a, jq_c_i, jq_c_l, jq_c_0, jq_c_n, jwd_le, jw_c0, mS_I, mS_R, mS_J, mN_I, mN_R, mN_J, mR_I, mI_R, mJ_I, mJ_R, mI_J, mR_J, ↓reduceIte, decide_true, or_true, true_or, and_self, false_or, or_false, reduceCtorEq, Bool.false_eq_true, and_false, false_and, eq_self, true_and, and_true, zero_ne, ↓br_lt_t, ↓br_lt_f, ↓br_eq_t, ↓br_eq_f, ↓br_lz_t, ↓br_lz_f, ↓br_ez_t, ↓br_ez_f, ↓br_gz_t, ↓br_gz_f, jw_id, jin_t, jix_t, ↓ite_t, ↓ite_f]
      · rw [if_neg q4]
        by_cases q5 : b = 44
        · rw [if_pos q5]
          simp (disch := omega) only [p24_0, p24_1, p24_3, p24_6, p24_7, p24_9, p24_12, p24_13, p24_14, p24_15, p24_17, p24_20, p24_21, p24_23, p24_26, p24_27, p24_28, p24_29, p24_31, p24_34, p24_35, p24_38, p24_39, p24_41, p24_44, p24_45, p24_48, p24_49, jwd_c, jwd_0, Nat.reduceLeDiff, Nat.reduceEqDiff, Nat.reduceAdd, Nat.reduceSub, Nat.reduceMul, Int.reduceAdd, Int.reduceSub, Int.reduceMul, Int.reduceNeg, Int.reduceEq, Int.reduceLT, Int.reduceLE, jq_ldi_i, jq_ldl_l, jq_lda_a, jq_inc_i, jq_gs_t, jq_gsb_t, jq_gb_t, jq_gr_2, jq_gr_4, jq_gw_2, jq_s_t, jq_b_t, jg_c, jg_n, js_c, js_n, jrm_c, jrm_n, j2_i, j2_l, j2_a, jq_c_i, jq_c_l, jq_c_0, jq_c_n, jwd_le, jw_c0, mS_I, mS_R, mS_J, mN_I, mN_R, mN_J, mR_I, mI_R, mJ_I, mJ_R, mI_J, mR_J, ↓reduceIte, decide_true, or_true, true_or, and_self, false_or, or_false, reduceCtorEq, Bool.false_eq_true, and_false, false_and, eq_self, true_and, and_true, zero_ne, ↓br_lt_t, ↓br_lt_f, ↓br_eq_t, ↓br_eq_f, ↓br_lz_t, ↓br_lz_f, ↓br_ez_t, ↓br_ez_f, ↓br_gz_t, ↓br_gz_f, jw_id, jin_t, jix_t, ↓ite_t, ↓ite_f]
        · rw [if_neg q5]
          by_cases q6 : b < 48
          · simp (disch := omega) only [p24_0, p24_1, p24_3, p24_6, p24_7, p24_9, p24_12, p24_13, p24_14, p24_15, p24_17, p24_20, p24_21, p24_23, p24_26, p24_27, p24_28, p24_29, p24_31, p24_34, p24_35, p24_38, p24_39, p24_41, p24_44, p24_45, p24_48, p24_49, jwd_c, jwd_0, Nat.reduceLeDiff, Nat.reduceEqDiff, Nat.reduceAdd, Nat.reduceSub, Nat.reduceMul, Int.reduceAdd, Int.reduceSub, Int.reduceMul, Int.reduceNeg, Int.reduceEq, Int.reduceLT, Int.reduceLE, jq_ldi_i, jq_ldl_l, jq_lda_a, jq_inc_i, jq_gs_t, jq_gsb_t, jq_gb_t, jq_gr_2, jq_gr_4, jq_gw_2, jq_s_t, jq_b_t, jg_c, jg_n, js_c, js_n, jrm_c, jrm_n, j2_i, j2_l, j2_a, jq_c_i, jq_c_l, jq_c_0, jq_c_n, jwd_le, jw_c0, mS_I, mS_R, mS_J, mN_I, mN_R, mN_J, mR_I, mI_R, mJ_I, mJ_R, mI_J, mR_J, ↓reduceIte, decide_true, or_true, true_or, and_self, false_or, or_false, reduceCtorEq, Bool.false_eq_true, and_false, false_and, eq_self, true_and, and_true, zero_ne, ↓br_lt_t, ↓br_lt_f, ↓br_eq_t, ↓br_eq_f, ↓br_lz_t, ↓br_lz_f, ↓br_ez_t, ↓br_ez_f, ↓br_gz_t, ↓br_gz_f, jw_id, jin_t, jix_t, ↓ite_t, ↓ite_f]
          · simp (disch := omega) only [p24_0, p24_1, p24_3, p24_6, p24_7, p24_9, p24_12, p24_13, p24_14, p24_15, p24_17, p24_20, p24_21, p24_23, p24_26, p24_27, p24_28, p24_29, p24_31, p24_34, p24_35, p24_38, p24_39, p24_41, p24_44, p24_45, p24_48, p24_49, jwd_c, jwd_0, Nat.reduceLeDiff, Nat.reduceEqDiff, Nat.reduceAdd, Nat.reduceSub, Nat.reduceMul, Int.reduceAdd, Int.reduceSub, Int.reduceMul, Int.reduceNeg, Int.reduceEq, Int.reduceLT, Int.reduceLE, jq_ldi_i, jq_ldl_l, jq_lda_a, jq_inc_i, jq_gs_t, jq_gsb_t, jq_gb_t, jq_gr_2, jq_gr_4, jq_gw_2, jq_s_t, jq_b_t, jg_c, jg_n, js_c, js_n, jrm_c, jrm_n, j2_i, j2_l, j2_a, jq_c_i, jq_c_l, jq_c_0, jq_c_n, jwd_le, jw_c0, mS_I, mS_R, mS_J, mN_I, mN_R, mN_J, mR_I, mI_R, mJ_I, mJ_R, mI_J, mR_J, ↓reduceIte, decide_true, or_true, true_or, and_self, false_or, or_false, reduceCtorEq, Bool.false_eq_true, and_false, false_and, eq_self, true_and, and_true, zero_ne, ↓br_lt_t, ↓br_lt_f, ↓br_eq_t, ↓br_eq_f, ↓br_lz_t, ↓br_lz_f, ↓br_ez_t, ↓br_ez_f, ↓br_gz_t, ↓br_gz_f, jw_id, jin_t, jix_t, ↓ite_t, ↓ite_f]
theorem RC'.set (h : RC' w n cnt T) {k : Nat} {x : Int} (hk : k ≠ 3) : RC' (setI w 101 k x) n cnt T := by
  obtain ⟨h1, h2, h3, h4, h5, h6, h7, h8⟩ := h
  exact ⟨h1, h2, h3, h4, by rw [mI_nk (by omega)]; exact h5, h6.fr (Fr.I (P := fun b => b = 101) rfl) (by omega) (by omega), h7, h8⟩
theorem tp_get (h : RC' w n cnt T) {k : Nat} (hk : k < cnt) : rn 23 (0, [(0, jvr 65), (1, .inl (k : Int)), (2, .inl 0)], [], w) = some (some (.inl (T k)), w) := by
  have e := sg_in h.2.2.2.2.2.1 (l := (k : Int)) (k := 0) (by omega) (by omega) (by omega) (by omega)
  rw [Int.toNat_natCast] at e
  exact e
theorem go1_lp : ∀ (m p : Nat) (w : jmW), RC' w n cnt T → mI w 101 5 = p → p + m = n → rn 22 (8, [(0, jvr 101)], [], w) = rn 22 (49, [(0, jvr 101)], [], setI w 101 5 (gSk T m p)) := by
  intro m
  induction m with
  | zero =>
    intro p w h h5 hp
    obtain ⟨h1, h2, h3, h4, h6, h7, h8, h9⟩ := h
    have hc := h7.2.2.2.2.2.2.1
    have e : gSk T 0 p = p := rfl
    have e2 : setI w 101 5 (p : Int) = w := by
      rw [← h5, setI_A, up1_id rfl, setA_self]
    rw [e, e2, p22_8]
    simp (disch := omega) only [p22_0, p22_1, p22_2, p22_5, p22_9, p22_12, p22_13, p22_16, p22_19, p22_20, p22_23, p22_24, p22_27, p22_28, p22_31, p22_33, p22_36, p22_37i, p22_37a, p22_38, p22_41, p22_42, p22_43, p22_46, p22_50, p22_51, p22_54, p22_55, p22_56, p22_57, p22_60, p22_63, p22_66, p22_67, p22_70, p22_71, p22_74, p22_77, p22_78, p22_79, p22_82, p22_83, p22_84, p22_85, p22_86, p22_89, p22_90, p22_93, p22_94, p22_97, p22_100, p22_103, p22_104, p22_107, p22_108, p22_111, p22_112, p22_115, p22_116, p22_119, p22_120, p22_121, p22_122, p22_125, p22_126, p22_127, p22_130, p22_134, p22_137, p22_138, p22_141, p22_144, p22_145, p22_146, p22_149, p22_150, p22_153, p22_154, p22_157, p22_160, p22_161, p22_164, p22_167, p22_168, p22_169, p22_172, p22_173, p22_176, p22_177, p22_178, p22_181, p22_182, p22_185, p22_187, p22_188, p22_189, p22_192, p22_193, p22_196, p22_197, p22_200, p22_201, p22_203, p22_204, p22_207, p22_208, p22_211, p22_214, p22_215i, p22_215a, p22_216, p22_219, p22_220, p22_221, p22_224, p22_228, p22_231, p22_232, p22_235, p22_236, p22_237, p22_240, p22_241, p22_244, p22_246, p22_249, p22_250, p22_253, p22_254, p22_255, p22_258, jwd_c, jwd_0, Nat.reduceLeDiff, Nat.reduceEqDiff, Nat.reduceAdd, Nat.reduceSub, Nat.reduceMul, Int.reduceAdd, Int.reduceSub, Int.reduceMul, Int.reduceNeg, Int.reduceEq, Int.reduceLT, Int.reduceLE, jq_ldi_i, jq_ldl_l, jq_lda_a, jq_inc_i, jq_gs_t, jq_gsb_t, jq_gb_t, jq_gr_2, jq_gr_4, jq_gw_2, jq_s_t, jq_b_t, jg_c, jg_n, js_c, js_n, jrm_c, jrm_n, j2_i, j2_l, j2_a, jq_c_i, jq_c_l, jq_c_0, jq_c_n, jwd_le, jw_c0, mS_I, mS_R, mS_J, mN_I, mN_R, mN_J, mR_I, mI_R, mJ_I, mJ_R, mI_J, mR_J, ↓reduceIte, decide_true, or_true, true_or, and_self, false_or, or_false, reduceCtorEq, Bool.false_eq_true, and_false, false_and, eq_self, true_and, and_true, zero_ne, ↓br_lt_t, ↓br_lt_f, ↓br_eq_t, ↓br_eq_f, ↓br_lz_t, ↓br_lz_f, ↓br_ez_t, ↓br_ez_f, ↓br_gz_t, ↓br_gz_f, jw_id, jin_t, jix_t, ↓ite_t, ↓ite_f, h1, h5, h6]
  | succ m ih =>
    intro p w h h5 hp
    obtain ⟨h1, h2, h3, h4, h6, h7, h8, h9⟩ := h
    have hc := h7.2.2.2.2.2.2.1
    have h : RC' w n cnt T := ⟨h1, h2, h3, h4, h6, h7, h8, h9⟩
    have e : gSk T (m + 1) p = if T p = 32 then gSk T m (p + 1) else p := rfl
    have e1 := tp_get h (k := p) (by omega)
    have tb := h9 p (by omega)
    have s65 := h7.1
    rw [e]
    by_cases z : T p = 32
    · rw [if_pos z]
      have i := ih (p + 1) (setI w 101 5 ((p : Int) + 1)) (h.set (by omega)) (by rw [mI_s]; omega) (by omega)
      have e2 : setI (setI w 101 5 ((p : Int) + 1)) 101 5 (gSk T m (p + 1)) = setI w 101 5 (gSk T m (p + 1)) := by
        rw [setI_A, setI_A, mI_A, setA_A, up1_up1, setI_A]
      rw [e2] at i
      rw [← i, p22_8]
      simp (disch := omega) only [p22_0, p22_1, p22_2, p22_5, p22_9, p22_12, p22_13, p22_16, p22_19, p22_20, p22_23, p22_24, p22_27, p22_28, p22_31, p22_33, p22_36, p22_37i, p22_37a, p22_38, p22_41, p22_42, p22_43, p22_46, p22_50, p22_51, p22_54, p22_55, p22_56, p22_57, p22_60, p22_63, p22_66, p22_67, p22_70, p22_71, p22_74, p22_77, p22_78, p22_79, p22_82, p22_83, p22_84, p22_85, p22_86, p22_89, p22_90, p22_93, p22_94, p22_97, p22_100, p22_103, p22_104, p22_107, p22_108, p22_111, p22_112, p22_115, p22_116, p22_119, p22_120, p22_121, p22_122, p22_125, p22_126, p22_127, p22_130, p22_134, p22_137, p22_138, p22_141, p22_144, p22_145, p22_146, p22_149, p22_150, p22_153, p22_154, p22_157, p22_160, p22_161, p22_164, p22_167, p22_168, p22_169, p22_172, p22_173, p22_176, p22_177, p22_178, p22_181, p22_182, p22_185, p22_187, p22_188, p22_189, p22_192, p22_193, p22_196, p22_197, p22_200, p22_201, p22_203, p22_204, p22_207, p22_208, p22_211, p22_214, p22_215i, p22_215a, p22_216, p22_219, p22_220, p22_221, p22_224, p22_228, p22_231, p22_232, p22_235, p22_236, p22_237, p22_240, p22_241, p22_244, p22_246, p22_249, p22_250, p22_253, p22_254, p22_255, p22_258, jwd_c, jwd_0, Nat.reduceLeDiff, Nat.reduceEqDiff, Nat.reduceAdd, Nat.reduceSub, Nat.reduceMul, Int.reduceAdd, Int.reduceSub, Int.reduceMul, Int.reduceNeg, Int.reduceEq, Int.reduceLT, Int.reduceLE, jq_ldi_i, jq_ldl_l, jq_lda_a, jq_inc_i, jq_gs_t, jq_gsb_t, jq_gb_t, jq_gr_2, jq_gr_4, jq_gw_2, jq_s_t, jq_b_t, jg_c, jg_n, js_c, js_n, jrm_c, jrm_n, j2_i, j2_l, j2_a, jq_c_i, jq_c_l, jq_c_0, jq_c_n, jwd_le, jw_c0, mS_I, mS_R, mS_J, mN_I, mN_R, mN_J, mR_I, mI_R, mJ_I, mJ_R, mI_J, mR_J, ↓reduceIte, decide_true, or_true, true_or, and_self, false_or, or_false, reduceCtorEq, Bool.false_eq_true, and_false, false_and, eq_self, true_and, and_true, zero_ne, ↓br_lt_t, ↓br_lt_f, ↓br_eq_t, ↓br_eq_f, ↓br_lz_t, ↓br_lz_f, ↓br_ez_t, ↓br_ez_f, ↓br_gz_t, ↓br_gz_f, jw_id, jin_t, jix_t, ↓ite_t, ↓ite_f, h1, h2, h5, h6, s65, e1]
    · rw [if_neg z]
      have e2 : setI w 101 5 (p : Int) = w := by
        rw [← h5, setI_A, up1_id rfl, setA_self]
      rw [e2, p22_8]
      simp (disch := omega) only [p22_0, p22_1, p22_2, p22_5, p22_9, p22_12, p22_13, p22_16, p22_19, p22_20, p22_23, p22_24, p22_27, p22_28, p22_31, p22_33, p22_36, p22_37i, p22_37a, p22_38, p22_41, p22_42, p22_43, p22_46, p22_50, p22_51, p22_54, p22_55, p22_56, p22_57, p22_60, p22_63, p22_66, p22_67, p22_70, p22_71, p22_74, p22_77, p22_78, p22_79, p22_82, p22_83, p22_84, p22_85, p22_86, p22_89, p22_90, p22_93, p22_94, p22_97, p22_100, p22_103, p22_104, p22_107, p22_108, p22_111, p22_112, p22_115, p22_116, p22_119, p22_120, p22_121, p22_122, p22_125, p22_126, p22_127, p22_130, p22_134, p22_137, p22_138, p22_141, p22_144, p22_145, p22_146, p22_149, p22_150, p22_153, p22_154, p22_157, p22_160, p22_161, p22_164, p22_167, p22_168, p22_169, p22_172, p22_173, p22_176, p22_177, p22_178, p22_181, p22_182, p22_185, p22_187, p22_188, p22_189, p22_192, p22_193, p22_196, p22_197, p22_200, p22_201, p22_203, p22_204, p22_207, p22_208, p22_211, p22_214, p22_215i, p22_215a, p22_216, p22_219, p22_220, p22_221, p22_224, p22_228, p22_231, p22_232, p22_235, p22_236, p22_237, p22_240, p22_241, p22_244, p22_246, p22_249, p22_250, p22_253, p22_254, p22_255, p22_258, jwd_c, jwd_0, Nat.reduceLeDiff, Nat.reduceEqDiff, Nat.reduceAdd, Nat.reduceSub, Nat.reduceMul, Int.reduceAdd, Int.reduceSub, Int.reduceMul, Int.reduceNeg, Int.reduceEq, Int.reduceLT, Int.reduceLE, jq_ldi_i, jq_ldl_l, jq_lda_a, jq_inc_i, jq_gs_t, jq_gsb_t, jq_gb_t, jq_gr_2, jq_gr_4, jq_gw_2, jq_s_t, jq_b_t, jg_c, jg_n, js_c, js_n, jrm_c, jrm_n, j2_i, j2_l, j2_a, jq_c_i, jq_c_l, jq_c_0, jq_c_n, jwd_le, jw_c0, mS_I, mS_R, mS_J, mN_I, mN_R, mN_J, mR_I, mI_R, mJ_I, mJ_R, mI_J, mR_J, ↓reduceIte, decide_true, or_true, true_or, and_self, false_or, or_false, reduceCtorEq, Bool.false_eq_true, and_false, false_and, eq_self, true_and, and_true, zero_ne, ↓br_lt_t, ↓br_lt_f, ↓br_eq_t, ↓br_eq_f, ↓br_lz_t, ↓br_lz_f, ↓br_ez_t, ↓br_ez_f, ↓br_gz_t, ↓br_gz_f, jw_id, jin_t, jix_t, ↓ite_t, ↓ite_f, h1, h2, h5, h6, s65, e1]
/-- the Reader's own numbers: where a token ends, and its number -/
def st67 (w : jmW) (e : Nat) (v : Int) : jmW := setI (setI w 101 7 v) 101 6 e
theorem go2_lp {c : Int} (hc12 : c = 1 ∨ c = 2) {s : Nat} : ∀ (m e : Nat) (w : jmW), RC' w n cnt T → mI w 101 4 = c → mI w 101 5 = s → mI w 101 6 = e → mI w 101 7 = gNu T s (min (e - s) 3) → s ≤ e → e + m = n → ∃ u, rn 22 (133, [(0, jvr 101)], [], w) = rn 22 (227, [(0, jvr 101)], [], u) ∧ RC' u n cnt T ∧ (∀ k, k ≠ 6 → k ≠ 7 → mI u 101 k = mI w 101 k) ∧ mI u 101 6 = gEd T c m e ∧ mI u 101 7 = gNu T s (min (gEd T c m e - s) 3) ∧ Fr (fun b => b = 101) w u := by
  intro m
  induction m with
  | zero =>
    intro e w h h4 h5 h6 h7 hs he
    obtain ⟨a1, a2, a3, a4, a5, a6, a7, a8⟩ := h
    have hc := a6.2.2.2.2.2.2.1
    have h : RC' w n cnt T := ⟨a1, a2, a3, a4, a5, a6, a7, a8⟩
    have ee : gEd T c 0 e = e := rfl
    refine ⟨w, ?_, h, fun k k1 k2 => rfl, by rw [ee]; exact h6, by rw [ee]; exact h7, Fr.rf _ _⟩
    rw [p22_133]
    simp (disch := omega) only [p22_0, p22_1, p22_2, p22_5, p22_9, p22_12, p22_13, p22_16, p22_19, p22_20, p22_23, p22_24, p22_27, p22_28, p22_31, p22_33, p22_36, p22_37i, p22_37a, p22_38, p22_41, p22_42, p22_43, p22_46, p22_50, p22_51, p22_54, p22_55, p22_56, p22_57, p22_60, p22_63, p22_66, p22_67, p22_70, p22_71, p22_74, p22_77, p22_78, p22_79, p22_82, p22_83, p22_84, p22_85, p22_86, p22_89, p22_90, p22_93, p22_94, p22_97, p22_100, p22_103, p22_104, p22_107, p22_108, p22_111, p22_112, p22_115, p22_116, p22_119, p22_120, p22_121, p22_122, p22_125, p22_126, p22_127, p22_130, p22_134, p22_137, p22_138, p22_141, p22_144, p22_145, p22_146, p22_149, p22_150, p22_153, p22_154, p22_157, p22_160, p22_161, p22_164, p22_167, p22_168, p22_169, p22_172, p22_173, p22_176, p22_177, p22_178, p22_181, p22_182, p22_185, p22_187, p22_188, p22_189, p22_192, p22_193, p22_196, p22_197, p22_200, p22_201, p22_203, p22_204, p22_207, p22_208, p22_211, p22_214, p22_215i, p22_215a, p22_216, p22_219, p22_220, p22_221, p22_224, p22_228, p22_231, p22_232, p22_235, p22_236, p22_237, p22_240, p22_241, p22_244, p22_246, p22_249, p22_250, p22_253, p22_254, p22_255, p22_258, jwd_c, jwd_0, Nat.reduceLeDiff, Nat.reduceEqDiff, Nat.reduceAdd, Nat.reduceSub, Nat.reduceMul, Int.reduceAdd, Int.reduceSub, Int.reduceMul, Int.reduceNeg, Int.reduceEq, Int.reduceLT, Int.reduceLE, jq_ldi_i, jq_ldl_l, jq_lda_a, jq_inc_i, jq_gs_t, jq_gsb_t, jq_gb_t, jq_gr_2, jq_gr_4, jq_gw_2, jq_s_t, jq_b_t, jg_c, jg_n, js_c, js_n, jrm_c, jrm_n, j2_i, j2_l, j2_a, jq_c_i, jq_c_l, jq_c_0, jq_c_n, jwd_le, jw_c0, mS_I, mS_R, mS_J, mN_I, mN_R, mN_J, mR_I, mI_R, mJ_I, mJ_R, mI_J, mR_J, ↓reduceIte, decide_true, or_true, true_or, and_self, false_or, or_false, reduceCtorEq, Bool.false_eq_true, and_false, false_and, eq_self, true_and, and_true, zero_ne, ↓br_lt_t, ↓br_lt_f, ↓br_eq_t, ↓br_eq_f, ↓br_lz_t, ↓br_lz_f, ↓br_ez_t, ↓br_ez_f, ↓br_gz_t, ↓br_gz_f, jw_id, jin_t, jix_t, ↓ite_t, ↓ite_f, a1, h6, a5]
  | succ m ih =>
    intro e w h h4 h5 h6 h7 hs he
    obtain ⟨a1, a2, a3, a4, a5, a6, a7, a8⟩ := h
    have hc := a6.2.2.2.2.2.2.1
    have h : RC' w n cnt T := ⟨a1, a2, a3, a4, a5, a6, a7, a8⟩
    have ee : gEd T c (m + 1) e = if gSo (T e) = c then gEd T c m (e + 1) else e := rfl
    have e1 := tp_get h (k := e) (by omega)
    have tb := a8 e (by omega)
    have e2 := c_sortOf (w := w) (a := 101) tb.1 tb.2
    have sb := so_bd (T e)
    have s65 := a6.1
    rw [ee]
    by_cases z : gSo (T e) = c
    · rw [if_pos z]
      by_cases y : e - s < 3
      · have g0 : Fr (fun b => b = 101) w (setI (setI w 101 7 (gNu T s (e - s) * 10 + T e - 48)) 101 6 ((e : Int) + 1)) := Fr.tr (P := fun b => b = 101) (Fr.I rfl) (Fr.I rfl)
        have hm : min (e - s) 3 = e - s := by omega
        rw [hm] at h7
        obtain ⟨u, i1, i2, i3, i4, i5, i6⟩ := ih (e + 1) (setI (setI w 101 7 (gNu T s (e - s) * 10 + T e - 48)) 101 6 ((e : Int) + 1)) ((h.set (by omega)).set (by omega)) (by rw [mI_nk (by omega), mI_nk (by omega)]; exact h4) (by rw [mI_nk (by omega), mI_nk (by omega)]; exact h5) (by rw [mI_s]; omega) (by
          rw [mI_nk (by omega), mI_s]
          have h3 : min (e + 1 - s) 3 = (e - s) + 1 := by omega
          rw [h3]
          show _ = gNu T s (e - s) * 10 + T (s + (e - s)) - 48
          rw [show s + (e - s) = e by omega]) (by omega) (by omega)
        refine ⟨u, ?_, i2, fun k k1 k2 => by rw [i3 k k1 k2, mI_nk (by omega), mI_nk (by omega)], i4, i5, g0.tr i6⟩
        rw [← i1, p22_133]
        have nk : mI (setI w 101 7 (gNu T s (e - s) * 10 + T e - 48)) 101 6 = e := by rw [mI_nk (by omega)]; exact h6
        simp (disch := omega) only [p22_0, p22_1, p22_2, p22_5, p22_9, p22_12, p22_13, p22_16, p22_19, p22_20, p22_23, p22_24, p22_27, p22_28, p22_31, p22_33, p22_36, p22_37i, p22_37a, p22_38, p22_41, p22_42, p22_43, p22_46, p22_50, p22_51, p22_54, p22_55, p22_56, p22_57, p22_60, p22_63, p22_66, p22_67, p22_70, p22_71, p22_74, p22_77, p22_78, p22_79, p22_82, p22_83, p22_84, p22_85, p22_86, p22_89, p22_90, p22_93, p22_94, p22_97, p22_100, p22_103, p22_104, p22_107, p22_108, p22_111, p22_112, p22_115, p22_116, p22_119, p22_120, p22_121, p22_122, p22_125, p22_126, p22_127, p22_130, p22_134, p22_137, p22_138, p22_141, p22_144, p22_145, p22_146, p22_149, p22_150, p22_153, p22_154, p22_157, p22_160, p22_161, p22_164, p22_167, p22_168, p22_169, p22_172, p22_173, p22_176, p22_177, p22_178, p22_181, p22_182, p22_185, p22_187, p22_188, p22_189, p22_192, p22_193, p22_196, p22_197, p22_200, p22_201, p22_203, p22_204, p22_207, p22_208, p22_211, p22_214, p22_215i, p22_215a, p22_216, p22_219, p22_220, p22_221, p22_224, p22_228, p22_231, p22_232, p22_235, p22_236, p22_237, p22_240, p22_241, p22_244, p22_246, p22_249, p22_250, p22_253, p22_254, p22_255, p22_258, jwd_c, jwd_0, Nat.reduceLeDiff, Nat.reduceEqDiff, Nat.reduceAdd, Nat.reduceSub, Nat.reduceMul, Int.reduceAdd, Int.reduceSub, Int.reduceMul, Int.reduceNeg, Int.reduceEq, Int.reduceLT, Int.reduceLE, jq_ldi_i, jq_ldl_l, jq_lda_a, jq_inc_i, jq_gs_t, jq_gsb_t, jq_gb_t, jq_gr_2, jq_gr_4, jq_gw_2, jq_s_t, jq_b_t, jg_c, jg_n, js_c, js_n, jrm_c, jrm_n, j2_i, j2_l, j2_a, jq_c_i, jq_c_l, jq_c_0, jq_c_n, jwd_le, jw_c0, mS_I, mS_R, mS_J, mN_I, mN_R, mN_J, mR_I, mI_R, mJ_I, mJ_R, mI_J, mR_J, ↓reduceIte, decide_true, or_true, true_or, and_self, false_or, or_false, reduceCtorEq, Bool.false_eq_true, and_false, false_and, eq_self, true_and, and_true, zero_ne, ↓br_lt_t, ↓br_lt_f, ↓br_eq_t, ↓br_eq_f, ↓br_lz_t, ↓br_lz_f, ↓br_ez_t, ↓br_ez_f, ↓br_gz_t, ↓br_gz_f, jw_id, jin_t, jix_t, ↓ite_t, ↓ite_f, a1, a2, h4, h5, h6, h7, a5, s65, e1, e2, nk]
      · have g0 : Fr (fun b => b = 101) w (setI (setI w 101 7 (mI w 101 7)) 101 6 ((e : Int) + 1)) := Fr.tr (P := fun b => b = 101) (Fr.I rfl) (Fr.I rfl)
        obtain ⟨u, i1, i2, i3, i4, i5, i6⟩ := ih (e + 1) (setI (setI w 101 7 (mI w 101 7)) 101 6 ((e : Int) + 1)) ((h.set (by omega)).set (by omega)) (by rw [mI_nk (by omega), mI_nk (by omega)]; exact h4) (by rw [mI_nk (by omega), mI_nk (by omega)]; exact h5) (by rw [mI_s]; omega) (by
          rw [mI_nk (by omega), mI_s, h7]
          have h3 : min (e + 1 - s) 3 = min (e - s) 3 := by omega
          rw [h3]) (by omega) (by omega)
        refine ⟨u, ?_, i2, fun k k1 k2 => by rw [i3 k k1 k2, mI_nk (by omega), mI_nk (by omega)], i4, i5, g0.tr i6⟩
        rw [← i1, p22_133]
        have nk : mI (setI w 101 7 (mI w 101 7)) 101 6 = e := by rw [mI_nk (by omega)]; exact h6
        simp (disch := omega) only [p22_0, p22_1, p22_2, p22_5, p22_9, p22_12, p22_13, p22_16, p22_19, p22_20, p22_23, p22_24, p22_27, p22_28, p22_31, p22_33, p22_36, p22_37i, p22_37a, p22_38, p22_41, p22_42, p22_43, p22_46, p22_50, p22_51, p22_54, p22_55, p22_56, p22_57, p22_60, p22_63, p22_66, p22_67, p22_70, p22_71, p22_74, p22_77, p22_78, p22_79, p22_82, p22_83, p22_84, p22_85, p22_86, p22_89, p22_90, p22_93, p22_94, p22_97, p22_100, p22_103, p22_104, p22_107, p22_108, p22_111, p22_112, p22_115, p22_116, p22_119, p22_120, p22_121, p22_122, p22_125, p22_126, p22_127, p22_130, p22_134, p22_137, p22_138, p22_141, p22_144, p22_145, p22_146, p22_149, p22_150, p22_153, p22_154, p22_157, p22_160, p22_161, p22_164, p22_167, p22_168, p22_169, p22_172, p22_173, p22_176, p22_177, p22_178, p22_181, p22_182, p22_185, p22_187, p22_188, p22_189, p22_192, p22_193, p22_196, p22_197, p22_200, p22_201, p22_203, p22_204, p22_207, p22_208, p22_211, p22_214, p22_215i, p22_215a, p22_216, p22_219, p22_220, p22_221, p22_224, p22_228, p22_231, p22_232, p22_235, p22_236, p22_237, p22_240, p22_241, p22_244, p22_246, p22_249, p22_250, p22_253, p22_254, p22_255, p22_258, jwd_c, jwd_0, Nat.reduceLeDiff, Nat.reduceEqDiff, Nat.reduceAdd, Nat.reduceSub, Nat.reduceMul, Int.reduceAdd, Int.reduceSub, Int.reduceMul, Int.reduceNeg, Int.reduceEq, Int.reduceLT, Int.reduceLE, jq_ldi_i, jq_ldl_l, jq_lda_a, jq_inc_i, jq_gs_t, jq_gsb_t, jq_gb_t, jq_gr_2, jq_gr_4, jq_gw_2, jq_s_t, jq_b_t, jg_c, jg_n, js_c, js_n, jrm_c, jrm_n, j2_i, j2_l, j2_a, jq_c_i, jq_c_l, jq_c_0, jq_c_n, jwd_le, jw_c0, mS_I, mS_R, mS_J, mN_I, mN_R, mN_J, mR_I, mI_R, mJ_I, mJ_R, mI_J, mR_J, ↓reduceIte, decide_true, or_true, true_or, and_self, false_or, or_false, reduceCtorEq, Bool.false_eq_true, and_false, false_and, eq_self, true_and, and_true, zero_ne, ↓br_lt_t, ↓br_lt_f, ↓br_eq_t, ↓br_eq_f, ↓br_lz_t, ↓br_lz_f, ↓br_ez_t, ↓br_ez_f, ↓br_gz_t, ↓br_gz_f, jw_id, jin_t, jix_t, ↓ite_t, ↓ite_f, a1, a2, h4, h5, h6, a5, s65, e1, e2, nk]
    · rw [if_neg z]
      refine ⟨w, ?_, h, fun k k1 k2 => rfl, h6, h7, Fr.rf _ _⟩
      rw [p22_133]
      simp (disch := omega) only [p22_0, p22_1, p22_2, p22_5, p22_9, p22_12, p22_13, p22_16, p22_19, p22_20, p22_23, p22_24, p22_27, p22_28, p22_31, p22_33, p22_36, p22_37i, p22_37a, p22_38, p22_41, p22_42, p22_43, p22_46, p22_50, p22_51, p22_54, p22_55, p22_56, p22_57, p22_60, p22_63, p22_66, p22_67, p22_70, p22_71, p22_74, p22_77, p22_78, p22_79, p22_82, p22_83, p22_84, p22_85, p22_86, p22_89, p22_90, p22_93, p22_94, p22_97, p22_100, p22_103, p22_104, p22_107, p22_108, p22_111, p22_112, p22_115, p22_116, p22_119, p22_120, p22_121, p22_122, p22_125, p22_126, p22_127, p22_130, p22_134, p22_137, p22_138, p22_141, p22_144, p22_145, p22_146, p22_149, p22_150, p22_153, p22_154, p22_157, p22_160, p22_161, p22_164, p22_167, p22_168, p22_169, p22_172, p22_173, p22_176, p22_177, p22_178, p22_181, p22_182, p22_185, p22_187, p22_188, p22_189, p22_192, p22_193, p22_196, p22_197, p22_200, p22_201, p22_203, p22_204, p22_207, p22_208, p22_211, p22_214, p22_215i, p22_215a, p22_216, p22_219, p22_220, p22_221, p22_224, p22_228, p22_231, p22_232, p22_235, p22_236, p22_237, p22_240, p22_241, p22_244, p22_246, p22_249, p22_250, p22_253, p22_254, p22_255, p22_258, jwd_c, jwd_0, Nat.reduceLeDiff, Nat.reduceEqDiff, Nat.reduceAdd, Nat.reduceSub, Nat.reduceMul, Int.reduceAdd, Int.reduceSub, Int.reduceMul, Int.reduceNeg, Int.reduceEq, Int.reduceLT, Int.reduceLE, jq_ldi_i, jq_ldl_l, jq_lda_a, jq_inc_i, jq_gs_t, jq_gsb_t, jq_gb_t, jq_gr_2, jq_gr_4, jq_gw_2, jq_s_t, jq_b_t, jg_c, jg_n, js_c, js_n, jrm_c, jrm_n, j2_i, j2_l, j2_a, jq_c_i, jq_c_l, jq_c_0, jq_c_n, jwd_le, jw_c0, mS_I, mS_R, mS_J, mN_I, mN_R, mN_J, mR_I, mI_R, mJ_I, mJ_R, mI_J, mR_J, ↓reduceIte, decide_true, or_true, true_or, and_self, false_or, or_false, reduceCtorEq, Bool.false_eq_true, and_false, false_and, eq_self, true_and, and_true, zero_ne, ↓br_lt_t, ↓br_lt_f, ↓br_eq_t, ↓br_eq_f, ↓br_lz_t, ↓br_lz_f, ↓br_ez_t, ↓br_ez_f, ↓br_gz_t, ↓br_gz_f, jw_id, jin_t, jix_t, ↓ite_t, ↓ite_f, a1, a2, h4, h5, h6, a5, s65, e1, e2]
theorem c_go0 (h : RC' w n cnt T) {p : Nat} (hp : p ≤ n) (h6 : mI w 101 6 = p) : ∃ u, rn 22 (0, [(0, jvr 101)], [], w) = some (none, u) ∧ RC' u n cnt T ∧ tC0 u T n p ∧ (∀ k, k < 4 ∨ 8 ≤ k → mI u 101 k = mI w 101 k) ∧ Fr (fun b => b = 101) w u := by
  obtain ⟨a1, a2, a3, a4, a5, a6, a7, a8⟩ := h
  have hc := a6.2.2.2.2.2.2.1
  have h : RC' w n cnt T := ⟨a1, a2, a3, a4, a5, a6, a7, a8⟩
  have s65 := a6.1
  have g1 := go1_lp (n - p) p (setI w 101 5 p) (h.set (by omega)) (mI_s _ _ _ _) (by omega)
  have e1 : setI (setI w 101 5 (p : Int)) 101 5 (gSk T (n - p) p) = setI w 101 5 (tS T n p) := by
    rw [setI_A, setI_A, mI_A, setA_A, up1_up1, setI_A]
    rfl
  rw [e1] at g1
  have sb := ts_bd (T := T) hp
  have tb := tke_bd (T := T) hp
  generalize hs : tS T n p = s at *
  have x1 : rn 22 (0, [(0, jvr 101)], [], w) = rn 22 (49, [(0, jvr 101)], [], setI w 101 5 s) := by
    rw [← g1]
    simp (disch := omega) only [p22_0, p22_1, p22_2, p22_5, p22_9, p22_12, p22_13, p22_16, p22_19, p22_20, p22_23, p22_24, p22_27, p22_28, p22_31, p22_33, p22_36, p22_37i, p22_37a, p22_38, p22_41, p22_42, p22_43, p22_46, p22_50, p22_51, p22_54, p22_55, p22_56, p22_57, p22_60, p22_63, p22_66, p22_67, p22_70, p22_71, p22_74, p22_77, p22_78, p22_79, p22_82, p22_83, p22_84, p22_85, p22_86, p22_89, p22_90, p22_93, p22_94, p22_97, p22_100, p22_103, p22_104, p22_107, p22_108, p22_111, p22_112, p22_115, p22_116, p22_119, p22_120, p22_121, p22_122, p22_125, p22_126, p22_127, p22_130, p22_134, p22_137, p22_138, p22_141, p22_144, p22_145, p22_146, p22_149, p22_150, p22_153, p22_154, p22_157, p22_160, p22_161, p22_164, p22_167, p22_168, p22_169, p22_172, p22_173, p22_176, p22_177, p22_178, p22_181, p22_182, p22_185, p22_187, p22_188, p22_189, p22_192, p22_193, p22_196, p22_197, p22_200, p22_201, p22_203, p22_204, p22_207, p22_208, p22_211, p22_214, p22_215i, p22_215a, p22_216, p22_219, p22_220, p22_221, p22_224, p22_228, p22_231, p22_232, p22_235, p22_236, p22_237, p22_240, p22_241, p22_244, p22_246, p22_249, p22_250, p22_253, p22_254, p22_255, p22_258, jwd_c, jwd_0, Nat.reduceLeDiff, Nat.reduceEqDiff, Nat.reduceAdd, Nat.reduceSub, Nat.reduceMul, Int.reduceAdd, Int.reduceSub, Int.reduceMul, Int.reduceNeg, Int.reduceEq, Int.reduceLT, Int.reduceLE, jq_ldi_i, jq_ldl_l, jq_lda_a, jq_inc_i, jq_gs_t, jq_gsb_t, jq_gb_t, jq_gr_2, jq_gr_4, jq_gw_2, jq_s_t, jq_b_t, jg_c, jg_n, js_c, js_n, jrm_c, jrm_n, j2_i, j2_l, j2_a, jq_c_i, jq_c_l, jq_c_0, jq_c_n, jwd_le, jw_c0, mS_I, mS_R, mS_J, mN_I, mN_R, mN_J, mR_I, mI_R, mJ_I, mJ_R, mI_J, mR_J, ↓reduceIte, decide_true, or_true, true_or, and_self, false_or, or_false, reduceCtorEq, Bool.false_eq_true, and_false, false_and, eq_self, true_and, and_true, zero_ne, ↓br_lt_t, ↓br_lt_f, ↓br_eq_t, ↓br_eq_f, ↓br_lz_t, ↓br_lz_f, ↓br_ez_t, ↓br_ez_f, ↓br_gz_t, ↓br_gz_f, jw_id, jin_t, jix_t, ↓ite_t, ↓ite_f, a1, h6]
  rw [x1]
  have mn := mm_min (w := setI w 101 5 s) (x := (s : Int) + 1) (y := (n : Int)) (by omega) (by omega) (by omega) (by omega)
  have b5 : mI (setI w 101 5 (s : Int)) 101 3 = n := by rw [mI_nk (by omega)]; exact a5
  have eE : tE T n p = if n ≤ s then n else if gSo (T s) = 1 ∨ gSo (T s) = 2 then gEd T (gSo (T s)) (n - s) s else s + 1 := by
    unfold tE
    rw [hs]
  have eK : tK T n p = if n ≤ s then 5 else if gSo (T s) = 1 then (if tE T n p - s ≤ 8 then 1 else 0) else if gSo (T s) = 2 then (if tE T n p - s ≤ 3 then 2 else 0) else gSo (T s) := by
    unfold tK
    rw [hs]
  have eN : tN T n p = gNu T s (tE T n p - s) := by
    unfold tN
    rw [hs]
  by_cases z : n ≤ s
  · rw [if_pos z] at eE eK
    have f : Fr (fun b => b = 101) w (setI (setI (setI w 101 5 s) 101 6 (min ((s : Int) + 1) n)) 101 4 5) := Fr.tr (P := fun b => b = 101) (Fr.tr (P := fun b => b = 101) (Fr.I rfl) (Fr.I rfl)) (Fr.I rfl)
    refine ⟨_, ?_, ((h.set (by omega)).set (by omega)).set (by omega), ⟨hp, by rw [mI_s, eK], by rw [mI_nk (by omega), mI_nk (by omega), mI_s, hs], by rw [mI_nk (by omega), mI_s, eE]; omega, fun y => by rw [eK] at y; omega⟩, fun k hk => by rw [mI_nk (by omega), mI_nk (by omega), mI_nk (by omega)], f⟩
    rw [p22_49]
    have b6 : mI (setI (setI w 101 5 (s : Int)) 101 6 (min ((s : Int) + 1) n)) 101 5 = s := by rw [mI_nk (by omega), mI_s]
    have b7 : mI (setI (setI w 101 5 (s : Int)) 101 6 (min ((s : Int) + 1) n)) 101 3 = n := by rw [mI_nk (by omega)]; exact b5
    simp (disch := omega) only [p22_0, p22_1, p22_2, p22_5, p22_9, p22_12, p22_13, p22_16, p22_19, p22_20, p22_23, p22_24, p22_27, p22_28, p22_31, p22_33, p22_36, p22_37i, p22_37a, p22_38, p22_41, p22_42, p22_43, p22_46, p22_50, p22_51, p22_54, p22_55, p22_56, p22_57, p22_60, p22_63, p22_66, p22_67, p22_70, p22_71, p22_74, p22_77, p22_78, p22_79, p22_82, p22_83, p22_84, p22_85, p22_86, p22_89, p22_90, p22_93, p22_94, p22_97, p22_100, p22_103, p22_104, p22_107, p22_108, p22_111, p22_112, p22_115, p22_116, p22_119, p22_120, p22_121, p22_122, p22_125, p22_126, p22_127, p22_130, p22_134, p22_137, p22_138, p22_141, p22_144, p22_145, p22_146, p22_149, p22_150, p22_153, p22_154, p22_157, p22_160, p22_161, p22_164, p22_167, p22_168, p22_169, p22_172, p22_173, p22_176, p22_177, p22_178, p22_181, p22_182, p22_185, p22_187, p22_188, p22_189, p22_192, p22_193, p22_196, p22_197, p22_200, p22_201, p22_203, p22_204, p22_207, p22_208, p22_211, p22_214, p22_215i, p22_215a, p22_216, p22_219, p22_220, p22_221, p22_224, p22_228, p22_231, p22_232, p22_235, p22_236, p22_237, p22_240, p22_241, p22_244, p22_246, p22_249, p22_250, p22_253, p22_254, p22_255, p22_258, jwd_c, jwd_0, Nat.reduceLeDiff, Nat.reduceEqDiff, Nat.reduceAdd, Nat.reduceSub, Nat.reduceMul, Int.reduceAdd, Int.reduceSub, Int.reduceMul, Int.reduceNeg, Int.reduceEq, Int.reduceLT, Int.reduceLE, jq_ldi_i, jq_ldl_l, jq_lda_a, jq_inc_i, jq_gs_t, jq_gsb_t, jq_gb_t, jq_gr_2, jq_gr_4, jq_gw_2, jq_s_t, jq_b_t, jg_c, jg_n, js_c, js_n, jrm_c, jrm_n, j2_i, j2_l, j2_a, jq_c_i, jq_c_l, jq_c_0, jq_c_n, jwd_le, jw_c0, mS_I, mS_R, mS_J, mN_I, mN_R, mN_J, mR_I, mI_R, mJ_I, mJ_R, mI_J, mR_J, ↓reduceIte, decide_true, or_true, true_or, and_self, false_or, or_false, reduceCtorEq, Bool.false_eq_true, and_false, false_and, eq_self, true_and, and_true, zero_ne, ↓br_lt_t, ↓br_lt_f, ↓br_eq_t, ↓br_eq_f, ↓br_lz_t, ↓br_lz_f, ↓br_ez_t, ↓br_ez_f, ↓br_gz_t, ↓br_gz_f, jw_id, jin_t, jix_t, ↓ite_t, ↓ite_f, a1, mI_s, b5, mn, b6, b7]
  · rw [if_neg z] at eE eK
    have hm : min ((s : Int) + 1) (n : Int) = ((s + 1 : Nat) : Int) := by omega
    rw [hm] at mn
    have et := tp_get (w := setI (setI w 101 5 (s : Int)) 101 6 ((s + 1 : Nat) : Int)) ((h.set (by omega)).set (by omega)) (k := s) (by omega)
    have tbs := a8 s (by omega)
    have eo := c_sortOf (w := setI (setI w 101 5 (s : Int)) 101 6 ((s + 1 : Nat) : Int)) (a := 101) tbs.1 tbs.2
    have sbo := so_bd (T s)
    generalize hW : setI (setI w 101 5 (s : Int)) 101 6 ((s + 1 : Nat) : Int) = W at *
    have w5 : mI W 101 5 = s := by rw [← hW, mI_nk (by omega), mI_s]
    have w3 : mI W 101 3 = n := by rw [← hW, mI_nk (by omega)]; exact b5
    have wr0 : mR W = mR w := by rw [← hW]; rfl
    have ws : mS W = mS w := by rw [← hW]; rfl
    have hWR : RC' W n cnt T := by rw [← hW]; exact (h.set (by omega)).set (by omega)
    have fW : Fr (fun b => b = 101) w W := by rw [← hW]; exact Fr.tr (P := fun b => b = 101) (Fr.I rfl) (Fr.I rfl)
    have w6 : mI W 101 6 = ((s + 1 : Nat) : Int) := by rw [← hW, mI_s]
    have wk : ∀ k, k < 4 ∨ 8 ≤ k → mI W 101 k = mI w 101 k := fun k hk => by rw [← hW, mI_nk (by omega), mI_nk (by omega)]
    have x2 : rn 22 (49, [(0, jvr 101)], [], setI w 101 5 s) = rn 22 (103, [(0, jvr 101)], [], setI W 101 4 (gSo (T s))) := by
      rw [p22_49]
      have z1 : mS W 101 = (1, 3, 0) := by rw [ws]; exact a1
      have z2 : mR W 101 0 = some 65 := by rw [wr0]; exact a2
      have z3 : mS W 65 = (1, 5, 0) := by rw [ws]; exact s65
      simp (disch := omega) only [p22_0, p22_1, p22_2, p22_5, p22_9, p22_12, p22_13, p22_16, p22_19, p22_20, p22_23, p22_24, p22_27, p22_28, p22_31, p22_33, p22_36, p22_37i, p22_37a, p22_38, p22_41, p22_42, p22_43, p22_46, p22_50, p22_51, p22_54, p22_55, p22_56, p22_57, p22_60, p22_63, p22_66, p22_67, p22_70, p22_71, p22_74, p22_77, p22_78, p22_79, p22_82, p22_83, p22_84, p22_85, p22_86, p22_89, p22_90, p22_93, p22_94, p22_97, p22_100, p22_104, p22_107, p22_108, p22_111, p22_112, p22_115, p22_116, p22_119, p22_120, p22_121, p22_122, p22_125, p22_126, p22_127, p22_130, p22_134, p22_137, p22_138, p22_141, p22_144, p22_145, p22_146, p22_149, p22_150, p22_153, p22_154, p22_157, p22_160, p22_161, p22_164, p22_167, p22_168, p22_169, p22_172, p22_173, p22_176, p22_177, p22_178, p22_181, p22_182, p22_185, p22_187, p22_188, p22_189, p22_192, p22_193, p22_196, p22_197, p22_200, p22_201, p22_203, p22_204, p22_207, p22_208, p22_211, p22_214, p22_215i, p22_215a, p22_216, p22_219, p22_220, p22_221, p22_224, p22_228, p22_231, p22_232, p22_235, p22_236, p22_237, p22_240, p22_241, p22_244, p22_246, p22_249, p22_250, p22_253, p22_254, p22_255, p22_258, jwd_c, jwd_0, Nat.reduceLeDiff, Nat.reduceEqDiff, Nat.reduceAdd, Nat.reduceSub, Nat.reduceMul, Int.reduceAdd, Int.reduceSub, Int.reduceMul, Int.reduceNeg, Int.reduceEq, Int.reduceLT, Int.reduceLE, jq_ldi_i, jq_ldl_l, jq_lda_a, jq_inc_i, jq_gs_t, jq_gsb_t, jq_gb_t, jq_gr_2, jq_gr_4, jq_gw_2, jq_s_t, jq_b_t, jg_c, jg_n, js_c, js_n, jrm_c, jrm_n, j2_i, j2_l, j2_a, jq_c_i, jq_c_l, jq_c_0, jq_c_n, jwd_le, jw_c0, mS_I, mS_R, mS_J, mN_I, mN_R, mN_J, mR_I, mI_R, mJ_I, mJ_R, mI_J, mR_J, ↓reduceIte, decide_true, or_true, true_or, and_self, false_or, or_false, reduceCtorEq, Bool.false_eq_true, and_false, false_and, eq_self, true_and, and_true, zero_ne, ↓br_lt_t, ↓br_lt_f, ↓br_eq_t, ↓br_eq_f, ↓br_lz_t, ↓br_lz_f, ↓br_ez_t, ↓br_ez_f, ↓br_gz_t, ↓br_gz_f, jw_id, jin_t, jix_t, ↓ite_t, ↓ite_f, a1, mI_s, b5, mn, hW, w5, w3, z1, z2, z3, et, eo]
    rw [x2]
    have z1 : mS W 101 = (1, 3, 0) := by rw [ws]; exact a1
    by_cases c12 : gSo (T s) = 1 ∨ gSo (T s) = 2
    · rw [if_pos c12] at eE
      have V0 : Fr (fun b => b = 101) W (setI (setI (setI W 101 4 (gSo (T s))) 101 7 0) 101 6 s) := Fr.tr (P := fun b => b = 101) (Fr.tr (P := fun b => b = 101) (Fr.I rfl) (Fr.I rfl)) (Fr.I rfl)
      obtain ⟨u, i1, i2, i3, i4, i5, i6⟩ := go2_lp (T := T) (n := n) (cnt := cnt) (c := gSo (T s)) c12 (s := s) (n - s) s (setI (setI (setI W 101 4 (gSo (T s))) 101 7 0) 101 6 s) (((hWR.set (by omega)).set (by omega)).set (by omega)) (by rw [mI_nk (by omega), mI_nk (by omega), mI_s]) (by rw [mI_nk (by omega), mI_nk (by omega), mI_nk (by omega)]; exact w5) (mI_s _ _ _ _) (by
        rw [mI_nk (by omega), mI_s]
        have h3 : min (s - s) 3 = 0 := by omega
        rw [h3]
        rfl) (Nat.le_refl _) (by omega)
      have x3 : rn 22 (103, [(0, jvr 101)], [], setI W 101 4 (gSo (T s))) = rn 22 (227, [(0, jvr 101)], [], u) := by
        rw [← i1, p22_103]
        have y1 : mI (setI (setI W 101 4 (gSo (T s))) 101 7 0) 101 5 = s := by rw [mI_nk (by omega), mI_nk (by omega)]; exact w5
        rcases c12 with y | y
        · rw [y]
          rw [y] at y1
          simp (disch := omega) only [p22_0, p22_1, p22_2, p22_5, p22_9, p22_12, p22_13, p22_16, p22_19, p22_20, p22_23, p22_24, p22_27, p22_28, p22_31, p22_33, p22_36, p22_37i, p22_37a, p22_38, p22_41, p22_42, p22_43, p22_46, p22_50, p22_51, p22_54, p22_55, p22_56, p22_57, p22_60, p22_63, p22_66, p22_67, p22_70, p22_71, p22_74, p22_77, p22_78, p22_79, p22_82, p22_83, p22_84, p22_85, p22_86, p22_89, p22_90, p22_93, p22_94, p22_97, p22_100, p22_104, p22_107, p22_108, p22_111, p22_112, p22_115, p22_116, p22_119, p22_120, p22_121, p22_122, p22_125, p22_126, p22_127, p22_130, p22_134, p22_137, p22_138, p22_141, p22_144, p22_145, p22_146, p22_149, p22_150, p22_153, p22_154, p22_157, p22_160, p22_161, p22_164, p22_167, p22_168, p22_169, p22_172, p22_173, p22_176, p22_177, p22_178, p22_181, p22_182, p22_185, p22_187, p22_188, p22_189, p22_192, p22_193, p22_196, p22_197, p22_200, p22_201, p22_203, p22_204, p22_207, p22_208, p22_211, p22_214, p22_215i, p22_215a, p22_216, p22_219, p22_220, p22_221, p22_224, p22_228, p22_231, p22_232, p22_235, p22_236, p22_237, p22_240, p22_241, p22_244, p22_246, p22_249, p22_250, p22_253, p22_254, p22_255, p22_258, jwd_c, jwd_0, Nat.reduceLeDiff, Nat.reduceEqDiff, Nat.reduceAdd, Nat.reduceSub, Nat.reduceMul, Int.reduceAdd, Int.reduceSub, Int.reduceMul, Int.reduceNeg, Int.reduceEq, Int.reduceLT, Int.reduceLE, jq_ldi_i, jq_ldl_l, jq_lda_a, jq_inc_i, jq_gs_t, jq_gsb_t, jq_gb_t, jq_gr_2, jq_gr_4, jq_gw_2, jq_s_t, jq_b_t, jg_c, jg_n, js_c, js_n, jrm_c, jrm_n, j2_i, j2_l, j2_a, jq_c_i, jq_c_l, jq_c_0, jq_c_n, jwd_le, jw_c0, mS_I, mS_R, mS_J, mN_I, mN_R, mN_J, mR_I, mI_R, mJ_I, mJ_R, mI_J, mR_J, ↓reduceIte, decide_true, or_true, true_or, and_self, false_or, or_false, reduceCtorEq, Bool.false_eq_true, and_false, false_and, eq_self, true_and, and_true, zero_ne, ↓br_lt_t, ↓br_lt_f, ↓br_eq_t, ↓br_eq_f, ↓br_lz_t, ↓br_lz_f, ↓br_ez_t, ↓br_ez_f, ↓br_gz_t, ↓br_gz_f, jw_id, jin_t, jix_t, ↓ite_t, ↓ite_f, z1, mI_s, y1]
        · rw [y]
          rw [y] at y1
          simp (disch := omega) only [p22_0, p22_1, p22_2, p22_5, p22_9, p22_12, p22_13, p22_16, p22_19, p22_20, p22_23, p22_24, p22_27, p22_28, p22_31, p22_33, p22_36, p22_37i, p22_37a, p22_38, p22_41, p22_42, p22_43, p22_46, p22_50, p22_51, p22_54, p22_55, p22_56, p22_57, p22_60, p22_63, p22_66, p22_67, p22_70, p22_71, p22_74, p22_77, p22_78, p22_79, p22_82, p22_83, p22_84, p22_85, p22_86, p22_89, p22_90, p22_93, p22_94, p22_97, p22_100, p22_104, p22_107, p22_108, p22_111, p22_112, p22_115, p22_116, p22_119, p22_120, p22_121, p22_122, p22_125, p22_126, p22_127, p22_130, p22_134, p22_137, p22_138, p22_141, p22_144, p22_145, p22_146, p22_149, p22_150, p22_153, p22_154, p22_157, p22_160, p22_161, p22_164, p22_167, p22_168, p22_169, p22_172, p22_173, p22_176, p22_177, p22_178, p22_181, p22_182, p22_185, p22_187, p22_188, p22_189, p22_192, p22_193, p22_196, p22_197, p22_200, p22_201, p22_203, p22_204, p22_207, p22_208, p22_211, p22_214, p22_215i, p22_215a, p22_216, p22_219, p22_220, p22_221, p22_224, p22_228, p22_231, p22_232, p22_235, p22_236, p22_237, p22_240, p22_241, p22_244, p22_246, p22_249, p22_250, p22_253, p22_254, p22_255, p22_258, jwd_c, jwd_0, Nat.reduceLeDiff, Nat.reduceEqDiff, Nat.reduceAdd, Nat.reduceSub, Nat.reduceMul, Int.reduceAdd, Int.reduceSub, Int.reduceMul, Int.reduceNeg, Int.reduceEq, Int.reduceLT, Int.reduceLE, jq_ldi_i, jq_ldl_l, jq_lda_a, jq_inc_i, jq_gs_t, jq_gsb_t, jq_gb_t, jq_gr_2, jq_gr_4, jq_gw_2, jq_s_t, jq_b_t, jg_c, jg_n, js_c, js_n, jrm_c, jrm_n, j2_i, j2_l, j2_a, jq_c_i, jq_c_l, jq_c_0, jq_c_n, jwd_le, jw_c0, mS_I, mS_R, mS_J, mN_I, mN_R, mN_J, mR_I, mI_R, mJ_I, mJ_R, mI_J, mR_J, ↓reduceIte, decide_true, or_true, true_or, and_self, false_or, or_false, reduceCtorEq, Bool.false_eq_true, and_false, false_and, eq_self, true_and, and_true, zero_ne, ↓br_lt_t, ↓br_lt_f, ↓br_eq_t, ↓br_eq_f, ↓br_lz_t, ↓br_lz_f, ↓br_ez_t, ↓br_ez_f, ↓br_gz_t, ↓br_gz_f, jw_id, jin_t, jix_t, ↓ite_t, ↓ite_f, z1, mI_s, y1]
      rw [x3]
      have u4 : mI u 101 4 = gSo (T s) := by rw [i3 4 (by omega) (by omega), mI_nk (by omega), mI_nk (by omega), mI_s]
      have u5 : mI u 101 5 = s := by rw [i3 5 (by omega) (by omega), mI_nk (by omega), mI_nk (by omega), mI_nk (by omega)]; exact w5
      have us : mS u 101 = (1, 3, 0) := by rw [i6.q, V0.q]; exact z1
      rw [← eE] at i4 i5
      have uk : ∀ k, k < 4 ∨ 8 ≤ k → mI u 101 k = mI w 101 k := fun k hk => by rw [i3 k (by omega) (by omega), mI_nk (by omega), mI_nk (by omega), mI_nk (by omega), wk k hk]
      have fA : Fr (fun b => b = 101) w u := (fW.tr V0).tr i6
      have n7 : tE T n p - s ≤ 3 → mI u 101 7 = tN T n p := fun y => by
        rw [i5, eN, show min (tE T n p - s) 3 = tE T n p - s by omega]
      rcases c12 with y | y
      · rw [if_pos y] at eK
        rw [y] at u4
        by_cases q8 : tE T n p - s ≤ 8
        · rw [if_pos q8] at eK
          refine ⟨u, ?_, i2, ⟨hp, by rw [u4, eK], by rw [u5, hs], i4, fun y => by rw [eK] at y; omega⟩, uk, fA⟩
          rw [p22_227]
          simp (disch := omega) only [p22_0, p22_1, p22_2, p22_5, p22_9, p22_12, p22_13, p22_16, p22_19, p22_20, p22_23, p22_24, p22_27, p22_28, p22_31, p22_33, p22_36, p22_37i, p22_37a, p22_38, p22_41, p22_42, p22_43, p22_46, p22_50, p22_51, p22_54, p22_55, p22_56, p22_57, p22_60, p22_63, p22_66, p22_67, p22_70, p22_71, p22_74, p22_77, p22_78, p22_79, p22_82, p22_83, p22_84, p22_85, p22_86, p22_89, p22_90, p22_93, p22_94, p22_97, p22_100, p22_104, p22_107, p22_108, p22_111, p22_112, p22_115, p22_116, p22_119, p22_120, p22_121, p22_122, p22_125, p22_126, p22_127, p22_130, p22_134, p22_137, p22_138, p22_141, p22_144, p22_145, p22_146, p22_149, p22_150, p22_153, p22_154, p22_157, p22_160, p22_161, p22_164, p22_167, p22_168, p22_169, p22_172, p22_173, p22_176, p22_177, p22_178, p22_181, p22_182, p22_185, p22_187, p22_188, p22_189, p22_192, p22_193, p22_196, p22_197, p22_200, p22_201, p22_203, p22_204, p22_207, p22_208, p22_211, p22_214, p22_215i, p22_215a, p22_216, p22_219, p22_220, p22_221, p22_224, p22_228, p22_231, p22_232, p22_235, p22_236, p22_237, p22_240, p22_241, p22_244, p22_246, p22_249, p22_250, p22_253, p22_254, p22_255, p22_258, jwd_c, jwd_0, Nat.reduceLeDiff, Nat.reduceEqDiff, Nat.reduceAdd, Nat.reduceSub, Nat.reduceMul, Int.reduceAdd, Int.reduceSub, Int.reduceMul, Int.reduceNeg, Int.reduceEq, Int.reduceLT, Int.reduceLE, jq_ldi_i, jq_ldl_l, jq_lda_a, jq_inc_i, jq_gs_t, jq_gsb_t, jq_gb_t, jq_gr_2, jq_gr_4, jq_gw_2, jq_s_t, jq_b_t, jg_c, jg_n, js_c, js_n, jrm_c, jrm_n, j2_i, j2_l, j2_a, jq_c_i, jq_c_l, jq_c_0, jq_c_n, jwd_le, jw_c0, mS_I, mS_R, mS_J, mN_I, mN_R, mN_J, mR_I, mI_R, mJ_I, mJ_R, mI_J, mR_J, ↓reduceIte, decide_true, or_true, true_or, and_self, false_or, or_false, reduceCtorEq, Bool.false_eq_true, and_false, false_and, eq_self, true_and, and_true, zero_ne, ↓br_lt_t, ↓br_lt_f, ↓br_eq_t, ↓br_eq_f, ↓br_lz_t, ↓br_lz_f, ↓br_ez_t, ↓br_ez_f, ↓br_gz_t, ↓br_gz_f, jw_id, jin_t, jix_t, ↓ite_t, ↓ite_f, us, u4, u5, i4]
        · rw [if_neg q8] at eK
          refine ⟨setI u 101 4 0, ?_, i2.set (by omega), ⟨hp, by rw [mI_s, eK], by rw [mI_nk (by omega), u5, hs], by rw [mI_nk (by omega)]; exact i4, fun y => by rw [eK] at y; omega⟩, fun k hk => by rw [mI_nk (by omega)]; exact uk k hk, fA.tr (Fr.I rfl)⟩
          rw [p22_227]
          simp (disch := omega) only [p22_0, p22_1, p22_2, p22_5, p22_9, p22_12, p22_13, p22_16, p22_19, p22_20, p22_23, p22_24, p22_27, p22_28, p22_31, p22_33, p22_36, p22_37i, p22_37a, p22_38, p22_41, p22_42, p22_43, p22_46, p22_50, p22_51, p22_54, p22_55, p22_56, p22_57, p22_60, p22_63, p22_66, p22_67, p22_70, p22_71, p22_74, p22_77, p22_78, p22_79, p22_82, p22_83, p22_84, p22_85, p22_86, p22_89, p22_90, p22_93, p22_94, p22_97, p22_100, p22_104, p22_107, p22_108, p22_111, p22_112, p22_115, p22_116, p22_119, p22_120, p22_121, p22_122, p22_125, p22_126, p22_127, p22_130, p22_134, p22_137, p22_138, p22_141, p22_144, p22_145, p22_146, p22_149, p22_150, p22_153, p22_154, p22_157, p22_160, p22_161, p22_164, p22_167, p22_168, p22_169, p22_172, p22_173, p22_176, p22_177, p22_178, p22_181, p22_182, p22_185, p22_187, p22_188, p22_189, p22_192, p22_193, p22_196, p22_197, p22_200, p22_201, p22_203, p22_204, p22_207, p22_208, p22_211, p22_214, p22_215i, p22_215a, p22_216, p22_219, p22_220, p22_221, p22_224, p22_228, p22_231, p22_232, p22_235, p22_236, p22_237, p22_240, p22_241, p22_244, p22_246, p22_249, p22_250, p22_253, p22_254, p22_255, p22_258, jwd_c, jwd_0, Nat.reduceLeDiff, Nat.reduceEqDiff, Nat.reduceAdd, Nat.reduceSub, Nat.reduceMul, Int.reduceAdd, Int.reduceSub, Int.reduceMul, Int.reduceNeg, Int.reduceEq, Int.reduceLT, Int.reduceLE, jq_ldi_i, jq_ldl_l, jq_lda_a, jq_inc_i, jq_gs_t, jq_gsb_t, jq_gb_t, jq_gr_2, jq_gr_4, jq_gw_2, jq_s_t, jq_b_t, jg_c, jg_n, js_c, js_n, jrm_c, jrm_n, j2_i, j2_l, j2_a, jq_c_i, jq_c_l, jq_c_0, jq_c_n, jwd_le, jw_c0, mS_I, mS_R, mS_J, mN_I, mN_R, mN_J, mR_I, mI_R, mJ_I, mJ_R, mI_J, mR_J, ↓reduceIte, decide_true, or_true, true_or, and_self, false_or, or_false, reduceCtorEq, Bool.false_eq_true, and_false, false_and, eq_self, true_and, and_true, zero_ne, ↓br_lt_t, ↓br_lt_f, ↓br_eq_t, ↓br_eq_f, ↓br_lz_t, ↓br_lz_f, ↓br_ez_t, ↓br_ez_f, ↓br_gz_t, ↓br_gz_f, jw_id, jin_t, jix_t, ↓ite_t, ↓ite_f, us, u4, u5, i4]
      · rw [if_neg (by omega), if_pos y] at eK
        rw [y] at u4
        by_cases q8 : tE T n p - s ≤ 3
        · rw [if_pos q8] at eK
          refine ⟨u, ?_, i2, ⟨hp, by rw [u4, eK], by rw [u5, hs], i4, fun _ => n7 q8⟩, uk, fA⟩
          rw [p22_227]
          simp (disch := omega) only [p22_0, p22_1, p22_2, p22_5, p22_9, p22_12, p22_13, p22_16, p22_19, p22_20, p22_23, p22_24, p22_27, p22_28, p22_31, p22_33, p22_36, p22_37i, p22_37a, p22_38, p22_41, p22_42, p22_43, p22_46, p22_50, p22_51, p22_54, p22_55, p22_56, p22_57, p22_60, p22_63, p22_66, p22_67, p22_70, p22_71, p22_74, p22_77, p22_78, p22_79, p22_82, p22_83, p22_84, p22_85, p22_86, p22_89, p22_90, p22_93, p22_94, p22_97, p22_100, p22_104, p22_107, p22_108, p22_111, p22_112, p22_115, p22_116, p22_119, p22_120, p22_121, p22_122, p22_125, p22_126, p22_127, p22_130, p22_134, p22_137, p22_138, p22_141, p22_144, p22_145, p22_146, p22_149, p22_150, p22_153, p22_154, p22_157, p22_160, p22_161, p22_164, p22_167, p22_168, p22_169, p22_172, p22_173, p22_176, p22_177, p22_178, p22_181, p22_182, p22_185, p22_187, p22_188, p22_189, p22_192, p22_193, p22_196, p22_197, p22_200, p22_201, p22_203, p22_204, p22_207, p22_208, p22_211, p22_214, p22_215i, p22_215a, p22_216, p22_219, p22_220, p22_221, p22_224, p22_228, p22_231, p22_232, p22_235, p22_236, p22_237, p22_240, p22_241, p22_244, p22_246, p22_249, p22_250, p22_253, p22_254, p22_255, p22_258, jwd_c, jwd_0, Nat.reduceLeDiff, Nat.reduceEqDiff, Nat.reduceAdd, Nat.reduceSub, Nat.reduceMul, Int.reduceAdd, Int.reduceSub, Int.reduceMul, Int.reduceNeg, Int.reduceEq, Int.reduceLT, Int.reduceLE, jq_ldi_i, jq_ldl_l, jq_lda_a, jq_inc_i, jq_gs_t, jq_gsb_t, jq_gb_t, jq_gr_2, jq_gr_4, jq_gw_2, jq_s_t, jq_b_t, jg_c, jg_n, js_c, js_n, jrm_c, jrm_n, j2_i, j2_l, j2_a, jq_c_i, jq_c_l, jq_c_0, jq_c_n, jwd_le, jw_c0, mS_I, mS_R, mS_J, mN_I, mN_R, mN_J, mR_I, mI_R, mJ_I, mJ_R, mI_J, mR_J, ↓reduceIte, decide_true, or_true, true_or, and_self, false_or, or_false, reduceCtorEq, Bool.false_eq_true, and_false, false_and, eq_self, true_and, and_true, zero_ne, ↓br_lt_t, ↓br_lt_f, ↓br_eq_t, ↓br_eq_f, ↓br_lz_t, ↓br_lz_f, ↓br_ez_t, ↓br_ez_f, ↓br_gz_t, ↓br_gz_f, jw_id, jin_t, jix_t, ↓ite_t, ↓ite_f, us, u4, u5, i4]
        · rw [if_neg q8] at eK
          refine ⟨setI u 101 4 0, ?_, i2.set (by omega), ⟨hp, by rw [mI_s, eK], by rw [mI_nk (by omega), u5, hs], by rw [mI_nk (by omega)]; exact i4, fun y => by rw [eK] at y; omega⟩, fun k hk => by rw [mI_nk (by omega)]; exact uk k hk, fA.tr (Fr.I rfl)⟩
          rw [p22_227]
          simp (disch := omega) only [p22_0, p22_1, p22_2, p22_5, p22_9, p22_12, p22_13, p22_16, p22_19, p22_20, p22_23, p22_24, p22_27, p22_28, p22_31, p22_33, p22_36, p22_37i, p22_37a, p22_38, p22_41, p22_42, p22_43, p22_46, p22_50, p22_51, p22_54, p22_55, p22_56, p22_57, p22_60, p22_63, p22_66, p22_67, p22_70, p22_71, p22_74, p22_77, p22_78, p22_79, p22_82, p22_83, p22_84, p22_85, p22_86, p22_89, p22_90, p22_93, p22_94, p22_97, p22_100, p22_104, p22_107, p22_108, p22_111, p22_112, p22_115, p22_116, p22_119, p22_120, p22_121, p22_122, p22_125, p22_126, p22_127, p22_130, p22_134, p22_137, p22_138, p22_141, p22_144, p22_145, p22_146, p22_149, p22_150, p22_153, p22_154, p22_157, p22_160, p22_161, p22_164, p22_167, p22_168, p22_169, p22_172, p22_173, p22_176, p22_177, p22_178, p22_181, p22_182, p22_185, p22_187, p22_188, p22_189, p22_192, p22_193, p22_196, p22_197, p22_200, p22_201, p22_203, p22_204, p22_207, p22_208, p22_211, p22_214, p22_215i, p22_215a, p22_216, p22_219, p22_220, p22_221, p22_224, p22_228, p22_231, p22_232, p22_235, p22_236, p22_237, p22_240, p22_241, p22_244, p22_246, p22_249, p22_250, p22_253, p22_254, p22_255, p22_258, jwd_c, jwd_0, Nat.reduceLeDiff, Nat.reduceEqDiff, Nat.reduceAdd, Nat.reduceSub, Nat.reduceMul, Int.reduceAdd, Int.reduceSub, Int.reduceMul, Int.reduceNeg, Int.reduceEq, Int.reduceLT, Int.reduceLE, jq_ldi_i, jq_ldl_l, jq_lda_a, jq_inc_i, jq_gs_t, jq_gsb_t, jq_gb_t, jq_gr_2, jq_gr_4, jq_gw_2, jq_s_t, jq_b_t, jg_c, jg_n, js_c, js_n, jrm_c, jrm_n, j2_i, j2_l, j2_a, jq_c_i, jq_c_l, jq_c_0, jq_c_n, jwd_le, jw_c0, mS_I, mS_R, mS_J, mN_I, mN_R, mN_J, mR_I, mI_R, mJ_I, mJ_R, mI_J, mR_J, ↓reduceIte, decide_true, or_true, true_or, and_self, false_or, or_false, reduceCtorEq, Bool.false_eq_true, and_false, false_and, eq_self, true_and, and_true, zero_ne, ↓br_lt_t, ↓br_lt_f, ↓br_eq_t, ↓br_eq_f, ↓br_lz_t, ↓br_lz_f, ↓br_ez_t, ↓br_ez_f, ↓br_gz_t, ↓br_gz_f, jw_id, jin_t, jix_t, ↓ite_t, ↓ite_f, us, u4, u5, i4]
    · rw [if_neg c12] at eE
      rw [if_neg (by omega), if_neg (by omega)] at eK
      refine ⟨setI W 101 4 (gSo (T s)), ?_, hWR.set (by omega), ⟨hp, by rw [mI_s, eK], by rw [mI_nk (by omega), w5, hs], by rw [mI_nk (by omega), w6, eE], fun y => by rw [eK] at y; omega⟩, fun k hk => by rw [mI_nk (by omega)]; exact wk k hk, fW.tr (Fr.I rfl)⟩
      rw [p22_103]
      simp (disch := omega) only [p22_0, p22_1, p22_2, p22_5, p22_9, p22_12, p22_13, p22_16, p22_19, p22_20, p22_23, p22_24, p22_27, p22_28, p22_31, p22_33, p22_36, p22_37i, p22_37a, p22_38, p22_41, p22_42, p22_43, p22_46, p22_50, p22_51, p22_54, p22_55, p22_56, p22_57, p22_60, p22_63, p22_66, p22_67, p22_70, p22_71, p22_74, p22_77, p22_78, p22_79, p22_82, p22_83, p22_84, p22_85, p22_86, p22_89, p22_90, p22_93, p22_94, p22_97, p22_100, p22_104, p22_107, p22_108, p22_111, p22_112, p22_115, p22_116, p22_119, p22_120, p22_121, p22_122, p22_125, p22_126, p22_127, p22_130, p22_134, p22_137, p22_138, p22_141, p22_144, p22_145, p22_146, p22_149, p22_150, p22_153, p22_154, p22_157, p22_160, p22_161, p22_164, p22_167, p22_168, p22_169, p22_172, p22_173, p22_176, p22_177, p22_178, p22_181, p22_182, p22_185, p22_187, p22_188, p22_189, p22_192, p22_193, p22_196, p22_197, p22_200, p22_201, p22_203, p22_204, p22_207, p22_208, p22_211, p22_214, p22_215i, p22_215a, p22_216, p22_219, p22_220, p22_221, p22_224, p22_228, p22_231, p22_232, p22_235, p22_236, p22_237, p22_240, p22_241, p22_244, p22_246, p22_249, p22_250, p22_253, p22_254, p22_255, p22_258, jwd_c, jwd_0, Nat.reduceLeDiff, Nat.reduceEqDiff, Nat.reduceAdd, Nat.reduceSub, Nat.reduceMul, Int.reduceAdd, Int.reduceSub, Int.reduceMul, Int.reduceNeg, Int.reduceEq, Int.reduceLT, Int.reduceLE, jq_ldi_i, jq_ldl_l, jq_lda_a, jq_inc_i, jq_gs_t, jq_gsb_t, jq_gb_t, jq_gr_2, jq_gr_4, jq_gw_2, jq_s_t, jq_b_t, jg_c, jg_n, js_c, js_n, jrm_c, jrm_n, j2_i, j2_l, j2_a, jq_c_i, jq_c_l, jq_c_0, jq_c_n, jwd_le, jw_c0, mS_I, mS_R, mS_J, mN_I, mN_R, mN_J, mR_I, mI_R, mJ_I, mJ_R, mI_J, mR_J, ↓reduceIte, decide_true, or_true, true_or, and_self, false_or, or_false, reduceCtorEq, Bool.false_eq_true, and_false, false_and, eq_self, true_and, and_true, zero_ne, ↓br_lt_t, ↓br_lt_f, ↓br_eq_t, ↓br_eq_f, ↓br_lz_t, ↓br_lz_f, ↓br_ez_t, ↓br_ez_f, ↓br_gz_t, ↓br_gz_f, jw_id, jin_t, jix_t, ↓ite_t, ↓ite_f, z1, mI_s]
theorem c_goOn (h : RC' w n cnt T) {p : Nat} (hp : p ≤ n) (h6 : mI w 101 6 = p) (h10 : mI w 101 10 = 0 ∧ mI w 101 11 = 0) : ∃ u, rn 22 (0, [(0, jvr 101)], [], w) = some (none, u) ∧ RC' u n cnt T ∧ tC u T n p ∧ (∀ k, k < 4 ∨ 8 ≤ k → mI u 101 k = mI w 101 k) ∧ Fr (fun b => b = 101) w u := by
  obtain ⟨u, e, r, ⟨t1, t2, t3, t4, t5⟩, k, f⟩ := c_go0 h hp h6
  exact ⟨u, e, r, ⟨t1, t2, t3, t4, t5, by rw [k 10 (by omega)]; exact h10.1, by rw [k 11 (by omega)]; exact h10.2⟩, k, f⟩
end TOK
