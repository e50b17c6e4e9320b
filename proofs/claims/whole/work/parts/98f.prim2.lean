/-! The reader: wholes, cells, sides, kinds; a line begun, in the model. -/
theorem tk_2m {T : Nat → Int} {n p : Nat} (hT : ∀ k, k < n → 0 ≤ T k ∧ T k ≤ 255) (hp : p ≤ n) (h2 : tK T n p = 2) : -100000 ≤ tN T n p ∧ tN T n p ≤ 100000 := by
  have sb := ts_bd (T := T) hp
  have tb := tke_bd (T := T) hp
  unfold tK at h2
  by_cases z : n ≤ tS T n p
  · rw [if_pos z] at h2
    omega
  · rw [if_neg z] at h2
    have d3 : tE T n p - tS T n p ≤ 3 := by
      by_cases y : gSo (T (tS T n p)) = 1
      · rw [if_pos y] at h2
        split at h2 <;> omega
      · rw [if_neg y] at h2
        by_cases x : gSo (T (tS T n p)) = 2
        · rw [if_pos x] at h2
          by_cases v : tE T n p - tS T n p ≤ 3
          · exact v
          · rw [if_neg v] at h2
            omega
        · rw [if_neg x] at h2
          exact absurd h2 x
    have key : ∀ m, m ≤ tE T n p - tS T n p → -48 * 200 * (m : Int) ≤ gNu T (tS T n p) m ∧ gNu T (tS T n p) m ≤ 20000 * (m : Int) := by
      intro m
      have b := fun k (hk : k < tE T n p - tS T n p) => hT (tS T n p + k) (by omega)
      have : m = 0 ∨ m = 1 ∨ m = 2 ∨ m = 3 ∨ 3 < m := by omega
      intro hm
      have e0 : gNu T (tS T n p) 0 = 0 := rfl
      have e1 : gNu T (tS T n p) 1 = gNu T (tS T n p) 0 * 10 + T (tS T n p + 0) - 48 := rfl
      have e2 : gNu T (tS T n p) 2 = gNu T (tS T n p) 1 * 10 + T (tS T n p + 1) - 48 := rfl
      have e3 : gNu T (tS T n p) 3 = gNu T (tS T n p) 2 * 10 + T (tS T n p + 2) - 48 := rfl
      rcases this with rfl | rfl | rfl | rfl | h
      · omega
      · have := b 0 (by omega)
        omega
      · have := b 0 (by omega)
        have := b 1 (by omega)
        omega
      · have := b 0 (by omega)
        have := b 1 (by omega)
        have := b 2 (by omega)
        omega
      · omega
    have := key (tE T n p - tS T n p) (Nat.le_refl _)
    unfold tN
    omega
/-- the words, one by one -/
def gWs (T : Nat → Int) (n : Nat) (s : gSg) : List Int → Int → Int
  | [], _ => -1
  | a :: t, i => if gIs T n s a = true then i else gWs T n s t (i + 1)
def gBg (a b c W : Int) : Int := if a = 1 then 3 else if b = 1 then 5 else if W = 0 ∨ c = 1 then 6 else 0
theorem wm_31 : wom 31 (gS2 "north") = true := by decide +kernel
theorem wm_32 : wom 32 (gS2 "east") = true := by decide +kernel
theorem wm_33 : wom 33 (gS2 "south") = true := by decide +kernel
theorem wm_34 : wom 34 (gS2 "west") = true := by decide +kernel
theorem wm_39 : wom 39 (gS2 "plain") = true := by decide +kernel
theorem wm_40 : wom 40 (gS2 "aunt") = true := by decide +kernel
theorem wm_41 : wom 41 (gS2 "child") = true := by decide +kernel
theorem wm_42 : wom 42 (gS2 "heavy") = true := by decide +kernel
section PRIM2
variable {w u : jmW} {T : Nat → Int} {n h : Nat} {H : Nat → Nat → Int} {s s2 : gSg}
theorem gws_n : ∀ (ws : List Int) (i : Int), (∀ c, gIs T n s c = false) → gWs T n s ws i = -1 := by
  intro ws
  induction ws with
  | nil => exact fun i h => rfl
  | cons a t ih =>
    intro i h
    have e : gWs T n s (a :: t) i = if gIs T n s a = true then i else gWs T n s t (i + 1) := rfl
    rw [e, if_neg (by rw [h a]; decide)]
    exact ih (i + 1) h
theorem pi_ws (ws : List Int) : pI T n ws s = gWs T n s ws 0 := by
  cases s with
  | inl p =>
    have eI : pI T n ws (.inl p) = if tK T n p = 1 then gWi ws (tW T n p) 0 else -1 := rfl
    rw [eI]
    have e1 : ∀ c, gIs T n (.inl p) c = decide (tK T n p = 1 ∧ tW T n p = c) := fun c => rfl
    by_cases z : tK T n p = 1
    · rw [if_pos z]
      generalize (0 : Int) = i
      induction ws generalizing i with
      | nil => rfl
      | cons a t ih =>
        have g1 : gWi (a :: t) (tW T n p) i = if tW T n p = a then i else gWi t (tW T n p) (i + 1) := rfl
        have g2 : gWs T n (.inl p) (a :: t) i = if gIs T n (.inl p) a = true then i else gWs T n (.inl p) t (i + 1) := rfl
        rw [g1, g2, e1 a, ih rfl (i + 1)]
        by_cases y : tW T n p = a
        · rw [if_pos y, if_pos (decide_eq_true ⟨z, y⟩)]
        · rw [if_neg y, if_neg (fun x => y (of_decide_eq_true x).2)]
    · rw [if_neg z, gws_n]
      exact fun c => (e1 c).trans (decide_eq_false (fun x => z x.1))
  | inr x => exact (gws_n ws 0 (fun c => rfl)).symm
theorem m_in2 {v lo hi : Int} (v1 : -100000 ≤ v) (v2 : v ≤ 100000) (l1 : -1000 ≤ lo) (l2 : lo ≤ 1000) (h1 : -1000 ≤ hi) (h2 : hi ≤ 1000) : rn 192 (0, [(0, .inl v), (1, .inl lo), (2, .inl hi)], [], w) = some (some (.inl (if lo ≤ v ∧ v ≤ hi then 1 else 0)), w) := by
  by_cases a : lo ≤ v
  · by_cases c : v ≤ hi
    · rw [if_pos ⟨a, c⟩]
      simp (disch := omega) only [p192_0, p192_1, p192_2, p192_5, p192_6, p192_7, p192_10, p192_11, p192_14, p192_15, jwd_c, jwd_0, Nat.reduceLeDiff, Nat.reduceEqDiff, Nat.reduceAdd, Nat.reduceSub, Nat.reduceMul, Int.reduceAdd, Int.reduceSub, Int.reduceMul, Int.reduceNeg, Int.reduceEq, Int.reduceLT, Int.reduceLE, jq_ldi_i, jq_ldl_l, jq_lda_a, jq_inc_i, jq_gs_t, jq_gsb_t, jq_gb_t, jq_gr_2, jq_gr_4, jq_gw_2, jq_s_t, jq_b_t, jg_c, jg_n, js_c, js_n, jrm_c, jrm_n, j2_i, j2_l, j2_a, jq_c_i, jq_c_l, jq_c_0, jq_c_n, jwd_le, jw_c0, mS_I, mS_R, mS_J, mN_I, mN_R, mN_J, mR_I, mI_R, mJ_I, mJ_R, mI_J, mR_J, ↓reduceIte, decide_true, or_true, true_or, and_self, false_or, or_false, reduceCtorEq, Bool.false_eq_true, and_false, false_and, eq_self, true_and, and_true, zero_ne, ↓br_lt_t, ↓br_lt_f, ↓br_eq_t, ↓br_eq_f, ↓br_lz_t, ↓br_lz_f, ↓br_ez_t, ↓br_ez_f, ↓br_gz_t, ↓br_gz_f, jw_id, jin_t, jix_t, ↓ite_t, ↓ite_f]
    · rw [if_neg (fun z => c z.2)]
      simp (disch := omega) only [p192_0, p192_1, p192_2, p192_5, p192_6, p192_7, p192_10, p192_11, p192_14, p192_15, jwd_c, jwd_0, Nat.reduceLeDiff, Nat.reduceEqDiff, Nat.reduceAdd, Nat.reduceSub, Nat.reduceMul, Int.reduceAdd, Int.reduceSub, Int.reduceMul, Int.reduceNeg, Int.reduceEq, Int.reduceLT, Int.reduceLE, jq_ldi_i, jq_ldl_l, jq_lda_a, jq_inc_i, jq_gs_t, jq_gsb_t, jq_gb_t, jq_gr_2, jq_gr_4, jq_gw_2, jq_s_t, jq_b_t, jg_c, jg_n, js_c, js_n, jrm_c, jrm_n, j2_i, j2_l, j2_a, jq_c_i, jq_c_l, jq_c_0, jq_c_n, jwd_le, jw_c0, mS_I, mS_R, mS_J, mN_I, mN_R, mN_J, mR_I, mI_R, mJ_I, mJ_R, mI_J, mR_J, ↓reduceIte, decide_true, or_true, true_or, and_self, false_or, or_false, reduceCtorEq, Bool.false_eq_true, and_false, false_and, eq_self, true_and, and_true, zero_ne, ↓br_lt_t, ↓br_lt_f, ↓br_eq_t, ↓br_eq_f, ↓br_lz_t, ↓br_lz_f, ↓br_ez_t, ↓br_ez_f, ↓br_gz_t, ↓br_gz_f, jw_id, jin_t, jix_t, ↓ite_t, ↓ite_f]
  · rw [if_neg (fun z => a z.1)]
    simp (disch := omega) only [p192_0, p192_1, p192_2, p192_5, p192_6, p192_7, p192_10, p192_11, p192_14, p192_15, jwd_c, jwd_0, Nat.reduceLeDiff, Nat.reduceEqDiff, Nat.reduceAdd, Nat.reduceSub, Nat.reduceMul, Int.reduceAdd, Int.reduceSub, Int.reduceMul, Int.reduceNeg, Int.reduceEq, Int.reduceLT, Int.reduceLE, jq_ldi_i, jq_ldl_l, jq_lda_a, jq_inc_i, jq_gs_t, jq_gsb_t, jq_gb_t, jq_gr_2, jq_gr_4, jq_gw_2, jq_s_t, jq_b_t, jg_c, jg_n, js_c, js_n, jrm_c, jrm_n, j2_i, j2_l, j2_a, jq_c_i, jq_c_l, jq_c_0, jq_c_n, jwd_le, jw_c0, mS_I, mS_R, mS_J, mN_I, mN_R, mN_J, mR_I, mI_R, mJ_I, mJ_R, mI_J, mR_J, ↓reduceIte, decide_true, or_true, true_or, and_self, false_or, or_false, reduceCtorEq, Bool.false_eq_true, and_false, false_and, eq_self, true_and, and_true, zero_ne, ↓br_lt_t, ↓br_lt_f, ↓br_eq_t, ↓br_eq_f, ↓br_lz_t, ↓br_lz_f, ↓br_ez_t, ↓br_ez_f, ↓br_gz_t, ↓br_gz_f, jw_id, jin_t, jix_t, ↓ite_t, ↓ite_f]
theorem ms_bounded (M : MS w T n h H s) {lo hi : Int} (l1 : -1000 ≤ lo) (l2 : lo ≤ 1000) (h1 : -1000 ≤ hi) (h2 : hi ≤ 1000) : ∃ u, rn 191 (0, [(0, jvr 238), (1, .inl lo), (2, .inl hi)], [], w) = some (some (.inl (pV T n lo hi s)), u) ∧ MS u T n h H (pB T n lo hi s) ∧ Ftk w u := by
  have K := M.k
  have a := M.a
  cases s with
  | inl p =>
    obtain ⟨k1, k2, k3, k4, k5, k6, k7, k8⟩ := K
    have b := gMk_bd (tK T n p)
    have eB : pB T n lo hi (.inl p) = if tK T n p = 2 then (if lo ≤ tN T n p ∧ tN T n p ≤ hi then .inl p else .inr (4, (tS T n p : Int))) else .inr (1, (tS T n p : Int)) := rfl
    have eV : pV T n lo hi (.inl p) = if tK T n p = 2 ∧ lo ≤ tN T n p ∧ tN T n p ≤ hi then tN T n p else lo := rfl
    by_cases z : tK T n p = 2
    · have k6 := k6 z
      have nb := tk_2m (n := n) M.tp.2.2.2.2.2.2.2.2 k1 z
      rw [gMk_2.mpr z] at k3
      rw [if_pos z] at eB
      have ei := m_in2 (w := w) nb.1 nb.2 l1 l2 h1 h2
      by_cases y : lo ≤ tN T n p ∧ tN T n p ≤ hi
      · rw [if_pos y] at eB ei
        rw [if_pos ⟨z, y⟩] at eV
        rw [eB, eV]
        refine ⟨w, ?_, M, Ftk.rf⟩
        simp (disch := omega) only [p191_0, p191_1, p191_4, p191_5, p191_8, p191_9, p191_10, p191_13, p191_16, p191_17, p191_20, p191_21, p191_22, p191_25, p191_28, p191_29, p191_30, p191_33, p191_34, p191_37, p191_38, p191_41, p191_42, p191_45, p191_46, p191_49, jwd_c, jwd_0, Nat.reduceLeDiff, Nat.reduceEqDiff, Nat.reduceAdd, Nat.reduceSub, Nat.reduceMul, Int.reduceAdd, Int.reduceSub, Int.reduceMul, Int.reduceNeg, Int.reduceEq, Int.reduceLT, Int.reduceLE, jq_ldi_i, jq_ldl_l, jq_lda_a, jq_inc_i, jq_gs_t, jq_gsb_t, jq_gb_t, jq_gr_2, jq_gr_4, jq_gw_2, jq_s_t, jq_b_t, jg_c, jg_n, js_c, js_n, jrm_c, jrm_n, j2_i, j2_l, j2_a, jq_c_i, jq_c_l, jq_c_0, jq_c_n, jwd_le, jw_c0, mS_I, mS_R, mS_J, mN_I, mN_R, mN_J, mR_I, mI_R, mJ_I, mJ_R, mI_J, mR_J, ↓reduceIte, decide_true, or_true, true_or, and_self, false_or, or_false, reduceCtorEq, Bool.false_eq_true, and_false, false_and, eq_self, true_and, and_true, zero_ne, ↓br_lt_t, ↓br_lt_f, ↓br_eq_t, ↓br_eq_f, ↓br_lz_t, ↓br_lz_f, ↓br_ez_t, ↓br_ez_f, ↓br_gz_t, ↓br_gz_f, jw_id, jin_t, jix_t, ↓ite_t, ↓ite_f, a, k3, k6, ei]
      · rw [if_neg y] at eB ei
        rw [if_neg (fun x => y x.2)] at eV
        rw [eB, eV]
        obtain ⟨v, e1, M1, f1⟩ := ms_flaw M (f := 4)
        have av := M1.a
        have k9 := M1.k.1
        refine ⟨v, ?_, M1, f1⟩
        simp (disch := omega) only [p191_0, p191_1, p191_4, p191_5, p191_8, p191_9, p191_10, p191_13, p191_16, p191_17, p191_20, p191_21, p191_22, p191_25, p191_28, p191_29, p191_30, p191_33, p191_34, p191_37, p191_38, p191_41, p191_42, p191_45, p191_46, p191_49, jwd_c, jwd_0, Nat.reduceLeDiff, Nat.reduceEqDiff, Nat.reduceAdd, Nat.reduceSub, Nat.reduceMul, Int.reduceAdd, Int.reduceSub, Int.reduceMul, Int.reduceNeg, Int.reduceEq, Int.reduceLT, Int.reduceLE, jq_ldi_i, jq_ldl_l, jq_lda_a, jq_inc_i, jq_gs_t, jq_gsb_t, jq_gb_t, jq_gr_2, jq_gr_4, jq_gw_2, jq_s_t, jq_b_t, jg_c, jg_n, js_c, js_n, jrm_c, jrm_n, j2_i, j2_l, j2_a, jq_c_i, jq_c_l, jq_c_0, jq_c_n, jwd_le, jw_c0, mS_I, mS_R, mS_J, mN_I, mN_R, mN_J, mR_I, mI_R, mJ_I, mJ_R, mI_J, mR_J, ↓reduceIte, decide_true, or_true, true_or, and_self, false_or, or_false, reduceCtorEq, Bool.false_eq_true, and_false, false_and, eq_self, true_and, and_true, zero_ne, ↓br_lt_t, ↓br_lt_f, ↓br_eq_t, ↓br_eq_f, ↓br_lz_t, ↓br_lz_f, ↓br_ez_t, ↓br_ez_f, ↓br_gz_t, ↓br_gz_f, jw_id, jin_t, jix_t, ↓ite_t, ↓ite_f, a, k3, k6, ei, e1, av, k9]
    · rw [if_neg z] at eB
      rw [if_neg (fun x => z x.1)] at eV
      rw [eB, eV]
      have k3' : mI w 238 9 ≠ 3 := fun x => z (gMk_2.mp (by omega))
      obtain ⟨v, e1, M1, f1⟩ := ms_flaw M (f := 1)
      have av := M1.a
      have k9 := M1.k.1
      refine ⟨v, ?_, M1, f1⟩
      simp (disch := omega) only [p191_0, p191_1, p191_4, p191_5, p191_8, p191_9, p191_10, p191_13, p191_16, p191_17, p191_20, p191_21, p191_22, p191_25, p191_28, p191_29, p191_30, p191_33, p191_34, p191_37, p191_38, p191_41, p191_42, p191_45, p191_46, p191_49, jwd_c, jwd_0, Nat.reduceLeDiff, Nat.reduceEqDiff, Nat.reduceAdd, Nat.reduceSub, Nat.reduceMul, Int.reduceAdd, Int.reduceSub, Int.reduceMul, Int.reduceNeg, Int.reduceEq, Int.reduceLT, Int.reduceLE, jq_ldi_i, jq_ldl_l, jq_lda_a, jq_inc_i, jq_gs_t, jq_gsb_t, jq_gb_t, jq_gr_2, jq_gr_4, jq_gw_2, jq_s_t, jq_b_t, jg_c, jg_n, js_c, js_n, jrm_c, jrm_n, j2_i, j2_l, j2_a, jq_c_i, jq_c_l, jq_c_0, jq_c_n, jwd_le, jw_c0, mS_I, mS_R, mS_J, mN_I, mN_R, mN_J, mR_I, mI_R, mJ_I, mJ_R, mI_J, mR_J, ↓reduceIte, decide_true, or_true, true_or, and_self, false_or, or_false, reduceCtorEq, Bool.false_eq_true, and_false, false_and, eq_self, true_and, and_true, zero_ne, ↓br_lt_t, ↓br_lt_f, ↓br_eq_t, ↓br_eq_f, ↓br_lz_t, ↓br_lz_f, ↓br_ez_t, ↓br_ez_f, ↓br_gz_t, ↓br_gz_f, jw_id, jin_t, jix_t, ↓ite_t, ↓ite_f, a, e1, av, k9]
  | inr x =>
    have k9 := K.1
    obtain ⟨v, e1, M1, f1⟩ := ms_flaw M (f := 1)
    have av := M1.a
    have k9' := M1.k.1
    refine ⟨v, ?_, M1, f1⟩
    show _ = some (some ((Sum.inl lo : jmV)), v)
    simp (disch := omega) only [p191_0, p191_1, p191_4, p191_5, p191_8, p191_9, p191_10, p191_13, p191_16, p191_17, p191_20, p191_21, p191_22, p191_25, p191_28, p191_29, p191_30, p191_33, p191_34, p191_37, p191_38, p191_41, p191_42, p191_45, p191_46, p191_49, jwd_c, jwd_0, Nat.reduceLeDiff, Nat.reduceEqDiff, Nat.reduceAdd, Nat.reduceSub, Nat.reduceMul, Int.reduceAdd, Int.reduceSub, Int.reduceMul, Int.reduceNeg, Int.reduceEq, Int.reduceLT, Int.reduceLE, jq_ldi_i, jq_ldl_l, jq_lda_a, jq_inc_i, jq_gs_t, jq_gsb_t, jq_gb_t, jq_gr_2, jq_gr_4, jq_gw_2, jq_s_t, jq_b_t, jg_c, jg_n, js_c, js_n, jrm_c, jrm_n, j2_i, j2_l, j2_a, jq_c_i, jq_c_l, jq_c_0, jq_c_n, jwd_le, jw_c0, mS_I, mS_R, mS_J, mN_I, mN_R, mN_J, mR_I, mI_R, mJ_I, mJ_R, mI_J, mR_J, ↓reduceIte, decide_true, or_true, true_or, and_self, false_or, or_false, reduceCtorEq, Bool.false_eq_true, and_false, false_and, eq_self, true_and, and_true, zero_ne, ↓br_lt_t, ↓br_lt_f, ↓br_eq_t, ↓br_eq_f, ↓br_lz_t, ↓br_lz_f, ↓br_ez_t, ↓br_ez_f, ↓br_gz_t, ↓br_gz_f, jw_id, jin_t, jix_t, ↓ite_t, ↓ite_f, a, k9, e1, av, k9']
theorem pB_k {lo hi : Int} {q : Nat} (h : pB T n lo hi s = .inl q) : tK T n q = 2 := by
  cases s with
  | inl a =>
    have e : pB T n lo hi (.inl a) = if tK T n a = 2 then (if lo ≤ tN T n a ∧ tN T n a ≤ hi then .inl a else .inr (4, (tS T n a : Int))) else .inr (1, (tS T n a : Int)) := rfl
    rw [e] at h
    by_cases z : tK T n a = 2
    · rw [if_pos z] at h
      by_cases y : lo ≤ tN T n a ∧ tN T n a ≤ hi
      · rw [if_pos y] at h
        rw [← Sum.inl.inj h]
        exact z
      · rw [if_neg y] at h
        cases h
    · rw [if_neg z] at h
      cases h
  | inr x =>
    have h : (Sum.inr x : gSg) = .inl q := h
    cases h
theorem ms_whole (M : MS w T n h H s) {lo hi : Int} (l1 : -1000 ≤ lo) (l2 : lo ≤ 1000) (h1 : -1000 ≤ hi) (h2 : hi ≤ 1000) : ∃ u, rn 190 (0, [(0, jvr 238), (1, .inl lo), (2, .inl hi)], [], w) = some (some (.inl (pV T n lo hi s)), u) ∧ MS u T n h H (pN T n lo hi s) ∧ Ftk w u := by
  have a := M.a
  obtain ⟨v, e1, M1, f1⟩ := ms_bounded M l1 l2 h1 h2
  obtain ⟨u, e2, M2, f2⟩ := ms_go M1 (fun p e => by
    have := pB_k e
    omega)
  have av := M1.a
  refine ⟨u, ?_, M2, f1.tr f2⟩
  simp (disch := omega) only [p190_0, p190_1, p190_2, p190_3, p190_6, p190_7, p190_8, p190_11, p190_12, jwd_c, jwd_0, Nat.reduceLeDiff, Nat.reduceEqDiff, Nat.reduceAdd, Nat.reduceSub, Nat.reduceMul, Int.reduceAdd, Int.reduceSub, Int.reduceMul, Int.reduceNeg, Int.reduceEq, Int.reduceLT, Int.reduceLE, jq_ldi_i, jq_ldl_l, jq_lda_a, jq_inc_i, jq_gs_t, jq_gsb_t, jq_gb_t, jq_gr_2, jq_gr_4, jq_gw_2, jq_s_t, jq_b_t, jg_c, jg_n, js_c, js_n, jrm_c, jrm_n, j2_i, j2_l, j2_a, jq_c_i, jq_c_l, jq_c_0, jq_c_n, jwd_le, jw_c0, mS_I, mS_R, mS_J, mN_I, mN_R, mN_J, mR_I, mI_R, mJ_I, mJ_R, mI_J, mR_J, ↓reduceIte, decide_true, or_true, true_or, and_self, false_or, or_false, reduceCtorEq, Bool.false_eq_true, and_false, false_and, eq_self, true_and, and_true, zero_ne, ↓br_lt_t, ↓br_lt_f, ↓br_eq_t, ↓br_eq_f, ↓br_lz_t, ↓br_lz_f, ↓br_ez_t, ↓br_ez_f, ↓br_gz_t, ↓br_gz_f, jw_id, jin_t, jix_t, ↓ite_t, ↓ite_f, a, e1, av, e2]
theorem ms_part (M : MS w T n h H s) {k : Nat} {c : List Nat} (wo : wom k c = true) {lo hi : Int} (l1 : -1000 ≤ lo) (l2 : lo ≤ 1000) (h1 : -1000 ≤ hi) (h2 : hi ≤ 1000) : ∃ u, rn 188 (0, [(0, jvr 238), (1, jvr (2 + k)), (2, .inl lo), (3, .inl hi)], [], w) = some (some (.inl (pV T n lo hi (pO T n [cD c] s))), u) ∧ MS u T n h H (pN T n lo hi (pO T n [cD c] s)) ∧ Ftk w u := by
  have a := M.a
  obtain ⟨v, e1, M1, f1⟩ := ms_needs M wo
  obtain ⟨u, e2, M2, f2⟩ := ms_whole M1 l1 l2 h1 h2
  have av := M1.a
  refine ⟨u, ?_, M2, f1.tr f2⟩
  simp (disch := omega) only [p188_0, p188_1, p188_2, p188_5, p188_6, p188_7, p188_8, p188_11, jwd_c, jwd_0, Nat.reduceLeDiff, Nat.reduceEqDiff, Nat.reduceAdd, Nat.reduceSub, Nat.reduceMul, Int.reduceAdd, Int.reduceSub, Int.reduceMul, Int.reduceNeg, Int.reduceEq, Int.reduceLT, Int.reduceLE, jq_ldi_i, jq_ldl_l, jq_lda_a, jq_inc_i, jq_gs_t, jq_gsb_t, jq_gb_t, jq_gr_2, jq_gr_4, jq_gw_2, jq_s_t, jq_b_t, jg_c, jg_n, js_c, js_n, jrm_c, jrm_n, j2_i, j2_l, j2_a, jq_c_i, jq_c_l, jq_c_0, jq_c_n, jwd_le, jw_c0, mS_I, mS_R, mS_J, mN_I, mN_R, mN_J, mR_I, mI_R, mJ_I, mJ_R, mI_J, mR_J, ↓reduceIte, decide_true, or_true, true_or, and_self, false_or, or_false, reduceCtorEq, Bool.false_eq_true, and_false, false_and, eq_self, true_and, and_true, zero_ne, ↓br_lt_t, ↓br_lt_f, ↓br_eq_t, ↓br_eq_f, ↓br_lz_t, ↓br_lz_f, ↓br_ez_t, ↓br_ez_f, ↓br_gz_t, ↓br_gz_f, jw_id, jin_t, jix_t, ↓ite_t, ↓ite_f, a, e1, av, e2]
theorem ms_cell (M : MS w T n h H s) (hW : 0 ≤ H 0 0 ∧ H 0 0 ≤ 8 ∧ 0 ≤ H 0 1 ∧ H 0 1 ≤ 6) : ∃ u, rn 196 (0, [(0, jvr 238)], [], w) = some (some (.inl (pCell T n (H 0 0) (H 0 1) s)), u) ∧ MS u T n h H (pCb T n (H 0 0) (H 0 1) s) ∧ Ftk w u := by
  obtain ⟨u1, e1, M1, f1⟩ := ms_whole M (lo := 0) (hi := H 0 0 - 1) (by omega) (by omega) (by omega) (by omega)
  obtain ⟨u2, e2, M2, f2⟩ := ms_sign M1 (k := 4) (c := 44) (by omega)
  obtain ⟨u3, e3, M3, f3⟩ := ms_bounded M2 (lo := 0) (hi := H 0 1 - 1) (by omega) (by omega) (by omega) (by omega)
  refine ⟨u3, ?_, M3, (f1.tr f2).tr f3⟩
  simp (disch := omega) only [p196_0, p196_1, p196_2, p196_3, p196_6, p196_9, p196_10, p196_11, p196_14, p196_15, p196_16, p196_18, p196_21, p196_22, p196_25, p196_28, p196_29, p196_30, p196_31, p196_34, p196_37, p196_38, p196_39, p196_42, p196_43, p196_44, p196_45, jwd_c, jwd_0, Nat.reduceLeDiff, Nat.reduceEqDiff, Nat.reduceAdd, Nat.reduceSub, Nat.reduceMul, Int.reduceAdd, Int.reduceSub, Int.reduceMul, Int.reduceNeg, Int.reduceEq, Int.reduceLT, Int.reduceLE, jq_ldi_i, jq_ldl_l, jq_lda_a, jq_inc_i, jq_gs_t, jq_gsb_t, jq_gb_t, jq_gr_2, jq_gr_4, jq_gw_2, jq_s_t, jq_b_t, jg_c, jg_n, js_c, js_n, jrm_c, jrm_n, j2_i, j2_l, j2_a, jq_c_i, jq_c_l, jq_c_0, jq_c_n, jwd_le, jw_c0, mS_I, mS_R, mS_J, mN_I, mN_R, mN_J, mR_I, mI_R, mJ_I, mJ_R, mI_J, mR_J, ↓reduceIte, decide_true, or_true, true_or, and_self, false_or, or_false, reduceCtorEq, Bool.false_eq_true, and_false, false_and, eq_self, true_and, and_true, zero_ne, ↓br_lt_t, ↓br_lt_f, ↓br_eq_t, ↓br_eq_f, ↓br_lz_t, ↓br_lz_f, ↓br_ez_t, ↓br_ez_f, ↓br_gz_t, ↓br_gz_f, jw_id, jin_t, jix_t, ↓ite_t, ↓ite_f, MS.a M, MS.r4 M, MS.b M, MS.f0 M, MS.f1 M, MS.f2 M, MS.f3 M, MS.f4 M, MS.f5 M, MS.f6 M, MS.f7 M, MS.f8 M, MS.f10 M, MS.f12 M, MS.f13 M, MS.a M1, MS.r4 M1, MS.b M1, MS.f0 M1, MS.f1 M1, MS.f2 M1, MS.f3 M1, MS.f4 M1, MS.f5 M1, MS.f6 M1, MS.f7 M1, MS.f8 M1, MS.f10 M1, MS.f12 M1, MS.f13 M1, MS.a M2, MS.r4 M2, MS.b M2, MS.f0 M2, MS.f1 M2, MS.f2 M2, MS.f3 M2, MS.f4 M2, MS.f5 M2, MS.f6 M2, MS.f7 M2, MS.f8 M2, MS.f10 M2, MS.f12 M2, MS.f13 M2, MS.a M3, MS.r4 M3, MS.b M3, MS.f0 M3, MS.f1 M3, MS.f2 M3, MS.f3 M3, MS.f4 M3, MS.f5 M3, MS.f6 M3, MS.f7 M3, MS.f8 M3, MS.f10 M3, MS.f12 M3, MS.f13 M3, e1, e2, e3]
  rfl
theorem pd_i {q : Nat} (h : pD T n s = .inl q) : s = .inl q ∧ 0 ≤ pI T n (cs wSd) s := by
  unfold pD at h
  by_cases z : pI T n (cs wSd) s < 0
  · rw [if_pos z] at h
    exact (pf_n h).elim
  · rw [if_neg z] at h
    exact ⟨h, by omega⟩
/-- of four words, which -/
theorem ws_4 {a b c d : Int} : gWs T n s [a, b, c, d] 0 = if gIs T n s a = true then 0 else if gIs T n s b = true then 1 else if gIs T n s c = true then 2 else if gIs T n s d = true then 3 else -1 := rfl
theorem ms_side (M : MS w T n h H s) : ∃ u, rn 202 (0, [(0, jvr 238)], [], w) = some (some (.inl (pI T n (cs wSd) s)), u) ∧ MS u T n h H (pD T n s) ∧ Ftk w u := by
  have a := M.a
  have e1 := ms_isWord M wm_31
  have e2 := ms_isWord M wm_32
  have e3 := ms_isWord M wm_33
  have e4 := ms_isWord M wm_34
  have eI : pI T n (cs wSd) s = if gIs T n s (cD (gS2 "north")) = true then 0 else if gIs T n s (cD (gS2 "east")) = true then 1 else if gIs T n s (cD (gS2 "south")) = true then 2 else if gIs T n s (cD (gS2 "west")) = true then 3 else -1 := (pi_ws _).trans ws_4
  unfold pD
  rw [eI]
  by_cases z1 : gIs T n s (cD (gS2 "north")) = true
  · rw [if_pos z1] at e1 ⊢
    rw [if_neg (by decide)]
    refine ⟨w, ?_, M, Ftk.rf⟩
    simp (disch := omega) only [p202_0, p202_1, p202_3, p202_6, p202_9, p202_10, p202_13, p202_14, p202_16, p202_19, p202_22, p202_23, p202_26, p202_27, p202_29, p202_32, p202_35, p202_36, p202_39, p202_40, p202_42, p202_45, p202_48, p202_49, p202_52, p202_53, p202_54, p202_55, p202_56, p202_59, p202_60, p202_61, p202_64, p202_65, jwd_c, jwd_0, Nat.reduceLeDiff, Nat.reduceEqDiff, Nat.reduceAdd, Nat.reduceSub, Nat.reduceMul, Int.reduceAdd, Int.reduceSub, Int.reduceMul, Int.reduceNeg, Int.reduceEq, Int.reduceLT, Int.reduceLE, jq_ldi_i, jq_ldl_l, jq_lda_a, jq_inc_i, jq_gs_t, jq_gsb_t, jq_gb_t, jq_gr_2, jq_gr_4, jq_gw_2, jq_s_t, jq_b_t, jg_c, jg_n, js_c, js_n, jrm_c, jrm_n, j2_i, j2_l, j2_a, jq_c_i, jq_c_l, jq_c_0, jq_c_n, jwd_le, jw_c0, mS_I, mS_R, mS_J, mN_I, mN_R, mN_J, mR_I, mI_R, mJ_I, mJ_R, mI_J, mR_J, ↓reduceIte, decide_true, or_true, true_or, and_self, false_or, or_false, reduceCtorEq, Bool.false_eq_true, and_false, false_and, eq_self, true_and, and_true, zero_ne, ↓br_lt_t, ↓br_lt_f, ↓br_eq_t, ↓br_eq_f, ↓br_lz_t, ↓br_lz_f, ↓br_ez_t, ↓br_ez_f, ↓br_gz_t, ↓br_gz_f, jw_id, jin_t, jix_t, ↓ite_t, ↓ite_f, a, e1]
  rw [if_neg z1] at e1 ⊢
  by_cases z2 : gIs T n s (cD (gS2 "east")) = true
  · rw [if_pos z2] at e2 ⊢
    rw [if_neg (by decide)]
    refine ⟨w, ?_, M, Ftk.rf⟩
    simp (disch := omega) only [p202_0, p202_1, p202_3, p202_6, p202_9, p202_10, p202_13, p202_14, p202_16, p202_19, p202_22, p202_23, p202_26, p202_27, p202_29, p202_32, p202_35, p202_36, p202_39, p202_40, p202_42, p202_45, p202_48, p202_49, p202_52, p202_53, p202_54, p202_55, p202_56, p202_59, p202_60, p202_61, p202_64, p202_65, jwd_c, jwd_0, Nat.reduceLeDiff, Nat.reduceEqDiff, Nat.reduceAdd, Nat.reduceSub, Nat.reduceMul, Int.reduceAdd, Int.reduceSub, Int.reduceMul, Int.reduceNeg, Int.reduceEq, Int.reduceLT, Int.reduceLE, jq_ldi_i, jq_ldl_l, jq_lda_a, jq_inc_i, jq_gs_t, jq_gsb_t, jq_gb_t, jq_gr_2, jq_gr_4, jq_gw_2, jq_s_t, jq_b_t, jg_c, jg_n, js_c, js_n, jrm_c, jrm_n, j2_i, j2_l, j2_a, jq_c_i, jq_c_l, jq_c_0, jq_c_n, jwd_le, jw_c0, mS_I, mS_R, mS_J, mN_I, mN_R, mN_J, mR_I, mI_R, mJ_I, mJ_R, mI_J, mR_J, ↓reduceIte, decide_true, or_true, true_or, and_self, false_or, or_false, reduceCtorEq, Bool.false_eq_true, and_false, false_and, eq_self, true_and, and_true, zero_ne, ↓br_lt_t, ↓br_lt_f, ↓br_eq_t, ↓br_eq_f, ↓br_lz_t, ↓br_lz_f, ↓br_ez_t, ↓br_ez_f, ↓br_gz_t, ↓br_gz_f, jw_id, jin_t, jix_t, ↓ite_t, ↓ite_f, a, e1, e2]
  rw [if_neg z2] at e2 ⊢
  by_cases z3 : gIs T n s (cD (gS2 "south")) = true
  · rw [if_pos z3] at e3 ⊢
    rw [if_neg (by decide)]
    refine ⟨w, ?_, M, Ftk.rf⟩
    simp (disch := omega) only [p202_0, p202_1, p202_3, p202_6, p202_9, p202_10, p202_13, p202_14, p202_16, p202_19, p202_22, p202_23, p202_26, p202_27, p202_29, p202_32, p202_35, p202_36, p202_39, p202_40, p202_42, p202_45, p202_48, p202_49, p202_52, p202_53, p202_54, p202_55, p202_56, p202_59, p202_60, p202_61, p202_64, p202_65, jwd_c, jwd_0, Nat.reduceLeDiff, Nat.reduceEqDiff, Nat.reduceAdd, Nat.reduceSub, Nat.reduceMul, Int.reduceAdd, Int.reduceSub, Int.reduceMul, Int.reduceNeg, Int.reduceEq, Int.reduceLT, Int.reduceLE, jq_ldi_i, jq_ldl_l, jq_lda_a, jq_inc_i, jq_gs_t, jq_gsb_t, jq_gb_t, jq_gr_2, jq_gr_4, jq_gw_2, jq_s_t, jq_b_t, jg_c, jg_n, js_c, js_n, jrm_c, jrm_n, j2_i, j2_l, j2_a, jq_c_i, jq_c_l, jq_c_0, jq_c_n, jwd_le, jw_c0, mS_I, mS_R, mS_J, mN_I, mN_R, mN_J, mR_I, mI_R, mJ_I, mJ_R, mI_J, mR_J, ↓reduceIte, decide_true, or_true, true_or, and_self, false_or, or_false, reduceCtorEq, Bool.false_eq_true, and_false, false_and, eq_self, true_and, and_true, zero_ne, ↓br_lt_t, ↓br_lt_f, ↓br_eq_t, ↓br_eq_f, ↓br_lz_t, ↓br_lz_f, ↓br_ez_t, ↓br_ez_f, ↓br_gz_t, ↓br_gz_f, jw_id, jin_t, jix_t, ↓ite_t, ↓ite_f, a, e1, e2, e3]
  rw [if_neg z3] at e3 ⊢
  by_cases z4 : gIs T n s (cD (gS2 "west")) = true
  · rw [if_pos z4] at e4 ⊢
    rw [if_neg (by decide)]
    refine ⟨w, ?_, M, Ftk.rf⟩
    simp (disch := omega) only [p202_0, p202_1, p202_3, p202_6, p202_9, p202_10, p202_13, p202_14, p202_16, p202_19, p202_22, p202_23, p202_26, p202_27, p202_29, p202_32, p202_35, p202_36, p202_39, p202_40, p202_42, p202_45, p202_48, p202_49, p202_52, p202_53, p202_54, p202_55, p202_56, p202_59, p202_60, p202_61, p202_64, p202_65, jwd_c, jwd_0, Nat.reduceLeDiff, Nat.reduceEqDiff, Nat.reduceAdd, Nat.reduceSub, Nat.reduceMul, Int.reduceAdd, Int.reduceSub, Int.reduceMul, Int.reduceNeg, Int.reduceEq, Int.reduceLT, Int.reduceLE, jq_ldi_i, jq_ldl_l, jq_lda_a, jq_inc_i, jq_gs_t, jq_gsb_t, jq_gb_t, jq_gr_2, jq_gr_4, jq_gw_2, jq_s_t, jq_b_t, jg_c, jg_n, js_c, js_n, jrm_c, jrm_n, j2_i, j2_l, j2_a, jq_c_i, jq_c_l, jq_c_0, jq_c_n, jwd_le, jw_c0, mS_I, mS_R, mS_J, mN_I, mN_R, mN_J, mR_I, mI_R, mJ_I, mJ_R, mI_J, mR_J, ↓reduceIte, decide_true, or_true, true_or, and_self, false_or, or_false, reduceCtorEq, Bool.false_eq_true, and_false, false_and, eq_self, true_and, and_true, zero_ne, ↓br_lt_t, ↓br_lt_f, ↓br_eq_t, ↓br_eq_f, ↓br_lz_t, ↓br_lz_f, ↓br_ez_t, ↓br_ez_f, ↓br_gz_t, ↓br_gz_f, jw_id, jin_t, jix_t, ↓ite_t, ↓ite_f, a, e1, e2, e3, e4]
  rw [if_neg z4] at e4 ⊢
  rw [if_pos (by decide)]
  obtain ⟨u, e5, M2, f⟩ := ms_flaw M (f := 1)
  refine ⟨u, ?_, M2, f⟩
  simp (disch := omega) only [p202_0, p202_1, p202_3, p202_6, p202_9, p202_10, p202_13, p202_14, p202_16, p202_19, p202_22, p202_23, p202_26, p202_27, p202_29, p202_32, p202_35, p202_36, p202_39, p202_40, p202_42, p202_45, p202_48, p202_49, p202_52, p202_53, p202_54, p202_55, p202_56, p202_59, p202_60, p202_61, p202_64, p202_65, jwd_c, jwd_0, Nat.reduceLeDiff, Nat.reduceEqDiff, Nat.reduceAdd, Nat.reduceSub, Nat.reduceMul, Int.reduceAdd, Int.reduceSub, Int.reduceMul, Int.reduceNeg, Int.reduceEq, Int.reduceLT, Int.reduceLE, jq_ldi_i, jq_ldl_l, jq_lda_a, jq_inc_i, jq_gs_t, jq_gsb_t, jq_gb_t, jq_gr_2, jq_gr_4, jq_gw_2, jq_s_t, jq_b_t, jg_c, jg_n, js_c, js_n, jrm_c, jrm_n, j2_i, j2_l, j2_a, jq_c_i, jq_c_l, jq_c_0, jq_c_n, jwd_le, jw_c0, mS_I, mS_R, mS_J, mN_I, mN_R, mN_J, mR_I, mI_R, mJ_I, mJ_R, mI_J, mR_J, ↓reduceIte, decide_true, or_true, true_or, and_self, false_or, or_false, reduceCtorEq, Bool.false_eq_true, and_false, false_and, eq_self, true_and, and_true, zero_ne, ↓br_lt_t, ↓br_lt_f, ↓br_eq_t, ↓br_eq_f, ↓br_lz_t, ↓br_lz_f, ↓br_ez_t, ↓br_ez_f, ↓br_gz_t, ↓br_gz_f, jw_id, jin_t, jix_t, ↓ite_t, ↓ite_f, a, e1, e2, e3, e4, e5]
theorem ms_kind (M : MS w T n h H s) : ∃ u, rn 205 (0, [(0, jvr 238)], [], w) = some (some (.inl (pI T n (cs wKd) s)), u) ∧ MS u T n h H (pO T n (cs wKd) s) ∧ Ftk w u := by
  have a := M.a
  have e1 := ms_isWord M wm_39
  have e2 := ms_isWord M wm_40
  have e3 := ms_isWord M wm_41
  have e4 := ms_isWord M wm_42
  have gf := ms_gf M (b := 0 ≤ pI T n (cs wKd) s) (fun z p e => by
    subst e
    have := pi_k z
    omega) 1
  rw [po_g]
  have eI : pI T n (cs wKd) s = if gIs T n s (cD (gS2 "plain")) = true then 0 else if gIs T n s (cD (gS2 "aunt")) = true then 1 else if gIs T n s (cD (gS2 "child")) = true then 2 else if gIs T n s (cD (gS2 "heavy")) = true then 3 else -1 := (pi_ws _).trans ws_4
  by_cases z1 : gIs T n s (cD (gS2 "plain")) = true
  · rw [if_pos z1] at e1 eI
    obtain ⟨u, e5, M2, f⟩ := gf.1 (by omega)
    refine ⟨u, ?_, M2, f⟩
    rw [eI]
    simp (disch := omega) only [p205_0, p205_1, p205_3, p205_6, p205_9, p205_10, p205_13, p205_14, p205_16, p205_19, p205_22, p205_23, p205_26, p205_27, p205_29, p205_32, p205_35, p205_36, p205_39, p205_40, p205_42, p205_45, p205_48, p205_49, p205_52, p205_53, p205_54, p205_55, p205_56, p205_59, p205_60, p205_61, p205_64, p205_65, p205_68, p205_69, jwd_c, jwd_0, Nat.reduceLeDiff, Nat.reduceEqDiff, Nat.reduceAdd, Nat.reduceSub, Nat.reduceMul, Int.reduceAdd, Int.reduceSub, Int.reduceMul, Int.reduceNeg, Int.reduceEq, Int.reduceLT, Int.reduceLE, jq_ldi_i, jq_ldl_l, jq_lda_a, jq_inc_i, jq_gs_t, jq_gsb_t, jq_gb_t, jq_gr_2, jq_gr_4, jq_gw_2, jq_s_t, jq_b_t, jg_c, jg_n, js_c, js_n, jrm_c, jrm_n, j2_i, j2_l, j2_a, jq_c_i, jq_c_l, jq_c_0, jq_c_n, jwd_le, jw_c0, mS_I, mS_R, mS_J, mN_I, mN_R, mN_J, mR_I, mI_R, mJ_I, mJ_R, mI_J, mR_J, ↓reduceIte, decide_true, or_true, true_or, and_self, false_or, or_false, reduceCtorEq, Bool.false_eq_true, and_false, false_and, eq_self, true_and, and_true, zero_ne, ↓br_lt_t, ↓br_lt_f, ↓br_eq_t, ↓br_eq_f, ↓br_lz_t, ↓br_lz_f, ↓br_ez_t, ↓br_ez_f, ↓br_gz_t, ↓br_gz_f, jw_id, jin_t, jix_t, ↓ite_t, ↓ite_f, a, e1, e5]
  rw [if_neg z1] at e1 eI
  by_cases z2 : gIs T n s (cD (gS2 "aunt")) = true
  · rw [if_pos z2] at e2 eI
    obtain ⟨u, e5, M2, f⟩ := gf.1 (by omega)
    refine ⟨u, ?_, M2, f⟩
    rw [eI]
    simp (disch := omega) only [p205_0, p205_1, p205_3, p205_6, p205_9, p205_10, p205_13, p205_14, p205_16, p205_19, p205_22, p205_23, p205_26, p205_27, p205_29, p205_32, p205_35, p205_36, p205_39, p205_40, p205_42, p205_45, p205_48, p205_49, p205_52, p205_53, p205_54, p205_55, p205_56, p205_59, p205_60, p205_61, p205_64, p205_65, p205_68, p205_69, jwd_c, jwd_0, Nat.reduceLeDiff, Nat.reduceEqDiff, Nat.reduceAdd, Nat.reduceSub, Nat.reduceMul, Int.reduceAdd, Int.reduceSub, Int.reduceMul, Int.reduceNeg, Int.reduceEq, Int.reduceLT, Int.reduceLE, jq_ldi_i, jq_ldl_l, jq_lda_a, jq_inc_i, jq_gs_t, jq_gsb_t, jq_gb_t, jq_gr_2, jq_gr_4, jq_gw_2, jq_s_t, jq_b_t, jg_c, jg_n, js_c, js_n, jrm_c, jrm_n, j2_i, j2_l, j2_a, jq_c_i, jq_c_l, jq_c_0, jq_c_n, jwd_le, jw_c0, mS_I, mS_R, mS_J, mN_I, mN_R, mN_J, mR_I, mI_R, mJ_I, mJ_R, mI_J, mR_J, ↓reduceIte, decide_true, or_true, true_or, and_self, false_or, or_false, reduceCtorEq, Bool.false_eq_true, and_false, false_and, eq_self, true_and, and_true, zero_ne, ↓br_lt_t, ↓br_lt_f, ↓br_eq_t, ↓br_eq_f, ↓br_lz_t, ↓br_lz_f, ↓br_ez_t, ↓br_ez_f, ↓br_gz_t, ↓br_gz_f, jw_id, jin_t, jix_t, ↓ite_t, ↓ite_f, a, e1, e2, e5]
  rw [if_neg z2] at e2 eI
  by_cases z3 : gIs T n s (cD (gS2 "child")) = true
  · rw [if_pos z3] at e3 eI
    obtain ⟨u, e5, M2, f⟩ := gf.1 (by omega)
    refine ⟨u, ?_, M2, f⟩
    rw [eI]
    simp (disch := omega) only [p205_0, p205_1, p205_3, p205_6, p205_9, p205_10, p205_13, p205_14, p205_16, p205_19, p205_22, p205_23, p205_26, p205_27, p205_29, p205_32, p205_35, p205_36, p205_39, p205_40, p205_42, p205_45, p205_48, p205_49, p205_52, p205_53, p205_54, p205_55, p205_56, p205_59, p205_60, p205_61, p205_64, p205_65, p205_68, p205_69, jwd_c, jwd_0, Nat.reduceLeDiff, Nat.reduceEqDiff, Nat.reduceAdd, Nat.reduceSub, Nat.reduceMul, Int.reduceAdd, Int.reduceSub, Int.reduceMul, Int.reduceNeg, Int.reduceEq, Int.reduceLT, Int.reduceLE, jq_ldi_i, jq_ldl_l, jq_lda_a, jq_inc_i, jq_gs_t, jq_gsb_t, jq_gb_t, jq_gr_2, jq_gr_4, jq_gw_2, jq_s_t, jq_b_t, jg_c, jg_n, js_c, js_n, jrm_c, jrm_n, j2_i, j2_l, j2_a, jq_c_i, jq_c_l, jq_c_0, jq_c_n, jwd_le, jw_c0, mS_I, mS_R, mS_J, mN_I, mN_R, mN_J, mR_I, mI_R, mJ_I, mJ_R, mI_J, mR_J, ↓reduceIte, decide_true, or_true, true_or, and_self, false_or, or_false, reduceCtorEq, Bool.false_eq_true, and_false, false_and, eq_self, true_and, and_true, zero_ne, ↓br_lt_t, ↓br_lt_f, ↓br_eq_t, ↓br_eq_f, ↓br_lz_t, ↓br_lz_f, ↓br_ez_t, ↓br_ez_f, ↓br_gz_t, ↓br_gz_f, jw_id, jin_t, jix_t, ↓ite_t, ↓ite_f, a, e1, e2, e3, e5]
  rw [if_neg z3] at e3 eI
  by_cases z4 : gIs T n s (cD (gS2 "heavy")) = true
  · rw [if_pos z4] at e4 eI
    obtain ⟨u, e5, M2, f⟩ := gf.1 (by omega)
    refine ⟨u, ?_, M2, f⟩
    rw [eI]
    simp (disch := omega) only [p205_0, p205_1, p205_3, p205_6, p205_9, p205_10, p205_13, p205_14, p205_16, p205_19, p205_22, p205_23, p205_26, p205_27, p205_29, p205_32, p205_35, p205_36, p205_39, p205_40, p205_42, p205_45, p205_48, p205_49, p205_52, p205_53, p205_54, p205_55, p205_56, p205_59, p205_60, p205_61, p205_64, p205_65, p205_68, p205_69, jwd_c, jwd_0, Nat.reduceLeDiff, Nat.reduceEqDiff, Nat.reduceAdd, Nat.reduceSub, Nat.reduceMul, Int.reduceAdd, Int.reduceSub, Int.reduceMul, Int.reduceNeg, Int.reduceEq, Int.reduceLT, Int.reduceLE, jq_ldi_i, jq_ldl_l, jq_lda_a, jq_inc_i, jq_gs_t, jq_gsb_t, jq_gb_t, jq_gr_2, jq_gr_4, jq_gw_2, jq_s_t, jq_b_t, jg_c, jg_n, js_c, js_n, jrm_c, jrm_n, j2_i, j2_l, j2_a, jq_c_i, jq_c_l, jq_c_0, jq_c_n, jwd_le, jw_c0, mS_I, mS_R, mS_J, mN_I, mN_R, mN_J, mR_I, mI_R, mJ_I, mJ_R, mI_J, mR_J, ↓reduceIte, decide_true, or_true, true_or, and_self, false_or, or_false, reduceCtorEq, Bool.false_eq_true, and_false, false_and, eq_self, true_and, and_true, zero_ne, ↓br_lt_t, ↓br_lt_f, ↓br_eq_t, ↓br_eq_f, ↓br_lz_t, ↓br_lz_f, ↓br_ez_t, ↓br_ez_f, ↓br_gz_t, ↓br_gz_f, jw_id, jin_t, jix_t, ↓ite_t, ↓ite_f, a, e1, e2, e3, e4, e5]
  rw [if_neg z4] at e4 eI
  obtain ⟨v, u, e5, q, e6, M2, f⟩ := gf.2 (by omega)
  refine ⟨u, ?_, M2, f⟩
  have av : mS v 238 = (1, 9, 0) := by rw [q]; exact a
  rw [eI]
  simp (disch := omega) only [p205_0, p205_1, p205_3, p205_6, p205_9, p205_10, p205_13, p205_14, p205_16, p205_19, p205_22, p205_23, p205_26, p205_27, p205_29, p205_32, p205_35, p205_36, p205_39, p205_40, p205_42, p205_45, p205_48, p205_49, p205_52, p205_53, p205_54, p205_55, p205_56, p205_59, p205_60, p205_61, p205_64, p205_65, p205_68, p205_69, jwd_c, jwd_0, Nat.reduceLeDiff, Nat.reduceEqDiff, Nat.reduceAdd, Nat.reduceSub, Nat.reduceMul, Int.reduceAdd, Int.reduceSub, Int.reduceMul, Int.reduceNeg, Int.reduceEq, Int.reduceLT, Int.reduceLE, jq_ldi_i, jq_ldl_l, jq_lda_a, jq_inc_i, jq_gs_t, jq_gsb_t, jq_gb_t, jq_gr_2, jq_gr_4, jq_gw_2, jq_s_t, jq_b_t, jg_c, jg_n, js_c, js_n, jrm_c, jrm_n, j2_i, j2_l, j2_a, jq_c_i, jq_c_l, jq_c_0, jq_c_n, jwd_le, jw_c0, mS_I, mS_R, mS_J, mN_I, mN_R, mN_J, mR_I, mI_R, mJ_I, mJ_R, mI_J, mR_J, ↓reduceIte, decide_true, or_true, true_or, and_self, false_or, or_false, reduceCtorEq, Bool.false_eq_true, and_false, false_and, eq_self, true_and, and_true, zero_ne, ↓br_lt_t, ↓br_lt_f, ↓br_eq_t, ↓br_eq_f, ↓br_lz_t, ↓br_lz_f, ↓br_ez_t, ↓br_ez_f, ↓br_gz_t, ↓br_gz_f, jw_id, jin_t, jix_t, ↓ite_t, ↓ite_f, a, e1, e2, e3, e4, e5, av, e6]
theorem ms_begins {p : Nat} (M : MS w T n h H (.inl p)) (k1 : tK T n p = 1) {a b c : Int} (ha : a = 0 ∨ a = 1) (hb : b = 0 ∨ b = 1) (hc : c = 0 ∨ c = 1) (hW : 0 ≤ H 0 0 ∧ H 0 0 ≤ 8) : ∃ u, rn 194 (0, [(0, jvr 238), (1, .inl a), (2, .inl b), (3, .inl c)], [], w) = some (none, u) ∧ MS u T n h H (if gBg a b c (H 0 0) = 0 then .inl (tE T n p) else .inr (gBg a b c (H 0 0), (tS T n p : Int))) ∧ Ftk w u := by
  have g1 : ∃ w1, rn 194 (0, [(0, jvr 238), (1, .inl a), (2, .inl b), (3, .inl c)], [], w) = rn 194 (9, [(0, jvr 238), (1, .inl a), (2, .inl b), (3, .inl c)], [], w1) ∧ MS w1 T n h H (if a = 1 then pF T n 3 (.inl p) else .inl p) ∧ Ftk w w1 := by
    have x := M.a
    rcases ha with rfl | rfl
    · refine ⟨w, ?_, M, Ftk.rf⟩
      simp (disch := omega) only [p194_0, p194_1, p194_4, p194_5, p194_6, p194_10, p194_13, p194_14, p194_15, p194_19, p194_22, p194_25, p194_28, p194_29, p194_32, p194_33, p194_35, p194_39, p194_42, jwd_c, jwd_0, Nat.reduceLeDiff, Nat.reduceEqDiff, Nat.reduceAdd, Nat.reduceSub, Nat.reduceMul, Int.reduceAdd, Int.reduceSub, Int.reduceMul, Int.reduceNeg, Int.reduceEq, Int.reduceLT, Int.reduceLE, jq_ldi_i, jq_ldl_l, jq_lda_a, jq_inc_i, jq_gs_t, jq_gsb_t, jq_gb_t, jq_gr_2, jq_gr_4, jq_gw_2, jq_s_t, jq_b_t, jg_c, jg_n, js_c, js_n, jrm_c, jrm_n, j2_i, j2_l, j2_a, jq_c_i, jq_c_l, jq_c_0, jq_c_n, jwd_le, jw_c0, mS_I, mS_R, mS_J, mN_I, mN_R, mN_J, mR_I, mI_R, mJ_I, mJ_R, mI_J, mR_J, ↓reduceIte, decide_true, or_true, true_or, and_self, false_or, or_false, reduceCtorEq, Bool.false_eq_true, and_false, false_and, eq_self, true_and, and_true, zero_ne, ↓br_lt_t, ↓br_lt_f, ↓br_eq_t, ↓br_eq_f, ↓br_lz_t, ↓br_lz_f, ↓br_ez_t, ↓br_ez_f, ↓br_gz_t, ↓br_gz_f, jw_id, jin_t, jix_t, ↓ite_t, ↓ite_f, x]
    · obtain ⟨u, e, M2, f⟩ := ms_flaw M (f := 3)
      refine ⟨u, ?_, M2, f⟩
      simp (disch := omega) only [p194_0, p194_1, p194_4, p194_5, p194_6, p194_10, p194_13, p194_14, p194_15, p194_19, p194_22, p194_25, p194_28, p194_29, p194_32, p194_33, p194_35, p194_39, p194_42, jwd_c, jwd_0, Nat.reduceLeDiff, Nat.reduceEqDiff, Nat.reduceAdd, Nat.reduceSub, Nat.reduceMul, Int.reduceAdd, Int.reduceSub, Int.reduceMul, Int.reduceNeg, Int.reduceEq, Int.reduceLT, Int.reduceLE, jq_ldi_i, jq_ldl_l, jq_lda_a, jq_inc_i, jq_gs_t, jq_gsb_t, jq_gb_t, jq_gr_2, jq_gr_4, jq_gw_2, jq_s_t, jq_b_t, jg_c, jg_n, js_c, js_n, jrm_c, jrm_n, j2_i, j2_l, j2_a, jq_c_i, jq_c_l, jq_c_0, jq_c_n, jwd_le, jw_c0, mS_I, mS_R, mS_J, mN_I, mN_R, mN_J, mR_I, mI_R, mJ_I, mJ_R, mI_J, mR_J, ↓reduceIte, decide_true, or_true, true_or, and_self, false_or, or_false, reduceCtorEq, Bool.false_eq_true, and_false, false_and, eq_self, true_and, and_true, zero_ne, ↓br_lt_t, ↓br_lt_f, ↓br_eq_t, ↓br_eq_f, ↓br_lz_t, ↓br_lz_f, ↓br_ez_t, ↓br_ez_f, ↓br_gz_t, ↓br_gz_f, jw_id, jin_t, jix_t, ↓ite_t, ↓ite_f, x, e]
  obtain ⟨w1, e1, M1, f1⟩ := g1
  generalize hs1 : (if a = 1 then pF T n 3 (.inl p) else .inl p) = s1 at *
  have g2 : ∃ w2, rn 194 (9, [(0, jvr 238), (1, .inl a), (2, .inl b), (3, .inl c)], [], w1) = rn 194 (18, [(0, jvr 238), (1, .inl a), (2, .inl b), (3, .inl c)], [], w2) ∧ MS w2 T n h H (if b = 1 then pF T n 5 s1 else s1) ∧ Ftk w1 w2 := by
    have x := M1.a
    rw [p194_9]
    rcases hb with rfl | rfl
    · refine ⟨w1, ?_, M1, Ftk.rf⟩
      simp (disch := omega) only [p194_0, p194_1, p194_4, p194_5, p194_6, p194_10, p194_13, p194_14, p194_15, p194_19, p194_22, p194_25, p194_28, p194_29, p194_32, p194_33, p194_35, p194_39, p194_42, jwd_c, jwd_0, Nat.reduceLeDiff, Nat.reduceEqDiff, Nat.reduceAdd, Nat.reduceSub, Nat.reduceMul, Int.reduceAdd, Int.reduceSub, Int.reduceMul, Int.reduceNeg, Int.reduceEq, Int.reduceLT, Int.reduceLE, jq_ldi_i, jq_ldl_l, jq_lda_a, jq_inc_i, jq_gs_t, jq_gsb_t, jq_gb_t, jq_gr_2, jq_gr_4, jq_gw_2, jq_s_t, jq_b_t, jg_c, jg_n, js_c, js_n, jrm_c, jrm_n, j2_i, j2_l, j2_a, jq_c_i, jq_c_l, jq_c_0, jq_c_n, jwd_le, jw_c0, mS_I, mS_R, mS_J, mN_I, mN_R, mN_J, mR_I, mI_R, mJ_I, mJ_R, mI_J, mR_J, ↓reduceIte, decide_true, or_true, true_or, and_self, false_or, or_false, reduceCtorEq, Bool.false_eq_true, and_false, false_and, eq_self, true_and, and_true, zero_ne, ↓br_lt_t, ↓br_lt_f, ↓br_eq_t, ↓br_eq_f, ↓br_lz_t, ↓br_lz_f, ↓br_ez_t, ↓br_ez_f, ↓br_gz_t, ↓br_gz_f, jw_id, jin_t, jix_t, ↓ite_t, ↓ite_f, x]
    · obtain ⟨u, e, M2, f⟩ := ms_flaw M1 (f := 5)
      refine ⟨u, ?_, M2, f⟩
      simp (disch := omega) only [p194_0, p194_1, p194_4, p194_5, p194_6, p194_10, p194_13, p194_14, p194_15, p194_19, p194_22, p194_25, p194_28, p194_29, p194_32, p194_33, p194_35, p194_39, p194_42, jwd_c, jwd_0, Nat.reduceLeDiff, Nat.reduceEqDiff, Nat.reduceAdd, Nat.reduceSub, Nat.reduceMul, Int.reduceAdd, Int.reduceSub, Int.reduceMul, Int.reduceNeg, Int.reduceEq, Int.reduceLT, Int.reduceLE, jq_ldi_i, jq_ldl_l, jq_lda_a, jq_inc_i, jq_gs_t, jq_gsb_t, jq_gb_t, jq_gr_2, jq_gr_4, jq_gw_2, jq_s_t, jq_b_t, jg_c, jg_n, js_c, js_n, jrm_c, jrm_n, j2_i, j2_l, j2_a, jq_c_i, jq_c_l, jq_c_0, jq_c_n, jwd_le, jw_c0, mS_I, mS_R, mS_J, mN_I, mN_R, mN_J, mR_I, mI_R, mJ_I, mJ_R, mI_J, mR_J, ↓reduceIte, decide_true, or_true, true_or, and_self, false_or, or_false, reduceCtorEq, Bool.false_eq_true, and_false, false_and, eq_self, true_and, and_true, zero_ne, ↓br_lt_t, ↓br_lt_f, ↓br_eq_t, ↓br_eq_f, ↓br_lz_t, ↓br_lz_f, ↓br_ez_t, ↓br_ez_f, ↓br_gz_t, ↓br_gz_f, jw_id, jin_t, jix_t, ↓ite_t, ↓ite_f, x, e]
  obtain ⟨w2, e2, M2, f2⟩ := g2
  generalize hs2 : (if b = 1 then pF T n 5 s1 else s1) = s2 at *
  have g3 : ∃ w3, rn 194 (18, [(0, jvr 238), (1, .inl a), (2, .inl b), (3, .inl c)], [], w2) = rn 194 (38, [(0, jvr 238), (1, .inl a), (2, .inl b), (3, .inl c)], [], w3) ∧ MS w3 T n h H (if H 0 0 = 0 ∨ c = 1 then pF T n 6 s2 else s2) ∧ Ftk w2 w3 := by
    rw [p194_18]
    by_cases z : H 0 0 = 0 ∨ c = 1
    · rw [if_pos z]
      obtain ⟨u, e, M3, f⟩ := ms_flaw M2 (f := 6)
      refine ⟨u, ?_, M3, f⟩
      by_cases y : H 0 0 = 0
      · simp (disch := omega) only [p194_0, p194_1, p194_4, p194_5, p194_6, p194_10, p194_13, p194_14, p194_15, p194_19, p194_22, p194_25, p194_28, p194_29, p194_32, p194_33, p194_35, p194_39, p194_42, jwd_c, jwd_0, Nat.reduceLeDiff, Nat.reduceEqDiff, Nat.reduceAdd, Nat.reduceSub, Nat.reduceMul, Int.reduceAdd, Int.reduceSub, Int.reduceMul, Int.reduceNeg, Int.reduceEq, Int.reduceLT, Int.reduceLE, jq_ldi_i, jq_ldl_l, jq_lda_a, jq_inc_i, jq_gs_t, jq_gsb_t, jq_gb_t, jq_gr_2, jq_gr_4, jq_gw_2, jq_s_t, jq_b_t, jg_c, jg_n, js_c, js_n, jrm_c, jrm_n, j2_i, j2_l, j2_a, jq_c_i, jq_c_l, jq_c_0, jq_c_n, jwd_le, jw_c0, mS_I, mS_R, mS_J, mN_I, mN_R, mN_J, mR_I, mI_R, mJ_I, mJ_R, mI_J, mR_J, ↓reduceIte, decide_true, or_true, true_or, and_self, false_or, or_false, reduceCtorEq, Bool.false_eq_true, and_false, false_and, eq_self, true_and, and_true, zero_ne, ↓br_lt_t, ↓br_lt_f, ↓br_eq_t, ↓br_eq_f, ↓br_lz_t, ↓br_lz_f, ↓br_ez_t, ↓br_ez_f, ↓br_gz_t, ↓br_gz_f, jw_id, jin_t, jix_t, ↓ite_t, ↓ite_f, MS.a M2, MS.r4 M2, MS.b M2, MS.f0 M2, MS.f1 M2, MS.f2 M2, MS.f3 M2, MS.f4 M2, MS.f5 M2, MS.f6 M2, MS.f7 M2, MS.f8 M2, MS.f10 M2, MS.f12 M2, MS.f13 M2, e]
      · have y2 : c = 1 := by omega
        simp (disch := omega) only [p194_0, p194_1, p194_4, p194_5, p194_6, p194_10, p194_13, p194_14, p194_15, p194_19, p194_22, p194_25, p194_28, p194_29, p194_32, p194_33, p194_35, p194_39, p194_42, jwd_c, jwd_0, Nat.reduceLeDiff, Nat.reduceEqDiff, Nat.reduceAdd, Nat.reduceSub, Nat.reduceMul, Int.reduceAdd, Int.reduceSub, Int.reduceMul, Int.reduceNeg, Int.reduceEq, Int.reduceLT, Int.reduceLE, jq_ldi_i, jq_ldl_l, jq_lda_a, jq_inc_i, jq_gs_t, jq_gsb_t, jq_gb_t, jq_gr_2, jq_gr_4, jq_gw_2, jq_s_t, jq_b_t, jg_c, jg_n, js_c, js_n, jrm_c, jrm_n, j2_i, j2_l, j2_a, jq_c_i, jq_c_l, jq_c_0, jq_c_n, jwd_le, jw_c0, mS_I, mS_R, mS_J, mN_I, mN_R, mN_J, mR_I, mI_R, mJ_I, mJ_R, mI_J, mR_J, ↓reduceIte, decide_true, or_true, true_or, and_self, false_or, or_false, reduceCtorEq, Bool.false_eq_true, and_false, false_and, eq_self, true_and, and_true, zero_ne, ↓br_lt_t, ↓br_lt_f, ↓br_eq_t, ↓br_eq_f, ↓br_lz_t, ↓br_lz_f, ↓br_ez_t, ↓br_ez_f, ↓br_gz_t, ↓br_gz_f, jw_id, jin_t, jix_t, ↓ite_t, ↓ite_f, MS.a M2, MS.r4 M2, MS.b M2, MS.f0 M2, MS.f1 M2, MS.f2 M2, MS.f3 M2, MS.f4 M2, MS.f5 M2, MS.f6 M2, MS.f7 M2, MS.f8 M2, MS.f10 M2, MS.f12 M2, MS.f13 M2, e]
    · rw [if_neg z]
      refine ⟨w2, ?_, M2, Ftk.rf⟩
      simp (disch := omega) only [p194_0, p194_1, p194_4, p194_5, p194_6, p194_10, p194_13, p194_14, p194_15, p194_19, p194_22, p194_25, p194_28, p194_29, p194_32, p194_33, p194_35, p194_39, p194_42, jwd_c, jwd_0, Nat.reduceLeDiff, Nat.reduceEqDiff, Nat.reduceAdd, Nat.reduceSub, Nat.reduceMul, Int.reduceAdd, Int.reduceSub, Int.reduceMul, Int.reduceNeg, Int.reduceEq, Int.reduceLT, Int.reduceLE, jq_ldi_i, jq_ldl_l, jq_lda_a, jq_inc_i, jq_gs_t, jq_gsb_t, jq_gb_t, jq_gr_2, jq_gr_4, jq_gw_2, jq_s_t, jq_b_t, jg_c, jg_n, js_c, js_n, jrm_c, jrm_n, j2_i, j2_l, j2_a, jq_c_i, jq_c_l, jq_c_0, jq_c_n, jwd_le, jw_c0, mS_I, mS_R, mS_J, mN_I, mN_R, mN_J, mR_I, mI_R, mJ_I, mJ_R, mI_J, mR_J, ↓reduceIte, decide_true, or_true, true_or, and_self, false_or, or_false, reduceCtorEq, Bool.false_eq_true, and_false, false_and, eq_self, true_and, and_true, zero_ne, ↓br_lt_t, ↓br_lt_f, ↓br_eq_t, ↓br_eq_f, ↓br_lz_t, ↓br_lz_f, ↓br_ez_t, ↓br_ez_f, ↓br_gz_t, ↓br_gz_f, jw_id, jin_t, jix_t, ↓ite_t, ↓ite_f, MS.a M2, MS.r4 M2, MS.b M2, MS.f0 M2, MS.f1 M2, MS.f2 M2, MS.f3 M2, MS.f4 M2, MS.f5 M2, MS.f6 M2, MS.f7 M2, MS.f8 M2, MS.f10 M2, MS.f12 M2, MS.f13 M2]
  obtain ⟨w3, e3, M3, f3⟩ := g3
  have hs : ∀ q, (if H 0 0 = 0 ∨ c = 1 then pF T n 6 s2 else s2) = .inl q → q = p := by
    intro q hq
    by_cases z : H 0 0 = 0 ∨ c = 1
    · rw [if_pos z] at hq
      exact (pf_n hq).elim
    · rw [if_neg z, ← hs2] at hq
      by_cases y : b = 1
      · rw [if_pos y] at hq
        exact (pf_n hq).elim
      · rw [if_neg y, ← hs1] at hq
        by_cases x : a = 1
        · rw [if_pos x] at hq
          exact (pf_n hq).elim
        · rw [if_neg x] at hq
          exact (Sum.inl.inj hq).symm
  obtain ⟨w4, e4, M4, f4⟩ := ms_go M3 (fun q hq => by
    rw [hs q hq]
    omega)
  have e : pG T n (if H 0 0 = 0 ∨ c = 1 then pF T n 6 s2 else s2) = if gBg a b c (H 0 0) = 0 then .inl (tE T n p) else .inr (gBg a b c (H 0 0), (tS T n p : Int)) := by
    unfold gBg
    by_cases x : a = 1
    · have y1 : s1 = .inr (3, (tS T n p : Int)) := by
        rw [← hs1, if_pos x]
        rfl
      have y2 : s2 = .inr (3, (tS T n p : Int)) := by
        rw [← hs2, y1]
        split <;> rfl
      have y3 : (if H 0 0 = 0 ∨ c = 1 then pF T n 6 s2 else s2) = .inr (3, (tS T n p : Int)) := by
        rw [y2]
        split <;> rfl
      rw [y3, if_pos x]
      rfl
    · rw [if_neg x] at hs1 ⊢
      by_cases y : b = 1
      · have y2 : s2 = .inr (5, (tS T n p : Int)) := by
          rw [← hs2, ← hs1, if_pos y]
          rfl
        have y3 : (if H 0 0 = 0 ∨ c = 1 then pF T n 6 s2 else s2) = .inr (5, (tS T n p : Int)) := by
          rw [y2]
          split <;> rfl
        rw [y3, if_pos y]
        rfl
      · rw [if_neg y] at hs2 ⊢
        rw [← hs2, ← hs1]
        by_cases z : H 0 0 = 0 ∨ c = 1
        · rw [if_pos z, if_pos z, if_neg (by decide)]
          rfl
        · rw [if_neg z, if_neg z, if_pos rfl]
          rfl
  rw [e] at M4
  refine ⟨w4, ?_, M4, ((f1.tr f2).tr f3).tr f4⟩
  have x := M3.a
  rw [e1, e2, e3, p194_38]
  simp (disch := omega) only [p194_0, p194_1, p194_4, p194_5, p194_6, p194_10, p194_13, p194_14, p194_15, p194_19, p194_22, p194_25, p194_28, p194_29, p194_32, p194_33, p194_35, p194_39, p194_42, jwd_c, jwd_0, Nat.reduceLeDiff, Nat.reduceEqDiff, Nat.reduceAdd, Nat.reduceSub, Nat.reduceMul, Int.reduceAdd, Int.reduceSub, Int.reduceMul, Int.reduceNeg, Int.reduceEq, Int.reduceLT, Int.reduceLE, jq_ldi_i, jq_ldl_l, jq_lda_a, jq_inc_i, jq_gs_t, jq_gsb_t, jq_gb_t, jq_gr_2, jq_gr_4, jq_gw_2, jq_s_t, jq_b_t, jg_c, jg_n, js_c, js_n, jrm_c, jrm_n, j2_i, j2_l, j2_a, jq_c_i, jq_c_l, jq_c_0, jq_c_n, jwd_le, jw_c0, mS_I, mS_R, mS_J, mN_I, mN_R, mN_J, mR_I, mI_R, mJ_I, mJ_R, mI_J, mR_J, ↓reduceIte, decide_true, or_true, true_or, and_self, false_or, or_false, reduceCtorEq, Bool.false_eq_true, and_false, false_and, eq_self, true_and, and_true, zero_ne, ↓br_lt_t, ↓br_lt_f, ↓br_eq_t, ↓br_eq_f, ↓br_lz_t, ↓br_lz_f, ↓br_ez_t, ↓br_ez_f, ↓br_gz_t, ↓br_gz_f, jw_id, jin_t, jix_t, ↓ite_t, ↓ite_f, x, e4]
end PRIM2
