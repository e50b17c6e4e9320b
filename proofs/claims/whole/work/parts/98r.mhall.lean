/-! New cells; the model: a new Hall, hall. -/
def nR (w : jmW) (h k : Nat) (sh : Nat × Nat × Nat) : jmW := setR (newC w sh sh.2.2) h k (some (64 + mN w))
def nRs (w : jmW) (h : Nat) : List (Nat × Nat × Nat × Nat) → jmW
  | [] => w
  | (k, sh) :: t => nRs (nR w h k sh) h t
section NEWC
variable {w u : jmW} {h k b n : Nat} {sh : Nat × Nat × Nat}
theorem mS_C (z : b ≠ 64 + mN w) : mS (newC w sh n) b = mS w b := if_neg z
theorem mS_Cs : mS (newC w sh n) (64 + mN w) = sh := if_pos rfl
theorem mI_C (z : b ≠ 64 + mN w) : mI (newC w sh n) b = mI w b := if_neg z
theorem mI_Cs : mI (newC w sh n) (64 + mN w) = fun _ => 0 := if_pos rfl
theorem mR_C (z : b ≠ 64 + mN w) : mR (newC w sh n) b = mR w b := if_neg z
theorem mR_Cs : mR (newC w sh n) (64 + mN w) = fun _ => none := if_pos rfl
theorem mJ_C (z : b ≠ 64 + mN w) : mJ (newC w sh n) b = mJ w b := if_neg z
theorem mJ_Cs : mJ (newC w sh n) (64 + mN w) = fun _ => 0 := if_pos rfl
theorem mN_C : mN (newC w sh n) = mN w + 1 := rfl
theorem mK_C : mK (newC w sh n) = mK w + n := rfl
theorem nR_o (z : b ≠ 64 + mN w) (zh : b ≠ h) : mS (nR w h k sh) b = mS w b ∧ mI (nR w h k sh) b = mI w b ∧ mR (nR w h k sh) b = mR w b ∧ mJ (nR w h k sh) b = mJ w b := ⟨mS_C (sh := sh) (n := sh.2.2) z, mI_C (sh := sh) (n := sh.2.2) z, (mR_nb zh).trans (mR_C (sh := sh) (n := sh.2.2) z), mJ_C (sh := sh) (n := sh.2.2) z⟩
theorem nR_h (z : h ≠ 64 + mN w) : mS (nR w h k sh) h = mS w h ∧ mI (nR w h k sh) h = mI w h ∧ mJ (nR w h k sh) h = mJ w h ∧ mR (nR w h k sh) h k = some (64 + mN w) ∧ ∀ j, j ≠ k → mR (nR w h k sh) h j = mR w h j := by
  refine ⟨mS_C (sh := sh) (n := sh.2.2) z, mI_C (sh := sh) (n := sh.2.2) z, mJ_C (sh := sh) (n := sh.2.2) z, mR_s _ _ _ _, fun j hj => ?_⟩
  show mR (setR (newC w sh sh.2.2) h k _) h j = _
  rw [mR_nk hj, mR_C z]
theorem nR_n (z : h ≠ 64 + mN w) : mS (nR w h k sh) (64 + mN w) = sh ∧ mI (nR w h k sh) (64 + mN w) = (fun _ => 0) ∧ mJ (nR w h k sh) (64 + mN w) = (fun _ => 0) := ⟨mS_Cs (sh := sh) (n := sh.2.2), mI_Cs (sh := sh) (n := sh.2.2), mJ_Cs (sh := sh) (n := sh.2.2)⟩
theorem nRs_N : ∀ (L : List (Nat × Nat × Nat × Nat)) (w : jmW), mN (nRs w h L) = mN w + L.length
  | [], w => rfl
  | (k, sh) :: t, w => by
    have e : mN (nRs (nR w h k sh) h t) = mN (nR w h k sh) + t.length := nRs_N t _
    have e2 : mN (nR w h k sh) = mN w + 1 := rfl
    show mN (nRs (nR w h k sh) h t) = mN w + (t.length + 1)
    omega
theorem nRs_K : ∀ (L : List (Nat × Nat × Nat × Nat)) (w : jmW), mK (nRs w h L) = mK w + (L.map (fun q => q.2.2.2)).sum
  | [], w => rfl
  | (k, sh) :: t, w => by
    have e : mK (nRs (nR w h k sh) h t) = mK (nR w h k sh) + (t.map (fun q => q.2.2.2)).sum := nRs_K t _
    have e2 : mK (nR w h k sh) = mK w + sh.2.2 := rfl
    show mK (nRs (nR w h k sh) h t) = mK w + (((k, sh) :: t).map (fun q => q.2.2.2)).sum
    rw [List.map_cons, List.sum_cons]
    show mK (nRs (nR w h k sh) h t) = mK w + (sh.2.2 + _)
    omega
theorem nRs_o : ∀ (L : List (Nat × Nat × Nat × Nat)) (w : jmW), b < 64 + mN w → b ≠ h → mS (nRs w h L) b = mS w b ∧ mI (nRs w h L) b = mI w b ∧ mR (nRs w h L) b = mR w b ∧ mJ (nRs w h L) b = mJ w b
  | [], w => fun _ _ => ⟨rfl, rfl, rfl, rfl⟩
  | (k, sh) :: t, w => fun z zh => by
    have e2 : mN (nR w h k sh) = mN w + 1 := rfl
    obtain ⟨a1, a2, a3, a4⟩ := nRs_o t (nR w h k sh) (by omega) zh
    obtain ⟨b1, b2, b3, b4⟩ := nR_o (k := k) (sh := sh) (w := w) (b := b) (by omega) zh
    exact ⟨a1.trans b1, a2.trans b2, a3.trans b3, a4.trans b4⟩
theorem nRs_h : ∀ (L : List (Nat × Nat × Nat × Nat)) (w : jmW), h < 64 + mN w → mS (nRs w h L) h = mS w h ∧ mI (nRs w h L) h = mI w h ∧ mJ (nRs w h L) h = mJ w h ∧ ∀ j, j ∉ L.map Prod.fst → mR (nRs w h L) h j = mR w h j
  | [], w => fun _ => ⟨rfl, rfl, rfl, fun _ _ => rfl⟩
  | (k, sh) :: t, w => fun z => by
    have e2 : mN (nR w h k sh) = mN w + 1 := rfl
    obtain ⟨a1, a2, a3, a4⟩ := nRs_h t (nR w h k sh) (by omega)
    obtain ⟨b1, b2, b3, b4, b5⟩ := nR_h (k := k) (sh := sh) (w := w) (h := h) (by omega)
    refine ⟨a1.trans b1, a2.trans b2, a3.trans b3, fun j hj => ?_⟩
    rw [List.map_cons, List.mem_cons, not_or] at hj
    exact (a4 j hj.2).trans (b5 j hj.1)
/-- the cells made are there, and told -/
theorem nRs_n : ∀ (L : List (Nat × Nat × Nat × Nat)) (w : jmW), h < 64 + mN w → (L.map Prod.fst).Nodup → ∀ (i k : Nat) (sh : Nat × Nat × Nat), L[i]? = some (k, sh) → mS (nRs w h L) (64 + mN w + i) = sh ∧ mI (nRs w h L) (64 + mN w + i) = (fun _ => 0) ∧ mJ (nRs w h L) (64 + mN w + i) = (fun _ => 0) ∧ mR (nRs w h L) h k = some (64 + mN w + i)
  | [], w => fun _ _ i k sh e => by cases e
  | (k, sh) :: t, w => fun z nd i k2 sh2 e => by
    have e2 : mN (nR w h k sh) = mN w + 1 := rfl
    rw [List.map_cons, List.nodup_cons] at nd
    cases i with
    | zero =>
      have e := Option.some.inj e
      cases e
      obtain ⟨b1, b2, b3⟩ := nR_n (k := k) (sh := sh) (w := w) (h := h) (by omega)
      obtain ⟨c1, c2, c3, c4⟩ := nRs_o (b := 64 + mN w) (h := h) t (nR w h k sh) (by omega) (by omega)
      obtain ⟨d1, d2, d3, d4⟩ := nRs_h t (nR w h k sh) (h := h) (by omega)
      obtain ⟨f1, f2, f3, f4, f5⟩ := nR_h (k := k) (sh := sh) (w := w) (h := h) (by omega)
      exact ⟨c1.trans b1, c2.trans b2, c4.trans b3, (d4 k nd.1).trans f4⟩
    | succ i =>
      have r := nRs_n t (nR w h k sh) (by omega) nd.2 i k2 sh2 e
      rw [e2, show 64 + (mN w + 1) + i = 64 + mN w + (i + 1) by omega] at r
      exact r
theorem jw_c4 : jw 4 = 4 := by decide
theorem jw_c8 : jw 8 = 8 := by decide
theorem jw_c12 : jw 12 = 12 := by decide
theorem jw_c48 : jw 48 = 48 := by decide
theorem gn_4 (i p : Nat) (lv : jmL) (st : List jmV) (w : jmW) : jq_gn 4 i p lv st w = rn i (p, lv, st, w) := jq_gn_t (by omega) (by omega) jw_c4 i p lv st w
theorem gn_8 (i p : Nat) (lv : jmL) (st : List jmV) (w : jmW) : jq_gn 8 i p lv st w = rn i (p, lv, st, w) := jq_gn_t (by omega) (by omega) jw_c8 i p lv st w
theorem gn_12 (i p : Nat) (lv : jmL) (st : List jmV) (w : jmW) : jq_gn 12 i p lv st w = rn i (p, lv, st, w) := jq_gn_t (by omega) (by omega) jw_c12 i p lv st w
theorem gn_48 (i p : Nat) (lv : jmL) (st : List jmV) (w : jmW) : jq_gn 48 i p lv st w = rn i (p, lv, st, w) := jq_gn_t (by omega) (by omega) jw_c48 i p lv st w
end NEWC
def LHm : List (Nat × Nat × Nat × Nat) := [(17, 2, 0, 48), (18, 2, 0, 4), (19, 2, 0, 4), (20, 2, 0, 4), (21, 2, 0, 4), (22, 2, 0, 4), (23, 2, 0, 4), (24, 2, 0, 8), (25, 2, 0, 8), (26, 2, 0, 8), (27, 2, 0, 8), (28, 2, 0, 12), (29, 2, 0, 8), (30, 2, 0, 8), (31, 2, 0, 8), (32, 2, 2, 4)]
section MHALL
variable {w u : jmW} {T : Nat → Int} {n h cnt : Nat} {H : Nat → Nat → Int} {s : gSg}
theorem mhi_17 (hs : mS w h = (1, 8, 0)) (z : h < 64 + mN w) : rn 177 (27, [(0, jvr h)], [], w) = rn 177 (35, [(0, jvr h)], [], nR w h 17 (2, 0, 48)) := by
  have e : mS (newC w (2, 0, 48) 48) h = (1, 8, 0) := (mS_C (by omega)).trans hs
  simp only [p177_27, p177_28, p177_30, p177_32, jwd_c, jwd_0, Nat.reduceLeDiff, Nat.reduceEqDiff, Nat.reduceAdd, Nat.reduceSub, Nat.reduceMul, Int.reduceAdd, Int.reduceSub, Int.reduceMul, Int.reduceNeg, Int.reduceEq, Int.reduceLT, Int.reduceLE, jq_ldi_i, jq_ldl_l, jq_lda_a, jq_inc_i, jq_gs_t, jq_gsb_t, jq_gb_t, jq_gr_2, jq_gr_4, jq_gw_2, jq_s_t, jq_b_t, jg_c, jg_n, js_c, js_n, jrm_c, jrm_n, j2_i, j2_l, j2_a, jq_c_i, jq_c_l, jq_c_0, jq_c_n, jwd_le, jw_c0, mS_I, mS_R, mS_J, mN_I, mN_R, mN_J, mR_I, mI_R, mJ_I, mJ_R, mI_J, mR_J, ↓reduceIte, decide_true, or_true, true_or, and_self, false_or, or_false, reduceCtorEq, Bool.false_eq_true, and_false, false_and, eq_self, true_and, and_true, zero_ne, gn_48, jw_c48, Int.reduceToNat, e]
  rfl
theorem mhi_18 (hs : mS w h = (1, 8, 0)) (z : h < 64 + mN w) : rn 177 (35, [(0, jvr h)], [], w) = rn 177 (42, [(0, jvr h)], [], nR w h 18 (2, 0, 4)) := by
  have e : mS (newC w (2, 0, 4) 4) h = (1, 8, 0) := (mS_C (by omega)).trans hs
  simp only [p177_35, p177_36, p177_37, p177_39, jwd_c, jwd_0, Nat.reduceLeDiff, Nat.reduceEqDiff, Nat.reduceAdd, Nat.reduceSub, Nat.reduceMul, Int.reduceAdd, Int.reduceSub, Int.reduceMul, Int.reduceNeg, Int.reduceEq, Int.reduceLT, Int.reduceLE, jq_ldi_i, jq_ldl_l, jq_lda_a, jq_inc_i, jq_gs_t, jq_gsb_t, jq_gb_t, jq_gr_2, jq_gr_4, jq_gw_2, jq_s_t, jq_b_t, jg_c, jg_n, js_c, js_n, jrm_c, jrm_n, j2_i, j2_l, j2_a, jq_c_i, jq_c_l, jq_c_0, jq_c_n, jwd_le, jw_c0, mS_I, mS_R, mS_J, mN_I, mN_R, mN_J, mR_I, mI_R, mJ_I, mJ_R, mI_J, mR_J, ↓reduceIte, decide_true, or_true, true_or, and_self, false_or, or_false, reduceCtorEq, Bool.false_eq_true, and_false, false_and, eq_self, true_and, and_true, zero_ne, gn_4, jw_c4, Int.reduceToNat, e]
  rfl
theorem mhi_19 (hs : mS w h = (1, 8, 0)) (z : h < 64 + mN w) : rn 177 (42, [(0, jvr h)], [], w) = rn 177 (49, [(0, jvr h)], [], nR w h 19 (2, 0, 4)) := by
  have e : mS (newC w (2, 0, 4) 4) h = (1, 8, 0) := (mS_C (by omega)).trans hs
  simp only [p177_42, p177_43, p177_44, p177_46, jwd_c, jwd_0, Nat.reduceLeDiff, Nat.reduceEqDiff, Nat.reduceAdd, Nat.reduceSub, Nat.reduceMul, Int.reduceAdd, Int.reduceSub, Int.reduceMul, Int.reduceNeg, Int.reduceEq, Int.reduceLT, Int.reduceLE, jq_ldi_i, jq_ldl_l, jq_lda_a, jq_inc_i, jq_gs_t, jq_gsb_t, jq_gb_t, jq_gr_2, jq_gr_4, jq_gw_2, jq_s_t, jq_b_t, jg_c, jg_n, js_c, js_n, jrm_c, jrm_n, j2_i, j2_l, j2_a, jq_c_i, jq_c_l, jq_c_0, jq_c_n, jwd_le, jw_c0, mS_I, mS_R, mS_J, mN_I, mN_R, mN_J, mR_I, mI_R, mJ_I, mJ_R, mI_J, mR_J, ↓reduceIte, decide_true, or_true, true_or, and_self, false_or, or_false, reduceCtorEq, Bool.false_eq_true, and_false, false_and, eq_self, true_and, and_true, zero_ne, gn_4, jw_c4, Int.reduceToNat, e]
  rfl
theorem mhi_20 (hs : mS w h = (1, 8, 0)) (z : h < 64 + mN w) : rn 177 (49, [(0, jvr h)], [], w) = rn 177 (56, [(0, jvr h)], [], nR w h 20 (2, 0, 4)) := by
  have e : mS (newC w (2, 0, 4) 4) h = (1, 8, 0) := (mS_C (by omega)).trans hs
  simp only [p177_49, p177_50, p177_51, p177_53, jwd_c, jwd_0, Nat.reduceLeDiff, Nat.reduceEqDiff, Nat.reduceAdd, Nat.reduceSub, Nat.reduceMul, Int.reduceAdd, Int.reduceSub, Int.reduceMul, Int.reduceNeg, Int.reduceEq, Int.reduceLT, Int.reduceLE, jq_ldi_i, jq_ldl_l, jq_lda_a, jq_inc_i, jq_gs_t, jq_gsb_t, jq_gb_t, jq_gr_2, jq_gr_4, jq_gw_2, jq_s_t, jq_b_t, jg_c, jg_n, js_c, js_n, jrm_c, jrm_n, j2_i, j2_l, j2_a, jq_c_i, jq_c_l, jq_c_0, jq_c_n, jwd_le, jw_c0, mS_I, mS_R, mS_J, mN_I, mN_R, mN_J, mR_I, mI_R, mJ_I, mJ_R, mI_J, mR_J, ↓reduceIte, decide_true, or_true, true_or, and_self, false_or, or_false, reduceCtorEq, Bool.false_eq_true, and_false, false_and, eq_self, true_and, and_true, zero_ne, gn_4, jw_c4, Int.reduceToNat, e]
  rfl
theorem mhi_21 (hs : mS w h = (1, 8, 0)) (z : h < 64 + mN w) : rn 177 (56, [(0, jvr h)], [], w) = rn 177 (63, [(0, jvr h)], [], nR w h 21 (2, 0, 4)) := by
  have e : mS (newC w (2, 0, 4) 4) h = (1, 8, 0) := (mS_C (by omega)).trans hs
  simp only [p177_56, p177_57, p177_58, p177_60, jwd_c, jwd_0, Nat.reduceLeDiff, Nat.reduceEqDiff, Nat.reduceAdd, Nat.reduceSub, Nat.reduceMul, Int.reduceAdd, Int.reduceSub, Int.reduceMul, Int.reduceNeg, Int.reduceEq, Int.reduceLT, Int.reduceLE, jq_ldi_i, jq_ldl_l, jq_lda_a, jq_inc_i, jq_gs_t, jq_gsb_t, jq_gb_t, jq_gr_2, jq_gr_4, jq_gw_2, jq_s_t, jq_b_t, jg_c, jg_n, js_c, js_n, jrm_c, jrm_n, j2_i, j2_l, j2_a, jq_c_i, jq_c_l, jq_c_0, jq_c_n, jwd_le, jw_c0, mS_I, mS_R, mS_J, mN_I, mN_R, mN_J, mR_I, mI_R, mJ_I, mJ_R, mI_J, mR_J, ↓reduceIte, decide_true, or_true, true_or, and_self, false_or, or_false, reduceCtorEq, Bool.false_eq_true, and_false, false_and, eq_self, true_and, and_true, zero_ne, gn_4, jw_c4, Int.reduceToNat, e]
  rfl
theorem mhi_22 (hs : mS w h = (1, 8, 0)) (z : h < 64 + mN w) : rn 177 (63, [(0, jvr h)], [], w) = rn 177 (70, [(0, jvr h)], [], nR w h 22 (2, 0, 4)) := by
  have e : mS (newC w (2, 0, 4) 4) h = (1, 8, 0) := (mS_C (by omega)).trans hs
  simp only [p177_63, p177_64, p177_65, p177_67, jwd_c, jwd_0, Nat.reduceLeDiff, Nat.reduceEqDiff, Nat.reduceAdd, Nat.reduceSub, Nat.reduceMul, Int.reduceAdd, Int.reduceSub, Int.reduceMul, Int.reduceNeg, Int.reduceEq, Int.reduceLT, Int.reduceLE, jq_ldi_i, jq_ldl_l, jq_lda_a, jq_inc_i, jq_gs_t, jq_gsb_t, jq_gb_t, jq_gr_2, jq_gr_4, jq_gw_2, jq_s_t, jq_b_t, jg_c, jg_n, js_c, js_n, jrm_c, jrm_n, j2_i, j2_l, j2_a, jq_c_i, jq_c_l, jq_c_0, jq_c_n, jwd_le, jw_c0, mS_I, mS_R, mS_J, mN_I, mN_R, mN_J, mR_I, mI_R, mJ_I, mJ_R, mI_J, mR_J, ↓reduceIte, decide_true, or_true, true_or, and_self, false_or, or_false, reduceCtorEq, Bool.false_eq_true, and_false, false_and, eq_self, true_and, and_true, zero_ne, gn_4, jw_c4, Int.reduceToNat, e]
  rfl
theorem mhi_23 (hs : mS w h = (1, 8, 0)) (z : h < 64 + mN w) : rn 177 (70, [(0, jvr h)], [], w) = rn 177 (77, [(0, jvr h)], [], nR w h 23 (2, 0, 4)) := by
  have e : mS (newC w (2, 0, 4) 4) h = (1, 8, 0) := (mS_C (by omega)).trans hs
  simp only [p177_70, p177_71, p177_72, p177_74, jwd_c, jwd_0, Nat.reduceLeDiff, Nat.reduceEqDiff, Nat.reduceAdd, Nat.reduceSub, Nat.reduceMul, Int.reduceAdd, Int.reduceSub, Int.reduceMul, Int.reduceNeg, Int.reduceEq, Int.reduceLT, Int.reduceLE, jq_ldi_i, jq_ldl_l, jq_lda_a, jq_inc_i, jq_gs_t, jq_gsb_t, jq_gb_t, jq_gr_2, jq_gr_4, jq_gw_2, jq_s_t, jq_b_t, jg_c, jg_n, js_c, js_n, jrm_c, jrm_n, j2_i, j2_l, j2_a, jq_c_i, jq_c_l, jq_c_0, jq_c_n, jwd_le, jw_c0, mS_I, mS_R, mS_J, mN_I, mN_R, mN_J, mR_I, mI_R, mJ_I, mJ_R, mI_J, mR_J, ↓reduceIte, decide_true, or_true, true_or, and_self, false_or, or_false, reduceCtorEq, Bool.false_eq_true, and_false, false_and, eq_self, true_and, and_true, zero_ne, gn_4, jw_c4, Int.reduceToNat, e]
  rfl
theorem mhi_24 (hs : mS w h = (1, 8, 0)) (z : h < 64 + mN w) : rn 177 (77, [(0, jvr h)], [], w) = rn 177 (85, [(0, jvr h)], [], nR w h 24 (2, 0, 8)) := by
  have e : mS (newC w (2, 0, 8) 8) h = (1, 8, 0) := (mS_C (by omega)).trans hs
  simp only [p177_77, p177_78, p177_80, p177_82, jwd_c, jwd_0, Nat.reduceLeDiff, Nat.reduceEqDiff, Nat.reduceAdd, Nat.reduceSub, Nat.reduceMul, Int.reduceAdd, Int.reduceSub, Int.reduceMul, Int.reduceNeg, Int.reduceEq, Int.reduceLT, Int.reduceLE, jq_ldi_i, jq_ldl_l, jq_lda_a, jq_inc_i, jq_gs_t, jq_gsb_t, jq_gb_t, jq_gr_2, jq_gr_4, jq_gw_2, jq_s_t, jq_b_t, jg_c, jg_n, js_c, js_n, jrm_c, jrm_n, j2_i, j2_l, j2_a, jq_c_i, jq_c_l, jq_c_0, jq_c_n, jwd_le, jw_c0, mS_I, mS_R, mS_J, mN_I, mN_R, mN_J, mR_I, mI_R, mJ_I, mJ_R, mI_J, mR_J, ↓reduceIte, decide_true, or_true, true_or, and_self, false_or, or_false, reduceCtorEq, Bool.false_eq_true, and_false, false_and, eq_self, true_and, and_true, zero_ne, gn_8, jw_c8, Int.reduceToNat, e]
  rfl
theorem mhi_25 (hs : mS w h = (1, 8, 0)) (z : h < 64 + mN w) : rn 177 (85, [(0, jvr h)], [], w) = rn 177 (93, [(0, jvr h)], [], nR w h 25 (2, 0, 8)) := by
  have e : mS (newC w (2, 0, 8) 8) h = (1, 8, 0) := (mS_C (by omega)).trans hs
  simp only [p177_85, p177_86, p177_88, p177_90, jwd_c, jwd_0, Nat.reduceLeDiff, Nat.reduceEqDiff, Nat.reduceAdd, Nat.reduceSub, Nat.reduceMul, Int.reduceAdd, Int.reduceSub, Int.reduceMul, Int.reduceNeg, Int.reduceEq, Int.reduceLT, Int.reduceLE, jq_ldi_i, jq_ldl_l, jq_lda_a, jq_inc_i, jq_gs_t, jq_gsb_t, jq_gb_t, jq_gr_2, jq_gr_4, jq_gw_2, jq_s_t, jq_b_t, jg_c, jg_n, js_c, js_n, jrm_c, jrm_n, j2_i, j2_l, j2_a, jq_c_i, jq_c_l, jq_c_0, jq_c_n, jwd_le, jw_c0, mS_I, mS_R, mS_J, mN_I, mN_R, mN_J, mR_I, mI_R, mJ_I, mJ_R, mI_J, mR_J, ↓reduceIte, decide_true, or_true, true_or, and_self, false_or, or_false, reduceCtorEq, Bool.false_eq_true, and_false, false_and, eq_self, true_and, and_true, zero_ne, gn_8, jw_c8, Int.reduceToNat, e]
  rfl
theorem mhi_26 (hs : mS w h = (1, 8, 0)) (z : h < 64 + mN w) : rn 177 (93, [(0, jvr h)], [], w) = rn 177 (101, [(0, jvr h)], [], nR w h 26 (2, 0, 8)) := by
  have e : mS (newC w (2, 0, 8) 8) h = (1, 8, 0) := (mS_C (by omega)).trans hs
  simp only [p177_93, p177_94, p177_96, p177_98, jwd_c, jwd_0, Nat.reduceLeDiff, Nat.reduceEqDiff, Nat.reduceAdd, Nat.reduceSub, Nat.reduceMul, Int.reduceAdd, Int.reduceSub, Int.reduceMul, Int.reduceNeg, Int.reduceEq, Int.reduceLT, Int.reduceLE, jq_ldi_i, jq_ldl_l, jq_lda_a, jq_inc_i, jq_gs_t, jq_gsb_t, jq_gb_t, jq_gr_2, jq_gr_4, jq_gw_2, jq_s_t, jq_b_t, jg_c, jg_n, js_c, js_n, jrm_c, jrm_n, j2_i, j2_l, j2_a, jq_c_i, jq_c_l, jq_c_0, jq_c_n, jwd_le, jw_c0, mS_I, mS_R, mS_J, mN_I, mN_R, mN_J, mR_I, mI_R, mJ_I, mJ_R, mI_J, mR_J, ↓reduceIte, decide_true, or_true, true_or, and_self, false_or, or_false, reduceCtorEq, Bool.false_eq_true, and_false, false_and, eq_self, true_and, and_true, zero_ne, gn_8, jw_c8, Int.reduceToNat, e]
  rfl
theorem mhi_27 (hs : mS w h = (1, 8, 0)) (z : h < 64 + mN w) : rn 177 (101, [(0, jvr h)], [], w) = rn 177 (109, [(0, jvr h)], [], nR w h 27 (2, 0, 8)) := by
  have e : mS (newC w (2, 0, 8) 8) h = (1, 8, 0) := (mS_C (by omega)).trans hs
  simp only [p177_101, p177_102, p177_104, p177_106, jwd_c, jwd_0, Nat.reduceLeDiff, Nat.reduceEqDiff, Nat.reduceAdd, Nat.reduceSub, Nat.reduceMul, Int.reduceAdd, Int.reduceSub, Int.reduceMul, Int.reduceNeg, Int.reduceEq, Int.reduceLT, Int.reduceLE, jq_ldi_i, jq_ldl_l, jq_lda_a, jq_inc_i, jq_gs_t, jq_gsb_t, jq_gb_t, jq_gr_2, jq_gr_4, jq_gw_2, jq_s_t, jq_b_t, jg_c, jg_n, js_c, js_n, jrm_c, jrm_n, j2_i, j2_l, j2_a, jq_c_i, jq_c_l, jq_c_0, jq_c_n, jwd_le, jw_c0, mS_I, mS_R, mS_J, mN_I, mN_R, mN_J, mR_I, mI_R, mJ_I, mJ_R, mI_J, mR_J, ↓reduceIte, decide_true, or_true, true_or, and_self, false_or, or_false, reduceCtorEq, Bool.false_eq_true, and_false, false_and, eq_self, true_and, and_true, zero_ne, gn_8, jw_c8, Int.reduceToNat, e]
  rfl
theorem mhi_28 (hs : mS w h = (1, 8, 0)) (z : h < 64 + mN w) : rn 177 (109, [(0, jvr h)], [], w) = rn 177 (117, [(0, jvr h)], [], nR w h 28 (2, 0, 12)) := by
  have e : mS (newC w (2, 0, 12) 12) h = (1, 8, 0) := (mS_C (by omega)).trans hs
  simp only [p177_109, p177_110, p177_112, p177_114, jwd_c, jwd_0, Nat.reduceLeDiff, Nat.reduceEqDiff, Nat.reduceAdd, Nat.reduceSub, Nat.reduceMul, Int.reduceAdd, Int.reduceSub, Int.reduceMul, Int.reduceNeg, Int.reduceEq, Int.reduceLT, Int.reduceLE, jq_ldi_i, jq_ldl_l, jq_lda_a, jq_inc_i, jq_gs_t, jq_gsb_t, jq_gb_t, jq_gr_2, jq_gr_4, jq_gw_2, jq_s_t, jq_b_t, jg_c, jg_n, js_c, js_n, jrm_c, jrm_n, j2_i, j2_l, j2_a, jq_c_i, jq_c_l, jq_c_0, jq_c_n, jwd_le, jw_c0, mS_I, mS_R, mS_J, mN_I, mN_R, mN_J, mR_I, mI_R, mJ_I, mJ_R, mI_J, mR_J, ↓reduceIte, decide_true, or_true, true_or, and_self, false_or, or_false, reduceCtorEq, Bool.false_eq_true, and_false, false_and, eq_self, true_and, and_true, zero_ne, gn_12, jw_c12, Int.reduceToNat, e]
  rfl
theorem mhi_29 (hs : mS w h = (1, 8, 0)) (z : h < 64 + mN w) : rn 177 (117, [(0, jvr h)], [], w) = rn 177 (125, [(0, jvr h)], [], nR w h 29 (2, 0, 8)) := by
  have e : mS (newC w (2, 0, 8) 8) h = (1, 8, 0) := (mS_C (by omega)).trans hs
  simp only [p177_117, p177_118, p177_120, p177_122, jwd_c, jwd_0, Nat.reduceLeDiff, Nat.reduceEqDiff, Nat.reduceAdd, Nat.reduceSub, Nat.reduceMul, Int.reduceAdd, Int.reduceSub, Int.reduceMul, Int.reduceNeg, Int.reduceEq, Int.reduceLT, Int.reduceLE, jq_ldi_i, jq_ldl_l, jq_lda_a, jq_inc_i, jq_gs_t, jq_gsb_t, jq_gb_t, jq_gr_2, jq_gr_4, jq_gw_2, jq_s_t, jq_b_t, jg_c, jg_n, js_c, js_n, jrm_c, jrm_n, j2_i, j2_l, j2_a, jq_c_i, jq_c_l, jq_c_0, jq_c_n, jwd_le, jw_c0, mS_I, mS_R, mS_J, mN_I, mN_R, mN_J, mR_I, mI_R, mJ_I, mJ_R, mI_J, mR_J, ↓reduceIte, decide_true, or_true, true_or, and_self, false_or, or_false, reduceCtorEq, Bool.false_eq_true, and_false, false_and, eq_self, true_and, and_true, zero_ne, gn_8, jw_c8, Int.reduceToNat, e]
  rfl
theorem mhi_30 (hs : mS w h = (1, 8, 0)) (z : h < 64 + mN w) : rn 177 (125, [(0, jvr h)], [], w) = rn 177 (133, [(0, jvr h)], [], nR w h 30 (2, 0, 8)) := by
  have e : mS (newC w (2, 0, 8) 8) h = (1, 8, 0) := (mS_C (by omega)).trans hs
  simp only [p177_125, p177_126, p177_128, p177_130, jwd_c, jwd_0, Nat.reduceLeDiff, Nat.reduceEqDiff, Nat.reduceAdd, Nat.reduceSub, Nat.reduceMul, Int.reduceAdd, Int.reduceSub, Int.reduceMul, Int.reduceNeg, Int.reduceEq, Int.reduceLT, Int.reduceLE, jq_ldi_i, jq_ldl_l, jq_lda_a, jq_inc_i, jq_gs_t, jq_gsb_t, jq_gb_t, jq_gr_2, jq_gr_4, jq_gw_2, jq_s_t, jq_b_t, jg_c, jg_n, js_c, js_n, jrm_c, jrm_n, j2_i, j2_l, j2_a, jq_c_i, jq_c_l, jq_c_0, jq_c_n, jwd_le, jw_c0, mS_I, mS_R, mS_J, mN_I, mN_R, mN_J, mR_I, mI_R, mJ_I, mJ_R, mI_J, mR_J, ↓reduceIte, decide_true, or_true, true_or, and_self, false_or, or_false, reduceCtorEq, Bool.false_eq_true, and_false, false_and, eq_self, true_and, and_true, zero_ne, gn_8, jw_c8, Int.reduceToNat, e]
  rfl
theorem mhi_31 (hs : mS w h = (1, 8, 0)) (z : h < 64 + mN w) : rn 177 (133, [(0, jvr h)], [], w) = rn 177 (141, [(0, jvr h)], [], nR w h 31 (2, 0, 8)) := by
  have e : mS (newC w (2, 0, 8) 8) h = (1, 8, 0) := (mS_C (by omega)).trans hs
  simp only [p177_133, p177_134, p177_136, p177_138, jwd_c, jwd_0, Nat.reduceLeDiff, Nat.reduceEqDiff, Nat.reduceAdd, Nat.reduceSub, Nat.reduceMul, Int.reduceAdd, Int.reduceSub, Int.reduceMul, Int.reduceNeg, Int.reduceEq, Int.reduceLT, Int.reduceLE, jq_ldi_i, jq_ldl_l, jq_lda_a, jq_inc_i, jq_gs_t, jq_gsb_t, jq_gb_t, jq_gr_2, jq_gr_4, jq_gw_2, jq_s_t, jq_b_t, jg_c, jg_n, js_c, js_n, jrm_c, jrm_n, j2_i, j2_l, j2_a, jq_c_i, jq_c_l, jq_c_0, jq_c_n, jwd_le, jw_c0, mS_I, mS_R, mS_J, mN_I, mN_R, mN_J, mR_I, mI_R, mJ_I, mJ_R, mI_J, mR_J, ↓reduceIte, decide_true, or_true, true_or, and_self, false_or, or_false, reduceCtorEq, Bool.false_eq_true, and_false, false_and, eq_self, true_and, and_true, zero_ne, gn_8, jw_c8, Int.reduceToNat, e]
  rfl
theorem mhi_32 (hs : mS w h = (1, 8, 0)) (z : h < 64 + mN w) : rn 177 (141, [(0, jvr h)], [], w) = rn 177 (148, [(0, jvr h)], [], nR w h 32 (2, 2, 4)) := by
  have e : mS (newC w (2, 2, 4) 4) h = (1, 8, 0) := (mS_C (by omega)).trans hs
  simp only [p177_141, p177_142, p177_143, p177_145, jwd_c, jwd_0, Nat.reduceLeDiff, Nat.reduceEqDiff, Nat.reduceAdd, Nat.reduceSub, Nat.reduceMul, Int.reduceAdd, Int.reduceSub, Int.reduceMul, Int.reduceNeg, Int.reduceEq, Int.reduceLT, Int.reduceLE, jq_ldi_i, jq_ldl_l, jq_lda_a, jq_inc_i, jq_gs_t, jq_gsb_t, jq_gb_t, jq_gr_2, jq_gr_4, jq_gw_2, jq_s_t, jq_b_t, jg_c, jg_n, js_c, js_n, jrm_c, jrm_n, j2_i, j2_l, j2_a, jq_c_i, jq_c_l, jq_c_0, jq_c_n, jwd_le, jw_c0, mS_I, mS_R, mS_J, mN_I, mN_R, mN_J, mR_I, mI_R, mJ_I, mJ_R, mI_J, mR_J, ↓reduceIte, decide_true, or_true, true_or, and_self, false_or, or_false, reduceCtorEq, Bool.false_eq_true, and_false, false_and, eq_self, true_and, and_true, zero_ne, gn_4, jw_c4, Int.reduceToNat, e]
  rfl
theorem nR_p (hs : mS w h = (1, 8, 0)) (z : h < 64 + mN w) {k : Nat} {sh : Nat × Nat × Nat} : mS (nR w h k sh) h = (1, 8, 0) ∧ h < 64 + mN (nR w h k sh) := ⟨(mS_C (sh := sh) (n := sh.2.2) (by omega)).trans hs, by show h < 64 + (mN w + 1); omega⟩
theorem mh_init (hs : mS w h = (1, 8, 0)) (z : h < 64 + mN w) : rn 177 (0, [(0, jvr h)], [], w) = some (none, nRs (setI (setI (setI (setI w h 7 (-1)) h 10 (-2)) h 12 (-2)) h 13 (-2)) h LHm) := by
  obtain ⟨w1, hw1⟩ : ∃ w1, w1 = setI (setI (setI (setI w h 7 (-1)) h 10 (-2)) h 12 (-2)) h 13 (-2) := ⟨_, rfl⟩
  have s1 : mS w1 h = (1, 8, 0) := by rw [hw1]; exact hs
  have z1 : h < 64 + mN w1 := by rw [hw1]; exact z
  have e0 : rn 177 (0, [(0, jvr h)], [], w) = rn 177 (27, [(0, jvr h)], [], w1) := by
    rw [hw1]
    simp only [p177_0, p177_1, p177_4, p177_5, p177_6, p177_9, p177_10, p177_12, p177_15, p177_16, p177_18, p177_21, p177_22, p177_24, jwd_c, jwd_0, Nat.reduceLeDiff, Nat.reduceEqDiff, Nat.reduceAdd, Nat.reduceSub, Nat.reduceMul, Int.reduceAdd, Int.reduceSub, Int.reduceMul, Int.reduceNeg, Int.reduceEq, Int.reduceLT, Int.reduceLE, jq_ldi_i, jq_ldl_l, jq_lda_a, jq_inc_i, jq_gs_t, jq_gsb_t, jq_gb_t, jq_gr_2, jq_gr_4, jq_gw_2, jq_s_t, jq_b_t, jg_c, jg_n, js_c, js_n, jrm_c, jrm_n, j2_i, j2_l, j2_a, jq_c_i, jq_c_l, jq_c_0, jq_c_n, jwd_le, jw_c0, mS_I, mS_R, mS_J, mN_I, mN_R, mN_J, mR_I, mI_R, mJ_I, mJ_R, mI_J, mR_J, ↓reduceIte, decide_true, or_true, true_or, and_self, false_or, or_false, reduceCtorEq, Bool.false_eq_true, and_false, false_and, eq_self, true_and, and_true, zero_ne, hs]
  rw [e0, ← hw1]
  clear e0 hw1
  rw [mhi_17 s1 z1]
  obtain ⟨s1, z1⟩ := nR_p s1 z1 (k := 17) (sh := (2, 0, 48))
  rw [mhi_18 s1 z1]
  obtain ⟨s1, z1⟩ := nR_p s1 z1 (k := 18) (sh := (2, 0, 4))
  rw [mhi_19 s1 z1]
  obtain ⟨s1, z1⟩ := nR_p s1 z1 (k := 19) (sh := (2, 0, 4))
  rw [mhi_20 s1 z1]
  obtain ⟨s1, z1⟩ := nR_p s1 z1 (k := 20) (sh := (2, 0, 4))
  rw [mhi_21 s1 z1]
  obtain ⟨s1, z1⟩ := nR_p s1 z1 (k := 21) (sh := (2, 0, 4))
  rw [mhi_22 s1 z1]
  obtain ⟨s1, z1⟩ := nR_p s1 z1 (k := 22) (sh := (2, 0, 4))
  rw [mhi_23 s1 z1]
  obtain ⟨s1, z1⟩ := nR_p s1 z1 (k := 23) (sh := (2, 0, 4))
  rw [mhi_24 s1 z1]
  obtain ⟨s1, z1⟩ := nR_p s1 z1 (k := 24) (sh := (2, 0, 8))
  rw [mhi_25 s1 z1]
  obtain ⟨s1, z1⟩ := nR_p s1 z1 (k := 25) (sh := (2, 0, 8))
  rw [mhi_26 s1 z1]
  obtain ⟨s1, z1⟩ := nR_p s1 z1 (k := 26) (sh := (2, 0, 8))
  rw [mhi_27 s1 z1]
  obtain ⟨s1, z1⟩ := nR_p s1 z1 (k := 27) (sh := (2, 0, 8))
  rw [mhi_28 s1 z1]
  obtain ⟨s1, z1⟩ := nR_p s1 z1 (k := 28) (sh := (2, 0, 12))
  rw [mhi_29 s1 z1]
  obtain ⟨s1, z1⟩ := nR_p s1 z1 (k := 29) (sh := (2, 0, 8))
  rw [mhi_30 s1 z1]
  obtain ⟨s1, z1⟩ := nR_p s1 z1 (k := 30) (sh := (2, 0, 8))
  rw [mhi_31 s1 z1]
  obtain ⟨s1, z1⟩ := nR_p s1 z1 (k := 31) (sh := (2, 0, 8))
  rw [mhi_32 s1 z1]
  obtain ⟨s1, z1⟩ := nR_p s1 z1 (k := 32) (sh := (2, 2, 4))
  rw [p177_148]
  rfl
theorem lhm_nd : (LHm.map Prod.fst).Nodup := by decide
/-- what a new Hall changes: its own cells alone -/
theorem mh_new (z : 252 ≤ h) (hh : h = 64 + mN w) (m0 : MO w) : ∃ v, rn 177 (0, [(0, jvr h)], [], newC w (1, 8, 0) 33) = some (none, v) ∧ MH v h gH0 ∧ (mS v (h + 16) = (2, 2, 4) ∧ mR v h 32 = some (h + 16) ∧ mJ v (h + 16) = gH0 99) ∧ mN v = mN w + 17 ∧ mK v = mK w + 33 + 144 ∧ (∀ b, b < h → mS v b = mS w b ∧ mI v b = mI w b ∧ mR v b = mR w b ∧ mJ v b = mJ w b) := by
  have hs : mS (newC w (1, 8, 0) 33) h = (1, 8, 0) := by rw [hh]; exact mS_Cs
  have hi : mI (newC w (1, 8, 0) 33) h = (fun _ => 0) := by rw [hh]; exact mI_Cs
  obtain ⟨w1, hw1⟩ : ∃ w1, w1 = setI (setI (setI (setI (newC w (1, 8, 0) 33) h 7 (-1)) h 10 (-2)) h 12 (-2)) h 13 (-2) := ⟨_, rfl⟩
  have n1 : mN w1 = mN w + 1 := by rw [hw1]; rfl
  have k1 : mK w1 = mK w + 33 := by rw [hw1]; rfl
  have e := mh_init hs (by rw [mN_C]; omega)
  rw [← hw1] at e
  have s1 : mS w1 = mS (newC w (1, 8, 0) 33) := by rw [hw1]; rfl
  have r1 : mR w1 = mR (newC w (1, 8, 0) 33) := by rw [hw1]; rfl
  have j1 : mJ w1 = mJ (newC w (1, 8, 0) 33) := by rw [hw1]; rfl
  have i1 : ∀ b, b ≠ h → mI w1 b = mI (newC w (1, 8, 0) 33) b := fun b hb => by rw [hw1, mI_nb hb, mI_nb hb, mI_nb hb, mI_nb hb]
  obtain ⟨a1, a2, a3, a4⟩ := nRs_h (h := h) LHm w1 (by omega)
  have nn := nRs_n (h := h) LHm w1 (by omega) lhm_nd
  rw [show 64 + mN w1 = h + 1 by omega] at nn
  have ih : ∀ k, mI (nRs w1 h LHm) h k = if k = 13 then -2 else if k = 12 then -2 else if k = 10 then -2 else if k = 7 then -1 else 0 := fun k => by
    rw [a2, hw1]
    by_cases z1 : k = 13
    · rw [if_pos z1, z1, mI_s]
    rw [if_neg z1, mI_nk z1]
    by_cases z2 : k = 12
    · rw [if_pos z2, z2, mI_s]
    rw [if_neg z2, mI_nk z2]
    by_cases z3 : k = 10
    · rw [if_pos z3, z3, mI_s]
    rw [if_neg z3, mI_nk z3]
    by_cases z4 : k = 7
    · rw [if_pos z4, z4, mI_s]
    rw [if_neg z4, mI_nk z4, hi]
  refine ⟨_, e, ?_, ?_, ?_, ?_, ?_⟩
  · exact ⟨a1.trans ((congrFun s1 h).trans hs), (nn 0 _ _ rfl).1, (nn 1 _ _ rfl).1, (nn 2 _ _ rfl).1, (nn 3 _ _ rfl).1, (nn 4 _ _ rfl).1, (nn 5 _ _ rfl).1, (nn 6 _ _ rfl).1, (nn 7 _ _ rfl).1, (nn 8 _ _ rfl).1, (nn 9 _ _ rfl).1, (nn 10 _ _ rfl).1, (nn 11 _ _ rfl).1, (nn 12 _ _ rfl).1, (nn 13 _ _ rfl).1, (nn 14 _ _ rfl).1, (nn 0 _ _ rfl).2.2.2, (nn 1 _ _ rfl).2.2.2, (nn 2 _ _ rfl).2.2.2, (nn 3 _ _ rfl).2.2.2, (nn 4 _ _ rfl).2.2.2, (nn 5 _ _ rfl).2.2.2, (nn 6 _ _ rfl).2.2.2, (nn 7 _ _ rfl).2.2.2, (nn 8 _ _ rfl).2.2.2, (nn 9 _ _ rfl).2.2.2, (nn 10 _ _ rfl).2.2.2, (nn 11 _ _ rfl).2.2.2, (nn 12 _ _ rfl).2.2.2, (nn 13 _ _ rfl).2.2.2, (nn 14 _ _ rfl).2.2.2, ih 0, ih 1, ih 2, ih 3, ih 4, ih 5, ih 6, ih 7, ih 8, ih 9, ih 10, ih 11, ih 12, ih 13, ih 14, ih 15, ih 16, (nn 0 _ _ rfl).2.1, (nn 1 _ _ rfl).2.1, (nn 2 _ _ rfl).2.1, (nn 3 _ _ rfl).2.1, (nn 4 _ _ rfl).2.1, (nn 5 _ _ rfl).2.1, (nn 6 _ _ rfl).2.1, (nn 7 _ _ rfl).2.1, (nn 8 _ _ rfl).2.1, (nn 9 _ _ rfl).2.1, (nn 10 _ _ rfl).2.1, (nn 11 _ _ rfl).2.1, (nn 12 _ _ rfl).2.1, (nn 13 _ _ rfl).2.1, (nn 14 _ _ rfl).2.1, z⟩
  · exact ⟨(nn 15 _ _ rfl).1, (nn 15 _ _ rfl).2.2.2, (nn 15 _ _ rfl).2.2.1⟩
  · rw [nRs_N, n1]
    rfl
  · rw [nRs_K, k1]
    rfl
  · intro b hb
    obtain ⟨c1, c2, c3, c4⟩ := nRs_o (b := b) (h := h) LHm w1 (by omega) (by omega)
    exact ⟨c1.trans ((congrFun s1 b).trans (mS_C (by omega))), c2.trans ((i1 b (by omega)).trans (mI_C (by omega))), c3.trans ((congrFun r1 b).trans (mR_C (by omega))), c4.trans ((congrFun j1 b).trans (mJ_C (by omega)))⟩
end MHALL
