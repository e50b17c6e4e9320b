/-! The row as it starts. -/
/-- those told stand on open cells -/
def HS (H : Nat → Nat → Int) : Prop := ∀ m : Nat, (m : Int) < H 0 4 → 0 ≤ gBk H m ∧ gBk H m < H 1 0 ∧ H 17 (gBk H m).toNat < 2
section START
variable {w u : jmW} {h : Nat} {H : Nat → Nat → Int} {r S q g : Nat → Int} {B Bt : Int}
theorem s0_w {k : Int} (h1 : 0 ≤ k) (h2 : k < 204) : gS0 H k.toNat = if k < H 0 4 then gBk H (H 0 4 - 1 - k).toNat else 0 := by
  unfold gS0
  rw [if_pos (by omega), show ((k.toNat : Nat) : Int) = k by omega]
theorem s0_a {i : Int} (h1 : 0 ≤ i) (h2 : i < 16) (h3 : i < H 0 4) : gS0 H (204 + i).toNat = i ∧ gS0 H (220 + i).toNat = H 0 4 - 1 - i ∧ gS0 H (236 + i).toNat = H 24 i.toNat ∧ gS0 H (252 + i).toNat = H 25 i.toNat ∧ gS0 H (268 + i).toNat = H 26 i.toNat := by
  unfold gS0
  refine ⟨?_, ?_, ?_, ?_, ?_⟩
  · rw [if_neg (by omega), if_pos (by omega), if_pos (by omega)]
    omega
  · rw [if_neg (by omega), if_neg (by omega), if_pos (by omega), if_pos (by omega)]
    omega
  · rw [if_neg (by omega), if_neg (by omega), if_neg (by omega), if_pos (by omega), if_pos (by omega), show (236 + i).toNat - 236 = i.toNat by omega]
  · rw [if_neg (by omega), if_neg (by omega), if_neg (by omega), if_neg (by omega), if_pos (by omega), if_pos (by omega), show (252 + i).toNat - 252 = i.toNat by omega]
  · rw [if_neg (by omega), if_neg (by omega), if_neg (by omega), if_neg (by omega), if_neg (by omega), if_pos (by omega), if_pos (by omega), show (268 + i).toNat - 268 = i.toNat by omega]
theorem s0_n : gS0 H 288 = H 0 4 ∧ gS0 H 289 = H 0 4 ∧ gS0 H 290 = H 0 4 ∧ gS0 H 291 = H 0 7 ∧ gS0 H 292 = H 0 14 ∧ gS0 H 293 = 0 ∧ gS0 H 294 = 0 ∧ gS0 H 295 = 0 ∧ gS0 H 296 = H 0 10 ∧ gS0 H 297 = 0 := ⟨rfl, rfl, rfl, rfl, rfl, rfl, rfl, rfl, rfl, rfl⟩
theorem s0_t {t : Int} (h1 : 0 ≤ t) (h2 : t < 4) : gS0 H (284 + t).toNat = if t < H 0 3 then H 19 t.toNat else 0 := by
  unfold gS0
  rw [if_neg (by omega), if_neg (by omega), if_neg (by omega), if_neg (by omega), if_neg (by omega), if_neg (by omega), if_pos (by omega), show (284 + t).toNat - 284 = t.toNat by omega, show (((284 + t).toNat : Nat) : Int) - 284 = t by omega]
/-- there and back -/
theorem to_back (hk : HOK H) {c s : Int} (c1 : 0 ≤ c) (c2 : c < H 1 0) (s1 : 0 ≤ s) (s2 : s < 4) (h : gTo H c (s + 2) ≠ -1) : gTo H (gTo H c (s + 2)) s = c := by
  obtain ⟨k1, k2, k3, k4, k5, k6, k7⟩ := hk.1
  have hW := w6 k2 k3
  have hs4 : s = 0 ∨ s = 1 ∨ s = 2 ∨ s = 3 := by omega
  have hh : H 0 1 = 2 ∨ H 0 1 = 3 ∨ H 0 1 = 4 ∨ H 0 1 = 5 ∨ H 0 1 = 6 := by omega
  unfold gTo at h ⊢
  generalize H 1 0 = N at *
  generalize H 0 0 = W at *
  generalize H 0 1 = V at *
  clear k2 k3 k4 k5 k6 k7 s1 s2
  rcases hW with rfl | rfl | rfl | rfl | rfl | rfl
  all_goals
    rcases hs4 with rfl | rfl | rfl | rfl
    all_goals
      simp only [Int.reduceAdd, Int.reduceMod, Int.reduceEq, if_true, if_false, Int.zero_add] at h ⊢
      revert h
      (repeat' split) <;> omega
theorem ri_S0 (hk : HOK H) (hs : HS H) (hB : 0 ≤ B) : RI H B (gS0 H) ∧ gS0 H 289 ≤ gS0 H 290 := by
  obtain ⟨n8, n9, n0, n1, n2, n3, n4, n5, n6, n7⟩ := s0_n (H := H)
  have kc := hk.1
  have k2 := hk.2.1
  have k3 := hk.2.2.1
  have kt := hk.2.2.2.2.1
  have kd := hk.2.2.2.2.2.1
  have ts : ∀ t : Int, 0 ≤ t → t < 4 → 0 ≤ gS0 H (284 + t).toNat ∧ gS0 H (284 + t).toNat ≤ 9 := by
    intro t t1 t2
    rw [s0_t t1 t2]
    by_cases z : t < H 0 3
    · rw [if_pos z]
      have := kt t t1 z
      omega
    · rw [if_neg z]
      omega
  have t0 := ts 0 (by omega) (by omega)
  have t1 := ts 1 (by omega) (by omega)
  have t2 := ts 2 (by omega) (by omega)
  have t3 := ts 3 (by omega) (by omega)
  rw [show (284 + (0 : Int)).toNat = 284 from rfl] at t0
  rw [show (284 + (1 : Int)).toNat = 285 from rfl] at t1
  rw [show (284 + (2 : Int)).toNat = 286 from rfl] at t2
  rw [show (284 + (3 : Int)).toNat = 287 from rfl] at t3
  have way : ∀ k : Int, 0 ≤ k → k < H 0 4 → gS0 H (0 + k).toNat = gBk H (H 0 4 - 1 - k).toNat := by
    intro k a b
    rw [Int.zero_add, s0_w a (by omega), if_pos b]
  refine ⟨⟨?_, ?_, ?_, ?_, ?_⟩, by rw [n9, n0]; omega⟩
  · unfold RA
    rw [n8, n9, n0, n1, n2, n3, n4, n5, n6, n7]
    refine ⟨by omega, by omega, ?_⟩
    refine ⟨by omega, by omega, by omega, by omega, by omega, by omega, by omega, by omega, by omega, by omega, by omega, by omega, by omega, fun z => z, Or.inl rfl⟩
  · intro i i1 i2
    rw [n9] at i2
    obtain ⟨a1, a2, a3, a4, a5⟩ := s0_a (H := H) i1 (by omega) i2
    have := kd i i1 i2
    rw [a1, a2, a3, a4, a5, n0, n8]
    omega
  · refine ⟨fun k a b => ?_, fun k a b => ?_⟩
    · rw [n8] at b
      rw [way k a b]
      exact hs _ (by omega)
    · rw [n8] at b
      rw [way k a (by omega), show (0 + k + 1) = 0 + (k + 1) by omega, way (k + 1) (by omega) b]
      refine ⟨H 0 14, by omega, by omega, ?_⟩
      have e : (H 0 4 - 1 - k).toNat = (H 0 4 - 1 - (k + 1)).toNat + 1 := by omega
      have p := hs (H 0 4 - 1 - (k + 1)).toNat (by omega)
      have p2 := hs ((H 0 4 - 1 - (k + 1)).toNat + 1) (by omega)
      rw [e]
      have d : gBk H ((H 0 4 - 1 - (k + 1)).toNat + 1) = gTo H (gBk H (H 0 4 - 1 - (k + 1)).toNat) (H 0 14 + 2) := rfl
      rw [d] at p2 ⊢
      exact to_back hk p.1 p.2.1 (by omega) (by omega) (by omega)
  · refine ⟨?_, fun i i1 i2 => ?_⟩
    · have := (s0_a (H := H) (i := 0) (by omega) (by omega) (by omega)).2.1
      rw [n8, show (220 : Nat) = (220 + (0 : Int)).toNat from rfl, this]
      omega
    · rw [n9] at i2
      have p1 := (s0_a (H := H) (i := i) (by omega) (by omega) (by omega)).2.1
      have p2 := (s0_a (H := H) (i := i - 1) (by omega) (by omega) (by omega)).2.1
      rw [show (220 + i - 1).toNat = (220 + (i - 1)).toNat by omega, p1, p2]
      omega
  · rw [n8]
    omega
/-- the model lays the first row -/
def gSf (H : Nat → Nat → Int) : Nat → (Nat → Int) → (Nat → Int)
  | 0, f => f
  | n + 1, f => up1 (up1 (up1 (up1 (up1 (up1 (gSf H n f) (H 0 4 - 1 - n).toNat (gBk H n)) (204 + (n : Int)).toNat n) (220 + (n : Int)).toNat (H 0 4 - 1 - n)) (236 + (n : Int)).toNat (H 24 n)) (252 + (n : Int)).toNat (H 25 n)) (268 + (n : Int)).toNat (H 26 n)
theorem st_lp1 {a : Nat} (hs : mS w a = (2, 0, 298)) : ∀ (n : Nat) (i : Int) (q : Nat → Int), 0 ≤ i → i + n = 298 → rn 212 (2, [(0, jvr 238), (1, jvr a), (2, .inl i)], [], setA w a q) = rn 212 (19, [(0, jvr 238), (1, jvr a), (2, .inl 298)], [], setA w a (fun k => if i ≤ k ∧ k < 298 then 0 else q k)) := by
  intro n
  induction n with
  | zero =>
    intro i q i1 i2
    have e0 : i = 298 := by omega
    subst e0
    have e : (fun k : Nat => if (298 : Int) ≤ k ∧ k < 298 then (0 : Int) else q k) = q := by
      funext k
      rw [if_neg (by omega)]
    rw [e, p212_2]
    simp (disch := omega) only [p212_0, p212_1, p212_3, p212_6, p212_9, p212_10, p212_11, p212_12, p212_13, p212_16, p212_20, p212_23, p212_26, p212_27, p212_28, p212_30, p212_31, p212_34, p212_37, p212_40, p212_41, p212_44, p212_47, p212_48, p212_49, p212_50, p212_51, p212_53, p212_54, p212_55, p212_57, p212_58, p212_59, p212_60, p212_61, p212_64, p212_65, p212_66, p212_69, p212_72, p212_73, p212_74, p212_77, p212_78, p212_79, p212_82, p212_83, p212_84, p212_85, p212_86, p212_87, p212_90, p212_91, p212_92, p212_94, p212_95, p212_96, p212_99, p212_100, p212_101, p212_102, p212_105, p212_108, p212_109, p212_110, p212_111, p212_112, p212_115, p212_116, p212_117, p212_118, p212_121, p212_124, p212_125, p212_126, p212_127, p212_128, p212_131, p212_132, p212_133, p212_134, p212_137, p212_140, p212_141, p212_142, p212_143, p212_146, p212_150, p212_152, p212_153, p212_156, p212_159, p212_162, p212_163, p212_166, p212_167, p212_168, p212_169, p212_172, p212_175, p212_176, p212_177, p212_178, p212_181, p212_185, p212_188, p212_189, p212_192, p212_195, p212_196, p212_197, p212_200, p212_201, p212_204, p212_207, p212_208, p212_209, p212_212, p212_213, p212_216, p212_219, p212_220, p212_221, p212_224, p212_225, p212_228, p212_231, p212_232, p212_233, p212_236, p212_237, p212_240, p212_243, p212_244, p212_245, p212_248, p212_249, p212_252, p212_255, p212_256, jwd_c, jwd_0, Nat.reduceLeDiff, Nat.reduceEqDiff, Nat.reduceAdd, Nat.reduceSub, Nat.reduceMul, Int.reduceAdd, Int.reduceSub, Int.reduceMul, Int.reduceNeg, Int.reduceEq, Int.reduceLT, Int.reduceLE, jq_ldi_i, jq_ldl_l, jq_lda_a, jq_inc_i, jq_gs_t, jq_gsb_t, jq_gb_t, jq_gr_2, jq_gr_4, jq_gw_2, jq_s_t, jq_b_t, jg_c, jg_n, js_c, js_n, jrm_c, jrm_n, j2_i, j2_l, j2_a, jq_c_i, jq_c_l, jq_c_0, jq_c_n, jwd_le, jw_c0, mS_I, mS_R, mS_J, mN_I, mN_R, mN_J, mR_I, mI_R, mJ_I, mJ_R, mI_J, mR_J, ↓reduceIte, decide_true, or_true, true_or, and_self, false_or, or_false, reduceCtorEq, Bool.false_eq_true, and_false, false_and, eq_self, true_and, and_true, zero_ne, ↓br_lt_t, ↓br_lt_f, ↓br_eq_t, ↓br_eq_f, ↓br_lz_t, ↓br_lz_f, ↓br_ez_t, ↓br_ez_f, ↓br_gz_t, ↓br_gz_f, jw_id, jin_t, jix_t]
  | succ n ih =>
    intro i q i1 i2
    have e := ih (i + 1) (up1 q i.toNat 0) (by omega) (by omega)
    have e2 : (fun k : Nat => if i + 1 ≤ k ∧ k < 298 then (0 : Int) else up1 q i.toNat 0 k) = (fun k : Nat => if i ≤ k ∧ k < 298 then 0 else q k) := by
      funext k
      by_cases z : k = i.toNat
      · rw [z, if_neg (by omega), if_pos (by omega), up1_s]
      · rw [up1_n z]
        by_cases y : i ≤ k ∧ k < 298
        · rw [if_pos y, if_pos (by omega)]
        · rw [if_neg y, if_neg (by omega)]
    rw [e2] at e
    rw [← e, p212_2]
    simp (disch := omega) only [p212_0, p212_1, p212_3, p212_6, p212_9, p212_10, p212_11, p212_12, p212_13, p212_16, p212_20, p212_23, p212_26, p212_27, p212_28, p212_30, p212_31, p212_34, p212_37, p212_40, p212_41, p212_44, p212_47, p212_48, p212_49, p212_50, p212_51, p212_53, p212_54, p212_55, p212_57, p212_58, p212_59, p212_60, p212_61, p212_64, p212_65, p212_66, p212_69, p212_72, p212_73, p212_74, p212_77, p212_78, p212_79, p212_82, p212_83, p212_84, p212_85, p212_86, p212_87, p212_90, p212_91, p212_92, p212_94, p212_95, p212_96, p212_99, p212_100, p212_101, p212_102, p212_105, p212_108, p212_109, p212_110, p212_111, p212_112, p212_115, p212_116, p212_117, p212_118, p212_121, p212_124, p212_125, p212_126, p212_127, p212_128, p212_131, p212_132, p212_133, p212_134, p212_137, p212_140, p212_141, p212_142, p212_143, p212_146, p212_150, p212_152, p212_153, p212_156, p212_159, p212_162, p212_163, p212_166, p212_167, p212_168, p212_169, p212_172, p212_175, p212_176, p212_177, p212_178, p212_181, p212_185, p212_188, p212_189, p212_192, p212_195, p212_196, p212_197, p212_200, p212_201, p212_204, p212_207, p212_208, p212_209, p212_212, p212_213, p212_216, p212_219, p212_220, p212_221, p212_224, p212_225, p212_228, p212_231, p212_232, p212_233, p212_236, p212_237, p212_240, p212_243, p212_244, p212_245, p212_248, p212_249, p212_252, p212_255, p212_256, jwd_c, jwd_0, Nat.reduceLeDiff, Nat.reduceEqDiff, Nat.reduceAdd, Nat.reduceSub, Nat.reduceMul, Int.reduceAdd, Int.reduceSub, Int.reduceMul, Int.reduceNeg, Int.reduceEq, Int.reduceLT, Int.reduceLE, jq_ldi_i, jq_ldl_l, jq_lda_a, jq_inc_i, jq_gs_t, jq_gsb_t, jq_gb_t, jq_gr_2, jq_gr_4, jq_gw_2, jq_s_t, jq_b_t, jg_c, jg_n, js_c, js_n, jrm_c, jrm_n, j2_i, j2_l, j2_a, jq_c_i, jq_c_l, jq_c_0, jq_c_n, jwd_le, jw_c0, mS_I, mS_R, mS_J, mN_I, mN_R, mN_J, mR_I, mI_R, mJ_I, mJ_R, mI_J, mR_J, ↓reduceIte, decide_true, or_true, true_or, and_self, false_or, or_false, reduceCtorEq, Bool.false_eq_true, and_false, false_and, eq_self, true_and, and_true, zero_ne, ↓br_lt_t, ↓br_lt_f, ↓br_eq_t, ↓br_eq_f, ↓br_lz_t, ↓br_lz_f, ↓br_ez_t, ↓br_ez_f, ↓br_gz_t, ↓br_gz_f, jw_id, jin_t, jix_t, setI_A, mI_A, setA_A, mS_A, hs]
theorem st_lp2 (hm : MO w) (hh : MH w h H) (h3 : mR w 238 3 = some h) (hk : HOK H) (hsn : HS H) {a : Nat} (ha : a = 241 ∨ a = 242) (hs : mS w a = (2, 0, 298)) (f : Nat → Int) : ∀ (n m : Nat) (tl : jmL), (m : Int) + n = H 0 4 → t1p 4 tl → ∃ c tl2, rn 212 (29, (0, jvr 238) :: (1, jvr a) :: (2, .inl (gBk H m)) :: (3, .inl m) :: tl, [], setA w a (gSf H m f)) = rn 212 (149, (0, jvr 238) :: (1, jvr a) :: (2, .inl c) :: (3, .inl (H 0 4)) :: tl2, [], setA w a (gSf H (m + n) f)) ∧ t1p 4 tl2 := by
  have k2 := hk.2.1
  have k3 := hk.2.2.1
  have hge := hh.ge
  have hw : MH (setA w a (gSf H 0 f)) h H := hh.A (by omega)
  intro n
  induction n with
  | zero =>
    intro m tl hmn ht
    refine ⟨gBk H m, tl, ?_, ht⟩
    have e : (m : Int) = H 0 4 := by omega
    have hw : MH (setA w a (gSf H m f)) h H := hh.A (by omega)
    rw [e, p212_29, Nat.add_zero]
    have b0 : mS (setA w a (gSf H m f)) 238 = (1, 9, 0) := hm.s0
    have b1 : mR (setA w a (gSf H m f)) 238 3 = some h := h3
    simp (disch := omega) only [p212_0, p212_1, p212_3, p212_6, p212_9, p212_10, p212_11, p212_12, p212_13, p212_16, p212_20, p212_23, p212_26, p212_27, p212_28, p212_30, p212_31, p212_34, p212_37, p212_40, p212_41, p212_44, p212_47, p212_48, p212_49, p212_50, p212_51, p212_53, p212_54, p212_55, p212_57, p212_58, p212_59, p212_60, p212_61, p212_64, p212_65, p212_66, p212_69, p212_72, p212_73, p212_74, p212_77, p212_78, p212_79, p212_82, p212_83, p212_84, p212_85, p212_86, p212_87, p212_90, p212_91, p212_92, p212_94, p212_95, p212_96, p212_99, p212_100, p212_101, p212_102, p212_105, p212_108, p212_109, p212_110, p212_111, p212_112, p212_115, p212_116, p212_117, p212_118, p212_121, p212_124, p212_125, p212_126, p212_127, p212_128, p212_131, p212_132, p212_133, p212_134, p212_137, p212_140, p212_141, p212_142, p212_143, p212_146, p212_150, p212_152, p212_153, p212_156, p212_159, p212_162, p212_163, p212_166, p212_167, p212_168, p212_169, p212_172, p212_175, p212_176, p212_177, p212_178, p212_181, p212_185, p212_188, p212_189, p212_192, p212_195, p212_196, p212_197, p212_200, p212_201, p212_204, p212_207, p212_208, p212_209, p212_212, p212_213, p212_216, p212_219, p212_220, p212_221, p212_224, p212_225, p212_228, p212_231, p212_232, p212_233, p212_236, p212_237, p212_240, p212_243, p212_244, p212_245, p212_248, p212_249, p212_252, p212_255, p212_256, jwd_c, jwd_0, Nat.reduceLeDiff, Nat.reduceEqDiff, Nat.reduceAdd, Nat.reduceSub, Nat.reduceMul, Int.reduceAdd, Int.reduceSub, Int.reduceMul, Int.reduceNeg, Int.reduceEq, Int.reduceLT, Int.reduceLE, jq_ldi_i, jq_ldl_l, jq_lda_a, jq_inc_i, jq_gs_t, jq_gsb_t, jq_gb_t, jq_gr_2, jq_gr_4, jq_gw_2, jq_s_t, jq_b_t, jg_c, jg_n, js_c, js_n, jrm_c, jrm_n, j2_i, j2_l, j2_a, jq_c_i, jq_c_l, jq_c_0, jq_c_n, jwd_le, jw_c0, mS_I, mS_R, mS_J, mN_I, mN_R, mN_J, mR_I, mI_R, mJ_I, mJ_R, mI_J, mR_J, ↓reduceIte, decide_true, or_true, true_or, and_self, false_or, or_false, reduceCtorEq, Bool.false_eq_true, and_false, false_and, eq_self, true_and, and_true, zero_ne, ↓br_lt_t, ↓br_lt_f, ↓br_eq_t, ↓br_eq_f, ↓br_lz_t, ↓br_lz_f, ↓br_ez_t, ↓br_ez_f, ↓br_gz_t, ↓br_gz_f, jw_id, jin_t, jix_t, b0, b1, MH.s hw, MH.f4 hw]
  | succ n ih =>
    intro m tl hmn ht
    have hw : MH (setA w a (gSf H m f)) h H := hh.A (by omega)
    have b0 : mS (setA w a (gSf H m f)) 238 = (1, 9, 0) := hm.s0
    have b1 : mR (setA w a (gSf H m f)) 238 3 = some h := h3
    have bs : mS (setA w a (gSf H m f)) a = (2, 0, 298) := hs
    have jr : ∀ a, a < 4 → jrm tl a = tl := by
      intro a ha
      rcases ht with rfl | ⟨x, rfl⟩
      · rfl
      · rw [jrm_c, if_neg (by dsimp only; omega), if_neg (by dsimp only; omega)]
        rfl
    have j3 := t1p_js ht
    have p := hsn m (by omega)
    obtain ⟨c, tl2, e, t2⟩ := ih (m + 1) [(4, .inl (H 0 4 - 1 - m))] (by omega) (Or.inr ⟨_, rfl⟩)
    refine ⟨c, tl2, ?_, t2⟩
    rw [show m + (n + 1) = m + 1 + n by omega, ← e, p212_29]
    have et : ∀ v, MH v h H → rn 209 (0, [(0, jvr h), (1, .inl (gBk H m)), (2, .inl (H 0 14 + 2))], [], v) = some (some (.inl (gBk H (m + 1))), v) := fun v hv => mh_to hv hk p.1 p.2.1 (by omega) (by omega)
    have e9 : gSf H (m + 1) f = up1 (up1 (up1 (up1 (up1 (up1 (gSf H m f) (H 0 4 - 1 - m).toNat (gBk H m)) (204 + (m : Int)).toNat m) (220 + (m : Int)).toNat (H 0 4 - 1 - m)) (236 + (m : Int)).toNat (H 24 m)) (252 + (m : Int)).toNat (H 25 m)) (268 + (m : Int)).toNat (H 26 m) := rfl
    rw [e9]
    generalize hF : gSf H m f = F at *
    generalize hC : gBk H m = C at *
    generalize hC2 : gBk H (m + 1) = C2 at *
    have hv1 : ∀ G, MH (setA w a G) h H := fun G => hh.A (by omega)
    have s1 : ∀ G : Nat → Int, mS (setA w a G) h = (1, 8, 0) := fun G => (hv1 G).s
    have q8 : ∀ G : Nat → Int, mI (setA w a G) (h + 8) = H 24 := fun G => (hv1 G).a8
    have q9 : ∀ G : Nat → Int, mI (setA w a G) (h + 9) = H 25 := fun G => (hv1 G).a9
    have q10 : ∀ G : Nat → Int, mI (setA w a G) (h + 10) = H 26 := fun G => (hv1 G).a10
    have q4 : ∀ G : Nat → Int, mI (setA w a G) h 4 = H 0 4 := fun G => (hv1 G).f4
    have q14 : ∀ G : Nat → Int, mI (setA w a G) h 14 = H 0 14 := fun G => (hv1 G).f14
    have et2 : ∀ G, rn 209 (0, [(0, jvr h), (1, .inl C), (2, .inl (H 0 14 + 2))], [], setA w a G) = some (some (.inl C2), setA w a G) := fun G => et _ (hv1 G)
    have m1 : ((m + 1 : Nat) : Int) = (m : Int) + 1 := by omega
    rw [m1]
    simp (disch := omega) only [p212_0, p212_1, p212_3, p212_6, p212_9, p212_10, p212_11, p212_12, p212_13, p212_16, p212_20, p212_23, p212_26, p212_27, p212_28, p212_30, p212_31, p212_34, p212_37, p212_40, p212_41, p212_44, p212_47, p212_48, p212_49, p212_50, p212_51, p212_53, p212_54, p212_55, p212_57, p212_58, p212_59, p212_60, p212_61, p212_64, p212_65, p212_66, p212_69, p212_72, p212_73, p212_74, p212_77, p212_78, p212_79, p212_82, p212_83, p212_84, p212_85, p212_86, p212_87, p212_90, p212_91, p212_92, p212_94, p212_95, p212_96, p212_99, p212_100, p212_101, p212_102, p212_105, p212_108, p212_109, p212_110, p212_111, p212_112, p212_115, p212_116, p212_117, p212_118, p212_121, p212_124, p212_125, p212_126, p212_127, p212_128, p212_131, p212_132, p212_133, p212_134, p212_137, p212_140, p212_141, p212_142, p212_143, p212_146, p212_150, p212_152, p212_153, p212_156, p212_159, p212_162, p212_163, p212_166, p212_167, p212_168, p212_169, p212_172, p212_175, p212_176, p212_177, p212_178, p212_181, p212_185, p212_188, p212_189, p212_192, p212_195, p212_196, p212_197, p212_200, p212_201, p212_204, p212_207, p212_208, p212_209, p212_212, p212_213, p212_216, p212_219, p212_220, p212_221, p212_224, p212_225, p212_228, p212_231, p212_232, p212_233, p212_236, p212_237, p212_240, p212_243, p212_244, p212_245, p212_248, p212_249, p212_252, p212_255, p212_256, jwd_c, jwd_0, Nat.reduceLeDiff, Nat.reduceEqDiff, Nat.reduceAdd, Nat.reduceSub, Nat.reduceMul, Int.reduceAdd, Int.reduceSub, Int.reduceMul, Int.reduceNeg, Int.reduceEq, Int.reduceLT, Int.reduceLE, jq_ldi_i, jq_ldl_l, jq_lda_a, jq_inc_i, jq_gs_t, jq_gsb_t, jq_gb_t, jq_gr_2, jq_gr_4, jq_gw_2, jq_s_t, jq_b_t, jg_c, jg_n, js_c, js_n, jrm_c, jrm_n, j2_i, j2_l, j2_a, jq_c_i, jq_c_l, jq_c_0, jq_c_n, jwd_le, jw_c0, mS_I, mS_R, mS_J, mN_I, mN_R, mN_J, mR_I, mI_R, mJ_I, mJ_R, mI_J, mR_J, ↓reduceIte, decide_true, or_true, true_or, and_self, false_or, or_false, reduceCtorEq, Bool.false_eq_true, and_false, false_and, eq_self, true_and, and_true, zero_ne, ↓br_lt_t, ↓br_lt_f, ↓br_eq_t, ↓br_eq_f, ↓br_lz_t, ↓br_lz_f, ↓br_ez_t, ↓br_ez_f, ↓br_gz_t, ↓br_gz_f, jw_id, jin_t, jix_t, mS_A, mR_A, setI_A, mI_A, setA_A, MO.s0 hm, MO.s1 hm, MO.s2 hm, MO.s3 hm, MO.s4 hm, MO.s5 hm, MO.s6 hm, MO.s7 hm, MO.s8 hm, MO.s9 hm, MO.s10 hm, MO.s11 hm, MO.s12 hm, MO.s13 hm, MO.r1 hm, MO.r2 hm, MO.r3 hm, MO.r4 hm, MO.r5 hm, MO.r6 hm, MO.r7 hm, MO.r8 hm, MO.r9 hm, MO.r10 hm, MO.r11 hm, MO.r12 hm, MO.r13 hm, MH.s hh, MH.s8 hh, MH.s9 hh, MH.s10 hh, MH.r8 hh, MH.r9 hh, MH.r10 hh, h3, hs, q4, q8, q9, q10, q14, et2, j3, jr, Int.zero_add, Int.toNat_natCast]
theorem st_lp3 (hm : MO w) (hh : MH w h H) (h3 : mR w 238 3 = some h) (hk : HOK H) {a : Nat} (ha : a = 241 ∨ a = 242) (hs : mS w a = (2, 0, 298)) {c : Int} : ∀ (n : Nat) (i : Int) (tl : jmL) (q : Nat → Int), 0 ≤ i → i + n = H 0 3 → t1p 4 tl → ∃ tl2, rn 212 (151, (0, jvr 238) :: (1, jvr a) :: (2, .inl c) :: (3, .inl i) :: tl, [], setA w a q) = rn 212 (184, (0, jvr 238) :: (1, jvr a) :: (2, .inl c) :: (3, .inl (H 0 3)) :: tl2, [], setA w a (fun k => if 284 + i ≤ k ∧ (k : Int) < 284 + H 0 3 then H 19 (k - 284) else q k)) := by
  have k2 := hk.2.1
  have hge := hh.ge
  have hv1 : ∀ G, MH (setA w a G) h H := fun G => hh.A (by omega)
  have q3 : ∀ G : Nat → Int, mI (setA w a G) h 3 = H 0 3 := fun G => (hv1 G).f3
  have q19 : ∀ G : Nat → Int, mI (setA w a G) (h + 3) = H 19 := fun G => (hv1 G).a3
  intro n
  induction n with
  | zero =>
    intro i tl q i1 i2 ht
    have e0 : i = H 0 3 := by omega
    refine ⟨tl, ?_⟩
    have e : (fun k : Nat => if 284 + i ≤ k ∧ (k : Int) < 284 + H 0 3 then H 19 (k - 284) else q k) = q := by
      funext k
      rw [if_neg (by omega)]
    rw [e, e0, p212_151]
    simp (disch := omega) only [p212_0, p212_1, p212_3, p212_6, p212_9, p212_10, p212_11, p212_12, p212_13, p212_16, p212_20, p212_23, p212_26, p212_27, p212_28, p212_30, p212_31, p212_34, p212_37, p212_40, p212_41, p212_44, p212_47, p212_48, p212_49, p212_50, p212_51, p212_53, p212_54, p212_55, p212_57, p212_58, p212_59, p212_60, p212_61, p212_64, p212_65, p212_66, p212_69, p212_72, p212_73, p212_74, p212_77, p212_78, p212_79, p212_82, p212_83, p212_84, p212_85, p212_86, p212_87, p212_90, p212_91, p212_92, p212_94, p212_95, p212_96, p212_99, p212_100, p212_101, p212_102, p212_105, p212_108, p212_109, p212_110, p212_111, p212_112, p212_115, p212_116, p212_117, p212_118, p212_121, p212_124, p212_125, p212_126, p212_127, p212_128, p212_131, p212_132, p212_133, p212_134, p212_137, p212_140, p212_141, p212_142, p212_143, p212_146, p212_150, p212_152, p212_153, p212_156, p212_159, p212_162, p212_163, p212_166, p212_167, p212_168, p212_169, p212_172, p212_175, p212_176, p212_177, p212_178, p212_181, p212_185, p212_188, p212_189, p212_192, p212_195, p212_196, p212_197, p212_200, p212_201, p212_204, p212_207, p212_208, p212_209, p212_212, p212_213, p212_216, p212_219, p212_220, p212_221, p212_224, p212_225, p212_228, p212_231, p212_232, p212_233, p212_236, p212_237, p212_240, p212_243, p212_244, p212_245, p212_248, p212_249, p212_252, p212_255, p212_256, jwd_c, jwd_0, Nat.reduceLeDiff, Nat.reduceEqDiff, Nat.reduceAdd, Nat.reduceSub, Nat.reduceMul, Int.reduceAdd, Int.reduceSub, Int.reduceMul, Int.reduceNeg, Int.reduceEq, Int.reduceLT, Int.reduceLE, jq_ldi_i, jq_ldl_l, jq_lda_a, jq_inc_i, jq_gs_t, jq_gsb_t, jq_gb_t, jq_gr_2, jq_gr_4, jq_gw_2, jq_s_t, jq_b_t, jg_c, jg_n, js_c, js_n, jrm_c, jrm_n, j2_i, j2_l, j2_a, jq_c_i, jq_c_l, jq_c_0, jq_c_n, jwd_le, jw_c0, mS_I, mS_R, mS_J, mN_I, mN_R, mN_J, mR_I, mI_R, mJ_I, mJ_R, mI_J, mR_J, ↓reduceIte, decide_true, or_true, true_or, and_self, false_or, or_false, reduceCtorEq, Bool.false_eq_true, and_false, false_and, eq_self, true_and, and_true, zero_ne, ↓br_lt_t, ↓br_lt_f, ↓br_eq_t, ↓br_eq_f, ↓br_lz_t, ↓br_lz_f, ↓br_ez_t, ↓br_ez_f, ↓br_gz_t, ↓br_gz_f, jw_id, jin_t, jix_t, mS_A, mR_A, MO.s0 hm, MO.s1 hm, MO.s2 hm, MO.s3 hm, MO.s4 hm, MO.s5 hm, MO.s6 hm, MO.s7 hm, MO.s8 hm, MO.s9 hm, MO.s10 hm, MO.s11 hm, MO.s12 hm, MO.s13 hm, MO.r1 hm, MO.r2 hm, MO.r3 hm, MO.r4 hm, MO.r5 hm, MO.r6 hm, MO.r7 hm, MO.r8 hm, MO.r9 hm, MO.r10 hm, MO.r11 hm, MO.r12 hm, MO.r13 hm, MH.s hh, h3, q3]
  | succ n ih =>
    intro i tl q i1 i2 ht
    have jr : ∀ a, a < 4 → jrm tl a = tl := by
      intro a ha
      rcases ht with rfl | ⟨x, rfl⟩
      · rfl
      · rw [jrm_c, if_neg (by dsimp only; omega), if_neg (by dsimp only; omega)]
        rfl
    obtain ⟨tl2, e⟩ := ih (i + 1) tl (up1 q (284 + i).toNat (H 19 i.toNat)) (by omega) (by omega) ht
    refine ⟨tl2, ?_⟩
    have e2 : (fun k : Nat => if 284 + (i + 1) ≤ k ∧ (k : Int) < 284 + H 0 3 then H 19 (k - 284) else up1 q (284 + i).toNat (H 19 i.toNat) k) = (fun k : Nat => if 284 + i ≤ k ∧ (k : Int) < 284 + H 0 3 then H 19 (k - 284) else q k) := by
      funext k
      by_cases z : k = (284 + i).toNat
      · rw [z, if_neg (by omega), if_pos (by omega), up1_s, show (284 + i).toNat - 284 = i.toNat by omega]
      · rw [up1_n z]
        by_cases y : 284 + i ≤ k ∧ (k : Int) < 284 + H 0 3
        · rw [if_pos y, if_pos (by omega)]
        · rw [if_neg y, if_neg (by omega)]
    rw [e2] at e
    rw [← e, p212_151]
    simp (disch := omega) only [p212_0, p212_1, p212_3, p212_6, p212_9, p212_10, p212_11, p212_12, p212_13, p212_16, p212_20, p212_23, p212_26, p212_27, p212_28, p212_30, p212_31, p212_34, p212_37, p212_40, p212_41, p212_44, p212_47, p212_48, p212_49, p212_50, p212_51, p212_53, p212_54, p212_55, p212_57, p212_58, p212_59, p212_60, p212_61, p212_64, p212_65, p212_66, p212_69, p212_72, p212_73, p212_74, p212_77, p212_78, p212_79, p212_82, p212_83, p212_84, p212_85, p212_86, p212_87, p212_90, p212_91, p212_92, p212_94, p212_95, p212_96, p212_99, p212_100, p212_101, p212_102, p212_105, p212_108, p212_109, p212_110, p212_111, p212_112, p212_115, p212_116, p212_117, p212_118, p212_121, p212_124, p212_125, p212_126, p212_127, p212_128, p212_131, p212_132, p212_133, p212_134, p212_137, p212_140, p212_141, p212_142, p212_143, p212_146, p212_150, p212_152, p212_153, p212_156, p212_159, p212_162, p212_163, p212_166, p212_167, p212_168, p212_169, p212_172, p212_175, p212_176, p212_177, p212_178, p212_181, p212_185, p212_188, p212_189, p212_192, p212_195, p212_196, p212_197, p212_200, p212_201, p212_204, p212_207, p212_208, p212_209, p212_212, p212_213, p212_216, p212_219, p212_220, p212_221, p212_224, p212_225, p212_228, p212_231, p212_232, p212_233, p212_236, p212_237, p212_240, p212_243, p212_244, p212_245, p212_248, p212_249, p212_252, p212_255, p212_256, jwd_c, jwd_0, Nat.reduceLeDiff, Nat.reduceEqDiff, Nat.reduceAdd, Nat.reduceSub, Nat.reduceMul, Int.reduceAdd, Int.reduceSub, Int.reduceMul, Int.reduceNeg, Int.reduceEq, Int.reduceLT, Int.reduceLE, jq_ldi_i, jq_ldl_l, jq_lda_a, jq_inc_i, jq_gs_t, jq_gsb_t, jq_gb_t, jq_gr_2, jq_gr_4, jq_gw_2, jq_s_t, jq_b_t, jg_c, jg_n, js_c, js_n, jrm_c, jrm_n, j2_i, j2_l, j2_a, jq_c_i, jq_c_l, jq_c_0, jq_c_n, jwd_le, jw_c0, mS_I, mS_R, mS_J, mN_I, mN_R, mN_J, mR_I, mI_R, mJ_I, mJ_R, mI_J, mR_J, ↓reduceIte, decide_true, or_true, true_or, and_self, false_or, or_false, reduceCtorEq, Bool.false_eq_true, and_false, false_and, eq_self, true_and, and_true, zero_ne, ↓br_lt_t, ↓br_lt_f, ↓br_eq_t, ↓br_eq_f, ↓br_lz_t, ↓br_lz_f, ↓br_ez_t, ↓br_ez_f, ↓br_gz_t, ↓br_gz_f, jw_id, jin_t, jix_t, mS_A, mR_A, setI_A, mI_A, setA_A, MO.s0 hm, MO.s1 hm, MO.s2 hm, MO.s3 hm, MO.s4 hm, MO.s5 hm, MO.s6 hm, MO.s7 hm, MO.s8 hm, MO.s9 hm, MO.s10 hm, MO.s11 hm, MO.s12 hm, MO.s13 hm, MO.r1 hm, MO.r2 hm, MO.r3 hm, MO.r4 hm, MO.r5 hm, MO.r6 hm, MO.r7 hm, MO.r8 hm, MO.r9 hm, MO.r10 hm, MO.r11 hm, MO.r12 hm, MO.r13 hm, MH.s hh, MH.s3 hh, MH.r3 hh, h3, hs, q3, q19, jr]
theorem sf_at (k2 : 1 ≤ H 0 4 ∧ H 0 4 ≤ 8) (F : Nat → Int) : ∀ n : Nat, (n : Int) ≤ H 0 4 → ∀ k : Nat, gSf H n F k = if k < 204 then (if H 0 4 - n ≤ k ∧ (k : Int) < H 0 4 then gBk H (H 0 4 - 1 - k).toNat else F k) else if k < 220 then (if (k : Int) - 204 < n then (k : Int) - 204 else F k) else if k < 236 then (if (k : Int) - 220 < n then H 0 4 - 1 - ((k : Int) - 220) else F k) else if k < 252 then (if (k : Int) - 236 < n then H 24 (k - 236) else F k) else if k < 268 then (if (k : Int) - 252 < n then H 25 (k - 252) else F k) else if k < 284 then (if (k : Int) - 268 < n then H 26 (k - 268) else F k) else F k := by
  intro n
  induction n with
  | zero =>
    intro hn k
    have e : gSf H 0 F k = F k := rfl
    rw [e]
    by_cases a1 : k < 204
    · rw [if_pos a1, if_neg (by omega)]
    rw [if_neg a1]
    by_cases a2 : k < 220
    · rw [if_pos a2, if_neg (by omega)]
    rw [if_neg a2]
    by_cases a3 : k < 236
    · rw [if_pos a3, if_neg (by omega)]
    rw [if_neg a3]
    by_cases a4 : k < 252
    · rw [if_pos a4, if_neg (by omega)]
    rw [if_neg a4]
    by_cases a5 : k < 268
    · rw [if_pos a5, if_neg (by omega)]
    rw [if_neg a5]
    by_cases a6 : k < 284
    · rw [if_pos a6, if_neg (by omega)]
    rw [if_neg a6]
  | succ n ih =>
    intro hn k
    have i := ih (by omega) k
    have e : gSf H (n + 1) F = up1 (up1 (up1 (up1 (up1 (up1 (gSf H n F) (H 0 4 - 1 - n).toNat (gBk H n)) (204 + (n : Int)).toNat n) (220 + (n : Int)).toNat (H 0 4 - 1 - n)) (236 + (n : Int)).toNat (H 24 n)) (252 + (n : Int)).toNat (H 25 n)) (268 + (n : Int)).toNat (H 26 n) := rfl
    rw [e]
    by_cases z1 : k = (268 + (n : Int)).toNat
    · rw [z1, up1_s, if_neg (by omega), if_neg (by omega), if_neg (by omega), if_neg (by omega), if_neg (by omega), if_pos (by omega), if_pos (by omega), show (268 + (n : Int)).toNat - 268 = n by omega]
    rw [up1_n z1]
    by_cases z2 : k = (252 + (n : Int)).toNat
    · rw [z2, up1_s, if_neg (by omega), if_neg (by omega), if_neg (by omega), if_neg (by omega), if_pos (by omega), if_pos (by omega), show (252 + (n : Int)).toNat - 252 = n by omega]
    rw [up1_n z2]
    by_cases z3 : k = (236 + (n : Int)).toNat
    · rw [z3, up1_s, if_neg (by omega), if_neg (by omega), if_neg (by omega), if_pos (by omega), if_pos (by omega), show (236 + (n : Int)).toNat - 236 = n by omega]
    rw [up1_n z3]
    by_cases z4 : k = (220 + (n : Int)).toNat
    · rw [z4, up1_s, if_neg (by omega), if_neg (by omega), if_pos (by omega), if_pos (by omega)]
      omega
    rw [up1_n z4]
    by_cases z5 : k = (204 + (n : Int)).toNat
    · rw [z5, up1_s, if_neg (by omega), if_pos (by omega), if_pos (by omega)]
      omega
    rw [up1_n z5]
    by_cases z6 : k = (H 0 4 - 1 - n).toNat
    · rw [z6, up1_s, if_pos (by omega), if_pos (by omega), show (H 0 4 - 1 - (((H 0 4 - 1 - n).toNat : Nat) : Int)).toNat = n by omega]
    rw [up1_n z6, i]
    by_cases a1 : k < 204
    · rw [if_pos a1, if_pos a1]
      by_cases b : H 0 4 - n ≤ k ∧ (k : Int) < H 0 4
      · rw [if_pos b, if_pos (by omega)]
      · rw [if_neg b, if_neg (by omega)]
    rw [if_neg a1, if_neg a1]
    by_cases a2 : k < 220
    · rw [if_pos a2, if_pos a2]
      by_cases b : (k : Int) - 204 < n
      · rw [if_pos b, if_pos (by omega)]
      · rw [if_neg b, if_neg (by omega)]
    rw [if_neg a2, if_neg a2]
    by_cases a3 : k < 236
    · rw [if_pos a3, if_pos a3]
      by_cases b : (k : Int) - 220 < n
      · rw [if_pos b, if_pos (by omega)]
      · rw [if_neg b, if_neg (by omega)]
    rw [if_neg a3, if_neg a3]
    by_cases a4 : k < 252
    · rw [if_pos a4, if_pos a4]
      by_cases b : (k : Int) - 236 < n
      · rw [if_pos b, if_pos (by omega)]
      · rw [if_neg b, if_neg (by omega)]
    rw [if_neg a4, if_neg a4]
    by_cases a5 : k < 268
    · rw [if_pos a5, if_pos a5]
      by_cases b : (k : Int) - 252 < n
      · rw [if_pos b, if_pos (by omega)]
      · rw [if_neg b, if_neg (by omega)]
    rw [if_neg a5, if_neg a5]
    by_cases a6 : k < 284
    · rw [if_pos a6, if_pos a6]
      by_cases b : (k : Int) - 268 < n
      · rw [if_pos b, if_pos (by omega)]
      · rw [if_neg b, if_neg (by omega)]
    rw [if_neg a6, if_neg a6]
theorem st_fin (k2 : 1 ≤ H 0 4 ∧ H 0 4 ≤ 8) (k3 : 0 ≤ H 0 3 ∧ H 0 3 ≤ 4) {o F G : Nat → Int} (hF : (fun k : Nat => if (0 : Int) ≤ k ∧ k < 298 then (0 : Int) else o k) = F) (hG : (fun k : Nat => if (284 : Int) + 0 ≤ k ∧ (k : Int) < 284 + H 0 3 then H 19 (k - 284) else gSf H (H 0 4).toNat F k) = G) : up1 (up1 (up1 (up1 (up1 (up1 G 288 (H 0 4)) 289 (H 0 4)) 290 (H 0 4)) 291 (H 0 7)) 292 (H 0 14)) 296 (H 0 10) = gCp (gS0 H) o := by
  have sfd := sf_at k2 F (H 0 4).toNat (by omega)
  rw [show (((H 0 4).toNat : Nat) : Int) = H 0 4 by omega] at sfd
  have fz : ∀ k : Nat, k < 298 → F k = 0 := fun k hk => by
    rw [← hF]
    exact if_pos (by omega)
  funext k
  unfold gCp
  by_cases z1 : k = 296
  · subst z1
    rw [up1_s]
    rfl
  rw [up1_n z1]
  by_cases z2 : k = 292
  · subst z2
    rw [up1_s]
    rfl
  rw [up1_n z2]
  by_cases z3 : k = 291
  · subst z3
    rw [up1_s]
    rfl
  rw [up1_n z3]
  by_cases z4 : k = 290
  · subst z4
    rw [up1_s]
    rfl
  rw [up1_n z4]
  by_cases z5 : k = 289
  · subst z5
    rw [up1_s]
    rfl
  rw [up1_n z5]
  by_cases z6 : k = 288
  · subst z6
    rw [up1_s]
    rfl
  rw [up1_n z6, ← hG]
  dsimp only
  rw [sfd k]
  by_cases y : k < 298
  · rw [if_pos y, fz k y]
    unfold gS0
    by_cases a1 : k < 204
    · rw [if_neg (by omega), if_pos a1, if_pos a1]
      by_cases b : (k : Int) < H 0 4
      · rw [if_pos (by omega), if_pos b]
      · rw [if_neg (by omega), if_neg b]
    by_cases a2 : k < 220
    · rw [if_neg (by omega), if_neg a1, if_neg a1, if_pos a2, if_pos a2]
    by_cases a3 : k < 236
    · rw [if_neg (by omega), if_neg a1, if_neg a1, if_neg a2, if_neg a2, if_pos a3, if_pos a3]
    by_cases a4 : k < 252
    · rw [if_neg (by omega), if_neg a1, if_neg a1, if_neg a2, if_neg a2, if_neg a3, if_neg a3, if_pos a4, if_pos a4]
    by_cases a5 : k < 268
    · rw [if_neg (by omega), if_neg a1, if_neg a1, if_neg a2, if_neg a2, if_neg a3, if_neg a3, if_neg a4, if_neg a4, if_pos a5, if_pos a5]
    by_cases a6 : k < 284
    · rw [if_neg (by omega), if_neg a1, if_neg a1, if_neg a2, if_neg a2, if_neg a3, if_neg a3, if_neg a4, if_neg a4, if_neg a5, if_neg a5, if_pos a6, if_pos a6]
    by_cases a7 : k < 288
    · rw [if_neg a1, if_neg a1, if_neg a2, if_neg a2, if_neg a3, if_neg a3, if_neg a4, if_neg a4, if_neg a5, if_neg a5, if_neg a6, if_neg a6, if_pos a7]
      by_cases b : (k : Int) - 284 < H 0 3
      · rw [if_pos (by omega), if_pos b]
      · rw [if_neg (by omega), if_neg b]
    · rw [if_neg (by omega), if_neg a1, if_neg a1, if_neg a2, if_neg a2, if_neg a3, if_neg a3, if_neg a4, if_neg a4, if_neg a5, if_neg a5, if_neg a6, if_neg a6, if_neg a7, if_neg z6, if_neg z5, if_neg z4, if_neg z3, if_neg z2, if_neg z1]
  · rw [if_neg y, if_neg (by omega), if_neg (by omega), if_neg (by omega), if_neg (by omega), if_neg (by omega), if_neg (by omega), if_neg (by omega), ← hF]
    exact if_neg (by omega)
theorem m_start (hm : MO w) (hh : MH w h H) (h3 : mR w 238 3 = some h) (hk : HOK H) (hsn : HS H) {a : Nat} (ha : a = 241 ∨ a = 242) : rn 212 (0, [(0, jvr 238), (1, jvr a)], [], w) = some (none, setA w a (gCp (gS0 H) (mI w a))) := by
  have k2 := hk.2.1
  have k3 := hk.2.2.1
  have hge := hh.ge
  have hs : mS w a = (2, 0, 298) := by
    rcases ha with rfl | rfl
    · exact hm.s3
    · exact hm.s4
  have e1 := st_lp1 hs 298 0 (mI w a) (by omega) (by omega)
  rw [setA_self] at e1
  generalize hF : (fun k : Nat => if (0 : Int) ≤ k ∧ k < 298 then (0 : Int) else mI w a k) = F at e1
  obtain ⟨c, tl, e2, t2⟩ := st_lp2 hm hh h3 hk hsn ha hs F (H 0 4).toNat 0 [] (by omega) (Or.inl rfl)
  rw [Nat.zero_add] at e2
  obtain ⟨tl2, e3⟩ := st_lp3 hm hh h3 hk ha hs (c := c) (H 0 3).toNat 0 tl (gSf H (H 0 4).toNat F) (by omega) (by omega) t2
  generalize hG : (fun k : Nat => if (284 : Int) + 0 ≤ k ∧ (k : Int) < 284 + H 0 3 then H 19 (k - 284) else gSf H (H 0 4).toNat F k) = G at e3
  have hv1 : ∀ G, MH (setA w a G) h H := fun G => hh.A (by omega)
  have q4 : ∀ G : Nat → Int, mI (setA w a G) h 4 = H 0 4 := fun G => (hv1 G).f4
  have q7 : ∀ G : Nat → Int, mI (setA w a G) h 7 = H 0 7 := fun G => (hv1 G).f7
  have q14 : ∀ G : Nat → Int, mI (setA w a G) h 14 = H 0 14 := fun G => (hv1 G).f14
  have q10 : ∀ G : Nat → Int, mI (setA w a G) h 10 = H 0 10 := fun G => (hv1 G).f10
  have q13 : ∀ G : Nat → Int, mI (setA w a G) h 13 = H 0 13 := fun G => (hv1 G).f13
  have s1 : rn 212 (0, [(0, jvr 238), (1, jvr a)], [], w) = rn 212 (2, [(0, jvr 238), (1, jvr a), (2, .inl 0)], [], w) := by
    simp (disch := omega) only [p212_0, p212_1, p212_3, p212_6, p212_9, p212_10, p212_11, p212_12, p212_13, p212_16, p212_20, p212_23, p212_26, p212_27, p212_28, p212_30, p212_31, p212_34, p212_37, p212_40, p212_41, p212_44, p212_47, p212_48, p212_49, p212_50, p212_51, p212_53, p212_54, p212_55, p212_57, p212_58, p212_59, p212_60, p212_61, p212_64, p212_65, p212_66, p212_69, p212_72, p212_73, p212_74, p212_77, p212_78, p212_79, p212_82, p212_83, p212_84, p212_85, p212_86, p212_87, p212_90, p212_91, p212_92, p212_94, p212_95, p212_96, p212_99, p212_100, p212_101, p212_102, p212_105, p212_108, p212_109, p212_110, p212_111, p212_112, p212_115, p212_116, p212_117, p212_118, p212_121, p212_124, p212_125, p212_126, p212_127, p212_128, p212_131, p212_132, p212_133, p212_134, p212_137, p212_140, p212_141, p212_142, p212_143, p212_146, p212_150, p212_152, p212_153, p212_156, p212_159, p212_162, p212_163, p212_166, p212_167, p212_168, p212_169, p212_172, p212_175, p212_176, p212_177, p212_178, p212_181, p212_185, p212_188, p212_189, p212_192, p212_195, p212_196, p212_197, p212_200, p212_201, p212_204, p212_207, p212_208, p212_209, p212_212, p212_213, p212_216, p212_219, p212_220, p212_221, p212_224, p212_225, p212_228, p212_231, p212_232, p212_233, p212_236, p212_237, p212_240, p212_243, p212_244, p212_245, p212_248, p212_249, p212_252, p212_255, p212_256, jwd_c, jwd_0, Nat.reduceLeDiff, Nat.reduceEqDiff, Nat.reduceAdd, Nat.reduceSub, Nat.reduceMul, Int.reduceAdd, Int.reduceSub, Int.reduceMul, Int.reduceNeg, Int.reduceEq, Int.reduceLT, Int.reduceLE, jq_ldi_i, jq_ldl_l, jq_lda_a, jq_inc_i, jq_gs_t, jq_gsb_t, jq_gb_t, jq_gr_2, jq_gr_4, jq_gw_2, jq_s_t, jq_b_t, jg_c, jg_n, js_c, js_n, jrm_c, jrm_n, j2_i, j2_l, j2_a, jq_c_i, jq_c_l, jq_c_0, jq_c_n, jwd_le, jw_c0, mS_I, mS_R, mS_J, mN_I, mN_R, mN_J, mR_I, mI_R, mJ_I, mJ_R, mI_J, mR_J, ↓reduceIte, decide_true, or_true, true_or, and_self, false_or, or_false, reduceCtorEq, Bool.false_eq_true, and_false, false_and, eq_self, true_and, and_true, zero_ne, ↓br_lt_t, ↓br_lt_f, ↓br_eq_t, ↓br_eq_f, ↓br_lz_t, ↓br_lz_f, ↓br_ez_t, ↓br_ez_f, ↓br_gz_t, ↓br_gz_f, jw_id, jin_t, jix_t]
  have s2 : rn 212 (19, [(0, jvr 238), (1, jvr a), (2, .inl 298)], [], setA w a F) = rn 212 (29, [(0, jvr 238), (1, jvr a), (2, .inl (gBk H 0)), (3, .inl ((0 : Nat) : Int))], [], setA w a (gSf H 0 F)) := by
    rw [p212_19]
    have e0 : gBk H 0 = H 0 13 := rfl
    have e9 : gSf H 0 F = F := rfl
    rw [e0, e9]
    simp (disch := omega) only [p212_0, p212_1, p212_3, p212_6, p212_9, p212_10, p212_11, p212_12, p212_13, p212_16, p212_20, p212_23, p212_26, p212_27, p212_28, p212_30, p212_31, p212_34, p212_37, p212_40, p212_41, p212_44, p212_47, p212_48, p212_49, p212_50, p212_51, p212_53, p212_54, p212_55, p212_57, p212_58, p212_59, p212_60, p212_61, p212_64, p212_65, p212_66, p212_69, p212_72, p212_73, p212_74, p212_77, p212_78, p212_79, p212_82, p212_83, p212_84, p212_85, p212_86, p212_87, p212_90, p212_91, p212_92, p212_94, p212_95, p212_96, p212_99, p212_100, p212_101, p212_102, p212_105, p212_108, p212_109, p212_110, p212_111, p212_112, p212_115, p212_116, p212_117, p212_118, p212_121, p212_124, p212_125, p212_126, p212_127, p212_128, p212_131, p212_132, p212_133, p212_134, p212_137, p212_140, p212_141, p212_142, p212_143, p212_146, p212_150, p212_152, p212_153, p212_156, p212_159, p212_162, p212_163, p212_166, p212_167, p212_168, p212_169, p212_172, p212_175, p212_176, p212_177, p212_178, p212_181, p212_185, p212_188, p212_189, p212_192, p212_195, p212_196, p212_197, p212_200, p212_201, p212_204, p212_207, p212_208, p212_209, p212_212, p212_213, p212_216, p212_219, p212_220, p212_221, p212_224, p212_225, p212_228, p212_231, p212_232, p212_233, p212_236, p212_237, p212_240, p212_243, p212_244, p212_245, p212_248, p212_249, p212_252, p212_255, p212_256, jwd_c, jwd_0, Nat.reduceLeDiff, Nat.reduceEqDiff, Nat.reduceAdd, Nat.reduceSub, Nat.reduceMul, Int.reduceAdd, Int.reduceSub, Int.reduceMul, Int.reduceNeg, Int.reduceEq, Int.reduceLT, Int.reduceLE, jq_ldi_i, jq_ldl_l, jq_lda_a, jq_inc_i, jq_gs_t, jq_gsb_t, jq_gb_t, jq_gr_2, jq_gr_4, jq_gw_2, jq_s_t, jq_b_t, jg_c, jg_n, js_c, js_n, jrm_c, jrm_n, j2_i, j2_l, j2_a, jq_c_i, jq_c_l, jq_c_0, jq_c_n, jwd_le, jw_c0, mS_I, mS_R, mS_J, mN_I, mN_R, mN_J, mR_I, mI_R, mJ_I, mJ_R, mI_J, mR_J, ↓reduceIte, decide_true, or_true, true_or, and_self, false_or, or_false, reduceCtorEq, Bool.false_eq_true, and_false, false_and, eq_self, true_and, and_true, zero_ne, ↓br_lt_t, ↓br_lt_f, ↓br_eq_t, ↓br_eq_f, ↓br_lz_t, ↓br_lz_f, ↓br_ez_t, ↓br_ez_f, ↓br_gz_t, ↓br_gz_f, jw_id, jin_t, jix_t, mS_A, mR_A, MO.s0 hm, MO.s1 hm, MO.s2 hm, MO.s3 hm, MO.s4 hm, MO.s5 hm, MO.s6 hm, MO.s7 hm, MO.s8 hm, MO.s9 hm, MO.s10 hm, MO.s11 hm, MO.s12 hm, MO.s13 hm, MO.r1 hm, MO.r2 hm, MO.r3 hm, MO.r4 hm, MO.r5 hm, MO.r6 hm, MO.r7 hm, MO.r8 hm, MO.r9 hm, MO.r10 hm, MO.r11 hm, MO.r12 hm, MO.r13 hm, MH.s hh, h3, q13]
    rfl
  have s3 : rn 212 (149, (0, jvr 238) :: (1, jvr a) :: (2, .inl c) :: (3, .inl (H 0 4)) :: tl, [], setA w a (gSf H (H 0 4).toNat F)) = rn 212 (151, (0, jvr 238) :: (1, jvr a) :: (2, .inl c) :: (3, .inl 0) :: tl, [], setA w a (gSf H (H 0 4).toNat F)) := by
    have jr : jrm tl 3 = tl := by
      rcases t2 with rfl | ⟨x, rfl⟩
      · rfl
      · rw [jrm_c, if_neg (by dsimp only; omega), if_neg (by dsimp only; omega)]
        rfl
    rw [p212_149]
    simp (disch := omega) only [p212_0, p212_1, p212_3, p212_6, p212_9, p212_10, p212_11, p212_12, p212_13, p212_16, p212_20, p212_23, p212_26, p212_27, p212_28, p212_30, p212_31, p212_34, p212_37, p212_40, p212_41, p212_44, p212_47, p212_48, p212_49, p212_50, p212_51, p212_53, p212_54, p212_55, p212_57, p212_58, p212_59, p212_60, p212_61, p212_64, p212_65, p212_66, p212_69, p212_72, p212_73, p212_74, p212_77, p212_78, p212_79, p212_82, p212_83, p212_84, p212_85, p212_86, p212_87, p212_90, p212_91, p212_92, p212_94, p212_95, p212_96, p212_99, p212_100, p212_101, p212_102, p212_105, p212_108, p212_109, p212_110, p212_111, p212_112, p212_115, p212_116, p212_117, p212_118, p212_121, p212_124, p212_125, p212_126, p212_127, p212_128, p212_131, p212_132, p212_133, p212_134, p212_137, p212_140, p212_141, p212_142, p212_143, p212_146, p212_150, p212_152, p212_153, p212_156, p212_159, p212_162, p212_163, p212_166, p212_167, p212_168, p212_169, p212_172, p212_175, p212_176, p212_177, p212_178, p212_181, p212_185, p212_188, p212_189, p212_192, p212_195, p212_196, p212_197, p212_200, p212_201, p212_204, p212_207, p212_208, p212_209, p212_212, p212_213, p212_216, p212_219, p212_220, p212_221, p212_224, p212_225, p212_228, p212_231, p212_232, p212_233, p212_236, p212_237, p212_240, p212_243, p212_244, p212_245, p212_248, p212_249, p212_252, p212_255, p212_256, jwd_c, jwd_0, Nat.reduceLeDiff, Nat.reduceEqDiff, Nat.reduceAdd, Nat.reduceSub, Nat.reduceMul, Int.reduceAdd, Int.reduceSub, Int.reduceMul, Int.reduceNeg, Int.reduceEq, Int.reduceLT, Int.reduceLE, jq_ldi_i, jq_ldl_l, jq_lda_a, jq_inc_i, jq_gs_t, jq_gsb_t, jq_gb_t, jq_gr_2, jq_gr_4, jq_gw_2, jq_s_t, jq_b_t, jg_c, jg_n, js_c, js_n, jrm_c, jrm_n, j2_i, j2_l, j2_a, jq_c_i, jq_c_l, jq_c_0, jq_c_n, jwd_le, jw_c0, mS_I, mS_R, mS_J, mN_I, mN_R, mN_J, mR_I, mI_R, mJ_I, mJ_R, mI_J, mR_J, ↓reduceIte, decide_true, or_true, true_or, and_self, false_or, or_false, reduceCtorEq, Bool.false_eq_true, and_false, false_and, eq_self, true_and, and_true, zero_ne, ↓br_lt_t, ↓br_lt_f, ↓br_eq_t, ↓br_eq_f, ↓br_lz_t, ↓br_lz_f, ↓br_ez_t, ↓br_ez_f, ↓br_gz_t, ↓br_gz_f, jw_id, jin_t, jix_t, jr]
  rw [s1, e1, s2, e2, s3, e3, p212_184]
  simp (disch := omega) only [p212_0, p212_1, p212_3, p212_6, p212_9, p212_10, p212_11, p212_12, p212_13, p212_16, p212_20, p212_23, p212_26, p212_27, p212_28, p212_30, p212_31, p212_34, p212_37, p212_40, p212_41, p212_44, p212_47, p212_48, p212_49, p212_50, p212_51, p212_53, p212_54, p212_55, p212_57, p212_58, p212_59, p212_60, p212_61, p212_64, p212_65, p212_66, p212_69, p212_72, p212_73, p212_74, p212_77, p212_78, p212_79, p212_82, p212_83, p212_84, p212_85, p212_86, p212_87, p212_90, p212_91, p212_92, p212_94, p212_95, p212_96, p212_99, p212_100, p212_101, p212_102, p212_105, p212_108, p212_109, p212_110, p212_111, p212_112, p212_115, p212_116, p212_117, p212_118, p212_121, p212_124, p212_125, p212_126, p212_127, p212_128, p212_131, p212_132, p212_133, p212_134, p212_137, p212_140, p212_141, p212_142, p212_143, p212_146, p212_150, p212_152, p212_153, p212_156, p212_159, p212_162, p212_163, p212_166, p212_167, p212_168, p212_169, p212_172, p212_175, p212_176, p212_177, p212_178, p212_181, p212_185, p212_188, p212_189, p212_192, p212_195, p212_196, p212_197, p212_200, p212_201, p212_204, p212_207, p212_208, p212_209, p212_212, p212_213, p212_216, p212_219, p212_220, p212_221, p212_224, p212_225, p212_228, p212_231, p212_232, p212_233, p212_236, p212_237, p212_240, p212_243, p212_244, p212_245, p212_248, p212_249, p212_252, p212_255, p212_256, jwd_c, jwd_0, Nat.reduceLeDiff, Nat.reduceEqDiff, Nat.reduceAdd, Nat.reduceSub, Nat.reduceMul, Int.reduceAdd, Int.reduceSub, Int.reduceMul, Int.reduceNeg, Int.reduceEq, Int.reduceLT, Int.reduceLE, jq_ldi_i, jq_ldl_l, jq_lda_a, jq_inc_i, jq_gs_t, jq_gsb_t, jq_gb_t, jq_gr_2, jq_gr_4, jq_gw_2, jq_s_t, jq_b_t, jg_c, jg_n, js_c, js_n, jrm_c, jrm_n, j2_i, j2_l, j2_a, jq_c_i, jq_c_l, jq_c_0, jq_c_n, jwd_le, jw_c0, mS_I, mS_R, mS_J, mN_I, mN_R, mN_J, mR_I, mI_R, mJ_I, mJ_R, mI_J, mR_J, ↓reduceIte, decide_true, or_true, true_or, and_self, false_or, or_false, reduceCtorEq, Bool.false_eq_true, and_false, false_and, eq_self, true_and, and_true, zero_ne, ↓br_lt_t, ↓br_lt_f, ↓br_eq_t, ↓br_eq_f, ↓br_lz_t, ↓br_lz_f, ↓br_ez_t, ↓br_ez_f, ↓br_gz_t, ↓br_gz_f, jw_id, jin_t, jix_t, mS_A, mR_A, setI_A, mI_A, setA_A, MO.s0 hm, MO.s1 hm, MO.s2 hm, MO.s3 hm, MO.s4 hm, MO.s5 hm, MO.s6 hm, MO.s7 hm, MO.s8 hm, MO.s9 hm, MO.s10 hm, MO.s11 hm, MO.s12 hm, MO.s13 hm, MO.r1 hm, MO.r2 hm, MO.r3 hm, MO.r4 hm, MO.r5 hm, MO.r6 hm, MO.r7 hm, MO.r8 hm, MO.r9 hm, MO.r10 hm, MO.r11 hm, MO.r12 hm, MO.r13 hm, MH.s hh, h3, hs, q4, q7, q14, q10, Int.reduceToNat]
  rw [st_fin (by omega) (by omega) hF hG]
end START
