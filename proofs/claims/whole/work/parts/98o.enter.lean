/-! The class: the row as it starts. -/
section ENTER
variable {w u : jmW} {H : Nat → Nat → Int} {K : Nat}
/-- what stands while a Row enters -/
def EN (w : jmW) (H : Nat → Nat → Int) : Prop := CH w 84 H ∧ mS w 104 = (1, 4, 0) ∧ mR w 104 0 = some 105 ∧ mR w 104 1 = some 107 ∧ mR w 104 2 = some 109
def enP : Nat → Prop := fun b => 104 ≤ b ∧ b ≤ 110
theorem EN.fr (h : EN w H) (f : Fr (fun b => 105 ≤ b ∧ b ≤ 110) w u) : EN u H := by
  obtain ⟨h1, h2, h3, h4, h5⟩ := h
  have r := f.Rq (b := 104) (by omega)
  exact ⟨h1.fr f (fun b b1 b2 => by omega), by rw [f.q]; exact h2, by rw [r]; exact h3, by rw [r]; exact h4, by rw [r]; exact h5⟩
theorem sP_en {b : Nat} (h1 : 105 ≤ b) (h2 : b ≤ 109) : ∀ x, sP b x → (fun b => 105 ≤ b ∧ b ≤ 110) x := fun x hx => by
  unfold sP at hx
  show 105 ≤ x ∧ x ≤ 110
  omega
theorem sP_e8 {b : Nat} (h1 : 105 ≤ b) (h2 : b ≤ 107) : ∀ x, sP b x → (fun b => 105 ≤ b ∧ b ≤ 108) x := fun x hx => by
  unfold sP at hx
  show 105 ≤ x ∧ x ≤ 108
  omega
theorem e8_en {w u : jmW} (f : Fr (fun b => 105 ≤ b ∧ b ≤ 108) w u) : Fr (fun b => 105 ≤ b ∧ b ≤ 110) w u := f.mo (fun b hb => by omega)
/-- a row of the crew as told, the first m of them -/
def gCr (H : Nat → Nat → Int) (K m : Nat) (i j : Nat) : Int := if j = 0 then (i : Int) else if i < m then (if j = 1 then (K : Int) - 1 - i else if j = 2 then H 24 i else if j = 3 then H 25 i else H 26 i) else 0
def gWy (H : Nat → Nat → Int) (K m : Nat) (i : Nat) : Int := if K ≤ i + m then gBk H (K - 1 - i) else H 0 13
theorem en1 (hK : K ≤ 8) (hKH : (K : Int) = H 0 4) : ∀ (d m : Nat) (w : jmW) (tl : jmL), EN w H → Sg w 105 1 208 m (fun _ _ => H 0 13) → Sg w 107 5 16 m (fun i j => gCr H K 0 i j) → m + d = K → t1p 3 tl → ∃ u, rn 59 (34, (0, jvr 104) :: (1, jvr 84) :: (2, .inl (K : Int)) :: (3, .inl (m : Int)) :: [], [], w) = rn 59 (64, [(0, jvr 104), (1, jvr 84), (2, .inl (K : Int)), (3, .inl (K : Int))], [], u) ∧ EN u H ∧ Sg u 105 1 208 K (fun _ _ => H 0 13) ∧ Sg u 107 5 16 K (fun i j => gCr H K 0 i j) ∧ Fr (fun b => 105 ≤ b ∧ b ≤ 108) w u := by
  intro d
  induction d with
  | zero =>
    intro m w tl h s1 s2 hd ht
    have e : m = K := by omega
    subst e
    refine ⟨w, ?_, h, s1, s2, Fr.rf _ _⟩
    rw [p59_34]
    simp (disch := omega) only [p59_0, p59_1, p59_4, p59_7, p59_8, p59_9, p59_12, p59_13, p59_16, p59_17, p59_20, p59_21, p59_24, p59_25, p59_28, p59_29, p59_32, p59_33, p59_35, p59_36, p59_39, p59_40, p59_43, p59_44, p59_47, p59_50, p59_51, p59_54, p59_55, p59_58, p59_61, p59_65, p59_68, p59_69, p59_70, p59_74, p59_75, p59_78, p59_79, p59_80, p59_81, p59_83, p59_84, p59_86, p59_87, p59_90, p59_92, p59_93, p59_94, p59_97, p59_98, p59_99, p59_100, p59_103, p59_104, p59_105, p59_106, p59_107, p59_110, p59_111, p59_112, p59_115, p59_117, p59_118, p59_120, p59_123, p59_124, p59_127, p59_129, p59_130, p59_131, p59_134, p59_136, p59_137, p59_140, p59_143, p59_144, p59_147, p59_149, p59_150, p59_151, p59_154, p59_156, p59_157, p59_160, p59_163, p59_164, p59_167, p59_169, p59_170, p59_171, p59_174, p59_176, p59_177, p59_180, p59_183, p59_186, p59_189, p59_190, p59_194, p59_195, p59_198, p59_201, p59_204, p59_205, p59_208, p59_209, p59_212, p59_214, p59_215, p59_218, p59_221, p59_224, p59_227, p59_228, p59_229, p59_232, p59_233, p59_234, p59_237, p59_238, p59_239, p59_242, p59_245, p59_246, p59_247, p59_250, p59_253, p59_254, p59_255, p59_258, p59_259, p59_260, p59_263, p59_264, p59_265, p59_268, p59_269, p59_270, p59_273, p59_276, jwd_c, jwd_0, Nat.reduceLeDiff, Nat.reduceEqDiff, Nat.reduceAdd, Nat.reduceSub, Nat.reduceMul, Int.reduceAdd, Int.reduceSub, Int.reduceMul, Int.reduceNeg, Int.reduceEq, Int.reduceLT, Int.reduceLE, jq_ldi_i, jq_ldl_l, jq_lda_a, jq_inc_i, jq_gs_t, jq_gsb_t, jq_gb_t, jq_gr_2, jq_gr_4, jq_gw_2, jq_s_t, jq_b_t, jg_c, jg_n, js_c, js_n, jrm_c, jrm_n, j2_i, j2_l, j2_a, jq_c_i, jq_c_l, jq_c_0, jq_c_n, jwd_le, jw_c0, mS_I, mS_R, mS_J, mN_I, mN_R, mN_J, mR_I, mI_R, mJ_I, mJ_R, mI_J, mR_J, ↓reduceIte, decide_true, or_true, true_or, and_self, false_or, or_false, reduceCtorEq, Bool.false_eq_true, and_false, false_and, eq_self, true_and, and_true, zero_ne, ↓br_lt_t, ↓br_lt_f, ↓br_eq_t, ↓br_eq_f, ↓br_lz_t, ↓br_lz_f, ↓br_ez_t, ↓br_ez_f, ↓br_gz_t, ↓br_gz_f, jw_id, jin_t, jix_t, ↓ite_t, ↓ite_f]
  | succ d ih =>
    intro m w tl h s1 s2 hd ht
    obtain ⟨h1, h2, h3, h4, h5⟩ := h
    have f16 := h1.f16
    obtain ⟨u1, e1, t1, f1⟩ := sg_push (v := H 0 13) s1 (by omega)
    have s2' := s2.fr f1 (sP_n (by omega)) (sP_n (by omega))
    obtain ⟨u2, e2, t2, f2⟩ := sg_push (v := (m : Int)) s2' (by omega)
    have g1 := f1.mo (sP_e8 (by omega) (by omega))
    have g2 := f2.mo (sP_e8 (by omega) (by omega))
    have H2 : EN u2 H := EN.fr (EN.fr ⟨h1, h2, h3, h4, h5⟩ (e8_en g1)) (e8_en g2)
    have t1' : Sg u2 105 1 208 (m + 1) (fun _ _ => H 0 13) := (t1.fr f2 (sP_n (by omega)) (sP_n (by omega))).mk2 (fun i j hi hj => by
      by_cases z : i < m
      · rw [if_pos z]
      · rw [if_neg z, if_pos (by omega)])
    have t2' : Sg u2 107 5 16 (m + 1) (fun i j => gCr H K 0 i j) := t2.mk2 (fun i j hi hj => by
      by_cases z : i < m
      · rw [if_pos z]
      · rw [if_neg z]
        unfold gCr
        by_cases y : j = 0
        · rw [if_pos y, if_pos y, show i = m by omega]
        · rw [if_neg y, if_neg y, if_neg (by omega)])
    obtain ⟨u, e3, r1, r2, r3, r4⟩ := ih (m + 1) u2 [] H2 t1' t2' (by omega) (Or.inl rfl)
    rw [show ((m + 1 : Nat) : Int) = (m : Int) + 1 by omega] at e3
    refine ⟨u, ?_, r1, r2, r3, (g1.tr g2).tr r4⟩
    · have y1 : mS u1 104 = (1, 4, 0) := by rw [f1.q]; exact h2
      have y2 : mR u1 104 1 = some 107 := by rw [f1.Rq (sP_n (by omega))]; exact h4
      have y3 : mS w 105 = (1, 5, 0) := s1.1
      have y4 : mS u1 107 = (1, 5, 0) := s2'.1
      rw [← e3, p59_34]
      simp (disch := omega) only [p59_0, p59_1, p59_4, p59_7, p59_8, p59_9, p59_12, p59_13, p59_16, p59_17, p59_20, p59_21, p59_24, p59_25, p59_28, p59_29, p59_32, p59_33, p59_35, p59_36, p59_39, p59_40, p59_43, p59_44, p59_47, p59_50, p59_51, p59_54, p59_55, p59_58, p59_61, p59_65, p59_68, p59_69, p59_70, p59_74, p59_75, p59_78, p59_79, p59_80, p59_81, p59_83, p59_84, p59_86, p59_87, p59_90, p59_92, p59_93, p59_94, p59_97, p59_98, p59_99, p59_100, p59_103, p59_104, p59_105, p59_106, p59_107, p59_110, p59_111, p59_112, p59_115, p59_117, p59_118, p59_120, p59_123, p59_124, p59_127, p59_129, p59_130, p59_131, p59_134, p59_136, p59_137, p59_140, p59_143, p59_144, p59_147, p59_149, p59_150, p59_151, p59_154, p59_156, p59_157, p59_160, p59_163, p59_164, p59_167, p59_169, p59_170, p59_171, p59_174, p59_176, p59_177, p59_180, p59_183, p59_186, p59_189, p59_190, p59_194, p59_195, p59_198, p59_201, p59_204, p59_205, p59_208, p59_209, p59_212, p59_214, p59_215, p59_218, p59_221, p59_224, p59_227, p59_228, p59_229, p59_232, p59_233, p59_234, p59_237, p59_238, p59_239, p59_242, p59_245, p59_246, p59_247, p59_250, p59_253, p59_254, p59_255, p59_258, p59_259, p59_260, p59_263, p59_264, p59_265, p59_268, p59_269, p59_270, p59_273, p59_276, jwd_c, jwd_0, Nat.reduceLeDiff, Nat.reduceEqDiff, Nat.reduceAdd, Nat.reduceSub, Nat.reduceMul, Int.reduceAdd, Int.reduceSub, Int.reduceMul, Int.reduceNeg, Int.reduceEq, Int.reduceLT, Int.reduceLE, jq_ldi_i, jq_ldl_l, jq_lda_a, jq_inc_i, jq_gs_t, jq_gsb_t, jq_gb_t, jq_gr_2, jq_gr_4, jq_gw_2, jq_s_t, jq_b_t, jg_c, jg_n, js_c, js_n, jrm_c, jrm_n, j2_i, j2_l, j2_a, jq_c_i, jq_c_l, jq_c_0, jq_c_n, jwd_le, jw_c0, mS_I, mS_R, mS_J, mN_I, mN_R, mN_J, mR_I, mI_R, mJ_I, mJ_R, mI_J, mR_J, ↓reduceIte, decide_true, or_true, true_or, and_self, false_or, or_false, reduceCtorEq, Bool.false_eq_true, and_false, false_and, eq_self, true_and, and_true, zero_ne, ↓br_lt_t, ↓br_lt_f, ↓br_eq_t, ↓br_eq_f, ↓br_lz_t, ↓br_lz_f, ↓br_ez_t, ↓br_ez_f, ↓br_gz_t, ↓br_gz_f, jw_id, jin_t, jix_t, ↓ite_t, ↓ite_f, h2, h3, h1.s, f16, y1, y2, y3, y4, e1, e2]
theorem en2 (hk : HOK H) (hs : HS H) (hK : K ≤ 8) (hKH : (K : Int) = H 0 4) : ∀ (d m : Nat) (w : jmW) (tl : jmL), EN w H → Sg w 105 1 208 K (fun i _ => gWy H K m i) → Sg w 107 5 16 K (fun i j => gCr H K m i j) → m + d = K → t1p 5 tl → ∃ u lv, rn 59 (72, (0, jvr 104) :: (1, jvr 84) :: (2, .inl (K : Int)) :: (3, .inl (gBk H m)) :: (4, .inl (m : Int)) :: tl, [], w) = rn 59 (189, (0, jvr 104) :: (1, jvr 84) :: (2, .inl (K : Int)) :: (3, .inl (gBk H K)) :: (4, .inl (K : Int)) :: lv, [], u) ∧ t1p 5 lv ∧ EN u H ∧ Sg u 105 1 208 K (fun i _ => gWy H K K i) ∧ Sg u 107 5 16 K (fun i j => gCr H K K i j) ∧ Fr (fun b => 105 ≤ b ∧ b ≤ 108) w u := by
  intro d
  induction d with
  | zero =>
    intro m w tl h s1 s2 hd ht
    have e : m = K := by omega
    subst e
    refine ⟨w, tl, ?_, ht, h, s1, s2, Fr.rf _ _⟩
    rw [p59_72]
    simp (disch := omega) only [p59_0, p59_1, p59_4, p59_7, p59_8, p59_9, p59_12, p59_13, p59_16, p59_17, p59_20, p59_21, p59_24, p59_25, p59_28, p59_29, p59_32, p59_33, p59_35, p59_36, p59_39, p59_40, p59_43, p59_44, p59_47, p59_50, p59_51, p59_54, p59_55, p59_58, p59_61, p59_65, p59_68, p59_69, p59_70, p59_74, p59_75, p59_78, p59_79, p59_80, p59_81, p59_83, p59_84, p59_86, p59_87, p59_90, p59_92, p59_93, p59_94, p59_97, p59_98, p59_99, p59_100, p59_103, p59_104, p59_105, p59_106, p59_107, p59_110, p59_111, p59_112, p59_115, p59_117, p59_118, p59_120, p59_123, p59_124, p59_127, p59_129, p59_130, p59_131, p59_134, p59_136, p59_137, p59_140, p59_143, p59_144, p59_147, p59_149, p59_150, p59_151, p59_154, p59_156, p59_157, p59_160, p59_163, p59_164, p59_167, p59_169, p59_170, p59_171, p59_174, p59_176, p59_177, p59_180, p59_183, p59_186, p59_190, p59_194, p59_195, p59_198, p59_201, p59_204, p59_205, p59_208, p59_209, p59_212, p59_214, p59_215, p59_218, p59_221, p59_224, p59_227, p59_228, p59_229, p59_232, p59_233, p59_234, p59_237, p59_238, p59_239, p59_242, p59_245, p59_246, p59_247, p59_250, p59_253, p59_254, p59_255, p59_258, p59_259, p59_260, p59_263, p59_264, p59_265, p59_268, p59_269, p59_270, p59_273, p59_276, jwd_c, jwd_0, Nat.reduceLeDiff, Nat.reduceEqDiff, Nat.reduceAdd, Nat.reduceSub, Nat.reduceMul, Int.reduceAdd, Int.reduceSub, Int.reduceMul, Int.reduceNeg, Int.reduceEq, Int.reduceLT, Int.reduceLE, jq_ldi_i, jq_ldl_l, jq_lda_a, jq_inc_i, jq_gs_t, jq_gsb_t, jq_gb_t, jq_gr_2, jq_gr_4, jq_gw_2, jq_s_t, jq_b_t, jg_c, jg_n, js_c, js_n, jrm_c, jrm_n, j2_i, j2_l, j2_a, jq_c_i, jq_c_l, jq_c_0, jq_c_n, jwd_le, jw_c0, mS_I, mS_R, mS_J, mN_I, mN_R, mN_J, mR_I, mI_R, mJ_I, mJ_R, mI_J, mR_J, ↓reduceIte, decide_true, or_true, true_or, and_self, false_or, or_false, reduceCtorEq, Bool.false_eq_true, and_false, false_and, eq_self, true_and, and_true, zero_ne, ↓br_lt_t, ↓br_lt_f, ↓br_eq_t, ↓br_eq_f, ↓br_lz_t, ↓br_lz_f, ↓br_ez_t, ↓br_ez_f, ↓br_gz_t, ↓br_gz_f, jw_id, jin_t, jix_t, ↓ite_t, ↓ite_f]
  | succ d ih =>
    intro m w tl h s1 s2 hd ht
    have js := t1p_js ht
    have jr := t1p_jr ht
    obtain ⟨h1, h2, h3, h4, h5⟩ := h
    have h : EN w H := ⟨h1, h2, h3, h4, h5⟩
    have hb := hs m (by omega)
    have hb1 : gBk H (m + 1) = gTo H (gBk H m) (H 0 14 + 2) := rfl
    have kz := hk.1
    have k14 := hk.2.2.1
    obtain ⟨u1, e1, t1, f1⟩ := sg_put (v := gBk H m) s1 (l := (K : Int) - 1 - m) (k := 0) (by omega) (by omega) (by omega) (by omega)
    have g1 := f1.mo (sP_e8 (by omega) (by omega))
    have H1 := h.fr (e8_en g1)
    have w107 : mS w 107 = (1, 5, 0) := s2.1
    have eb := h_bes H1.1.s H1.1.f8 H1.1.f9 (show HW H from hk.1) (c := gBk H m) (s := (H 0 14 + 2) % 4) hb.1 hb.2.1 (by omega) (by omega)
    rw [to_m4, ← hb1] at eb
    have s2' := s2.fr f1 (sP_n (by omega)) (sP_n (by omega))
    obtain ⟨u2, e2, t2, f2⟩ := sg_put (v := (K : Int) - 1 - m) s2' (l := (m : Int)) (k := 1) (by omega) (by omega) (by omega) (by omega)
    have g2 := f2.mo (sP_e8 (by omega) (by omega))
    have H2 := H1.fr (e8_en g2)
    have d1 := sg_in H2.1.g9 (l := (m : Int)) (k := 0) (by omega) (by omega) (by omega) (by omega)
    obtain ⟨u3, e3, t3, f3⟩ := sg_put (v := H 24 m) t2 (l := (m : Int)) (k := 2) (by omega) (by omega) (by omega) (by omega)
    have g3 := f3.mo (sP_e8 (by omega) (by omega))
    have H3 := H2.fr (e8_en g3)
    have d2 := sg_in H3.1.g9 (l := (m : Int)) (k := 1) (by omega) (by omega) (by omega) (by omega)
    obtain ⟨u4, e4, t4, f4⟩ := sg_put (v := H 25 m) t3 (l := (m : Int)) (k := 3) (by omega) (by omega) (by omega) (by omega)
    have g4 := f4.mo (sP_e8 (by omega) (by omega))
    have H4 := H3.fr (e8_en g4)
    have d3 := sg_in H4.1.g9 (l := (m : Int)) (k := 2) (by omega) (by omega) (by omega) (by omega)
    obtain ⟨u5, e5, t5, f5⟩ := sg_put (v := H 26 m) t4 (l := (m : Int)) (k := 4) (by omega) (by omega) (by omega) (by omega)
    have g5 := f5.mo (sP_e8 (by omega) (by omega))
    have H5 := H4.fr (e8_en g5)
    have d1 : rn 23 (0, [(0, jvr 93), (1, .inl (m : Int)), (2, .inl 0)], [], u2) = some (some (.inl (H 24 m)), u2) := by
      rw [Int.toNat_natCast] at d1
      exact d1
    have d2 : rn 23 (0, [(0, jvr 93), (1, .inl (m : Int)), (2, .inl 1)], [], u3) = some (some (.inl (H 25 m)), u3) := by
      rw [Int.toNat_natCast] at d2
      exact d2
    have d3 : rn 23 (0, [(0, jvr 93), (1, .inl (m : Int)), (2, .inl 2)], [], u4) = some (some (.inl (H 26 m)), u4) := by
      rw [Int.toNat_natCast] at d3
      exact d3
    have F25 : Fr (sP 107) u1 u5 := ((f2.tr f3).tr f4).tr f5
    have t1' : Sg u5 105 1 208 K (fun i _ => gWy H K (m + 1) i) := (t1.fr F25 (sP_n (by omega)) (sP_n (by omega))).mk2 (fun i j hi hj => by
      unfold gWy
      by_cases z : i = ((K : Int) - 1 - m).toNat
      · rw [if_pos ⟨z, by omega⟩, if_pos (by omega), show K - 1 - i = m by omega]
      · rw [if_neg (fun x => z x.1)]
        by_cases y : K ≤ i + m
        · rw [if_pos y, if_pos (by omega)]
        · rw [if_neg y, if_neg (by omega)])
    have t2' : Sg u5 107 5 16 K (fun i j => gCr H K (m + 1) i j) := t5.mk2 (fun i j hi hj => by
      rw [Int.toNat_natCast]
      by_cases z : i = m
      · subst z
        unfold gCr
        have hj5 : j = 0 ∨ j = 1 ∨ j = 2 ∨ j = 3 ∨ j = 4 := by omega
        rcases hj5 with rfl | rfl | rfl | rfl | rfl
        · rw [if_neg (by omega), if_neg (by omega), if_neg (by omega), if_neg (by omega), if_pos rfl, if_pos rfl]
        · rw [if_neg (by omega), if_neg (by omega), if_neg (by omega), if_pos (by omega), if_neg (by omega), if_pos (by omega), if_pos rfl]
        · rw [if_neg (by omega), if_neg (by omega), if_pos (by omega), if_neg (by omega), if_pos (by omega), if_neg (by omega), if_pos rfl]
        · rw [if_neg (by omega), if_pos (by omega), if_neg (by omega), if_pos (by omega), if_neg (by omega), if_neg (by omega), if_pos rfl]
        · rw [if_pos (by omega), if_neg (by omega), if_pos (by omega), if_neg (by omega), if_neg (by omega), if_neg (by omega)]
      · rw [if_neg (fun x => z x.1), if_neg (fun x => z x.1), if_neg (fun x => z x.1), if_neg (fun x => z x.1)]
        unfold gCr
        by_cases y : j = 0
        · rw [if_pos y, if_pos y]
        · rw [if_neg y, if_neg y]
          by_cases x : i < m
          · rw [if_pos x, if_pos (show i < m + 1 by omega)]
          · rw [if_neg x, if_neg (show ¬ i < m + 1 by omega)])
    obtain ⟨u, lv, e6, r0, r1, r2, r3, r4⟩ := ih (m + 1) u5 [(5, .inl ((K : Int) - 1 - m))] H5 t1' t2' (by omega) (Or.inr ⟨_, rfl⟩)
    rw [show ((m + 1 : Nat) : Int) = (m : Int) + 1 by omega] at e6
    refine ⟨u, lv, ?_, r0, r1, r2, r3, ((((g1.tr g2).tr g3).tr g4).tr g5).tr r4⟩
    · obtain ⟨c11, c12, c13, c14, c15⟩ := H1
      obtain ⟨c21, c22, c23, c24, c25⟩ := H2
      obtain ⟨c31, c32, c33, c34, c35⟩ := H3
      obtain ⟨c41, c42, c43, c44, c45⟩ := H4
      have y17 := c11.f17
      have z1 : mS u1 107 = (1, 5, 0) := s2'.1
      have z2 : mS u2 107 = (1, 5, 0) := t2.1
      have z3 : mS u3 107 = (1, 5, 0) := t3.1
      have z4 : mS u4 107 = (1, 5, 0) := t4.1
      have z0 : mS w 105 = (1, 5, 0) := s1.1
      have q2 := c21.r4
      have q3 := c31.r4
      have q4 := c41.r4
      have k2 : mS u2 93 = (1, 5, 0) := c21.g9.1
      have k3 : mS u3 93 = (1, 5, 0) := c31.g9.1
      have k4 : mS u4 93 = (1, 5, 0) := c41.g9.1
      rw [← e6, p59_72]
      simp (disch := omega) only [p59_0, p59_1, p59_4, p59_7, p59_8, p59_9, p59_12, p59_13, p59_16, p59_17, p59_20, p59_21, p59_24, p59_25, p59_28, p59_29, p59_32, p59_33, p59_35, p59_36, p59_39, p59_40, p59_43, p59_44, p59_47, p59_50, p59_51, p59_54, p59_55, p59_58, p59_61, p59_65, p59_68, p59_69, p59_70, p59_74, p59_75, p59_78, p59_79, p59_80, p59_81, p59_83, p59_84, p59_86, p59_87, p59_90, p59_92, p59_93, p59_94, p59_97, p59_98, p59_99, p59_100, p59_103, p59_104, p59_105, p59_106, p59_107, p59_110, p59_111, p59_112, p59_115, p59_117, p59_118, p59_120, p59_123, p59_124, p59_127, p59_129, p59_130, p59_131, p59_134, p59_136, p59_137, p59_140, p59_143, p59_144, p59_147, p59_149, p59_150, p59_151, p59_154, p59_156, p59_157, p59_160, p59_163, p59_164, p59_167, p59_169, p59_170, p59_171, p59_174, p59_176, p59_177, p59_180, p59_183, p59_186, p59_190, p59_194, p59_195, p59_198, p59_201, p59_204, p59_205, p59_208, p59_209, p59_212, p59_214, p59_215, p59_218, p59_221, p59_224, p59_227, p59_228, p59_229, p59_232, p59_233, p59_234, p59_237, p59_238, p59_239, p59_242, p59_245, p59_246, p59_247, p59_250, p59_253, p59_254, p59_255, p59_258, p59_259, p59_260, p59_263, p59_264, p59_265, p59_268, p59_269, p59_270, p59_273, p59_276, jwd_c, jwd_0, Nat.reduceLeDiff, Nat.reduceEqDiff, Nat.reduceAdd, Nat.reduceSub, Nat.reduceMul, Int.reduceAdd, Int.reduceSub, Int.reduceMul, Int.reduceNeg, Int.reduceEq, Int.reduceLT, Int.reduceLE, jq_ldi_i, jq_ldl_l, jq_lda_a, jq_inc_i, jq_gs_t, jq_gsb_t, jq_gb_t, jq_gr_2, jq_gr_4, jq_gw_2, jq_s_t, jq_b_t, jg_c, jg_n, js_c, js_n, jrm_c, jrm_n, j2_i, j2_l, j2_a, jq_c_i, jq_c_l, jq_c_0, jq_c_n, jwd_le, jw_c0, mS_I, mS_R, mS_J, mN_I, mN_R, mN_J, mR_I, mI_R, mJ_I, mJ_R, mI_J, mR_J, ↓reduceIte, decide_true, or_true, true_or, and_self, false_or, or_false, reduceCtorEq, Bool.false_eq_true, and_false, false_and, eq_self, true_and, and_true, zero_ne, ↓br_lt_t, ↓br_lt_f, ↓br_eq_t, ↓br_eq_f, ↓br_lz_t, ↓br_lz_f, ↓br_ez_t, ↓br_ez_f, ↓br_gz_t, ↓br_gz_f, jw_id, jin_t, jix_t, ↓ite_t, ↓ite_f, h2, h3, h4, c12, c14, c22, c24, c32, c34, c42, c44, c11.s, c21.s, c31.s, c41.s, y17, z0, z1, z2, z3, z4, q2, q3, q4, k2, k3, k4, js, jr, tmod_nn, e1, eb, e2, d1, e3, d2, e4, d3, e5]
theorem en3 (hk : HOK H) {lv : jmL} (hlv : jrm lv 4 = lv) {Kk cc : Int} : ∀ (d m : Nat) (w : jmW), EN w H → Sg w 109 1 4 m (fun i _ => H 19 i) → (m : Int) + d = H 0 3 → ∃ u, rn 59 (192, (0, jvr 104) :: (1, jvr 84) :: (2, .inl Kk) :: (3, .inl cc) :: (4, .inl (m : Int)) :: lv, [], w) = rn 59 (227, (0, jvr 104) :: (1, jvr 84) :: (2, .inl Kk) :: (3, .inl cc) :: (4, .inl (H 0 3)) :: lv, [], u) ∧ EN u H ∧ Sg u 109 1 4 (H 0 3).toNat (fun i _ => H 19 i) ∧ Fr (sP 109) w u := by
  have k3 := hk.2.1
  intro d
  induction d with
  | zero =>
    intro m w h s1 hd
    have ec := sg_count h.1.g7
    rw [show (((H 0 3).toNat : Nat) : Int) = H 0 3 by omega] at ec
    refine ⟨w, ?_, h, by rw [show (H 0 3).toNat = m by omega]; exact s1, Fr.rf _ _⟩
    obtain ⟨h1, h2, h3, h4, h5⟩ := h
    have q3 := h1.r3
    have k91 : mS w 91 = (1, 5, 0) := h1.g7.1
    rw [p59_192, show (m : Int) = H 0 3 by omega]
    simp (disch := omega) only [p59_0, p59_1, p59_4, p59_7, p59_8, p59_9, p59_12, p59_13, p59_16, p59_17, p59_20, p59_21, p59_24, p59_25, p59_28, p59_29, p59_32, p59_33, p59_35, p59_36, p59_39, p59_40, p59_43, p59_44, p59_47, p59_50, p59_51, p59_54, p59_55, p59_58, p59_61, p59_65, p59_68, p59_69, p59_70, p59_74, p59_75, p59_78, p59_79, p59_80, p59_81, p59_83, p59_84, p59_86, p59_87, p59_90, p59_92, p59_93, p59_94, p59_97, p59_98, p59_99, p59_100, p59_103, p59_104, p59_105, p59_106, p59_107, p59_110, p59_111, p59_112, p59_115, p59_117, p59_118, p59_120, p59_123, p59_124, p59_127, p59_129, p59_130, p59_131, p59_134, p59_136, p59_137, p59_140, p59_143, p59_144, p59_147, p59_149, p59_150, p59_151, p59_154, p59_156, p59_157, p59_160, p59_163, p59_164, p59_167, p59_169, p59_170, p59_171, p59_174, p59_176, p59_177, p59_180, p59_183, p59_186, p59_190, p59_194, p59_195, p59_198, p59_201, p59_204, p59_205, p59_208, p59_209, p59_212, p59_214, p59_215, p59_218, p59_221, p59_224, p59_228, p59_229, p59_232, p59_233, p59_234, p59_237, p59_238, p59_239, p59_242, p59_245, p59_246, p59_247, p59_250, p59_253, p59_254, p59_255, p59_258, p59_259, p59_260, p59_263, p59_264, p59_265, p59_268, p59_269, p59_270, p59_273, p59_276, jwd_c, jwd_0, Nat.reduceLeDiff, Nat.reduceEqDiff, Nat.reduceAdd, Nat.reduceSub, Nat.reduceMul, Int.reduceAdd, Int.reduceSub, Int.reduceMul, Int.reduceNeg, Int.reduceEq, Int.reduceLT, Int.reduceLE, jq_ldi_i, jq_ldl_l, jq_lda_a, jq_inc_i, jq_gs_t, jq_gsb_t, jq_gb_t, jq_gr_2, jq_gr_4, jq_gw_2, jq_s_t, jq_b_t, jg_c, jg_n, js_c, js_n, jrm_c, jrm_n, j2_i, j2_l, j2_a, jq_c_i, jq_c_l, jq_c_0, jq_c_n, jwd_le, jw_c0, mS_I, mS_R, mS_J, mN_I, mN_R, mN_J, mR_I, mI_R, mJ_I, mJ_R, mI_J, mR_J, ↓reduceIte, decide_true, or_true, true_or, and_self, false_or, or_false, reduceCtorEq, Bool.false_eq_true, and_false, false_and, eq_self, true_and, and_true, zero_ne, ↓br_lt_t, ↓br_lt_f, ↓br_eq_t, ↓br_eq_f, ↓br_lz_t, ↓br_lz_f, ↓br_ez_t, ↓br_ez_f, ↓br_gz_t, ↓br_gz_f, jw_id, jin_t, jix_t, ↓ite_t, ↓ite_f, h1.s, q3, k91, ec]
  | succ d ih =>
    intro m w h s1 hd
    have ec := sg_count h.1.g7
    rw [show (((H 0 3).toNat : Nat) : Int) = H 0 3 by omega] at ec
    have d1 := sg_in h.1.g7 (l := (m : Int)) (k := 5) (by omega) (by omega) (by omega) (by omega)
    have d1 : rn 23 (0, [(0, jvr 91), (1, .inl (m : Int)), (2, .inl 5)], [], w) = some (some (.inl (H 19 m)), w) := by
      rw [Int.toNat_natCast] at d1
      exact d1
    obtain ⟨u1, e1, t1, f1⟩ := sg_push (v := H 19 m) s1 (by omega)
    have H1 := h.fr (f1.mo (sP_en (by omega) (by omega)))
    obtain ⟨u, e2, r1, r2, r3⟩ := ih (m + 1) u1 H1 (t1.mk2 (fun i j hi hj => by
      by_cases z : i < m
      · rw [if_pos z]
      · rw [if_neg z, if_pos (by omega), show i = m by omega])) (by omega)
    rw [show ((m + 1 : Nat) : Int) = (m : Int) + 1 by omega] at e2
    refine ⟨u, ?_, r1, r2, f1.tr r3⟩
    obtain ⟨h1, h2, h3, h4, h5⟩ := h
    have q3 := h1.r3
    have k91 : mS w 91 = (1, 5, 0) := h1.g7.1
    have k109 : mS w 109 = (1, 5, 0) := s1.1
    rw [← e2, p59_192]
    simp (disch := omega) only [p59_0, p59_1, p59_4, p59_7, p59_8, p59_9, p59_12, p59_13, p59_16, p59_17, p59_20, p59_21, p59_24, p59_25, p59_28, p59_29, p59_32, p59_33, p59_35, p59_36, p59_39, p59_40, p59_43, p59_44, p59_47, p59_50, p59_51, p59_54, p59_55, p59_58, p59_61, p59_65, p59_68, p59_69, p59_70, p59_74, p59_75, p59_78, p59_79, p59_80, p59_81, p59_83, p59_84, p59_86, p59_87, p59_90, p59_92, p59_93, p59_94, p59_97, p59_98, p59_99, p59_100, p59_103, p59_104, p59_105, p59_106, p59_107, p59_110, p59_111, p59_112, p59_115, p59_117, p59_118, p59_120, p59_123, p59_124, p59_127, p59_129, p59_130, p59_131, p59_134, p59_136, p59_137, p59_140, p59_143, p59_144, p59_147, p59_149, p59_150, p59_151, p59_154, p59_156, p59_157, p59_160, p59_163, p59_164, p59_167, p59_169, p59_170, p59_171, p59_174, p59_176, p59_177, p59_180, p59_183, p59_186, p59_190, p59_194, p59_195, p59_198, p59_201, p59_204, p59_205, p59_208, p59_209, p59_212, p59_214, p59_215, p59_218, p59_221, p59_224, p59_228, p59_229, p59_232, p59_233, p59_234, p59_237, p59_238, p59_239, p59_242, p59_245, p59_246, p59_247, p59_250, p59_253, p59_254, p59_255, p59_258, p59_259, p59_260, p59_263, p59_264, p59_265, p59_268, p59_269, p59_270, p59_273, p59_276, jwd_c, jwd_0, Nat.reduceLeDiff, Nat.reduceEqDiff, Nat.reduceAdd, Nat.reduceSub, Nat.reduceMul, Int.reduceAdd, Int.reduceSub, Int.reduceMul, Int.reduceNeg, Int.reduceEq, Int.reduceLT, Int.reduceLE, jq_ldi_i, jq_ldl_l, jq_lda_a, jq_inc_i, jq_gs_t, jq_gsb_t, jq_gb_t, jq_gr_2, jq_gr_4, jq_gw_2, jq_s_t, jq_b_t, jg_c, jg_n, js_c, js_n, jrm_c, jrm_n, j2_i, j2_l, j2_a, jq_c_i, jq_c_l, jq_c_0, jq_c_n, jwd_le, jw_c0, mS_I, mS_R, mS_J, mN_I, mN_R, mN_J, mR_I, mI_R, mJ_I, mJ_R, mI_J, mR_J, ↓reduceIte, decide_true, or_true, true_or, and_self, false_or, or_false, reduceCtorEq, Bool.false_eq_true, and_false, false_and, eq_self, true_and, and_true, zero_ne, ↓br_lt_t, ↓br_lt_f, ↓br_eq_t, ↓br_eq_f, ↓br_lz_t, ↓br_lz_f, ↓br_ez_t, ↓br_ez_f, ↓br_gz_t, ↓br_gz_f, jw_id, jin_t, jix_t, ↓ite_t, ↓ite_f, h1.s, h2, h5, q3, k91, k109, ec, d1, e1, hlv]
theorem r_enter {T : Nat} {c : Int} {r : Nat → Int} (hc : CH w 84 H) (hr : CR w 104 T c r) (hk : HOK H) (hs : HS H) : ∃ u, rn 59 (0, [(0, jvr 104), (1, jvr 84)], [], w) = some (none, u) ∧ CR u 104 (H 0 3).toNat (gOver (gS0 H)) (gS0 H) ∧ Fr (fun b => 104 ≤ b ∧ b ≤ 110) w u := by
  have k2 := hk.2.1
  obtain ⟨K, hK⟩ : ∃ K : Nat, (K : Int) = H 0 4 := ⟨(H 0 4).toNat, by omega⟩
  obtain ⟨a1, a2, a3, a4, s1, s2, s3, -⟩ := hr
  have en0 : EN w H := ⟨hc, a1, a2, a3, a4⟩
  obtain ⟨u1, e1, t1, f1⟩ := sg_cut s1 (m := 0) (by omega) (by omega)
  have g1 := f1.mo (sP_en (by omega) (by omega))
  have E1 := en0.fr g1
  have s2' := s2.fr f1 (sP_n (by omega)) (sP_n (by omega))
  obtain ⟨u2, e2, t2, f2⟩ := sg_cut s2' (m := 0) (by omega) (by omega)
  have g2 := f2.mo (sP_en (by omega) (by omega))
  have E2 := E1.fr g2
  have s3' := (s3.fr f1 (sP_n (by omega)) (sP_n (by omega))).fr f2 (sP_n (by omega)) (sP_n (by omega))
  obtain ⟨u3, e3, t3, f3⟩ := sg_cut s3' (m := 0) (by omega) (by omega)
  have g3 := f3.mo (sP_en (by omega) (by omega))
  have E3 := E2.fr g3
  have b1 : Sg u3 105 1 208 0 (fun _ _ => H 0 13) := ((t1.fr f2 (sP_n (by omega)) (sP_n (by omega))).fr f3 (sP_n (by omega)) (sP_n (by omega))).mk2 (fun i j hi hj => absurd hi (by omega))
  have b2 : Sg u3 107 5 16 0 (fun i j => gCr H K 0 i j) := (t2.fr f3 (sP_n (by omega)) (sP_n (by omega))).mk2 (fun i j hi hj => absurd hi (by omega))
  obtain ⟨u4, e4, E4, c1, c2, g4⟩ := en1 (H := H) (K := K) (by omega) hK K 0 u3 [] E3 b1 b2 (by omega) (Or.inl rfl)
  obtain ⟨u5, lv, e5, r0, E5, d1, d2, g5⟩ := en2 hk hs (K := K) (by omega) hK K 0 u4 [] E4 (c1.mk2 (fun i j hi hj => by
    unfold gWy
    rw [if_neg (by omega)])) c2 (by omega) (Or.inl rfl)
  have t3' : Sg u5 109 1 4 0 (fun i _ => H 19 i) := ((t3.fr g4 (by omega) (by omega)).fr g5 (by omega) (by omega)).mk2 (fun i j hi hj => absurd hi (by omega))
  have hlv : jrm lv 4 = lv := by rcases r0 with rfl | ⟨v, rfl⟩ <;> rfl
  obtain ⟨u6, e6, E6, d3, f6⟩   := en3 hk (lv := lv) hlv (Kk := (K : Int)) (cc := gBk H K) (H 0 3).toNat 0 u5 E5 t3' (by omega)
  obtain ⟨v, hv⟩ : ∃ v, v = setI (setI (setI (setI (setI (setI (setI (setI u6 104 3 0) 104 4 0) 104 5 (H 0 7)) 104 6 (H 0 14)) 104 7 0) 104 8 (H 0 4)) 104 9 0) 104 10 (H 0 10) := ⟨_, rfl⟩
  have ff : ∀ {a : jmW} {k : Nat} {x : Int}, Fr (fun y => y = 104) a (setI a 104 k x) := Fr.I rfl
  have fv : Fr (fun y => y = 104) u6 v := by
    rw [hv]
    exact ((((((ff.tr ff).tr ff).tr ff).tr ff).tr ff).tr ff).tr ff
  have ov : gOver (gS0 H) = 0 := by
    obtain ⟨n1, n2, n3, n4, n5, n6, n7, n8, n9, n10⟩ := s0_n (H := H)
    unfold gOver
    rw [n10, n1, if_neg (by omega), if_neg (by omega)]
  have d1' : Sg v 105 1 208 K (fun i _ => gWy H K K i) := (d1.fr f6 (sP_n (by omega)) (sP_n (by omega))).fr fv (by omega) (by omega)
  have d2' : Sg v 107 5 16 K (fun i j => gCr H K K i j) := (d2.fr f6 (sP_n (by omega)) (sP_n (by omega))).fr fv (by omega) (by omega)
  have d3' := d3.fr fv (by omega) (by omega)
  have i3 : mI v 104 3 = 0 := by rw [hv, mI_nk (by omega), mI_nk (by omega), mI_nk (by omega), mI_nk (by omega), mI_nk (by omega), mI_nk (by omega), mI_nk (by omega), mI_s]
  have i4 : mI v 104 4 = 0 := by rw [hv, mI_nk (by omega), mI_nk (by omega), mI_nk (by omega), mI_nk (by omega), mI_nk (by omega), mI_nk (by omega), mI_s]
  have i5 : mI v 104 5 = H 0 7 := by rw [hv, mI_nk (by omega), mI_nk (by omega), mI_nk (by omega), mI_nk (by omega), mI_nk (by omega), mI_s]
  have i6 : mI v 104 6 = H 0 14 := by rw [hv, mI_nk (by omega), mI_nk (by omega), mI_nk (by omega), mI_nk (by omega), mI_s]
  have i7 : mI v 104 7 = 0 := by rw [hv, mI_nk (by omega), mI_nk (by omega), mI_nk (by omega), mI_s]
  have i8 : mI v 104 8 = H 0 4 := by rw [hv, mI_nk (by omega), mI_nk (by omega), mI_s]
  have i9 : mI v 104 9 = 0 := by rw [hv, mI_nk (by omega), mI_s]
  have i10 : mI v 104 10 = H 0 10 := by rw [hv, mI_s]
  have ev : mR v = mR u6 := by rw [hv]; rfl
  have es : mS v = mS u6 := by rw [hv]; rfl
  refine ⟨v, ?_, ?_, ?_⟩
  · have ec := sg_count en0.1.g9
    rw [show (((H 0 4).toNat : Nat) : Int) = H 0 4 by omega] at ec
    have q4 := hc.r4
    have k93 : mS w 93 = (1, 5, 0) := hc.g9.1
    obtain ⟨x11, x12, x13, x14, x15⟩ := E1
    obtain ⟨x21, x22, x23, x24, x25⟩ := E2
    obtain ⟨x31, x32, x33, x34, x35⟩ := E3
    obtain ⟨x41, x42, x43, x44, x45⟩ := E4
    obtain ⟨x51, x52, x53, x54, x55⟩ := E5
    obtain ⟨x61, x62, x63, x64, x65⟩ := E6
    have y105 : mS w 105 = (1, 5, 0) := s1.1
    have y107 : mS u1 107 = (1, 5, 0) := s2'.1
    have y109 : mS u2 109 = (1, 5, 0) := s3'.1
    have f13 := x41.f16
    have g15 := x61.f15
    have g17 := x61.f17
    have g12 := x61.f12
    have x0 : rn 59 (0, [(0, jvr 104), (1, jvr 84)], [], w) = rn 59 (34, (0, jvr 104) :: (1, jvr 84) :: (2, .inl (K : Int)) :: (3, .inl ((0 : Nat) : Int)) :: [], [], u3) := by
      rw [hK]
      simp (disch := omega) only [p59_0, p59_1, p59_4, p59_7, p59_8, p59_9, p59_12, p59_13, p59_16, p59_17, p59_20, p59_21, p59_24, p59_25, p59_28, p59_29, p59_32, p59_33, p59_35, p59_36, p59_39, p59_40, p59_43, p59_44, p59_47, p59_50, p59_51, p59_54, p59_55, p59_58, p59_61, p59_65, p59_68, p59_69, p59_70, p59_74, p59_75, p59_78, p59_79, p59_80, p59_81, p59_83, p59_84, p59_86, p59_87, p59_90, p59_92, p59_93, p59_94, p59_97, p59_98, p59_99, p59_100, p59_103, p59_104, p59_105, p59_106, p59_107, p59_110, p59_111, p59_112, p59_115, p59_117, p59_118, p59_120, p59_123, p59_124, p59_127, p59_129, p59_130, p59_131, p59_134, p59_136, p59_137, p59_140, p59_143, p59_144, p59_147, p59_149, p59_150, p59_151, p59_154, p59_156, p59_157, p59_160, p59_163, p59_164, p59_167, p59_169, p59_170, p59_171, p59_174, p59_176, p59_177, p59_180, p59_183, p59_186, p59_190, p59_194, p59_195, p59_198, p59_201, p59_204, p59_205, p59_208, p59_209, p59_212, p59_214, p59_215, p59_218, p59_221, p59_224, p59_228, p59_229, p59_232, p59_233, p59_234, p59_237, p59_238, p59_239, p59_242, p59_245, p59_246, p59_247, p59_250, p59_253, p59_254, p59_255, p59_258, p59_259, p59_260, p59_263, p59_264, p59_265, p59_268, p59_269, p59_270, p59_273, p59_276, jwd_c, jwd_0, Nat.reduceLeDiff, Nat.reduceEqDiff, Nat.reduceAdd, Nat.reduceSub, Nat.reduceMul, Int.reduceAdd, Int.reduceSub, Int.reduceMul, Int.reduceNeg, Int.reduceEq, Int.reduceLT, Int.reduceLE, jq_ldi_i, jq_ldl_l, jq_lda_a, jq_inc_i, jq_gs_t, jq_gsb_t, jq_gb_t, jq_gr_2, jq_gr_4, jq_gw_2, jq_s_t, jq_b_t, jg_c, jg_n, js_c, js_n, jrm_c, jrm_n, j2_i, j2_l, j2_a, jq_c_i, jq_c_l, jq_c_0, jq_c_n, jwd_le, jw_c0, mS_I, mS_R, mS_J, mN_I, mN_R, mN_J, mR_I, mI_R, mJ_I, mJ_R, mI_J, mR_J, ↓reduceIte, decide_true, or_true, true_or, and_self, false_or, or_false, reduceCtorEq, Bool.false_eq_true, and_false, false_and, eq_self, true_and, and_true, zero_ne, ↓br_lt_t, ↓br_lt_f, ↓br_eq_t, ↓br_eq_f, ↓br_lz_t, ↓br_lz_f, ↓br_ez_t, ↓br_ez_f, ↓br_gz_t, ↓br_gz_f, jw_id, jin_t, jix_t, ↓ite_t, ↓ite_f, a1, a2, a3, a4, hc.s, q4, k93, ec, e1, e2, e3, x12, x14, x22, x25, y105, y107, y109]
      rfl
    have x4 : rn 59 (64, [(0, jvr 104), (1, jvr 84), (2, .inl (K : Int)), (3, .inl (K : Int))], [], u4) = rn 59 (72, (0, jvr 104) :: (1, jvr 84) :: (2, .inl (K : Int)) :: (3, .inl (gBk H 0)) :: (4, .inl ((0 : Nat) : Int)) :: [], [], u4) := by
      have b0 : gBk H 0 = H 0 13 := rfl
      rw [b0, p59_64]
      simp (disch := omega) only [p59_0, p59_1, p59_4, p59_7, p59_8, p59_9, p59_12, p59_13, p59_16, p59_17, p59_20, p59_21, p59_24, p59_25, p59_28, p59_29, p59_32, p59_33, p59_35, p59_36, p59_39, p59_40, p59_43, p59_44, p59_47, p59_50, p59_51, p59_54, p59_55, p59_58, p59_61, p59_65, p59_68, p59_69, p59_70, p59_74, p59_75, p59_78, p59_79, p59_80, p59_81, p59_83, p59_84, p59_86, p59_87, p59_90, p59_92, p59_93, p59_94, p59_97, p59_98, p59_99, p59_100, p59_103, p59_104, p59_105, p59_106, p59_107, p59_110, p59_111, p59_112, p59_115, p59_117, p59_118, p59_120, p59_123, p59_124, p59_127, p59_129, p59_130, p59_131, p59_134, p59_136, p59_137, p59_140, p59_143, p59_144, p59_147, p59_149, p59_150, p59_151, p59_154, p59_156, p59_157, p59_160, p59_163, p59_164, p59_167, p59_169, p59_170, p59_171, p59_174, p59_176, p59_177, p59_180, p59_183, p59_186, p59_190, p59_194, p59_195, p59_198, p59_201, p59_204, p59_205, p59_208, p59_209, p59_212, p59_214, p59_215, p59_218, p59_221, p59_224, p59_228, p59_229, p59_232, p59_233, p59_234, p59_237, p59_238, p59_239, p59_242, p59_245, p59_246, p59_247, p59_250, p59_253, p59_254, p59_255, p59_258, p59_259, p59_260, p59_263, p59_264, p59_265, p59_268, p59_269, p59_270, p59_273, p59_276, jwd_c, jwd_0, Nat.reduceLeDiff, Nat.reduceEqDiff, Nat.reduceAdd, Nat.reduceSub, Nat.reduceMul, Int.reduceAdd, Int.reduceSub, Int.reduceMul, Int.reduceNeg, Int.reduceEq, Int.reduceLT, Int.reduceLE, jq_ldi_i, jq_ldl_l, jq_lda_a, jq_inc_i, jq_gs_t, jq_gsb_t, jq_gb_t, jq_gr_2, jq_gr_4, jq_gw_2, jq_s_t, jq_b_t, jg_c, jg_n, js_c, js_n, jrm_c, jrm_n, j2_i, j2_l, j2_a, jq_c_i, jq_c_l, jq_c_0, jq_c_n, jwd_le, jw_c0, mS_I, mS_R, mS_J, mN_I, mN_R, mN_J, mR_I, mI_R, mJ_I, mJ_R, mI_J, mR_J, ↓reduceIte, decide_true, or_true, true_or, and_self, false_or, or_false, reduceCtorEq, Bool.false_eq_true, and_false, false_and, eq_self, true_and, and_true, zero_ne, ↓br_lt_t, ↓br_lt_f, ↓br_eq_t, ↓br_eq_f, ↓br_lz_t, ↓br_lz_f, ↓br_ez_t, ↓br_ez_f, ↓br_gz_t, ↓br_gz_f, jw_id, jin_t, jix_t, ↓ite_t, ↓ite_f, x41.s, f13]
      rfl
    have x5 : rn 59 (189, (0, jvr 104) :: (1, jvr 84) :: (2, .inl (K : Int)) :: (3, .inl (gBk H K)) :: (4, .inl (K : Int)) :: lv, [], u5) = rn 59 (192, (0, jvr 104) :: (1, jvr 84) :: (2, .inl (K : Int)) :: (3, .inl (gBk H K)) :: (4, .inl ((0 : Nat) : Int)) :: lv, [], u5) := by
      rw [p59_189]
      simp (disch := omega) only [p59_0, p59_1, p59_4, p59_7, p59_8, p59_9, p59_12, p59_13, p59_16, p59_17, p59_20, p59_21, p59_24, p59_25, p59_28, p59_29, p59_32, p59_33, p59_35, p59_36, p59_39, p59_40, p59_43, p59_44, p59_47, p59_50, p59_51, p59_54, p59_55, p59_58, p59_61, p59_65, p59_68, p59_69, p59_70, p59_74, p59_75, p59_78, p59_79, p59_80, p59_81, p59_83, p59_84, p59_86, p59_87, p59_90, p59_92, p59_93, p59_94, p59_97, p59_98, p59_99, p59_100, p59_103, p59_104, p59_105, p59_106, p59_107, p59_110, p59_111, p59_112, p59_115, p59_117, p59_118, p59_120, p59_123, p59_124, p59_127, p59_129, p59_130, p59_131, p59_134, p59_136, p59_137, p59_140, p59_143, p59_144, p59_147, p59_149, p59_150, p59_151, p59_154, p59_156, p59_157, p59_160, p59_163, p59_164, p59_167, p59_169, p59_170, p59_171, p59_174, p59_176, p59_177, p59_180, p59_183, p59_186, p59_190, p59_194, p59_195, p59_198, p59_201, p59_204, p59_205, p59_208, p59_209, p59_212, p59_214, p59_215, p59_218, p59_221, p59_224, p59_228, p59_229, p59_232, p59_233, p59_234, p59_237, p59_238, p59_239, p59_242, p59_245, p59_246, p59_247, p59_250, p59_253, p59_254, p59_255, p59_258, p59_259, p59_260, p59_263, p59_264, p59_265, p59_268, p59_269, p59_270, p59_273, p59_276, jwd_c, jwd_0, Nat.reduceLeDiff, Nat.reduceEqDiff, Nat.reduceAdd, Nat.reduceSub, Nat.reduceMul, Int.reduceAdd, Int.reduceSub, Int.reduceMul, Int.reduceNeg, Int.reduceEq, Int.reduceLT, Int.reduceLE, jq_ldi_i, jq_ldl_l, jq_lda_a, jq_inc_i, jq_gs_t, jq_gsb_t, jq_gb_t, jq_gr_2, jq_gr_4, jq_gw_2, jq_s_t, jq_b_t, jg_c, jg_n, js_c, js_n, jrm_c, jrm_n, j2_i, j2_l, j2_a, jq_c_i, jq_c_l, jq_c_0, jq_c_n, jwd_le, jw_c0, mS_I, mS_R, mS_J, mN_I, mN_R, mN_J, mR_I, mI_R, mJ_I, mJ_R, mI_J, mR_J, ↓reduceIte, decide_true, or_true, true_or, and_self, false_or, or_false, reduceCtorEq, Bool.false_eq_true, and_false, false_and, eq_self, true_and, and_true, zero_ne, ↓br_lt_t, ↓br_lt_f, ↓br_eq_t, ↓br_eq_f, ↓br_lz_t, ↓br_lz_f, ↓br_ez_t, ↓br_ez_f, ↓br_gz_t, ↓br_gz_f, jw_id, jin_t, jix_t, ↓ite_t, ↓ite_f, hlv]
      rfl
    rw [x0, e4, x4, e5, x5, e6, p59_227, hv]
    simp (disch := omega) only [p59_0, p59_1, p59_4, p59_7, p59_8, p59_9, p59_12, p59_13, p59_16, p59_17, p59_20, p59_21, p59_24, p59_25, p59_28, p59_29, p59_32, p59_33, p59_35, p59_36, p59_39, p59_40, p59_43, p59_44, p59_47, p59_50, p59_51, p59_54, p59_55, p59_58, p59_61, p59_65, p59_68, p59_69, p59_70, p59_74, p59_75, p59_78, p59_79, p59_80, p59_81, p59_83, p59_84, p59_86, p59_87, p59_90, p59_92, p59_93, p59_94, p59_97, p59_98, p59_99, p59_100, p59_103, p59_104, p59_105, p59_106, p59_107, p59_110, p59_111, p59_112, p59_115, p59_117, p59_118, p59_120, p59_123, p59_124, p59_127, p59_129, p59_130, p59_131, p59_134, p59_136, p59_137, p59_140, p59_143, p59_144, p59_147, p59_149, p59_150, p59_151, p59_154, p59_156, p59_157, p59_160, p59_163, p59_164, p59_167, p59_169, p59_170, p59_171, p59_174, p59_176, p59_177, p59_180, p59_183, p59_186, p59_190, p59_194, p59_195, p59_198, p59_201, p59_204, p59_205, p59_208, p59_209, p59_212, p59_214, p59_215, p59_218, p59_221, p59_224, p59_228, p59_229, p59_232, p59_233, p59_234, p59_237, p59_238, p59_239, p59_242, p59_245, p59_246, p59_247, p59_250, p59_253, p59_254, p59_255, p59_258, p59_259, p59_260, p59_263, p59_264, p59_265, p59_268, p59_269, p59_270, p59_273, p59_276, jwd_c, jwd_0, Nat.reduceLeDiff, Nat.reduceEqDiff, Nat.reduceAdd, Nat.reduceSub, Nat.reduceMul, Int.reduceAdd, Int.reduceSub, Int.reduceMul, Int.reduceNeg, Int.reduceEq, Int.reduceLT, Int.reduceLE, jq_ldi_i, jq_ldl_l, jq_lda_a, jq_inc_i, jq_gs_t, jq_gsb_t, jq_gb_t, jq_gr_2, jq_gr_4, jq_gw_2, jq_s_t, jq_b_t, jg_c, jg_n, js_c, js_n, jrm_c, jrm_n, j2_i, j2_l, j2_a, jq_c_i, jq_c_l, jq_c_0, jq_c_n, jwd_le, jw_c0, mS_I, mS_R, mS_J, mN_I, mN_R, mN_J, mR_I, mI_R, mJ_I, mJ_R, mI_J, mR_J, ↓reduceIte, decide_true, or_true, true_or, and_self, false_or, or_false, reduceCtorEq, Bool.false_eq_true, and_false, false_and, eq_self, true_and, and_true, zero_ne, ↓br_lt_t, ↓br_lt_f, ↓br_eq_t, ↓br_eq_f, ↓br_lz_t, ↓br_lz_f, ↓br_ez_t, ↓br_ez_f, ↓br_gz_t, ↓br_gz_f, jw_id, jin_t, jix_t, ↓ite_t, ↓ite_f, x62, x61.s, mI_nb, mI_nk, mI_s, g15, g17, g12, hK]
  · rw [ov]
    obtain ⟨n1, n2, n3, n4, n5, n6, n7, n8, n9, n10⟩ := s0_n (H := H)
    refine ⟨by rw [es]; exact E6.2.1, by rw [ev]; exact E6.2.2.1, by rw [ev]; exact E6.2.2.2.1, by rw [ev]; exact E6.2.2.2.2, ?_, ?_, ?_, by rw [i3, n7], by rw [i4, n8], by rw [i5, n4], by rw [i6, n5], by rw [i7, n6], by rw [i8, n3], i9, by rw [i10, n9]⟩
    · rw [n1, show (H 0 4).toNat = K by omega]
      refine d1'.mk2 (fun i j hi hj => ?_)
      have := s0_w (H := H) (k := (i : Int)) (by omega) (by omega)
      rw [Int.toNat_natCast, if_pos (by omega)] at this
      rw [this]
      unfold gWy
      rw [if_pos (by omega), show (H 0 4 - 1 - (i : Int)).toNat = K - 1 - i by omega]
    · rw [n2, show (H 0 4).toNat = K by omega]
      refine d2'.mk2 (fun i j hi hj => ?_)
      obtain ⟨z1, z2, z3, z4, z5⟩ := s0_a (H := H) (i := (i : Int)) (by omega) (by omega) (by omega)
      rw [Int.toNat_natCast] at z3 z4 z5
      unfold gCr
      have hj5 : j = 0 ∨ j = 1 ∨ j = 2 ∨ j = 3 ∨ j = 4 := by omega
      rcases hj5 with rfl | rfl | rfl | rfl | rfl
      · rw [if_pos rfl, show 204 + 16 * 0 + i = (204 + (i : Int)).toNat by omega, z1]
      · rw [if_neg (by omega), if_pos hi, if_pos rfl, show 204 + 16 * 1 + i = (220 + (i : Int)).toNat by omega, z2]
        omega
      · rw [if_neg (by omega), if_pos hi, if_neg (by omega), if_pos rfl, show 204 + 16 * 2 + i = (236 + (i : Int)).toNat by omega, z3]
      · rw [if_neg (by omega), if_pos hi, if_neg (by omega), if_neg (by omega), if_pos rfl, show 204 + 16 * 3 + i = (252 + (i : Int)).toNat by omega, z4]
      · rw [if_neg (by omega), if_pos hi, if_neg (by omega), if_neg (by omega), if_neg (by omega), show 204 + 16 * 4 + i = (268 + (i : Int)).toNat by omega, z5]
    · refine d3'.mk2 (fun i j hi hj => ?_)
      have := s0_t (H := H) (t := (i : Int)) (by omega) (by omega)
      rw [Int.toNat_natCast, if_pos (by omega)] at this
      rw [← this, show 284 + i = (284 + (i : Int)).toNat by omega]
  · have h1 : ∀ {a b : jmW}, Fr (fun b => 105 ≤ b ∧ b ≤ 110) a b → Fr (fun b => 104 ≤ b ∧ b ≤ 110) a b := fun f => f.mo (fun b hb => by omega)
    exact (((((h1 g1).tr (h1 g2)).tr (h1 g3)).tr (h1 (e8_en g4))).tr (h1 (e8_en g5))).tr (h1 (f6.mo (sP_en (by omega) (by omega)))) |>.tr (fv.mo (fun b hb => by omega))
end ENTER
