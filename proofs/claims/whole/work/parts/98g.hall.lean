/-! The reader: how a hall changes; how each line begins, in the model. -/
def lnP (h : Nat) : Nat → Prop := fun b => b = 238 ∨ b = 240 ∨ (h ≤ b ∧ b ≤ h + 16)
def Fln (h : Nat) (w u : jmW) : Prop := Fr (lnP h) w u ∧ mR u = mR w ∧ ∀ k, (k < 8 ∨ 16 ≤ k) → mI u 238 k = mI w 238 k
/-- what a line's coming leaves -/
def gCom (T : Nat → Int) (n : Nat) (H : Nat → Nat → Int) (l : Int) (p : Nat) : gSg := if gFa H l = 0 then .inl (tE T n p) else .inr (gFa H l, (tS T n p : Int))
section HALLM
variable {w u v : jmW} {T : Nat → Int} {n h : Nat} {H H2 : Nat → Nat → Int} {s s2 : gSg}
theorem Fln.rf : Fln h w w := ⟨Fr.rf _ _, rfl, fun _ _ => rfl⟩
theorem Fln.tr (a : Fln h w u) (b : Fln h u v) : Fln h w v := ⟨a.1.tr b.1, b.2.1.trans a.2.1, fun k hk => (b.2.2 k hk).trans (a.2.2 k hk)⟩
theorem Ftk.ln (f : Ftk w u) : Fln h w u := ⟨f.1.mo (fun b hb => by unfold tkP at hb; unfold lnP; omega), f.2.1, f.2.2⟩
theorem Fln.hal {k b : Nat} {x : Int} (hb : h ≤ b ∧ b ≤ h + 16) (h2 : 252 ≤ h) : Fln h w (setI w b k x) := ⟨Fr.I (Or.inr (Or.inr hb)), rfl, fun j hj => by rw [mI_nb (by omega)]⟩
theorem Fln.haj {k b : Nat} {x : Int} (hb : h ≤ b ∧ b ≤ h + 16) (h2 : 252 ≤ h) : Fln h w (setJ w b k x) := ⟨Fr.J (Or.inr (Or.inr hb)), rfl, fun j hj => rfl⟩
theorem MH.num (g : MH w h H) : ∀ j, j ≤ 16 → mI w h j = H 0 j := by
  intro j hj
  have : j = 0 ∨ j = 1 ∨ j = 2 ∨ j = 3 ∨ j = 4 ∨ j = 5 ∨ j = 6 ∨ j = 7 ∨ j = 8 ∨ j = 9 ∨ j = 10 ∨ j = 11 ∨ j = 12 ∨ j = 13 ∨ j = 14 ∨ j = 15 ∨ j = 16 := by omega
  rcases this with rfl | rfl | rfl | rfl | rfl | rfl | rfl | rfl | rfl | rfl | rfl | rfl | rfl | rfl | rfl | rfl | rfl
  · exact g.f0
  · exact g.f1
  · exact g.f2
  · exact g.f3
  · exact g.f4
  · exact g.f5
  · exact g.f6
  · exact g.f7
  · exact g.f8
  · exact g.f9
  · exact g.f10
  · exact g.f11
  · exact g.f12
  · exact g.f13
  · exact g.f14
  · exact g.f15
  · exact g.f16
theorem MH.arr (g : MH w h H) : ∀ i, 1 ≤ i → i ≤ 15 → mI w (h + i) = H (16 + i) := by
  intro i h1 h2
  have : i = 1 ∨ i = 2 ∨ i = 3 ∨ i = 4 ∨ i = 5 ∨ i = 6 ∨ i = 7 ∨ i = 8 ∨ i = 9 ∨ i = 10 ∨ i = 11 ∨ i = 12 ∨ i = 13 ∨ i = 14 ∨ i = 15 := by omega
  rcases this with rfl | rfl | rfl | rfl | rfl | rfl | rfl | rfl | rfl | rfl | rfl | rfl | rfl | rfl | rfl
  · exact g.a1
  · exact g.a2
  · exact g.a3
  · exact g.a4
  · exact g.a5
  · exact g.a6
  · exact g.a7
  · exact g.a8
  · exact g.a9
  · exact g.a10
  · exact g.a11
  · exact g.a12
  · exact g.a13
  · exact g.a14
  · exact g.a15
theorem MH.re (g : MH w h H) (e1 : mS u = mS w) (e2 : mR u = mR w) (hn : ∀ j, j ≤ 16 → mI u h j = H2 0 j) (ha : ∀ i, 1 ≤ i → i ≤ 15 → mI u (h + i) = H2 (16 + i)) : MH u h H2 := by
  have ge := g.ge
  unfold MH at g ⊢
  rw [e1, e2]
  obtain ⟨s0, s1, s2, s3, s4, s5, s6, s7, s8, s9, s10, s11, s12, s13, s14, s15, r1, r2, r3, r4, r5, r6, r7, r8, r9, r10, r11, r12, r13, r14, r15, -⟩ := g
  exact ⟨s0, s1, s2, s3, s4, s5, s6, s7, s8, s9, s10, s11, s12, s13, s14, s15, r1, r2, r3, r4, r5, r6, r7, r8, r9, r10, r11, r12, r13, r14, r15, hn 0 (by omega), hn 1 (by omega), hn 2 (by omega), hn 3 (by omega), hn 4 (by omega), hn 5 (by omega), hn 6 (by omega), hn 7 (by omega), hn 8 (by omega), hn 9 (by omega), hn 10 (by omega), hn 11 (by omega), hn 12 (by omega), hn 13 (by omega), hn 14 (by omega), hn 15 (by omega), hn 16 (by omega), ha 1 (by omega) (by omega), ha 2 (by omega) (by omega), ha 3 (by omega) (by omega), ha 4 (by omega) (by omega), ha 5 (by omega) (by omega), ha 6 (by omega) (by omega), ha 7 (by omega) (by omega), ha 8 (by omega) (by omega), ha 9 (by omega) (by omega), ha 10 (by omega) (by omega), ha 11 (by omega) (by omega), ha 12 (by omega) (by omega), ha 13 (by omega) (by omega), ha 14 (by omega) (by omega), ha 15 (by omega) (by omega), ge⟩
/-- the hall's own cells changed alone -/
theorem MS.re (M : MS w T n h H s) (f : Fr (fun b => h ≤ b ∧ b ≤ h + 16) w u) (r : mR u = mR w) (hn : ∀ j, j ≤ 16 → mI u h j = H2 0 j) (ha : ∀ i, 1 ≤ i → i ≤ 15 → mI u (h + i) = H2 (16 + i)) (hJ : mJ u (h + 16) = H2 99) : MS u T n h H2 s := by
  obtain ⟨m1, m2, m3, m4, ⟨m5, m6, m7⟩, m8, m9⟩ := M
  have ge := m2.ge
  have i238 := f.Iq (b := 238) (by omega)
  have i240 := f.Iq (b := 240) (by omega)
  have i239 := f.Iq (b := 239) (by omega)
  have j238 := (f.2.2.2 238 (by omega)).2.2
  refine ⟨m1.frR f.q r, m2.re f.q r hn ha, by rw [r]; exact m3, ?_, ⟨by rw [f.q]; exact m5, by rw [r]; exact m6, hJ⟩, m8.fr f, ?_⟩
  · obtain ⟨t1, t2, t3, t4, t5, t6, t7, t8, t9⟩ := m4
    exact ⟨by rw [f.q]; exact t1, by rw [f.q]; exact t2, by rw [f.q]; exact t3, by rw [r]; exact t4, by rw [r]; exact t5, by rw [i238]; exact t6, t7, by rw [i239]; exact t8, t9⟩
  · cases s with
    | inl p =>
      obtain ⟨k1, k2, k3, k4, k5, k6, k7, k8⟩ := m9
      exact ⟨k1, by rw [i238]; exact k2, by rw [i238]; exact k3, by rw [i238]; exact k4, by rw [i238]; exact k5, by rw [i238]; exact k6, by rw [i238, j238, i240]; exact k7, by rw [i238]; exact k8⟩
    | inr x =>
      obtain ⟨k1, k2, k3⟩ := m9
      exact ⟨by rw [i238]; exact k1, by rw [i238]; exact k2, by rw [i238]; exact k3⟩
theorem MS.num (M : MS w T n h H s) {k : Nat} {x : Int} : MS (setI w h k x) T n h (uH H 0 k x) s := by
  have g := M.2.1
  have ge := g.ge
  refine M.re (Fr.I ⟨by omega, by omega⟩) rfl (fun j hj => ?_) (fun i h1 h2 => ?_) ?_
  · by_cases z : j = k
    · rw [z, mI_s, uH_s]
    · rw [mI_nk z, uH_n (Or.inr z)]
      exact g.num j hj
  · rw [mI_nb (by omega), g.arr i h1 h2]
    funext j
    rw [uH_n (Or.inl (by omega))]
  · have e : mJ w (h + 16) = H 99 := M.2.2.2.2.1.2.2
    rw [mJ_I, e]
    funext j
    rw [uH_n (Or.inl (by omega))]
theorem MS.arr (M : MS w T n h H s) {i k : Nat} {x : Int} (h1 : 1 ≤ i) (h2 : i ≤ 15) : MS (setI w (h + i) k x) T n h (uH H (16 + i) k x) s := by
  have g := M.2.1
  have ge := g.ge
  refine M.re (Fr.I ⟨by omega, by omega⟩) rfl (fun j hj => ?_) (fun m g1 g2 => ?_) ?_
  · rw [mI_nb (by omega), uH_n (Or.inl (by omega))]
    exact g.num j hj
  · by_cases z : m = i
    · funext j
      by_cases y : j = k
      · rw [z, y, mI_s, uH_s]
      · rw [z, mI_nk y, uH_n (Or.inr y), g.arr i h1 h2]
    · rw [mI_nb (by omega), g.arr m g1 g2]
      funext j
      rw [uH_n (Or.inl (by omega))]
  · have e : mJ w (h + 16) = H 99 := M.2.2.2.2.1.2.2
    rw [mJ_I, e]
    funext j
    rw [uH_n (Or.inl (by omega))]
theorem MS.nam (M : MS w T n h H s) {k : Nat} {x : Int} : MS (setJ w (h + 16) k x) T n h (uH H 99 k x) s := by
  have g := M.2.1
  have ge := g.ge
  refine M.re (Fr.J ⟨by omega, by omega⟩) rfl (fun j hj => ?_) (fun m g1 g2 => ?_) ?_
  · rw [mI_J, uH_n (Or.inl (by omega))]
    exact g.num j hj
  · rw [mI_J, g.arr m g1 g2]
    funext j
    rw [uH_n (Or.inl (by omega))]
  · have e : mJ w (h + 16) = H 99 := M.2.2.2.2.1.2.2
    funext j
    by_cases z : j = k
    · rw [z, mJ_s, uH_s]
    · rw [mJ_nk z, uH_n (Or.inr z), e]
theorem MS.ex (M : MS w T n h H s) (e : ∀ a b, (a = 0 ∧ b ≤ 16) ∨ (17 ≤ a ∧ a ≤ 31) ∨ a = 99 → H2 a b = H a b) : MS w T n h H2 s := by
  have g := M.2.1
  refine M.re (Fr.rf _ _) rfl (fun j hj => ?_) (fun m g1 g2 => ?_) ?_
  · rw [e 0 j (by omega)]
    exact g.num j hj
  · rw [g.arr m g1 g2]
    funext j
    rw [e (16 + m) j (by omega)]
  · have e9 : mJ w (h + 16) = H 99 := M.2.2.2.2.1.2.2
    rw [e9]
    funext j
    rw [e 99 j (by omega)]
theorem uH_sw {i j k l : Nat} {x y : Int} (z : i ≠ k ∨ j ≠ l) : uH (uH H i j x) k l y = uH (uH H k l y) i j x := by
  funext a b
  by_cases e1 : a = k ∧ b = l
  · obtain ⟨rfl, rfl⟩ := e1
    rw [uH_s, uH_n (by omega), uH_s]
  · rw [uH_n (by omega)]
    by_cases e2 : a = i ∧ b = j
    · obtain ⟨rfl, rfl⟩ := e2
      rw [uH_s, uH_s]
    · rw [uH_n (by omega), uH_n (by omega), uH_n (by omega)]
/-- what else the model asks -/
theorem HI.hp (hi : HI H) : H 0 10 ≠ -1 ∧ H 0 12 ≠ -1 ∧ H 0 13 ≠ -1 ∧ (0 ≤ H 0 13 → 0 < H 0 0 ∧ H 0 2 = H 0 1) := by
  rcases hi with rfl | hj
  · refine ⟨by decide, by decide, by decide, fun z => absurd z (by decide)⟩
  · obtain ⟨h1, h2, h3, h4, h5, h6, h7, h8, h9, h10, h11⟩ := hj
    have k := h1.2.1
    exact ⟨h3.2.1, h3.2.2.2.2.2.2.2.1, h3.2.2.2.2.2.2.2.2.2.2.1, fun z => ⟨by omega, (h11 z).2.1⟩⟩
end HALLM
section BEGM
variable {w u : jmW} {T : Nat → Int} {n h p : Nat} {H : Nat → Nat → Int}
theorem mb_1 (M : MS w T n h H (.inl p)) (hi : HI H) (k1 : tK T n p = 1) : ∃ u, rn 193 (0, [(0, jvr 238)], [], w) = rn 193 (54, [(0, jvr 238)], [], u) ∧ MS u T n h H (gCom T n H 1 p) ∧ Ftk w u := by
  obtain ⟨n1, n2, n3, n4⟩ := hi.hn
  obtain ⟨q1, q2, q3, q4⟩ := hi.hp
  have hge := M.ge
  by_cases zA : 0 < H 0 0
  · by_cases zB : H 0 2 = H 0 1
    · by_cases zC : H 0 13 = -2
      · obtain ⟨u, e, M1, f⟩ := ms_begins M k1 (a := 0) (b := 1) (c := 0) (by omega) (by omega) (by omega) (by omega)
        have eb : gBg 0 1 0 (H 0 0) = gFa H 1 := by
          rw [fa_1]
          unfold gBg gLk
          (repeat' split) <;> omega
        rw [eb] at M1
        refine ⟨u, ?_, M1, f⟩
        simp (disch := omega) only [p193_0, p193_1, p193_2, p193_3, p193_6, p193_9, p193_12, p193_13, p193_16, p193_19, p193_20, p193_23, p193_26, p193_29, p193_30, p193_33, p193_34, p193_35, p193_38, p193_41, p193_43, p193_46, p193_47, p193_50, p193_51, p193_55, p193_58, p193_59, p193_62, p193_63, p193_64, p193_67, p193_68, p193_71, p193_72, p193_75, p193_76, p193_77, p193_80, p193_81, p193_84, p193_87, p193_90, p193_91, p193_93, p193_96, p193_97, p193_99, p193_100, p193_103, p193_106, p193_109, p193_110, p193_113, p193_114, p193_117, p193_118, p193_121, p193_122, p193_123, p193_125, p193_128, p193_129, p193_132, p193_133, p193_136, p193_137, p193_138, p193_140, p193_143, p193_144, p193_147, p193_148, p193_151, p193_152, p193_153, p193_155, p193_158, p193_159, p193_162, p193_163, p193_164, p193_165, p193_166, p193_169, p193_170, p193_172, p193_175, p193_178, p193_179, p193_182, p193_185, p193_186, p193_189, p193_192, p193_193, p193_196, p193_199, p193_200, p193_201, p193_202, p193_203, p193_204, p193_207, p193_210, p193_211, p193_214, p193_215, p193_218, p193_219, p193_222, p193_223, p193_226i, p193_226a, p193_227, p193_230, p193_231, p193_232, p193_235, jwd_c, jwd_0, Nat.reduceLeDiff, Nat.reduceEqDiff, Nat.reduceAdd, Nat.reduceSub, Nat.reduceMul, Int.reduceAdd, Int.reduceSub, Int.reduceMul, Int.reduceNeg, Int.reduceEq, Int.reduceLT, Int.reduceLE, jq_ldi_i, jq_ldl_l, jq_lda_a, jq_inc_i, jq_gs_t, jq_gsb_t, jq_gb_t, jq_gr_2, jq_gr_4, jq_gw_2, jq_s_t, jq_b_t, jg_c, jg_n, js_c, js_n, jrm_c, jrm_n, j2_i, j2_l, j2_a, jq_c_i, jq_c_l, jq_c_0, jq_c_n, jwd_le, jw_c0, mS_I, mS_R, mS_J, mN_I, mN_R, mN_J, mR_I, mI_R, mJ_I, mJ_R, mI_J, mR_J, ↓reduceIte, decide_true, or_true, true_or, and_self, false_or, or_false, reduceCtorEq, Bool.false_eq_true, and_false, false_and, eq_self, true_and, and_true, zero_ne, ↓br_lt_t, ↓br_lt_f, ↓br_eq_t, ↓br_eq_f, ↓br_lz_t, ↓br_lz_f, ↓br_ez_t, ↓br_ez_f, ↓br_gz_t, ↓br_gz_f, jw_id, jin_t, jix_t, ↓ite_t, ↓ite_f, MS.a M, MS.r4 M, MS.b M, MS.f0 M, MS.f1 M, MS.f2 M, MS.f3 M, MS.f4 M, MS.f5 M, MS.f6 M, MS.f7 M, MS.f8 M, MS.f10 M, MS.f12 M, MS.f13 M, e]
      · obtain ⟨u, e, M1, f⟩ := ms_begins M k1 (a := 0) (b := 1) (c := 1) (by omega) (by omega) (by omega) (by omega)
        have eb : gBg 0 1 1 (H 0 0) = gFa H 1 := by
          rw [fa_1]
          unfold gBg gLk
          (repeat' split) <;> omega
        rw [eb] at M1
        refine ⟨u, ?_, M1, f⟩
        simp (disch := omega) only [p193_0, p193_1, p193_2, p193_3, p193_6, p193_9, p193_12, p193_13, p193_16, p193_19, p193_20, p193_23, p193_26, p193_29, p193_30, p193_33, p193_34, p193_35, p193_38, p193_41, p193_43, p193_46, p193_47, p193_50, p193_51, p193_55, p193_58, p193_59, p193_62, p193_63, p193_64, p193_67, p193_68, p193_71, p193_72, p193_75, p193_76, p193_77, p193_80, p193_81, p193_84, p193_87, p193_90, p193_91, p193_93, p193_96, p193_97, p193_99, p193_100, p193_103, p193_106, p193_109, p193_110, p193_113, p193_114, p193_117, p193_118, p193_121, p193_122, p193_123, p193_125, p193_128, p193_129, p193_132, p193_133, p193_136, p193_137, p193_138, p193_140, p193_143, p193_144, p193_147, p193_148, p193_151, p193_152, p193_153, p193_155, p193_158, p193_159, p193_162, p193_163, p193_164, p193_165, p193_166, p193_169, p193_170, p193_172, p193_175, p193_178, p193_179, p193_182, p193_185, p193_186, p193_189, p193_192, p193_193, p193_196, p193_199, p193_200, p193_201, p193_202, p193_203, p193_204, p193_207, p193_210, p193_211, p193_214, p193_215, p193_218, p193_219, p193_222, p193_223, p193_226i, p193_226a, p193_227, p193_230, p193_231, p193_232, p193_235, jwd_c, jwd_0, Nat.reduceLeDiff, Nat.reduceEqDiff, Nat.reduceAdd, Nat.reduceSub, Nat.reduceMul, Int.reduceAdd, Int.reduceSub, Int.reduceMul, Int.reduceNeg, Int.reduceEq, Int.reduceLT, Int.reduceLE, jq_ldi_i, jq_ldl_l, jq_lda_a, jq_inc_i, jq_gs_t, jq_gsb_t, jq_gb_t, jq_gr_2, jq_gr_4, jq_gw_2, jq_s_t, jq_b_t, jg_c, jg_n, js_c, js_n, jrm_c, jrm_n, j2_i, j2_l, j2_a, jq_c_i, jq_c_l, jq_c_0, jq_c_n, jwd_le, jw_c0, mS_I, mS_R, mS_J, mN_I, mN_R, mN_J, mR_I, mI_R, mJ_I, mJ_R, mI_J, mR_J, ↓reduceIte, decide_true, or_true, true_or, and_self, false_or, or_false, reduceCtorEq, Bool.false_eq_true, and_false, false_and, eq_self, true_and, and_true, zero_ne, ↓br_lt_t, ↓br_lt_f, ↓br_eq_t, ↓br_eq_f, ↓br_lz_t, ↓br_lz_f, ↓br_ez_t, ↓br_ez_f, ↓br_gz_t, ↓br_gz_f, jw_id, jin_t, jix_t, ↓ite_t, ↓ite_f, MS.a M, MS.r4 M, MS.b M, MS.f0 M, MS.f1 M, MS.f2 M, MS.f3 M, MS.f4 M, MS.f5 M, MS.f6 M, MS.f7 M, MS.f8 M, MS.f10 M, MS.f12 M, MS.f13 M, e]
    · by_cases zC : H 0 13 = -2
      · obtain ⟨u, e, M1, f⟩ := ms_begins M k1 (a := 0) (b := 0) (c := 0) (by omega) (by omega) (by omega) (by omega)
        have eb : gBg 0 0 0 (H 0 0) = gFa H 1 := by
          rw [fa_1]
          unfold gBg gLk
          (repeat' split) <;> omega
        rw [eb] at M1
        refine ⟨u, ?_, M1, f⟩
        simp (disch := omega) only [p193_0, p193_1, p193_2, p193_3, p193_6, p193_9, p193_12, p193_13, p193_16, p193_19, p193_20, p193_23, p193_26, p193_29, p193_30, p193_33, p193_34, p193_35, p193_38, p193_41, p193_43, p193_46, p193_47, p193_50, p193_51, p193_55, p193_58, p193_59, p193_62, p193_63, p193_64, p193_67, p193_68, p193_71, p193_72, p193_75, p193_76, p193_77, p193_80, p193_81, p193_84, p193_87, p193_90, p193_91, p193_93, p193_96, p193_97, p193_99, p193_100, p193_103, p193_106, p193_109, p193_110, p193_113, p193_114, p193_117, p193_118, p193_121, p193_122, p193_123, p193_125, p193_128, p193_129, p193_132, p193_133, p193_136, p193_137, p193_138, p193_140, p193_143, p193_144, p193_147, p193_148, p193_151, p193_152, p193_153, p193_155, p193_158, p193_159, p193_162, p193_163, p193_164, p193_165, p193_166, p193_169, p193_170, p193_172, p193_175, p193_178, p193_179, p193_182, p193_185, p193_186, p193_189, p193_192, p193_193, p193_196, p193_199, p193_200, p193_201, p193_202, p193_203, p193_204, p193_207, p193_210, p193_211, p193_214, p193_215, p193_218, p193_219, p193_222, p193_223, p193_226i, p193_226a, p193_227, p193_230, p193_231, p193_232, p193_235, jwd_c, jwd_0, Nat.reduceLeDiff, Nat.reduceEqDiff, Nat.reduceAdd, Nat.reduceSub, Nat.reduceMul, Int.reduceAdd, Int.reduceSub, Int.reduceMul, Int.reduceNeg, Int.reduceEq, Int.reduceLT, Int.reduceLE, jq_ldi_i, jq_ldl_l, jq_lda_a, jq_inc_i, jq_gs_t, jq_gsb_t, jq_gb_t, jq_gr_2, jq_gr_4, jq_gw_2, jq_s_t, jq_b_t, jg_c, jg_n, js_c, js_n, jrm_c, jrm_n, j2_i, j2_l, j2_a, jq_c_i, jq_c_l, jq_c_0, jq_c_n, jwd_le, jw_c0, mS_I, mS_R, mS_J, mN_I, mN_R, mN_J, mR_I, mI_R, mJ_I, mJ_R, mI_J, mR_J, ↓reduceIte, decide_true, or_true, true_or, and_self, false_or, or_false, reduceCtorEq, Bool.false_eq_true, and_false, false_and, eq_self, true_and, and_true, zero_ne, ↓br_lt_t, ↓br_lt_f, ↓br_eq_t, ↓br_eq_f, ↓br_lz_t, ↓br_lz_f, ↓br_ez_t, ↓br_ez_f, ↓br_gz_t, ↓br_gz_f, jw_id, jin_t, jix_t, ↓ite_t, ↓ite_f, MS.a M, MS.r4 M, MS.b M, MS.f0 M, MS.f1 M, MS.f2 M, MS.f3 M, MS.f4 M, MS.f5 M, MS.f6 M, MS.f7 M, MS.f8 M, MS.f10 M, MS.f12 M, MS.f13 M, e]
      · exfalso
        omega
  · by_cases zB : H 0 2 = H 0 1
    · by_cases zC : H 0 13 = -2
      · obtain ⟨u, e, M1, f⟩ := ms_begins M k1 (a := 0) (b := 0) (c := 0) (by omega) (by omega) (by omega) (by omega)
        have eb : gBg 0 0 0 (H 0 0) = gFa H 1 := by
          rw [fa_1]
          unfold gBg gLk
          (repeat' split) <;> omega
        rw [eb] at M1
        refine ⟨u, ?_, M1, f⟩
        simp (disch := omega) only [p193_0, p193_1, p193_2, p193_3, p193_6, p193_9, p193_12, p193_13, p193_16, p193_19, p193_20, p193_23, p193_26, p193_29, p193_30, p193_33, p193_34, p193_35, p193_38, p193_41, p193_43, p193_46, p193_47, p193_50, p193_51, p193_55, p193_58, p193_59, p193_62, p193_63, p193_64, p193_67, p193_68, p193_71, p193_72, p193_75, p193_76, p193_77, p193_80, p193_81, p193_84, p193_87, p193_90, p193_91, p193_93, p193_96, p193_97, p193_99, p193_100, p193_103, p193_106, p193_109, p193_110, p193_113, p193_114, p193_117, p193_118, p193_121, p193_122, p193_123, p193_125, p193_128, p193_129, p193_132, p193_133, p193_136, p193_137, p193_138, p193_140, p193_143, p193_144, p193_147, p193_148, p193_151, p193_152, p193_153, p193_155, p193_158, p193_159, p193_162, p193_163, p193_164, p193_165, p193_166, p193_169, p193_170, p193_172, p193_175, p193_178, p193_179, p193_182, p193_185, p193_186, p193_189, p193_192, p193_193, p193_196, p193_199, p193_200, p193_201, p193_202, p193_203, p193_204, p193_207, p193_210, p193_211, p193_214, p193_215, p193_218, p193_219, p193_222, p193_223, p193_226i, p193_226a, p193_227, p193_230, p193_231, p193_232, p193_235, jwd_c, jwd_0, Nat.reduceLeDiff, Nat.reduceEqDiff, Nat.reduceAdd, Nat.reduceSub, Nat.reduceMul, Int.reduceAdd, Int.reduceSub, Int.reduceMul, Int.reduceNeg, Int.reduceEq, Int.reduceLT, Int.reduceLE, jq_ldi_i, jq_ldl_l, jq_lda_a, jq_inc_i, jq_gs_t, jq_gsb_t, jq_gb_t, jq_gr_2, jq_gr_4, jq_gw_2, jq_s_t, jq_b_t, jg_c, jg_n, js_c, js_n, jrm_c, jrm_n, j2_i, j2_l, j2_a, jq_c_i, jq_c_l, jq_c_0, jq_c_n, jwd_le, jw_c0, mS_I, mS_R, mS_J, mN_I, mN_R, mN_J, mR_I, mI_R, mJ_I, mJ_R, mI_J, mR_J, ↓reduceIte, decide_true, or_true, true_or, and_self, false_or, or_false, reduceCtorEq, Bool.false_eq_true, and_false, false_and, eq_self, true_and, and_true, zero_ne, ↓br_lt_t, ↓br_lt_f, ↓br_eq_t, ↓br_eq_f, ↓br_lz_t, ↓br_lz_f, ↓br_ez_t, ↓br_ez_f, ↓br_gz_t, ↓br_gz_f, jw_id, jin_t, jix_t, ↓ite_t, ↓ite_f, MS.a M, MS.r4 M, MS.b M, MS.f0 M, MS.f1 M, MS.f2 M, MS.f3 M, MS.f4 M, MS.f5 M, MS.f6 M, MS.f7 M, MS.f8 M, MS.f10 M, MS.f12 M, MS.f13 M, e]
      · exfalso
        omega
    · by_cases zC : H 0 13 = -2
      · obtain ⟨u, e, M1, f⟩ := ms_begins M k1 (a := 0) (b := 0) (c := 0) (by omega) (by omega) (by omega) (by omega)
        have eb : gBg 0 0 0 (H 0 0) = gFa H 1 := by
          rw [fa_1]
          unfold gBg gLk
          (repeat' split) <;> omega
        rw [eb] at M1
        refine ⟨u, ?_, M1, f⟩
        simp (disch := omega) only [p193_0, p193_1, p193_2, p193_3, p193_6, p193_9, p193_12, p193_13, p193_16, p193_19, p193_20, p193_23, p193_26, p193_29, p193_30, p193_33, p193_34, p193_35, p193_38, p193_41, p193_43, p193_46, p193_47, p193_50, p193_51, p193_55, p193_58, p193_59, p193_62, p193_63, p193_64, p193_67, p193_68, p193_71, p193_72, p193_75, p193_76, p193_77, p193_80, p193_81, p193_84, p193_87, p193_90, p193_91, p193_93, p193_96, p193_97, p193_99, p193_100, p193_103, p193_106, p193_109, p193_110, p193_113, p193_114, p193_117, p193_118, p193_121, p193_122, p193_123, p193_125, p193_128, p193_129, p193_132, p193_133, p193_136, p193_137, p193_138, p193_140, p193_143, p193_144, p193_147, p193_148, p193_151, p193_152, p193_153, p193_155, p193_158, p193_159, p193_162, p193_163, p193_164, p193_165, p193_166, p193_169, p193_170, p193_172, p193_175, p193_178, p193_179, p193_182, p193_185, p193_186, p193_189, p193_192, p193_193, p193_196, p193_199, p193_200, p193_201, p193_202, p193_203, p193_204, p193_207, p193_210, p193_211, p193_214, p193_215, p193_218, p193_219, p193_222, p193_223, p193_226i, p193_226a, p193_227, p193_230, p193_231, p193_232, p193_235, jwd_c, jwd_0, Nat.reduceLeDiff, Nat.reduceEqDiff, Nat.reduceAdd, Nat.reduceSub, Nat.reduceMul, Int.reduceAdd, Int.reduceSub, Int.reduceMul, Int.reduceNeg, Int.reduceEq, Int.reduceLT, Int.reduceLE, jq_ldi_i, jq_ldl_l, jq_lda_a, jq_inc_i, jq_gs_t, jq_gsb_t, jq_gb_t, jq_gr_2, jq_gr_4, jq_gw_2, jq_s_t, jq_b_t, jg_c, jg_n, js_c, js_n, jrm_c, jrm_n, j2_i, j2_l, j2_a, jq_c_i, jq_c_l, jq_c_0, jq_c_n, jwd_le, jw_c0, mS_I, mS_R, mS_J, mN_I, mN_R, mN_J, mR_I, mI_R, mJ_I, mJ_R, mI_J, mR_J, ↓reduceIte, decide_true, or_true, true_or, and_self, false_or, or_false, reduceCtorEq, Bool.false_eq_true, and_false, false_and, eq_self, true_and, and_true, zero_ne, ↓br_lt_t, ↓br_lt_f, ↓br_eq_t, ↓br_eq_f, ↓br_lz_t, ↓br_lz_f, ↓br_ez_t, ↓br_ez_f, ↓br_gz_t, ↓br_gz_f, jw_id, jin_t, jix_t, ↓ite_t, ↓ite_f, MS.a M, MS.r4 M, MS.b M, MS.f0 M, MS.f1 M, MS.f2 M, MS.f3 M, MS.f4 M, MS.f5 M, MS.f6 M, MS.f7 M, MS.f8 M, MS.f10 M, MS.f12 M, MS.f13 M, e]
      · exfalso
        omega
theorem mb_2 (M : MS w T n h H (.inl p)) (hi : HI H) (k1 : tK T n p = 1) : ∃ u, rn 195 (0, [(0, jvr 238)], [], w) = rn 195 (23, [(0, jvr 238)], [], u) ∧ MS u T n h H (gCom T n H 2 p) ∧ Ftk w u := by
  obtain ⟨n1, n2, n3, n4⟩ := hi.hn
  obtain ⟨q1, q2, q3, q4⟩ := hi.hp
  have hge := M.ge
  by_cases zA : H 0 10 = -2
  · obtain ⟨u, e, M1, f⟩ := ms_begins M k1 (a := 0) (b := 0) (c := 0) (by omega) (by omega) (by omega) (by omega)
    have eb : gBg 0 0 0 (H 0 0) = gFa H 2 := by
      rw [fa_2]
      unfold gBg gLk
      (repeat' split) <;> omega
    rw [eb] at M1
    refine ⟨u, ?_, M1, f⟩
    simp (disch := omega) only [p195_0, p195_1, p195_2, p195_5, p195_8, p195_10, p195_13, p195_14, p195_17, p195_18, p195_19, p195_20, p195_24, p195_27, p195_28, p195_29, p195_32, p195_33, p195_36, p195_37, p195_39, p195_42, p195_43, p195_44, p195_47, p195_48, p195_51, p195_52, p195_53, p195_56, p195_57, p195_60, p195_61, p195_64, p195_65, p195_68, jwd_c, jwd_0, Nat.reduceLeDiff, Nat.reduceEqDiff, Nat.reduceAdd, Nat.reduceSub, Nat.reduceMul, Int.reduceAdd, Int.reduceSub, Int.reduceMul, Int.reduceNeg, Int.reduceEq, Int.reduceLT, Int.reduceLE, jq_ldi_i, jq_ldl_l, jq_lda_a, jq_inc_i, jq_gs_t, jq_gsb_t, jq_gb_t, jq_gr_2, jq_gr_4, jq_gw_2, jq_s_t, jq_b_t, jg_c, jg_n, js_c, js_n, jrm_c, jrm_n, j2_i, j2_l, j2_a, jq_c_i, jq_c_l, jq_c_0, jq_c_n, jwd_le, jw_c0, mS_I, mS_R, mS_J, mN_I, mN_R, mN_J, mR_I, mI_R, mJ_I, mJ_R, mI_J, mR_J, ↓reduceIte, decide_true, or_true, true_or, and_self, false_or, or_false, reduceCtorEq, Bool.false_eq_true, and_false, false_and, eq_self, true_and, and_true, zero_ne, ↓br_lt_t, ↓br_lt_f, ↓br_eq_t, ↓br_eq_f, ↓br_lz_t, ↓br_lz_f, ↓br_ez_t, ↓br_ez_f, ↓br_gz_t, ↓br_gz_f, jw_id, jin_t, jix_t, ↓ite_t, ↓ite_f, MS.a M, MS.r4 M, MS.b M, MS.f0 M, MS.f1 M, MS.f2 M, MS.f3 M, MS.f4 M, MS.f5 M, MS.f6 M, MS.f7 M, MS.f8 M, MS.f10 M, MS.f12 M, MS.f13 M, e]
  · obtain ⟨u, e, M1, f⟩ := ms_begins M k1 (a := 1) (b := 0) (c := 0) (by omega) (by omega) (by omega) (by omega)
    have eb : gBg 1 0 0 (H 0 0) = gFa H 2 := by
      rw [fa_2]
      unfold gBg gLk
      (repeat' split) <;> omega
    rw [eb] at M1
    refine ⟨u, ?_, M1, f⟩
    simp (disch := omega) only [p195_0, p195_1, p195_2, p195_5, p195_8, p195_10, p195_13, p195_14, p195_17, p195_18, p195_19, p195_20, p195_24, p195_27, p195_28, p195_29, p195_32, p195_33, p195_36, p195_37, p195_39, p195_42, p195_43, p195_44, p195_47, p195_48, p195_51, p195_52, p195_53, p195_56, p195_57, p195_60, p195_61, p195_64, p195_65, p195_68, jwd_c, jwd_0, Nat.reduceLeDiff, Nat.reduceEqDiff, Nat.reduceAdd, Nat.reduceSub, Nat.reduceMul, Int.reduceAdd, Int.reduceSub, Int.reduceMul, Int.reduceNeg, Int.reduceEq, Int.reduceLT, Int.reduceLE, jq_ldi_i, jq_ldl_l, jq_lda_a, jq_inc_i, jq_gs_t, jq_gsb_t, jq_gb_t, jq_gr_2, jq_gr_4, jq_gw_2, jq_s_t, jq_b_t, jg_c, jg_n, js_c, js_n, jrm_c, jrm_n, j2_i, j2_l, j2_a, jq_c_i, jq_c_l, jq_c_0, jq_c_n, jwd_le, jw_c0, mS_I, mS_R, mS_J, mN_I, mN_R, mN_J, mR_I, mI_R, mJ_I, mJ_R, mI_J, mR_J, ↓reduceIte, decide_true, or_true, true_or, and_self, false_or, or_false, reduceCtorEq, Bool.false_eq_true, and_false, false_and, eq_self, true_and, and_true, zero_ne, ↓br_lt_t, ↓br_lt_f, ↓br_eq_t, ↓br_eq_f, ↓br_lz_t, ↓br_lz_f, ↓br_ez_t, ↓br_ez_f, ↓br_gz_t, ↓br_gz_f, jw_id, jin_t, jix_t, ↓ite_t, ↓ite_f, MS.a M, MS.r4 M, MS.b M, MS.f0 M, MS.f1 M, MS.f2 M, MS.f3 M, MS.f4 M, MS.f5 M, MS.f6 M, MS.f7 M, MS.f8 M, MS.f10 M, MS.f12 M, MS.f13 M, e]
theorem mb_3 (M : MS w T n h H (.inl p)) (hi : HI H) (k1 : tK T n p = 1) : ∃ u, rn 198 (0, [(0, jvr 238)], [], w) = rn 198 (23, [(0, jvr 238)], [], u) ∧ MS u T n h H (gCom T n H 3 p) ∧ Ftk w u := by
  obtain ⟨n1, n2, n3, n4⟩ := hi.hn
  obtain ⟨q1, q2, q3, q4⟩ := hi.hp
  have hge := M.ge
  by_cases zA : H 0 12 = -2
  · obtain ⟨u, e, M1, f⟩ := ms_begins M k1 (a := 0) (b := 0) (c := 0) (by omega) (by omega) (by omega) (by omega)
    have eb : gBg 0 0 0 (H 0 0) = gFa H 3 := by
      rw [fa_3]
      unfold gBg gLk
      (repeat' split) <;> omega
    rw [eb] at M1
    refine ⟨u, ?_, M1, f⟩
    simp (disch := omega) only [p198_0, p198_1, p198_2, p198_5, p198_8, p198_10, p198_13, p198_14, p198_17, p198_18, p198_19, p198_20, p198_24, p198_27, p198_28, p198_29, p198_32, p198_33, p198_36, p198_37, p198_40, p198_41, p198_44, p198_45, p198_48, jwd_c, jwd_0, Nat.reduceLeDiff, Nat.reduceEqDiff, Nat.reduceAdd, Nat.reduceSub, Nat.reduceMul, Int.reduceAdd, Int.reduceSub, Int.reduceMul, Int.reduceNeg, Int.reduceEq, Int.reduceLT, Int.reduceLE, jq_ldi_i, jq_ldl_l, jq_lda_a, jq_inc_i, jq_gs_t, jq_gsb_t, jq_gb_t, jq_gr_2, jq_gr_4, jq_gw_2, jq_s_t, jq_b_t, jg_c, jg_n, js_c, js_n, jrm_c, jrm_n, j2_i, j2_l, j2_a, jq_c_i, jq_c_l, jq_c_0, jq_c_n, jwd_le, jw_c0, mS_I, mS_R, mS_J, mN_I, mN_R, mN_J, mR_I, mI_R, mJ_I, mJ_R, mI_J, mR_J, ↓reduceIte, decide_true, or_true, true_or, and_self, false_or, or_false, reduceCtorEq, Bool.false_eq_true, and_false, false_and, eq_self, true_and, and_true, zero_ne, ↓br_lt_t, ↓br_lt_f, ↓br_eq_t, ↓br_eq_f, ↓br_lz_t, ↓br_lz_f, ↓br_ez_t, ↓br_ez_f, ↓br_gz_t, ↓br_gz_f, jw_id, jin_t, jix_t, ↓ite_t, ↓ite_f, MS.a M, MS.r4 M, MS.b M, MS.f0 M, MS.f1 M, MS.f2 M, MS.f3 M, MS.f4 M, MS.f5 M, MS.f6 M, MS.f7 M, MS.f8 M, MS.f10 M, MS.f12 M, MS.f13 M, e]
  · obtain ⟨u, e, M1, f⟩ := ms_begins M k1 (a := 1) (b := 0) (c := 0) (by omega) (by omega) (by omega) (by omega)
    have eb : gBg 1 0 0 (H 0 0) = gFa H 3 := by
      rw [fa_3]
      unfold gBg gLk
      (repeat' split) <;> omega
    rw [eb] at M1
    refine ⟨u, ?_, M1, f⟩
    simp (disch := omega) only [p198_0, p198_1, p198_2, p198_5, p198_8, p198_10, p198_13, p198_14, p198_17, p198_18, p198_19, p198_20, p198_24, p198_27, p198_28, p198_29, p198_32, p198_33, p198_36, p198_37, p198_40, p198_41, p198_44, p198_45, p198_48, jwd_c, jwd_0, Nat.reduceLeDiff, Nat.reduceEqDiff, Nat.reduceAdd, Nat.reduceSub, Nat.reduceMul, Int.reduceAdd, Int.reduceSub, Int.reduceMul, Int.reduceNeg, Int.reduceEq, Int.reduceLT, Int.reduceLE, jq_ldi_i, jq_ldl_l, jq_lda_a, jq_inc_i, jq_gs_t, jq_gsb_t, jq_gb_t, jq_gr_2, jq_gr_4, jq_gw_2, jq_s_t, jq_b_t, jg_c, jg_n, js_c, js_n, jrm_c, jrm_n, j2_i, j2_l, j2_a, jq_c_i, jq_c_l, jq_c_0, jq_c_n, jwd_le, jw_c0, mS_I, mS_R, mS_J, mN_I, mN_R, mN_J, mR_I, mI_R, mJ_I, mJ_R, mI_J, mR_J, ↓reduceIte, decide_true, or_true, true_or, and_self, false_or, or_false, reduceCtorEq, Bool.false_eq_true, and_false, false_and, eq_self, true_and, and_true, zero_ne, ↓br_lt_t, ↓br_lt_f, ↓br_eq_t, ↓br_eq_f, ↓br_lz_t, ↓br_lz_f, ↓br_ez_t, ↓br_ez_f, ↓br_gz_t, ↓br_gz_f, jw_id, jin_t, jix_t, ↓ite_t, ↓ite_f, MS.a M, MS.r4 M, MS.b M, MS.f0 M, MS.f1 M, MS.f2 M, MS.f3 M, MS.f4 M, MS.f5 M, MS.f6 M, MS.f7 M, MS.f8 M, MS.f10 M, MS.f12 M, MS.f13 M, e]
theorem mb_4 (M : MS w T n h H (.inl p)) (hi : HI H) (k1 : tK T n p = 1) : ∃ u, rn 199 (0, [(0, jvr 238)], [], w) = rn 199 (21, [(0, jvr 238)], [], u) ∧ MS u T n h H (gCom T n H 4 p) ∧ Ftk w u := by
  obtain ⟨n1, n2, n3, n4⟩ := hi.hn
  obtain ⟨q1, q2, q3, q4⟩ := hi.hp
  have hge := M.ge
  by_cases zA : 0 < H 0 5
  · obtain ⟨u, e, M1, f⟩ := ms_begins M k1 (a := 1) (b := 0) (c := 0) (by omega) (by omega) (by omega) (by omega)
    have eb : gBg 1 0 0 (H 0 0) = gFa H 4 := by
      rw [fa_4]
      unfold gBg gLk
      (repeat' split) <;> omega
    rw [eb] at M1
    refine ⟨u, ?_, M1, f⟩
    simp (disch := omega) only [p199_0, p199_1, p199_2, p199_5, p199_8, p199_11, p199_12, p199_15, p199_16, p199_17, p199_18, p199_22, p199_23, p199_24, p199_27, p199_28, p199_29, p199_30, p199_33, p199_34, p199_35, p199_38, p199_41, p199_43, p199_46, p199_47, p199_48, p199_51, p199_52, p199_55, p199_56, p199_59, p199_60, p199_63, p199_64, p199_65, p199_68, p199_71, p199_72, p199_75, p199_78, p199_79, p199_80, p199_81, p199_84i, p199_84a, p199_85, p199_88, p199_89, p199_90, p199_93, p199_94, p199_96, p199_99, p199_100, p199_103, jwd_c, jwd_0, Nat.reduceLeDiff, Nat.reduceEqDiff, Nat.reduceAdd, Nat.reduceSub, Nat.reduceMul, Int.reduceAdd, Int.reduceSub, Int.reduceMul, Int.reduceNeg, Int.reduceEq, Int.reduceLT, Int.reduceLE, jq_ldi_i, jq_ldl_l, jq_lda_a, jq_inc_i, jq_gs_t, jq_gsb_t, jq_gb_t, jq_gr_2, jq_gr_4, jq_gw_2, jq_s_t, jq_b_t, jg_c, jg_n, js_c, js_n, jrm_c, jrm_n, j2_i, j2_l, j2_a, jq_c_i, jq_c_l, jq_c_0, jq_c_n, jwd_le, jw_c0, mS_I, mS_R, mS_J, mN_I, mN_R, mN_J, mR_I, mI_R, mJ_I, mJ_R, mI_J, mR_J, ↓reduceIte, decide_true, or_true, true_or, and_self, false_or, or_false, reduceCtorEq, Bool.false_eq_true, and_false, false_and, eq_self, true_and, and_true, zero_ne, ↓br_lt_t, ↓br_lt_f, ↓br_eq_t, ↓br_eq_f, ↓br_lz_t, ↓br_lz_f, ↓br_ez_t, ↓br_ez_f, ↓br_gz_t, ↓br_gz_f, jw_id, jin_t, jix_t, ↓ite_t, ↓ite_f, MS.a M, MS.r4 M, MS.b M, MS.f0 M, MS.f1 M, MS.f2 M, MS.f3 M, MS.f4 M, MS.f5 M, MS.f6 M, MS.f7 M, MS.f8 M, MS.f10 M, MS.f12 M, MS.f13 M, e]
  · obtain ⟨u, e, M1, f⟩ := ms_begins M k1 (a := 0) (b := 0) (c := 0) (by omega) (by omega) (by omega) (by omega)
    have eb : gBg 0 0 0 (H 0 0) = gFa H 4 := by
      rw [fa_4]
      unfold gBg gLk
      (repeat' split) <;> omega
    rw [eb] at M1
    refine ⟨u, ?_, M1, f⟩
    simp (disch := omega) only [p199_0, p199_1, p199_2, p199_5, p199_8, p199_11, p199_12, p199_15, p199_16, p199_17, p199_18, p199_22, p199_23, p199_24, p199_27, p199_28, p199_29, p199_30, p199_33, p199_34, p199_35, p199_38, p199_41, p199_43, p199_46, p199_47, p199_48, p199_51, p199_52, p199_55, p199_56, p199_59, p199_60, p199_63, p199_64, p199_65, p199_68, p199_71, p199_72, p199_75, p199_78, p199_79, p199_80, p199_81, p199_84i, p199_84a, p199_85, p199_88, p199_89, p199_90, p199_93, p199_94, p199_96, p199_99, p199_100, p199_103, jwd_c, jwd_0, Nat.reduceLeDiff, Nat.reduceEqDiff, Nat.reduceAdd, Nat.reduceSub, Nat.reduceMul, Int.reduceAdd, Int.reduceSub, Int.reduceMul, Int.reduceNeg, Int.reduceEq, Int.reduceLT, Int.reduceLE, jq_ldi_i, jq_ldl_l, jq_lda_a, jq_inc_i, jq_gs_t, jq_gsb_t, jq_gb_t, jq_gr_2, jq_gr_4, jq_gw_2, jq_s_t, jq_b_t, jg_c, jg_n, js_c, js_n, jrm_c, jrm_n, j2_i, j2_l, j2_a, jq_c_i, jq_c_l, jq_c_0, jq_c_n, jwd_le, jw_c0, mS_I, mS_R, mS_J, mN_I, mN_R, mN_J, mR_I, mI_R, mJ_I, mJ_R, mI_J, mR_J, ↓reduceIte, decide_true, or_true, true_or, and_self, false_or, or_false, reduceCtorEq, Bool.false_eq_true, and_false, false_and, eq_self, true_and, and_true, zero_ne, ↓br_lt_t, ↓br_lt_f, ↓br_eq_t, ↓br_eq_f, ↓br_lz_t, ↓br_lz_f, ↓br_ez_t, ↓br_ez_f, ↓br_gz_t, ↓br_gz_f, jw_id, jin_t, jix_t, ↓ite_t, ↓ite_f, MS.a M, MS.r4 M, MS.b M, MS.f0 M, MS.f1 M, MS.f2 M, MS.f3 M, MS.f4 M, MS.f5 M, MS.f6 M, MS.f7 M, MS.f8 M, MS.f10 M, MS.f12 M, MS.f13 M, e]
theorem mb_5 (M : MS w T n h H (.inl p)) (hi : HI H) (k1 : tK T n p = 1) : ∃ u, rn 201 (0, [(0, jvr 238)], [], w) = rn 201 (22, [(0, jvr 238)], [], u) ∧ MS u T n h H (gCom T n H 5 p) ∧ Ftk w u := by
  obtain ⟨n1, n2, n3, n4⟩ := hi.hn
  obtain ⟨q1, q2, q3, q4⟩ := hi.hp
  have hge := M.ge
  by_cases zA : H 0 7 = -1
  · obtain ⟨u, e, M1, f⟩ := ms_begins M k1 (a := 0) (b := 0) (c := 0) (by omega) (by omega) (by omega) (by omega)
    have eb : gBg 0 0 0 (H 0 0) = gFa H 5 := by
      rw [fa_5]
      unfold gBg gLk
      (repeat' split) <;> omega
    rw [eb] at M1
    refine ⟨u, ?_, M1, f⟩
    simp (disch := omega) only [p201_0, p201_1, p201_2, p201_5, p201_8, p201_9, p201_12, p201_13, p201_16, p201_17, p201_18, p201_19, p201_23, p201_26, p201_29, p201_32, p201_33, p201_36, p201_37, p201_40, p201_43, p201_46, p201_47, p201_50, p201_51, p201_54, p201_57, p201_60, p201_61, p201_64, p201_65, p201_68, p201_71, p201_74, p201_75, p201_78, p201_79, p201_81, p201_84, p201_87, p201_88, p201_91, p201_92, p201_95, p201_98, p201_101, p201_102, p201_105, p201_106, p201_107, p201_108, p201_109, p201_112, p201_113, p201_114, p201_117, p201_118, p201_121, p201_122, p201_123, p201_126, p201_127, p201_130, p201_131, p201_133, p201_136, p201_137, p201_140, p201_141, p201_142, p201_145, p201_148, p201_150, p201_153, p201_154, p201_155, p201_158, p201_159, p201_162, p201_163, p201_166, p201_167, p201_170, p201_171, p201_172, p201_175, p201_178, p201_179, p201_182, p201_185, p201_186, p201_187, p201_188, p201_191i, p201_191a, p201_192, p201_195, p201_196, p201_197, p201_200, p201_201, p201_203, p201_206, p201_207, p201_210, p201_211, p201_214, p201_215, p201_218, p201_219, p201_222, p201_223, p201_226, jwd_c, jwd_0, Nat.reduceLeDiff, Nat.reduceEqDiff, Nat.reduceAdd, Nat.reduceSub, Nat.reduceMul, Int.reduceAdd, Int.reduceSub, Int.reduceMul, Int.reduceNeg, Int.reduceEq, Int.reduceLT, Int.reduceLE, jq_ldi_i, jq_ldl_l, jq_lda_a, jq_inc_i, jq_gs_t, jq_gsb_t, jq_gb_t, jq_gr_2, jq_gr_4, jq_gw_2, jq_s_t, jq_b_t, jg_c, jg_n, js_c, js_n, jrm_c, jrm_n, j2_i, j2_l, j2_a, jq_c_i, jq_c_l, jq_c_0, jq_c_n, jwd_le, jw_c0, mS_I, mS_R, mS_J, mN_I, mN_R, mN_J, mR_I, mI_R, mJ_I, mJ_R, mI_J, mR_J, ↓reduceIte, decide_true, or_true, true_or, and_self, false_or, or_false, reduceCtorEq, Bool.false_eq_true, and_false, false_and, eq_self, true_and, and_true, zero_ne, ↓br_lt_t, ↓br_lt_f, ↓br_eq_t, ↓br_eq_f, ↓br_lz_t, ↓br_lz_f, ↓br_ez_t, ↓br_ez_f, ↓br_gz_t, ↓br_gz_f, jw_id, jin_t, jix_t, ↓ite_t, ↓ite_f, MS.a M, MS.r4 M, MS.b M, MS.f0 M, MS.f1 M, MS.f2 M, MS.f3 M, MS.f4 M, MS.f5 M, MS.f6 M, MS.f7 M, MS.f8 M, MS.f10 M, MS.f12 M, MS.f13 M, e]
  · obtain ⟨u, e, M1, f⟩ := ms_begins M k1 (a := 1) (b := 0) (c := 0) (by omega) (by omega) (by omega) (by omega)
    have eb : gBg 1 0 0 (H 0 0) = gFa H 5 := by
      rw [fa_5]
      unfold gBg gLk
      (repeat' split) <;> omega
    rw [eb] at M1
    refine ⟨u, ?_, M1, f⟩
    simp (disch := omega) only [p201_0, p201_1, p201_2, p201_5, p201_8, p201_9, p201_12, p201_13, p201_16, p201_17, p201_18, p201_19, p201_23, p201_26, p201_29, p201_32, p201_33, p201_36, p201_37, p201_40, p201_43, p201_46, p201_47, p201_50, p201_51, p201_54, p201_57, p201_60, p201_61, p201_64, p201_65, p201_68, p201_71, p201_74, p201_75, p201_78, p201_79, p201_81, p201_84, p201_87, p201_88, p201_91, p201_92, p201_95, p201_98, p201_101, p201_102, p201_105, p201_106, p201_107, p201_108, p201_109, p201_112, p201_113, p201_114, p201_117, p201_118, p201_121, p201_122, p201_123, p201_126, p201_127, p201_130, p201_131, p201_133, p201_136, p201_137, p201_140, p201_141, p201_142, p201_145, p201_148, p201_150, p201_153, p201_154, p201_155, p201_158, p201_159, p201_162, p201_163, p201_166, p201_167, p201_170, p201_171, p201_172, p201_175, p201_178, p201_179, p201_182, p201_185, p201_186, p201_187, p201_188, p201_191i, p201_191a, p201_192, p201_195, p201_196, p201_197, p201_200, p201_201, p201_203, p201_206, p201_207, p201_210, p201_211, p201_214, p201_215, p201_218, p201_219, p201_222, p201_223, p201_226, jwd_c, jwd_0, Nat.reduceLeDiff, Nat.reduceEqDiff, Nat.reduceAdd, Nat.reduceSub, Nat.reduceMul, Int.reduceAdd, Int.reduceSub, Int.reduceMul, Int.reduceNeg, Int.reduceEq, Int.reduceLT, Int.reduceLE, jq_ldi_i, jq_ldl_l, jq_lda_a, jq_inc_i, jq_gs_t, jq_gsb_t, jq_gb_t, jq_gr_2, jq_gr_4, jq_gw_2, jq_s_t, jq_b_t, jg_c, jg_n, js_c, js_n, jrm_c, jrm_n, j2_i, j2_l, j2_a, jq_c_i, jq_c_l, jq_c_0, jq_c_n, jwd_le, jw_c0, mS_I, mS_R, mS_J, mN_I, mN_R, mN_J, mR_I, mI_R, mJ_I, mJ_R, mI_J, mR_J, ↓reduceIte, decide_true, or_true, true_or, and_self, false_or, or_false, reduceCtorEq, Bool.false_eq_true, and_false, false_and, eq_self, true_and, and_true, zero_ne, ↓br_lt_t, ↓br_lt_f, ↓br_eq_t, ↓br_eq_f, ↓br_lz_t, ↓br_lz_f, ↓br_ez_t, ↓br_ez_f, ↓br_gz_t, ↓br_gz_f, jw_id, jin_t, jix_t, ↓ite_t, ↓ite_f, MS.a M, MS.r4 M, MS.b M, MS.f0 M, MS.f1 M, MS.f2 M, MS.f3 M, MS.f4 M, MS.f5 M, MS.f6 M, MS.f7 M, MS.f8 M, MS.f10 M, MS.f12 M, MS.f13 M, e]
theorem mb_6 (M : MS w T n h H (.inl p)) (hi : HI H) (k1 : tK T n p = 1) : ∃ u, rn 203 (0, [(0, jvr 238)], [], w) = rn 203 (55, [(0, jvr 238)], [], u) ∧ MS u T n h H (gCom T n H 6 p) ∧ Ftk w u := by
  obtain ⟨n1, n2, n3, n4⟩ := hi.hn
  obtain ⟨q1, q2, q3, q4⟩ := hi.hp
  have hge := M.ge
  by_cases zA : H 0 3 = 4
  · by_cases zB : H 0 2 < H 0 1
    · by_cases zC : H 0 13 = -2
      · obtain ⟨u, e, M1, f⟩ := ms_begins M k1 (a := 0) (b := 1) (c := 1) (by omega) (by omega) (by omega) (by omega)
        have eb : gBg 0 1 1 (H 0 0) = gFa H 6 := by
          rw [fa_6]
          unfold gBg gLk
          (repeat' split) <;> omega
        rw [eb] at M1
        refine ⟨u, ?_, M1, f⟩
        simp (disch := omega) only [p203_0, p203_1, p203_2, p203_3, p203_6, p203_9, p203_10, p203_13, p203_14, p203_17, p203_18, p203_19, p203_22, p203_25, p203_26, p203_29, p203_32, p203_35, p203_36, p203_39, p203_42, p203_44, p203_47, p203_48, p203_51, p203_52, p203_56, p203_59, p203_62, p203_63, p203_64, p203_67, p203_68, p203_70, p203_71, p203_74, p203_77, p203_80, p203_81, p203_84, p203_85, p203_88, p203_89, p203_92, p203_95, p203_96, p203_97, p203_98, p203_101, p203_102, p203_105, p203_106, p203_107, p203_110, p203_113, p203_116, p203_117, p203_120, p203_121, p203_122, p203_125, p203_126, p203_129, p203_132, p203_133, p203_136, p203_137, p203_138, p203_141, p203_142, p203_145, p203_146, p203_149, p203_152, p203_153, p203_154, p203_155, p203_158, p203_159, p203_160, p203_163, p203_164, p203_167, p203_168, p203_171, p203_172, p203_175, p203_178, p203_179, p203_180, p203_181, p203_184, p203_185, p203_187, p203_190, p203_191, p203_194, p203_195, p203_198, p203_199, p203_201, p203_204, p203_206, p203_207, p203_210, p203_212, p203_213, p203_216, p203_217, p203_219, p203_222, p203_224, p203_225, p203_228, p203_229, p203_231, p203_234, p203_236, p203_237, p203_240, p203_241, p203_243, p203_246, p203_248, p203_249, p203_252, p203_253, p203_256, p203_257, p203_258, p203_261, p203_264, p203_266, p203_267, p203_270, p203_273, p203_275, p203_276, p203_277, p203_278, p203_281, p203_284, p203_286, p203_287, p203_288, p203_289, p203_292, p203_295, p203_297, p203_299, p203_300, p203_301, p203_304, p203_307, p203_309, p203_311, p203_312, p203_313, p203_316, p203_319, p203_321, p203_323, p203_324, p203_325, p203_328, p203_331, p203_333, p203_335, p203_336, p203_337, p203_340, p203_343, p203_345, p203_347, p203_348, p203_349, p203_352, p203_355, p203_356, p203_357, p203_358, p203_359, p203_362i, p203_362a, p203_363, p203_366, p203_367, p203_368, p203_371, jwd_c, jwd_0, Nat.reduceLeDiff, Nat.reduceEqDiff, Nat.reduceAdd, Nat.reduceSub, Nat.reduceMul, Int.reduceAdd, Int.reduceSub, Int.reduceMul, Int.reduceNeg, Int.reduceEq, Int.reduceLT, Int.reduceLE, jq_ldi_i, jq_ldl_l, jq_lda_a, jq_inc_i, jq_gs_t, jq_gsb_t, jq_gb_t, jq_gr_2, jq_gr_4, jq_gw_2, jq_s_t, jq_b_t, jg_c, jg_n, js_c, js_n, jrm_c, jrm_n, j2_i, j2_l, j2_a, jq_c_i, jq_c_l, jq_c_0, jq_c_n, jwd_le, jw_c0, mS_I, mS_R, mS_J, mN_I, mN_R, mN_J, mR_I, mI_R, mJ_I, mJ_R, mI_J, mR_J, ↓reduceIte, decide_true, or_true, true_or, and_self, false_or, or_false, reduceCtorEq, Bool.false_eq_true, and_false, false_and, eq_self, true_and, and_true, zero_ne, ↓br_lt_t, ↓br_lt_f, ↓br_eq_t, ↓br_eq_f, ↓br_lz_t, ↓br_lz_f, ↓br_ez_t, ↓br_ez_f, ↓br_gz_t, ↓br_gz_f, jw_id, jin_t, jix_t, ↓ite_t, ↓ite_f, MS.a M, MS.r4 M, MS.b M, MS.f0 M, MS.f1 M, MS.f2 M, MS.f3 M, MS.f4 M, MS.f5 M, MS.f6 M, MS.f7 M, MS.f8 M, MS.f10 M, MS.f12 M, MS.f13 M, e]
      · exfalso
        omega
    · by_cases zC : H 0 13 = -2
      · obtain ⟨u, e, M1, f⟩ := ms_begins M k1 (a := 0) (b := 1) (c := 0) (by omega) (by omega) (by omega) (by omega)
        have eb : gBg 0 1 0 (H 0 0) = gFa H 6 := by
          rw [fa_6]
          unfold gBg gLk
          (repeat' split) <;> omega
        rw [eb] at M1
        refine ⟨u, ?_, M1, f⟩
        simp (disch := omega) only [p203_0, p203_1, p203_2, p203_3, p203_6, p203_9, p203_10, p203_13, p203_14, p203_17, p203_18, p203_19, p203_22, p203_25, p203_26, p203_29, p203_32, p203_35, p203_36, p203_39, p203_42, p203_44, p203_47, p203_48, p203_51, p203_52, p203_56, p203_59, p203_62, p203_63, p203_64, p203_67, p203_68, p203_70, p203_71, p203_74, p203_77, p203_80, p203_81, p203_84, p203_85, p203_88, p203_89, p203_92, p203_95, p203_96, p203_97, p203_98, p203_101, p203_102, p203_105, p203_106, p203_107, p203_110, p203_113, p203_116, p203_117, p203_120, p203_121, p203_122, p203_125, p203_126, p203_129, p203_132, p203_133, p203_136, p203_137, p203_138, p203_141, p203_142, p203_145, p203_146, p203_149, p203_152, p203_153, p203_154, p203_155, p203_158, p203_159, p203_160, p203_163, p203_164, p203_167, p203_168, p203_171, p203_172, p203_175, p203_178, p203_179, p203_180, p203_181, p203_184, p203_185, p203_187, p203_190, p203_191, p203_194, p203_195, p203_198, p203_199, p203_201, p203_204, p203_206, p203_207, p203_210, p203_212, p203_213, p203_216, p203_217, p203_219, p203_222, p203_224, p203_225, p203_228, p203_229, p203_231, p203_234, p203_236, p203_237, p203_240, p203_241, p203_243, p203_246, p203_248, p203_249, p203_252, p203_253, p203_256, p203_257, p203_258, p203_261, p203_264, p203_266, p203_267, p203_270, p203_273, p203_275, p203_276, p203_277, p203_278, p203_281, p203_284, p203_286, p203_287, p203_288, p203_289, p203_292, p203_295, p203_297, p203_299, p203_300, p203_301, p203_304, p203_307, p203_309, p203_311, p203_312, p203_313, p203_316, p203_319, p203_321, p203_323, p203_324, p203_325, p203_328, p203_331, p203_333, p203_335, p203_336, p203_337, p203_340, p203_343, p203_345, p203_347, p203_348, p203_349, p203_352, p203_355, p203_356, p203_357, p203_358, p203_359, p203_362i, p203_362a, p203_363, p203_366, p203_367, p203_368, p203_371, jwd_c, jwd_0, Nat.reduceLeDiff, Nat.reduceEqDiff, Nat.reduceAdd, Nat.reduceSub, Nat.reduceMul, Int.reduceAdd, Int.reduceSub, Int.reduceMul, Int.reduceNeg, Int.reduceEq, Int.reduceLT, Int.reduceLE, jq_ldi_i, jq_ldl_l, jq_lda_a, jq_inc_i, jq_gs_t, jq_gsb_t, jq_gb_t, jq_gr_2, jq_gr_4, jq_gw_2, jq_s_t, jq_b_t, jg_c, jg_n, js_c, js_n, jrm_c, jrm_n, j2_i, j2_l, j2_a, jq_c_i, jq_c_l, jq_c_0, jq_c_n, jwd_le, jw_c0, mS_I, mS_R, mS_J, mN_I, mN_R, mN_J, mR_I, mI_R, mJ_I, mJ_R, mI_J, mR_J, ↓reduceIte, decide_true, or_true, true_or, and_self, false_or, or_false, reduceCtorEq, Bool.false_eq_true, and_false, false_and, eq_self, true_and, and_true, zero_ne, ↓br_lt_t, ↓br_lt_f, ↓br_eq_t, ↓br_eq_f, ↓br_lz_t, ↓br_lz_f, ↓br_ez_t, ↓br_ez_f, ↓br_gz_t, ↓br_gz_f, jw_id, jin_t, jix_t, ↓ite_t, ↓ite_f, MS.a M, MS.r4 M, MS.b M, MS.f0 M, MS.f1 M, MS.f2 M, MS.f3 M, MS.f4 M, MS.f5 M, MS.f6 M, MS.f7 M, MS.f8 M, MS.f10 M, MS.f12 M, MS.f13 M, e]
      · obtain ⟨u, e, M1, f⟩ := ms_begins M k1 (a := 0) (b := 1) (c := 1) (by omega) (by omega) (by omega) (by omega)
        have eb : gBg 0 1 1 (H 0 0) = gFa H 6 := by
          rw [fa_6]
          unfold gBg gLk
          (repeat' split) <;> omega
        rw [eb] at M1
        refine ⟨u, ?_, M1, f⟩
        simp (disch := omega) only [p203_0, p203_1, p203_2, p203_3, p203_6, p203_9, p203_10, p203_13, p203_14, p203_17, p203_18, p203_19, p203_22, p203_25, p203_26, p203_29, p203_32, p203_35, p203_36, p203_39, p203_42, p203_44, p203_47, p203_48, p203_51, p203_52, p203_56, p203_59, p203_62, p203_63, p203_64, p203_67, p203_68, p203_70, p203_71, p203_74, p203_77, p203_80, p203_81, p203_84, p203_85, p203_88, p203_89, p203_92, p203_95, p203_96, p203_97, p203_98, p203_101, p203_102, p203_105, p203_106, p203_107, p203_110, p203_113, p203_116, p203_117, p203_120, p203_121, p203_122, p203_125, p203_126, p203_129, p203_132, p203_133, p203_136, p203_137, p203_138, p203_141, p203_142, p203_145, p203_146, p203_149, p203_152, p203_153, p203_154, p203_155, p203_158, p203_159, p203_160, p203_163, p203_164, p203_167, p203_168, p203_171, p203_172, p203_175, p203_178, p203_179, p203_180, p203_181, p203_184, p203_185, p203_187, p203_190, p203_191, p203_194, p203_195, p203_198, p203_199, p203_201, p203_204, p203_206, p203_207, p203_210, p203_212, p203_213, p203_216, p203_217, p203_219, p203_222, p203_224, p203_225, p203_228, p203_229, p203_231, p203_234, p203_236, p203_237, p203_240, p203_241, p203_243, p203_246, p203_248, p203_249, p203_252, p203_253, p203_256, p203_257, p203_258, p203_261, p203_264, p203_266, p203_267, p203_270, p203_273, p203_275, p203_276, p203_277, p203_278, p203_281, p203_284, p203_286, p203_287, p203_288, p203_289, p203_292, p203_295, p203_297, p203_299, p203_300, p203_301, p203_304, p203_307, p203_309, p203_311, p203_312, p203_313, p203_316, p203_319, p203_321, p203_323, p203_324, p203_325, p203_328, p203_331, p203_333, p203_335, p203_336, p203_337, p203_340, p203_343, p203_345, p203_347, p203_348, p203_349, p203_352, p203_355, p203_356, p203_357, p203_358, p203_359, p203_362i, p203_362a, p203_363, p203_366, p203_367, p203_368, p203_371, jwd_c, jwd_0, Nat.reduceLeDiff, Nat.reduceEqDiff, Nat.reduceAdd, Nat.reduceSub, Nat.reduceMul, Int.reduceAdd, Int.reduceSub, Int.reduceMul, Int.reduceNeg, Int.reduceEq, Int.reduceLT, Int.reduceLE, jq_ldi_i, jq_ldl_l, jq_lda_a, jq_inc_i, jq_gs_t, jq_gsb_t, jq_gb_t, jq_gr_2, jq_gr_4, jq_gw_2, jq_s_t, jq_b_t, jg_c, jg_n, js_c, js_n, jrm_c, jrm_n, j2_i, j2_l, j2_a, jq_c_i, jq_c_l, jq_c_0, jq_c_n, jwd_le, jw_c0, mS_I, mS_R, mS_J, mN_I, mN_R, mN_J, mR_I, mI_R, mJ_I, mJ_R, mI_J, mR_J, ↓reduceIte, decide_true, or_true, true_or, and_self, false_or, or_false, reduceCtorEq, Bool.false_eq_true, and_false, false_and, eq_self, true_and, and_true, zero_ne, ↓br_lt_t, ↓br_lt_f, ↓br_eq_t, ↓br_eq_f, ↓br_lz_t, ↓br_lz_f, ↓br_ez_t, ↓br_ez_f, ↓br_gz_t, ↓br_gz_f, jw_id, jin_t, jix_t, ↓ite_t, ↓ite_f, MS.a M, MS.r4 M, MS.b M, MS.f0 M, MS.f1 M, MS.f2 M, MS.f3 M, MS.f4 M, MS.f5 M, MS.f6 M, MS.f7 M, MS.f8 M, MS.f10 M, MS.f12 M, MS.f13 M, e]
  · by_cases zB : H 0 2 < H 0 1
    · by_cases zC : H 0 13 = -2
      · obtain ⟨u, e, M1, f⟩ := ms_begins M k1 (a := 0) (b := 0) (c := 1) (by omega) (by omega) (by omega) (by omega)
        have eb : gBg 0 0 1 (H 0 0) = gFa H 6 := by
          rw [fa_6]
          unfold gBg gLk
          (repeat' split) <;> omega
        rw [eb] at M1
        refine ⟨u, ?_, M1, f⟩
        simp (disch := omega) only [p203_0, p203_1, p203_2, p203_3, p203_6, p203_9, p203_10, p203_13, p203_14, p203_17, p203_18, p203_19, p203_22, p203_25, p203_26, p203_29, p203_32, p203_35, p203_36, p203_39, p203_42, p203_44, p203_47, p203_48, p203_51, p203_52, p203_56, p203_59, p203_62, p203_63, p203_64, p203_67, p203_68, p203_70, p203_71, p203_74, p203_77, p203_80, p203_81, p203_84, p203_85, p203_88, p203_89, p203_92, p203_95, p203_96, p203_97, p203_98, p203_101, p203_102, p203_105, p203_106, p203_107, p203_110, p203_113, p203_116, p203_117, p203_120, p203_121, p203_122, p203_125, p203_126, p203_129, p203_132, p203_133, p203_136, p203_137, p203_138, p203_141, p203_142, p203_145, p203_146, p203_149, p203_152, p203_153, p203_154, p203_155, p203_158, p203_159, p203_160, p203_163, p203_164, p203_167, p203_168, p203_171, p203_172, p203_175, p203_178, p203_179, p203_180, p203_181, p203_184, p203_185, p203_187, p203_190, p203_191, p203_194, p203_195, p203_198, p203_199, p203_201, p203_204, p203_206, p203_207, p203_210, p203_212, p203_213, p203_216, p203_217, p203_219, p203_222, p203_224, p203_225, p203_228, p203_229, p203_231, p203_234, p203_236, p203_237, p203_240, p203_241, p203_243, p203_246, p203_248, p203_249, p203_252, p203_253, p203_256, p203_257, p203_258, p203_261, p203_264, p203_266, p203_267, p203_270, p203_273, p203_275, p203_276, p203_277, p203_278, p203_281, p203_284, p203_286, p203_287, p203_288, p203_289, p203_292, p203_295, p203_297, p203_299, p203_300, p203_301, p203_304, p203_307, p203_309, p203_311, p203_312, p203_313, p203_316, p203_319, p203_321, p203_323, p203_324, p203_325, p203_328, p203_331, p203_333, p203_335, p203_336, p203_337, p203_340, p203_343, p203_345, p203_347, p203_348, p203_349, p203_352, p203_355, p203_356, p203_357, p203_358, p203_359, p203_362i, p203_362a, p203_363, p203_366, p203_367, p203_368, p203_371, jwd_c, jwd_0, Nat.reduceLeDiff, Nat.reduceEqDiff, Nat.reduceAdd, Nat.reduceSub, Nat.reduceMul, Int.reduceAdd, Int.reduceSub, Int.reduceMul, Int.reduceNeg, Int.reduceEq, Int.reduceLT, Int.reduceLE, jq_ldi_i, jq_ldl_l, jq_lda_a, jq_inc_i, jq_gs_t, jq_gsb_t, jq_gb_t, jq_gr_2, jq_gr_4, jq_gw_2, jq_s_t, jq_b_t, jg_c, jg_n, js_c, js_n, jrm_c, jrm_n, j2_i, j2_l, j2_a, jq_c_i, jq_c_l, jq_c_0, jq_c_n, jwd_le, jw_c0, mS_I, mS_R, mS_J, mN_I, mN_R, mN_J, mR_I, mI_R, mJ_I, mJ_R, mI_J, mR_J, ↓reduceIte, decide_true, or_true, true_or, and_self, false_or, or_false, reduceCtorEq, Bool.false_eq_true, and_false, false_and, eq_self, true_and, and_true, zero_ne, ↓br_lt_t, ↓br_lt_f, ↓br_eq_t, ↓br_eq_f, ↓br_lz_t, ↓br_lz_f, ↓br_ez_t, ↓br_ez_f, ↓br_gz_t, ↓br_gz_f, jw_id, jin_t, jix_t, ↓ite_t, ↓ite_f, MS.a M, MS.r4 M, MS.b M, MS.f0 M, MS.f1 M, MS.f2 M, MS.f3 M, MS.f4 M, MS.f5 M, MS.f6 M, MS.f7 M, MS.f8 M, MS.f10 M, MS.f12 M, MS.f13 M, e]
      · exfalso
        omega
    · by_cases zC : H 0 13 = -2
      · obtain ⟨u, e, M1, f⟩ := ms_begins M k1 (a := 0) (b := 0) (c := 0) (by omega) (by omega) (by omega) (by omega)
        have eb : gBg 0 0 0 (H 0 0) = gFa H 6 := by
          rw [fa_6]
          unfold gBg gLk
          (repeat' split) <;> omega
        rw [eb] at M1
        refine ⟨u, ?_, M1, f⟩
        simp (disch := omega) only [p203_0, p203_1, p203_2, p203_3, p203_6, p203_9, p203_10, p203_13, p203_14, p203_17, p203_18, p203_19, p203_22, p203_25, p203_26, p203_29, p203_32, p203_35, p203_36, p203_39, p203_42, p203_44, p203_47, p203_48, p203_51, p203_52, p203_56, p203_59, p203_62, p203_63, p203_64, p203_67, p203_68, p203_70, p203_71, p203_74, p203_77, p203_80, p203_81, p203_84, p203_85, p203_88, p203_89, p203_92, p203_95, p203_96, p203_97, p203_98, p203_101, p203_102, p203_105, p203_106, p203_107, p203_110, p203_113, p203_116, p203_117, p203_120, p203_121, p203_122, p203_125, p203_126, p203_129, p203_132, p203_133, p203_136, p203_137, p203_138, p203_141, p203_142, p203_145, p203_146, p203_149, p203_152, p203_153, p203_154, p203_155, p203_158, p203_159, p203_160, p203_163, p203_164, p203_167, p203_168, p203_171, p203_172, p203_175, p203_178, p203_179, p203_180, p203_181, p203_184, p203_185, p203_187, p203_190, p203_191, p203_194, p203_195, p203_198, p203_199, p203_201, p203_204, p203_206, p203_207, p203_210, p203_212, p203_213, p203_216, p203_217, p203_219, p203_222, p203_224, p203_225, p203_228, p203_229, p203_231, p203_234, p203_236, p203_237, p203_240, p203_241, p203_243, p203_246, p203_248, p203_249, p203_252, p203_253, p203_256, p203_257, p203_258, p203_261, p203_264, p203_266, p203_267, p203_270, p203_273, p203_275, p203_276, p203_277, p203_278, p203_281, p203_284, p203_286, p203_287, p203_288, p203_289, p203_292, p203_295, p203_297, p203_299, p203_300, p203_301, p203_304, p203_307, p203_309, p203_311, p203_312, p203_313, p203_316, p203_319, p203_321, p203_323, p203_324, p203_325, p203_328, p203_331, p203_333, p203_335, p203_336, p203_337, p203_340, p203_343, p203_345, p203_347, p203_348, p203_349, p203_352, p203_355, p203_356, p203_357, p203_358, p203_359, p203_362i, p203_362a, p203_363, p203_366, p203_367, p203_368, p203_371, jwd_c, jwd_0, Nat.reduceLeDiff, Nat.reduceEqDiff, Nat.reduceAdd, Nat.reduceSub, Nat.reduceMul, Int.reduceAdd, Int.reduceSub, Int.reduceMul, Int.reduceNeg, Int.reduceEq, Int.reduceLT, Int.reduceLE, jq_ldi_i, jq_ldl_l, jq_lda_a, jq_inc_i, jq_gs_t, jq_gsb_t, jq_gb_t, jq_gr_2, jq_gr_4, jq_gw_2, jq_s_t, jq_b_t, jg_c, jg_n, js_c, js_n, jrm_c, jrm_n, j2_i, j2_l, j2_a, jq_c_i, jq_c_l, jq_c_0, jq_c_n, jwd_le, jw_c0, mS_I, mS_R, mS_J, mN_I, mN_R, mN_J, mR_I, mI_R, mJ_I, mJ_R, mI_J, mR_J, ↓reduceIte, decide_true, or_true, true_or, and_self, false_or, or_false, reduceCtorEq, Bool.false_eq_true, and_false, false_and, eq_self, true_and, and_true, zero_ne, ↓br_lt_t, ↓br_lt_f, ↓br_eq_t, ↓br_eq_f, ↓br_lz_t, ↓br_lz_f, ↓br_ez_t, ↓br_ez_f, ↓br_gz_t, ↓br_gz_f, jw_id, jin_t, jix_t, ↓ite_t, ↓ite_f, MS.a M, MS.r4 M, MS.b M, MS.f0 M, MS.f1 M, MS.f2 M, MS.f3 M, MS.f4 M, MS.f5 M, MS.f6 M, MS.f7 M, MS.f8 M, MS.f10 M, MS.f12 M, MS.f13 M, e]
      · obtain ⟨u, e, M1, f⟩ := ms_begins M k1 (a := 0) (b := 0) (c := 1) (by omega) (by omega) (by omega) (by omega)
        have eb : gBg 0 0 1 (H 0 0) = gFa H 6 := by
          rw [fa_6]
          unfold gBg gLk
          (repeat' split) <;> omega
        rw [eb] at M1
        refine ⟨u, ?_, M1, f⟩
        simp (disch := omega) only [p203_0, p203_1, p203_2, p203_3, p203_6, p203_9, p203_10, p203_13, p203_14, p203_17, p203_18, p203_19, p203_22, p203_25, p203_26, p203_29, p203_32, p203_35, p203_36, p203_39, p203_42, p203_44, p203_47, p203_48, p203_51, p203_52, p203_56, p203_59, p203_62, p203_63, p203_64, p203_67, p203_68, p203_70, p203_71, p203_74, p203_77, p203_80, p203_81, p203_84, p203_85, p203_88, p203_89, p203_92, p203_95, p203_96, p203_97, p203_98, p203_101, p203_102, p203_105, p203_106, p203_107, p203_110, p203_113, p203_116, p203_117, p203_120, p203_121, p203_122, p203_125, p203_126, p203_129, p203_132, p203_133, p203_136, p203_137, p203_138, p203_141, p203_142, p203_145, p203_146, p203_149, p203_152, p203_153, p203_154, p203_155, p203_158, p203_159, p203_160, p203_163, p203_164, p203_167, p203_168, p203_171, p203_172, p203_175, p203_178, p203_179, p203_180, p203_181, p203_184, p203_185, p203_187, p203_190, p203_191, p203_194, p203_195, p203_198, p203_199, p203_201, p203_204, p203_206, p203_207, p203_210, p203_212, p203_213, p203_216, p203_217, p203_219, p203_222, p203_224, p203_225, p203_228, p203_229, p203_231, p203_234, p203_236, p203_237, p203_240, p203_241, p203_243, p203_246, p203_248, p203_249, p203_252, p203_253, p203_256, p203_257, p203_258, p203_261, p203_264, p203_266, p203_267, p203_270, p203_273, p203_275, p203_276, p203_277, p203_278, p203_281, p203_284, p203_286, p203_287, p203_288, p203_289, p203_292, p203_295, p203_297, p203_299, p203_300, p203_301, p203_304, p203_307, p203_309, p203_311, p203_312, p203_313, p203_316, p203_319, p203_321, p203_323, p203_324, p203_325, p203_328, p203_331, p203_333, p203_335, p203_336, p203_337, p203_340, p203_343, p203_345, p203_347, p203_348, p203_349, p203_352, p203_355, p203_356, p203_357, p203_358, p203_359, p203_362i, p203_362a, p203_363, p203_366, p203_367, p203_368, p203_371, jwd_c, jwd_0, Nat.reduceLeDiff, Nat.reduceEqDiff, Nat.reduceAdd, Nat.reduceSub, Nat.reduceMul, Int.reduceAdd, Int.reduceSub, Int.reduceMul, Int.reduceNeg, Int.reduceEq, Int.reduceLT, Int.reduceLE, jq_ldi_i, jq_ldl_l, jq_lda_a, jq_inc_i, jq_gs_t, jq_gsb_t, jq_gb_t, jq_gr_2, jq_gr_4, jq_gw_2, jq_s_t, jq_b_t, jg_c, jg_n, js_c, js_n, jrm_c, jrm_n, j2_i, j2_l, j2_a, jq_c_i, jq_c_l, jq_c_0, jq_c_n, jwd_le, jw_c0, mS_I, mS_R, mS_J, mN_I, mN_R, mN_J, mR_I, mI_R, mJ_I, mJ_R, mI_J, mR_J, ↓reduceIte, decide_true, or_true, true_or, and_self, false_or, or_false, reduceCtorEq, Bool.false_eq_true, and_false, false_and, eq_self, true_and, and_true, zero_ne, ↓br_lt_t, ↓br_lt_f, ↓br_eq_t, ↓br_eq_f, ↓br_lz_t, ↓br_lz_f, ↓br_ez_t, ↓br_ez_f, ↓br_gz_t, ↓br_gz_f, jw_id, jin_t, jix_t, ↓ite_t, ↓ite_f, MS.a M, MS.r4 M, MS.b M, MS.f0 M, MS.f1 M, MS.f2 M, MS.f3 M, MS.f4 M, MS.f5 M, MS.f6 M, MS.f7 M, MS.f8 M, MS.f10 M, MS.f12 M, MS.f13 M, e]
theorem mb_7 (M : MS w T n h H (.inl p)) (hi : HI H) (k1 : tK T n p = 1) : ∃ u, rn 206 (0, [(0, jvr 238)], [], w) = rn 206 (39, [(0, jvr 238)], [], u) ∧ MS u T n h H (gCom T n H 7 p) ∧ Ftk w u := by
  obtain ⟨n1, n2, n3, n4⟩ := hi.hn
  obtain ⟨q1, q2, q3, q4⟩ := hi.hp
  have hge := M.ge
  by_cases zA : H 0 4 = 8
  · by_cases zC : H 0 13 = -2
    · obtain ⟨u, e, M1, f⟩ := ms_begins M k1 (a := 0) (b := 1) (c := 0) (by omega) (by omega) (by omega) (by omega)
      have eb : gBg 0 1 0 (H 0 0) = gFa H 7 := by
        rw [fa_7]
        unfold gBg gLk
        (repeat' split) <;> omega
      rw [eb] at M1
      refine ⟨u, ?_, M1, f⟩
      simp (disch := omega) only [p206_0, p206_1, p206_2, p206_3, p206_6, p206_9, p206_11, p206_14, p206_15, p206_18, p206_19, p206_20, p206_23, p206_26, p206_28, p206_31, p206_32, p206_35, p206_36, p206_40, p206_43, p206_44, p206_45, p206_48, p206_49, p206_51, p206_54, p206_55, p206_56, p206_59, p206_60, p206_62, p206_65, p206_66, p206_67, p206_70, p206_71, p206_74, p206_75, p206_76, p206_79, p206_82, p206_83, p206_86, p206_89, p206_90, p206_91, p206_92, p206_95, p206_98, p206_99, p206_102, p206_105, p206_106, p206_107, p206_108, p206_111, p206_114, p206_115, p206_118, p206_121, p206_122, p206_123, p206_124, p206_127i, p206_127a, p206_128, p206_131, p206_132, p206_133, p206_136, jwd_c, jwd_0, Nat.reduceLeDiff, Nat.reduceEqDiff, Nat.reduceAdd, Nat.reduceSub, Nat.reduceMul, Int.reduceAdd, Int.reduceSub, Int.reduceMul, Int.reduceNeg, Int.reduceEq, Int.reduceLT, Int.reduceLE, jq_ldi_i, jq_ldl_l, jq_lda_a, jq_inc_i, jq_gs_t, jq_gsb_t, jq_gb_t, jq_gr_2, jq_gr_4, jq_gw_2, jq_s_t, jq_b_t, jg_c, jg_n, js_c, js_n, jrm_c, jrm_n, j2_i, j2_l, j2_a, jq_c_i, jq_c_l, jq_c_0, jq_c_n, jwd_le, jw_c0, mS_I, mS_R, mS_J, mN_I, mN_R, mN_J, mR_I, mI_R, mJ_I, mJ_R, mI_J, mR_J, ↓reduceIte, decide_true, or_true, true_or, and_self, false_or, or_false, reduceCtorEq, Bool.false_eq_true, and_false, false_and, eq_self, true_and, and_true, zero_ne, ↓br_lt_t, ↓br_lt_f, ↓br_eq_t, ↓br_eq_f, ↓br_lz_t, ↓br_lz_f, ↓br_ez_t, ↓br_ez_f, ↓br_gz_t, ↓br_gz_f, jw_id, jin_t, jix_t, ↓ite_t, ↓ite_f, MS.a M, MS.r4 M, MS.b M, MS.f0 M, MS.f1 M, MS.f2 M, MS.f3 M, MS.f4 M, MS.f5 M, MS.f6 M, MS.f7 M, MS.f8 M, MS.f10 M, MS.f12 M, MS.f13 M, e]
    · obtain ⟨u, e, M1, f⟩ := ms_begins M k1 (a := 0) (b := 1) (c := 1) (by omega) (by omega) (by omega) (by omega)
      have eb : gBg 0 1 1 (H 0 0) = gFa H 7 := by
        rw [fa_7]
        unfold gBg gLk
        (repeat' split) <;> omega
      rw [eb] at M1
      refine ⟨u, ?_, M1, f⟩
      simp (disch := omega) only [p206_0, p206_1, p206_2, p206_3, p206_6, p206_9, p206_11, p206_14, p206_15, p206_18, p206_19, p206_20, p206_23, p206_26, p206_28, p206_31, p206_32, p206_35, p206_36, p206_40, p206_43, p206_44, p206_45, p206_48, p206_49, p206_51, p206_54, p206_55, p206_56, p206_59, p206_60, p206_62, p206_65, p206_66, p206_67, p206_70, p206_71, p206_74, p206_75, p206_76, p206_79, p206_82, p206_83, p206_86, p206_89, p206_90, p206_91, p206_92, p206_95, p206_98, p206_99, p206_102, p206_105, p206_106, p206_107, p206_108, p206_111, p206_114, p206_115, p206_118, p206_121, p206_122, p206_123, p206_124, p206_127i, p206_127a, p206_128, p206_131, p206_132, p206_133, p206_136, jwd_c, jwd_0, Nat.reduceLeDiff, Nat.reduceEqDiff, Nat.reduceAdd, Nat.reduceSub, Nat.reduceMul, Int.reduceAdd, Int.reduceSub, Int.reduceMul, Int.reduceNeg, Int.reduceEq, Int.reduceLT, Int.reduceLE, jq_ldi_i, jq_ldl_l, jq_lda_a, jq_inc_i, jq_gs_t, jq_gsb_t, jq_gb_t, jq_gr_2, jq_gr_4, jq_gw_2, jq_s_t, jq_b_t, jg_c, jg_n, js_c, js_n, jrm_c, jrm_n, j2_i, j2_l, j2_a, jq_c_i, jq_c_l, jq_c_0, jq_c_n, jwd_le, jw_c0, mS_I, mS_R, mS_J, mN_I, mN_R, mN_J, mR_I, mI_R, mJ_I, mJ_R, mI_J, mR_J, ↓reduceIte, decide_true, or_true, true_or, and_self, false_or, or_false, reduceCtorEq, Bool.false_eq_true, and_false, false_and, eq_self, true_and, and_true, zero_ne, ↓br_lt_t, ↓br_lt_f, ↓br_eq_t, ↓br_eq_f, ↓br_lz_t, ↓br_lz_f, ↓br_ez_t, ↓br_ez_f, ↓br_gz_t, ↓br_gz_f, jw_id, jin_t, jix_t, ↓ite_t, ↓ite_f, MS.a M, MS.r4 M, MS.b M, MS.f0 M, MS.f1 M, MS.f2 M, MS.f3 M, MS.f4 M, MS.f5 M, MS.f6 M, MS.f7 M, MS.f8 M, MS.f10 M, MS.f12 M, MS.f13 M, e]
  · by_cases zC : H 0 13 = -2
    · obtain ⟨u, e, M1, f⟩ := ms_begins M k1 (a := 0) (b := 0) (c := 0) (by omega) (by omega) (by omega) (by omega)
      have eb : gBg 0 0 0 (H 0 0) = gFa H 7 := by
        rw [fa_7]
        unfold gBg gLk
        (repeat' split) <;> omega
      rw [eb] at M1
      refine ⟨u, ?_, M1, f⟩
      simp (disch := omega) only [p206_0, p206_1, p206_2, p206_3, p206_6, p206_9, p206_11, p206_14, p206_15, p206_18, p206_19, p206_20, p206_23, p206_26, p206_28, p206_31, p206_32, p206_35, p206_36, p206_40, p206_43, p206_44, p206_45, p206_48, p206_49, p206_51, p206_54, p206_55, p206_56, p206_59, p206_60, p206_62, p206_65, p206_66, p206_67, p206_70, p206_71, p206_74, p206_75, p206_76, p206_79, p206_82, p206_83, p206_86, p206_89, p206_90, p206_91, p206_92, p206_95, p206_98, p206_99, p206_102, p206_105, p206_106, p206_107, p206_108, p206_111, p206_114, p206_115, p206_118, p206_121, p206_122, p206_123, p206_124, p206_127i, p206_127a, p206_128, p206_131, p206_132, p206_133, p206_136, jwd_c, jwd_0, Nat.reduceLeDiff, Nat.reduceEqDiff, Nat.reduceAdd, Nat.reduceSub, Nat.reduceMul, Int.reduceAdd, Int.reduceSub, Int.reduceMul, Int.reduceNeg, Int.reduceEq, Int.reduceLT, Int.reduceLE, jq_ldi_i, jq_ldl_l, jq_lda_a, jq_inc_i, jq_gs_t, jq_gsb_t, jq_gb_t, jq_gr_2, jq_gr_4, jq_gw_2, jq_s_t, jq_b_t, jg_c, jg_n, js_c, js_n, jrm_c, jrm_n, j2_i, j2_l, j2_a, jq_c_i, jq_c_l, jq_c_0, jq_c_n, jwd_le, jw_c0, mS_I, mS_R, mS_J, mN_I, mN_R, mN_J, mR_I, mI_R, mJ_I, mJ_R, mI_J, mR_J, ↓reduceIte, decide_true, or_true, true_or, and_self, false_or, or_false, reduceCtorEq, Bool.false_eq_true, and_false, false_and, eq_self, true_and, and_true, zero_ne, ↓br_lt_t, ↓br_lt_f, ↓br_eq_t, ↓br_eq_f, ↓br_lz_t, ↓br_lz_f, ↓br_ez_t, ↓br_ez_f, ↓br_gz_t, ↓br_gz_f, jw_id, jin_t, jix_t, ↓ite_t, ↓ite_f, MS.a M, MS.r4 M, MS.b M, MS.f0 M, MS.f1 M, MS.f2 M, MS.f3 M, MS.f4 M, MS.f5 M, MS.f6 M, MS.f7 M, MS.f8 M, MS.f10 M, MS.f12 M, MS.f13 M, e]
    · obtain ⟨u, e, M1, f⟩ := ms_begins M k1 (a := 0) (b := 0) (c := 1) (by omega) (by omega) (by omega) (by omega)
      have eb : gBg 0 0 1 (H 0 0) = gFa H 7 := by
        rw [fa_7]
        unfold gBg gLk
        (repeat' split) <;> omega
      rw [eb] at M1
      refine ⟨u, ?_, M1, f⟩
      simp (disch := omega) only [p206_0, p206_1, p206_2, p206_3, p206_6, p206_9, p206_11, p206_14, p206_15, p206_18, p206_19, p206_20, p206_23, p206_26, p206_28, p206_31, p206_32, p206_35, p206_36, p206_40, p206_43, p206_44, p206_45, p206_48, p206_49, p206_51, p206_54, p206_55, p206_56, p206_59, p206_60, p206_62, p206_65, p206_66, p206_67, p206_70, p206_71, p206_74, p206_75, p206_76, p206_79, p206_82, p206_83, p206_86, p206_89, p206_90, p206_91, p206_92, p206_95, p206_98, p206_99, p206_102, p206_105, p206_106, p206_107, p206_108, p206_111, p206_114, p206_115, p206_118, p206_121, p206_122, p206_123, p206_124, p206_127i, p206_127a, p206_128, p206_131, p206_132, p206_133, p206_136, jwd_c, jwd_0, Nat.reduceLeDiff, Nat.reduceEqDiff, Nat.reduceAdd, Nat.reduceSub, Nat.reduceMul, Int.reduceAdd, Int.reduceSub, Int.reduceMul, Int.reduceNeg, Int.reduceEq, Int.reduceLT, Int.reduceLE, jq_ldi_i, jq_ldl_l, jq_lda_a, jq_inc_i, jq_gs_t, jq_gsb_t, jq_gb_t, jq_gr_2, jq_gr_4, jq_gw_2, jq_s_t, jq_b_t, jg_c, jg_n, js_c, js_n, jrm_c, jrm_n, j2_i, j2_l, j2_a, jq_c_i, jq_c_l, jq_c_0, jq_c_n, jwd_le, jw_c0, mS_I, mS_R, mS_J, mN_I, mN_R, mN_J, mR_I, mI_R, mJ_I, mJ_R, mI_J, mR_J, ↓reduceIte, decide_true, or_true, true_or, and_self, false_or, or_false, reduceCtorEq, Bool.false_eq_true, and_false, false_and, eq_self, true_and, and_true, zero_ne, ↓br_lt_t, ↓br_lt_f, ↓br_eq_t, ↓br_eq_f, ↓br_lz_t, ↓br_lz_f, ↓br_ez_t, ↓br_ez_f, ↓br_gz_t, ↓br_gz_f, jw_id, jin_t, jix_t, ↓ite_t, ↓ite_f, MS.a M, MS.r4 M, MS.b M, MS.f0 M, MS.f1 M, MS.f2 M, MS.f3 M, MS.f4 M, MS.f5 M, MS.f6 M, MS.f7 M, MS.f8 M, MS.f10 M, MS.f12 M, MS.f13 M, e]
theorem mb_8 (M : MS w T n h H (.inl p)) (hi : HI H) (k1 : tK T n p = 1) : ∃ u, rn 207 (0, [(0, jvr 238)], [], w) = rn 207 (54, [(0, jvr 238)], [], u) ∧ MS u T n h H (gCom T n H 8 p) ∧ Ftk w u := by
  obtain ⟨n1, n2, n3, n4⟩ := hi.hn
  obtain ⟨q1, q2, q3, q4⟩ := hi.hp
  have hge := M.ge
  by_cases zA : H 0 13 = -2
  · by_cases zB : H 0 2 < H 0 1
    · by_cases zC : H 0 4 = 0
      · obtain ⟨u, e, M1, f⟩ := ms_begins M k1 (a := 0) (b := 0) (c := 1) (by omega) (by omega) (by omega) (by omega)
        have eb : gBg 0 0 1 (H 0 0) = gFa H 8 := by
          rw [fa_8]
          unfold gBg gLk
          (repeat' split) <;> omega
        rw [eb] at M1
        refine ⟨u, ?_, M1, f⟩
        simp (disch := omega) only [p207_0, p207_1, p207_2, p207_5, p207_8, p207_10, p207_13, p207_14, p207_17, p207_18, p207_19, p207_20, p207_23, p207_26, p207_27, p207_30, p207_33, p207_36, p207_37, p207_40, p207_43, p207_46, p207_47, p207_50, p207_51, p207_55, p207_58, p207_59, p207_60, p207_63, p207_64, p207_67, p207_68, p207_71, p207_72, p207_75, p207_78, p207_79, p207_81, p207_84, p207_85, p207_88, p207_89, p207_92, p207_93, p207_94, p207_95, p207_96, p207_100, p207_101, p207_104, p207_107, p207_110, p207_111, p207_114, p207_115, p207_118, p207_119, p207_122, p207_123, p207_124, p207_125, p207_126, p207_129, p207_130, p207_131, p207_134, p207_135, p207_138, p207_141, p207_142, p207_144, p207_147, p207_150, p207_153, p207_154, p207_157, p207_158, p207_161, p207_162, p207_165, p207_166, p207_167, p207_170, p207_171, p207_174, p207_175, p207_178, p207_179, p207_182, jwd_c, jwd_0, Nat.reduceLeDiff, Nat.reduceEqDiff, Nat.reduceAdd, Nat.reduceSub, Nat.reduceMul, Int.reduceAdd, Int.reduceSub, Int.reduceMul, Int.reduceNeg, Int.reduceEq, Int.reduceLT, Int.reduceLE, jq_ldi_i, jq_ldl_l, jq_lda_a, jq_inc_i, jq_gs_t, jq_gsb_t, jq_gb_t, jq_gr_2, jq_gr_4, jq_gw_2, jq_s_t, jq_b_t, jg_c, jg_n, js_c, js_n, jrm_c, jrm_n, j2_i, j2_l, j2_a, jq_c_i, jq_c_l, jq_c_0, jq_c_n, jwd_le, jw_c0, mS_I, mS_R, mS_J, mN_I, mN_R, mN_J, mR_I, mI_R, mJ_I, mJ_R, mI_J, mR_J, ↓reduceIte, decide_true, or_true, true_or, and_self, false_or, or_false, reduceCtorEq, Bool.false_eq_true, and_false, false_and, eq_self, true_and, and_true, zero_ne, ↓br_lt_t, ↓br_lt_f, ↓br_eq_t, ↓br_eq_f, ↓br_lz_t, ↓br_lz_f, ↓br_ez_t, ↓br_ez_f, ↓br_gz_t, ↓br_gz_f, jw_id, jin_t, jix_t, ↓ite_t, ↓ite_f, MS.a M, MS.r4 M, MS.b M, MS.f0 M, MS.f1 M, MS.f2 M, MS.f3 M, MS.f4 M, MS.f5 M, MS.f6 M, MS.f7 M, MS.f8 M, MS.f10 M, MS.f12 M, MS.f13 M, e]
      · obtain ⟨u, e, M1, f⟩ := ms_begins M k1 (a := 0) (b := 0) (c := 1) (by omega) (by omega) (by omega) (by omega)
        have eb : gBg 0 0 1 (H 0 0) = gFa H 8 := by
          rw [fa_8]
          unfold gBg gLk
          (repeat' split) <;> omega
        rw [eb] at M1
        refine ⟨u, ?_, M1, f⟩
        simp (disch := omega) only [p207_0, p207_1, p207_2, p207_5, p207_8, p207_10, p207_13, p207_14, p207_17, p207_18, p207_19, p207_20, p207_23, p207_26, p207_27, p207_30, p207_33, p207_36, p207_37, p207_40, p207_43, p207_46, p207_47, p207_50, p207_51, p207_55, p207_58, p207_59, p207_60, p207_63, p207_64, p207_67, p207_68, p207_71, p207_72, p207_75, p207_78, p207_79, p207_81, p207_84, p207_85, p207_88, p207_89, p207_92, p207_93, p207_94, p207_95, p207_96, p207_100, p207_101, p207_104, p207_107, p207_110, p207_111, p207_114, p207_115, p207_118, p207_119, p207_122, p207_123, p207_124, p207_125, p207_126, p207_129, p207_130, p207_131, p207_134, p207_135, p207_138, p207_141, p207_142, p207_144, p207_147, p207_150, p207_153, p207_154, p207_157, p207_158, p207_161, p207_162, p207_165, p207_166, p207_167, p207_170, p207_171, p207_174, p207_175, p207_178, p207_179, p207_182, jwd_c, jwd_0, Nat.reduceLeDiff, Nat.reduceEqDiff, Nat.reduceAdd, Nat.reduceSub, Nat.reduceMul, Int.reduceAdd, Int.reduceSub, Int.reduceMul, Int.reduceNeg, Int.reduceEq, Int.reduceLT, Int.reduceLE, jq_ldi_i, jq_ldl_l, jq_lda_a, jq_inc_i, jq_gs_t, jq_gsb_t, jq_gb_t, jq_gr_2, jq_gr_4, jq_gw_2, jq_s_t, jq_b_t, jg_c, jg_n, js_c, js_n, jrm_c, jrm_n, j2_i, j2_l, j2_a, jq_c_i, jq_c_l, jq_c_0, jq_c_n, jwd_le, jw_c0, mS_I, mS_R, mS_J, mN_I, mN_R, mN_J, mR_I, mI_R, mJ_I, mJ_R, mI_J, mR_J, ↓reduceIte, decide_true, or_true, true_or, and_self, false_or, or_false, reduceCtorEq, Bool.false_eq_true, and_false, false_and, eq_self, true_and, and_true, zero_ne, ↓br_lt_t, ↓br_lt_f, ↓br_eq_t, ↓br_eq_f, ↓br_lz_t, ↓br_lz_f, ↓br_ez_t, ↓br_ez_f, ↓br_gz_t, ↓br_gz_f, jw_id, jin_t, jix_t, ↓ite_t, ↓ite_f, MS.a M, MS.r4 M, MS.b M, MS.f0 M, MS.f1 M, MS.f2 M, MS.f3 M, MS.f4 M, MS.f5 M, MS.f6 M, MS.f7 M, MS.f8 M, MS.f10 M, MS.f12 M, MS.f13 M, e]
    · by_cases zC : H 0 4 = 0
      · obtain ⟨u, e, M1, f⟩ := ms_begins M k1 (a := 0) (b := 0) (c := 1) (by omega) (by omega) (by omega) (by omega)
        have eb : gBg 0 0 1 (H 0 0) = gFa H 8 := by
          rw [fa_8]
          unfold gBg gLk
          (repeat' split) <;> omega
        rw [eb] at M1
        refine ⟨u, ?_, M1, f⟩
        simp (disch := omega) only [p207_0, p207_1, p207_2, p207_5, p207_8, p207_10, p207_13, p207_14, p207_17, p207_18, p207_19, p207_20, p207_23, p207_26, p207_27, p207_30, p207_33, p207_36, p207_37, p207_40, p207_43, p207_46, p207_47, p207_50, p207_51, p207_55, p207_58, p207_59, p207_60, p207_63, p207_64, p207_67, p207_68, p207_71, p207_72, p207_75, p207_78, p207_79, p207_81, p207_84, p207_85, p207_88, p207_89, p207_92, p207_93, p207_94, p207_95, p207_96, p207_100, p207_101, p207_104, p207_107, p207_110, p207_111, p207_114, p207_115, p207_118, p207_119, p207_122, p207_123, p207_124, p207_125, p207_126, p207_129, p207_130, p207_131, p207_134, p207_135, p207_138, p207_141, p207_142, p207_144, p207_147, p207_150, p207_153, p207_154, p207_157, p207_158, p207_161, p207_162, p207_165, p207_166, p207_167, p207_170, p207_171, p207_174, p207_175, p207_178, p207_179, p207_182, jwd_c, jwd_0, Nat.reduceLeDiff, Nat.reduceEqDiff, Nat.reduceAdd, Nat.reduceSub, Nat.reduceMul, Int.reduceAdd, Int.reduceSub, Int.reduceMul, Int.reduceNeg, Int.reduceEq, Int.reduceLT, Int.reduceLE, jq_ldi_i, jq_ldl_l, jq_lda_a, jq_inc_i, jq_gs_t, jq_gsb_t, jq_gb_t, jq_gr_2, jq_gr_4, jq_gw_2, jq_s_t, jq_b_t, jg_c, jg_n, js_c, js_n, jrm_c, jrm_n, j2_i, j2_l, j2_a, jq_c_i, jq_c_l, jq_c_0, jq_c_n, jwd_le, jw_c0, mS_I, mS_R, mS_J, mN_I, mN_R, mN_J, mR_I, mI_R, mJ_I, mJ_R, mI_J, mR_J, ↓reduceIte, decide_true, or_true, true_or, and_self, false_or, or_false, reduceCtorEq, Bool.false_eq_true, and_false, false_and, eq_self, true_and, and_true, zero_ne, ↓br_lt_t, ↓br_lt_f, ↓br_eq_t, ↓br_eq_f, ↓br_lz_t, ↓br_lz_f, ↓br_ez_t, ↓br_ez_f, ↓br_gz_t, ↓br_gz_f, jw_id, jin_t, jix_t, ↓ite_t, ↓ite_f, MS.a M, MS.r4 M, MS.b M, MS.f0 M, MS.f1 M, MS.f2 M, MS.f3 M, MS.f4 M, MS.f5 M, MS.f6 M, MS.f7 M, MS.f8 M, MS.f10 M, MS.f12 M, MS.f13 M, e]
      · obtain ⟨u, e, M1, f⟩ := ms_begins M k1 (a := 0) (b := 0) (c := 0) (by omega) (by omega) (by omega) (by omega)
        have eb : gBg 0 0 0 (H 0 0) = gFa H 8 := by
          rw [fa_8]
          unfold gBg gLk
          (repeat' split) <;> omega
        rw [eb] at M1
        refine ⟨u, ?_, M1, f⟩
        simp (disch := omega) only [p207_0, p207_1, p207_2, p207_5, p207_8, p207_10, p207_13, p207_14, p207_17, p207_18, p207_19, p207_20, p207_23, p207_26, p207_27, p207_30, p207_33, p207_36, p207_37, p207_40, p207_43, p207_46, p207_47, p207_50, p207_51, p207_55, p207_58, p207_59, p207_60, p207_63, p207_64, p207_67, p207_68, p207_71, p207_72, p207_75, p207_78, p207_79, p207_81, p207_84, p207_85, p207_88, p207_89, p207_92, p207_93, p207_94, p207_95, p207_96, p207_100, p207_101, p207_104, p207_107, p207_110, p207_111, p207_114, p207_115, p207_118, p207_119, p207_122, p207_123, p207_124, p207_125, p207_126, p207_129, p207_130, p207_131, p207_134, p207_135, p207_138, p207_141, p207_142, p207_144, p207_147, p207_150, p207_153, p207_154, p207_157, p207_158, p207_161, p207_162, p207_165, p207_166, p207_167, p207_170, p207_171, p207_174, p207_175, p207_178, p207_179, p207_182, jwd_c, jwd_0, Nat.reduceLeDiff, Nat.reduceEqDiff, Nat.reduceAdd, Nat.reduceSub, Nat.reduceMul, Int.reduceAdd, Int.reduceSub, Int.reduceMul, Int.reduceNeg, Int.reduceEq, Int.reduceLT, Int.reduceLE, jq_ldi_i, jq_ldl_l, jq_lda_a, jq_inc_i, jq_gs_t, jq_gsb_t, jq_gb_t, jq_gr_2, jq_gr_4, jq_gw_2, jq_s_t, jq_b_t, jg_c, jg_n, js_c, js_n, jrm_c, jrm_n, j2_i, j2_l, j2_a, jq_c_i, jq_c_l, jq_c_0, jq_c_n, jwd_le, jw_c0, mS_I, mS_R, mS_J, mN_I, mN_R, mN_J, mR_I, mI_R, mJ_I, mJ_R, mI_J, mR_J, ↓reduceIte, decide_true, or_true, true_or, and_self, false_or, or_false, reduceCtorEq, Bool.false_eq_true, and_false, false_and, eq_self, true_and, and_true, zero_ne, ↓br_lt_t, ↓br_lt_f, ↓br_eq_t, ↓br_eq_f, ↓br_lz_t, ↓br_lz_f, ↓br_ez_t, ↓br_ez_f, ↓br_gz_t, ↓br_gz_f, jw_id, jin_t, jix_t, ↓ite_t, ↓ite_f, MS.a M, MS.r4 M, MS.b M, MS.f0 M, MS.f1 M, MS.f2 M, MS.f3 M, MS.f4 M, MS.f5 M, MS.f6 M, MS.f7 M, MS.f8 M, MS.f10 M, MS.f12 M, MS.f13 M, e]
  · by_cases zB : H 0 2 < H 0 1
    · by_cases zC : H 0 4 = 0
      · exfalso
        omega
      · exfalso
        omega
    · by_cases zC : H 0 4 = 0
      · obtain ⟨u, e, M1, f⟩ := ms_begins M k1 (a := 1) (b := 0) (c := 1) (by omega) (by omega) (by omega) (by omega)
        have eb : gBg 1 0 1 (H 0 0) = gFa H 8 := by
          rw [fa_8]
          unfold gBg gLk
          (repeat' split) <;> omega
        rw [eb] at M1
        refine ⟨u, ?_, M1, f⟩
        simp (disch := omega) only [p207_0, p207_1, p207_2, p207_5, p207_8, p207_10, p207_13, p207_14, p207_17, p207_18, p207_19, p207_20, p207_23, p207_26, p207_27, p207_30, p207_33, p207_36, p207_37, p207_40, p207_43, p207_46, p207_47, p207_50, p207_51, p207_55, p207_58, p207_59, p207_60, p207_63, p207_64, p207_67, p207_68, p207_71, p207_72, p207_75, p207_78, p207_79, p207_81, p207_84, p207_85, p207_88, p207_89, p207_92, p207_93, p207_94, p207_95, p207_96, p207_100, p207_101, p207_104, p207_107, p207_110, p207_111, p207_114, p207_115, p207_118, p207_119, p207_122, p207_123, p207_124, p207_125, p207_126, p207_129, p207_130, p207_131, p207_134, p207_135, p207_138, p207_141, p207_142, p207_144, p207_147, p207_150, p207_153, p207_154, p207_157, p207_158, p207_161, p207_162, p207_165, p207_166, p207_167, p207_170, p207_171, p207_174, p207_175, p207_178, p207_179, p207_182, jwd_c, jwd_0, Nat.reduceLeDiff, Nat.reduceEqDiff, Nat.reduceAdd, Nat.reduceSub, Nat.reduceMul, Int.reduceAdd, Int.reduceSub, Int.reduceMul, Int.reduceNeg, Int.reduceEq, Int.reduceLT, Int.reduceLE, jq_ldi_i, jq_ldl_l, jq_lda_a, jq_inc_i, jq_gs_t, jq_gsb_t, jq_gb_t, jq_gr_2, jq_gr_4, jq_gw_2, jq_s_t, jq_b_t, jg_c, jg_n, js_c, js_n, jrm_c, jrm_n, j2_i, j2_l, j2_a, jq_c_i, jq_c_l, jq_c_0, jq_c_n, jwd_le, jw_c0, mS_I, mS_R, mS_J, mN_I, mN_R, mN_J, mR_I, mI_R, mJ_I, mJ_R, mI_J, mR_J, ↓reduceIte, decide_true, or_true, true_or, and_self, false_or, or_false, reduceCtorEq, Bool.false_eq_true, and_false, false_and, eq_self, true_and, and_true, zero_ne, ↓br_lt_t, ↓br_lt_f, ↓br_eq_t, ↓br_eq_f, ↓br_lz_t, ↓br_lz_f, ↓br_ez_t, ↓br_ez_f, ↓br_gz_t, ↓br_gz_f, jw_id, jin_t, jix_t, ↓ite_t, ↓ite_f, MS.a M, MS.r4 M, MS.b M, MS.f0 M, MS.f1 M, MS.f2 M, MS.f3 M, MS.f4 M, MS.f5 M, MS.f6 M, MS.f7 M, MS.f8 M, MS.f10 M, MS.f12 M, MS.f13 M, e]
      · obtain ⟨u, e, M1, f⟩ := ms_begins M k1 (a := 1) (b := 0) (c := 0) (by omega) (by omega) (by omega) (by omega)
        have eb : gBg 1 0 0 (H 0 0) = gFa H 8 := by
          rw [fa_8]
          unfold gBg gLk
          (repeat' split) <;> omega
        rw [eb] at M1
        refine ⟨u, ?_, M1, f⟩
        simp (disch := omega) only [p207_0, p207_1, p207_2, p207_5, p207_8, p207_10, p207_13, p207_14, p207_17, p207_18, p207_19, p207_20, p207_23, p207_26, p207_27, p207_30, p207_33, p207_36, p207_37, p207_40, p207_43, p207_46, p207_47, p207_50, p207_51, p207_55, p207_58, p207_59, p207_60, p207_63, p207_64, p207_67, p207_68, p207_71, p207_72, p207_75, p207_78, p207_79, p207_81, p207_84, p207_85, p207_88, p207_89, p207_92, p207_93, p207_94, p207_95, p207_96, p207_100, p207_101, p207_104, p207_107, p207_110, p207_111, p207_114, p207_115, p207_118, p207_119, p207_122, p207_123, p207_124, p207_125, p207_126, p207_129, p207_130, p207_131, p207_134, p207_135, p207_138, p207_141, p207_142, p207_144, p207_147, p207_150, p207_153, p207_154, p207_157, p207_158, p207_161, p207_162, p207_165, p207_166, p207_167, p207_170, p207_171, p207_174, p207_175, p207_178, p207_179, p207_182, jwd_c, jwd_0, Nat.reduceLeDiff, Nat.reduceEqDiff, Nat.reduceAdd, Nat.reduceSub, Nat.reduceMul, Int.reduceAdd, Int.reduceSub, Int.reduceMul, Int.reduceNeg, Int.reduceEq, Int.reduceLT, Int.reduceLE, jq_ldi_i, jq_ldl_l, jq_lda_a, jq_inc_i, jq_gs_t, jq_gsb_t, jq_gb_t, jq_gr_2, jq_gr_4, jq_gw_2, jq_s_t, jq_b_t, jg_c, jg_n, js_c, js_n, jrm_c, jrm_n, j2_i, j2_l, j2_a, jq_c_i, jq_c_l, jq_c_0, jq_c_n, jwd_le, jw_c0, mS_I, mS_R, mS_J, mN_I, mN_R, mN_J, mR_I, mI_R, mJ_I, mJ_R, mI_J, mR_J, ↓reduceIte, decide_true, or_true, true_or, and_self, false_or, or_false, reduceCtorEq, Bool.false_eq_true, and_false, false_and, eq_self, true_and, and_true, zero_ne, ↓br_lt_t, ↓br_lt_f, ↓br_eq_t, ↓br_eq_f, ↓br_lz_t, ↓br_lz_f, ↓br_ez_t, ↓br_ez_f, ↓br_gz_t, ↓br_gz_f, jw_id, jin_t, jix_t, ↓ite_t, ↓ite_f, MS.a M, MS.r4 M, MS.b M, MS.f0 M, MS.f1 M, MS.f2 M, MS.f3 M, MS.f4 M, MS.f5 M, MS.f6 M, MS.f7 M, MS.f8 M, MS.f10 M, MS.f12 M, MS.f13 M, e]
theorem mb_9 (M : MS w T n h H (.inl p)) (hi : HI H) (k1 : tK T n p = 1) : ∃ u, rn 211 (0, [(0, jvr 238)], [], w) = rn 211 (23, [(0, jvr 238)], [], u) ∧ MS u T n h H (gCom T n H 9 p) ∧ Ftk w u := by
  obtain ⟨n1, n2, n3, n4⟩ := hi.hn
  obtain ⟨q1, q2, q3, q4⟩ := hi.hp
  have hge := M.ge
  by_cases zA : H 0 8 = 8
  · obtain ⟨u, e, M1, f⟩ := ms_begins M k1 (a := 0) (b := 1) (c := 0) (by omega) (by omega) (by omega) (by omega)
    have eb : gBg 0 1 0 (H 0 0) = gFa H 9 := by
      rw [fa_9]
      unfold gBg gLk
      (repeat' split) <;> omega
    rw [eb] at M1
    refine ⟨u, ?_, M1, f⟩
    simp (disch := omega) only [p211_0, p211_1, p211_2, p211_3, p211_6, p211_9, p211_11, p211_14, p211_15, p211_18, p211_19, p211_20, p211_24, p211_25, p211_27, p211_30, p211_31, p211_32, p211_33, p211_34, p211_37, p211_40, p211_41, p211_42, p211_45, p211_46, p211_47, p211_50, p211_53, p211_54, p211_57, p211_58, p211_59, p211_62, p211_63, p211_66, p211_67, p211_70, p211_71, p211_72, p211_75, p211_78, p211_79, p211_82, p211_85, p211_86, p211_87, p211_88, p211_91, p211_94, p211_95, p211_98, p211_101, p211_102, p211_103, p211_104, p211_107, p211_110, p211_111, p211_114, p211_117, p211_118, p211_119, p211_120, p211_123i, p211_123a, p211_124, p211_127, p211_128, p211_129, p211_132, jwd_c, jwd_0, Nat.reduceLeDiff, Nat.reduceEqDiff, Nat.reduceAdd, Nat.reduceSub, Nat.reduceMul, Int.reduceAdd, Int.reduceSub, Int.reduceMul, Int.reduceNeg, Int.reduceEq, Int.reduceLT, Int.reduceLE, jq_ldi_i, jq_ldl_l, jq_lda_a, jq_inc_i, jq_gs_t, jq_gsb_t, jq_gb_t, jq_gr_2, jq_gr_4, jq_gw_2, jq_s_t, jq_b_t, jg_c, jg_n, js_c, js_n, jrm_c, jrm_n, j2_i, j2_l, j2_a, jq_c_i, jq_c_l, jq_c_0, jq_c_n, jwd_le, jw_c0, mS_I, mS_R, mS_J, mN_I, mN_R, mN_J, mR_I, mI_R, mJ_I, mJ_R, mI_J, mR_J, ↓reduceIte, decide_true, or_true, true_or, and_self, false_or, or_false, reduceCtorEq, Bool.false_eq_true, and_false, false_and, eq_self, true_and, and_true, zero_ne, ↓br_lt_t, ↓br_lt_f, ↓br_eq_t, ↓br_eq_f, ↓br_lz_t, ↓br_lz_f, ↓br_ez_t, ↓br_ez_f, ↓br_gz_t, ↓br_gz_f, jw_id, jin_t, jix_t, ↓ite_t, ↓ite_f, MS.a M, MS.r4 M, MS.b M, MS.f0 M, MS.f1 M, MS.f2 M, MS.f3 M, MS.f4 M, MS.f5 M, MS.f6 M, MS.f7 M, MS.f8 M, MS.f10 M, MS.f12 M, MS.f13 M, e]
  · obtain ⟨u, e, M1, f⟩ := ms_begins M k1 (a := 0) (b := 0) (c := 0) (by omega) (by omega) (by omega) (by omega)
    have eb : gBg 0 0 0 (H 0 0) = gFa H 9 := by
      rw [fa_9]
      unfold gBg gLk
      (repeat' split) <;> omega
    rw [eb] at M1
    refine ⟨u, ?_, M1, f⟩
    simp (disch := omega) only [p211_0, p211_1, p211_2, p211_3, p211_6, p211_9, p211_11, p211_14, p211_15, p211_18, p211_19, p211_20, p211_24, p211_25, p211_27, p211_30, p211_31, p211_32, p211_33, p211_34, p211_37, p211_40, p211_41, p211_42, p211_45, p211_46, p211_47, p211_50, p211_53, p211_54, p211_57, p211_58, p211_59, p211_62, p211_63, p211_66, p211_67, p211_70, p211_71, p211_72, p211_75, p211_78, p211_79, p211_82, p211_85, p211_86, p211_87, p211_88, p211_91, p211_94, p211_95, p211_98, p211_101, p211_102, p211_103, p211_104, p211_107, p211_110, p211_111, p211_114, p211_117, p211_118, p211_119, p211_120, p211_123i, p211_123a, p211_124, p211_127, p211_128, p211_129, p211_132, jwd_c, jwd_0, Nat.reduceLeDiff, Nat.reduceEqDiff, Nat.reduceAdd, Nat.reduceSub, Nat.reduceMul, Int.reduceAdd, Int.reduceSub, Int.reduceMul, Int.reduceNeg, Int.reduceEq, Int.reduceLT, Int.reduceLE, jq_ldi_i, jq_ldl_l, jq_lda_a, jq_inc_i, jq_gs_t, jq_gsb_t, jq_gb_t, jq_gr_2, jq_gr_4, jq_gw_2, jq_s_t, jq_b_t, jg_c, jg_n, js_c, js_n, jrm_c, jrm_n, j2_i, j2_l, j2_a, jq_c_i, jq_c_l, jq_c_0, jq_c_n, jwd_le, jw_c0, mS_I, mS_R, mS_J, mN_I, mN_R, mN_J, mR_I, mI_R, mJ_I, mJ_R, mI_J, mR_J, ↓reduceIte, decide_true, or_true, true_or, and_self, false_or, or_false, reduceCtorEq, Bool.false_eq_true, and_false, false_and, eq_self, true_and, and_true, zero_ne, ↓br_lt_t, ↓br_lt_f, ↓br_eq_t, ↓br_eq_f, ↓br_lz_t, ↓br_lz_f, ↓br_ez_t, ↓br_ez_f, ↓br_gz_t, ↓br_gz_f, jw_id, jin_t, jix_t, ↓ite_t, ↓ite_f, MS.a M, MS.r4 M, MS.b M, MS.f0 M, MS.f1 M, MS.f2 M, MS.f3 M, MS.f4 M, MS.f5 M, MS.f6 M, MS.f7 M, MS.f8 M, MS.f10 M, MS.f12 M, MS.f13 M, e]
end BEGM
