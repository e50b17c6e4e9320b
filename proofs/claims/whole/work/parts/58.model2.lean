/-! The model: the other row, beats on it. -/
/-- what a foretelling may change of the model -/
def Km (a : Nat) (w u : jmW) : Prop := Fr (fun b => b = 238 ∨ b = a ∨ (245 ≤ b ∧ b ≤ 251)) w u ∧ mR u = mR w ∧ ∀ k, k < 26 → mI u 238 k = mI w 238 k
def MF (w : jmW) (a h : Nat) (H : Nat → Nat → Int) (L : Int) (S : Nat → Int) (al : Int) (x : gX) : Prop := MO w ∧ MH w h H ∧ mR w 238 3 = some h ∧ mI w a = x.1 ∧ mI w 248 = x.2.1 ∧ mI w 238 31 = x.2.2.1 ∧ mI w 238 32 = x.2.2.2.1 ∧ mI w 238 27 = L ∧ mI w 238 26 = al ∧ mI w 247 = S
theorem Km.rf (a : Nat) (w : jmW) : Km a w w := ⟨Fr.rf _ _, rfl, fun _ _ => rfl⟩
theorem Km.tr {a : Nat} {w u v : jmW} (h1 : Km a w u) (h2 : Km a u v) : Km a w v := ⟨h1.1.tr h2.1, h2.2.1.trans h1.2.1, fun k hk => (h2.2.2 k hk).trans (h1.2.2 k hk)⟩
theorem MO.frR {w u : jmW} (h : MO w) (e1 : mS u = mS w) (e2 : mR u = mR w) : MO u := by
  unfold MO at h ⊢
  rw [e1, e2]
  exact h
theorem Km.I {a k : Nat} {w : jmW} {x : Int} (h : 26 ≤ k) : Km a w (setI w 238 k x) := ⟨Fr.I (Or.inl rfl), rfl, fun j hj => mI_nk (by omega)⟩
theorem Km.A {a b : Nat} {w : jmW} {f : Nat → Int} (h : b = a ∨ (245 ≤ b ∧ b ≤ 251)) (hb : b ≠ 238) : Km a w (setA w b f) := ⟨Fr.A (Or.inr h), rfl, fun j hj => congrFun (mI_nA (by omega)) j⟩
theorem Km.B {a b k : Nat} {w : jmW} {x : Int} (h : b = a ∨ (245 ≤ b ∧ b ≤ 251)) (hb : b ≠ 238) : Km a w (setI w b k x) := ⟨Fr.I (Or.inr h), rfl, fun j hj => congrFun (mI_nb (by omega)) j⟩
theorem MH.frF {P : Nat → Prop} {w u : jmW} {h : Nat} {H : Nat → Nat → Int} (g : MH w h H) (f : Fr P w u) (hP : ∀ b, 252 ≤ b → ¬ P b) : MH u h H := by
  have hge := g.ge
  unfold MH at g ⊢
  rw [f.q, f.Rq (hP h (by omega)), f.Iq (hP h (by omega)), f.Iq (hP (h + 1) (by omega)), f.Iq (hP (h + 2) (by omega)), f.Iq (hP (h + 3) (by omega)), f.Iq (hP (h + 4) (by omega)), f.Iq (hP (h + 5) (by omega)), f.Iq (hP (h + 6) (by omega)), f.Iq (hP (h + 7) (by omega)), f.Iq (hP (h + 8) (by omega)), f.Iq (hP (h + 9) (by omega)), f.Iq (hP (h + 10) (by omega)), f.Iq (hP (h + 11) (by omega)), f.Iq (hP (h + 12) (by omega)), f.Iq (hP (h + 13) (by omega)), f.Iq (hP (h + 14) (by omega)), f.Iq (hP (h + 15) (by omega))]
  exact g
section MODEL2
variable {w u : jmW} {a h : Nat} {H : Nat → Nat → Int} {r : Nat → Int} {B : Int} {L : Int} {S : Nat → Int} {al st : Int}
theorem mF_beat {x : gX} (hm : MF w a h H L S al x) (ha : a = 241 ∨ a = 242) (hk : HOK H) (al1 : 0 ≤ al) (al3 : al ≤ 3) (l1 : 0 ≤ L) (l2 : L ≤ 12) (s1 : ∀ k, k < 12 → 0 ≤ S k ∧ S k ≤ 3) (ri : RI H B x.1) (hB : B < 2147483600) (st1 : st = 0 ∨ st = 1) : ∃ u, rn 238 (0, [(0, jvr 238), (1, jvr a), (2, .inl st)], [], w) = some (none, u) ∧ MF u a h H L S al (gBeat H L S al st x) ∧ mI u 238 30 = (gBeat H L S al st x).2.2.2.2 ∧ Km a w u ∧ ∀ k, 33 ≤ k → mI u 238 k = mI w 238 k := by
  obtain ⟨r, g, o, j, tn⟩ := x
  obtain ⟨m1, m2, m3, m4, m5, m6, m7, m8, m9, m10⟩ := hm
  dsimp only at m4 m5 m6 m7 ri
  have hge := m2.ge
  have hs : mS w a = (2, 0, 298) := by
    rcases ha with rfl | rfl
    · exact m1.s3
    · exact m1.s4
  obtain ⟨F, Q, e⟩ := m_beat (O := mI w 238) m1 m2 m3 ha hs hk m4 m5 rfl m8 m9 al1 al3 m10 l1 l2 s1 ri hB st1 (tn := tn)
  rw [m6, m7] at e
  generalize gBeat H L S al st (r, g, o, j, tn) = y at *
  refine ⟨_, e, ⟨m1.frR rfl rfl, ((((m2.A (by omega)).A (by omega)).A (by omega)).A (by omega)).A (by omega), m3, ?_, mI_A _ _ _, ?_, ?_, ?_, ?_, ?_⟩, ?_, ⟨(((((Fr.A (Or.inl rfl)).tr (Fr.A (Or.inr (Or.inl rfl)))).tr (Fr.A (Or.inr (Or.inr ⟨by omega, by omega⟩)))).tr (Fr.A (Or.inr (Or.inr ⟨by omega, by omega⟩)))).tr (Fr.A (Or.inr (Or.inr ⟨by omega, by omega⟩)))), rfl, ?_⟩, ?_⟩
  · rw [mI_nA (by omega), mI_nA (by omega), mI_nA (by omega), mI_A]
  · rw [mI_nA (by omega), mI_nA (by omega), mI_nA (by omega), mI_nA (by omega), mI_A]
    unfold gO
    rw [up1_n (by omega), up1_s]
  · rw [mI_nA (by omega), mI_nA (by omega), mI_nA (by omega), mI_nA (by omega), mI_A]
    unfold gO
    rw [up1_s]
  · rw [mI_nA (by omega), mI_nA (by omega), mI_nA (by omega), mI_nA (by omega), mI_A]
    unfold gO
    rw [up1_n (by omega), up1_n (by omega), up1_n (by omega)]
    exact m8
  · rw [mI_nA (by omega), mI_nA (by omega), mI_nA (by omega), mI_nA (by omega), mI_A]
    unfold gO
    rw [up1_n (by omega), up1_n (by omega), up1_n (by omega)]
    exact m9
  · rw [mI_nA (by omega), mI_nA (by omega), mI_nA (by omega), mI_nA (by omega), mI_nA (by omega)]
    exact m10
  · rw [mI_nA (by omega), mI_nA (by omega), mI_nA (by omega), mI_nA (by omega), mI_A]
    unfold gO
    rw [up1_n (by omega), up1_n (by omega), up1_s]
  · intro k hk2
    rw [mI_nA (by omega), mI_nA (by omega), mI_nA (by omega), mI_nA (by omega), mI_A]
    unfold gO
    rw [up1_n (by omega), up1_n (by omega), up1_n (by omega)]
  · intro k hk2
    rw [mI_nA (by omega), mI_nA (by omega), mI_nA (by omega), mI_nA (by omega), mI_A]
    unfold gO
    rw [up1_n (by omega), up1_n (by omega), up1_n (by omega)]
/-- a row copied over another's numbers -/
def gCp (r q : Nat → Int) : Nat → Int := fun k => if k < 298 then r k else q k
theorem copies_loop (hm : MO w) : ∀ (n : Nat) (i : Int) (q : Nat → Int), 0 ≤ i → i + n = 298 → rn 236 (2, [(0, jvr 238), (1, .inl i)], [], setA w 242 q) = some (none, setA w 242 (fun k => if i ≤ k ∧ k < 298 then mI w 241 k else q k)) := by
  intro n
  induction n with
  | zero =>
    intro i q i1 i2
    have e : (fun k : Nat => if i ≤ k ∧ k < 298 then mI w 241 k else q k) = q := by
      funext k
      rw [if_neg (by omega)]
    rw [e, p236_2]
    simp (disch := omega) only [p236_0, p236_1, p236_3, p236_6, p236_9, p236_10, p236_13, p236_14, p236_15, p236_18, p236_19, p236_20, p236_21, p236_24, p236_27, jwd_c, jwd_0, Nat.reduceLeDiff, Nat.reduceEqDiff, Nat.reduceAdd, Nat.reduceSub, Nat.reduceMul, Int.reduceAdd, Int.reduceSub, Int.reduceMul, Int.reduceNeg, Int.reduceEq, Int.reduceLT, Int.reduceLE, jq_ldi_i, jq_ldl_l, jq_lda_a, jq_inc_i, jq_gs_t, jq_gsb_t, jq_gb_t, jq_gr_2, jq_gr_4, jq_gw_2, jq_s_t, jq_b_t, jg_c, jg_n, js_c, js_n, jrm_c, jrm_n, j2_i, j2_l, j2_a, jq_c_i, jq_c_l, jq_c_0, jq_c_n, jwd_le, jw_c0, mS_I, mS_R, mS_J, mN_I, mN_R, mN_J, mR_I, mI_R, mJ_I, mJ_R, mI_J, mR_J, ↓reduceIte, decide_true, or_true, true_or, and_self, false_or, or_false, reduceCtorEq, Bool.false_eq_true, and_false, false_and, eq_self, true_and, and_true, zero_ne, ↓br_lt_t, ↓br_lt_f, ↓br_eq_t, ↓br_eq_f, ↓br_lz_t, ↓br_lz_f, ↓br_ez_t, ↓br_ez_f, ↓br_gz_t, ↓br_gz_f, jw_id, jin_t, jix_t]
  | succ n ih =>
    intro i q i1 i2
    have e := ih (i + 1) (up1 q i.toNat (mI w 241 i.toNat)) (by omega) (by omega)
    have e2 : (fun k : Nat => if i + 1 ≤ k ∧ k < 298 then mI w 241 k else up1 q i.toNat (mI w 241 i.toNat) k) = (fun k : Nat => if i ≤ k ∧ k < 298 then mI w 241 k else q k) := by
      funext k
      by_cases z : k = i.toNat
      · rw [z, if_neg (by omega), if_pos (by omega), up1_s]
      · rw [up1_n z]
        by_cases y : i ≤ k ∧ k < 298
        · rw [if_pos y, if_pos (by omega)]
        · rw [if_neg y, if_neg (by omega)]
    rw [e2] at e
    rw [← e, p236_2]
    simp (disch := omega) only [p236_0, p236_1, p236_3, p236_6, p236_9, p236_10, p236_13, p236_14, p236_15, p236_18, p236_19, p236_20, p236_21, p236_24, p236_27, jwd_c, jwd_0, Nat.reduceLeDiff, Nat.reduceEqDiff, Nat.reduceAdd, Nat.reduceSub, Nat.reduceMul, Int.reduceAdd, Int.reduceSub, Int.reduceMul, Int.reduceNeg, Int.reduceEq, Int.reduceLT, Int.reduceLE, jq_ldi_i, jq_ldl_l, jq_lda_a, jq_inc_i, jq_gs_t, jq_gsb_t, jq_gb_t, jq_gr_2, jq_gr_4, jq_gw_2, jq_s_t, jq_b_t, jg_c, jg_n, js_c, js_n, jrm_c, jrm_n, j2_i, j2_l, j2_a, jq_c_i, jq_c_l, jq_c_0, jq_c_n, jwd_le, jw_c0, mS_I, mS_R, mS_J, mN_I, mN_R, mN_J, mR_I, mI_R, mJ_I, mJ_R, mI_J, mR_J, ↓reduceIte, decide_true, or_true, true_or, and_self, false_or, or_false, reduceCtorEq, Bool.false_eq_true, and_false, false_and, eq_self, true_and, and_true, zero_ne, ↓br_lt_t, ↓br_lt_f, ↓br_eq_t, ↓br_eq_f, ↓br_lz_t, ↓br_lz_f, ↓br_ez_t, ↓br_ez_f, ↓br_gz_t, ↓br_gz_f, jw_id, jin_t, jix_t, mI_A, mI_nA, up1_s, up1_n, mS_A, mR_A, mJ_A, mN_A, setI_A, setA_A, sw_238, sw_239, sw_240, sw_241, sw_242, sw_243, sw_244, sw_245, sw_246, sw_247, sw_248, sw_249, sw_250, sw_251, Int.reduceToNat, Int.toNat_natCast, MO.s0 hm, MO.s1 hm, MO.s2 hm, MO.s3 hm, MO.s4 hm, MO.s5 hm, MO.s6 hm, MO.s7 hm, MO.s8 hm, MO.s9 hm, MO.s10 hm, MO.s11 hm, MO.s12 hm, MO.s13 hm, MO.r1 hm, MO.r2 hm, MO.r3 hm, MO.r4 hm, MO.r5 hm, MO.r6 hm, MO.r7 hm, MO.r8 hm, MO.r9 hm, MO.r10 hm, MO.r11 hm, MO.r12 hm, MO.r13 hm]
theorem m_copies (hm : MO w) : rn 236 (0, [(0, jvr 238)], [], w) = some (none, setA w 242 (gCp (mI w 241) (mI w 242))) := by
  have e := copies_loop hm 298 0 (mI w 242) (by omega) (by omega)
  rw [setA_self] at e
  have e2 : (fun k : Nat => if (0 : Int) ≤ k ∧ k < 298 then mI w 241 k else mI w 242 k) = gCp (mI w 241) (mI w 242) := by
    funext k
    unfold gCp
    by_cases y : k < 298
    · rw [if_pos y, if_pos (by omega)]
    · rw [if_neg y, if_neg (by omega)]
  rw [e2] at e
  rw [← e]
  simp (disch := omega) only [p236_0, p236_1, p236_3, p236_6, p236_9, p236_10, p236_13, p236_14, p236_15, p236_18, p236_19, p236_20, p236_21, p236_24, p236_27, jwd_c, jwd_0, Nat.reduceLeDiff, Nat.reduceEqDiff, Nat.reduceAdd, Nat.reduceSub, Nat.reduceMul, Int.reduceAdd, Int.reduceSub, Int.reduceMul, Int.reduceNeg, Int.reduceEq, Int.reduceLT, Int.reduceLE, jq_ldi_i, jq_ldl_l, jq_lda_a, jq_inc_i, jq_gs_t, jq_gsb_t, jq_gb_t, jq_gr_2, jq_gr_4, jq_gw_2, jq_s_t, jq_b_t, jg_c, jg_n, js_c, js_n, jrm_c, jrm_n, j2_i, j2_l, j2_a, jq_c_i, jq_c_l, jq_c_0, jq_c_n, jwd_le, jw_c0, mS_I, mS_R, mS_J, mN_I, mN_R, mN_J, mR_I, mI_R, mJ_I, mJ_R, mI_J, mR_J, ↓reduceIte, decide_true, or_true, true_or, and_self, false_or, or_false, reduceCtorEq, Bool.false_eq_true, and_false, false_and, eq_self, true_and, and_true, zero_ne, ↓br_lt_t, ↓br_lt_f, ↓br_eq_t, ↓br_eq_f, ↓br_lz_t, ↓br_lz_f, ↓br_ez_t, ↓br_ez_f, ↓br_gz_t, ↓br_gz_f, jw_id, jin_t, jix_t]
def gS1 (H : Nat → Nat → Int) (q : Nat → Int) : Nat → Int := fun k => if k < 12 then H 28 k else q k
def gG0 (q : Nat → Int) : Nat → Int := fun k => if k < 128 then 0 else q k
theorem pl_loop1 (hm : MO w) (hh : MH w h H) (h3 : mR w 238 3 = some h) : ∀ (n : Nat) (i : Int) (q : Nat → Int), 0 ≤ i → i + n = 12 → rn 237 (18, [(0, jvr 238), (1, .inl i)], [], setA w 247 q) = rn 237 (45, [(0, jvr 238), (1, .inl 12)], [], setA w 247 (fun k => if i ≤ k ∧ k < 12 then H 28 k else q k)) := by
  have hge := hh.ge
  intro n
  induction n with
  | zero =>
    intro i q i1 i2
    have e0 : i = 12 := by omega
    subst e0
    have e : (fun k : Nat => if (12 : Int) ≤ k ∧ k < 12 then H 28 k else q k) = q := by
      funext k
      rw [if_neg (by omega)]
    rw [e, p237_18]
    simp (disch := omega) only [p237_0, p237_1, p237_2, p237_5, p237_6, p237_7, p237_10, p237_13, p237_16, p237_17, p237_19, p237_21, p237_24, p237_25, p237_28, p237_29, p237_30, p237_33, p237_36, p237_37, p237_38, p237_39, p237_42, p237_46, p237_48, p237_49, p237_52, p237_53, p237_56, p237_57, p237_60, p237_61, p237_62, p237_63, p237_66, p237_69, p237_70, p237_71, p237_74, p237_75, p237_76, p237_79, jwd_c, jwd_0, Nat.reduceLeDiff, Nat.reduceEqDiff, Nat.reduceAdd, Nat.reduceSub, Nat.reduceMul, Int.reduceAdd, Int.reduceSub, Int.reduceMul, Int.reduceNeg, Int.reduceEq, Int.reduceLT, Int.reduceLE, jq_ldi_i, jq_ldl_l, jq_lda_a, jq_inc_i, jq_gs_t, jq_gsb_t, jq_gb_t, jq_gr_2, jq_gr_4, jq_gw_2, jq_s_t, jq_b_t, jg_c, jg_n, js_c, js_n, jrm_c, jrm_n, j2_i, j2_l, j2_a, jq_c_i, jq_c_l, jq_c_0, jq_c_n, jwd_le, jw_c0, mS_I, mS_R, mS_J, mN_I, mN_R, mN_J, mR_I, mI_R, mJ_I, mJ_R, mI_J, mR_J, ↓reduceIte, decide_true, or_true, true_or, and_self, false_or, or_false, reduceCtorEq, Bool.false_eq_true, and_false, false_and, eq_self, true_and, and_true, zero_ne, ↓br_lt_t, ↓br_lt_f, ↓br_eq_t, ↓br_eq_f, ↓br_lz_t, ↓br_lz_f, ↓br_ez_t, ↓br_ez_f, ↓br_gz_t, ↓br_gz_f, jw_id, jin_t, jix_t]
  | succ n ih =>
    intro i q i1 i2
    have e := ih (i + 1) (up1 q i.toNat (H 28 i.toNat)) (by omega) (by omega)
    have e2 : (fun k : Nat => if i + 1 ≤ k ∧ k < 12 then H 28 k else up1 q i.toNat (H 28 i.toNat) k) = (fun k : Nat => if i ≤ k ∧ k < 12 then H 28 k else q k) := by
      funext k
      by_cases z : k = i.toNat
      · rw [z, if_neg (by omega), if_pos (by omega), up1_s]
      · rw [up1_n z]
        by_cases y : i ≤ k ∧ k < 12
        · rw [if_pos y, if_pos (by omega)]
        · rw [if_neg y, if_neg (by omega)]
    rw [e2] at e
    rw [← e, p237_18]
    simp (disch := omega) only [p237_0, p237_1, p237_2, p237_5, p237_6, p237_7, p237_10, p237_13, p237_16, p237_17, p237_19, p237_21, p237_24, p237_25, p237_28, p237_29, p237_30, p237_33, p237_36, p237_37, p237_38, p237_39, p237_42, p237_46, p237_48, p237_49, p237_52, p237_53, p237_56, p237_57, p237_60, p237_61, p237_62, p237_63, p237_66, p237_69, p237_70, p237_71, p237_74, p237_75, p237_76, p237_79, jwd_c, jwd_0, Nat.reduceLeDiff, Nat.reduceEqDiff, Nat.reduceAdd, Nat.reduceSub, Nat.reduceMul, Int.reduceAdd, Int.reduceSub, Int.reduceMul, Int.reduceNeg, Int.reduceEq, Int.reduceLT, Int.reduceLE, jq_ldi_i, jq_ldl_l, jq_lda_a, jq_inc_i, jq_gs_t, jq_gsb_t, jq_gb_t, jq_gr_2, jq_gr_4, jq_gw_2, jq_s_t, jq_b_t, jg_c, jg_n, js_c, js_n, jrm_c, jrm_n, j2_i, j2_l, j2_a, jq_c_i, jq_c_l, jq_c_0, jq_c_n, jwd_le, jw_c0, mS_I, mS_R, mS_J, mN_I, mN_R, mN_J, mR_I, mI_R, mJ_I, mJ_R, mI_J, mR_J, ↓reduceIte, decide_true, or_true, true_or, and_self, false_or, or_false, reduceCtorEq, Bool.false_eq_true, and_false, false_and, eq_self, true_and, and_true, zero_ne, ↓br_lt_t, ↓br_lt_f, ↓br_eq_t, ↓br_eq_f, ↓br_lz_t, ↓br_lz_f, ↓br_ez_t, ↓br_ez_f, ↓br_gz_t, ↓br_gz_f, jw_id, jin_t, jix_t, mI_A, mI_nA, up1_s, up1_n, mS_A, mR_A, mJ_A, mN_A, setI_A, setA_A, sw_238, sw_239, sw_240, sw_241, sw_242, sw_243, sw_244, sw_245, sw_246, sw_247, sw_248, sw_249, sw_250, sw_251, Int.reduceToNat, Int.toNat_natCast, MO.s0 hm, MO.s1 hm, MO.s2 hm, MO.s3 hm, MO.s4 hm, MO.s5 hm, MO.s6 hm, MO.s7 hm, MO.s8 hm, MO.s9 hm, MO.s10 hm, MO.s11 hm, MO.s12 hm, MO.s13 hm, MO.r1 hm, MO.r2 hm, MO.r3 hm, MO.r4 hm, MO.r5 hm, MO.r6 hm, MO.r7 hm, MO.r8 hm, MO.r9 hm, MO.r10 hm, MO.r11 hm, MO.r12 hm, MO.r13 hm, MH.s hh, MH.s1 hh, MH.s2 hh, MH.s3 hh, MH.s4 hh, MH.s5 hh, MH.s6 hh, MH.s7 hh, MH.s8 hh, MH.s9 hh, MH.s10 hh, MH.s11 hh, MH.s12 hh, MH.s13 hh, MH.s14 hh, MH.s15 hh, MH.r1 hh, MH.r2 hh, MH.r3 hh, MH.r4 hh, MH.r5 hh, MH.r6 hh, MH.r7 hh, MH.r8 hh, MH.r9 hh, MH.r10 hh, MH.r11 hh, MH.r12 hh, MH.r13 hh, MH.r14 hh, MH.r15 hh, MH.f0 hh, MH.f1 hh, MH.f2 hh, MH.f3 hh, MH.f4 hh, MH.f5 hh, MH.f6 hh, MH.f7 hh, MH.f8 hh, MH.f9 hh, MH.f10 hh, MH.f11 hh, MH.f12 hh, MH.f13 hh, MH.f14 hh, MH.f15 hh, MH.f16 hh, MH.a1 hh, MH.a2 hh, MH.a3 hh, MH.a4 hh, MH.a5 hh, MH.a6 hh, MH.a7 hh, MH.a8 hh, MH.a9 hh, MH.a10 hh, MH.a11 hh, MH.a12 hh, MH.a13 hh, MH.a14 hh, MH.a15 hh, h3]
theorem pl_loop2 (hm : MO w) : ∀ (n : Nat) (i : Int) (q : Nat → Int), 0 ≤ i → i + n = 128 → rn 237 (47, [(0, jvr 238), (1, .inl i)], [], setA w 248 q) = rn 237 (69, [(0, jvr 238), (1, .inl 128)], [], setA w 248 (fun k => if i ≤ k ∧ k < 128 then 0 else q k)) := by
  intro n
  induction n with
  | zero =>
    intro i q i1 i2
    have e0 : i = 128 := by omega
    subst e0
    have e : (fun k : Nat => if (128 : Int) ≤ k ∧ k < 128 then 0 else q k) = q := by
      funext k
      rw [if_neg (by omega)]
    rw [e, p237_47]
    simp (disch := omega) only [p237_0, p237_1, p237_2, p237_5, p237_6, p237_7, p237_10, p237_13, p237_16, p237_17, p237_18, p237_19, p237_21, p237_24, p237_25, p237_28, p237_29, p237_30, p237_33, p237_36, p237_37, p237_38, p237_39, p237_42, p237_45, p237_46, p237_48, p237_49, p237_52, p237_53, p237_56, p237_57, p237_60, p237_61, p237_62, p237_63, p237_66, p237_70, p237_71, p237_74, p237_75, p237_76, p237_79, jwd_c, jwd_0, Nat.reduceLeDiff, Nat.reduceEqDiff, Nat.reduceAdd, Nat.reduceSub, Nat.reduceMul, Int.reduceAdd, Int.reduceSub, Int.reduceMul, Int.reduceNeg, Int.reduceEq, Int.reduceLT, Int.reduceLE, jq_ldi_i, jq_ldl_l, jq_lda_a, jq_inc_i, jq_gs_t, jq_gsb_t, jq_gb_t, jq_gr_2, jq_gr_4, jq_gw_2, jq_s_t, jq_b_t, jg_c, jg_n, js_c, js_n, jrm_c, jrm_n, j2_i, j2_l, j2_a, jq_c_i, jq_c_l, jq_c_0, jq_c_n, jwd_le, jw_c0, mS_I, mS_R, mS_J, mN_I, mN_R, mN_J, mR_I, mI_R, mJ_I, mJ_R, mI_J, mR_J, ↓reduceIte, decide_true, or_true, true_or, and_self, false_or, or_false, reduceCtorEq, Bool.false_eq_true, and_false, false_and, eq_self, true_and, and_true, zero_ne, ↓br_lt_t, ↓br_lt_f, ↓br_eq_t, ↓br_eq_f, ↓br_lz_t, ↓br_lz_f, ↓br_ez_t, ↓br_ez_f, ↓br_gz_t, ↓br_gz_f, jw_id, jin_t, jix_t, mI_A, mI_nA, up1_s, up1_n, mS_A, mR_A, mJ_A, mN_A, setI_A, setA_A, sw_238, sw_239, sw_240, sw_241, sw_242, sw_243, sw_244, sw_245, sw_246, sw_247, sw_248, sw_249, sw_250, sw_251, Int.reduceToNat, Int.toNat_natCast, MO.s0 hm, MO.s1 hm, MO.s2 hm, MO.s3 hm, MO.s4 hm, MO.s5 hm, MO.s6 hm, MO.s7 hm, MO.s8 hm, MO.s9 hm, MO.s10 hm, MO.s11 hm, MO.s12 hm, MO.s13 hm, MO.r1 hm, MO.r2 hm, MO.r3 hm, MO.r4 hm, MO.r5 hm, MO.r6 hm, MO.r7 hm, MO.r8 hm, MO.r9 hm, MO.r10 hm, MO.r11 hm, MO.r12 hm, MO.r13 hm]
  | succ n ih =>
    intro i q i1 i2
    have e := ih (i + 1) (up1 q i.toNat 0) (by omega) (by omega)
    have e2 : (fun k : Nat => if i + 1 ≤ k ∧ k < 128 then 0 else up1 q i.toNat 0 k) = (fun k : Nat => if i ≤ k ∧ k < 128 then 0 else q k) := by
      funext k
      by_cases z : k = i.toNat
      · rw [z, if_neg (by omega), if_pos (by omega), up1_s]
      · rw [up1_n z]
        by_cases y : i ≤ k ∧ k < 128
        · rw [if_pos y, if_pos (by omega)]
        · rw [if_neg y, if_neg (by omega)]
    rw [e2] at e
    rw [← e, p237_47]
    simp (disch := omega) only [p237_0, p237_1, p237_2, p237_5, p237_6, p237_7, p237_10, p237_13, p237_16, p237_17, p237_18, p237_19, p237_21, p237_24, p237_25, p237_28, p237_29, p237_30, p237_33, p237_36, p237_37, p237_38, p237_39, p237_42, p237_45, p237_46, p237_48, p237_49, p237_52, p237_53, p237_56, p237_57, p237_60, p237_61, p237_62, p237_63, p237_66, p237_70, p237_71, p237_74, p237_75, p237_76, p237_79, jwd_c, jwd_0, Nat.reduceLeDiff, Nat.reduceEqDiff, Nat.reduceAdd, Nat.reduceSub, Nat.reduceMul, Int.reduceAdd, Int.reduceSub, Int.reduceMul, Int.reduceNeg, Int.reduceEq, Int.reduceLT, Int.reduceLE, jq_ldi_i, jq_ldl_l, jq_lda_a, jq_inc_i, jq_gs_t, jq_gsb_t, jq_gb_t, jq_gr_2, jq_gr_4, jq_gw_2, jq_s_t, jq_b_t, jg_c, jg_n, js_c, js_n, jrm_c, jrm_n, j2_i, j2_l, j2_a, jq_c_i, jq_c_l, jq_c_0, jq_c_n, jwd_le, jw_c0, mS_I, mS_R, mS_J, mN_I, mN_R, mN_J, mR_I, mI_R, mJ_I, mJ_R, mI_J, mR_J, ↓reduceIte, decide_true, or_true, true_or, and_self, false_or, or_false, reduceCtorEq, Bool.false_eq_true, and_false, false_and, eq_self, true_and, and_true, zero_ne, ↓br_lt_t, ↓br_lt_f, ↓br_eq_t, ↓br_eq_f, ↓br_lz_t, ↓br_lz_f, ↓br_ez_t, ↓br_ez_f, ↓br_gz_t, ↓br_gz_f, jw_id, jin_t, jix_t, mI_A, mI_nA, up1_s, up1_n, mS_A, mR_A, mJ_A, mN_A, setI_A, setA_A, sw_238, sw_239, sw_240, sw_241, sw_242, sw_243, sw_244, sw_245, sw_246, sw_247, sw_248, sw_249, sw_250, sw_251, Int.reduceToNat, Int.toNat_natCast, MO.s0 hm, MO.s1 hm, MO.s2 hm, MO.s3 hm, MO.s4 hm, MO.s5 hm, MO.s6 hm, MO.s7 hm, MO.s8 hm, MO.s9 hm, MO.s10 hm, MO.s11 hm, MO.s12 hm, MO.s13 hm, MO.r1 hm, MO.r2 hm, MO.r3 hm, MO.r4 hm, MO.r5 hm, MO.r6 hm, MO.r7 hm, MO.r8 hm, MO.r9 hm, MO.r10 hm, MO.r11 hm, MO.r12 hm, MO.r13 hm]
theorem m_plain (hm : MO w) (hh : MH w h H) (h3 : mR w 238 3 = some h) : rn 237 (0, [(0, jvr 238)], [], w) = some (none, setA (setA (setA w 238 (up1 (up1 (up1 (up1 (mI w 238) 26 0) 27 (H 0 6)) 31 0) 32 0)) 247 (gS1 H (mI w 247))) 248 (gG0 (mI w 248))) := by
  have hge := hh.ge
  have e1 := pl_loop1 (w := setA w 238 (up1 (up1 (mI w 238) 26 0) 27 (H 0 6))) hm (hh.A (by omega)) h3 12 0 (mI w 247) (by omega) (by omega)
  have e2 := pl_loop2 (w := setA (setA w 238 (up1 (up1 (mI w 238) 26 0) 27 (H 0 6))) 247 (gS1 H (mI w 247))) hm 128 0 (mI w 248) (by omega) (by omega)
  have f1 : (fun k : Nat => if (0 : Int) ≤ k ∧ k < 12 then H 28 k else mI w 247 k) = gS1 H (mI w 247) := by
    funext k
    unfold gS1
    by_cases y : k < 12
    · rw [if_pos y, if_pos (by omega)]
    · rw [if_neg y, if_neg (by omega)]
  have f2 : (fun k : Nat => if (0 : Int) ≤ k ∧ k < 128 then (0 : Int) else mI w 248 k) = gG0 (mI w 248) := by
    funext k
    unfold gG0
    by_cases y : k < 128
    · rw [if_pos y, if_pos (by omega)]
    · rw [if_neg y, if_neg (by omega)]
  rw [f1] at e1
  rw [f2] at e2
  have g1 : setA (setA w 238 (up1 (up1 (mI w 238) 26 0) 27 (H 0 6))) 247 (mI w 247) = setA w 238 (up1 (up1 (mI w 238) 26 0) 27 (H 0 6)) := by
    have : mI w 247 = mI (setA w 238 (up1 (up1 (mI w 238) 26 0) 27 (H 0 6))) 247 := (mI_nA (by omega)).symm
    rw [this, setA_self]
  have g2 : setA (setA (setA w 238 (up1 (up1 (mI w 238) 26 0) 27 (H 0 6))) 247 (gS1 H (mI w 247))) 248 (mI w 248) = setA (setA w 238 (up1 (up1 (mI w 238) 26 0) 27 (H 0 6))) 247 (gS1 H (mI w 247)) := by
    have : mI w 248 = mI (setA (setA w 238 (up1 (up1 (mI w 238) 26 0) 27 (H 0 6))) 247 (gS1 H (mI w 247))) 248 := by rw [mI_nA (by omega), mI_nA (by omega)]
    rw [this, setA_self]
  rw [g1] at e1
  rw [g2] at e2
  simp (disch := omega) only [p237_0, p237_1, p237_2, p237_5, p237_6, p237_7, p237_10, p237_13, p237_16, p237_17, p237_19, p237_21, p237_24, p237_25, p237_28, p237_29, p237_30, p237_33, p237_36, p237_37, p237_38, p237_39, p237_42, p237_46, p237_48, p237_49, p237_52, p237_53, p237_56, p237_57, p237_60, p237_61, p237_62, p237_63, p237_66, p237_70, p237_71, p237_74, p237_75, p237_76, p237_79, jwd_c, jwd_0, Nat.reduceLeDiff, Nat.reduceEqDiff, Nat.reduceAdd, Nat.reduceSub, Nat.reduceMul, Int.reduceAdd, Int.reduceSub, Int.reduceMul, Int.reduceNeg, Int.reduceEq, Int.reduceLT, Int.reduceLE, jq_ldi_i, jq_ldl_l, jq_lda_a, jq_inc_i, jq_gs_t, jq_gsb_t, jq_gb_t, jq_gr_2, jq_gr_4, jq_gw_2, jq_s_t, jq_b_t, jg_c, jg_n, js_c, js_n, jrm_c, jrm_n, j2_i, j2_l, j2_a, jq_c_i, jq_c_l, jq_c_0, jq_c_n, jwd_le, jw_c0, mS_I, mS_R, mS_J, mN_I, mN_R, mN_J, mR_I, mI_R, mJ_I, mJ_R, mI_J, mR_J, ↓reduceIte, decide_true, or_true, true_or, and_self, false_or, or_false, reduceCtorEq, Bool.false_eq_true, and_false, false_and, eq_self, true_and, and_true, zero_ne, ↓br_lt_t, ↓br_lt_f, ↓br_eq_t, ↓br_eq_f, ↓br_lz_t, ↓br_lz_f, ↓br_ez_t, ↓br_ez_f, ↓br_gz_t, ↓br_gz_f, jw_id, jin_t, jix_t, mI_A, mI_nA, up1_s, up1_n, mS_A, mR_A, mJ_A, mN_A, setI_A, setA_A, sw_238, sw_239, sw_240, sw_241, sw_242, sw_243, sw_244, sw_245, sw_246, sw_247, sw_248, sw_249, sw_250, sw_251, Int.reduceToNat, Int.toNat_natCast, MO.s0 hm, MO.s1 hm, MO.s2 hm, MO.s3 hm, MO.s4 hm, MO.s5 hm, MO.s6 hm, MO.s7 hm, MO.s8 hm, MO.s9 hm, MO.s10 hm, MO.s11 hm, MO.s12 hm, MO.s13 hm, MO.r1 hm, MO.r2 hm, MO.r3 hm, MO.r4 hm, MO.r5 hm, MO.r6 hm, MO.r7 hm, MO.r8 hm, MO.r9 hm, MO.r10 hm, MO.r11 hm, MO.r12 hm, MO.r13 hm, MH.s hh, MH.s1 hh, MH.s2 hh, MH.s3 hh, MH.s4 hh, MH.s5 hh, MH.s6 hh, MH.s7 hh, MH.s8 hh, MH.s9 hh, MH.s10 hh, MH.s11 hh, MH.s12 hh, MH.s13 hh, MH.s14 hh, MH.s15 hh, MH.r1 hh, MH.r2 hh, MH.r3 hh, MH.r4 hh, MH.r5 hh, MH.r6 hh, MH.r7 hh, MH.r8 hh, MH.r9 hh, MH.r10 hh, MH.r11 hh, MH.r12 hh, MH.r13 hh, MH.r14 hh, MH.r15 hh, MH.f0 hh, MH.f1 hh, MH.f2 hh, MH.f3 hh, MH.f4 hh, MH.f5 hh, MH.f6 hh, MH.f7 hh, MH.f8 hh, MH.f9 hh, MH.f10 hh, MH.f11 hh, MH.f12 hh, MH.f13 hh, MH.f14 hh, MH.f15 hh, MH.f16 hh, MH.a1 hh, MH.a2 hh, MH.a3 hh, MH.a4 hh, MH.a5 hh, MH.a6 hh, MH.a7 hh, MH.a8 hh, MH.a9 hh, MH.a10 hh, MH.a11 hh, MH.a12 hh, MH.a13 hh, MH.a14 hh, MH.a15 hh, h3, e1]
  rw [p237_45]
  simp (disch := omega) only [p237_0, p237_1, p237_2, p237_5, p237_6, p237_7, p237_10, p237_13, p237_16, p237_17, p237_19, p237_21, p237_24, p237_25, p237_28, p237_29, p237_30, p237_33, p237_36, p237_37, p237_38, p237_39, p237_42, p237_46, p237_48, p237_49, p237_52, p237_53, p237_56, p237_57, p237_60, p237_61, p237_62, p237_63, p237_66, p237_70, p237_71, p237_74, p237_75, p237_76, p237_79, jwd_c, jwd_0, Nat.reduceLeDiff, Nat.reduceEqDiff, Nat.reduceAdd, Nat.reduceSub, Nat.reduceMul, Int.reduceAdd, Int.reduceSub, Int.reduceMul, Int.reduceNeg, Int.reduceEq, Int.reduceLT, Int.reduceLE, jq_ldi_i, jq_ldl_l, jq_lda_a, jq_inc_i, jq_gs_t, jq_gsb_t, jq_gb_t, jq_gr_2, jq_gr_4, jq_gw_2, jq_s_t, jq_b_t, jg_c, jg_n, js_c, js_n, jrm_c, jrm_n, j2_i, j2_l, j2_a, jq_c_i, jq_c_l, jq_c_0, jq_c_n, jwd_le, jw_c0, mS_I, mS_R, mS_J, mN_I, mN_R, mN_J, mR_I, mI_R, mJ_I, mJ_R, mI_J, mR_J, ↓reduceIte, decide_true, or_true, true_or, and_self, false_or, or_false, reduceCtorEq, Bool.false_eq_true, and_false, false_and, eq_self, true_and, and_true, zero_ne, ↓br_lt_t, ↓br_lt_f, ↓br_eq_t, ↓br_eq_f, ↓br_lz_t, ↓br_lz_f, ↓br_ez_t, ↓br_ez_f, ↓br_gz_t, ↓br_gz_f, jw_id, jin_t, jix_t, mI_A, mI_nA, up1_s, up1_n, mS_A, mR_A, mJ_A, mN_A, setI_A, setA_A, sw_238, sw_239, sw_240, sw_241, sw_242, sw_243, sw_244, sw_245, sw_246, sw_247, sw_248, sw_249, sw_250, sw_251, Int.reduceToNat, Int.toNat_natCast, MO.s0 hm, MO.s1 hm, MO.s2 hm, MO.s3 hm, MO.s4 hm, MO.s5 hm, MO.s6 hm, MO.s7 hm, MO.s8 hm, MO.s9 hm, MO.s10 hm, MO.s11 hm, MO.s12 hm, MO.s13 hm, MO.r1 hm, MO.r2 hm, MO.r3 hm, MO.r4 hm, MO.r5 hm, MO.r6 hm, MO.r7 hm, MO.r8 hm, MO.r9 hm, MO.r10 hm, MO.r11 hm, MO.r12 hm, MO.r13 hm, MH.s hh, MH.s1 hh, MH.s2 hh, MH.s3 hh, MH.s4 hh, MH.s5 hh, MH.s6 hh, MH.s7 hh, MH.s8 hh, MH.s9 hh, MH.s10 hh, MH.s11 hh, MH.s12 hh, MH.s13 hh, MH.s14 hh, MH.s15 hh, MH.r1 hh, MH.r2 hh, MH.r3 hh, MH.r4 hh, MH.r5 hh, MH.r6 hh, MH.r7 hh, MH.r8 hh, MH.r9 hh, MH.r10 hh, MH.r11 hh, MH.r12 hh, MH.r13 hh, MH.r14 hh, MH.r15 hh, MH.f0 hh, MH.f1 hh, MH.f2 hh, MH.f3 hh, MH.f4 hh, MH.f5 hh, MH.f6 hh, MH.f7 hh, MH.f8 hh, MH.f9 hh, MH.f10 hh, MH.f11 hh, MH.f12 hh, MH.f13 hh, MH.f14 hh, MH.f15 hh, MH.f16 hh, MH.a1 hh, MH.a2 hh, MH.a3 hh, MH.a4 hh, MH.a5 hh, MH.a6 hh, MH.a7 hh, MH.a8 hh, MH.a9 hh, MH.a10 hh, MH.a11 hh, MH.a12 hh, MH.a13 hh, MH.a14 hh, MH.a15 hh, h3, e2]
  rw [p237_69]
  simp (disch := omega) only [p237_0, p237_1, p237_2, p237_5, p237_6, p237_7, p237_10, p237_13, p237_16, p237_17, p237_19, p237_21, p237_24, p237_25, p237_28, p237_29, p237_30, p237_33, p237_36, p237_37, p237_38, p237_39, p237_42, p237_46, p237_48, p237_49, p237_52, p237_53, p237_56, p237_57, p237_60, p237_61, p237_62, p237_63, p237_66, p237_70, p237_71, p237_74, p237_75, p237_76, p237_79, jwd_c, jwd_0, Nat.reduceLeDiff, Nat.reduceEqDiff, Nat.reduceAdd, Nat.reduceSub, Nat.reduceMul, Int.reduceAdd, Int.reduceSub, Int.reduceMul, Int.reduceNeg, Int.reduceEq, Int.reduceLT, Int.reduceLE, jq_ldi_i, jq_ldl_l, jq_lda_a, jq_inc_i, jq_gs_t, jq_gsb_t, jq_gb_t, jq_gr_2, jq_gr_4, jq_gw_2, jq_s_t, jq_b_t, jg_c, jg_n, js_c, js_n, jrm_c, jrm_n, j2_i, j2_l, j2_a, jq_c_i, jq_c_l, jq_c_0, jq_c_n, jwd_le, jw_c0, mS_I, mS_R, mS_J, mN_I, mN_R, mN_J, mR_I, mI_R, mJ_I, mJ_R, mI_J, mR_J, ↓reduceIte, decide_true, or_true, true_or, and_self, false_or, or_false, reduceCtorEq, Bool.false_eq_true, and_false, false_and, eq_self, true_and, and_true, zero_ne, ↓br_lt_t, ↓br_lt_f, ↓br_eq_t, ↓br_eq_f, ↓br_lz_t, ↓br_lz_f, ↓br_ez_t, ↓br_ez_f, ↓br_gz_t, ↓br_gz_f, jw_id, jin_t, jix_t, mI_A, mI_nA, up1_s, up1_n, mS_A, mR_A, mJ_A, mN_A, setI_A, setA_A, sw_238, sw_239, sw_240, sw_241, sw_242, sw_243, sw_244, sw_245, sw_246, sw_247, sw_248, sw_249, sw_250, sw_251, Int.reduceToNat, Int.toNat_natCast, MO.s0 hm, MO.s1 hm, MO.s2 hm, MO.s3 hm, MO.s4 hm, MO.s5 hm, MO.s6 hm, MO.s7 hm, MO.s8 hm, MO.s9 hm, MO.s10 hm, MO.s11 hm, MO.s12 hm, MO.s13 hm, MO.r1 hm, MO.r2 hm, MO.r3 hm, MO.r4 hm, MO.r5 hm, MO.r6 hm, MO.r7 hm, MO.r8 hm, MO.r9 hm, MO.r10 hm, MO.r11 hm, MO.r12 hm, MO.r13 hm, MH.s hh, MH.s1 hh, MH.s2 hh, MH.s3 hh, MH.s4 hh, MH.s5 hh, MH.s6 hh, MH.s7 hh, MH.s8 hh, MH.s9 hh, MH.s10 hh, MH.s11 hh, MH.s12 hh, MH.s13 hh, MH.s14 hh, MH.s15 hh, MH.r1 hh, MH.r2 hh, MH.r3 hh, MH.r4 hh, MH.r5 hh, MH.r6 hh, MH.r7 hh, MH.r8 hh, MH.r9 hh, MH.r10 hh, MH.r11 hh, MH.r12 hh, MH.r13 hh, MH.r14 hh, MH.r15 hh, MH.f0 hh, MH.f1 hh, MH.f2 hh, MH.f3 hh, MH.f4 hh, MH.f5 hh, MH.f6 hh, MH.f7 hh, MH.f8 hh, MH.f9 hh, MH.f10 hh, MH.f11 hh, MH.f12 hh, MH.f13 hh, MH.f14 hh, MH.f15 hh, MH.f16 hh, MH.a1 hh, MH.a2 hh, MH.a3 hh, MH.a4 hh, MH.a5 hh, MH.a6 hh, MH.a7 hh, MH.a8 hh, MH.a9 hh, MH.a10 hh, MH.a11 hh, MH.a12 hh, MH.a13 hh, MH.a14 hh, MH.a15 hh, h3]
/-- the model at rest, with a HALL -/
def MQh (w : jmW) (h : Nat) (H : Nat → Nat → Int) : Prop := MO w ∧ MH w h H ∧ mR w 238 3 = some h
theorem MQh.km {a : Nat} (hq : MQh w h H) (hk : Km a w u) (ha : a < 252) : MQh u h H := ⟨hq.1.frR hk.1.q hk.2.1, hq.2.1.frF hk.1 (fun b hb => by omega), by rw [hk.2.1]; exact hq.2.2⟩
theorem mF_plain (hq : MQh w h H) (ha : a = 241 ∨ a = 242) (tn : Int) : ∃ u, rn 237 (0, [(0, jvr 238)], [], w) = some (none, u) ∧ MF u a h H (H 0 6) (gS1 H (mI w 247)) 0 (mI w a, gG0 (mI w 248), 0, 0, tn) ∧ Km a w u := by
  obtain ⟨hm, hh, h3⟩ := hq
  have hge := hh.ge
  refine ⟨_, m_plain hm hh h3, ⟨hm.frR rfl rfl, ((hh.A (by omega)).A (by omega)).A (by omega), h3, ?_, mI_A _ _ _, ?_, ?_, ?_, ?_, ?_⟩, ⟨((Fr.A (Or.inl rfl)).tr (Fr.A (Or.inr (Or.inr ⟨by omega, by omega⟩)))).tr (Fr.A (Or.inr (Or.inr ⟨by omega, by omega⟩))), rfl, ?_⟩⟩
  · rw [mI_nA (by omega), mI_nA (by omega), mI_nA (by omega)]
  · rw [mI_nA (by omega), mI_nA (by omega), mI_A, up1_n (by omega), up1_s]
  · rw [mI_nA (by omega), mI_nA (by omega), mI_A, up1_s]
  · rw [mI_nA (by omega), mI_nA (by omega), mI_A, up1_n (by omega), up1_n (by omega), up1_s]
  · rw [mI_nA (by omega), mI_nA (by omega), mI_A, up1_n (by omega), up1_n (by omega), up1_n (by omega), up1_s]
  · rw [mI_nA (by omega), mI_A]
  · intro k hk
    rw [mI_nA (by omega), mI_nA (by omega), mI_A, up1_n (by omega), up1_n (by omega), up1_n (by omega), up1_n (by omega)]
theorem mF_start (hq : MQh w h H) (tn : Int) : ∃ u, rn 236 (0, [(0, jvr 238)], [], w) = some (none, setA w 242 (gCp (mI w 241) (mI w 242))) ∧ rn 237 (0, [(0, jvr 238)], [], setA w 242 (gCp (mI w 241) (mI w 242))) = some (none, u) ∧ MF u 242 h H (H 0 6) (gS1 H (mI w 247)) 0 (gCp (mI w 241) (mI w 242), gG0 (mI w 248), 0, 0, tn) ∧ Km 242 w u := by
  have k1 : Km 242 w (setA w 242 (gCp (mI w 241) (mI w 242))) := Km.A (Or.inl rfl) (by omega)
  obtain ⟨u, e, m, k⟩ := mF_plain (hq.km k1 (by omega)) (Or.inr rfl) tn
  rw [mI_nA (b := 247) (by omega), mI_nA (b := 248) (by omega), mI_A] at m
  exact ⟨u, m_copies hq.1, e, m, k1.tr k⟩
end MODEL2
