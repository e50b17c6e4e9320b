/-! The reader: what is expected, in the class. -/
def gS2 (s : String) : List Nat := s.toList.map Char.toNat
def wok (k : Nat) (ws : List (List Nat)) : Bool := decide (jst k = gJw ws) && decide (ws ≠ []) && ws.all gLt && decide ((jst k).length ≤ 60) && (jst k).all (fun c => decide (c < 128)) && decide (k < 43)
def wLn : List (List Nat) := ["hall", "row", "band", "home", "steps", "leads", "table", "dancer", "snake", "frame"].map gS2
def wSd : List (List Nat) := ["north", "east", "south", "west"].map gS2
def wKd : List (List Nat) := ["plain", "aunt", "child", "heavy"].map gS2
def wLd : List (List Nat) := ["ahead", "right", "left", "lot", "home", "told"].map gS2
def w1 (s : String) : List (List Nat) := [gS2 s]
def wRo : List (List Nat) := ["through", "round"].map gS2
def wBe : List (List Nat) := ["end", "behind"].map gS2
theorem ok_0 : wok 0 wLn = true := by decide +kernel
theorem ok_1 : wok 1 (w1 "wide") = true := by decide +kernel
theorem ok_2 : wok 2 (w1 "high") = true := by decide +kernel
theorem ok_3 : wok 3 (w1 "law") = true := by decide +kernel
theorem ok_4 : wok 4 wRo = true := by decide +kernel
theorem ok_5 : wok 5 (w1 "joins") = true := by decide +kernel
theorem ok_6 : wok 6 wBe = true := by decide +kernel
theorem ok_7 : wok 7 (w1 "sound") = true := by decide +kernel
theorem ok_8 : wok 8 wSd = true := by decide +kernel
theorem ok_9 : wok 9 wLd = true := by decide +kernel
theorem ok_10 : wok 10 (w1 "at") = true := by decide +kernel
theorem ok_11 : wok 11 (w1 "sits") = true := by decide +kernel
theorem ok_12 : wok 12 wKd = true := by decide +kernel
theorem ok_13 : wok 13 (w1 "legs") = true := by decide +kernel
theorem ok_14 : wok 14 (w1 "grip") = true := by decide +kernel
theorem ok_15 : wok 15 (w1 "eager") = true := by decide +kernel
def cs (ws : List (List Nat)) : List Int := ws.map cD
section CELLP
variable (T : Nat → Int) (n : Nat)
def pC2 (W : Int) (s : gSg) : gSg := pS T n 4 (pN T n 0 (W - 1) s)
def pCell (W V : Int) (s : gSg) : Int := W * pV T n 0 (V - 1) (pC2 T n W s) + pV T n 0 (W - 1) s
def pCb (W V : Int) (s : gSg) : gSg := pB T n 0 (V - 1) (pC2 T n W s)
def pCn (W V : Int) (s : gSg) : gSg := pG T n (pCb T n W V s)
end CELLP
section EXPECT
variable {w u : jmW} {T : Nat → Int} {n cnt : Nat}
theorem so_1 {b : Int} (h : gSo b = 1) : 97 ≤ b ∧ b ≤ 122 := by
  unfold gSo at h
  by_cases z : 97 ≤ b ∧ b ≤ 122
  · exact z
  · rw [if_neg z] at h
    (repeat' split at h) <;> omega
theorem tw_lt {p : Nat} (h : tK T n p = 1) : (∀ k, k < tE T n p - tS T n p → 97 ≤ T (tS T n p + k) ∧ T (tS T n p + k) ≤ 122) ∧ tE T n p - tS T n p ≤ 8 := by
  unfold tK at h
  by_cases z : n ≤ tS T n p
  · rw [if_pos z] at h
    omega
  · rw [if_neg z] at h
    by_cases y : gSo (T (tS T n p)) = 1
    · rw [if_pos y] at h
      by_cases x : tE T n p - tS T n p ≤ 8
      · refine ⟨fun k hk => ?_, x⟩
        have e : tE T n p = gEd T 1 (n - tS T n p) (tS T n p) := by
          unfold tE
          rw [if_neg z, if_pos (Or.inl y), y]
        have := ed_all (T := T) (c := 1) (n - tS T n p) (tS T n p) (tS T n p + k) (by omega) (by rw [← e]; omega)
        exact so_1 this
      · rw [if_neg x] at h
        omega
    · rw [if_neg y] at h
      by_cases x : gSo (T (tS T n p)) = 2
      · rw [if_pos x] at h
        split at h <;> omega
      · rw [if_neg x] at h
        exact absurd h y
theorem wi_bd : ∀ (ws : List Int) (c i : Int), 0 ≤ i → gWi ws c i = -1 ∨ (i ≤ gWi ws c i ∧ gWi ws c i < i + ws.length) := by
  intro ws
  induction ws with
  | nil =>
    intro c i hi
    exact Or.inl rfl
  | cons a t ih =>
    intro c i hi
    have e : gWi (a :: t) c i = if c = a then i else gWi t c (i + 1) := rfl
    have := ih c (i + 1) (by omega)
    rw [e, List.length_cons]
    split <;> omega
theorem c_oneOf (h : RC' w n cnt T) {p : Nat} (ht : tC w T n p) (h1 : tK T n p = 1) (hs : SX w) {k : Nat} {ws : List (List Nat)} (ho : wok k ws = true) : rn 26 (0, [(0, jvr 101), (1, jvr (2 + k))], [], w) = some (some (.inl (gWi (cs ws) (tW T n p) 0)), w) := by
  unfold wok at ho
  simp only [Bool.and_eq_true, decide_eq_true_iff] at ho
  obtain ⟨⟨⟨⟨⟨o1, o2⟩, o3⟩, o4⟩, o5⟩, o6⟩ := ho
  obtain ⟨t1, t2, t3, t4, t5⟩ := ht
  have tb := tke_bd (T := T) t1
  obtain ⟨l1, l2⟩ := tw_lt h1
  have e := oo_lp h t3 t4 tb.1 tb.2.1 (a := 2 + k) (k := k) (hs k o6).1 (hs k o6).2 o4 (jst k) 0 0 0 true [] rfl (fun c hc => of_decide_eq_true (List.all_eq_true.mp o5 c hc)) (by omega) (by omega) (by omega) (Or.inl rfl) (by omega)
  have hn := h.2.2.2.2.2.2.1
  have fc : ∀ k, k < tE T n p - tS T n p → (fun k => if tS T n p + k < cnt then T (tS T n p + k) else 0) k = (fun k => T (tS T n p + k)) k := fun k hk => if_pos (by omega)
  have e2 := of_words (f := fun k => if tS T n p + k < cnt then T (tS T n p + k) else 0) (len := tE T n p - tS T n p) (fun k hk => by rw [if_pos (show tS T n p + k < cnt by omega)]; exact l1 k hk) ws 0 o2 (fun u hu => List.all_eq_true.mp o3 u hu)
  rw [cw_cg _ fc, ← o1] at e2
  rw [e2] at e
  have eW : tW T n p = gCw (fun k => T (tS T n p + k)) (tE T n p - tS T n p) := rfl
  unfold cs
  rw [eW, ← e]
  simp (disch := omega) only [p26_0, p26_1, p26_2, p26_3, p26_4, p26_5, p26_7, p26_8, p26_12, p26_13, p26_16, p26_19, p26_20, p26_22, p26_25, p26_27, p26_29, p26_31, p26_34, p26_36, p26_39, p26_40, p26_43, p26_44, p26_47, p26_48, p26_49, p26_50, p26_53, p26_55, p26_58, p26_59, p26_62, p26_63, p26_65, p26_68, p26_71, p26_73, p26_76, p26_77, p26_78, p26_81, p26_82, p26_85, p26_86, p26_89, p26_90, p26_91, p26_94, p26_95, p26_96, p26_97, p26_99, p26_102, p26_105, p26_107, p26_110, p26_111, p26_112, p26_115, p26_116, p26_119, p26_120, p26_123, p26_124, p26_127, p26_128, jwd_c, jwd_0, Nat.reduceLeDiff, Nat.reduceEqDiff, Nat.reduceAdd, Nat.reduceSub, Nat.reduceMul, Int.reduceAdd, Int.reduceSub, Int.reduceMul, Int.reduceNeg, Int.reduceEq, Int.reduceLT, Int.reduceLE, jq_ldi_i, jq_ldl_l, jq_lda_a, jq_inc_i, jq_gs_t, jq_gsb_t, jq_gb_t, jq_gr_2, jq_gr_4, jq_gw_2, jq_s_t, jq_b_t, jg_c, jg_n, js_c, js_n, jrm_c, jrm_n, j2_i, j2_l, j2_a, jq_c_i, jq_c_l, jq_c_0, jq_c_n, jwd_le, jw_c0, mS_I, mS_R, mS_J, mN_I, mN_R, mN_J, mR_I, mI_R, mJ_I, mJ_R, mI_J, mR_J, ↓reduceIte, decide_true, or_true, true_or, and_self, false_or, or_false, reduceCtorEq, Bool.false_eq_true, and_false, false_and, eq_self, true_and, and_true, zero_ne, ↓br_lt_t, ↓br_lt_f, ↓br_eq_t, ↓br_eq_f, ↓br_lz_t, ↓br_lz_f, ↓br_ez_t, ↓br_ez_f, ↓br_gz_t, ↓br_gz_f, jw_id, jin_t, jix_t, ↓ite_t, ↓ite_f]
  rfl
theorem c_fail {f : Int} {a : Int} (h : mS w 101 = (1, 3, 0)) : rn 30 (0, [(0, jvr 101), (1, .inl f), (2, .inl a)], [], w) = some (some (.inl 0), setI (setI w 101 10 f) 101 11 a) := by
  simp (disch := omega) only [p30_0, p30_1, p30_2, p30_5, p30_6, p30_7, p30_10, p30_11, jwd_c, jwd_0, Nat.reduceLeDiff, Nat.reduceEqDiff, Nat.reduceAdd, Nat.reduceSub, Nat.reduceMul, Int.reduceAdd, Int.reduceSub, Int.reduceMul, Int.reduceNeg, Int.reduceEq, Int.reduceLT, Int.reduceLE, jq_ldi_i, jq_ldl_l, jq_lda_a, jq_inc_i, jq_gs_t, jq_gsb_t, jq_gb_t, jq_gr_2, jq_gr_4, jq_gw_2, jq_s_t, jq_b_t, jg_c, jg_n, js_c, js_n, jrm_c, jrm_n, j2_i, j2_l, j2_a, jq_c_i, jq_c_l, jq_c_0, jq_c_n, jwd_le, jw_c0, mS_I, mS_R, mS_J, mN_I, mN_R, mN_J, mR_I, mI_R, mJ_I, mJ_R, mI_J, mR_J, ↓reduceIte, decide_true, or_true, true_or, and_self, false_or, or_false, reduceCtorEq, Bool.false_eq_true, and_false, false_and, eq_self, true_and, and_true, zero_ne, ↓br_lt_t, ↓br_lt_f, ↓br_eq_t, ↓br_eq_f, ↓br_lz_t, ↓br_lz_f, ↓br_ez_t, ↓br_ez_f, ↓br_gz_t, ↓br_gz_f, jw_id, jin_t, jix_t, ↓ite_t, ↓ite_f, h]
/-- failed at a place -/
theorem fl_ok (h : RC' w n cnt T) {f a : Int} : RC' (setI (setI w 101 10 f) 101 11 a) n cnt T ∧ CSx (setI (setI w 101 10 f) 101 11 a) T n (.inr (f, a)) ∧ Fr (fun b => b = 101) w (setI (setI w 101 10 f) 101 11 a) := ⟨(h.set (by omega)).set (by omega), ⟨by rw [mI_nk (by omega), mI_s], mI_s _ _ _ _⟩, Fr.tr (P := fun b => b = 101) (Fr.I rfl) (Fr.I rfl)⟩
theorem SX.fr {P : Nat → Prop} (h : SX w) (f : Fr P w u) : SX u := fun k hk => by
  rw [f.q]
  exact h k hk
theorem c_one (h : RC' w n cnt T) {p : Nat} (ht : tC w T n p) (hs : SX w) {k : Nat} {ws : List (List Nat)} (ho : wok k ws = true) : ∃ u, rn 32 (0, [(0, jvr 101), (1, jvr (2 + k))], [], w) = some (some (.inl (bl (pO T n (cs ws) (.inl p)))), u) ∧ RC' u n cnt T ∧ CSx u T n (pO T n (cs ws) (.inl p)) ∧ (∀ q, pO T n (cs ws) (.inl p) = .inl q → mI u 101 8 = pI T n (cs ws) (.inl p)) ∧ Fr (fun b => b = 101) w u := by
  obtain ⟨t1, t2, t3, t4, t5⟩ := ht
  have ht : tC w T n p := ⟨t1, t2, t3, t4, t5⟩
  have a1 := h.1
  have hn := h.2.2.2.2.2.2.1
  have hc := h.2.2.2.2.2.1.2.2.2.2.2.2.1
  have sb := ts_bd (T := T) t1
  have eI : pI T n (cs ws) (.inl p) = if tK T n p = 1 then gWi (cs ws) (tW T n p) 0 else -1 := rfl
  have eO : pO T n (cs ws) (.inl p) = if 0 ≤ pI T n (cs ws) (.inl p) then .inl (tE T n p) else .inr (1, (tS T n p : Int)) := rfl
  have wb := wi_bd (cs ws) (tW T n p) 0 (by omega)
  have kb : 0 ≤ tK T n p ∧ tK T n p ≤ 5 := by
    have := so_bd (T (tS T n p))
    unfold tK
    (repeat' split) <;> omega
  have lb : ((cs ws).length : Int) ≤ 100 := by
    unfold wok at ho
    simp only [Bool.and_eq_true, decide_eq_true_iff] at ho
    obtain ⟨⟨⟨⟨⟨o1, o2⟩, o3⟩, o4⟩, o5⟩, o6⟩ := ho
    have key : ∀ ws : List (List Nat), ws.length ≤ (gJw ws).length + 1 := by
      intro ws
      induction ws with
      | nil => simp
      | cons a t ih =>
        cases t with
        | nil => simp
        | cons b t =>
          have e : gJw (a :: b :: t) = a ++ 32 :: gJw (b :: t) := rfl
          rw [e]
          simp only [List.length_append, List.length_cons] at ih ⊢
          omega
    have k2 := key ws
    unfold cs
    rw [List.length_map]
    rw [← o1] at k2
    omega
  rw [eO]
  by_cases q1 : tK T n p = 1
  · have e1 := c_oneOf h ht q1 hs ho
    rw [if_pos q1] at eI
    rw [eI]
    generalize hv : gWi (cs ws) (tW T n p) 0 = v at *
    by_cases q2 : 0 ≤ v
    · rw [if_pos q2]
      have hte := tke_bd (T := T) t1
      have h2 : RC' (setI w 101 8 v) n cnt T := h.set (by omega)
      obtain ⟨u, e2, r2, c2, k2, f2⟩ := c_goOn h2 (p := tE T n p) hte.2.1 (by rw [mI_nk (by omega)]; exact t4) ⟨by rw [mI_nk (by omega)]; exact t5.2.1, by rw [mI_nk (by omega)]; exact t5.2.2⟩
      refine ⟨u, ?_, r2, c2, fun q hq => by rw [k2 8 (by omega), mI_s], Fr.tr (P := fun b => b = 101) (Fr.I rfl) f2⟩
      show _ = some (some ((Sum.inl (1 : Int)) : jmV), u)
      simp (disch := omega) only [p32_0, p32_1, p32_4, p32_5, p32_8, p32_9, p32_10, p32_13, p32_16, p32_17, p32_18, p32_19, p32_22, p32_23, p32_24, p32_25, p32_28, p32_31, p32_32, p32_33, p32_34, p32_37, p32_38, p32_41, p32_42, jwd_c, jwd_0, Nat.reduceLeDiff, Nat.reduceEqDiff, Nat.reduceAdd, Nat.reduceSub, Nat.reduceMul, Int.reduceAdd, Int.reduceSub, Int.reduceMul, Int.reduceNeg, Int.reduceEq, Int.reduceLT, Int.reduceLE, jq_ldi_i, jq_ldl_l, jq_lda_a, jq_inc_i, jq_gs_t, jq_gsb_t, jq_gb_t, jq_gr_2, jq_gr_4, jq_gw_2, jq_s_t, jq_b_t, jg_c, jg_n, js_c, js_n, jrm_c, jrm_n, j2_i, j2_l, j2_a, jq_c_i, jq_c_l, jq_c_0, jq_c_n, jwd_le, jw_c0, mS_I, mS_R, mS_J, mN_I, mN_R, mN_J, mR_I, mI_R, mJ_I, mJ_R, mI_J, mR_J, ↓reduceIte, decide_true, or_true, true_or, and_self, false_or, or_false, reduceCtorEq, Bool.false_eq_true, and_false, false_and, eq_self, true_and, and_true, zero_ne, ↓br_lt_t, ↓br_lt_f, ↓br_eq_t, ↓br_eq_f, ↓br_lz_t, ↓br_lz_f, ↓br_ez_t, ↓br_ez_f, ↓br_gz_t, ↓br_gz_f, jw_id, jin_t, jix_t, ↓ite_t, ↓ite_f, a1, t2, e1, e2]
    · rw [if_neg q2]
      have fl := fl_ok h (f := 1) (a := (tS T n p : Int))
      have e3 := c_fail (w := w) (f := 1) (a := (tS T n p : Int)) a1
      refine ⟨_, ?_, fl.1, fl.2.1, fun q hq => (by cases hq), fl.2.2⟩
      show _ = some (some ((Sum.inl (0 : Int)) : jmV), _)
      simp (disch := omega) only [p32_0, p32_1, p32_4, p32_5, p32_8, p32_9, p32_10, p32_13, p32_16, p32_17, p32_18, p32_19, p32_22, p32_23, p32_24, p32_25, p32_28, p32_31, p32_32, p32_33, p32_34, p32_37, p32_38, p32_41, p32_42, jwd_c, jwd_0, Nat.reduceLeDiff, Nat.reduceEqDiff, Nat.reduceAdd, Nat.reduceSub, Nat.reduceMul, Int.reduceAdd, Int.reduceSub, Int.reduceMul, Int.reduceNeg, Int.reduceEq, Int.reduceLT, Int.reduceLE, jq_ldi_i, jq_ldl_l, jq_lda_a, jq_inc_i, jq_gs_t, jq_gsb_t, jq_gb_t, jq_gr_2, jq_gr_4, jq_gw_2, jq_s_t, jq_b_t, jg_c, jg_n, js_c, js_n, jrm_c, jrm_n, j2_i, j2_l, j2_a, jq_c_i, jq_c_l, jq_c_0, jq_c_n, jwd_le, jw_c0, mS_I, mS_R, mS_J, mN_I, mN_R, mN_J, mR_I, mI_R, mJ_I, mJ_R, mI_J, mR_J, ↓reduceIte, decide_true, or_true, true_or, and_self, false_or, or_false, reduceCtorEq, Bool.false_eq_true, and_false, false_and, eq_self, true_and, and_true, zero_ne, ↓br_lt_t, ↓br_lt_f, ↓br_eq_t, ↓br_eq_f, ↓br_lz_t, ↓br_lz_f, ↓br_ez_t, ↓br_ez_f, ↓br_gz_t, ↓br_gz_f, jw_id, jin_t, jix_t, ↓ite_t, ↓ite_f, a1, t2, t3, e1, e3]
  · rw [if_neg q1] at eI
    rw [eI, if_neg (by omega)]
    have fl := fl_ok h (f := 1) (a := (tS T n p : Int))
    have e3 := c_fail (w := w) (f := 1) (a := (tS T n p : Int)) a1
    refine ⟨_, ?_, fl.1, fl.2.1, fun q hq => (by cases hq), fl.2.2⟩
    show _ = some (some ((Sum.inl (0 : Int)) : jmV), _)
    simp (disch := omega) only [p32_0, p32_1, p32_4, p32_5, p32_8, p32_9, p32_10, p32_13, p32_16, p32_17, p32_18, p32_19, p32_22, p32_23, p32_24, p32_25, p32_28, p32_31, p32_32, p32_33, p32_34, p32_37, p32_38, p32_41, p32_42, jwd_c, jwd_0, Nat.reduceLeDiff, Nat.reduceEqDiff, Nat.reduceAdd, Nat.reduceSub, Nat.reduceMul, Int.reduceAdd, Int.reduceSub, Int.reduceMul, Int.reduceNeg, Int.reduceEq, Int.reduceLT, Int.reduceLE, jq_ldi_i, jq_ldl_l, jq_lda_a, jq_inc_i, jq_gs_t, jq_gsb_t, jq_gb_t, jq_gr_2, jq_gr_4, jq_gw_2, jq_s_t, jq_b_t, jg_c, jg_n, js_c, js_n, jrm_c, jrm_n, j2_i, j2_l, j2_a, jq_c_i, jq_c_l, jq_c_0, jq_c_n, jwd_le, jw_c0, mS_I, mS_R, mS_J, mN_I, mN_R, mN_J, mR_I, mI_R, mJ_I, mJ_R, mI_J, mR_J, ↓reduceIte, decide_true, or_true, true_or, and_self, false_or, or_false, reduceCtorEq, Bool.false_eq_true, and_false, false_and, eq_self, true_and, and_true, zero_ne, ↓br_lt_t, ↓br_lt_f, ↓br_eq_t, ↓br_eq_f, ↓br_lz_t, ↓br_lz_f, ↓br_ez_t, ↓br_ez_f, ↓br_gz_t, ↓br_gz_f, jw_id, jin_t, jix_t, ↓ite_t, ↓ite_f, a1, t2, t3, e3]
theorem tk_2 {p : Nat} (h : RC' w n cnt T) (hp : p ≤ n) (h2 : tK T n p = 2) : -100000 ≤ tN T n p ∧ tN T n p ≤ 100000 := by
  obtain ⟨a1, a2, a3, a4, a5, a6, a7, a8⟩ := h
  have sb := ts_bd (T := T) hp
  have tb := tke_bd (T := T) hp
  have hc := a6.2.2.2.2.2.2.1
  unfold tK at h2
  by_cases z : n ≤ tS T n p
  · rw [if_pos z] at h2
    omega
  · rw [if_neg z] at h2
    have d3 : tE T n p - tS T n p ≤ 3 := by
      by_cases y : gSo (T (tS T n p)) = 1
      · rw [if_pos y] at h2
        split at h2 <;> omega
      · rw [if_neg y] at h2
        by_cases x : gSo (T (tS T n p)) = 2
        · rw [if_pos x] at h2
          by_cases v : tE T n p - tS T n p ≤ 3
          · exact v
          · rw [if_neg v] at h2
            omega
        · rw [if_neg x] at h2
          exact absurd h2 x
    have key : ∀ m, m ≤ tE T n p - tS T n p → -48 * 200 * (m : Int) ≤ gNu T (tS T n p) m ∧ gNu T (tS T n p) m ≤ 20000 * (m : Int) := by
      intro m
      have b := fun k (hk : k < tE T n p - tS T n p) => a8 (tS T n p + k) (by omega)
      have : m = 0 ∨ m = 1 ∨ m = 2 ∨ m = 3 ∨ 3 < m := by omega
      intro hm
      have e0 : gNu T (tS T n p) 0 = 0 := rfl
      have e1 : gNu T (tS T n p) 1 = gNu T (tS T n p) 0 * 10 + T (tS T n p + 0) - 48 := rfl
      have e2 : gNu T (tS T n p) 2 = gNu T (tS T n p) 1 * 10 + T (tS T n p + 1) - 48 := rfl
      have e3 : gNu T (tS T n p) 3 = gNu T (tS T n p) 2 * 10 + T (tS T n p + 2) - 48 := rfl
      rcases this with rfl | rfl | rfl | rfl | h
      · omega
      · have := b 0 (by omega)
        omega
      · have := b 0 (by omega)
        have := b 1 (by omega)
        omega
      · have := b 0 (by omega)
        have := b 1 (by omega)
        have := b 2 (by omega)
        omega
      · omega
    have := key (tE T n p - tS T n p) (Nat.le_refl _)
    unfold tN
    omega
theorem tk_bd (p : Nat) : 0 ≤ tK T n p ∧ tK T n p ≤ 5 := by
  have := so_bd (T (tS T n p))
  unfold tK
  (repeat' split) <;> omega
theorem c_whole (h : RC' w n cnt T) {p : Nat} (ht : tC w T n p) {lo hi : Int} (l1 : -1000 ≤ lo) (l2 : lo ≤ 1000) (h1 : -1000 ≤ hi) (h2 : hi ≤ 1000) : ∃ u, rn 33 (0, [(0, jvr 101), (1, .inl lo), (2, .inl hi)], [], w) = some (some (.inl (bl (pN T n lo hi (.inl p)))), u) ∧ RC' u n cnt T ∧ CSx u T n (pN T n lo hi (.inl p)) ∧ (∀ q, pN T n lo hi (.inl p) = .inl q → mI u 101 8 = pV T n lo hi (.inl p) ∧ mI u 101 9 = tS T n p) ∧ Fr (fun b => b = 101) w u := by
  obtain ⟨t1, t2, t3, t4, t5⟩ := ht
  have a1 := h.1
  have hn := h.2.2.2.2.2.2.1
  have hc := h.2.2.2.2.2.1.2.2.2.2.2.2.1
  have sb := ts_bd (T := T) t1
  have kb := tk_bd (T := T) (n := n) p
  have eB : pB T n lo hi (.inl p) = if tK T n p = 2 then (if lo ≤ tN T n p ∧ tN T n p ≤ hi then .inl p else .inr (4, (tS T n p : Int))) else .inr (1, (tS T n p : Int)) := rfl
  have eV : pV T n lo hi (.inl p) = if tK T n p = 2 ∧ lo ≤ tN T n p ∧ tN T n p ≤ hi then tN T n p else lo := rfl
  unfold pN
  rw [eB]
  by_cases q1 : tK T n p = 2
  · have nb := tk_2 h t1 q1
    have t7 := t5.1 q1
    rw [if_pos q1]
    by_cases q2 : lo ≤ tN T n p ∧ tN T n p ≤ hi
    · rw [if_pos q2]
      rw [if_pos ⟨q1, q2⟩] at eV
      have hte := tke_bd (T := T) t1
      have h2' : RC' (setI (setI w 101 8 (tN T n p)) 101 9 (tS T n p)) n cnt T := (h.set (by omega)).set (by omega)
      obtain ⟨u, e2, r2, c2, k2, f2⟩ := c_goOn h2' (p := tE T n p) hte.2.1 (by rw [mI_nk (by omega), mI_nk (by omega)]; exact t4) ⟨by rw [mI_nk (by omega), mI_nk (by omega)]; exact t5.2.1, by rw [mI_nk (by omega), mI_nk (by omega)]; exact t5.2.2⟩
      refine ⟨u, ?_, r2, c2, fun q hq => ⟨by rw [k2 8 (by omega), mI_nk (by omega), mI_s, eV], by rw [k2 9 (by omega), mI_s]⟩, Fr.tr (P := fun b => b = 101) (Fr.tr (P := fun b => b = 101) (Fr.I rfl) (Fr.I rfl)) f2⟩
      show _ = some (some ((Sum.inl (1 : Int)) : jmV), u)
      have b5 : mI (setI w 101 8 (tN T n p)) 101 5 = tS T n p := by rw [mI_nk (by omega)]; exact t3
      simp (disch := omega) only [p33_0, p33_1, p33_4, p33_5, p33_8, p33_9, p33_10, p33_11, p33_14, p33_17, p33_18, p33_19, p33_22, p33_23, p33_26, p33_27, p33_30, p33_31, p33_34, p33_35, p33_36, p33_37, p33_40, p33_43, p33_44, p33_45, p33_46, p33_49, p33_52, p33_53, p33_54, p33_57, p33_60, p33_61, p33_64, p33_65, jwd_c, jwd_0, Nat.reduceLeDiff, Nat.reduceEqDiff, Nat.reduceAdd, Nat.reduceSub, Nat.reduceMul, Int.reduceAdd, Int.reduceSub, Int.reduceMul, Int.reduceNeg, Int.reduceEq, Int.reduceLT, Int.reduceLE, jq_ldi_i, jq_ldl_l, jq_lda_a, jq_inc_i, jq_gs_t, jq_gsb_t, jq_gb_t, jq_gr_2, jq_gr_4, jq_gw_2, jq_s_t, jq_b_t, jg_c, jg_n, js_c, js_n, jrm_c, jrm_n, j2_i, j2_l, j2_a, jq_c_i, jq_c_l, jq_c_0, jq_c_n, jwd_le, jw_c0, mS_I, mS_R, mS_J, mN_I, mN_R, mN_J, mR_I, mI_R, mJ_I, mJ_R, mI_J, mR_J, ↓reduceIte, decide_true, or_true, true_or, and_self, false_or, or_false, reduceCtorEq, Bool.false_eq_true, and_false, false_and, eq_self, true_and, and_true, zero_ne, ↓br_lt_t, ↓br_lt_f, ↓br_eq_t, ↓br_eq_f, ↓br_lz_t, ↓br_lz_f, ↓br_ez_t, ↓br_ez_f, ↓br_gz_t, ↓br_gz_f, jw_id, jin_t, jix_t, ↓ite_t, ↓ite_f, a1, t2, t7, b5, e2]
    · rw [if_neg q2]
      have fl := fl_ok h (f := 4) (a := (tS T n p : Int))
      have e3 := c_fail (w := w) (f := 4) (a := (tS T n p : Int)) a1
      refine ⟨_, ?_, fl.1, fl.2.1, fun q hq => (by cases hq), fl.2.2⟩
      show _ = some (some ((Sum.inl (0 : Int)) : jmV), _)
      by_cases q3 : tN T n p < lo
      · simp (disch := omega) only [p33_0, p33_1, p33_4, p33_5, p33_8, p33_9, p33_10, p33_11, p33_14, p33_17, p33_18, p33_19, p33_22, p33_23, p33_26, p33_27, p33_30, p33_31, p33_34, p33_35, p33_36, p33_37, p33_40, p33_43, p33_44, p33_45, p33_46, p33_49, p33_52, p33_53, p33_54, p33_57, p33_60, p33_61, p33_64, p33_65, jwd_c, jwd_0, Nat.reduceLeDiff, Nat.reduceEqDiff, Nat.reduceAdd, Nat.reduceSub, Nat.reduceMul, Int.reduceAdd, Int.reduceSub, Int.reduceMul, Int.reduceNeg, Int.reduceEq, Int.reduceLT, Int.reduceLE, jq_ldi_i, jq_ldl_l, jq_lda_a, jq_inc_i, jq_gs_t, jq_gsb_t, jq_gb_t, jq_gr_2, jq_gr_4, jq_gw_2, jq_s_t, jq_b_t, jg_c, jg_n, js_c, js_n, jrm_c, jrm_n, j2_i, j2_l, j2_a, jq_c_i, jq_c_l, jq_c_0, jq_c_n, jwd_le, jw_c0, mS_I, mS_R, mS_J, mN_I, mN_R, mN_J, mR_I, mI_R, mJ_I, mJ_R, mI_J, mR_J, ↓reduceIte, decide_true, or_true, true_or, and_self, false_or, or_false, reduceCtorEq, Bool.false_eq_true, and_false, false_and, eq_self, true_and, and_true, zero_ne, ↓br_lt_t, ↓br_lt_f, ↓br_eq_t, ↓br_eq_f, ↓br_lz_t, ↓br_lz_f, ↓br_ez_t, ↓br_ez_f, ↓br_gz_t, ↓br_gz_f, jw_id, jin_t, jix_t, ↓ite_t, ↓ite_f, a1, t2, t3, t7, e3]
      · simp (disch := omega) only [p33_0, p33_1, p33_4, p33_5, p33_8, p33_9, p33_10, p33_11, p33_14, p33_17, p33_18, p33_19, p33_22, p33_23, p33_26, p33_27, p33_30, p33_31, p33_34, p33_35, p33_36, p33_37, p33_40, p33_43, p33_44, p33_45, p33_46, p33_49, p33_52, p33_53, p33_54, p33_57, p33_60, p33_61, p33_64, p33_65, jwd_c, jwd_0, Nat.reduceLeDiff, Nat.reduceEqDiff, Nat.reduceAdd, Nat.reduceSub, Nat.reduceMul, Int.reduceAdd, Int.reduceSub, Int.reduceMul, Int.reduceNeg, Int.reduceEq, Int.reduceLT, Int.reduceLE, jq_ldi_i, jq_ldl_l, jq_lda_a, jq_inc_i, jq_gs_t, jq_gsb_t, jq_gb_t, jq_gr_2, jq_gr_4, jq_gw_2, jq_s_t, jq_b_t, jg_c, jg_n, js_c, js_n, jrm_c, jrm_n, j2_i, j2_l, j2_a, jq_c_i, jq_c_l, jq_c_0, jq_c_n, jwd_le, jw_c0, mS_I, mS_R, mS_J, mN_I, mN_R, mN_J, mR_I, mI_R, mJ_I, mJ_R, mI_J, mR_J, ↓reduceIte, decide_true, or_true, true_or, and_self, false_or, or_false, reduceCtorEq, Bool.false_eq_true, and_false, false_and, eq_self, true_and, and_true, zero_ne, ↓br_lt_t, ↓br_lt_f, ↓br_eq_t, ↓br_eq_f, ↓br_lz_t, ↓br_lz_f, ↓br_ez_t, ↓br_ez_f, ↓br_gz_t, ↓br_gz_f, jw_id, jin_t, jix_t, ↓ite_t, ↓ite_f, a1, t2, t3, t7, e3]
  · rw [if_neg q1]
    have fl := fl_ok h (f := 1) (a := (tS T n p : Int))
    have e3 := c_fail (w := w) (f := 1) (a := (tS T n p : Int)) a1
    refine ⟨_, ?_, fl.1, fl.2.1, fun q hq => (by cases hq), fl.2.2⟩
    show _ = some (some ((Sum.inl (0 : Int)) : jmV), _)
    simp (disch := omega) only [p33_0, p33_1, p33_4, p33_5, p33_8, p33_9, p33_10, p33_11, p33_14, p33_17, p33_18, p33_19, p33_22, p33_23, p33_26, p33_27, p33_30, p33_31, p33_34, p33_35, p33_36, p33_37, p33_40, p33_43, p33_44, p33_45, p33_46, p33_49, p33_52, p33_53, p33_54, p33_57, p33_60, p33_61, p33_64, p33_65, jwd_c, jwd_0, Nat.reduceLeDiff, Nat.reduceEqDiff, Nat.reduceAdd, Nat.reduceSub, Nat.reduceMul, Int.reduceAdd, Int.reduceSub, Int.reduceMul, Int.reduceNeg, Int.reduceEq, Int.reduceLT, Int.reduceLE, jq_ldi_i, jq_ldl_l, jq_lda_a, jq_inc_i, jq_gs_t, jq_gsb_t, jq_gb_t, jq_gr_2, jq_gr_4, jq_gw_2, jq_s_t, jq_b_t, jg_c, jg_n, js_c, js_n, jrm_c, jrm_n, j2_i, j2_l, j2_a, jq_c_i, jq_c_l, jq_c_0, jq_c_n, jwd_le, jw_c0, mS_I, mS_R, mS_J, mN_I, mN_R, mN_J, mR_I, mI_R, mJ_I, mJ_R, mI_J, mR_J, ↓reduceIte, decide_true, or_true, true_or, and_self, false_or, or_false, reduceCtorEq, Bool.false_eq_true, and_false, false_and, eq_self, true_and, and_true, zero_ne, ↓br_lt_t, ↓br_lt_f, ↓br_eq_t, ↓br_eq_f, ↓br_lz_t, ↓br_lz_f, ↓br_ez_t, ↓br_ez_f, ↓br_gz_t, ↓br_gz_f, jw_id, jin_t, jix_t, ↓ite_t, ↓ite_f, a1, t2, t3, e3]
theorem c_sign (h : RC' w n cnt T) {p : Nat} (ht : tC w T n p) {k : Int} (k1 : 3 ≤ k) (k2 : k ≤ 4) : ∃ u, rn 37 (0, [(0, jvr 101), (1, .inl k)], [], w) = some (some (.inl (bl (pS T n k (.inl p)))), u) ∧ RC' u n cnt T ∧ CSx u T n (pS T n k (.inl p)) ∧ Fr (fun b => b = 101) w u := by
  obtain ⟨t1, t2, t3, t4, t5⟩ := ht
  have a1 := h.1
  have hn := h.2.2.2.2.2.2.1
  have sb := ts_bd (T := T) t1
  have kb := tk_bd (T := T) (n := n) p
  have eS : pS T n k (.inl p) = if tK T n p = k then .inl (tE T n p) else .inr (1, (tS T n p : Int)) := rfl
  rw [eS]
  by_cases q1 : tK T n p = k
  · rw [if_pos q1]
    have hte := tke_bd (T := T) t1
    obtain ⟨u, e2, r2, c2, k2', f2⟩ := c_goOn h (p := tE T n p) hte.2.1 t4 t5.2
    refine ⟨u, ?_, r2, c2, f2⟩
    show _ = some (some ((Sum.inl (1 : Int)) : jmV), u)
    simp (disch := omega) only [p37_0, p37_1, p37_4, p37_5, p37_8, p37_9, p37_10, p37_11, p37_14, p37_17, p37_18, p37_19, p37_22, p37_23, jwd_c, jwd_0, Nat.reduceLeDiff, Nat.reduceEqDiff, Nat.reduceAdd, Nat.reduceSub, Nat.reduceMul, Int.reduceAdd, Int.reduceSub, Int.reduceMul, Int.reduceNeg, Int.reduceEq, Int.reduceLT, Int.reduceLE, jq_ldi_i, jq_ldl_l, jq_lda_a, jq_inc_i, jq_gs_t, jq_gsb_t, jq_gb_t, jq_gr_2, jq_gr_4, jq_gw_2, jq_s_t, jq_b_t, jg_c, jg_n, js_c, js_n, jrm_c, jrm_n, j2_i, j2_l, j2_a, jq_c_i, jq_c_l, jq_c_0, jq_c_n, jwd_le, jw_c0, mS_I, mS_R, mS_J, mN_I, mN_R, mN_J, mR_I, mI_R, mJ_I, mJ_R, mI_J, mR_J, ↓reduceIte, decide_true, or_true, true_or, and_self, false_or, or_false, reduceCtorEq, Bool.false_eq_true, and_false, false_and, eq_self, true_and, and_true, zero_ne, ↓br_lt_t, ↓br_lt_f, ↓br_eq_t, ↓br_eq_f, ↓br_lz_t, ↓br_lz_f, ↓br_ez_t, ↓br_ez_f, ↓br_gz_t, ↓br_gz_f, jw_id, jin_t, jix_t, ↓ite_t, ↓ite_f, a1, t2, e2]
  · rw [if_neg q1]
    have fl := fl_ok h (f := 1) (a := (tS T n p : Int))
    have e3 := c_fail (w := w) (f := 1) (a := (tS T n p : Int)) a1
    refine ⟨_, ?_, fl.1, fl.2.1, fl.2.2⟩
    show _ = some (some ((Sum.inl (0 : Int)) : jmV), _)
    simp (disch := omega) only [p37_0, p37_1, p37_4, p37_5, p37_8, p37_9, p37_10, p37_11, p37_14, p37_17, p37_18, p37_19, p37_22, p37_23, jwd_c, jwd_0, Nat.reduceLeDiff, Nat.reduceEqDiff, Nat.reduceAdd, Nat.reduceSub, Nat.reduceMul, Int.reduceAdd, Int.reduceSub, Int.reduceMul, Int.reduceNeg, Int.reduceEq, Int.reduceLT, Int.reduceLE, jq_ldi_i, jq_ldl_l, jq_lda_a, jq_inc_i, jq_gs_t, jq_gsb_t, jq_gb_t, jq_gr_2, jq_gr_4, jq_gw_2, jq_s_t, jq_b_t, jg_c, jg_n, js_c, js_n, jrm_c, jrm_n, j2_i, j2_l, j2_a, jq_c_i, jq_c_l, jq_c_0, jq_c_n, jwd_le, jw_c0, mS_I, mS_R, mS_J, mN_I, mN_R, mN_J, mR_I, mI_R, mJ_I, mJ_R, mI_J, mR_J, ↓reduceIte, decide_true, or_true, true_or, and_self, false_or, or_false, reduceCtorEq, Bool.false_eq_true, and_false, false_and, eq_self, true_and, and_true, zero_ne, ↓br_lt_t, ↓br_lt_f, ↓br_eq_t, ↓br_eq_f, ↓br_lz_t, ↓br_lz_f, ↓br_ez_t, ↓br_ez_f, ↓br_gz_t, ↓br_gz_f, jw_id, jin_t, jix_t, ↓ite_t, ↓ite_f, a1, t2, t3, e3]
end EXPECT
