/-! The reader: a row of the hall; a table's name, in the class. -/
def rowH (H : Nat → Nat → Int) (lo hi c k : Nat) (t : Nat → Int) : Nat → Nat → Int := fun a b => if b = k ∧ lo ≤ a ∧ a ≤ hi then t a else if a = 0 ∧ b = c then (k : Int) + 1 else H a b
def gSm (T : Nat → Int) (a b : Nat) : Nat → Nat → Bool
  | 0, _ => true
  | d + 1, i => if T (a + i) = T (b + i) then gSm T a b d (i + 1) else false
def gKm (C : Nat → Int) (c : Int) : Nat → Nat → Bool
  | 0, _ => false
  | d + 1, m => if C m = c then true else gKm C c d (m + 1)
section ROWC
variable {w u : jmW} {T : Nat → Int} {n cnt p : Nat} {H : Nat → Nat → Int} {N K : Nat} {C : Nat → Int}
theorem sg_re {a c r m : Nat} {g g2 : Nat → Nat → Int} (s : Sg w a c r m g) {b : Nat} (f : Fr (sP b) w u) (hb : a + 1 < b ∨ b + 1 < a) (h : ∀ i j, i < m → j < c → g i j = g2 i j) : Sg u a c r m g2 := (s.fr f (sP_n (by omega)) (sP_n (by omega))).mk2 h
theorem sP_rd {b : Nat} (h1 : 68 ≤ b) (h2 : b ≤ 82) : ∀ x, sP b x → rdP x := fun x hx => by
  unfold sP at hx
  unfold rdP
  omega
theorem RS.s68 (R : RS w T n cnt p H N K C) (f : Fr (sP 68) w u) {H2 : Nat → Nat → Int} {N2 : Nat} (hn : ∀ a b, (a ≠ 0 ∨ b ≠ 2) → a ≠ 17 → H2 a b = H a b) (s : Sg u 68 1 48 N2 (fun i _ => H2 17 i)) : RS u T n cnt p H2 N2 K C ∧ Fr rdP w u ∧ mI u 101 = mI w 101 := by
  refine ⟨R.re f (sP_n (by omega)) ⟨sP_n (by omega), sP_n (by omega)⟩ ⟨sP_n (by omega), sP_n (by omega)⟩ (sP_n (by omega)) (R.2.2.2.1.1.sh (k := 1) f (by omega) s) (fun k hk => hn _ _ (by omega) (by omega)) s ?_ ?_ ?_ ?_ ?_, f.mo (sP_rd (by omega) (by omega)), f.Iq (sP_n (by omega))⟩
  · rw [hn 0 5 (by omega) (by omega)]
    exact sg_re R.g70 f (by omega) (fun i j _ _ => (hn _ _ (by omega) (by omega)).symm)
  · rw [hn 0 6 (by omega) (by omega)]
    exact sg_re R.g72 f (by omega) (fun i j _ _ => (hn _ _ (by omega) (by omega)).symm)
  · rw [hn 0 3 (by omega) (by omega)]
    refine sg_re R.g74 f (by omega) (fun i j _ _ => ?_)
    unfold gTab
    rw [hn 18 i (by omega) (by omega), hn 19 i (by omega) (by omega), hn (19 + j) i (by omega) (by omega)]
  · rw [hn 0 4 (by omega) (by omega)]
    exact sg_re R.g76 f (by omega) (fun i j _ _ => (hn _ _ (by omega) (by omega)).symm)
  · rw [hn 0 8 (by omega) (by omega)]
    exact sg_re R.g78 f (by omega) (fun i j _ _ => (hn _ _ (by omega) (by omega)).symm)
theorem RS.s74 (R : RS w T n cnt p H N K C) (f : Fr (sP 74) w u) {H2 : Nat → Nat → Int} (hn : ∀ a b, (a ≠ 0 ∨ b ≠ 3) → (a < 18 ∨ 23 < a) → H2 a b = H a b) (s : Sg u 74 6 4 (H2 0 3).toNat (gTab H2)) : RS u T n cnt p H2 N K C ∧ Fr rdP w u ∧ mI u 101 = mI w 101 := by
  refine ⟨R.re f (sP_n (by omega)) ⟨sP_n (by omega), sP_n (by omega)⟩ ⟨sP_n (by omega), sP_n (by omega)⟩ (sP_n (by omega)) (R.2.2.2.1.1.sh (k := 7) f (by omega) s) (fun k hk => hn _ _ (by omega) (by omega)) ?_ ?_ ?_ s ?_ ?_, f.mo (sP_rd (by omega) (by omega)), f.Iq (sP_n (by omega))⟩
  · exact sg_re R.g68 f (by omega) (fun i j _ _ => (hn _ _ (by omega) (by omega)).symm)
  · rw [hn 0 5 (by omega) (by omega)]
    exact sg_re R.g70 f (by omega) (fun i j _ _ => (hn _ _ (by omega) (by omega)).symm)
  · rw [hn 0 6 (by omega) (by omega)]
    exact sg_re R.g72 f (by omega) (fun i j _ _ => (hn _ _ (by omega) (by omega)).symm)
  · rw [hn 0 4 (by omega) (by omega)]
    exact sg_re R.g76 f (by omega) (fun i j _ _ => (hn _ _ (by omega) (by omega)).symm)
  · rw [hn 0 8 (by omega) (by omega)]
    exact sg_re R.g78 f (by omega) (fun i j _ _ => (hn _ _ (by omega) (by omega)).symm)
theorem RS.s76 (R : RS w T n cnt p H N K C) (f : Fr (sP 76) w u) {H2 : Nat → Nat → Int} (hn : ∀ a b, (a ≠ 0 ∨ b ≠ 4) → (a < 24 ∨ 26 < a) → H2 a b = H a b) (s : Sg u 76 3 8 (H2 0 4).toNat (fun i j => H2 (24 + j) i)) : RS u T n cnt p H2 N K C ∧ Fr rdP w u ∧ mI u 101 = mI w 101 := by
  refine ⟨R.re f (sP_n (by omega)) ⟨sP_n (by omega), sP_n (by omega)⟩ ⟨sP_n (by omega), sP_n (by omega)⟩ (sP_n (by omega)) (R.2.2.2.1.1.sh (k := 9) f (by omega) s) (fun k hk => hn _ _ (by omega) (by omega)) ?_ ?_ ?_ ?_ s ?_, f.mo (sP_rd (by omega) (by omega)), f.Iq (sP_n (by omega))⟩
  · exact sg_re R.g68 f (by omega) (fun i j _ _ => (hn _ _ (by omega) (by omega)).symm)
  · rw [hn 0 5 (by omega) (by omega)]
    exact sg_re R.g70 f (by omega) (fun i j _ _ => (hn _ _ (by omega) (by omega)).symm)
  · rw [hn 0 6 (by omega) (by omega)]
    exact sg_re R.g72 f (by omega) (fun i j _ _ => (hn _ _ (by omega) (by omega)).symm)
  · rw [hn 0 3 (by omega) (by omega)]
    refine sg_re R.g74 f (by omega) (fun i j _ hj => ?_)
    unfold gTab
    rw [hn 18 i (by omega) (by omega), hn 19 i (by omega) (by omega)]
    by_cases z : j = 0
    · rw [if_pos z, if_pos z]
    · rw [if_neg z, if_neg z]
      by_cases y : j = 5
      · rw [if_pos y, if_pos y]
      · rw [if_neg y, if_neg y, hn (19 + j) i (by omega) (by omega)]
  · rw [hn 0 8 (by omega) (by omega)]
    exact sg_re R.g78 f (by omega) (fun i j _ _ => (hn _ _ (by omega) (by omega)).symm)
theorem RS.s78 (R : RS w T n cnt p H N K C) (f : Fr (sP 78) w u) {H2 : Nat → Nat → Int} (hn : ∀ a b, (a ≠ 0 ∨ b ≠ 8) → (a < 29 ∨ 31 < a) → H2 a b = H a b) (s : Sg u 78 3 8 (H2 0 8).toNat (fun i j => H2 (29 + j) i)) : RS u T n cnt p H2 N K C ∧ Fr rdP w u ∧ mI u 101 = mI w 101 := by
  refine ⟨R.re f (sP_n (by omega)) ⟨sP_n (by omega), sP_n (by omega)⟩ ⟨sP_n (by omega), sP_n (by omega)⟩ (sP_n (by omega)) (R.2.2.2.1.1.sh (k := 11) f (by omega) s) (fun k hk => hn _ _ (by omega) (by omega)) ?_ ?_ ?_ ?_ ?_ s, f.mo (sP_rd (by omega) (by omega)), f.Iq (sP_n (by omega))⟩
  · exact sg_re R.g68 f (by omega) (fun i j _ _ => (hn _ _ (by omega) (by omega)).symm)
  · rw [hn 0 5 (by omega) (by omega)]
    exact sg_re R.g70 f (by omega) (fun i j _ _ => (hn _ _ (by omega) (by omega)).symm)
  · rw [hn 0 6 (by omega) (by omega)]
    exact sg_re R.g72 f (by omega) (fun i j _ _ => (hn _ _ (by omega) (by omega)).symm)
  · rw [hn 0 3 (by omega) (by omega)]
    refine sg_re R.g74 f (by omega) (fun i j _ hj => ?_)
    unfold gTab
    rw [hn 18 i (by omega) (by omega), hn 19 i (by omega) (by omega), hn (19 + j) i (by omega) (by omega)]
  · rw [hn 0 4 (by omega) (by omega)]
    exact sg_re R.g76 f (by omega) (fun i j _ _ => (hn _ _ (by omega) (by omega)).symm)
/-- nothing of the Hall's that the class keeps -/
theorem RS.ext (R : RS w T n cnt p H N K C) {H2 : Nat → Nat → Int} (hn : ∀ a b, (a = 0 ∧ b ≠ 2 ∧ b ≠ 9) ∨ (17 ≤ a ∧ a ≤ 31) → H2 a b = H a b) : RS w T n cnt p H2 N K C := by
  have f : Fr (fun _ => False) w w := Fr.rf _ _
  have nF : ¬ False := id
  refine R.re f nF ⟨nF, nF⟩ ⟨nF, nF⟩ nF R.2.2.2.1.1 (fun k hk => hn _ _ (by omega)) (R.g68.mk2 (fun i j _ _ => (hn _ _ (by omega)).symm)) ?_ ?_ ?_ ?_ ?_
  · rw [hn 0 5 (by omega)]
    exact R.g70.mk2 (fun i j _ _ => (hn _ _ (by omega)).symm)
  · rw [hn 0 6 (by omega)]
    exact R.g72.mk2 (fun i j _ _ => (hn _ _ (by omega)).symm)
  · rw [hn 0 3 (by omega)]
    refine R.g74.mk2 (fun i j _ hj => ?_)
    unfold gTab
    rw [hn 18 i (by omega), hn 19 i (by omega), hn (19 + j) i (by omega)]
  · rw [hn 0 4 (by omega)]
    exact R.g76.mk2 (fun i j _ hj => (hn _ _ (by omega)).symm)
  · rw [hn 0 8 (by omega)]
    exact R.g78.mk2 (fun i j _ hj => (hn _ _ (by omega)).symm)
/-- a letter of a row pushed -/
theorem RS.gpush (R : RS w T n cnt p H N K C) (hN : N < 48) {v : Int} : ∃ u, rn 14 (0, [(0, jvr 68), (1, .inl v)], [], w) = some (none, u) ∧ RS u T n cnt p (uH H 17 N v) (N + 1) K C ∧ Fr rdP w u ∧ mI u 101 = mI w 101 := by
  obtain ⟨u, e, s, f⟩ := sg_push (v := v) R.g68 hN
  refine ⟨u, e, R.s68 f (fun a b h1 h2 => uH_n (by omega)) (s.mk2 (fun i j hi hj => ?_))⟩
  by_cases z : i < N
  · rw [if_pos z, uH_n (by omega)]
  · rw [if_neg z, if_pos (by omega), show i = N by omega, uH_s]
theorem gh_s {base s m : Nat} : gGh T H base s (m + 1) = uH (gGh T H base s m) 17 (base + m) (gGc (T (s + m))) := by
  funext a b
  unfold gGh uH
  by_cases z : a = 17 ∧ b = base + m
  · rw [if_pos z, if_pos ⟨z.1, by omega, by omega⟩, show b - base = m by omega]
  · rw [if_neg z]
    by_cases y : a = 17 ∧ base ≤ b ∧ b < base + m
    · exact (if_pos ⟨y.1, y.2.1, by omega⟩).trans (if_pos y).symm
    · exact (if_neg (fun x => y ⟨x.1, x.2.1, by
        by_cases v : b = base + m
        · exact absurd ⟨x.1, v⟩ z
        · omega⟩)).trans (if_neg y).symm
theorem rl_le {s : Nat} : ∀ (j m : Nat), gRl T s (m + j) = true → gRl T s m = true := by
  intro j
  induction j with
  | zero =>
    intro m h
    exact h
  | succ j ih =>
    intro m h
    have h : (gRl T s (m + j) && decide (gGc (T (s + (m + j))) ≠ -1)) = true := h
    rw [Bool.and_eq_true] at h
    exact ih m h.1
theorem row_lp {s e : Nat} (h1 : tK T n p = 1) (hs : tS T n p = s) (he : tE T n p = e) : ∀ (d m : Nat) (w : jmW) (tl : jmL), RS w T n cnt p (gGh T H N s m) (N + m) K C → s + m + d = e → gRl T s m = true → N + m + d ≤ 48 → t1p 2 tl → ∃ u, Fr rdP w u ∧ ((gRl T s (m + d) = true ∧ rn 34 (53, (0, jvr 101) :: (1, .inl ((s + m : Nat) : Int)) :: tl, [], w) = some (some (.inl 1), u) ∧ RS u T n cnt e (gGh T H N s (m + d)) (N + (m + d)) K C) ∨ (gRl T s (m + d) = false ∧ rn 34 (53, (0, jvr 101) :: (1, .inl ((s + m : Nat) : Int)) :: tl, [], w) = some (some (.inl 0), u) ∧ RFx u T n cnt (7, (s : Int)))) := by
  intro d
  induction d with
  | zero =>
    intro m w tl R hd hg hN ht
    have st := R.st
    rw [hs, he] at st
    have hl := R.l
    have tb := tke_bd (T := T) R.pn
    have hc := R.1.2.2.2.2.2.2.1
    have hc2 := R.1.2.2.2.2.2.1.2.2.2.2.2.2.1
    obtain ⟨u1, e1, R1, f1⟩ := R.over
    rw [he] at R1
    refine ⟨u1, f1, Or.inl ⟨hg, ?_, R1⟩⟩
    rw [p34_53]
    simp (disch := omega) only [p34_0, p34_1, p34_4, p34_5, p34_8, p34_9, p34_10, p34_11, p34_14, p34_17, p34_18, p34_19, p34_22, p34_23, p34_26, p34_27, p34_28, p34_31, p34_34, p34_37, p34_38, p34_40, p34_41, p34_44, p34_47, p34_48, p34_49, p34_52, p34_54, p34_55, p34_58, p34_61, p34_62, p34_65, p34_66, p34_67, p34_70, p34_71, p34_72, p34_74, p34_77, p34_78, p34_80, p34_83, p34_84, p34_86, p34_89, p34_90, p34_92, p34_93, p34_96, p34_99, p34_100, p34_101, p34_104, p34_107, p34_108, p34_110, p34_113, p34_114, p34_117, p34_118, p34_120, p34_123, p34_124, p34_127, p34_128, p34_131, p34_134, p34_137, p34_138, p34_141, p34_142, jwd_c, jwd_0, Nat.reduceLeDiff, Nat.reduceEqDiff, Nat.reduceAdd, Nat.reduceSub, Nat.reduceMul, Int.reduceAdd, Int.reduceSub, Int.reduceMul, Int.reduceNeg, Int.reduceEq, Int.reduceLT, Int.reduceLE, jq_ldi_i, jq_ldl_l, jq_lda_a, jq_inc_i, jq_gs_t, jq_gsb_t, jq_gb_t, jq_gr_2, jq_gr_4, jq_gw_2, jq_s_t, jq_b_t, jg_c, jg_n, js_c, js_n, jrm_c, jrm_n, j2_i, j2_l, j2_a, jq_c_i, jq_c_l, jq_c_0, jq_c_n, jwd_le, jw_c0, mS_I, mS_R, mS_J, mN_I, mN_R, mN_J, mR_I, mI_R, mJ_I, mJ_R, mI_J, mR_J, ↓reduceIte, decide_true, or_true, true_or, and_self, false_or, or_false, reduceCtorEq, Bool.false_eq_true, and_false, false_and, eq_self, true_and, and_true, zero_ne, ↓br_lt_t, ↓br_lt_f, ↓br_eq_t, ↓br_eq_f, ↓br_lz_t, ↓br_lz_f, ↓br_ez_t, ↓br_ez_f, ↓br_gz_t, ↓br_gz_f, jw_id, jin_t, jix_t, ↓ite_t, ↓ite_f, RS.a R, RS.r0 R, RS.h R, RS.r2 R, RS.l R, RS.s R, RS.k0 R, RS.k1 R, RS.k2 R, RS.k3 R, RS.k4 R, RS.k5 R, RS.f8 R, RS.f9 R, RS.t65 R, RS.t102 R, RS.t68 R, RS.t70 R, RS.t72 R, RS.t74 R, RS.t76 R, RS.t78 R, st.1, st.2.1, st.2.2, e1]
  | succ d ih =>
    intro m w tl R hd hg hN ht
    have st := R.st
    rw [hs, he] at st
    have hl := R.l
    have tb := tke_bd (T := T) R.pn
    have hc := R.1.2.2.2.2.2.2.1
    have hc2 := R.1.2.2.2.2.2.1.2.2.2.2.2.2.1
    have tl2 := (tw_lt h1).1 m (by omega)
    rw [hs] at tl2
    have j2 := t1p_js ht
    have tg := tp_get R.1 (k := s + m) (by omega)
    generalize hX : T (s + m) = X at *
    have key : gGc X ≠ -1 → ∃ u2, Fr rdP w u2 ∧ RS u2 T n cnt p (gGh T H N s (m + 1)) (N + (m + 1)) K C ∧ rn 34 (53, (0, jvr 101) :: (1, .inl ((s + m : Nat) : Int)) :: tl, [], w) = rn 34 (53, [(0, jvr 101), (1, .inl (((s + m : Nat) : Int) + 1)), (2, .inl X)], [], u2) := by
      intro hg2
      obtain ⟨u2, e2, R2, f2, -⟩ := R.gpush (by omega) (v := gGc X)
      refine ⟨u2, f2, by rw [gh_s, hX]; exact R2, ?_⟩
      rw [p34_53]
      unfold gGc at e2 hg2
      by_cases q1 : X = 102
      · rw [if_pos q1] at e2
        simp (disch := omega) only [p34_0, p34_1, p34_4, p34_5, p34_8, p34_9, p34_10, p34_11, p34_14, p34_17, p34_18, p34_19, p34_22, p34_23, p34_26, p34_27, p34_28, p34_31, p34_34, p34_37, p34_38, p34_40, p34_41, p34_44, p34_47, p34_48, p34_49, p34_52, p34_54, p34_55, p34_58, p34_61, p34_62, p34_65, p34_66, p34_67, p34_70, p34_71, p34_72, p34_74, p34_77, p34_78, p34_80, p34_83, p34_84, p34_86, p34_89, p34_90, p34_92, p34_93, p34_96, p34_99, p34_100, p34_101, p34_104, p34_107, p34_108, p34_110, p34_113, p34_114, p34_117, p34_118, p34_120, p34_123, p34_124, p34_127, p34_128, p34_131, p34_134, p34_137, p34_138, p34_141, p34_142, jwd_c, jwd_0, Nat.reduceLeDiff, Nat.reduceEqDiff, Nat.reduceAdd, Nat.reduceSub, Nat.reduceMul, Int.reduceAdd, Int.reduceSub, Int.reduceMul, Int.reduceNeg, Int.reduceEq, Int.reduceLT, Int.reduceLE, jq_ldi_i, jq_ldl_l, jq_lda_a, jq_inc_i, jq_gs_t, jq_gsb_t, jq_gb_t, jq_gr_2, jq_gr_4, jq_gw_2, jq_s_t, jq_b_t, jg_c, jg_n, js_c, js_n, jrm_c, jrm_n, j2_i, j2_l, j2_a, jq_c_i, jq_c_l, jq_c_0, jq_c_n, jwd_le, jw_c0, mS_I, mS_R, mS_J, mN_I, mN_R, mN_J, mR_I, mI_R, mJ_I, mJ_R, mI_J, mR_J, ↓reduceIte, decide_true, or_true, true_or, and_self, false_or, or_false, reduceCtorEq, Bool.false_eq_true, and_false, false_and, eq_self, true_and, and_true, zero_ne, ↓br_lt_t, ↓br_lt_f, ↓br_eq_t, ↓br_eq_f, ↓br_lz_t, ↓br_lz_f, ↓br_ez_t, ↓br_ez_f, ↓br_gz_t, ↓br_gz_f, jw_id, jin_t, jix_t, ↓ite_t, ↓ite_f, RS.a R, RS.r0 R, RS.h R, RS.r2 R, RS.l R, RS.s R, RS.k0 R, RS.k1 R, RS.k2 R, RS.k3 R, RS.k4 R, RS.k5 R, RS.f8 R, RS.f9 R, RS.t65 R, RS.t102 R, RS.t68 R, RS.t70 R, RS.t72 R, RS.t74 R, RS.t76 R, RS.t78 R, st.1, st.2.1, st.2.2, tg, j2, e2]
      · rw [if_neg q1] at e2 hg2
        by_cases q2 : X = 115
        · rw [if_pos q2] at e2
          simp (disch := omega) only [p34_0, p34_1, p34_4, p34_5, p34_8, p34_9, p34_10, p34_11, p34_14, p34_17, p34_18, p34_19, p34_22, p34_23, p34_26, p34_27, p34_28, p34_31, p34_34, p34_37, p34_38, p34_40, p34_41, p34_44, p34_47, p34_48, p34_49, p34_52, p34_54, p34_55, p34_58, p34_61, p34_62, p34_65, p34_66, p34_67, p34_70, p34_71, p34_72, p34_74, p34_77, p34_78, p34_80, p34_83, p34_84, p34_86, p34_89, p34_90, p34_92, p34_93, p34_96, p34_99, p34_100, p34_101, p34_104, p34_107, p34_108, p34_110, p34_113, p34_114, p34_117, p34_118, p34_120, p34_123, p34_124, p34_127, p34_128, p34_131, p34_134, p34_137, p34_138, p34_141, p34_142, jwd_c, jwd_0, Nat.reduceLeDiff, Nat.reduceEqDiff, Nat.reduceAdd, Nat.reduceSub, Nat.reduceMul, Int.reduceAdd, Int.reduceSub, Int.reduceMul, Int.reduceNeg, Int.reduceEq, Int.reduceLT, Int.reduceLE, jq_ldi_i, jq_ldl_l, jq_lda_a, jq_inc_i, jq_gs_t, jq_gsb_t, jq_gb_t, jq_gr_2, jq_gr_4, jq_gw_2, jq_s_t, jq_b_t, jg_c, jg_n, js_c, js_n, jrm_c, jrm_n, j2_i, j2_l, j2_a, jq_c_i, jq_c_l, jq_c_0, jq_c_n, jwd_le, jw_c0, mS_I, mS_R, mS_J, mN_I, mN_R, mN_J, mR_I, mI_R, mJ_I, mJ_R, mI_J, mR_J, ↓reduceIte, decide_true, or_true, true_or, and_self, false_or, or_false, reduceCtorEq, Bool.false_eq_true, and_false, false_and, eq_self, true_and, and_true, zero_ne, ↓br_lt_t, ↓br_lt_f, ↓br_eq_t, ↓br_eq_f, ↓br_lz_t, ↓br_lz_f, ↓br_ez_t, ↓br_ez_f, ↓br_gz_t, ↓br_gz_f, jw_id, jin_t, jix_t, ↓ite_t, ↓ite_f, RS.a R, RS.r0 R, RS.h R, RS.r2 R, RS.l R, RS.s R, RS.k0 R, RS.k1 R, RS.k2 R, RS.k3 R, RS.k4 R, RS.k5 R, RS.f8 R, RS.f9 R, RS.t65 R, RS.t102 R, RS.t68 R, RS.t70 R, RS.t72 R, RS.t74 R, RS.t76 R, RS.t78 R, st.1, st.2.1, st.2.2, tg, j2, e2]
        · rw [if_neg q2] at e2 hg2
          by_cases q3 : X = 119
          · rw [if_pos q3] at e2
            simp (disch := omega) only [p34_0, p34_1, p34_4, p34_5, p34_8, p34_9, p34_10, p34_11, p34_14, p34_17, p34_18, p34_19, p34_22, p34_23, p34_26, p34_27, p34_28, p34_31, p34_34, p34_37, p34_38, p34_40, p34_41, p34_44, p34_47, p34_48, p34_49, p34_52, p34_54, p34_55, p34_58, p34_61, p34_62, p34_65, p34_66, p34_67, p34_70, p34_71, p34_72, p34_74, p34_77, p34_78, p34_80, p34_83, p34_84, p34_86, p34_89, p34_90, p34_92, p34_93, p34_96, p34_99, p34_100, p34_101, p34_104, p34_107, p34_108, p34_110, p34_113, p34_114, p34_117, p34_118, p34_120, p34_123, p34_124, p34_127, p34_128, p34_131, p34_134, p34_137, p34_138, p34_141, p34_142, jwd_c, jwd_0, Nat.reduceLeDiff, Nat.reduceEqDiff, Nat.reduceAdd, Nat.reduceSub, Nat.reduceMul, Int.reduceAdd, Int.reduceSub, Int.reduceMul, Int.reduceNeg, Int.reduceEq, Int.reduceLT, Int.reduceLE, jq_ldi_i, jq_ldl_l, jq_lda_a, jq_inc_i, jq_gs_t, jq_gsb_t, jq_gb_t, jq_gr_2, jq_gr_4, jq_gw_2, jq_s_t, jq_b_t, jg_c, jg_n, js_c, js_n, jrm_c, jrm_n, j2_i, j2_l, j2_a, jq_c_i, jq_c_l, jq_c_0, jq_c_n, jwd_le, jw_c0, mS_I, mS_R, mS_J, mN_I, mN_R, mN_J, mR_I, mI_R, mJ_I, mJ_R, mI_J, mR_J, ↓reduceIte, decide_true, or_true, true_or, and_self, false_or, or_false, reduceCtorEq, Bool.false_eq_true, and_false, false_and, eq_self, true_and, and_true, zero_ne, ↓br_lt_t, ↓br_lt_f, ↓br_eq_t, ↓br_eq_f, ↓br_lz_t, ↓br_lz_f, ↓br_ez_t, ↓br_ez_f, ↓br_gz_t, ↓br_gz_f, jw_id, jin_t, jix_t, ↓ite_t, ↓ite_f, RS.a R, RS.r0 R, RS.h R, RS.r2 R, RS.l R, RS.s R, RS.k0 R, RS.k1 R, RS.k2 R, RS.k3 R, RS.k4 R, RS.k5 R, RS.f8 R, RS.f9 R, RS.t65 R, RS.t102 R, RS.t68 R, RS.t70 R, RS.t72 R, RS.t74 R, RS.t76 R, RS.t78 R, st.1, st.2.1, st.2.2, tg, j2, e2]
          · rw [if_neg q3] at hg2
            exact absurd rfl hg2
    have gs : gRl T s (m + 1) = (gRl T s m && decide (gGc (T (s + m)) ≠ -1)) := rfl
    rw [hX, hg, Bool.true_and] at gs
    by_cases z : gGc X = -1
    · have fl := R.fail (f := 7) (a := (s : Int))
      have gf : gRl T s (m + (d + 1)) = false := by
        cases y : gRl T s (m + (d + 1)) with
        | false => rfl
        | true =>
          have := rl_le d (m + 1) (by rw [show m + 1 + d = m + (d + 1) by omega]; exact y)
          rw [gs] at this
          exact absurd z (of_decide_eq_true this)
      refine ⟨_, fl.2.2, Or.inr ⟨gf, ?_, fl.2.1⟩⟩
      unfold gGc at z
      by_cases q1 : X = 102
      · rw [if_pos q1] at z
        omega
      · rw [if_neg q1] at z
        by_cases q2 : X = 115
        · rw [if_pos q2] at z
          omega
        · rw [if_neg q2] at z
          by_cases q3 : X = 119
          · rw [if_pos q3] at z
            omega
          · rw [p34_53]
            simp (disch := omega) only [p34_0, p34_1, p34_4, p34_5, p34_8, p34_9, p34_10, p34_11, p34_14, p34_17, p34_18, p34_19, p34_22, p34_23, p34_26, p34_27, p34_28, p34_31, p34_34, p34_37, p34_38, p34_40, p34_41, p34_44, p34_47, p34_48, p34_49, p34_52, p34_54, p34_55, p34_58, p34_61, p34_62, p34_65, p34_66, p34_67, p34_70, p34_71, p34_72, p34_74, p34_77, p34_78, p34_80, p34_83, p34_84, p34_86, p34_89, p34_90, p34_92, p34_93, p34_96, p34_99, p34_100, p34_101, p34_104, p34_107, p34_108, p34_110, p34_113, p34_114, p34_117, p34_118, p34_120, p34_123, p34_124, p34_127, p34_128, p34_131, p34_134, p34_137, p34_138, p34_141, p34_142, jwd_c, jwd_0, Nat.reduceLeDiff, Nat.reduceEqDiff, Nat.reduceAdd, Nat.reduceSub, Nat.reduceMul, Int.reduceAdd, Int.reduceSub, Int.reduceMul, Int.reduceNeg, Int.reduceEq, Int.reduceLT, Int.reduceLE, jq_ldi_i, jq_ldl_l, jq_lda_a, jq_inc_i, jq_gs_t, jq_gsb_t, jq_gb_t, jq_gr_2, jq_gr_4, jq_gw_2, jq_s_t, jq_b_t, jg_c, jg_n, js_c, js_n, jrm_c, jrm_n, j2_i, j2_l, j2_a, jq_c_i, jq_c_l, jq_c_0, jq_c_n, jwd_le, jw_c0, mS_I, mS_R, mS_J, mN_I, mN_R, mN_J, mR_I, mI_R, mJ_I, mJ_R, mI_J, mR_J, ↓reduceIte, decide_true, or_true, true_or, and_self, false_or, or_false, reduceCtorEq, Bool.false_eq_true, and_false, false_and, eq_self, true_and, and_true, zero_ne, ↓br_lt_t, ↓br_lt_f, ↓br_eq_t, ↓br_eq_f, ↓br_lz_t, ↓br_lz_f, ↓br_ez_t, ↓br_ez_f, ↓br_gz_t, ↓br_gz_f, jw_id, jin_t, jix_t, ↓ite_t, ↓ite_f, RS.a R, RS.r0 R, RS.h R, RS.r2 R, RS.l R, RS.s R, RS.k0 R, RS.k1 R, RS.k2 R, RS.k3 R, RS.k4 R, RS.k5 R, RS.f8 R, RS.f9 R, RS.t65 R, RS.t102 R, RS.t68 R, RS.t70 R, RS.t72 R, RS.t74 R, RS.t76 R, RS.t78 R, st.1, st.2.1, st.2.2, tg, j2, fl.1]
    · obtain ⟨u2, f2, R2, e2⟩ := key z
      have i1 := ih (m + 1) u2 [(2, .inl X)] R2 (by omega) (by rw [gs]; exact decide_eq_true z) (by omega) (Or.inr ⟨_, rfl⟩)
      rw [show ((s + (m + 1) : Nat) : Int) = ((s + m : Nat) : Int) + 1 by omega, show m + 1 + d = m + (d + 1) by omega] at i1
      obtain ⟨u3, f3, h3⟩ := i1
      refine ⟨u3, f2.tr f3, ?_⟩
      rw [e2]
      exact h3
theorem l_row (R : RS w T n cnt p H N K C) (hW : 0 ≤ H 0 0 ∧ H 0 0 ≤ 8) (hN : (N : Int) + H 0 0 ≤ 48) : ∃ u, Fr rdP w u ∧ ((∃ q, qRw T n (H 0 0) p = .inl q ∧ rn 34 (0, [(0, jvr 101)], [], w) = some (some (.inl 1), u) ∧ RS u T n cnt q (qRH T n H N p) (N + (H 0 0).toNat) K C) ∨ (∃ x, qRw T n (H 0 0) p = .inr x ∧ rn 34 (0, [(0, jvr 101)], [], w) = some (some (.inl 0), u) ∧ RFx u T n cnt x)) := by
  have st := R.st
  have tb := tke_bd (T := T) R.pn
  have sb := ts_bd (T := T) R.pn
  have kb := tk_bd (T := T) (n := n) p
  have hc := R.1.2.2.2.2.2.2.1
  have hc2 := R.1.2.2.2.2.2.1.2.2.2.2.2.2.1
  have f8 := R.f8
  by_cases q1 : tK T n p = 1
  · by_cases q2 : ((tE T n p - tS T n p : Nat) : Int) = H 0 0
    · have eW : (H 0 0).toNat = tE T n p - tS T n p := by omega
      have g0 : gGh T H N (tS T n p) 0 = H := by
        funext a b
        unfold gGh
        rw [if_neg (by omega)]
      have i1 := row_lp (H := H) (N := N) (K := K) (C := C) (cnt := cnt) q1 rfl rfl (tE T n p - tS T n p) 0 w [] (by rw [g0]; exact R) (by omega) rfl (by omega) (Or.inl rfl)
      rw [Nat.zero_add, Nat.add_zero] at i1
      have e0 : rn 34 (0, [(0, jvr 101)], [], w) = rn 34 (53, [(0, jvr 101), (1, .inl ((tS T n p : Nat) : Int))], [], w) := by
        simp (disch := omega) only [p34_0, p34_1, p34_4, p34_5, p34_8, p34_9, p34_10, p34_11, p34_14, p34_17, p34_18, p34_19, p34_22, p34_23, p34_26, p34_27, p34_28, p34_31, p34_34, p34_37, p34_38, p34_40, p34_41, p34_44, p34_47, p34_48, p34_49, p34_52, p34_54, p34_55, p34_58, p34_61, p34_62, p34_65, p34_66, p34_67, p34_70, p34_71, p34_72, p34_74, p34_77, p34_78, p34_80, p34_83, p34_84, p34_86, p34_89, p34_90, p34_92, p34_93, p34_96, p34_99, p34_100, p34_101, p34_104, p34_107, p34_108, p34_110, p34_113, p34_114, p34_117, p34_118, p34_120, p34_123, p34_124, p34_127, p34_128, p34_131, p34_134, p34_137, p34_138, p34_141, p34_142, jwd_c, jwd_0, Nat.reduceLeDiff, Nat.reduceEqDiff, Nat.reduceAdd, Nat.reduceSub, Nat.reduceMul, Int.reduceAdd, Int.reduceSub, Int.reduceMul, Int.reduceNeg, Int.reduceEq, Int.reduceLT, Int.reduceLE, jq_ldi_i, jq_ldl_l, jq_lda_a, jq_inc_i, jq_gs_t, jq_gsb_t, jq_gb_t, jq_gr_2, jq_gr_4, jq_gw_2, jq_s_t, jq_b_t, jg_c, jg_n, js_c, js_n, jrm_c, jrm_n, j2_i, j2_l, j2_a, jq_c_i, jq_c_l, jq_c_0, jq_c_n, jwd_le, jw_c0, mS_I, mS_R, mS_J, mN_I, mN_R, mN_J, mR_I, mI_R, mJ_I, mJ_R, mI_J, mR_J, ↓reduceIte, decide_true, or_true, true_or, and_self, false_or, or_false, reduceCtorEq, Bool.false_eq_true, and_false, false_and, eq_self, true_and, and_true, zero_ne, ↓br_lt_t, ↓br_lt_f, ↓br_eq_t, ↓br_eq_f, ↓br_lz_t, ↓br_lz_f, ↓br_ez_t, ↓br_ez_f, ↓br_gz_t, ↓br_gz_f, jw_id, jin_t, jix_t, ↓ite_t, ↓ite_f, RS.a R, RS.r0 R, RS.h R, RS.r2 R, RS.l R, RS.s R, RS.k0 R, RS.k1 R, RS.k2 R, RS.k3 R, RS.k4 R, RS.k5 R, RS.f8 R, RS.f9 R, RS.t65 R, RS.t102 R, RS.t68 R, RS.t70 R, RS.t72 R, RS.t74 R, RS.t76 R, RS.t78 R, st.1, st.2.1, st.2.2]
      rw [e0, eW]
      obtain ⟨u, f, ⟨g, e, R2⟩ | ⟨g, e, R2⟩⟩ := i1
      · refine ⟨u, f, Or.inl ⟨tE T n p, by unfold qRw; rw [if_pos q1, if_pos q2, if_pos g], e, ?_⟩⟩
        exact R2.ext (fun a b h => uH_n (by omega))
      · exact ⟨u, f, Or.inr ⟨_, by unfold qRw; rw [if_pos q1, if_pos q2, if_neg (by rw [g]; decide)], e, R2⟩⟩
    · have fl := R.fail (f := 7) (a := (tS T n p : Int))
      refine ⟨_, fl.2.2, Or.inr ⟨_, by unfold qRw; rw [if_pos q1, if_neg q2], ?_, fl.2.1⟩⟩
      simp (disch := omega) only [p34_0, p34_1, p34_4, p34_5, p34_8, p34_9, p34_10, p34_11, p34_14, p34_17, p34_18, p34_19, p34_22, p34_23, p34_26, p34_27, p34_28, p34_31, p34_34, p34_37, p34_38, p34_40, p34_41, p34_44, p34_47, p34_48, p34_49, p34_52, p34_54, p34_55, p34_58, p34_61, p34_62, p34_65, p34_66, p34_67, p34_70, p34_71, p34_72, p34_74, p34_77, p34_78, p34_80, p34_83, p34_84, p34_86, p34_89, p34_90, p34_92, p34_93, p34_96, p34_99, p34_100, p34_101, p34_104, p34_107, p34_108, p34_110, p34_113, p34_114, p34_117, p34_118, p34_120, p34_123, p34_124, p34_127, p34_128, p34_131, p34_134, p34_137, p34_138, p34_141, p34_142, jwd_c, jwd_0, Nat.reduceLeDiff, Nat.reduceEqDiff, Nat.reduceAdd, Nat.reduceSub, Nat.reduceMul, Int.reduceAdd, Int.reduceSub, Int.reduceMul, Int.reduceNeg, Int.reduceEq, Int.reduceLT, Int.reduceLE, jq_ldi_i, jq_ldl_l, jq_lda_a, jq_inc_i, jq_gs_t, jq_gsb_t, jq_gb_t, jq_gr_2, jq_gr_4, jq_gw_2, jq_s_t, jq_b_t, jg_c, jg_n, js_c, js_n, jrm_c, jrm_n, j2_i, j2_l, j2_a, jq_c_i, jq_c_l, jq_c_0, jq_c_n, jwd_le, jw_c0, mS_I, mS_R, mS_J, mN_I, mN_R, mN_J, mR_I, mI_R, mJ_I, mJ_R, mI_J, mR_J, ↓reduceIte, decide_true, or_true, true_or, and_self, false_or, or_false, reduceCtorEq, Bool.false_eq_true, and_false, false_and, eq_self, true_and, and_true, zero_ne, ↓br_lt_t, ↓br_lt_f, ↓br_eq_t, ↓br_eq_f, ↓br_lz_t, ↓br_lz_f, ↓br_ez_t, ↓br_ez_f, ↓br_gz_t, ↓br_gz_f, jw_id, jin_t, jix_t, ↓ite_t, ↓ite_f, RS.a R, RS.r0 R, RS.h R, RS.r2 R, RS.l R, RS.s R, RS.k0 R, RS.k1 R, RS.k2 R, RS.k3 R, RS.k4 R, RS.k5 R, RS.f8 R, RS.f9 R, RS.t65 R, RS.t102 R, RS.t68 R, RS.t70 R, RS.t72 R, RS.t74 R, RS.t76 R, RS.t78 R, st.1, st.2.1, st.2.2, fl.1]
  · have fl := R.fail (f := 1) (a := (tS T n p : Int))
    refine ⟨_, fl.2.2, Or.inr ⟨_, by unfold qRw; rw [if_neg q1], ?_, fl.2.1⟩⟩
    simp (disch := omega) only [p34_0, p34_1, p34_4, p34_5, p34_8, p34_9, p34_10, p34_11, p34_14, p34_17, p34_18, p34_19, p34_22, p34_23, p34_26, p34_27, p34_28, p34_31, p34_34, p34_37, p34_38, p34_40, p34_41, p34_44, p34_47, p34_48, p34_49, p34_52, p34_54, p34_55, p34_58, p34_61, p34_62, p34_65, p34_66, p34_67, p34_70, p34_71, p34_72, p34_74, p34_77, p34_78, p34_80, p34_83, p34_84, p34_86, p34_89, p34_90, p34_92, p34_93, p34_96, p34_99, p34_100, p34_101, p34_104, p34_107, p34_108, p34_110, p34_113, p34_114, p34_117, p34_118, p34_120, p34_123, p34_124, p34_127, p34_128, p34_131, p34_134, p34_137, p34_138, p34_141, p34_142, jwd_c, jwd_0, Nat.reduceLeDiff, Nat.reduceEqDiff, Nat.reduceAdd, Nat.reduceSub, Nat.reduceMul, Int.reduceAdd, Int.reduceSub, Int.reduceMul, Int.reduceNeg, Int.reduceEq, Int.reduceLT, Int.reduceLE, jq_ldi_i, jq_ldl_l, jq_lda_a, jq_inc_i, jq_gs_t, jq_gsb_t, jq_gb_t, jq_gr_2, jq_gr_4, jq_gw_2, jq_s_t, jq_b_t, jg_c, jg_n, js_c, js_n, jrm_c, jrm_n, j2_i, j2_l, j2_a, jq_c_i, jq_c_l, jq_c_0, jq_c_n, jwd_le, jw_c0, mS_I, mS_R, mS_J, mN_I, mN_R, mN_J, mR_I, mI_R, mJ_I, mJ_R, mI_J, mR_J, ↓reduceIte, decide_true, or_true, true_or, and_self, false_or, or_false, reduceCtorEq, Bool.false_eq_true, and_false, false_and, eq_self, true_and, and_true, zero_ne, ↓br_lt_t, ↓br_lt_f, ↓br_eq_t, ↓br_eq_f, ↓br_lz_t, ↓br_lz_f, ↓br_ez_t, ↓br_ez_f, ↓br_gz_t, ↓br_gz_f, jw_id, jin_t, jix_t, ↓ite_t, ↓ite_f, RS.a R, RS.r0 R, RS.h R, RS.r2 R, RS.l R, RS.s R, RS.k0 R, RS.k1 R, RS.k2 R, RS.k3 R, RS.k4 R, RS.k5 R, RS.f8 R, RS.f9 R, RS.t65 R, RS.t102 R, RS.t68 R, RS.t70 R, RS.t72 R, RS.t74 R, RS.t76 R, RS.t78 R, st.1, st.2.1, st.2.2, fl.1]
end ROWC
