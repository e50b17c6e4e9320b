/-! The reader: a person; a dancer; a table, in the class. -/
def uT (t : Nat → Int) (j : Nat) (v : Int) : Nat → Int := fun a => if a = j then v else t a
section PERSP
variable (T : Nat → Int) (n : Nat)
def qp1 (s : gSg) : gSg := pO T n (cs wKd) s
def qp2 (s : gSg) : gSg := pO T n (cs (w1 "legs")) (qp1 T n s)
def qp3 (s : gSg) : gSg := pN T n 1 9 (qp2 T n s)
def qp4 (s : gSg) : gSg := pO T n (cs (w1 "grip")) (qp3 T n s)
def qp5 (s : gSg) : gSg := pN T n 0 9 (qp4 T n s)
/-- a person read into a row of numbers -/
def tP (A : Nat) (t : Nat → Int) (s : gSg) : Nat → Int := uT (uT (uT t A (pI T n (cs wKd) s)) (A + 1) (pV T n 1 9 (qp2 T n s))) (A + 2) (pV T n 0 9 (qp4 T n s))
def qdH (H : Nat → Nat → Int) (s : gSg) : Nat → Nat → Int := rowH H 24 26 4 (H 0 4).toNat (tP T n 24 (fun _ => 0) s)
/-- table -/
def qt2 (C : Nat → Int) (K p : Nat) : gSg := pO T n (cs (w1 "at")) (qt1 T n C K p)
def gGd (H : Nat → Nat → Int) (c : Int) (s : gSg) : gSg := match s with
  | .inl p2 => if H 17 c.toNat = 3 then .inr (3, (tS T n p2 : Int)) else if H 17 c.toNat = 2 then .inr (7, (tS T n p2 : Int)) else .inl (tE T n p2)
  | .inr x => .inr x
def qtc (H : Nat → Nat → Int) (C : Nat → Int) (K p : Nat) : Int := pCell T n (H 0 0) (H 0 1) (qt2 T n C K p)
def qt3 (H : Nat → Nat → Int) (C : Nat → Int) (K p : Nat) : gSg := gGd T n H (qtc T n H C K p) (pCb T n (H 0 0) (H 0 1) (qt2 T n C K p))
def qt4 (H : Nat → Nat → Int) (C : Nat → Int) (K p : Nat) : gSg := pO T n (cs (w1 "sits")) (qt3 T n H C K p)
def qt5 (H : Nat → Nat → Int) (C : Nat → Int) (K p : Nat) : gSg := pN T n 1 9 (qt4 T n H C K p)
def qt7 (H : Nat → Nat → Int) (C : Nat → Int) (K p : Nat) : gSg := pO T n (cs (w1 "eager")) (qp5 T n (qt5 T n H C K p))
def qt8 (H : Nat → Nat → Int) (C : Nat → Int) (K p : Nat) : gSg := pN T n 0 100 (qt7 T n H C K p)
def qtH (H : Nat → Nat → Int) (C : Nat → Int) (K p : Nat) : Nat → Nat → Int := rowH (uH H 17 (qtc T n H C K p).toNat 3) 18 23 3 (H 0 3).toNat (uT (tP T n 20 (uT (uT (fun _ => 0) 18 (qtc T n H C K p)) 19 (pV T n 1 9 (qt4 T n H C K p))) (qt5 T n H C K p)) 23 (pV T n 0 100 (qt7 T n H C K p)))
end PERSP
section PERSC
variable {w u : jmW} {T : Nat → Int} {n cnt p : Nat} {H : Nat → Nat → Int} {N K : Nat} {C : Nat → Int}
theorem rowH_t {lo hi c k : Nat} {t : Nat → Int} {a : Nat} (h1 : lo ≤ a) (h2 : a ≤ hi) : rowH H lo hi c k t a k = t a := if_pos ⟨rfl, h1, h2⟩
theorem rowH_c {lo hi c k : Nat} {t : Nat → Int} (h : 1 ≤ lo) : rowH H lo hi c k t 0 c = (k : Int) + 1 := (if_neg (fun z => by omega)).trans (if_pos ⟨rfl, rfl⟩)
theorem rowH_n {lo hi c k : Nat} {t : Nat → Int} {a b : Nat} (h1 : b ≠ k ∨ a < lo ∨ hi < a) (h2 : a ≠ 0 ∨ b ≠ c) : rowH H lo hi c k t a b = H a b := (if_neg (fun z => by omega)).trans (if_neg (fun z => by omega))
/-- a number of a person set -/
theorem put76 {t : Nat → Int} {k : Nat} (R : RS w T n cnt p (rowH H 24 26 4 k t) N K C) {x : Int} {A : Nat} {v : Int} (hx : 0 ≤ x ∧ x < 3) (hA : (A : Int) = 24 + x) : ∃ u, rn 17 (0, [(0, jvr 76), (1, .inl (k : Int)), (2, .inl x), (3, .inl v)], [], w) = some (none, u) ∧ RS u T n cnt p (rowH H 24 26 4 k (uT t A v)) N K C ∧ Fr rdP w u ∧ mI u 101 = mI w 101 := by
  have g := R.g76
  have hc : rowH H 24 26 4 k t 0 4 = (k : Int) + 1 := rowH_c (by omega)
  rw [hc] at g
  obtain ⟨u, e, s, f⟩ := sg_put (v := v) g (l := (k : Int)) (k := x) (by omega) (by omega) hx.1 hx.2
  refine ⟨u, e, R.s76 f (fun a b h1 h2 => ?_) ?_⟩
  · rw [rowH_n (by omega) h1, rowH_n (by omega) h1]
  · rw [rowH_c (by omega)]
    refine s.mk2 (fun i j hi hj => ?_)
    rw [Int.toNat_natCast]
    by_cases z : i = k
    · rw [z, rowH_t (by omega) (by omega), rowH_t (by omega) (by omega)]
      unfold uT
      by_cases y : j = x.toNat
      · rw [if_pos ⟨rfl, y⟩, if_pos (by omega)]
      · rw [if_neg (fun q => y q.2), if_neg (by omega)]
    · rw [if_neg (fun q => z q.1), rowH_n (Or.inl z) (by omega), rowH_n (Or.inl z) (by omega)]
theorem put74 {t : Nat → Int} {k : Nat} (R : RS w T n cnt p (rowH H 18 23 3 k t) N K C) {x : Int} {A : Nat} {v : Int} (hA : (1 ≤ x ∧ x ≤ 4 ∧ (A : Int) = 19 + x) ∨ (x = 5 ∧ A = 19)) : ∃ u, rn 17 (0, [(0, jvr 74), (1, .inl (k : Int)), (2, .inl x), (3, .inl v)], [], w) = some (none, u) ∧ RS u T n cnt p (rowH H 18 23 3 k (uT t A v)) N K C ∧ Fr rdP w u ∧ mI u 101 = mI w 101 := by
  have g := R.g74
  have hc : rowH H 18 23 3 k t 0 3 = (k : Int) + 1 := rowH_c (by omega)
  rw [hc] at g
  obtain ⟨u, e, s, f⟩ := sg_put (v := v) g (l := (k : Int)) (k := x) (by omega) (by omega) (by omega) (by omega)
  refine ⟨u, e, R.s74 f (fun a b h1 h2 => ?_) ?_⟩
  · rw [rowH_n (by omega) h1, rowH_n (by omega) h1]
  · rw [rowH_c (by omega)]
    refine s.mk2 (fun i j hi hj => ?_)
    rw [Int.toNat_natCast]
    have hj6 : j = 0 ∨ j = 1 ∨ j = 2 ∨ j = 3 ∨ j = 4 ∨ j = 5 := by omega
    by_cases z : i = k
    · rw [z]
      have gk : ∀ t : Nat → Int, gTab (rowH H 18 23 3 k t) k j = if j = 0 then t 18 else if j = 5 then t 19 else t (19 + j) := fun t => by
        unfold gTab
        by_cases y0 : j = 0
        · rw [if_pos y0, if_pos y0, rowH_t (by omega) (by omega)]
        · rw [if_neg y0, if_neg y0]
          by_cases y5 : j = 5
          · rw [if_pos y5, if_pos y5, rowH_t (by omega) (by omega)]
          · rw [if_neg y5, if_neg y5, rowH_t (by omega) (by omega)]
      rw [gk, gk]
      unfold uT
      by_cases y : j = x.toNat
      · rw [if_pos ⟨rfl, y⟩]
        by_cases y5 : j = 5
        · rw [if_neg (by omega), if_pos y5, if_pos (by omega)]
        · rw [if_neg (by omega), if_neg y5, if_pos (by omega)]
      · rw [if_neg (fun q => y q.2)]
        by_cases y0 : j = 0
        · rw [if_pos y0, if_pos y0, if_neg (by omega)]
        · rw [if_neg y0, if_neg y0]
          by_cases y5 : j = 5
          · rw [if_pos y5, if_pos y5, if_neg (by omega)]
          · rw [if_neg y5, if_neg y5, if_neg (by omega)]
    · rw [if_neg (fun q => z q.1)]
      unfold gTab
      rw [rowH_n (Or.inl z) (by omega), rowH_n (Or.inl z) (by omega), rowH_n (Or.inl z) (by omega), rowH_n (Or.inl z) (by omega), rowH_n (Or.inl z) (by omega), rowH_n (Or.inl z) (by omega)]
theorem l_person {a A : Nat} {c : Int} {k : Nat} {F : (Nat → Int) → Nat → Nat → Int} {t : Nat → Int} (hc : 0 ≤ c ∧ c ≤ 1) (hp : ∀ (i : Nat) (x v : Int) (t : Nat → Int) (w : jmW) (p : Nat), i < 3 → x = c + i → RS w T n cnt p (F t) N K C → ∃ u, rn 17 (0, [(0, jvr a), (1, .inl (k : Int)), (2, .inl x), (3, .inl v)], [], w) = some (none, u) ∧ RS u T n cnt p (F (uT t (A + i) v)) N K C ∧ Fr rdP w u ∧ mI u 101 = mI w 101) (ha : mS w a = (1, 5, 0)) (R : RS w T n cnt p (F t) N K C) : ∃ u, Fr rdP w u ∧ ((∃ q, qp5 T n (.inl p) = .inl q ∧ rn 46 (0, [(0, jvr 101), (1, jvr a), (2, .inl (k : Int)), (3, .inl c)], [], w) = some (some (.inl 1), u) ∧ RS u T n cnt q (F (tP T n A t (.inl p))) N K C) ∨ (∃ x, qp5 T n (.inl p) = .inr x ∧ rn 46 (0, [(0, jvr 101), (1, jvr a), (2, .inl (k : Int)), (3, .inl c)], [], w) = some (some (.inl 0), u) ∧ RFx u T n cnt x)) := by
  obtain ⟨u1, f1, ⟨q1, g1, e1, R1, v1⟩ | ⟨x, g1, e1, R1⟩⟩ := rs_one R ok_12
  case inr => exact ⟨u1, f1, Or.inr ⟨x, by unfold qp5 qp4 qp3 qp2 qp1; rw [g1]; rfl, by simp (disch := omega) only [p46_0, p46_1, p46_3, p46_6, p46_9, p46_10, p46_11, p46_12, p46_13, p46_14, p46_15, p46_18, p46_21, p46_22, p46_24, p46_27, p46_30, p46_31, p46_32, p46_34, p46_37, p46_40, p46_41, p46_42, p46_43, p46_44, p46_45, p46_46, p46_47, p46_48, p46_51, p46_54, p46_55, p46_57, p46_60, p46_63, p46_64, p46_65, p46_67, p46_70, p46_73, p46_74, p46_75, p46_76, p46_77, p46_78, p46_79, p46_80, p46_81, p46_84, p46_87, p46_88, jwd_c, jwd_0, Nat.reduceLeDiff, Nat.reduceEqDiff, Nat.reduceAdd, Nat.reduceSub, Nat.reduceMul, Int.reduceAdd, Int.reduceSub, Int.reduceMul, Int.reduceNeg, Int.reduceEq, Int.reduceLT, Int.reduceLE, jq_ldi_i, jq_ldl_l, jq_lda_a, jq_inc_i, jq_gs_t, jq_gsb_t, jq_gb_t, jq_gr_2, jq_gr_4, jq_gw_2, jq_s_t, jq_b_t, jg_c, jg_n, js_c, js_n, jrm_c, jrm_n, j2_i, j2_l, j2_a, jq_c_i, jq_c_l, jq_c_0, jq_c_n, jwd_le, jw_c0, mS_I, mS_R, mS_J, mN_I, mN_R, mN_J, mR_I, mI_R, mJ_I, mJ_R, mI_J, mR_J, ↓reduceIte, decide_true, or_true, true_or, and_self, false_or, or_false, reduceCtorEq, Bool.false_eq_true, and_false, false_and, eq_self, true_and, and_true, zero_ne, ↓br_lt_t, ↓br_lt_f, ↓br_eq_t, ↓br_eq_f, ↓br_lz_t, ↓br_lz_f, ↓br_ez_t, ↓br_ez_f, ↓br_gz_t, ↓br_gz_f, jw_id, jin_t, jix_t, ↓ite_t, ↓ite_f, RS.a R, RS.r0 R, RS.h R, RS.r2 R, RS.l R, RS.s R, RS.k0 R, RS.k1 R, RS.k2 R, RS.k3 R, RS.k4 R, RS.k5 R, RS.f8 R, RS.f9 R, RS.t65 R, RS.t102 R, RS.t68 R, RS.t70 R, RS.t72 R, RS.t74 R, RS.t76 R, RS.t78 R, e1], R1⟩⟩
  obtain ⟨u2, e2, R2, f2, -⟩ := hp 0 c (pI T n (cs wKd) (.inl p)) t u1 q1 (by omega) (by omega) R1
  have a1 : mS u1 a = (1, 5, 0) := by rw [f1.q]; exact ha
  have F2 := f1.tr f2
  have a2 : mS u2 a = (1, 5, 0) := by rw [F2.q]; exact ha
  obtain ⟨u3, f3, ⟨q3, g3, e3, R3, v3⟩ | ⟨x, g3, e3, R3⟩⟩ := rs_one R2 ok_13
  case inr => exact ⟨u3, F2.tr f3, Or.inr ⟨x, by unfold qp5 qp4 qp3 qp2 qp1; rw [g1, g3]; rfl, by simp (disch := omega) only [p46_0, p46_1, p46_3, p46_6, p46_9, p46_10, p46_11, p46_12, p46_13, p46_14, p46_15, p46_18, p46_21, p46_22, p46_24, p46_27, p46_30, p46_31, p46_32, p46_34, p46_37, p46_40, p46_41, p46_42, p46_43, p46_44, p46_45, p46_46, p46_47, p46_48, p46_51, p46_54, p46_55, p46_57, p46_60, p46_63, p46_64, p46_65, p46_67, p46_70, p46_73, p46_74, p46_75, p46_76, p46_77, p46_78, p46_79, p46_80, p46_81, p46_84, p46_87, p46_88, jwd_c, jwd_0, Nat.reduceLeDiff, Nat.reduceEqDiff, Nat.reduceAdd, Nat.reduceSub, Nat.reduceMul, Int.reduceAdd, Int.reduceSub, Int.reduceMul, Int.reduceNeg, Int.reduceEq, Int.reduceLT, Int.reduceLE, jq_ldi_i, jq_ldl_l, jq_lda_a, jq_inc_i, jq_gs_t, jq_gsb_t, jq_gb_t, jq_gr_2, jq_gr_4, jq_gw_2, jq_s_t, jq_b_t, jg_c, jg_n, js_c, js_n, jrm_c, jrm_n, j2_i, j2_l, j2_a, jq_c_i, jq_c_l, jq_c_0, jq_c_n, jwd_le, jw_c0, mS_I, mS_R, mS_J, mN_I, mN_R, mN_J, mR_I, mI_R, mJ_I, mJ_R, mI_J, mR_J, ↓reduceIte, decide_true, or_true, true_or, and_self, false_or, or_false, reduceCtorEq, Bool.false_eq_true, and_false, false_and, eq_self, true_and, and_true, zero_ne, ↓br_lt_t, ↓br_lt_f, ↓br_eq_t, ↓br_eq_f, ↓br_lz_t, ↓br_lz_f, ↓br_ez_t, ↓br_ez_f, ↓br_gz_t, ↓br_gz_f, jw_id, jin_t, jix_t, ↓ite_t, ↓ite_f, RS.a R, RS.r0 R, RS.h R, RS.r2 R, RS.l R, RS.s R, RS.k0 R, RS.k1 R, RS.k2 R, RS.k3 R, RS.k4 R, RS.k5 R, RS.f8 R, RS.f9 R, RS.t65 R, RS.t102 R, RS.t68 R, RS.t70 R, RS.t72 R, RS.t74 R, RS.t76 R, RS.t78 R, RS.a R1, RS.r0 R1, RS.h R1, RS.r2 R1, RS.l R1, RS.s R1, RS.k0 R1, RS.k1 R1, RS.k2 R1, RS.k3 R1, RS.k4 R1, RS.k5 R1, RS.f8 R1, RS.f9 R1, RS.t65 R1, RS.t102 R1, RS.t68 R1, RS.t70 R1, RS.t72 R1, RS.t74 R1, RS.t76 R1, RS.t78 R1, RS.a R2, RS.r0 R2, RS.h R2, RS.r2 R2, RS.l R2, RS.s R2, RS.k0 R2, RS.k1 R2, RS.k2 R2, RS.k3 R2, RS.k4 R2, RS.k5 R2, RS.f8 R2, RS.f9 R2, RS.t65 R2, RS.t102 R2, RS.t68 R2, RS.t70 R2, RS.t72 R2, RS.t74 R2, RS.t76 R2, RS.t78 R2, e1, v1, e2, a1, e3], R3⟩⟩
  obtain ⟨u4, f4, ⟨q4, g4, e4, R4, v4⟩ | ⟨x, g4, e4, R4⟩⟩ := rs_whole R3 (lo := 1) (hi := 9) (by omega) (by omega) (by omega) (by omega)
  case inr => exact ⟨u4, (F2.tr f3).tr f4, Or.inr ⟨x, by unfold qp5 qp4 qp3 qp2 qp1; rw [g1, g3, g4]; rfl, by simp (disch := omega) only [p46_0, p46_1, p46_3, p46_6, p46_9, p46_10, p46_11, p46_12, p46_13, p46_14, p46_15, p46_18, p46_21, p46_22, p46_24, p46_27, p46_30, p46_31, p46_32, p46_34, p46_37, p46_40, p46_41, p46_42, p46_43, p46_44, p46_45, p46_46, p46_47, p46_48, p46_51, p46_54, p46_55, p46_57, p46_60, p46_63, p46_64, p46_65, p46_67, p46_70, p46_73, p46_74, p46_75, p46_76, p46_77, p46_78, p46_79, p46_80, p46_81, p46_84, p46_87, p46_88, jwd_c, jwd_0, Nat.reduceLeDiff, Nat.reduceEqDiff, Nat.reduceAdd, Nat.reduceSub, Nat.reduceMul, Int.reduceAdd, Int.reduceSub, Int.reduceMul, Int.reduceNeg, Int.reduceEq, Int.reduceLT, Int.reduceLE, jq_ldi_i, jq_ldl_l, jq_lda_a, jq_inc_i, jq_gs_t, jq_gsb_t, jq_gb_t, jq_gr_2, jq_gr_4, jq_gw_2, jq_s_t, jq_b_t, jg_c, jg_n, js_c, js_n, jrm_c, jrm_n, j2_i, j2_l, j2_a, jq_c_i, jq_c_l, jq_c_0, jq_c_n, jwd_le, jw_c0, mS_I, mS_R, mS_J, mN_I, mN_R, mN_J, mR_I, mI_R, mJ_I, mJ_R, mI_J, mR_J, ↓reduceIte, decide_true, or_true, true_or, and_self, false_or, or_false, reduceCtorEq, Bool.false_eq_true, and_false, false_and, eq_self, true_and, and_true, zero_ne, ↓br_lt_t, ↓br_lt_f, ↓br_eq_t, ↓br_eq_f, ↓br_lz_t, ↓br_lz_f, ↓br_ez_t, ↓br_ez_f, ↓br_gz_t, ↓br_gz_f, jw_id, jin_t, jix_t, ↓ite_t, ↓ite_f, RS.a R, RS.r0 R, RS.h R, RS.r2 R, RS.l R, RS.s R, RS.k0 R, RS.k1 R, RS.k2 R, RS.k3 R, RS.k4 R, RS.k5 R, RS.f8 R, RS.f9 R, RS.t65 R, RS.t102 R, RS.t68 R, RS.t70 R, RS.t72 R, RS.t74 R, RS.t76 R, RS.t78 R, RS.a R1, RS.r0 R1, RS.h R1, RS.r2 R1, RS.l R1, RS.s R1, RS.k0 R1, RS.k1 R1, RS.k2 R1, RS.k3 R1, RS.k4 R1, RS.k5 R1, RS.f8 R1, RS.f9 R1, RS.t65 R1, RS.t102 R1, RS.t68 R1, RS.t70 R1, RS.t72 R1, RS.t74 R1, RS.t76 R1, RS.t78 R1, RS.a R2, RS.r0 R2, RS.h R2, RS.r2 R2, RS.l R2, RS.s R2, RS.k0 R2, RS.k1 R2, RS.k2 R2, RS.k3 R2, RS.k4 R2, RS.k5 R2, RS.f8 R2, RS.f9 R2, RS.t65 R2, RS.t102 R2, RS.t68 R2, RS.t70 R2, RS.t72 R2, RS.t74 R2, RS.t76 R2, RS.t78 R2, RS.a R3, RS.r0 R3, RS.h R3, RS.r2 R3, RS.l R3, RS.s R3, RS.k0 R3, RS.k1 R3, RS.k2 R3, RS.k3 R3, RS.k4 R3, RS.k5 R3, RS.f8 R3, RS.f9 R3, RS.t65 R3, RS.t102 R3, RS.t68 R3, RS.t70 R3, RS.t72 R3, RS.t74 R3, RS.t76 R3, RS.t78 R3, e1, v1, e2, a1, e3, e4], R4⟩⟩
  have F4 := (F2.tr f3).tr f4
  have a4 : mS u4 a = (1, 5, 0) := by rw [F4.q]; exact ha
  obtain ⟨u5, e5, R5, f5, -⟩ := hp 1 (c + 1) (pV T n 1 9 (.inl q3)) _ u4 q4 (by omega) (by omega) R4
  have F5 := F4.tr f5
  obtain ⟨u6, f6, ⟨q6, g6, e6, R6, v6⟩ | ⟨x, g6, e6, R6⟩⟩ := rs_one R5 ok_14
  case inr => exact ⟨u6, F5.tr f6, Or.inr ⟨x, by unfold qp5 qp4 qp3 qp2 qp1; rw [g1, g3, g4, g6]; rfl, by simp (disch := omega) only [p46_0, p46_1, p46_3, p46_6, p46_9, p46_10, p46_11, p46_12, p46_13, p46_14, p46_15, p46_18, p46_21, p46_22, p46_24, p46_27, p46_30, p46_31, p46_32, p46_34, p46_37, p46_40, p46_41, p46_42, p46_43, p46_44, p46_45, p46_46, p46_47, p46_48, p46_51, p46_54, p46_55, p46_57, p46_60, p46_63, p46_64, p46_65, p46_67, p46_70, p46_73, p46_74, p46_75, p46_76, p46_77, p46_78, p46_79, p46_80, p46_81, p46_84, p46_87, p46_88, jwd_c, jwd_0, Nat.reduceLeDiff, Nat.reduceEqDiff, Nat.reduceAdd, Nat.reduceSub, Nat.reduceMul, Int.reduceAdd, Int.reduceSub, Int.reduceMul, Int.reduceNeg, Int.reduceEq, Int.reduceLT, Int.reduceLE, jq_ldi_i, jq_ldl_l, jq_lda_a, jq_inc_i, jq_gs_t, jq_gsb_t, jq_gb_t, jq_gr_2, jq_gr_4, jq_gw_2, jq_s_t, jq_b_t, jg_c, jg_n, js_c, js_n, jrm_c, jrm_n, j2_i, j2_l, j2_a, jq_c_i, jq_c_l, jq_c_0, jq_c_n, jwd_le, jw_c0, mS_I, mS_R, mS_J, mN_I, mN_R, mN_J, mR_I, mI_R, mJ_I, mJ_R, mI_J, mR_J, ↓reduceIte, decide_true, or_true, true_or, and_self, false_or, or_false, reduceCtorEq, Bool.false_eq_true, and_false, false_and, eq_self, true_and, and_true, zero_ne, ↓br_lt_t, ↓br_lt_f, ↓br_eq_t, ↓br_eq_f, ↓br_lz_t, ↓br_lz_f, ↓br_ez_t, ↓br_ez_f, ↓br_gz_t, ↓br_gz_f, jw_id, jin_t, jix_t, ↓ite_t, ↓ite_f, RS.a R, RS.r0 R, RS.h R, RS.r2 R, RS.l R, RS.s R, RS.k0 R, RS.k1 R, RS.k2 R, RS.k3 R, RS.k4 R, RS.k5 R, RS.f8 R, RS.f9 R, RS.t65 R, RS.t102 R, RS.t68 R, RS.t70 R, RS.t72 R, RS.t74 R, RS.t76 R, RS.t78 R, RS.a R1, RS.r0 R1, RS.h R1, RS.r2 R1, RS.l R1, RS.s R1, RS.k0 R1, RS.k1 R1, RS.k2 R1, RS.k3 R1, RS.k4 R1, RS.k5 R1, RS.f8 R1, RS.f9 R1, RS.t65 R1, RS.t102 R1, RS.t68 R1, RS.t70 R1, RS.t72 R1, RS.t74 R1, RS.t76 R1, RS.t78 R1, RS.a R2, RS.r0 R2, RS.h R2, RS.r2 R2, RS.l R2, RS.s R2, RS.k0 R2, RS.k1 R2, RS.k2 R2, RS.k3 R2, RS.k4 R2, RS.k5 R2, RS.f8 R2, RS.f9 R2, RS.t65 R2, RS.t102 R2, RS.t68 R2, RS.t70 R2, RS.t72 R2, RS.t74 R2, RS.t76 R2, RS.t78 R2, RS.a R3, RS.r0 R3, RS.h R3, RS.r2 R3, RS.l R3, RS.s R3, RS.k0 R3, RS.k1 R3, RS.k2 R3, RS.k3 R3, RS.k4 R3, RS.k5 R3, RS.f8 R3, RS.f9 R3, RS.t65 R3, RS.t102 R3, RS.t68 R3, RS.t70 R3, RS.t72 R3, RS.t74 R3, RS.t76 R3, RS.t78 R3, RS.a R4, RS.r0 R4, RS.h R4, RS.r2 R4, RS.l R4, RS.s R4, RS.k0 R4, RS.k1 R4, RS.k2 R4, RS.k3 R4, RS.k4 R4, RS.k5 R4, RS.f8 R4, RS.f9 R4, RS.t65 R4, RS.t102 R4, RS.t68 R4, RS.t70 R4, RS.t72 R4, RS.t74 R4, RS.t76 R4, RS.t78 R4, RS.a R5, RS.r0 R5, RS.h R5, RS.r2 R5, RS.l R5, RS.s R5, RS.k0 R5, RS.k1 R5, RS.k2 R5, RS.k3 R5, RS.k4 R5, RS.k5 R5, RS.f8 R5, RS.f9 R5, RS.t65 R5, RS.t102 R5, RS.t68 R5, RS.t70 R5, RS.t72 R5, RS.t74 R5, RS.t76 R5, RS.t78 R5, e1, v1, e2, a1, e3, e4, a4, v4, e5, e6], R6⟩⟩
  obtain ⟨u7, f7, ⟨q7, g7, e7, R7, v7⟩ | ⟨x, g7, e7, R7⟩⟩ := rs_whole R6 (lo := 0) (hi := 9) (by omega) (by omega) (by omega) (by omega)
  case inr => exact ⟨u7, (F5.tr f6).tr f7, Or.inr ⟨x, by unfold qp5 qp4 qp3 qp2 qp1; rw [g1, g3, g4, g6, g7], by simp (disch := omega) only [p46_0, p46_1, p46_3, p46_6, p46_9, p46_10, p46_11, p46_12, p46_13, p46_14, p46_15, p46_18, p46_21, p46_22, p46_24, p46_27, p46_30, p46_31, p46_32, p46_34, p46_37, p46_40, p46_41, p46_42, p46_43, p46_44, p46_45, p46_46, p46_47, p46_48, p46_51, p46_54, p46_55, p46_57, p46_60, p46_63, p46_64, p46_65, p46_67, p46_70, p46_73, p46_74, p46_75, p46_76, p46_77, p46_78, p46_79, p46_80, p46_81, p46_84, p46_87, p46_88, jwd_c, jwd_0, Nat.reduceLeDiff, Nat.reduceEqDiff, Nat.reduceAdd, Nat.reduceSub, Nat.reduceMul, Int.reduceAdd, Int.reduceSub, Int.reduceMul, Int.reduceNeg, Int.reduceEq, Int.reduceLT, Int.reduceLE, jq_ldi_i, jq_ldl_l, jq_lda_a, jq_inc_i, jq_gs_t, jq_gsb_t, jq_gb_t, jq_gr_2, jq_gr_4, jq_gw_2, jq_s_t, jq_b_t, jg_c, jg_n, js_c, js_n, jrm_c, jrm_n, j2_i, j2_l, j2_a, jq_c_i, jq_c_l, jq_c_0, jq_c_n, jwd_le, jw_c0, mS_I, mS_R, mS_J, mN_I, mN_R, mN_J, mR_I, mI_R, mJ_I, mJ_R, mI_J, mR_J, ↓reduceIte, decide_true, or_true, true_or, and_self, false_or, or_false, reduceCtorEq, Bool.false_eq_true, and_false, false_and, eq_self, true_and, and_true, zero_ne, ↓br_lt_t, ↓br_lt_f, ↓br_eq_t, ↓br_eq_f, ↓br_lz_t, ↓br_lz_f, ↓br_ez_t, ↓br_ez_f, ↓br_gz_t, ↓br_gz_f, jw_id, jin_t, jix_t, ↓ite_t, ↓ite_f, RS.a R, RS.r0 R, RS.h R, RS.r2 R, RS.l R, RS.s R, RS.k0 R, RS.k1 R, RS.k2 R, RS.k3 R, RS.k4 R, RS.k5 R, RS.f8 R, RS.f9 R, RS.t65 R, RS.t102 R, RS.t68 R, RS.t70 R, RS.t72 R, RS.t74 R, RS.t76 R, RS.t78 R, RS.a R1, RS.r0 R1, RS.h R1, RS.r2 R1, RS.l R1, RS.s R1, RS.k0 R1, RS.k1 R1, RS.k2 R1, RS.k3 R1, RS.k4 R1, RS.k5 R1, RS.f8 R1, RS.f9 R1, RS.t65 R1, RS.t102 R1, RS.t68 R1, RS.t70 R1, RS.t72 R1, RS.t74 R1, RS.t76 R1, RS.t78 R1, RS.a R2, RS.r0 R2, RS.h R2, RS.r2 R2, RS.l R2, RS.s R2, RS.k0 R2, RS.k1 R2, RS.k2 R2, RS.k3 R2, RS.k4 R2, RS.k5 R2, RS.f8 R2, RS.f9 R2, RS.t65 R2, RS.t102 R2, RS.t68 R2, RS.t70 R2, RS.t72 R2, RS.t74 R2, RS.t76 R2, RS.t78 R2, RS.a R3, RS.r0 R3, RS.h R3, RS.r2 R3, RS.l R3, RS.s R3, RS.k0 R3, RS.k1 R3, RS.k2 R3, RS.k3 R3, RS.k4 R3, RS.k5 R3, RS.f8 R3, RS.f9 R3, RS.t65 R3, RS.t102 R3, RS.t68 R3, RS.t70 R3, RS.t72 R3, RS.t74 R3, RS.t76 R3, RS.t78 R3, RS.a R4, RS.r0 R4, RS.h R4, RS.r2 R4, RS.l R4, RS.s R4, RS.k0 R4, RS.k1 R4, RS.k2 R4, RS.k3 R4, RS.k4 R4, RS.k5 R4, RS.f8 R4, RS.f9 R4, RS.t65 R4, RS.t102 R4, RS.t68 R4, RS.t70 R4, RS.t72 R4, RS.t74 R4, RS.t76 R4, RS.t78 R4, RS.a R5, RS.r0 R5, RS.h R5, RS.r2 R5, RS.l R5, RS.s R5, RS.k0 R5, RS.k1 R5, RS.k2 R5, RS.k3 R5, RS.k4 R5, RS.k5 R5, RS.f8 R5, RS.f9 R5, RS.t65 R5, RS.t102 R5, RS.t68 R5, RS.t70 R5, RS.t72 R5, RS.t74 R5, RS.t76 R5, RS.t78 R5, RS.a R6, RS.r0 R6, RS.h R6, RS.r2 R6, RS.l R6, RS.s R6, RS.k0 R6, RS.k1 R6, RS.k2 R6, RS.k3 R6, RS.k4 R6, RS.k5 R6, RS.f8 R6, RS.f9 R6, RS.t65 R6, RS.t102 R6, RS.t68 R6, RS.t70 R6, RS.t72 R6, RS.t74 R6, RS.t76 R6, RS.t78 R6, e1, v1, e2, a1, e3, e4, a4, v4, e5, e6, e7], R7⟩⟩
  have F7 := (F5.tr f6).tr f7
  have a7 : mS u7 a = (1, 5, 0) := by rw [F7.q]; exact ha
  obtain ⟨u8, e8, R8, f8, -⟩ := hp 2 (c + 2) (pV T n 0 9 (.inl q6)) _ u7 q7 (by omega) (by omega) R7
  have hq2 : qp2 T n (.inl p) = .inl q3 := by
    unfold qp2 qp1
    rw [g1, g3]
  have hq4 : qp4 T n (.inl p) = .inl q6 := by
    unfold qp4 qp3
    rw [hq2, g4, g6]
  have et : tP T n A t (.inl p) = uT (uT (uT t (A + 0) (pI T n (cs wKd) (.inl p))) (A + 1) (pV T n 1 9 (.inl q3))) (A + 2) (pV T n 0 9 (.inl q6)) := by
    unfold tP
    rw [hq2, hq4]
    rfl
  refine ⟨u8, F7.tr f8, Or.inl ⟨q7, by unfold qp5; rw [hq4, g7], ?_, by rw [et]; exact R8⟩⟩
  simp (disch := omega) only [p46_0, p46_1, p46_3, p46_6, p46_9, p46_10, p46_11, p46_12, p46_13, p46_14, p46_15, p46_18, p46_21, p46_22, p46_24, p46_27, p46_30, p46_31, p46_32, p46_34, p46_37, p46_40, p46_41, p46_42, p46_43, p46_44, p46_45, p46_46, p46_47, p46_48, p46_51, p46_54, p46_55, p46_57, p46_60, p46_63, p46_64, p46_65, p46_67, p46_70, p46_73, p46_74, p46_75, p46_76, p46_77, p46_78, p46_79, p46_80, p46_81, p46_84, p46_87, p46_88, jwd_c, jwd_0, Nat.reduceLeDiff, Nat.reduceEqDiff, Nat.reduceAdd, Nat.reduceSub, Nat.reduceMul, Int.reduceAdd, Int.reduceSub, Int.reduceMul, Int.reduceNeg, Int.reduceEq, Int.reduceLT, Int.reduceLE, jq_ldi_i, jq_ldl_l, jq_lda_a, jq_inc_i, jq_gs_t, jq_gsb_t, jq_gb_t, jq_gr_2, jq_gr_4, jq_gw_2, jq_s_t, jq_b_t, jg_c, jg_n, js_c, js_n, jrm_c, jrm_n, j2_i, j2_l, j2_a, jq_c_i, jq_c_l, jq_c_0, jq_c_n, jwd_le, jw_c0, mS_I, mS_R, mS_J, mN_I, mN_R, mN_J, mR_I, mI_R, mJ_I, mJ_R, mI_J, mR_J, ↓reduceIte, decide_true, or_true, true_or, and_self, false_or, or_false, reduceCtorEq, Bool.false_eq_true, and_false, false_and, eq_self, true_and, and_true, zero_ne, ↓br_lt_t, ↓br_lt_f, ↓br_eq_t, ↓br_eq_f, ↓br_lz_t, ↓br_lz_f, ↓br_ez_t, ↓br_ez_f, ↓br_gz_t, ↓br_gz_f, jw_id, jin_t, jix_t, ↓ite_t, ↓ite_f, RS.a R, RS.r0 R, RS.h R, RS.r2 R, RS.l R, RS.s R, RS.k0 R, RS.k1 R, RS.k2 R, RS.k3 R, RS.k4 R, RS.k5 R, RS.f8 R, RS.f9 R, RS.t65 R, RS.t102 R, RS.t68 R, RS.t70 R, RS.t72 R, RS.t74 R, RS.t76 R, RS.t78 R, RS.a R1, RS.r0 R1, RS.h R1, RS.r2 R1, RS.l R1, RS.s R1, RS.k0 R1, RS.k1 R1, RS.k2 R1, RS.k3 R1, RS.k4 R1, RS.k5 R1, RS.f8 R1, RS.f9 R1, RS.t65 R1, RS.t102 R1, RS.t68 R1, RS.t70 R1, RS.t72 R1, RS.t74 R1, RS.t76 R1, RS.t78 R1, RS.a R2, RS.r0 R2, RS.h R2, RS.r2 R2, RS.l R2, RS.s R2, RS.k0 R2, RS.k1 R2, RS.k2 R2, RS.k3 R2, RS.k4 R2, RS.k5 R2, RS.f8 R2, RS.f9 R2, RS.t65 R2, RS.t102 R2, RS.t68 R2, RS.t70 R2, RS.t72 R2, RS.t74 R2, RS.t76 R2, RS.t78 R2, RS.a R3, RS.r0 R3, RS.h R3, RS.r2 R3, RS.l R3, RS.s R3, RS.k0 R3, RS.k1 R3, RS.k2 R3, RS.k3 R3, RS.k4 R3, RS.k5 R3, RS.f8 R3, RS.f9 R3, RS.t65 R3, RS.t102 R3, RS.t68 R3, RS.t70 R3, RS.t72 R3, RS.t74 R3, RS.t76 R3, RS.t78 R3, RS.a R4, RS.r0 R4, RS.h R4, RS.r2 R4, RS.l R4, RS.s R4, RS.k0 R4, RS.k1 R4, RS.k2 R4, RS.k3 R4, RS.k4 R4, RS.k5 R4, RS.f8 R4, RS.f9 R4, RS.t65 R4, RS.t102 R4, RS.t68 R4, RS.t70 R4, RS.t72 R4, RS.t74 R4, RS.t76 R4, RS.t78 R4, RS.a R5, RS.r0 R5, RS.h R5, RS.r2 R5, RS.l R5, RS.s R5, RS.k0 R5, RS.k1 R5, RS.k2 R5, RS.k3 R5, RS.k4 R5, RS.k5 R5, RS.f8 R5, RS.f9 R5, RS.t65 R5, RS.t102 R5, RS.t68 R5, RS.t70 R5, RS.t72 R5, RS.t74 R5, RS.t76 R5, RS.t78 R5, RS.a R6, RS.r0 R6, RS.h R6, RS.r2 R6, RS.l R6, RS.s R6, RS.k0 R6, RS.k1 R6, RS.k2 R6, RS.k3 R6, RS.k4 R6, RS.k5 R6, RS.f8 R6, RS.f9 R6, RS.t65 R6, RS.t102 R6, RS.t68 R6, RS.t70 R6, RS.t72 R6, RS.t74 R6, RS.t76 R6, RS.t78 R6, RS.a R7, RS.r0 R7, RS.h R7, RS.r2 R7, RS.l R7, RS.s R7, RS.k0 R7, RS.k1 R7, RS.k2 R7, RS.k3 R7, RS.k4 R7, RS.k5 R7, RS.f8 R7, RS.f9 R7, RS.t65 R7, RS.t102 R7, RS.t68 R7, RS.t70 R7, RS.t72 R7, RS.t74 R7, RS.t76 R7, RS.t78 R7, e1, v1, e2, a1, e3, e4, a4, v4, e5, e6, e7, a7, v7, e8]
theorem l_dancer (R : RS w T n cnt p H N K C) (h4 : 0 ≤ H 0 4 ∧ H 0 4 < 8) : ∃ u, Fr rdP w u ∧ ((∃ q, qp5 T n (.inl p) = .inl q ∧ rn 47 (0, [(0, jvr 101)], [], w) = some (some (.inl 1), u) ∧ RS u T n cnt q (qdH T n H (.inl p)) N K C) ∨ (∃ x, qp5 T n (.inl p) = .inr x ∧ rn 47 (0, [(0, jvr 101)], [], w) = some (some (.inl 0), u) ∧ RFx u T n cnt x)) := by
  have hk : (((H 0 4).toNat : Nat) : Int) = H 0 4 := by omega
  obtain ⟨u1, e1, s1, f1⟩ := sg_push (v := 0) R.g76 (by omega)
  have ec := sg_count s1
  generalize hK4 : (H 0 4).toNat = k at *
  obtain ⟨R1, F1, -⟩ := R.s76 f1 (H2 := rowH H 24 26 4 k (fun _ => 0)) (fun a b h1 h2 => rowH_n (by omega) h1) (by
    rw [rowH_c (by omega)]
    refine (show ((k : Int) + 1).toNat = k + 1 by omega) ▸ s1.mk2 (fun i j hi hj => ?_)
    by_cases z : i < k
    · rw [if_pos z, rowH_n (by omega) (by omega)]
    · rw [if_neg z, show i = k by omega, rowH_t (by omega) (by omega)]
      split <;> rfl)
  have p1 := l_person (a := 76) (A := 24) (c := 0) (k := k) (F := fun t => rowH H 24 26 4 k t) (by omega) (fun i x v t w p hi hx R => put76 R (by omega) (by omega)) R1.t76 R1
  obtain ⟨u2, f2, ⟨q, g2, e2, R2⟩ | ⟨x, g2, e2, R2⟩⟩ := p1
  · refine ⟨u2, F1.tr f2, Or.inl ⟨q, g2, ?_, by unfold qdH; rw [hK4]; exact R2⟩⟩
    rw [show ((k + 1 : Nat) : Int) = (k : Int) + 1 by omega] at ec
    simp (disch := omega) only [p47_0, p47_1, p47_4, p47_7, p47_8, p47_11, p47_12, p47_13, p47_16, p47_19, p47_20, p47_23, p47_26, p47_29, p47_30, p47_31, p47_32, p47_35, jwd_c, jwd_0, Nat.reduceLeDiff, Nat.reduceEqDiff, Nat.reduceAdd, Nat.reduceSub, Nat.reduceMul, Int.reduceAdd, Int.reduceSub, Int.reduceMul, Int.reduceNeg, Int.reduceEq, Int.reduceLT, Int.reduceLE, jq_ldi_i, jq_ldl_l, jq_lda_a, jq_inc_i, jq_gs_t, jq_gsb_t, jq_gb_t, jq_gr_2, jq_gr_4, jq_gw_2, jq_s_t, jq_b_t, jg_c, jg_n, js_c, js_n, jrm_c, jrm_n, j2_i, j2_l, j2_a, jq_c_i, jq_c_l, jq_c_0, jq_c_n, jwd_le, jw_c0, mS_I, mS_R, mS_J, mN_I, mN_R, mN_J, mR_I, mI_R, mJ_I, mJ_R, mI_J, mR_J, ↓reduceIte, decide_true, or_true, true_or, and_self, false_or, or_false, reduceCtorEq, Bool.false_eq_true, and_false, false_and, eq_self, true_and, and_true, zero_ne, ↓br_lt_t, ↓br_lt_f, ↓br_eq_t, ↓br_eq_f, ↓br_lz_t, ↓br_lz_f, ↓br_ez_t, ↓br_ez_f, ↓br_gz_t, ↓br_gz_f, jw_id, jin_t, jix_t, ↓ite_t, ↓ite_f, RS.a R, RS.r0 R, RS.h R, RS.r2 R, RS.l R, RS.s R, RS.k0 R, RS.k1 R, RS.k2 R, RS.k3 R, RS.k4 R, RS.k5 R, RS.f8 R, RS.f9 R, RS.t65 R, RS.t102 R, RS.t68 R, RS.t70 R, RS.t72 R, RS.t74 R, RS.t76 R, RS.t78 R, RS.a R1, RS.r0 R1, RS.h R1, RS.r2 R1, RS.l R1, RS.s R1, RS.k0 R1, RS.k1 R1, RS.k2 R1, RS.k3 R1, RS.k4 R1, RS.k5 R1, RS.f8 R1, RS.f9 R1, RS.t65 R1, RS.t102 R1, RS.t68 R1, RS.t70 R1, RS.t72 R1, RS.t74 R1, RS.t76 R1, RS.t78 R1, e1, ec, Int.add_sub_cancel, e2]
  · refine ⟨u2, F1.tr f2, Or.inr ⟨x, g2, ?_, R2⟩⟩
    rw [show ((k + 1 : Nat) : Int) = (k : Int) + 1 by omega] at ec
    simp (disch := omega) only [p47_0, p47_1, p47_4, p47_7, p47_8, p47_11, p47_12, p47_13, p47_16, p47_19, p47_20, p47_23, p47_26, p47_29, p47_30, p47_31, p47_32, p47_35, jwd_c, jwd_0, Nat.reduceLeDiff, Nat.reduceEqDiff, Nat.reduceAdd, Nat.reduceSub, Nat.reduceMul, Int.reduceAdd, Int.reduceSub, Int.reduceMul, Int.reduceNeg, Int.reduceEq, Int.reduceLT, Int.reduceLE, jq_ldi_i, jq_ldl_l, jq_lda_a, jq_inc_i, jq_gs_t, jq_gsb_t, jq_gb_t, jq_gr_2, jq_gr_4, jq_gw_2, jq_s_t, jq_b_t, jg_c, jg_n, js_c, js_n, jrm_c, jrm_n, j2_i, j2_l, j2_a, jq_c_i, jq_c_l, jq_c_0, jq_c_n, jwd_le, jw_c0, mS_I, mS_R, mS_J, mN_I, mN_R, mN_J, mR_I, mI_R, mJ_I, mJ_R, mI_J, mR_J, ↓reduceIte, decide_true, or_true, true_or, and_self, false_or, or_false, reduceCtorEq, Bool.false_eq_true, and_false, false_and, eq_self, true_and, and_true, zero_ne, ↓br_lt_t, ↓br_lt_f, ↓br_eq_t, ↓br_eq_f, ↓br_lz_t, ↓br_lz_f, ↓br_ez_t, ↓br_ez_f, ↓br_gz_t, ↓br_gz_f, jw_id, jin_t, jix_t, ↓ite_t, ↓ite_f, RS.a R, RS.r0 R, RS.h R, RS.r2 R, RS.l R, RS.s R, RS.k0 R, RS.k1 R, RS.k2 R, RS.k3 R, RS.k4 R, RS.k5 R, RS.f8 R, RS.f9 R, RS.t65 R, RS.t102 R, RS.t68 R, RS.t70 R, RS.t72 R, RS.t74 R, RS.t76 R, RS.t78 R, RS.a R1, RS.r0 R1, RS.h R1, RS.r2 R1, RS.l R1, RS.s R1, RS.k0 R1, RS.k1 R1, RS.k2 R1, RS.k3 R1, RS.k4 R1, RS.k5 R1, RS.f8 R1, RS.f9 R1, RS.t65 R1, RS.t102 R1, RS.t68 R1, RS.t70 R1, RS.t72 R1, RS.t74 R1, RS.t76 R1, RS.t78 R1, e1, ec, Int.add_sub_cancel, e2]
end PERSC
