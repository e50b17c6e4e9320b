/-! The reader: band, home, steps, leads, row, in the class. -/
def gGc (b : Int) : Int := if b = 102 then 0 else if b = 115 then 1 else if b = 119 then 2 else -1
section LINEP2
variable (T : Nat → Int) (n : Nat)
def qmH (H : Nat → Nat → Int) (s : gSg) : Nat → Nat → Int := uH H 0 12 (pCell T n (H 0 0) (H 0 1) s)
/-- one of steps; one side of a told way -/
def pL (H : Nat → Nat → Int) (p : Nat) : gSg := match pN T n 0 3 (.inl p) with
  | .inl q => if H 0 5 < 8 then .inl q else .inr (5, (tS T n p : Int))
  | .inr x => .inr x
def pLH (H : Nat → Nat → Int) (p : Nat) : Nat → Nat → Int := uH (uH H 27 (H 0 5).toNat (pV T n 0 3 (.inl p))) 0 5 (H 0 5 + 1)
def pM (H : Nat → Nat → Int) (p : Nat) : gSg := match pO T n (cs wSd) (.inl p) with
  | .inl q => if H 0 6 < 12 then .inl q else .inr (5, (tS T n p : Int))
  | .inr x => .inr x
def pMH (H : Nat → Nat → Int) (p : Nat) : Nat → Nat → Int := uH (uH H 28 (H 0 6).toNat (pI T n (cs wSd) (.inl p))) 0 6 (H 0 6 + 1)
def gStp : Nat → Nat → (Nat → Nat → Int) → gSg × (Nat → Nat → Int)
  | 0, p, H => (.inl p, H)
  | m + 1, p, H => match pL T n H p with
    | .inr x => (.inr x, H)
    | .inl q => if tK T n q = 4 then gStp m (tE T n q) (pLH T n H p) else (.inl q, pLH T n H p)
def gWay : Nat → Nat → (Nat → Nat → Int) → gSg × (Nat → Nat → Int)
  | 0, p, H => (.inl p, H)
  | m + 1, p, H => match pM T n H p with
    | .inr x => (.inr x, H)
    | .inl q => if tK T n q = 4 then gWay m (tE T n q) (pMH T n H p) else (.inl q, pMH T n H p)
def qLd (H : Nat → Nat → Int) (p : Nat) : gSg × (Nat → Nat → Int) := match pO T n (cs wLd) (.inl p) with
  | .inr x => (.inr x, H)
  | .inl q => if pI T n (cs wLd) (.inl p) = 5 then gWay T n 13 q (uH H 0 7 5) else (.inl q, uH H 0 7 (pI T n (cs wLd) (.inl p)))
/-- all letters of a row so far are such as may stand there -/
def gRl (s : Nat) : Nat → Bool
  | 0 => true
  | m + 1 => gRl s m && decide (gGc (T (s + m)) ≠ -1)
def qRw (W : Int) (p : Nat) : gSg := if tK T n p = 1 then (if ((tE T n p - tS T n p : Nat) : Int) = W then (if gRl T (tS T n p) (tE T n p - tS T n p) = true then .inl (tE T n p) else .inr (7, (tS T n p : Int))) else .inr (7, (tS T n p : Int))) else .inr (1, (tS T n p : Int))
def gGh (H : Nat → Nat → Int) (base s m : Nat) : Nat → Nat → Int := fun a b => if a = 17 ∧ base ≤ b ∧ b < base + m then gGc (T (s + (b - base))) else H a b
def qRH (H : Nat → Nat → Int) (N p : Nat) : Nat → Nat → Int := uH (gGh T H N (tS T n p) (tE T n p - tS T n p)) 0 2 (H 0 2 + 1)
end LINEP2
section LINES2
variable {w u : jmW} {T : Nat → Int} {n cnt p : Nat} {H : Nat → Nat → Int} {N K : Nat} {C : Nat → Int}
/-- the Hall's rows changed alike -/
theorem RS.re (R : RS w T n cnt p H N K C) {P : Nat → Prop} (f : Fr P w u) (h101 : ¬ P 101) (h65 : ¬ P 65 ∧ ¬ P 66) (h102 : ¬ P 102 ∧ ¬ P 103) (h67 : ¬ P 67) {H2 : Nat → Nat → Int} {N2 : Nat} (hx : HSx u 67) (hn : ∀ k, k = 0 ∨ k = 1 ∨ k = 7 ∨ k = 10 ∨ k = 11 ∨ k = 12 ∨ k = 13 ∨ k = 14 ∨ k = 15 ∨ k = 16 → H2 0 k = H 0 k) (s1 : Sg u 68 1 48 N2 (fun i _ => H2 17 i)) (s2 : Sg u 70 1 8 (H2 0 5).toNat (fun i _ => H2 27 i)) (s3 : Sg u 72 1 12 (H2 0 6).toNat (fun i _ => H2 28 i)) (s4 : Sg u 74 6 4 (H2 0 3).toNat (gTab H2)) (s5 : Sg u 76 3 8 (H2 0 4).toNat (fun i j => H2 (24 + j) i)) (s6 : Sg u 78 3 8 (H2 0 8).toNat (fun i j => H2 (29 + j) i)) : RS u T n cnt p H2 N2 K C := by
  obtain ⟨r, t, s, ⟨d1, d2⟩, m⟩ := R
  obtain ⟨t1, t2, t3, t4, t5⟩ := t
  obtain ⟨r1, r2, r3, r4, r5, r6, r7, r8⟩ := r
  obtain ⟨a1, a2, a3, a4, a5, a6, a7, a8, a9, a10, -⟩ := d2
  have i1 := f.Iq h101
  have q1 := f.Rq h101
  have i67 := f.Iq h67
  refine ⟨⟨by rw [f.q]; exact r1, by rw [q1]; exact r2, by rw [q1]; exact r3, by rw [q1]; exact r4, by rw [i1]; exact r5, r6.fr f h65.1 h65.2, r7, r8⟩, ⟨t1, by rw [i1]; exact t2, by rw [i1]; exact t3, by rw [i1]; exact t4, by rw [i1]; exact t5⟩, s.fr f, ⟨hx, ?_⟩, m.fr f h102.1 h102.2⟩
  rw [i67, hn 0 (by omega), hn 1 (by omega), hn 15 (by omega), hn 16 (by omega), hn 10 (by omega), hn 12 (by omega), hn 7 (by omega), hn 13 (by omega), hn 14 (by omega), hn 11 (by omega)]
  exact ⟨a1, a2, a3, a4, a5, a6, a7, a8, a9, a10, s1, s2, s3, s4, s5, s6⟩
/-- a Sheet of the Hall changed: the Hall's cells stand -/
theorem HSx.sh {b k c r m : Nat} {q : Nat → Nat → Int} (h : HSx w b) (f : Fr (sP (b + k)) w u) (hk : (k = 1 ∧ c = 1 ∧ r = 48) ∨ (k = 3 ∧ c = 1 ∧ r = 8) ∨ (k = 5 ∧ c = 1 ∧ r = 12) ∨ (k = 7 ∧ c = 6 ∧ r = 4) ∨ (k = 9 ∧ c = 3 ∧ r = 8) ∨ (k = 11 ∧ c = 3 ∧ r = 8)) (s : Sg u (b + k) c r m q) : HSx u b := by
  obtain ⟨h1, h2, h3, h4, h5, h6, h7, h8, h9, s1, s2, s3, s4, s5, s6, s7, s8⟩ := h
  have q1 := f.Rq (b := b) (sP_n (by omega))
  have ex : ∀ {j c r : Nat}, 1 ≤ j → (j + 1 < k ∨ k + 1 < j) → (∃ n q, Sg w (b + j) c r n q) → ∃ n q, Sg u (b + j) c r n q := fun _ hj h => exSg h f (sP_n (by omega)) (sP_n (by omega))
  refine ⟨by rw [f.q]; exact h1, by rw [q1]; exact h2, by rw [q1]; exact h3, by rw [q1]; exact h4, by rw [q1]; exact h5, by rw [q1]; exact h6, by rw [q1]; exact h7, by rw [q1]; exact h8, by rw [q1]; exact h9, ?_⟩
  rcases hk with ⟨rfl, rfl, rfl⟩ | ⟨rfl, rfl, rfl⟩ | ⟨rfl, rfl, rfl⟩ | ⟨rfl, rfl, rfl⟩ | ⟨rfl, rfl, rfl⟩ | ⟨rfl, rfl, rfl⟩
  · exact ⟨⟨_, _, s⟩, ex (by omega) (by omega) s2, ex (by omega) (by omega) s3, ex (by omega) (by omega) s4, ex (by omega) (by omega) s5, ex (by omega) (by omega) s6, ex (by omega) (by omega) s7, ex (by omega) (by omega) s8⟩
  · exact ⟨ex (by omega) (by omega) s1, ⟨_, _, s⟩, ex (by omega) (by omega) s3, ex (by omega) (by omega) s4, ex (by omega) (by omega) s5, ex (by omega) (by omega) s6, ex (by omega) (by omega) s7, ex (by omega) (by omega) s8⟩
  · exact ⟨ex (by omega) (by omega) s1, ex (by omega) (by omega) s2, ⟨_, _, s⟩, ex (by omega) (by omega) s4, ex (by omega) (by omega) s5, ex (by omega) (by omega) s6, ex (by omega) (by omega) s7, ex (by omega) (by omega) s8⟩
  · exact ⟨ex (by omega) (by omega) s1, ex (by omega) (by omega) s2, ex (by omega) (by omega) s3, ⟨_, _, s⟩, ex (by omega) (by omega) s5, ex (by omega) (by omega) s6, ex (by omega) (by omega) s7, ex (by omega) (by omega) s8⟩
  · exact ⟨ex (by omega) (by omega) s1, ex (by omega) (by omega) s2, ex (by omega) (by omega) s3, ex (by omega) (by omega) s4, ⟨_, _, s⟩, ex (by omega) (by omega) s6, ex (by omega) (by omega) s7, ex (by omega) (by omega) s8⟩
  · exact ⟨ex (by omega) (by omega) s1, ex (by omega) (by omega) s2, ex (by omega) (by omega) s3, ex (by omega) (by omega) s4, ex (by omega) (by omega) s5, ⟨_, _, s⟩, ex (by omega) (by omega) s7, ex (by omega) (by omega) s8⟩
theorem l_band (R : RS w T n cnt p H N K C) (hW : 3 ≤ H 0 0 ∧ H 0 0 ≤ 8 ∧ 2 ≤ H 0 1 ∧ H 0 1 ≤ 6) : ∃ u, Fr rdP w u ∧ ((∃ q, qb3 T n (H 0 0) (H 0 1) (.inl p) = .inl q ∧ rn 35 (0, [(0, jvr 101)], [], w) = some (some (.inl 1), u) ∧ RS u T n cnt q (qbH T n H (.inl p)) N K C) ∨ (∃ x, qb3 T n (H 0 0) (H 0 1) (.inl p) = .inr x ∧ rn 35 (0, [(0, jvr 101)], [], w) = some (some (.inl 0), u) ∧ RFx u T n cnt x)) := by
  obtain ⟨u1, f1, ⟨q1, p2, g1, e1, R1, v1, vb, -⟩ | ⟨x, g1, e1, R1⟩⟩ := rs_cell R hW
  case inr => exact ⟨u1, f1, Or.inr ⟨x, by unfold qb3 qb2 qb1; rw [g1]; rfl, by simp (disch := omega) only [p35_0, p35_1, p35_4, p35_7, p35_8, p35_9, p35_10, p35_13, p35_14, p35_15, p35_17, p35_20, p35_23, p35_24, p35_25, p35_27, p35_30, p35_33, p35_34, p35_35, p35_36, p35_39, p35_40, p35_43, p35_46, p35_47, p35_50, p35_51, p35_54, p35_55, jwd_c, jwd_0, Nat.reduceLeDiff, Nat.reduceEqDiff, Nat.reduceAdd, Nat.reduceSub, Nat.reduceMul, Int.reduceAdd, Int.reduceSub, Int.reduceMul, Int.reduceNeg, Int.reduceEq, Int.reduceLT, Int.reduceLE, jq_ldi_i, jq_ldl_l, jq_lda_a, jq_inc_i, jq_gs_t, jq_gsb_t, jq_gb_t, jq_gr_2, jq_gr_4, jq_gw_2, jq_s_t, jq_b_t, jg_c, jg_n, js_c, js_n, jrm_c, jrm_n, j2_i, j2_l, j2_a, jq_c_i, jq_c_l, jq_c_0, jq_c_n, jwd_le, jw_c0, mS_I, mS_R, mS_J, mN_I, mN_R, mN_J, mR_I, mI_R, mJ_I, mJ_R, mI_J, mR_J, ↓reduceIte, decide_true, or_true, true_or, and_self, false_or, or_false, reduceCtorEq, Bool.false_eq_true, and_false, false_and, eq_self, true_and, and_true, zero_ne, ↓br_lt_t, ↓br_lt_f, ↓br_eq_t, ↓br_eq_f, ↓br_lz_t, ↓br_lz_f, ↓br_ez_t, ↓br_ez_f, ↓br_gz_t, ↓br_gz_f, jw_id, jin_t, jix_t, ↓ite_t, ↓ite_f, RS.a R, RS.r0 R, RS.h R, RS.r2 R, RS.l R, RS.s R, RS.k0 R, RS.k1 R, RS.k2 R, RS.k3 R, RS.k4 R, RS.k5 R, RS.f8 R, RS.f9 R, RS.t65 R, RS.t102 R, RS.t68 R, RS.t70 R, RS.t72 R, RS.t74 R, RS.t76 R, RS.t78 R, e1], R1⟩⟩
  obtain ⟨u2, f2, ⟨q2, g2, e2, R2, v2⟩ | ⟨x, g2, e2, R2⟩⟩ := rs_one R1 ok_7
  case inr => exact ⟨u2, f1.tr f2, Or.inr ⟨x, by unfold qb3 qb2 qb1; rw [g1, g2]; rfl, by simp (disch := omega) only [p35_0, p35_1, p35_4, p35_7, p35_8, p35_9, p35_10, p35_13, p35_14, p35_15, p35_17, p35_20, p35_23, p35_24, p35_25, p35_27, p35_30, p35_33, p35_34, p35_35, p35_36, p35_39, p35_40, p35_43, p35_46, p35_47, p35_50, p35_51, p35_54, p35_55, jwd_c, jwd_0, Nat.reduceLeDiff, Nat.reduceEqDiff, Nat.reduceAdd, Nat.reduceSub, Nat.reduceMul, Int.reduceAdd, Int.reduceSub, Int.reduceMul, Int.reduceNeg, Int.reduceEq, Int.reduceLT, Int.reduceLE, jq_ldi_i, jq_ldl_l, jq_lda_a, jq_inc_i, jq_gs_t, jq_gsb_t, jq_gb_t, jq_gr_2, jq_gr_4, jq_gw_2, jq_s_t, jq_b_t, jg_c, jg_n, js_c, js_n, jrm_c, jrm_n, j2_i, j2_l, j2_a, jq_c_i, jq_c_l, jq_c_0, jq_c_n, jwd_le, jw_c0, mS_I, mS_R, mS_J, mN_I, mN_R, mN_J, mR_I, mI_R, mJ_I, mJ_R, mI_J, mR_J, ↓reduceIte, decide_true, or_true, true_or, and_self, false_or, or_false, reduceCtorEq, Bool.false_eq_true, and_false, false_and, eq_self, true_and, and_true, zero_ne, ↓br_lt_t, ↓br_lt_f, ↓br_eq_t, ↓br_eq_f, ↓br_lz_t, ↓br_lz_f, ↓br_ez_t, ↓br_ez_f, ↓br_gz_t, ↓br_gz_f, jw_id, jin_t, jix_t, ↓ite_t, ↓ite_f, RS.a R, RS.r0 R, RS.h R, RS.r2 R, RS.l R, RS.s R, RS.k0 R, RS.k1 R, RS.k2 R, RS.k3 R, RS.k4 R, RS.k5 R, RS.f8 R, RS.f9 R, RS.t65 R, RS.t102 R, RS.t68 R, RS.t70 R, RS.t72 R, RS.t74 R, RS.t76 R, RS.t78 R, RS.a R1, RS.r0 R1, RS.h R1, RS.r2 R1, RS.l R1, RS.s R1, RS.k0 R1, RS.k1 R1, RS.k2 R1, RS.k3 R1, RS.k4 R1, RS.k5 R1, RS.f8 R1, RS.f9 R1, RS.t65 R1, RS.t102 R1, RS.t68 R1, RS.t70 R1, RS.t72 R1, RS.t74 R1, RS.t76 R1, RS.t78 R1, e1, v1, e2], R2⟩⟩
  obtain ⟨u3, f3, ⟨q3, g3, e3, R3, v3⟩ | ⟨x, g3, e3, R3⟩⟩ := rs_whole R2 (lo := 1) (hi := 9) (by omega) (by omega) (by omega) (by omega)
  case inr => exact ⟨u3, (f1.tr f2).tr f3, Or.inr ⟨x, by unfold qb3 qb2 qb1; rw [g1, g2, g3], by simp (disch := omega) only [p35_0, p35_1, p35_4, p35_7, p35_8, p35_9, p35_10, p35_13, p35_14, p35_15, p35_17, p35_20, p35_23, p35_24, p35_25, p35_27, p35_30, p35_33, p35_34, p35_35, p35_36, p35_39, p35_40, p35_43, p35_46, p35_47, p35_50, p35_51, p35_54, p35_55, jwd_c, jwd_0, Nat.reduceLeDiff, Nat.reduceEqDiff, Nat.reduceAdd, Nat.reduceSub, Nat.reduceMul, Int.reduceAdd, Int.reduceSub, Int.reduceMul, Int.reduceNeg, Int.reduceEq, Int.reduceLT, Int.reduceLE, jq_ldi_i, jq_ldl_l, jq_lda_a, jq_inc_i, jq_gs_t, jq_gsb_t, jq_gb_t, jq_gr_2, jq_gr_4, jq_gw_2, jq_s_t, jq_b_t, jg_c, jg_n, js_c, js_n, jrm_c, jrm_n, j2_i, j2_l, j2_a, jq_c_i, jq_c_l, jq_c_0, jq_c_n, jwd_le, jw_c0, mS_I, mS_R, mS_J, mN_I, mN_R, mN_J, mR_I, mI_R, mJ_I, mJ_R, mI_J, mR_J, ↓reduceIte, decide_true, or_true, true_or, and_self, false_or, or_false, reduceCtorEq, Bool.false_eq_true, and_false, false_and, eq_self, true_and, and_true, zero_ne, ↓br_lt_t, ↓br_lt_f, ↓br_eq_t, ↓br_eq_f, ↓br_lz_t, ↓br_lz_f, ↓br_ez_t, ↓br_ez_f, ↓br_gz_t, ↓br_gz_f, jw_id, jin_t, jix_t, ↓ite_t, ↓ite_f, RS.a R, RS.r0 R, RS.h R, RS.r2 R, RS.l R, RS.s R, RS.k0 R, RS.k1 R, RS.k2 R, RS.k3 R, RS.k4 R, RS.k5 R, RS.f8 R, RS.f9 R, RS.t65 R, RS.t102 R, RS.t68 R, RS.t70 R, RS.t72 R, RS.t74 R, RS.t76 R, RS.t78 R, RS.a R1, RS.r0 R1, RS.h R1, RS.r2 R1, RS.l R1, RS.s R1, RS.k0 R1, RS.k1 R1, RS.k2 R1, RS.k3 R1, RS.k4 R1, RS.k5 R1, RS.f8 R1, RS.f9 R1, RS.t65 R1, RS.t102 R1, RS.t68 R1, RS.t70 R1, RS.t72 R1, RS.t74 R1, RS.t76 R1, RS.t78 R1, RS.a R2, RS.r0 R2, RS.h R2, RS.r2 R2, RS.l R2, RS.s R2, RS.k0 R2, RS.k1 R2, RS.k2 R2, RS.k3 R2, RS.k4 R2, RS.k5 R2, RS.f8 R2, RS.f9 R2, RS.t65 R2, RS.t102 R2, RS.t68 R2, RS.t70 R2, RS.t72 R2, RS.t74 R2, RS.t76 R2, RS.t78 R2, e1, v1, e2, e3], R3⟩⟩
  have h2 : qb2 T n (H 0 0) (H 0 1) (.inl p) = .inl q2 := by
    unfold qb2 qb1
    rw [g1, g2]
  have eH : qbH T n H (.inl p) = uH (uH H 0 11 (pV T n 1 9 (.inl q2))) 0 10 (pCell T n (H 0 0) (H 0 1) (.inl p)) := by
    unfold qbH
    rw [h2]
  have R4 := R3.set (k := 13) (i := 11) (v := pV T n 1 9 (.inl q2)) (by omega)
  have R5 := R4.set (k := 12) (i := 10) (v := pCell T n (H 0 0) (H 0 1) (.inl p)) (by
    rw [mI_s, uH_s]
    omega)
  rw [← eH] at R5
  refine ⟨_, (((f1.tr f2).tr f3).tr rd67).tr rd67, Or.inl ⟨q3, by unfold qb3; rw [h2, g3], ?_, R5⟩⟩
  simp (disch := omega) only [p35_0, p35_1, p35_4, p35_7, p35_8, p35_9, p35_10, p35_13, p35_14, p35_15, p35_17, p35_20, p35_23, p35_24, p35_25, p35_27, p35_30, p35_33, p35_34, p35_35, p35_36, p35_39, p35_40, p35_43, p35_46, p35_47, p35_50, p35_51, p35_54, p35_55, jwd_c, jwd_0, Nat.reduceLeDiff, Nat.reduceEqDiff, Nat.reduceAdd, Nat.reduceSub, Nat.reduceMul, Int.reduceAdd, Int.reduceSub, Int.reduceMul, Int.reduceNeg, Int.reduceEq, Int.reduceLT, Int.reduceLE, jq_ldi_i, jq_ldl_l, jq_lda_a, jq_inc_i, jq_gs_t, jq_gsb_t, jq_gb_t, jq_gr_2, jq_gr_4, jq_gw_2, jq_s_t, jq_b_t, jg_c, jg_n, js_c, js_n, jrm_c, jrm_n, j2_i, j2_l, j2_a, jq_c_i, jq_c_l, jq_c_0, jq_c_n, jwd_le, jw_c0, mS_I, mS_R, mS_J, mN_I, mN_R, mN_J, mR_I, mI_R, mJ_I, mJ_R, mI_J, mR_J, ↓reduceIte, decide_true, or_true, true_or, and_self, false_or, or_false, reduceCtorEq, Bool.false_eq_true, and_false, false_and, eq_self, true_and, and_true, zero_ne, ↓br_lt_t, ↓br_lt_f, ↓br_eq_t, ↓br_eq_f, ↓br_lz_t, ↓br_lz_f, ↓br_ez_t, ↓br_ez_f, ↓br_gz_t, ↓br_gz_f, jw_id, jin_t, jix_t, ↓ite_t, ↓ite_f, RS.a R, RS.r0 R, RS.h R, RS.r2 R, RS.l R, RS.s R, RS.k0 R, RS.k1 R, RS.k2 R, RS.k3 R, RS.k4 R, RS.k5 R, RS.f8 R, RS.f9 R, RS.t65 R, RS.t102 R, RS.t68 R, RS.t70 R, RS.t72 R, RS.t74 R, RS.t76 R, RS.t78 R, RS.a R1, RS.r0 R1, RS.h R1, RS.r2 R1, RS.l R1, RS.s R1, RS.k0 R1, RS.k1 R1, RS.k2 R1, RS.k3 R1, RS.k4 R1, RS.k5 R1, RS.f8 R1, RS.f9 R1, RS.t65 R1, RS.t102 R1, RS.t68 R1, RS.t70 R1, RS.t72 R1, RS.t74 R1, RS.t76 R1, RS.t78 R1, RS.a R2, RS.r0 R2, RS.h R2, RS.r2 R2, RS.l R2, RS.s R2, RS.k0 R2, RS.k1 R2, RS.k2 R2, RS.k3 R2, RS.k4 R2, RS.k5 R2, RS.f8 R2, RS.f9 R2, RS.t65 R2, RS.t102 R2, RS.t68 R2, RS.t70 R2, RS.t72 R2, RS.t74 R2, RS.t76 R2, RS.t78 R2, RS.a R3, RS.r0 R3, RS.h R3, RS.r2 R3, RS.l R3, RS.s R3, RS.k0 R3, RS.k1 R3, RS.k2 R3, RS.k3 R3, RS.k4 R3, RS.k5 R3, RS.f8 R3, RS.f9 R3, RS.t65 R3, RS.t102 R3, RS.t68 R3, RS.t70 R3, RS.t72 R3, RS.t74 R3, RS.t76 R3, RS.t78 R3, RS.a R4, RS.r0 R4, RS.h R4, RS.r2 R4, RS.l R4, RS.s R4, RS.k0 R4, RS.k1 R4, RS.k2 R4, RS.k3 R4, RS.k4 R4, RS.k5 R4, RS.f8 R4, RS.f9 R4, RS.t65 R4, RS.t102 R4, RS.t68 R4, RS.t70 R4, RS.t72 R4, RS.t74 R4, RS.t76 R4, RS.t78 R4, e1, v1, e2, e3, v3]
theorem l_home (R : RS w T n cnt p H N K C) (hW : 3 ≤ H 0 0 ∧ H 0 0 ≤ 8 ∧ 2 ≤ H 0 1 ∧ H 0 1 ≤ 6) : ∃ u, Fr rdP w u ∧ ((∃ q, pCn T n (H 0 0) (H 0 1) (.inl p) = .inl q ∧ rn 39 (0, [(0, jvr 101)], [], w) = some (some (.inl 1), u) ∧ RS u T n cnt q (qmH T n H (.inl p)) N K C) ∨ (∃ x, pCn T n (H 0 0) (H 0 1) (.inl p) = .inr x ∧ rn 39 (0, [(0, jvr 101)], [], w) = some (some (.inl 0), u) ∧ RFx u T n cnt x)) := by
  obtain ⟨u1, f1, ⟨q1, p2, g1, e1, R1, v1, vb, -⟩ | ⟨x, g1, e1, R1⟩⟩ := rs_cell R hW
  case inr => exact ⟨u1, f1, Or.inr ⟨x, g1, by simp (disch := omega) only [p39_0, p39_1, p39_4, p39_7, p39_8, p39_9, p39_10, p39_13, p39_14, p39_17, p39_20, p39_21, jwd_c, jwd_0, Nat.reduceLeDiff, Nat.reduceEqDiff, Nat.reduceAdd, Nat.reduceSub, Nat.reduceMul, Int.reduceAdd, Int.reduceSub, Int.reduceMul, Int.reduceNeg, Int.reduceEq, Int.reduceLT, Int.reduceLE, jq_ldi_i, jq_ldl_l, jq_lda_a, jq_inc_i, jq_gs_t, jq_gsb_t, jq_gb_t, jq_gr_2, jq_gr_4, jq_gw_2, jq_s_t, jq_b_t, jg_c, jg_n, js_c, js_n, jrm_c, jrm_n, j2_i, j2_l, j2_a, jq_c_i, jq_c_l, jq_c_0, jq_c_n, jwd_le, jw_c0, mS_I, mS_R, mS_J, mN_I, mN_R, mN_J, mR_I, mI_R, mJ_I, mJ_R, mI_J, mR_J, ↓reduceIte, decide_true, or_true, true_or, and_self, false_or, or_false, reduceCtorEq, Bool.false_eq_true, and_false, false_and, eq_self, true_and, and_true, zero_ne, ↓br_lt_t, ↓br_lt_f, ↓br_eq_t, ↓br_eq_f, ↓br_lz_t, ↓br_lz_f, ↓br_ez_t, ↓br_ez_f, ↓br_gz_t, ↓br_gz_f, jw_id, jin_t, jix_t, ↓ite_t, ↓ite_f, RS.a R, RS.r0 R, RS.h R, RS.r2 R, RS.l R, RS.s R, RS.k0 R, RS.k1 R, RS.k2 R, RS.k3 R, RS.k4 R, RS.k5 R, RS.f8 R, RS.f9 R, RS.t65 R, RS.t102 R, RS.t68 R, RS.t70 R, RS.t72 R, RS.t74 R, RS.t76 R, RS.t78 R, e1], R1⟩⟩
  have R2 := R1.set (k := 14) (i := 12) (v := pCell T n (H 0 0) (H 0 1) (.inl p)) (by omega)
  refine ⟨_, f1.tr rd67, Or.inl ⟨q1, g1, ?_, R2⟩⟩
  simp (disch := omega) only [p39_0, p39_1, p39_4, p39_7, p39_8, p39_9, p39_10, p39_13, p39_14, p39_17, p39_20, p39_21, jwd_c, jwd_0, Nat.reduceLeDiff, Nat.reduceEqDiff, Nat.reduceAdd, Nat.reduceSub, Nat.reduceMul, Int.reduceAdd, Int.reduceSub, Int.reduceMul, Int.reduceNeg, Int.reduceEq, Int.reduceLT, Int.reduceLE, jq_ldi_i, jq_ldl_l, jq_lda_a, jq_inc_i, jq_gs_t, jq_gsb_t, jq_gb_t, jq_gr_2, jq_gr_4, jq_gw_2, jq_s_t, jq_b_t, jg_c, jg_n, js_c, js_n, jrm_c, jrm_n, j2_i, j2_l, j2_a, jq_c_i, jq_c_l, jq_c_0, jq_c_n, jwd_le, jw_c0, mS_I, mS_R, mS_J, mN_I, mN_R, mN_J, mR_I, mI_R, mJ_I, mJ_R, mI_J, mR_J, ↓reduceIte, decide_true, or_true, true_or, and_self, false_or, or_false, reduceCtorEq, Bool.false_eq_true, and_false, false_and, eq_self, true_and, and_true, zero_ne, ↓br_lt_t, ↓br_lt_f, ↓br_eq_t, ↓br_eq_f, ↓br_lz_t, ↓br_lz_f, ↓br_ez_t, ↓br_ez_f, ↓br_gz_t, ↓br_gz_f, jw_id, jin_t, jix_t, ↓ite_t, ↓ite_f, RS.a R, RS.r0 R, RS.h R, RS.r2 R, RS.l R, RS.s R, RS.k0 R, RS.k1 R, RS.k2 R, RS.k3 R, RS.k4 R, RS.k5 R, RS.f8 R, RS.f9 R, RS.t65 R, RS.t102 R, RS.t68 R, RS.t70 R, RS.t72 R, RS.t74 R, RS.t76 R, RS.t78 R, RS.a R1, RS.r0 R1, RS.h R1, RS.r2 R1, RS.l R1, RS.s R1, RS.k0 R1, RS.k1 R1, RS.k2 R1, RS.k3 R1, RS.k4 R1, RS.k5 R1, RS.f8 R1, RS.f9 R1, RS.t65 R1, RS.t102 R1, RS.t68 R1, RS.t70 R1, RS.t72 R1, RS.t74 R1, RS.t76 R1, RS.t78 R1, e1, v1]
/-- what is listed, pushed -/
theorem RS.push (R : RS w T n cnt p H N K C) {k a i c : Nat} {v : Int} (hk : (k = 3 ∧ a = 27 ∧ i = 5 ∧ c = 8 ∧ 0 ≤ H 0 5 ∧ H 0 5 < 8) ∨ (k = 5 ∧ a = 28 ∧ i = 6 ∧ c = 12 ∧ 0 ≤ H 0 6 ∧ H 0 6 < 12)) : ∃ u, rn 14 (0, [(0, jvr (67 + k)), (1, .inl v)], [], w) = some (none, u) ∧ RS u T n cnt p (uH (uH H a (H 0 i).toNat v) 0 i (H 0 i + 1)) N K C ∧ Fr rdP w u ∧ mI u 101 = mI w 101 := by
  have hx := R.2.2.2.1.1
  rcases hk with ⟨rfl, rfl, rfl, rfl, b1, b2⟩ | ⟨rfl, rfl, rfl, rfl, b1, b2⟩
  · obtain ⟨u, e, s, f⟩ := sg_push (v := v) R.g70 (by omega)
    have f : Fr (sP 70) w u := f
    have nP : ∀ b, (b < 70 ∨ 71 < b) → ¬ sP 70 b := fun b hb => sP_n (by omega)
    have hA : ∀ a b, (a ≠ 0 ∧ a ≠ 27) → uH (uH H 27 (H 0 5).toNat v) 0 5 (H 0 5 + 1) a b = H a b := fun a b h => by rw [uH_n (Or.inl (by omega)), uH_n (Or.inl (by omega))]
    have hN : ∀ b, b ≠ 5 → uH (uH H 27 (H 0 5).toNat v) 0 5 (H 0 5 + 1) 0 b = H 0 b := fun b h => by rw [uH_n (Or.inr (by omega)), uH_n (Or.inl (by omega))]
    have h5 : uH (uH H 27 (H 0 5).toNat v) 0 5 (H 0 5 + 1) 0 5 = H 0 5 + 1 := uH_s
    refine ⟨u, e, R.re f (nP _ (by omega)) ⟨nP _ (by omega), nP _ (by omega)⟩ ⟨nP _ (by omega), nP _ (by omega)⟩ (nP _ (by omega)) (hx.sh (k := 3) f (by omega) s) (fun k hk => hN k (by omega)) ((R.g68.fr f (nP _ (by omega)) (nP _ (by omega))).mk2 (fun x y _ _ => (hA _ _ (by omega)).symm)) ?_ ?_ ?_ ?_ ?_, f.mo (fun b hb => by unfold sP at hb; unfold rdP; omega), f.Iq (nP _ (by omega))⟩
    · rw [h5, show (H 0 5 + 1).toNat = (H 0 5).toNat + 1 by omega]
      refine s.mk2 (fun x y hx hy => ?_)
      show (if x < (H 0 5).toNat then H 27 x else if y = 0 then v else 0) = _
      rw [uH_n (i := 0) (Or.inl (by omega))]
      by_cases z : x < (H 0 5).toNat
      · rw [if_pos z, uH_n (Or.inr (by omega))]
      · rw [if_neg z, if_pos (by omega), show x = (H 0 5).toNat by omega, uH_s]
    · rw [hN 6 (by omega)]
      exact (R.g72.fr f (nP _ (by omega)) (nP _ (by omega))).mk2 (fun x y _ _ => (hA _ _ (by omega)).symm)
    · rw [hN 3 (by omega)]
      refine (R.g74.fr f (nP _ (by omega)) (nP _ (by omega))).mk2 (fun x y _ hy => ?_)
      unfold gTab
      rw [hA 18 x (by omega), hA 19 x (by omega), hA (19 + y) x (by omega)]
    · rw [hN 4 (by omega)]
      exact (R.g76.fr f (nP _ (by omega)) (nP _ (by omega))).mk2 (fun x y _ hy => (hA _ _ (by omega)).symm)
    · rw [hN 8 (by omega)]
      exact (R.g78.fr f (nP _ (by omega)) (nP _ (by omega))).mk2 (fun x y _ hy => (hA _ _ (by omega)).symm)
  · obtain ⟨u, e, s, f⟩ := sg_push (v := v) R.g72 (by omega)
    have f : Fr (sP 72) w u := f
    have nP : ∀ b, (b < 72 ∨ 73 < b) → ¬ sP 72 b := fun b hb => sP_n (by omega)
    have hA : ∀ a b, (a ≠ 0 ∧ a ≠ 28) → uH (uH H 28 (H 0 6).toNat v) 0 6 (H 0 6 + 1) a b = H a b := fun a b h => by rw [uH_n (Or.inl (by omega)), uH_n (Or.inl (by omega))]
    have hN : ∀ b, b ≠ 6 → uH (uH H 28 (H 0 6).toNat v) 0 6 (H 0 6 + 1) 0 b = H 0 b := fun b h => by rw [uH_n (Or.inr (by omega)), uH_n (Or.inl (by omega))]
    have h5 : uH (uH H 28 (H 0 6).toNat v) 0 6 (H 0 6 + 1) 0 6 = H 0 6 + 1 := uH_s
    refine ⟨u, e, R.re f (nP _ (by omega)) ⟨nP _ (by omega), nP _ (by omega)⟩ ⟨nP _ (by omega), nP _ (by omega)⟩ (nP _ (by omega)) (hx.sh (k := 5) f (by omega) s) (fun k hk => hN k (by omega)) ((R.g68.fr f (nP _ (by omega)) (nP _ (by omega))).mk2 (fun x y _ _ => (hA _ _ (by omega)).symm)) ?_ ?_ ?_ ?_ ?_, f.mo (fun b hb => by unfold sP at hb; unfold rdP; omega), f.Iq (nP _ (by omega))⟩
    · rw [hN 5 (by omega)]
      exact (R.g70.fr f (nP _ (by omega)) (nP _ (by omega))).mk2 (fun x y _ _ => (hA _ _ (by omega)).symm)
    · rw [h5, show (H 0 6 + 1).toNat = (H 0 6).toNat + 1 by omega]
      refine s.mk2 (fun x y hx hy => ?_)
      show (if x < (H 0 6).toNat then H 28 x else if y = 0 then v else 0) = _
      rw [uH_n (i := 0) (Or.inl (by omega))]
      by_cases z : x < (H 0 6).toNat
      · rw [if_pos z, uH_n (Or.inr (by omega))]
      · rw [if_neg z, if_pos (by omega), show x = (H 0 6).toNat by omega, uH_s]
    · rw [hN 3 (by omega)]
      refine (R.g74.fr f (nP _ (by omega)) (nP _ (by omega))).mk2 (fun x y _ hy => ?_)
      unfold gTab
      rw [hA 18 x (by omega), hA 19 x (by omega), hA (19 + y) x (by omega)]
    · rw [hN 4 (by omega)]
      exact (R.g76.fr f (nP _ (by omega)) (nP _ (by omega))).mk2 (fun x y _ hy => (hA _ _ (by omega)).symm)
    · rw [hN 8 (by omega)]
      exact (R.g78.fr f (nP _ (by omega)) (nP _ (by omega))).mk2 (fun x y _ hy => (hA _ _ (by omega)).symm)
theorem RS.st (R : RS w T n cnt p H N K C) : mI w 101 5 = tS T n p ∧ mI w 101 4 = tK T n p ∧ mI w 101 6 = tE T n p := ⟨R.2.1.2.2.1, R.2.1.2.1, R.2.1.2.2.2.1⟩
theorem RS.fail (R : RS w T n cnt p H N K C) {f a : Int} : rn 30 (0, [(0, jvr 101), (1, .inl f), (2, .inl a)], [], w) = some (some (.inl 0), setI (setI w 101 10 f) 101 11 a) ∧ RFx (setI (setI w 101 10 f) 101 11 a) T n cnt (f, a) ∧ Fr rdP w (setI (setI w 101 10 f) 101 11 a) := by
  have fl := fl_ok R.1 (f := f) (a := a)
  exact ⟨c_fail R.a, R.no fl.2.2 fl.1 fl.2.1, rd1 fl.2.2⟩
theorem l_listed1 (R : RS w T n cnt p H N K C) (h5 : 0 ≤ H 0 5) : ∃ u, Fr rdP w u ∧ ((∃ q, pL T n H p = .inl q ∧ rn 41 (0, [(0, jvr 101), (1, .inl 1)], [], w) = some (some (.inl 1), u) ∧ RS u T n cnt q (pLH T n H p) N K C) ∨ (∃ x, pL T n H p = .inr x ∧ rn 41 (0, [(0, jvr 101), (1, .inl 1)], [], w) = some (some (.inl 0), u) ∧ RFx u T n cnt x)) := by
  have st := R.st
  have hc5 := R.g70.2.2.2.2.2.2.1
  obtain ⟨u1, f1, ⟨q1, g1, e1, R1, v1⟩ | ⟨x, g1, e1, R1⟩⟩ := rs_whole R (lo := 0) (hi := 3) (by omega) (by omega) (by omega) (by omega)
  case inr => exact ⟨u1, f1, Or.inr ⟨x, by unfold pL; rw [g1], by simp (disch := omega) only [p41_0, p41_1, p41_4, p41_5, p41_6, p41_9, p41_10, p41_11, p41_12, p41_15, p41_18, p41_21, p41_22, p41_24, p41_27, p41_30, p41_31, p41_32, p41_33, p41_36, p41_37, p41_40, p41_43, p41_46, p41_48, p41_51, p41_54, p41_55, p41_58, p41_61, p41_64, p41_66, p41_69, p41_70, p41_71, p41_72, p41_75, p41_76, p41_77, p41_80, p41_81, p41_84, p41_87, p41_88, p41_91, p41_94, p41_97, p41_98, p41_101, p41_104, p41_105, p41_108, p41_111, p41_112, jwd_c, jwd_0, Nat.reduceLeDiff, Nat.reduceEqDiff, Nat.reduceAdd, Nat.reduceSub, Nat.reduceMul, Int.reduceAdd, Int.reduceSub, Int.reduceMul, Int.reduceNeg, Int.reduceEq, Int.reduceLT, Int.reduceLE, jq_ldi_i, jq_ldl_l, jq_lda_a, jq_inc_i, jq_gs_t, jq_gsb_t, jq_gb_t, jq_gr_2, jq_gr_4, jq_gw_2, jq_s_t, jq_b_t, jg_c, jg_n, js_c, js_n, jrm_c, jrm_n, j2_i, j2_l, j2_a, jq_c_i, jq_c_l, jq_c_0, jq_c_n, jwd_le, jw_c0, mS_I, mS_R, mS_J, mN_I, mN_R, mN_J, mR_I, mI_R, mJ_I, mJ_R, mI_J, mR_J, ↓reduceIte, decide_true, or_true, true_or, and_self, false_or, or_false, reduceCtorEq, Bool.false_eq_true, and_false, false_and, eq_self, true_and, and_true, zero_ne, ↓br_lt_t, ↓br_lt_f, ↓br_eq_t, ↓br_eq_f, ↓br_lz_t, ↓br_lz_f, ↓br_ez_t, ↓br_ez_f, ↓br_gz_t, ↓br_gz_f, jw_id, jin_t, jix_t, ↓ite_t, ↓ite_f, RS.a R, RS.r0 R, RS.h R, RS.r2 R, RS.l R, RS.s R, RS.k0 R, RS.k1 R, RS.k2 R, RS.k3 R, RS.k4 R, RS.k5 R, RS.f8 R, RS.f9 R, RS.t65 R, RS.t102 R, RS.t68 R, RS.t70 R, RS.t72 R, RS.t74 R, RS.t76 R, RS.t78 R, st.1, e1], R1⟩⟩
  have e0 := sg_count R1.g70
  rw [show (((H 0 5).toNat : Nat) : Int) = H 0 5 by omega] at e0
  have sb := ts_bd (T := T) R.pn
  by_cases z : H 0 5 < 8
  · obtain ⟨u2, e2, R2, f2, -⟩ := R1.push (k := 3) (a := 27) (i := 5) (c := 8) (v := pV T n 0 3 (.inl p)) (by omega)
    refine ⟨u2, f1.tr f2, Or.inl ⟨q1, by unfold pL; rw [g1]; exact if_pos z, ?_, R2⟩⟩
    simp (disch := omega) only [p41_0, p41_1, p41_4, p41_5, p41_6, p41_9, p41_10, p41_11, p41_12, p41_15, p41_18, p41_21, p41_22, p41_24, p41_27, p41_30, p41_31, p41_32, p41_33, p41_36, p41_37, p41_40, p41_43, p41_46, p41_48, p41_51, p41_54, p41_55, p41_58, p41_61, p41_64, p41_66, p41_69, p41_70, p41_71, p41_72, p41_75, p41_76, p41_77, p41_80, p41_81, p41_84, p41_87, p41_88, p41_91, p41_94, p41_97, p41_98, p41_101, p41_104, p41_105, p41_108, p41_111, p41_112, jwd_c, jwd_0, Nat.reduceLeDiff, Nat.reduceEqDiff, Nat.reduceAdd, Nat.reduceSub, Nat.reduceMul, Int.reduceAdd, Int.reduceSub, Int.reduceMul, Int.reduceNeg, Int.reduceEq, Int.reduceLT, Int.reduceLE, jq_ldi_i, jq_ldl_l, jq_lda_a, jq_inc_i, jq_gs_t, jq_gsb_t, jq_gb_t, jq_gr_2, jq_gr_4, jq_gw_2, jq_s_t, jq_b_t, jg_c, jg_n, js_c, js_n, jrm_c, jrm_n, j2_i, j2_l, j2_a, jq_c_i, jq_c_l, jq_c_0, jq_c_n, jwd_le, jw_c0, mS_I, mS_R, mS_J, mN_I, mN_R, mN_J, mR_I, mI_R, mJ_I, mJ_R, mI_J, mR_J, ↓reduceIte, decide_true, or_true, true_or, and_self, false_or, or_false, reduceCtorEq, Bool.false_eq_true, and_false, false_and, eq_self, true_and, and_true, zero_ne, ↓br_lt_t, ↓br_lt_f, ↓br_eq_t, ↓br_eq_f, ↓br_lz_t, ↓br_lz_f, ↓br_ez_t, ↓br_ez_f, ↓br_gz_t, ↓br_gz_f, jw_id, jin_t, jix_t, ↓ite_t, ↓ite_f, RS.a R, RS.r0 R, RS.h R, RS.r2 R, RS.l R, RS.s R, RS.k0 R, RS.k1 R, RS.k2 R, RS.k3 R, RS.k4 R, RS.k5 R, RS.f8 R, RS.f9 R, RS.t65 R, RS.t102 R, RS.t68 R, RS.t70 R, RS.t72 R, RS.t74 R, RS.t76 R, RS.t78 R, RS.a R1, RS.r0 R1, RS.h R1, RS.r2 R1, RS.l R1, RS.s R1, RS.k0 R1, RS.k1 R1, RS.k2 R1, RS.k3 R1, RS.k4 R1, RS.k5 R1, RS.f8 R1, RS.f9 R1, RS.t65 R1, RS.t102 R1, RS.t68 R1, RS.t70 R1, RS.t72 R1, RS.t74 R1, RS.t76 R1, RS.t78 R1, st.1, e1, e0, v1, e2]
  · have fl := R1.fail (f := 5) (a := (tS T n p : Int))
    refine ⟨_, f1.tr fl.2.2, Or.inr ⟨(5, (tS T n p : Int)), by unfold pL; rw [g1]; exact if_neg z, ?_, fl.2.1⟩⟩
    simp (disch := omega) only [p41_0, p41_1, p41_4, p41_5, p41_6, p41_9, p41_10, p41_11, p41_12, p41_15, p41_18, p41_21, p41_22, p41_24, p41_27, p41_30, p41_31, p41_32, p41_33, p41_36, p41_37, p41_40, p41_43, p41_46, p41_48, p41_51, p41_54, p41_55, p41_58, p41_61, p41_64, p41_66, p41_69, p41_70, p41_71, p41_72, p41_75, p41_76, p41_77, p41_80, p41_81, p41_84, p41_87, p41_88, p41_91, p41_94, p41_97, p41_98, p41_101, p41_104, p41_105, p41_108, p41_111, p41_112, jwd_c, jwd_0, Nat.reduceLeDiff, Nat.reduceEqDiff, Nat.reduceAdd, Nat.reduceSub, Nat.reduceMul, Int.reduceAdd, Int.reduceSub, Int.reduceMul, Int.reduceNeg, Int.reduceEq, Int.reduceLT, Int.reduceLE, jq_ldi_i, jq_ldl_l, jq_lda_a, jq_inc_i, jq_gs_t, jq_gsb_t, jq_gb_t, jq_gr_2, jq_gr_4, jq_gw_2, jq_s_t, jq_b_t, jg_c, jg_n, js_c, js_n, jrm_c, jrm_n, j2_i, j2_l, j2_a, jq_c_i, jq_c_l, jq_c_0, jq_c_n, jwd_le, jw_c0, mS_I, mS_R, mS_J, mN_I, mN_R, mN_J, mR_I, mI_R, mJ_I, mJ_R, mI_J, mR_J, ↓reduceIte, decide_true, or_true, true_or, and_self, false_or, or_false, reduceCtorEq, Bool.false_eq_true, and_false, false_and, eq_self, true_and, and_true, zero_ne, ↓br_lt_t, ↓br_lt_f, ↓br_eq_t, ↓br_eq_f, ↓br_lz_t, ↓br_lz_f, ↓br_ez_t, ↓br_ez_f, ↓br_gz_t, ↓br_gz_f, jw_id, jin_t, jix_t, ↓ite_t, ↓ite_f, RS.a R, RS.r0 R, RS.h R, RS.r2 R, RS.l R, RS.s R, RS.k0 R, RS.k1 R, RS.k2 R, RS.k3 R, RS.k4 R, RS.k5 R, RS.f8 R, RS.f9 R, RS.t65 R, RS.t102 R, RS.t68 R, RS.t70 R, RS.t72 R, RS.t74 R, RS.t76 R, RS.t78 R, RS.a R1, RS.r0 R1, RS.h R1, RS.r2 R1, RS.l R1, RS.s R1, RS.k0 R1, RS.k1 R1, RS.k2 R1, RS.k3 R1, RS.k4 R1, RS.k5 R1, RS.f8 R1, RS.f9 R1, RS.t65 R1, RS.t102 R1, RS.t68 R1, RS.t70 R1, RS.t72 R1, RS.t74 R1, RS.t76 R1, RS.t78 R1, st.1, e1, e0, fl.1]
theorem l_listed0 (R : RS w T n cnt p H N K C) (h6 : 0 ≤ H 0 6) : ∃ u, Fr rdP w u ∧ ((∃ q, pM T n H p = .inl q ∧ rn 41 (0, [(0, jvr 101), (1, .inl 0)], [], w) = some (some (.inl 1), u) ∧ RS u T n cnt q (pMH T n H p) N K C) ∨ (∃ x, pM T n H p = .inr x ∧ rn 41 (0, [(0, jvr 101), (1, .inl 0)], [], w) = some (some (.inl 0), u) ∧ RFx u T n cnt x)) := by
  have st := R.st
  have hc5 := R.g72.2.2.2.2.2.2.1
  obtain ⟨u1, f1, ⟨q1, g1, e1, R1, v1⟩ | ⟨x, g1, e1, R1⟩⟩ := rs_one R ok_8
  case inr => exact ⟨u1, f1, Or.inr ⟨x, by unfold pM; rw [g1], by simp (disch := omega) only [p41_0, p41_1, p41_4, p41_5, p41_6, p41_9, p41_10, p41_11, p41_12, p41_15, p41_18, p41_21, p41_22, p41_24, p41_27, p41_30, p41_31, p41_32, p41_33, p41_36, p41_37, p41_40, p41_43, p41_46, p41_48, p41_51, p41_54, p41_55, p41_58, p41_61, p41_64, p41_66, p41_69, p41_70, p41_71, p41_72, p41_75, p41_76, p41_77, p41_80, p41_81, p41_84, p41_87, p41_88, p41_91, p41_94, p41_97, p41_98, p41_101, p41_104, p41_105, p41_108, p41_111, p41_112, jwd_c, jwd_0, Nat.reduceLeDiff, Nat.reduceEqDiff, Nat.reduceAdd, Nat.reduceSub, Nat.reduceMul, Int.reduceAdd, Int.reduceSub, Int.reduceMul, Int.reduceNeg, Int.reduceEq, Int.reduceLT, Int.reduceLE, jq_ldi_i, jq_ldl_l, jq_lda_a, jq_inc_i, jq_gs_t, jq_gsb_t, jq_gb_t, jq_gr_2, jq_gr_4, jq_gw_2, jq_s_t, jq_b_t, jg_c, jg_n, js_c, js_n, jrm_c, jrm_n, j2_i, j2_l, j2_a, jq_c_i, jq_c_l, jq_c_0, jq_c_n, jwd_le, jw_c0, mS_I, mS_R, mS_J, mN_I, mN_R, mN_J, mR_I, mI_R, mJ_I, mJ_R, mI_J, mR_J, ↓reduceIte, decide_true, or_true, true_or, and_self, false_or, or_false, reduceCtorEq, Bool.false_eq_true, and_false, false_and, eq_self, true_and, and_true, zero_ne, ↓br_lt_t, ↓br_lt_f, ↓br_eq_t, ↓br_eq_f, ↓br_lz_t, ↓br_lz_f, ↓br_ez_t, ↓br_ez_f, ↓br_gz_t, ↓br_gz_f, jw_id, jin_t, jix_t, ↓ite_t, ↓ite_f, RS.a R, RS.r0 R, RS.h R, RS.r2 R, RS.l R, RS.s R, RS.k0 R, RS.k1 R, RS.k2 R, RS.k3 R, RS.k4 R, RS.k5 R, RS.f8 R, RS.f9 R, RS.t65 R, RS.t102 R, RS.t68 R, RS.t70 R, RS.t72 R, RS.t74 R, RS.t76 R, RS.t78 R, st.1, e1], R1⟩⟩
  have e0 := sg_count R1.g72
  rw [show (((H 0 6).toNat : Nat) : Int) = H 0 6 by omega] at e0
  have sb := ts_bd (T := T) R.pn
  by_cases z : H 0 6 < 12
  · obtain ⟨u2, e2, R2, f2, -⟩ := R1.push (k := 5) (a := 28) (i := 6) (c := 12) (v := pI T n (cs wSd) (.inl p)) (by omega)
    refine ⟨u2, f1.tr f2, Or.inl ⟨q1, by unfold pM; rw [g1]; exact if_pos z, ?_, R2⟩⟩
    simp (disch := omega) only [p41_0, p41_1, p41_4, p41_5, p41_6, p41_9, p41_10, p41_11, p41_12, p41_15, p41_18, p41_21, p41_22, p41_24, p41_27, p41_30, p41_31, p41_32, p41_33, p41_36, p41_37, p41_40, p41_43, p41_46, p41_48, p41_51, p41_54, p41_55, p41_58, p41_61, p41_64, p41_66, p41_69, p41_70, p41_71, p41_72, p41_75, p41_76, p41_77, p41_80, p41_81, p41_84, p41_87, p41_88, p41_91, p41_94, p41_97, p41_98, p41_101, p41_104, p41_105, p41_108, p41_111, p41_112, jwd_c, jwd_0, Nat.reduceLeDiff, Nat.reduceEqDiff, Nat.reduceAdd, Nat.reduceSub, Nat.reduceMul, Int.reduceAdd, Int.reduceSub, Int.reduceMul, Int.reduceNeg, Int.reduceEq, Int.reduceLT, Int.reduceLE, jq_ldi_i, jq_ldl_l, jq_lda_a, jq_inc_i, jq_gs_t, jq_gsb_t, jq_gb_t, jq_gr_2, jq_gr_4, jq_gw_2, jq_s_t, jq_b_t, jg_c, jg_n, js_c, js_n, jrm_c, jrm_n, j2_i, j2_l, j2_a, jq_c_i, jq_c_l, jq_c_0, jq_c_n, jwd_le, jw_c0, mS_I, mS_R, mS_J, mN_I, mN_R, mN_J, mR_I, mI_R, mJ_I, mJ_R, mI_J, mR_J, ↓reduceIte, decide_true, or_true, true_or, and_self, false_or, or_false, reduceCtorEq, Bool.false_eq_true, and_false, false_and, eq_self, true_and, and_true, zero_ne, ↓br_lt_t, ↓br_lt_f, ↓br_eq_t, ↓br_eq_f, ↓br_lz_t, ↓br_lz_f, ↓br_ez_t, ↓br_ez_f, ↓br_gz_t, ↓br_gz_f, jw_id, jin_t, jix_t, ↓ite_t, ↓ite_f, RS.a R, RS.r0 R, RS.h R, RS.r2 R, RS.l R, RS.s R, RS.k0 R, RS.k1 R, RS.k2 R, RS.k3 R, RS.k4 R, RS.k5 R, RS.f8 R, RS.f9 R, RS.t65 R, RS.t102 R, RS.t68 R, RS.t70 R, RS.t72 R, RS.t74 R, RS.t76 R, RS.t78 R, RS.a R1, RS.r0 R1, RS.h R1, RS.r2 R1, RS.l R1, RS.s R1, RS.k0 R1, RS.k1 R1, RS.k2 R1, RS.k3 R1, RS.k4 R1, RS.k5 R1, RS.f8 R1, RS.f9 R1, RS.t65 R1, RS.t102 R1, RS.t68 R1, RS.t70 R1, RS.t72 R1, RS.t74 R1, RS.t76 R1, RS.t78 R1, st.1, e1, e0, v1, e2]
  · have fl := R1.fail (f := 5) (a := (tS T n p : Int))
    refine ⟨_, f1.tr fl.2.2, Or.inr ⟨(5, (tS T n p : Int)), by unfold pM; rw [g1]; exact if_neg z, ?_, fl.2.1⟩⟩
    simp (disch := omega) only [p41_0, p41_1, p41_4, p41_5, p41_6, p41_9, p41_10, p41_11, p41_12, p41_15, p41_18, p41_21, p41_22, p41_24, p41_27, p41_30, p41_31, p41_32, p41_33, p41_36, p41_37, p41_40, p41_43, p41_46, p41_48, p41_51, p41_54, p41_55, p41_58, p41_61, p41_64, p41_66, p41_69, p41_70, p41_71, p41_72, p41_75, p41_76, p41_77, p41_80, p41_81, p41_84, p41_87, p41_88, p41_91, p41_94, p41_97, p41_98, p41_101, p41_104, p41_105, p41_108, p41_111, p41_112, jwd_c, jwd_0, Nat.reduceLeDiff, Nat.reduceEqDiff, Nat.reduceAdd, Nat.reduceSub, Nat.reduceMul, Int.reduceAdd, Int.reduceSub, Int.reduceMul, Int.reduceNeg, Int.reduceEq, Int.reduceLT, Int.reduceLE, jq_ldi_i, jq_ldl_l, jq_lda_a, jq_inc_i, jq_gs_t, jq_gsb_t, jq_gb_t, jq_gr_2, jq_gr_4, jq_gw_2, jq_s_t, jq_b_t, jg_c, jg_n, js_c, js_n, jrm_c, jrm_n, j2_i, j2_l, j2_a, jq_c_i, jq_c_l, jq_c_0, jq_c_n, jwd_le, jw_c0, mS_I, mS_R, mS_J, mN_I, mN_R, mN_J, mR_I, mI_R, mJ_I, mJ_R, mI_J, mR_J, ↓reduceIte, decide_true, or_true, true_or, and_self, false_or, or_false, reduceCtorEq, Bool.false_eq_true, and_false, false_and, eq_self, true_and, and_true, zero_ne, ↓br_lt_t, ↓br_lt_f, ↓br_eq_t, ↓br_eq_f, ↓br_lz_t, ↓br_lz_f, ↓br_ez_t, ↓br_ez_f, ↓br_gz_t, ↓br_gz_f, jw_id, jin_t, jix_t, ↓ite_t, ↓ite_f, RS.a R, RS.r0 R, RS.h R, RS.r2 R, RS.l R, RS.s R, RS.k0 R, RS.k1 R, RS.k2 R, RS.k3 R, RS.k4 R, RS.k5 R, RS.f8 R, RS.f9 R, RS.t65 R, RS.t102 R, RS.t68 R, RS.t70 R, RS.t72 R, RS.t74 R, RS.t76 R, RS.t78 R, RS.a R1, RS.r0 R1, RS.h R1, RS.r2 R1, RS.l R1, RS.s R1, RS.k0 R1, RS.k1 R1, RS.k2 R1, RS.k3 R1, RS.k4 R1, RS.k5 R1, RS.f8 R1, RS.f9 R1, RS.t65 R1, RS.t102 R1, RS.t68 R1, RS.t70 R1, RS.t72 R1, RS.t74 R1, RS.t76 R1, RS.t78 R1, st.1, e1, e0, fl.1]
/-- going over a comma -/
theorem RS.over (R : RS w T n cnt p H N K C) : ∃ u, rn 22 (0, [(0, jvr 101)], [], w) = some (none, u) ∧ RS u T n cnt (tE T n p) H N K C ∧ Fr rdP w u := by
  have tb := tke_bd (T := T) R.pn
  obtain ⟨u, e, r, c, k, f⟩ := c_goOn R.1 (p := tE T n p) tb.2.1 R.st.2.2 R.2.1.2.2.2.2.2
  exact ⟨u, e, R.go f r c, rd1 f⟩
theorem pN_e {lo hi : Int} : pN T n lo hi (.inl p) = if tK T n p = 2 then (if lo ≤ tN T n p ∧ tN T n p ≤ hi then .inl (tE T n p) else .inr (4, (tS T n p : Int))) else .inr (1, (tS T n p : Int)) := by
  show pG T n (if tK T n p = 2 then (if lo ≤ tN T n p ∧ tN T n p ≤ hi then .inl p else .inr (4, (tS T n p : Int))) else .inr (1, (tS T n p : Int))) = _
  by_cases z : tK T n p = 2
  · rw [if_pos z, if_pos z]
    by_cases y : lo ≤ tN T n p ∧ tN T n p ≤ hi
    · rw [if_pos y, if_pos y]
      rfl
    · rw [if_neg y, if_neg y]
      rfl
  · rw [if_neg z, if_neg z]
    rfl
theorem pN_q {lo hi : Int} {q : Nat} (h : pN T n lo hi (.inl p) = .inl q) : q = tE T n p ∧ tK T n p = 2 ∧ (lo ≤ tN T n p ∧ tN T n p ≤ hi) ∧ pV T n lo hi (.inl p) = tN T n p := by
  rw [pN_e] at h
  by_cases z : tK T n p = 2
  · rw [if_pos z] at h
    by_cases y : lo ≤ tN T n p ∧ tN T n p ≤ hi
    · rw [if_pos y] at h
      exact ⟨(Sum.inl.inj h).symm, z, y, if_pos ⟨z, y⟩⟩
    · rw [if_neg y] at h
      cases h
  · rw [if_neg z] at h
    cases h
theorem pO_q {ws : List (List Nat)} {q : Nat} (h : pO T n (cs ws) (.inl p) = .inl q) : q = tE T n p ∧ tK T n p = 1 ∧ 0 ≤ pI T n (cs ws) (.inl p) ∧ pI T n (cs ws) (.inl p) < ws.length := by
  have eI : pI T n (cs ws) (.inl p) = if tK T n p = 1 then gWi (cs ws) (tW T n p) 0 else -1 := rfl
  have wb := wi_bd (cs ws) (tW T n p) 0 (by omega)
  have ll : (cs ws).length = ws.length := List.length_map _
  have h : (if 0 ≤ pI T n (cs ws) (.inl p) then (Sum.inl (tE T n p) : gSg) else .inr (1, (tS T n p : Int))) = .inl q := h
  by_cases z : 0 ≤ pI T n (cs ws) (.inl p)
  · rw [if_pos z] at h
    refine ⟨(Sum.inl.inj h).symm, ?_, z, ?_⟩
    · by_cases y : tK T n p = 1
      · exact y
      · rw [if_neg y] at eI
        omega
    · rw [eI]
      split <;> omega
  · rw [if_neg z] at h
    cases h
theorem pL_q {q : Nat} (h : pL T n H p = .inl q) : q = tE T n p ∧ tK T n p = 2 ∧ H 0 5 < 8 := by
  unfold pL at h
  cases g : pN T n 0 3 (.inl p) with
  | inr x =>
    rw [g] at h
    cases h
  | inl q0 =>
    rw [g] at h
    have h : (if H 0 5 < 8 then (Sum.inl q0 : gSg) else .inr (5, (tS T n p : Int))) = .inl q := h
    have k := pN_q g
    by_cases x : H 0 5 < 8
    · rw [if_pos x] at h
      exact ⟨(Sum.inl.inj h).symm.trans k.1, k.2.1, x⟩
    · rw [if_neg x] at h
      cases h
theorem pM_q {q : Nat} (h : pM T n H p = .inl q) : q = tE T n p ∧ tK T n p = 1 ∧ H 0 6 < 12 ∧ 0 ≤ pI T n (cs wSd) (.inl p) ∧ pI T n (cs wSd) (.inl p) ≤ 3 := by
  unfold pM at h
  cases g : pO T n (cs wSd) (.inl p) with
  | inr x =>
    rw [g] at h
    cases h
  | inl q0 =>
    rw [g] at h
    have h : (if H 0 6 < 12 then (Sum.inl q0 : gSg) else .inr (5, (tS T n p : Int))) = .inl q := h
    have k := pO_q g
    have l4 : ((wSd.length : Nat) : Int) = 4 := rfl
    by_cases x : H 0 6 < 12
    · rw [if_pos x] at h
      exact ⟨(Sum.inl.inj h).symm.trans k.1, k.2.1, x, k.2.2.1, by have := k.2.2.2; omega⟩
    · rw [if_neg x] at h
      cases h
theorem steps_lp : ∀ (m p : Nat) (i : Int) (H : Nat → Nat → Int) (w : jmW), RS w T n cnt p H N K C → 0 ≤ H 0 5 → H 0 5 + m = 9 → 0 ≤ i → i ≤ p → (tK T n p = 4 → (∃ u, Fr rdP w u ∧ ((∃ q, (gStp T n m (tE T n p) H).1 = .inl q ∧ rn 40 (12, [(0, jvr 101), (1, .inl i)], [], w) = some (some (.inl 1), u) ∧ RS u T n cnt q (gStp T n m (tE T n p) H).2 N K C) ∨ (∃ x, (gStp T n m (tE T n p) H).1 = .inr x ∧ rn 40 (12, [(0, jvr 101), (1, .inl i)], [], w) = some (some (.inl 0), u) ∧ RFx u T n cnt x)))) ∧ (tK T n p ≠ 4 → rn 40 (12, [(0, jvr 101), (1, .inl i)], [], w) = some (some (.inl 1), w)) := by
  intro m
  induction m with
  | zero =>
    intro p i H w R h5 h9 i1 i2
    have := R.g70.2.2.2.2.2.2.1
    omega
  | succ m ih =>
    intro p i H w R h5 h9 i1 i2
    have st := R.st
    have hl := R.l
    have hc := R.1.2.2.2.2.2.2.1
    have hc2 := R.1.2.2.2.2.2.1.2.2.2.2.2.2.1
    have kb := tk_bd (T := T) (n := n) p
    have sb := ts_bd (T := T) R.pn
    have tb := tke_bd (T := T) R.pn
    constructor
    · intro k4
      have hs : tS T n p < n := by
        by_cases z : n ≤ tS T n p
        · unfold tK at k4
          rw [if_pos z] at k4
          omega
        · omega
      obtain ⟨u1, e1, R1, f1⟩ := R.over
      have eG : gStp T n (m + 1) (tE T n p) H = (match pL T n H (tE T n p) with | .inr x => (.inr x, H) | .inl q => if tK T n q = 4 then gStp T n m (tE T n q) (pLH T n H (tE T n p)) else (.inl q, pLH T n H (tE T n p))) := rfl
      obtain ⟨u2, f2, ⟨q2, g2, e2, R2⟩ | ⟨x, g2, e2, R2⟩⟩ := l_listed1 R1 h5
      case inr =>
        refine ⟨u2, f1.tr f2, Or.inr ⟨x, by rw [eG, g2], ?_, R2⟩⟩
        rw [p40_12]
        simp (disch := omega) only [p40_0, p40_1, p40_2, p40_5, p40_8, p40_9, p40_10, p40_11, p40_13, p40_14, p40_17, p40_20, p40_21, p40_24, p40_25, p40_28, p40_29, p40_32, p40_33, p40_34, p40_37, p40_40, p40_41, p40_42, p40_45, p40_48, p40_49, jwd_c, jwd_0, Nat.reduceLeDiff, Nat.reduceEqDiff, Nat.reduceAdd, Nat.reduceSub, Nat.reduceMul, Int.reduceAdd, Int.reduceSub, Int.reduceMul, Int.reduceNeg, Int.reduceEq, Int.reduceLT, Int.reduceLE, jq_ldi_i, jq_ldl_l, jq_lda_a, jq_inc_i, jq_gs_t, jq_gsb_t, jq_gb_t, jq_gr_2, jq_gr_4, jq_gw_2, jq_s_t, jq_b_t, jg_c, jg_n, js_c, js_n, jrm_c, jrm_n, j2_i, j2_l, j2_a, jq_c_i, jq_c_l, jq_c_0, jq_c_n, jwd_le, jw_c0, mS_I, mS_R, mS_J, mN_I, mN_R, mN_J, mR_I, mI_R, mJ_I, mJ_R, mI_J, mR_J, ↓reduceIte, decide_true, or_true, true_or, and_self, false_or, or_false, reduceCtorEq, Bool.false_eq_true, and_false, false_and, eq_self, true_and, and_true, zero_ne, ↓br_lt_t, ↓br_lt_f, ↓br_eq_t, ↓br_eq_f, ↓br_lz_t, ↓br_lz_f, ↓br_ez_t, ↓br_ez_f, ↓br_gz_t, ↓br_gz_f, jw_id, jin_t, jix_t, ↓ite_t, ↓ite_f, RS.a R, RS.r0 R, RS.h R, RS.r2 R, RS.l R, RS.s R, RS.k0 R, RS.k1 R, RS.k2 R, RS.k3 R, RS.k4 R, RS.k5 R, RS.f8 R, RS.f9 R, RS.t65 R, RS.t102 R, RS.t68 R, RS.t70 R, RS.t72 R, RS.t74 R, RS.t76 R, RS.t78 R, RS.a R1, RS.r0 R1, RS.h R1, RS.r2 R1, RS.l R1, RS.s R1, RS.k0 R1, RS.k1 R1, RS.k2 R1, RS.k3 R1, RS.k4 R1, RS.k5 R1, RS.f8 R1, RS.f9 R1, RS.t65 R1, RS.t102 R1, RS.t68 R1, RS.t70 R1, RS.t72 R1, RS.t74 R1, RS.t76 R1, RS.t78 R1, st.2.1, e1, e2]
      have pq := pL_q g2
      have h5' : pLH T n H (tE T n p) 0 5 = H 0 5 + 1 := uH_s
      have tb2 := tke_bd (T := T) R1.pn
      have sb2 := ts_bd (T := T) R1.pn
      have kne : tK T n (tE T n p) ≠ 5 := by omega
      have tb3 := tb2.2.2 kne
      have i3 := ih q2 (i + 1) (pLH T n H (tE T n p)) u2 R2 (by rw [h5']; omega) (by rw [h5']; omega) (by omega) (by omega)
      have st0 : rn 40 (12, [(0, jvr 101), (1, .inl i)], [], w) = rn 40 (12, [(0, jvr 101), (1, .inl (i + 1))], [], u2) := by
        rw [p40_12]
        simp (disch := omega) only [p40_0, p40_1, p40_2, p40_5, p40_8, p40_9, p40_10, p40_11, p40_13, p40_14, p40_17, p40_20, p40_21, p40_24, p40_25, p40_28, p40_29, p40_32, p40_33, p40_34, p40_37, p40_40, p40_41, p40_42, p40_45, p40_48, p40_49, jwd_c, jwd_0, Nat.reduceLeDiff, Nat.reduceEqDiff, Nat.reduceAdd, Nat.reduceSub, Nat.reduceMul, Int.reduceAdd, Int.reduceSub, Int.reduceMul, Int.reduceNeg, Int.reduceEq, Int.reduceLT, Int.reduceLE, jq_ldi_i, jq_ldl_l, jq_lda_a, jq_inc_i, jq_gs_t, jq_gsb_t, jq_gb_t, jq_gr_2, jq_gr_4, jq_gw_2, jq_s_t, jq_b_t, jg_c, jg_n, js_c, js_n, jrm_c, jrm_n, j2_i, j2_l, j2_a, jq_c_i, jq_c_l, jq_c_0, jq_c_n, jwd_le, jw_c0, mS_I, mS_R, mS_J, mN_I, mN_R, mN_J, mR_I, mI_R, mJ_I, mJ_R, mI_J, mR_J, ↓reduceIte, decide_true, or_true, true_or, and_self, false_or, or_false, reduceCtorEq, Bool.false_eq_true, and_false, false_and, eq_self, true_and, and_true, zero_ne, ↓br_lt_t, ↓br_lt_f, ↓br_eq_t, ↓br_eq_f, ↓br_lz_t, ↓br_lz_f, ↓br_ez_t, ↓br_ez_f, ↓br_gz_t, ↓br_gz_f, jw_id, jin_t, jix_t, ↓ite_t, ↓ite_f, RS.a R, RS.r0 R, RS.h R, RS.r2 R, RS.l R, RS.s R, RS.k0 R, RS.k1 R, RS.k2 R, RS.k3 R, RS.k4 R, RS.k5 R, RS.f8 R, RS.f9 R, RS.t65 R, RS.t102 R, RS.t68 R, RS.t70 R, RS.t72 R, RS.t74 R, RS.t76 R, RS.t78 R, RS.a R1, RS.r0 R1, RS.h R1, RS.r2 R1, RS.l R1, RS.s R1, RS.k0 R1, RS.k1 R1, RS.k2 R1, RS.k3 R1, RS.k4 R1, RS.k5 R1, RS.f8 R1, RS.f9 R1, RS.t65 R1, RS.t102 R1, RS.t68 R1, RS.t70 R1, RS.t72 R1, RS.t74 R1, RS.t76 R1, RS.t78 R1, st.2.1, e1, e2]
      by_cases k5 : tK T n q2 = 4
      · obtain ⟨u3, f3, h3⟩ := i3.1 k5
        refine ⟨u3, (f1.tr f2).tr f3, ?_⟩
        have eq : gStp T n (m + 1) (tE T n p) H = gStp T n m (tE T n q2) (pLH T n H (tE T n p)) := by
          rw [eG, g2]
          exact if_pos k5
        rw [eq, st0]
        exact h3
      · have h3 := i3.2 k5
        have eq : gStp T n (m + 1) (tE T n p) H = (.inl q2, pLH T n H (tE T n p)) := by
          rw [eG, g2]
          exact if_neg k5
        rw [eq, st0]
        exact ⟨u2, f1.tr f2, Or.inl ⟨q2, rfl, h3, R2⟩⟩
    · intro k4
      rw [p40_12]
      by_cases z : i < n
      · simp (disch := omega) only [p40_0, p40_1, p40_2, p40_5, p40_8, p40_9, p40_10, p40_11, p40_13, p40_14, p40_17, p40_20, p40_21, p40_24, p40_25, p40_28, p40_29, p40_32, p40_33, p40_34, p40_37, p40_40, p40_41, p40_42, p40_45, p40_48, p40_49, jwd_c, jwd_0, Nat.reduceLeDiff, Nat.reduceEqDiff, Nat.reduceAdd, Nat.reduceSub, Nat.reduceMul, Int.reduceAdd, Int.reduceSub, Int.reduceMul, Int.reduceNeg, Int.reduceEq, Int.reduceLT, Int.reduceLE, jq_ldi_i, jq_ldl_l, jq_lda_a, jq_inc_i, jq_gs_t, jq_gsb_t, jq_gb_t, jq_gr_2, jq_gr_4, jq_gw_2, jq_s_t, jq_b_t, jg_c, jg_n, js_c, js_n, jrm_c, jrm_n, j2_i, j2_l, j2_a, jq_c_i, jq_c_l, jq_c_0, jq_c_n, jwd_le, jw_c0, mS_I, mS_R, mS_J, mN_I, mN_R, mN_J, mR_I, mI_R, mJ_I, mJ_R, mI_J, mR_J, ↓reduceIte, decide_true, or_true, true_or, and_self, false_or, or_false, reduceCtorEq, Bool.false_eq_true, and_false, false_and, eq_self, true_and, and_true, zero_ne, ↓br_lt_t, ↓br_lt_f, ↓br_eq_t, ↓br_eq_f, ↓br_lz_t, ↓br_lz_f, ↓br_ez_t, ↓br_ez_f, ↓br_gz_t, ↓br_gz_f, jw_id, jin_t, jix_t, ↓ite_t, ↓ite_f, RS.a R, RS.r0 R, RS.h R, RS.r2 R, RS.l R, RS.s R, RS.k0 R, RS.k1 R, RS.k2 R, RS.k3 R, RS.k4 R, RS.k5 R, RS.f8 R, RS.f9 R, RS.t65 R, RS.t102 R, RS.t68 R, RS.t70 R, RS.t72 R, RS.t74 R, RS.t76 R, RS.t78 R, st.2.1]
      · simp (disch := omega) only [p40_0, p40_1, p40_2, p40_5, p40_8, p40_9, p40_10, p40_11, p40_13, p40_14, p40_17, p40_20, p40_21, p40_24, p40_25, p40_28, p40_29, p40_32, p40_33, p40_34, p40_37, p40_40, p40_41, p40_42, p40_45, p40_48, p40_49, jwd_c, jwd_0, Nat.reduceLeDiff, Nat.reduceEqDiff, Nat.reduceAdd, Nat.reduceSub, Nat.reduceMul, Int.reduceAdd, Int.reduceSub, Int.reduceMul, Int.reduceNeg, Int.reduceEq, Int.reduceLT, Int.reduceLE, jq_ldi_i, jq_ldl_l, jq_lda_a, jq_inc_i, jq_gs_t, jq_gsb_t, jq_gb_t, jq_gr_2, jq_gr_4, jq_gw_2, jq_s_t, jq_b_t, jg_c, jg_n, js_c, js_n, jrm_c, jrm_n, j2_i, j2_l, j2_a, jq_c_i, jq_c_l, jq_c_0, jq_c_n, jwd_le, jw_c0, mS_I, mS_R, mS_J, mN_I, mN_R, mN_J, mR_I, mI_R, mJ_I, mJ_R, mI_J, mR_J, ↓reduceIte, decide_true, or_true, true_or, and_self, false_or, or_false, reduceCtorEq, Bool.false_eq_true, and_false, false_and, eq_self, true_and, and_true, zero_ne, ↓br_lt_t, ↓br_lt_f, ↓br_eq_t, ↓br_eq_f, ↓br_lz_t, ↓br_lz_f, ↓br_ez_t, ↓br_ez_f, ↓br_gz_t, ↓br_gz_f, jw_id, jin_t, jix_t, ↓ite_t, ↓ite_f, RS.a R, RS.r0 R, RS.h R, RS.r2 R, RS.l R, RS.s R, RS.k0 R, RS.k1 R, RS.k2 R, RS.k3 R, RS.k4 R, RS.k5 R, RS.f8 R, RS.f9 R, RS.t65 R, RS.t102 R, RS.t68 R, RS.t70 R, RS.t72 R, RS.t74 R, RS.t76 R, RS.t78 R, st.2.1]
theorem l_steps (R : RS w T n cnt p H N K C) (h5 : H 0 5 = 0) : ∃ u, Fr rdP w u ∧ ((∃ q, (gStp T n 9 p H).1 = .inl q ∧ rn 40 (0, [(0, jvr 101)], [], w) = some (some (.inl 1), u) ∧ RS u T n cnt q (gStp T n 9 p H).2 N K C) ∨ (∃ x, (gStp T n 9 p H).1 = .inr x ∧ rn 40 (0, [(0, jvr 101)], [], w) = some (some (.inl 0), u) ∧ RFx u T n cnt x)) := by
  have eG : gStp T n 9 p H = (match pL T n H p with | .inr x => (.inr x, H) | .inl q => if tK T n q = 4 then gStp T n 8 (tE T n q) (pLH T n H p) else (.inl q, pLH T n H p)) := rfl
  obtain ⟨u2, f2, ⟨q2, g2, e2, R2⟩ | ⟨x, g2, e2, R2⟩⟩ := l_listed1 R (by omega)
  case inr =>
    refine ⟨u2, f2, Or.inr ⟨x, by rw [eG, g2], ?_, R2⟩⟩
    simp (disch := omega) only [p40_0, p40_1, p40_2, p40_5, p40_8, p40_9, p40_10, p40_11, p40_13, p40_14, p40_17, p40_20, p40_21, p40_24, p40_25, p40_28, p40_29, p40_32, p40_33, p40_34, p40_37, p40_40, p40_41, p40_42, p40_45, p40_48, p40_49, jwd_c, jwd_0, Nat.reduceLeDiff, Nat.reduceEqDiff, Nat.reduceAdd, Nat.reduceSub, Nat.reduceMul, Int.reduceAdd, Int.reduceSub, Int.reduceMul, Int.reduceNeg, Int.reduceEq, Int.reduceLT, Int.reduceLE, jq_ldi_i, jq_ldl_l, jq_lda_a, jq_inc_i, jq_gs_t, jq_gsb_t, jq_gb_t, jq_gr_2, jq_gr_4, jq_gw_2, jq_s_t, jq_b_t, jg_c, jg_n, js_c, js_n, jrm_c, jrm_n, j2_i, j2_l, j2_a, jq_c_i, jq_c_l, jq_c_0, jq_c_n, jwd_le, jw_c0, mS_I, mS_R, mS_J, mN_I, mN_R, mN_J, mR_I, mI_R, mJ_I, mJ_R, mI_J, mR_J, ↓reduceIte, decide_true, or_true, true_or, and_self, false_or, or_false, reduceCtorEq, Bool.false_eq_true, and_false, false_and, eq_self, true_and, and_true, zero_ne, ↓br_lt_t, ↓br_lt_f, ↓br_eq_t, ↓br_eq_f, ↓br_lz_t, ↓br_lz_f, ↓br_ez_t, ↓br_ez_f, ↓br_gz_t, ↓br_gz_f, jw_id, jin_t, jix_t, ↓ite_t, ↓ite_f, RS.a R, RS.r0 R, RS.h R, RS.r2 R, RS.l R, RS.s R, RS.k0 R, RS.k1 R, RS.k2 R, RS.k3 R, RS.k4 R, RS.k5 R, RS.f8 R, RS.f9 R, RS.t65 R, RS.t102 R, RS.t68 R, RS.t70 R, RS.t72 R, RS.t74 R, RS.t76 R, RS.t78 R, e2]
  have h5' : pLH T n H p 0 5 = H 0 5 + 1 := uH_s
  have i3 := steps_lp 8 q2 0 (pLH T n H p) u2 R2 (by rw [h5']; omega) (by rw [h5']; omega) (by omega) (by omega)
  have st0 : rn 40 (0, [(0, jvr 101)], [], w) = rn 40 (12, [(0, jvr 101), (1, .inl 0)], [], u2) := by
    simp (disch := omega) only [p40_0, p40_1, p40_2, p40_5, p40_8, p40_9, p40_10, p40_11, p40_13, p40_14, p40_17, p40_20, p40_21, p40_24, p40_25, p40_28, p40_29, p40_32, p40_33, p40_34, p40_37, p40_40, p40_41, p40_42, p40_45, p40_48, p40_49, jwd_c, jwd_0, Nat.reduceLeDiff, Nat.reduceEqDiff, Nat.reduceAdd, Nat.reduceSub, Nat.reduceMul, Int.reduceAdd, Int.reduceSub, Int.reduceMul, Int.reduceNeg, Int.reduceEq, Int.reduceLT, Int.reduceLE, jq_ldi_i, jq_ldl_l, jq_lda_a, jq_inc_i, jq_gs_t, jq_gsb_t, jq_gb_t, jq_gr_2, jq_gr_4, jq_gw_2, jq_s_t, jq_b_t, jg_c, jg_n, js_c, js_n, jrm_c, jrm_n, j2_i, j2_l, j2_a, jq_c_i, jq_c_l, jq_c_0, jq_c_n, jwd_le, jw_c0, mS_I, mS_R, mS_J, mN_I, mN_R, mN_J, mR_I, mI_R, mJ_I, mJ_R, mI_J, mR_J, ↓reduceIte, decide_true, or_true, true_or, and_self, false_or, or_false, reduceCtorEq, Bool.false_eq_true, and_false, false_and, eq_self, true_and, and_true, zero_ne, ↓br_lt_t, ↓br_lt_f, ↓br_eq_t, ↓br_eq_f, ↓br_lz_t, ↓br_lz_f, ↓br_ez_t, ↓br_ez_f, ↓br_gz_t, ↓br_gz_f, jw_id, jin_t, jix_t, ↓ite_t, ↓ite_f, RS.a R, RS.r0 R, RS.h R, RS.r2 R, RS.l R, RS.s R, RS.k0 R, RS.k1 R, RS.k2 R, RS.k3 R, RS.k4 R, RS.k5 R, RS.f8 R, RS.f9 R, RS.t65 R, RS.t102 R, RS.t68 R, RS.t70 R, RS.t72 R, RS.t74 R, RS.t76 R, RS.t78 R, e2]
  rw [st0]
  by_cases k5 : tK T n q2 = 4
  · obtain ⟨u3, f3, h3⟩ := i3.1 k5
    refine ⟨u3, f2.tr f3, ?_⟩
    have eq : gStp T n 9 p H = gStp T n 8 (tE T n q2) (pLH T n H p) := by
      rw [eG, g2]
      exact if_pos k5
    rw [eq]
    exact h3
  · have h3 := i3.2 k5
    have eq : gStp T n 9 p H = (.inl q2, pLH T n H p) := by
      rw [eG, g2]
      exact if_neg k5
    rw [eq]
    exact ⟨u2, f2, Or.inl ⟨q2, rfl, h3, R2⟩⟩
theorem leads_lp : ∀ (m p : Nat) (i : Int) (H : Nat → Nat → Int) (w : jmW), RS w T n cnt p H N K C → 0 ≤ H 0 6 → H 0 6 + m = 13 → 0 ≤ i → i ≤ p → (tK T n p = 4 → (∃ u, Fr rdP w u ∧ ((∃ q, (gWay T n m (tE T n p) H).1 = .inl q ∧ rn 42 (44, [(0, jvr 101), (1, .inl i)], [], w) = some (some (.inl 1), u) ∧ RS u T n cnt q (gWay T n m (tE T n p) H).2 N K C) ∨ (∃ x, (gWay T n m (tE T n p) H).1 = .inr x ∧ rn 42 (44, [(0, jvr 101), (1, .inl i)], [], w) = some (some (.inl 0), u) ∧ RFx u T n cnt x)))) ∧ (tK T n p ≠ 4 → rn 42 (44, [(0, jvr 101), (1, .inl i)], [], w) = some (some (.inl 1), w)) := by
  intro m
  induction m with
  | zero =>
    intro p i H w R h5 h9 i1 i2
    have := R.g72.2.2.2.2.2.2.1
    omega
  | succ m ih =>
    intro p i H w R h5 h9 i1 i2
    have st := R.st
    have hl := R.l
    have hc := R.1.2.2.2.2.2.2.1
    have hc2 := R.1.2.2.2.2.2.1.2.2.2.2.2.2.1
    have kb := tk_bd (T := T) (n := n) p
    have sb := ts_bd (T := T) R.pn
    have tb := tke_bd (T := T) R.pn
    constructor
    · intro k4
      have hs : tS T n p < n := by
        by_cases z : n ≤ tS T n p
        · unfold tK at k4
          rw [if_pos z] at k4
          omega
        · omega
      obtain ⟨u1, e1, R1, f1⟩ := R.over
      have eG : gWay T n (m + 1) (tE T n p) H = (match pM T n H (tE T n p) with | .inr x => (.inr x, H) | .inl q => if tK T n q = 4 then gWay T n m (tE T n q) (pMH T n H (tE T n p)) else (.inl q, pMH T n H (tE T n p))) := rfl
      obtain ⟨u2, f2, ⟨q2, g2, e2, R2⟩ | ⟨x, g2, e2, R2⟩⟩ := l_listed0 R1 h5
      case inr =>
        refine ⟨u2, f1.tr f2, Or.inr ⟨x, by rw [eG, g2], ?_, R2⟩⟩
        rw [p42_44]
        simp (disch := omega) only [p42_0, p42_1, p42_3, p42_6, p42_9, p42_10, p42_11, p42_12, p42_15, p42_16, p42_19, p42_22, p42_23, p42_26, p42_27, p42_30, p42_31, p42_32, p42_33, p42_34, p42_37, p42_40, p42_41, p42_42, p42_43, p42_45, p42_46, p42_49, p42_52, p42_53, p42_56, p42_57, p42_60, p42_61, p42_64, p42_65, p42_66, p42_69, p42_72, p42_73, p42_74, p42_77, p42_80, p42_81, jwd_c, jwd_0, Nat.reduceLeDiff, Nat.reduceEqDiff, Nat.reduceAdd, Nat.reduceSub, Nat.reduceMul, Int.reduceAdd, Int.reduceSub, Int.reduceMul, Int.reduceNeg, Int.reduceEq, Int.reduceLT, Int.reduceLE, jq_ldi_i, jq_ldl_l, jq_lda_a, jq_inc_i, jq_gs_t, jq_gsb_t, jq_gb_t, jq_gr_2, jq_gr_4, jq_gw_2, jq_s_t, jq_b_t, jg_c, jg_n, js_c, js_n, jrm_c, jrm_n, j2_i, j2_l, j2_a, jq_c_i, jq_c_l, jq_c_0, jq_c_n, jwd_le, jw_c0, mS_I, mS_R, mS_J, mN_I, mN_R, mN_J, mR_I, mI_R, mJ_I, mJ_R, mI_J, mR_J, ↓reduceIte, decide_true, or_true, true_or, and_self, false_or, or_false, reduceCtorEq, Bool.false_eq_true, and_false, false_and, eq_self, true_and, and_true, zero_ne, ↓br_lt_t, ↓br_lt_f, ↓br_eq_t, ↓br_eq_f, ↓br_lz_t, ↓br_lz_f, ↓br_ez_t, ↓br_ez_f, ↓br_gz_t, ↓br_gz_f, jw_id, jin_t, jix_t, ↓ite_t, ↓ite_f, RS.a R, RS.r0 R, RS.h R, RS.r2 R, RS.l R, RS.s R, RS.k0 R, RS.k1 R, RS.k2 R, RS.k3 R, RS.k4 R, RS.k5 R, RS.f8 R, RS.f9 R, RS.t65 R, RS.t102 R, RS.t68 R, RS.t70 R, RS.t72 R, RS.t74 R, RS.t76 R, RS.t78 R, RS.a R1, RS.r0 R1, RS.h R1, RS.r2 R1, RS.l R1, RS.s R1, RS.k0 R1, RS.k1 R1, RS.k2 R1, RS.k3 R1, RS.k4 R1, RS.k5 R1, RS.f8 R1, RS.f9 R1, RS.t65 R1, RS.t102 R1, RS.t68 R1, RS.t70 R1, RS.t72 R1, RS.t74 R1, RS.t76 R1, RS.t78 R1, st.2.1, e1, e2]
      have pq := pM_q g2
      have h5' : pMH T n H (tE T n p) 0 6 = H 0 6 + 1 := uH_s
      have tb2 := tke_bd (T := T) R1.pn
      have sb2 := ts_bd (T := T) R1.pn
      have kne : tK T n (tE T n p) ≠ 5 := by omega
      have tb3 := tb2.2.2 kne
      have i3 := ih q2 (i + 1) (pMH T n H (tE T n p)) u2 R2 (by rw [h5']; omega) (by rw [h5']; omega) (by omega) (by omega)
      have st0 : rn 42 (44, [(0, jvr 101), (1, .inl i)], [], w) = rn 42 (44, [(0, jvr 101), (1, .inl (i + 1))], [], u2) := by
        rw [p42_44]
        simp (disch := omega) only [p42_0, p42_1, p42_3, p42_6, p42_9, p42_10, p42_11, p42_12, p42_15, p42_16, p42_19, p42_22, p42_23, p42_26, p42_27, p42_30, p42_31, p42_32, p42_33, p42_34, p42_37, p42_40, p42_41, p42_42, p42_43, p42_45, p42_46, p42_49, p42_52, p42_53, p42_56, p42_57, p42_60, p42_61, p42_64, p42_65, p42_66, p42_69, p42_72, p42_73, p42_74, p42_77, p42_80, p42_81, jwd_c, jwd_0, Nat.reduceLeDiff, Nat.reduceEqDiff, Nat.reduceAdd, Nat.reduceSub, Nat.reduceMul, Int.reduceAdd, Int.reduceSub, Int.reduceMul, Int.reduceNeg, Int.reduceEq, Int.reduceLT, Int.reduceLE, jq_ldi_i, jq_ldl_l, jq_lda_a, jq_inc_i, jq_gs_t, jq_gsb_t, jq_gb_t, jq_gr_2, jq_gr_4, jq_gw_2, jq_s_t, jq_b_t, jg_c, jg_n, js_c, js_n, jrm_c, jrm_n, j2_i, j2_l, j2_a, jq_c_i, jq_c_l, jq_c_0, jq_c_n, jwd_le, jw_c0, mS_I, mS_R, mS_J, mN_I, mN_R, mN_J, mR_I, mI_R, mJ_I, mJ_R, mI_J, mR_J, ↓reduceIte, decide_true, or_true, true_or, and_self, false_or, or_false, reduceCtorEq, Bool.false_eq_true, and_false, false_and, eq_self, true_and, and_true, zero_ne, ↓br_lt_t, ↓br_lt_f, ↓br_eq_t, ↓br_eq_f, ↓br_lz_t, ↓br_lz_f, ↓br_ez_t, ↓br_ez_f, ↓br_gz_t, ↓br_gz_f, jw_id, jin_t, jix_t, ↓ite_t, ↓ite_f, RS.a R, RS.r0 R, RS.h R, RS.r2 R, RS.l R, RS.s R, RS.k0 R, RS.k1 R, RS.k2 R, RS.k3 R, RS.k4 R, RS.k5 R, RS.f8 R, RS.f9 R, RS.t65 R, RS.t102 R, RS.t68 R, RS.t70 R, RS.t72 R, RS.t74 R, RS.t76 R, RS.t78 R, RS.a R1, RS.r0 R1, RS.h R1, RS.r2 R1, RS.l R1, RS.s R1, RS.k0 R1, RS.k1 R1, RS.k2 R1, RS.k3 R1, RS.k4 R1, RS.k5 R1, RS.f8 R1, RS.f9 R1, RS.t65 R1, RS.t102 R1, RS.t68 R1, RS.t70 R1, RS.t72 R1, RS.t74 R1, RS.t76 R1, RS.t78 R1, st.2.1, e1, e2]
      by_cases k5 : tK T n q2 = 4
      · obtain ⟨u3, f3, h3⟩ := i3.1 k5
        refine ⟨u3, (f1.tr f2).tr f3, ?_⟩
        have eq : gWay T n (m + 1) (tE T n p) H = gWay T n m (tE T n q2) (pMH T n H (tE T n p)) := by
          rw [eG, g2]
          exact if_pos k5
        rw [eq, st0]
        exact h3
      · have h3 := i3.2 k5
        have eq : gWay T n (m + 1) (tE T n p) H = (.inl q2, pMH T n H (tE T n p)) := by
          rw [eG, g2]
          exact if_neg k5
        rw [eq, st0]
        exact ⟨u2, f1.tr f2, Or.inl ⟨q2, rfl, h3, R2⟩⟩
    · intro k4
      rw [p42_44]
      by_cases z : i < n
      · simp (disch := omega) only [p42_0, p42_1, p42_3, p42_6, p42_9, p42_10, p42_11, p42_12, p42_15, p42_16, p42_19, p42_22, p42_23, p42_26, p42_27, p42_30, p42_31, p42_32, p42_33, p42_34, p42_37, p42_40, p42_41, p42_42, p42_43, p42_45, p42_46, p42_49, p42_52, p42_53, p42_56, p42_57, p42_60, p42_61, p42_64, p42_65, p42_66, p42_69, p42_72, p42_73, p42_74, p42_77, p42_80, p42_81, jwd_c, jwd_0, Nat.reduceLeDiff, Nat.reduceEqDiff, Nat.reduceAdd, Nat.reduceSub, Nat.reduceMul, Int.reduceAdd, Int.reduceSub, Int.reduceMul, Int.reduceNeg, Int.reduceEq, Int.reduceLT, Int.reduceLE, jq_ldi_i, jq_ldl_l, jq_lda_a, jq_inc_i, jq_gs_t, jq_gsb_t, jq_gb_t, jq_gr_2, jq_gr_4, jq_gw_2, jq_s_t, jq_b_t, jg_c, jg_n, js_c, js_n, jrm_c, jrm_n, j2_i, j2_l, j2_a, jq_c_i, jq_c_l, jq_c_0, jq_c_n, jwd_le, jw_c0, mS_I, mS_R, mS_J, mN_I, mN_R, mN_J, mR_I, mI_R, mJ_I, mJ_R, mI_J, mR_J, ↓reduceIte, decide_true, or_true, true_or, and_self, false_or, or_false, reduceCtorEq, Bool.false_eq_true, and_false, false_and, eq_self, true_and, and_true, zero_ne, ↓br_lt_t, ↓br_lt_f, ↓br_eq_t, ↓br_eq_f, ↓br_lz_t, ↓br_lz_f, ↓br_ez_t, ↓br_ez_f, ↓br_gz_t, ↓br_gz_f, jw_id, jin_t, jix_t, ↓ite_t, ↓ite_f, RS.a R, RS.r0 R, RS.h R, RS.r2 R, RS.l R, RS.s R, RS.k0 R, RS.k1 R, RS.k2 R, RS.k3 R, RS.k4 R, RS.k5 R, RS.f8 R, RS.f9 R, RS.t65 R, RS.t102 R, RS.t68 R, RS.t70 R, RS.t72 R, RS.t74 R, RS.t76 R, RS.t78 R, st.2.1]
      · simp (disch := omega) only [p42_0, p42_1, p42_3, p42_6, p42_9, p42_10, p42_11, p42_12, p42_15, p42_16, p42_19, p42_22, p42_23, p42_26, p42_27, p42_30, p42_31, p42_32, p42_33, p42_34, p42_37, p42_40, p42_41, p42_42, p42_43, p42_45, p42_46, p42_49, p42_52, p42_53, p42_56, p42_57, p42_60, p42_61, p42_64, p42_65, p42_66, p42_69, p42_72, p42_73, p42_74, p42_77, p42_80, p42_81, jwd_c, jwd_0, Nat.reduceLeDiff, Nat.reduceEqDiff, Nat.reduceAdd, Nat.reduceSub, Nat.reduceMul, Int.reduceAdd, Int.reduceSub, Int.reduceMul, Int.reduceNeg, Int.reduceEq, Int.reduceLT, Int.reduceLE, jq_ldi_i, jq_ldl_l, jq_lda_a, jq_inc_i, jq_gs_t, jq_gsb_t, jq_gb_t, jq_gr_2, jq_gr_4, jq_gw_2, jq_s_t, jq_b_t, jg_c, jg_n, js_c, js_n, jrm_c, jrm_n, j2_i, j2_l, j2_a, jq_c_i, jq_c_l, jq_c_0, jq_c_n, jwd_le, jw_c0, mS_I, mS_R, mS_J, mN_I, mN_R, mN_J, mR_I, mI_R, mJ_I, mJ_R, mI_J, mR_J, ↓reduceIte, decide_true, or_true, true_or, and_self, false_or, or_false, reduceCtorEq, Bool.false_eq_true, and_false, false_and, eq_self, true_and, and_true, zero_ne, ↓br_lt_t, ↓br_lt_f, ↓br_eq_t, ↓br_eq_f, ↓br_lz_t, ↓br_lz_f, ↓br_ez_t, ↓br_ez_f, ↓br_gz_t, ↓br_gz_f, jw_id, jin_t, jix_t, ↓ite_t, ↓ite_f, RS.a R, RS.r0 R, RS.h R, RS.r2 R, RS.l R, RS.s R, RS.k0 R, RS.k1 R, RS.k2 R, RS.k3 R, RS.k4 R, RS.k5 R, RS.f8 R, RS.f9 R, RS.t65 R, RS.t102 R, RS.t68 R, RS.t70 R, RS.t72 R, RS.t74 R, RS.t76 R, RS.t78 R, st.2.1]
theorem l_leads (R : RS w T n cnt p H N K C) (h6 : H 0 6 = 0) : ∃ u, Fr rdP w u ∧ ((∃ q, (qLd T n H p).1 = .inl q ∧ rn 42 (0, [(0, jvr 101)], [], w) = some (some (.inl 1), u) ∧ RS u T n cnt q (qLd T n H p).2 N K C) ∨ (∃ x, (qLd T n H p).1 = .inr x ∧ rn 42 (0, [(0, jvr 101)], [], w) = some (some (.inl 0), u) ∧ RFx u T n cnt x)) := by
  obtain ⟨u1, f1, ⟨q1, g1, e1, R1, v1⟩ | ⟨x, g1, e1, R1⟩⟩ := rs_one R ok_9
  case inr => exact ⟨u1, f1, Or.inr ⟨x, by unfold qLd; rw [g1], by simp (disch := omega) only [p42_0, p42_1, p42_3, p42_6, p42_9, p42_10, p42_11, p42_12, p42_15, p42_16, p42_19, p42_22, p42_23, p42_26, p42_27, p42_30, p42_31, p42_32, p42_33, p42_34, p42_37, p42_40, p42_41, p42_42, p42_43, p42_45, p42_46, p42_49, p42_52, p42_53, p42_56, p42_57, p42_60, p42_61, p42_64, p42_65, p42_66, p42_69, p42_72, p42_73, p42_74, p42_77, p42_80, p42_81, jwd_c, jwd_0, Nat.reduceLeDiff, Nat.reduceEqDiff, Nat.reduceAdd, Nat.reduceSub, Nat.reduceMul, Int.reduceAdd, Int.reduceSub, Int.reduceMul, Int.reduceNeg, Int.reduceEq, Int.reduceLT, Int.reduceLE, jq_ldi_i, jq_ldl_l, jq_lda_a, jq_inc_i, jq_gs_t, jq_gsb_t, jq_gb_t, jq_gr_2, jq_gr_4, jq_gw_2, jq_s_t, jq_b_t, jg_c, jg_n, js_c, js_n, jrm_c, jrm_n, j2_i, j2_l, j2_a, jq_c_i, jq_c_l, jq_c_0, jq_c_n, jwd_le, jw_c0, mS_I, mS_R, mS_J, mN_I, mN_R, mN_J, mR_I, mI_R, mJ_I, mJ_R, mI_J, mR_J, ↓reduceIte, decide_true, or_true, true_or, and_self, false_or, or_false, reduceCtorEq, Bool.false_eq_true, and_false, false_and, eq_self, true_and, and_true, zero_ne, ↓br_lt_t, ↓br_lt_f, ↓br_eq_t, ↓br_eq_f, ↓br_lz_t, ↓br_lz_f, ↓br_ez_t, ↓br_ez_f, ↓br_gz_t, ↓br_gz_f, jw_id, jin_t, jix_t, ↓ite_t, ↓ite_f, RS.a R, RS.r0 R, RS.h R, RS.r2 R, RS.l R, RS.s R, RS.k0 R, RS.k1 R, RS.k2 R, RS.k3 R, RS.k4 R, RS.k5 R, RS.f8 R, RS.f9 R, RS.t65 R, RS.t102 R, RS.t68 R, RS.t70 R, RS.t72 R, RS.t74 R, RS.t76 R, RS.t78 R, e1], R1⟩⟩
  have b6 := wi_bd (cs wLd) (tW T n p) 0 (by omega)
  have l6 : ((cs wLd).length : Int) = 6 := rfl
  have pi6 : pI T n (cs wLd) (.inl p) = if tK T n p = 1 then gWi (cs wLd) (tW T n p) 0 else -1 := rfl
  have k6 : -1 ≤ pI T n (cs wLd) (.inl p) ∧ pI T n (cs wLd) (.inl p) ≤ 5 := by
    rw [pi6]
    split <;> omega
  have eQ : qLd T n H p = if pI T n (cs wLd) (.inl p) = 5 then gWay T n 13 q1 (uH H 0 7 5) else (.inl q1, uH H 0 7 (pI T n (cs wLd) (.inl p))) := by
    unfold qLd
    rw [g1]
  have R2 := R1.set (k := 15) (i := 7) (v := pI T n (cs wLd) (.inl p)) (by omega)
  have w8 : mI (setI u1 67 15 (pI T n (cs wLd) (.inl p))) 101 8 = pI T n (cs wLd) (.inl p) := by rw [mI_nb (by omega)]; exact v1
  rw [eQ]
  by_cases z : pI T n (cs wLd) (.inl p) = 5
  · rw [if_pos z]
    rw [z] at R2 v1 w8
    have h6' : uH H 0 7 5 0 6 = 0 := by rw [uH_n (Or.inr (by omega))]; exact h6
    have eG : gWay T n 13 q1 (uH H 0 7 5) = (match pM T n (uH H 0 7 5) q1 with | .inr x => (.inr x, uH H 0 7 5) | .inl q => if tK T n q = 4 then gWay T n 12 (tE T n q) (pMH T n (uH H 0 7 5) q1) else (.inl q, pMH T n (uH H 0 7 5) q1)) := rfl
    obtain ⟨u2, f2, ⟨q2, g2, e2, R3⟩ | ⟨x, g2, e2, R3⟩⟩ := l_listed0 R2 (by omega)
    case inr =>
      refine ⟨u2, (f1.tr rd67).tr f2, Or.inr ⟨x, by rw [eG, g2], ?_, R3⟩⟩
      simp (disch := omega) only [p42_0, p42_1, p42_3, p42_6, p42_9, p42_10, p42_11, p42_12, p42_15, p42_16, p42_19, p42_22, p42_23, p42_26, p42_27, p42_30, p42_31, p42_32, p42_33, p42_34, p42_37, p42_40, p42_41, p42_42, p42_43, p42_45, p42_46, p42_49, p42_52, p42_53, p42_56, p42_57, p42_60, p42_61, p42_64, p42_65, p42_66, p42_69, p42_72, p42_73, p42_74, p42_77, p42_80, p42_81, jwd_c, jwd_0, Nat.reduceLeDiff, Nat.reduceEqDiff, Nat.reduceAdd, Nat.reduceSub, Nat.reduceMul, Int.reduceAdd, Int.reduceSub, Int.reduceMul, Int.reduceNeg, Int.reduceEq, Int.reduceLT, Int.reduceLE, jq_ldi_i, jq_ldl_l, jq_lda_a, jq_inc_i, jq_gs_t, jq_gsb_t, jq_gb_t, jq_gr_2, jq_gr_4, jq_gw_2, jq_s_t, jq_b_t, jg_c, jg_n, js_c, js_n, jrm_c, jrm_n, j2_i, j2_l, j2_a, jq_c_i, jq_c_l, jq_c_0, jq_c_n, jwd_le, jw_c0, mS_I, mS_R, mS_J, mN_I, mN_R, mN_J, mR_I, mI_R, mJ_I, mJ_R, mI_J, mR_J, ↓reduceIte, decide_true, or_true, true_or, and_self, false_or, or_false, reduceCtorEq, Bool.false_eq_true, and_false, false_and, eq_self, true_and, and_true, zero_ne, ↓br_lt_t, ↓br_lt_f, ↓br_eq_t, ↓br_eq_f, ↓br_lz_t, ↓br_lz_f, ↓br_ez_t, ↓br_ez_f, ↓br_gz_t, ↓br_gz_f, jw_id, jin_t, jix_t, ↓ite_t, ↓ite_f, RS.a R, RS.r0 R, RS.h R, RS.r2 R, RS.l R, RS.s R, RS.k0 R, RS.k1 R, RS.k2 R, RS.k3 R, RS.k4 R, RS.k5 R, RS.f8 R, RS.f9 R, RS.t65 R, RS.t102 R, RS.t68 R, RS.t70 R, RS.t72 R, RS.t74 R, RS.t76 R, RS.t78 R, RS.a R1, RS.r0 R1, RS.h R1, RS.r2 R1, RS.l R1, RS.s R1, RS.k0 R1, RS.k1 R1, RS.k2 R1, RS.k3 R1, RS.k4 R1, RS.k5 R1, RS.f8 R1, RS.f9 R1, RS.t65 R1, RS.t102 R1, RS.t68 R1, RS.t70 R1, RS.t72 R1, RS.t74 R1, RS.t76 R1, RS.t78 R1, RS.a R2, RS.r0 R2, RS.h R2, RS.r2 R2, RS.l R2, RS.s R2, RS.k0 R2, RS.k1 R2, RS.k2 R2, RS.k3 R2, RS.k4 R2, RS.k5 R2, RS.f8 R2, RS.f9 R2, RS.t65 R2, RS.t102 R2, RS.t68 R2, RS.t70 R2, RS.t72 R2, RS.t74 R2, RS.t76 R2, RS.t78 R2, e1, v1, w8, e2]
    have h5' : pMH T n (uH H 0 7 5) q1 0 6 = uH H 0 7 5 0 6 + 1 := uH_s
    have i3 := leads_lp 12 q2 0 (pMH T n (uH H 0 7 5) q1) u2 R3 (by rw [h5']; omega) (by rw [h5']; omega) (by omega) (by omega)
    have st0 : rn 42 (0, [(0, jvr 101)], [], w) = rn 42 (44, [(0, jvr 101), (1, .inl 0)], [], u2) := by
      simp (disch := omega) only [p42_0, p42_1, p42_3, p42_6, p42_9, p42_10, p42_11, p42_12, p42_15, p42_16, p42_19, p42_22, p42_23, p42_26, p42_27, p42_30, p42_31, p42_32, p42_33, p42_34, p42_37, p42_40, p42_41, p42_42, p42_43, p42_45, p42_46, p42_49, p42_52, p42_53, p42_56, p42_57, p42_60, p42_61, p42_64, p42_65, p42_66, p42_69, p42_72, p42_73, p42_74, p42_77, p42_80, p42_81, jwd_c, jwd_0, Nat.reduceLeDiff, Nat.reduceEqDiff, Nat.reduceAdd, Nat.reduceSub, Nat.reduceMul, Int.reduceAdd, Int.reduceSub, Int.reduceMul, Int.reduceNeg, Int.reduceEq, Int.reduceLT, Int.reduceLE, jq_ldi_i, jq_ldl_l, jq_lda_a, jq_inc_i, jq_gs_t, jq_gsb_t, jq_gb_t, jq_gr_2, jq_gr_4, jq_gw_2, jq_s_t, jq_b_t, jg_c, jg_n, js_c, js_n, jrm_c, jrm_n, j2_i, j2_l, j2_a, jq_c_i, jq_c_l, jq_c_0, jq_c_n, jwd_le, jw_c0, mS_I, mS_R, mS_J, mN_I, mN_R, mN_J, mR_I, mI_R, mJ_I, mJ_R, mI_J, mR_J, ↓reduceIte, decide_true, or_true, true_or, and_self, false_or, or_false, reduceCtorEq, Bool.false_eq_true, and_false, false_and, eq_self, true_and, and_true, zero_ne, ↓br_lt_t, ↓br_lt_f, ↓br_eq_t, ↓br_eq_f, ↓br_lz_t, ↓br_lz_f, ↓br_ez_t, ↓br_ez_f, ↓br_gz_t, ↓br_gz_f, jw_id, jin_t, jix_t, ↓ite_t, ↓ite_f, RS.a R, RS.r0 R, RS.h R, RS.r2 R, RS.l R, RS.s R, RS.k0 R, RS.k1 R, RS.k2 R, RS.k3 R, RS.k4 R, RS.k5 R, RS.f8 R, RS.f9 R, RS.t65 R, RS.t102 R, RS.t68 R, RS.t70 R, RS.t72 R, RS.t74 R, RS.t76 R, RS.t78 R, RS.a R1, RS.r0 R1, RS.h R1, RS.r2 R1, RS.l R1, RS.s R1, RS.k0 R1, RS.k1 R1, RS.k2 R1, RS.k3 R1, RS.k4 R1, RS.k5 R1, RS.f8 R1, RS.f9 R1, RS.t65 R1, RS.t102 R1, RS.t68 R1, RS.t70 R1, RS.t72 R1, RS.t74 R1, RS.t76 R1, RS.t78 R1, RS.a R2, RS.r0 R2, RS.h R2, RS.r2 R2, RS.l R2, RS.s R2, RS.k0 R2, RS.k1 R2, RS.k2 R2, RS.k3 R2, RS.k4 R2, RS.k5 R2, RS.f8 R2, RS.f9 R2, RS.t65 R2, RS.t102 R2, RS.t68 R2, RS.t70 R2, RS.t72 R2, RS.t74 R2, RS.t76 R2, RS.t78 R2, e1, v1, w8, e2]
    rw [st0]
    have F2 := (f1.tr rd67).tr f2
    by_cases k5 : tK T n q2 = 4
    · obtain ⟨u3, f3, h3⟩ := i3.1 k5
      refine ⟨u3, F2.tr f3, ?_⟩
      have eq : gWay T n 13 q1 (uH H 0 7 5) = gWay T n 12 (tE T n q2) (pMH T n (uH H 0 7 5) q1) := by
        rw [eG, g2]
        exact if_pos k5
      rw [eq]
      exact h3
    · have h3 := i3.2 k5
      have eq : gWay T n 13 q1 (uH H 0 7 5) = (.inl q2, pMH T n (uH H 0 7 5) q1) := by
        rw [eG, g2]
        exact if_neg k5
      rw [eq]
      exact ⟨u2, F2, Or.inl ⟨q2, rfl, h3, R3⟩⟩
  · rw [if_neg z]
    refine ⟨_, f1.tr rd67, Or.inl ⟨q1, rfl, ?_, R2⟩⟩
    simp (disch := omega) only [p42_0, p42_1, p42_3, p42_6, p42_9, p42_10, p42_11, p42_12, p42_15, p42_16, p42_19, p42_22, p42_23, p42_26, p42_27, p42_30, p42_31, p42_32, p42_33, p42_34, p42_37, p42_40, p42_41, p42_42, p42_43, p42_45, p42_46, p42_49, p42_52, p42_53, p42_56, p42_57, p42_60, p42_61, p42_64, p42_65, p42_66, p42_69, p42_72, p42_73, p42_74, p42_77, p42_80, p42_81, jwd_c, jwd_0, Nat.reduceLeDiff, Nat.reduceEqDiff, Nat.reduceAdd, Nat.reduceSub, Nat.reduceMul, Int.reduceAdd, Int.reduceSub, Int.reduceMul, Int.reduceNeg, Int.reduceEq, Int.reduceLT, Int.reduceLE, jq_ldi_i, jq_ldl_l, jq_lda_a, jq_inc_i, jq_gs_t, jq_gsb_t, jq_gb_t, jq_gr_2, jq_gr_4, jq_gw_2, jq_s_t, jq_b_t, jg_c, jg_n, js_c, js_n, jrm_c, jrm_n, j2_i, j2_l, j2_a, jq_c_i, jq_c_l, jq_c_0, jq_c_n, jwd_le, jw_c0, mS_I, mS_R, mS_J, mN_I, mN_R, mN_J, mR_I, mI_R, mJ_I, mJ_R, mI_J, mR_J, ↓reduceIte, decide_true, or_true, true_or, and_self, false_or, or_false, reduceCtorEq, Bool.false_eq_true, and_false, false_and, eq_self, true_and, and_true, zero_ne, ↓br_lt_t, ↓br_lt_f, ↓br_eq_t, ↓br_eq_f, ↓br_lz_t, ↓br_lz_f, ↓br_ez_t, ↓br_ez_f, ↓br_gz_t, ↓br_gz_f, jw_id, jin_t, jix_t, ↓ite_t, ↓ite_f, RS.a R, RS.r0 R, RS.h R, RS.r2 R, RS.l R, RS.s R, RS.k0 R, RS.k1 R, RS.k2 R, RS.k3 R, RS.k4 R, RS.k5 R, RS.f8 R, RS.f9 R, RS.t65 R, RS.t102 R, RS.t68 R, RS.t70 R, RS.t72 R, RS.t74 R, RS.t76 R, RS.t78 R, RS.a R1, RS.r0 R1, RS.h R1, RS.r2 R1, RS.l R1, RS.s R1, RS.k0 R1, RS.k1 R1, RS.k2 R1, RS.k3 R1, RS.k4 R1, RS.k5 R1, RS.f8 R1, RS.f9 R1, RS.t65 R1, RS.t102 R1, RS.t68 R1, RS.t70 R1, RS.t72 R1, RS.t74 R1, RS.t76 R1, RS.t78 R1, RS.a R2, RS.r0 R2, RS.h R2, RS.r2 R2, RS.l R2, RS.s R2, RS.k0 R2, RS.k1 R2, RS.k2 R2, RS.k3 R2, RS.k4 R2, RS.k5 R2, RS.f8 R2, RS.f9 R2, RS.t65 R2, RS.t102 R2, RS.t68 R2, RS.t70 R2, RS.t72 R2, RS.t74 R2, RS.t76 R2, RS.t78 R2, e1, v1, w8]
end LINES2
