/-! The reader: a line, the lines; what a Hall holds while it is read. -/
def gLk (H : Nat → Nat → Int) (b : Int) : Int := if b = 1 ∨ H 0 0 < 1 then 6 else 0
/-- what is wrong with a line's coming here -/
def gFa (H : Nat → Nat → Int) (l : Int) : Int :=
  if l = 0 then (if 0 < H 0 0 then 3 else 0)
  else if l = 1 then (if 0 < H 0 0 ∧ H 0 2 = H 0 1 then 5 else gLk H 0)
  else if l = 2 then (if 0 ≤ H 0 10 then 3 else gLk H 0)
  else if l = 3 then (if 0 ≤ H 0 12 then 3 else gLk H 0)
  else if l = 4 then (if 0 < H 0 5 then 3 else gLk H 0)
  else if l = 5 then (if 0 ≤ H 0 7 then 3 else gLk H 0)
  else if l = 6 then (if H 0 3 = 4 then 5 else gLk H (if 0 ≤ H 0 13 ∨ H 0 2 ≠ H 0 1 then 1 else 0))
  else if l = 7 then (if H 0 4 = 8 then 5 else gLk H (if 0 ≤ H 0 13 then 1 else 0))
  else if l = 8 then (if 0 ≤ H 0 13 then 3 else gLk H (if H 0 2 ≠ H 0 1 ∨ H 0 4 < 1 then 1 else 0))
  else (if H 0 8 = 8 then 5 else gLk H 0)
def gH0 : Nat → Nat → Int := fun a b => if a = 0 ∧ b = 7 then -1 else if a = 0 ∧ (b = 10 ∨ b = 12 ∨ b = 13) then -2 else 0
section READP
variable (T : Nat → Int) (n : Nat)
def gLf (H : Nat → Nat → Int) (p : Nat) : Int := if pI T n (cs wLn) (.inl p) < 0 then 1 else gFa H (pI T n (cs wLn) (.inl p))
def qHH (H : Nat → Nat → Int) (p : Nat) : Nat → Nat → Int := uH (qhH T n H (.inl p)) 1 0 (pV T n 3 8 (qh1 T n (.inl p)) * pV T n 2 6 (qh3 T n (.inl p)))
def qTH (H : Nat → Nat → Int) (p : Nat) : Nat → Nat → Int := uH (qtH T n H (H 99) (H 0 3).toNat p) 99 (H 0 3).toNat (tW T n p)
/-- a line read from behind its first word on -/
def gRd (H : Nat → Nat → Int) (l : Int) (p : Nat) : gSg × (Nat → Nat → Int) :=
  if l = 0 then (qh8 T n (.inl p), qHH T n H p)
  else if l = 1 then (qRw T n (H 0 0) p, qRH T n H (H 0 2 * H 0 0).toNat p)
  else if l = 2 then (qb3 T n (H 0 0) (H 0 1) (.inl p), qbH T n H (.inl p))
  else if l = 3 then (pCn T n (H 0 0) (H 0 1) (.inl p), qmH T n H (.inl p))
  else if l = 4 then gStp T n 9 p H
  else if l = 5 then qLd T n H p
  else if l = 6 then (qt8 T n H (H 99) (H 0 3).toNat p, qTH T n H p)
  else if l = 7 then (qp5 T n (.inl p), qdH T n H (.inl p))
  else if l = 8 then (qs T n H p, qsH T n H p)
  else (qf4 T n H (.inl p), qfH T n H (.inl p))
def gLn (p : Nat) (H : Nat → Nat → Int) : gSg × (Nat → Nat → Int) := if gLf T n H p = 0 then gRd T n H (pI T n (cs wLn) (.inl p)) (tE T n p) else (.inr (gLf T n H p, (tS T n p : Int)), H)
/-- the whole text -/
def gRead : Nat → Nat → (Nat → Nat → Int) → gSg × (Nat → Nat → Int)
  | 0, p, H => (.inl p, H)
  | m + 1, p, H => match gLn T n p H with
    | (.inr x, H2) => (.inr x, H2)
    | (.inl q, H2) => if tK T n q = 5 then (if H2 0 5 < 1 ∨ H2 0 7 < 0 ∨ H2 0 13 < 0 then (.inr (6, (n : Int)), H2) else (.inl q, H2)) else if tK T n q = 3 then gRead m (tE T n q) H2 else (.inr (1, (tS T n q : Int)), H2)
end READP
/-- a Hall while it is read, its hall line told -/
def HJ (H : Nat → Nat → Int) : Prop := HW H ∧
  (0 ≤ H 0 2 ∧ H 0 2 ≤ H 0 1 ∧ 0 ≤ H 0 3 ∧ H 0 3 ≤ 4 ∧ 0 ≤ H 0 4 ∧ H 0 4 ≤ 8 ∧ 0 ≤ H 0 5 ∧ H 0 5 ≤ 8 ∧ 0 ≤ H 0 6 ∧ H 0 6 ≤ 12 ∧ -1 ≤ H 0 7 ∧ H 0 7 ≤ 5 ∧ 0 ≤ H 0 8 ∧ H 0 8 ≤ 8) ∧
  (-2 ≤ H 0 10 ∧ H 0 10 ≠ -1 ∧ H 0 10 < H 1 0 ∧ (0 ≤ H 0 10 → 1 ≤ H 0 11) ∧ 0 ≤ H 0 11 ∧ H 0 11 ≤ 9 ∧ -2 ≤ H 0 12 ∧ H 0 12 ≠ -1 ∧ H 0 12 < H 1 0 ∧ -2 ≤ H 0 13 ∧ H 0 13 ≠ -1 ∧ H 0 13 < H 1 0 ∧ 0 ≤ H 0 14 ∧ H 0 14 ≤ 3 ∧ (H 0 15 = 0 ∨ H 0 15 = 1) ∧ (H 0 16 = 0 ∨ H 0 16 = 1)) ∧
  (∀ c : Int, 0 ≤ c → c < H 1 0 → 0 ≤ H 17 c.toNat ∧ H 17 c.toNat ≤ 3) ∧
  (∀ t : Int, 0 ≤ t → t < H 0 3 → 0 ≤ H 18 t.toNat ∧ H 18 t.toNat < H 1 0 ∧ 1 ≤ H 19 t.toNat ∧ H 19 t.toNat ≤ 9 ∧ 0 ≤ H 20 t.toNat ∧ H 20 t.toNat ≤ 3 ∧ 1 ≤ H 21 t.toNat ∧ H 21 t.toNat ≤ 9 ∧ 0 ≤ H 22 t.toNat ∧ H 22 t.toNat ≤ 9 ∧ 0 ≤ H 23 t.toNat ∧ H 23 t.toNat ≤ 100) ∧
  (∀ i : Int, 0 ≤ i → i < H 0 4 → 0 ≤ H 24 i.toNat ∧ H 24 i.toNat ≤ 3 ∧ 1 ≤ H 25 i.toNat ∧ H 25 i.toNat ≤ 9 ∧ 0 ≤ H 26 i.toNat ∧ H 26 i.toNat ≤ 9) ∧
  (∀ i : Int, 0 ≤ i → i < H 0 5 → 0 ≤ H 27 i.toNat ∧ H 27 i.toNat ≤ 3) ∧
  (∀ i : Int, 0 ≤ i → i < H 0 6 → 0 ≤ H 28 i.toNat ∧ H 28 i.toNat ≤ 3) ∧
  (∀ i : Int, 0 ≤ i → i < H 0 8 → 0 ≤ H 29 i.toNat ∧ H 29 i.toNat ≤ 40 ∧ 0 ≤ H 30 i.toNat ∧ H 30 i.toNat < H 0 4 ∧ 0 ≤ H 31 i.toNat ∧ H 31 i.toNat < H 1 0) ∧
  (H 0 7 < 0 → H 0 6 = 0) ∧ (0 ≤ H 0 13 → 1 ≤ H 0 4 ∧ H 0 2 = H 0 1 ∧ HS H)
def HI (H : Nat → Nat → Int) : Prop := H = gH0 ∨ HJ H
section READB
variable {T : Nat → Int} {n : Nat} {H : Nat → Nat → Int}
theorem HJ.ok (h : HJ H) (h5 : 1 ≤ H 0 5) (h7 : 0 ≤ H 0 7) (h13 : 0 ≤ H 0 13) : HOK H ∧ HS H := by
  obtain ⟨a1, a2, a3, a4, a5, a6, a7, a8, a9, a10, a11⟩ := h
  obtain ⟨b1, b2, b3⟩ := a11 h13
  refine ⟨⟨a1, ⟨by omega, by omega, by omega, by omega, by omega, by omega, by omega, by omega, by omega, by omega, by omega, by omega⟩, ?_, a4, a5, a6, a7, a8, a9⟩, b3⟩
  obtain ⟨c1, c2, c3, c4, c5, c6, c7, c8, c9, c10, c11, c12, c13, c14, c15, c16⟩ := a3
  exact ⟨c1, c2, c3, c4, c5, c6, c7, c8, c9, h13, c12, c13, c14, c15, c16⟩
/-- the numbers that the reader asks -/
def HN (H : Nat → Nat → Int) : Prop := (H 0 0 = 0 ∨ (3 ≤ H 0 0 ∧ H 0 0 ≤ 8 ∧ 2 ≤ H 0 1 ∧ H 0 1 ≤ 6)) ∧ (0 ≤ H 0 2 ∧ H 0 2 ≤ H 0 1 ∧ H 0 1 ≤ 6) ∧ (0 ≤ H 0 3 ∧ H 0 3 ≤ 4 ∧ 0 ≤ H 0 4 ∧ H 0 4 ≤ 8 ∧ 0 ≤ H 0 5 ∧ H 0 5 ≤ 8 ∧ 0 ≤ H 0 6 ∧ H 0 6 ≤ 12 ∧ -1 ≤ H 0 7 ∧ H 0 7 ≤ 5 ∧ 0 ≤ H 0 8 ∧ H 0 8 ≤ 8) ∧ (-2 ≤ H 0 10 ∧ H 0 10 ≤ 48 ∧ -2 ≤ H 0 12 ∧ H 0 12 ≤ 48 ∧ -2 ≤ H 0 13 ∧ H 0 13 ≤ 48)
theorem HI.hn (h : HI H) : HN H := by
  rcases h with rfl | ⟨⟨k1, k2, k3, k4, k5, k6, k7⟩, a2, a3, -⟩
  · have e : ∀ k, gH0 0 k = if k = 7 then -1 else if k = 10 ∨ k = 12 ∨ k = 13 then -2 else 0 := fun k => by
      unfold gH0
      by_cases z : k = 7
      · rw [if_pos ⟨rfl, z⟩, if_pos z]
      · rw [if_neg (fun x => z x.2), if_neg z]
        by_cases y : k = 10 ∨ k = 12 ∨ k = 13
        · rw [if_pos ⟨rfl, y⟩, if_pos y]
        · rw [if_neg (fun x => y x.2), if_neg y]
    unfold HN
    rw [e 0, e 1, e 2, e 3, e 4, e 5, e 6, e 7, e 8, e 10, e 12, e 13]
    decide
  · exact ⟨Or.inr ⟨k2, k3, k4, k5⟩, ⟨a2.1, a2.2.1, k5⟩, a2.2.2, ⟨a3.1, by omega, a3.2.2.2.2.2.2.1, by omega, a3.2.2.2.2.2.2.2.2.2.1, by omega⟩⟩
theorem HI.j (h : HI H) (h0 : 1 ≤ H 0 0) : HJ H := by
  rcases h with rfl | h
  · have e : gH0 0 0 = 0 := rfl
    omega
  · exact h
end READB
section READC
variable {w u : jmW} {T : Nat → Int} {n cnt p : Nat} {H : Nat → Nat → Int} {N K : Nat} {C : Nat → Int}
theorem c_lack (R : RS w T n cnt p H N K C) (hn : HN H) {b : Int} (hb : b = 0 ∨ b = 1) : rn 29 (0, [(0, jvr 101), (1, .inl b)], [], w) = some (some (.inl (gLk H b)), w) := by
  obtain ⟨n1, n2, n3, n4⟩ := hn
  have f8 := R.f8
  unfold gLk
  rcases hb with rfl | rfl
  · by_cases z : H 0 0 < 1
    · rw [if_pos (Or.inr z)]
      simp (disch := omega) only [p29_0, p29_1, p29_4, p29_5, p29_8, p29_11, p29_12, p29_15, p29_17, p29_20, p29_21, jwd_c, jwd_0, Nat.reduceLeDiff, Nat.reduceEqDiff, Nat.reduceAdd, Nat.reduceSub, Nat.reduceMul, Int.reduceAdd, Int.reduceSub, Int.reduceMul, Int.reduceNeg, Int.reduceEq, Int.reduceLT, Int.reduceLE, jq_ldi_i, jq_ldl_l, jq_lda_a, jq_inc_i, jq_gs_t, jq_gsb_t, jq_gb_t, jq_gr_2, jq_gr_4, jq_gw_2, jq_s_t, jq_b_t, jg_c, jg_n, js_c, js_n, jrm_c, jrm_n, j2_i, j2_l, j2_a, jq_c_i, jq_c_l, jq_c_0, jq_c_n, jwd_le, jw_c0, mS_I, mS_R, mS_J, mN_I, mN_R, mN_J, mR_I, mI_R, mJ_I, mJ_R, mI_J, mR_J, ↓reduceIte, decide_true, or_true, true_or, and_self, false_or, or_false, reduceCtorEq, Bool.false_eq_true, and_false, false_and, eq_self, true_and, and_true, zero_ne, ↓br_lt_t, ↓br_lt_f, ↓br_eq_t, ↓br_eq_f, ↓br_lz_t, ↓br_lz_f, ↓br_ez_t, ↓br_ez_f, ↓br_gz_t, ↓br_gz_f, jw_id, jin_t, jix_t, ↓ite_t, ↓ite_f, RS.a R, RS.r0 R, RS.h R, RS.r2 R, RS.l R, RS.s R, RS.k0 R, RS.k1 R, RS.k2 R, RS.k3 R, RS.k4 R, RS.k5 R, RS.f8 R, RS.f9 R, RS.t65 R, RS.t102 R, RS.t68 R, RS.t70 R, RS.t72 R, RS.t74 R, RS.t76 R, RS.t78 R]
    · rw [if_neg (fun x => x.elim (fun y => by cases y) z)]
      simp (disch := omega) only [p29_0, p29_1, p29_4, p29_5, p29_8, p29_11, p29_12, p29_15, p29_17, p29_20, p29_21, jwd_c, jwd_0, Nat.reduceLeDiff, Nat.reduceEqDiff, Nat.reduceAdd, Nat.reduceSub, Nat.reduceMul, Int.reduceAdd, Int.reduceSub, Int.reduceMul, Int.reduceNeg, Int.reduceEq, Int.reduceLT, Int.reduceLE, jq_ldi_i, jq_ldl_l, jq_lda_a, jq_inc_i, jq_gs_t, jq_gsb_t, jq_gb_t, jq_gr_2, jq_gr_4, jq_gw_2, jq_s_t, jq_b_t, jg_c, jg_n, js_c, js_n, jrm_c, jrm_n, j2_i, j2_l, j2_a, jq_c_i, jq_c_l, jq_c_0, jq_c_n, jwd_le, jw_c0, mS_I, mS_R, mS_J, mN_I, mN_R, mN_J, mR_I, mI_R, mJ_I, mJ_R, mI_J, mR_J, ↓reduceIte, decide_true, or_true, true_or, and_self, false_or, or_false, reduceCtorEq, Bool.false_eq_true, and_false, false_and, eq_self, true_and, and_true, zero_ne, ↓br_lt_t, ↓br_lt_f, ↓br_eq_t, ↓br_eq_f, ↓br_lz_t, ↓br_lz_f, ↓br_ez_t, ↓br_ez_f, ↓br_gz_t, ↓br_gz_f, jw_id, jin_t, jix_t, ↓ite_t, ↓ite_f, RS.a R, RS.r0 R, RS.h R, RS.r2 R, RS.l R, RS.s R, RS.k0 R, RS.k1 R, RS.k2 R, RS.k3 R, RS.k4 R, RS.k5 R, RS.f8 R, RS.f9 R, RS.t65 R, RS.t102 R, RS.t68 R, RS.t70 R, RS.t72 R, RS.t74 R, RS.t76 R, RS.t78 R]
  · rw [if_pos (Or.inl rfl)]
    simp (disch := omega) only [p29_0, p29_1, p29_4, p29_5, p29_8, p29_11, p29_12, p29_15, p29_17, p29_20, p29_21, jwd_c, jwd_0, Nat.reduceLeDiff, Nat.reduceEqDiff, Nat.reduceAdd, Nat.reduceSub, Nat.reduceMul, Int.reduceAdd, Int.reduceSub, Int.reduceMul, Int.reduceNeg, Int.reduceEq, Int.reduceLT, Int.reduceLE, jq_ldi_i, jq_ldl_l, jq_lda_a, jq_inc_i, jq_gs_t, jq_gsb_t, jq_gb_t, jq_gr_2, jq_gr_4, jq_gw_2, jq_s_t, jq_b_t, jg_c, jg_n, js_c, js_n, jrm_c, jrm_n, j2_i, j2_l, j2_a, jq_c_i, jq_c_l, jq_c_0, jq_c_n, jwd_le, jw_c0, mS_I, mS_R, mS_J, mN_I, mN_R, mN_J, mR_I, mI_R, mJ_I, mJ_R, mI_J, mR_J, ↓reduceIte, decide_true, or_true, true_or, and_self, false_or, or_false, reduceCtorEq, Bool.false_eq_true, and_false, false_and, eq_self, true_and, and_true, zero_ne, ↓br_lt_t, ↓br_lt_f, ↓br_eq_t, ↓br_eq_f, ↓br_lz_t, ↓br_lz_f, ↓br_ez_t, ↓br_ez_f, ↓br_gz_t, ↓br_gz_f, jw_id, jin_t, jix_t, ↓ite_t, ↓ite_f, RS.a R, RS.r0 R, RS.h R, RS.r2 R, RS.l R, RS.s R, RS.k0 R, RS.k1 R, RS.k2 R, RS.k3 R, RS.k4 R, RS.k5 R, RS.f8 R, RS.f9 R, RS.t65 R, RS.t102 R, RS.t68 R, RS.t70 R, RS.t72 R, RS.t74 R, RS.t76 R, RS.t78 R]
theorem c_hasRows (R : RS w T n cnt p H (H 0 2 * H 0 0).toNat K C) (hn : HN H) : rn 28 (0, [(0, jvr 67)], [], w) = some (some (.inl (if 0 < H 0 0 ∧ H 0 2 = H 0 1 then 1 else 0)), w) := by
  obtain ⟨n1, n2, n3, n4⟩ := hn
  have f8 := R.f8
  have f9 := R.f9
  have ec := sg_count R.g68
  rcases n1 with n1 | n1
  · rw [if_neg (fun z => by omega)]
    simp (disch := omega) only [p28_0, p28_1, p28_4, p28_7, p28_8, p28_11, p28_14, p28_15, p28_18, p28_19, p28_22, p28_23, p28_26, p28_27, p28_30, p28_31, jwd_c, jwd_0, Nat.reduceLeDiff, Nat.reduceEqDiff, Nat.reduceAdd, Nat.reduceSub, Nat.reduceMul, Int.reduceAdd, Int.reduceSub, Int.reduceMul, Int.reduceNeg, Int.reduceEq, Int.reduceLT, Int.reduceLE, jq_ldi_i, jq_ldl_l, jq_lda_a, jq_inc_i, jq_gs_t, jq_gsb_t, jq_gb_t, jq_gr_2, jq_gr_4, jq_gw_2, jq_s_t, jq_b_t, jg_c, jg_n, js_c, js_n, jrm_c, jrm_n, j2_i, j2_l, j2_a, jq_c_i, jq_c_l, jq_c_0, jq_c_n, jwd_le, jw_c0, mS_I, mS_R, mS_J, mN_I, mN_R, mN_J, mR_I, mI_R, mJ_I, mJ_R, mI_J, mR_J, ↓reduceIte, decide_true, or_true, true_or, and_self, false_or, or_false, reduceCtorEq, Bool.false_eq_true, and_false, false_and, eq_self, true_and, and_true, zero_ne, ↓br_lt_t, ↓br_lt_f, ↓br_eq_t, ↓br_eq_f, ↓br_lz_t, ↓br_lz_f, ↓br_ez_t, ↓br_ez_f, ↓br_gz_t, ↓br_gz_f, jw_id, jin_t, jix_t, ↓ite_t, ↓ite_f, RS.a R, RS.r0 R, RS.h R, RS.r2 R, RS.l R, RS.s R, RS.k0 R, RS.k1 R, RS.k2 R, RS.k3 R, RS.k4 R, RS.k5 R, RS.f8 R, RS.f9 R, RS.t65 R, RS.t102 R, RS.t68 R, RS.t70 R, RS.t72 R, RS.t74 R, RS.t76 R, RS.t78 R, n1]
  · have hW := w6 n1.1 n1.2.1
    have hV : H 0 1 = 2 ∨ H 0 1 = 3 ∨ H 0 1 = 4 ∨ H 0 1 = 5 ∨ H 0 1 = 6 := by omega
    have key : 0 ≤ H 0 2 * H 0 0 ∧ H 0 2 * H 0 0 ≤ 48 ∧ 0 ≤ H 0 0 * H 0 1 ∧ H 0 0 * H 0 1 ≤ 48 ∧ (H 0 2 = H 0 1 → H 0 0 * H 0 1 ≤ H 0 2 * H 0 0) ∧ (H 0 2 ≠ H 0 1 → H 0 2 * H 0 0 < H 0 0 * H 0 1) := by
      clear ec
      generalize H 0 2 = r at *
      rcases hW with h | h | h | h | h | h <;> rcases hV with g | g | g | g | g <;> rw [h, g] <;> omega
    rw [show (((H 0 2 * H 0 0).toNat : Nat) : Int) = H 0 2 * H 0 0 by omega] at ec
    obtain ⟨y1, y2, y3, y4, y5, y6⟩ := key
    by_cases z : H 0 2 = H 0 1
    · have y5 := y5 z
      rw [if_pos ⟨by omega, z⟩]
      simp (disch := omega) only [p28_0, p28_1, p28_4, p28_7, p28_8, p28_11, p28_14, p28_15, p28_18, p28_19, p28_22, p28_23, p28_26, p28_27, p28_30, p28_31, jwd_c, jwd_0, Nat.reduceLeDiff, Nat.reduceEqDiff, Nat.reduceAdd, Nat.reduceSub, Nat.reduceMul, Int.reduceAdd, Int.reduceSub, Int.reduceMul, Int.reduceNeg, Int.reduceEq, Int.reduceLT, Int.reduceLE, jq_ldi_i, jq_ldl_l, jq_lda_a, jq_inc_i, jq_gs_t, jq_gsb_t, jq_gb_t, jq_gr_2, jq_gr_4, jq_gw_2, jq_s_t, jq_b_t, jg_c, jg_n, js_c, js_n, jrm_c, jrm_n, j2_i, j2_l, j2_a, jq_c_i, jq_c_l, jq_c_0, jq_c_n, jwd_le, jw_c0, mS_I, mS_R, mS_J, mN_I, mN_R, mN_J, mR_I, mI_R, mJ_I, mJ_R, mI_J, mR_J, ↓reduceIte, decide_true, or_true, true_or, and_self, false_or, or_false, reduceCtorEq, Bool.false_eq_true, and_false, false_and, eq_self, true_and, and_true, zero_ne, ↓br_lt_t, ↓br_lt_f, ↓br_eq_t, ↓br_eq_f, ↓br_lz_t, ↓br_lz_f, ↓br_ez_t, ↓br_ez_f, ↓br_gz_t, ↓br_gz_f, jw_id, jin_t, jix_t, ↓ite_t, ↓ite_f, RS.a R, RS.r0 R, RS.h R, RS.r2 R, RS.l R, RS.s R, RS.k0 R, RS.k1 R, RS.k2 R, RS.k3 R, RS.k4 R, RS.k5 R, RS.f8 R, RS.f9 R, RS.t65 R, RS.t102 R, RS.t68 R, RS.t70 R, RS.t72 R, RS.t74 R, RS.t76 R, RS.t78 R, ec]
    · have y6 := y6 z
      rw [if_neg (fun x => z x.2)]
      simp (disch := omega) only [p28_0, p28_1, p28_4, p28_7, p28_8, p28_11, p28_14, p28_15, p28_18, p28_19, p28_22, p28_23, p28_26, p28_27, p28_30, p28_31, jwd_c, jwd_0, Nat.reduceLeDiff, Nat.reduceEqDiff, Nat.reduceAdd, Nat.reduceSub, Nat.reduceMul, Int.reduceAdd, Int.reduceSub, Int.reduceMul, Int.reduceNeg, Int.reduceEq, Int.reduceLT, Int.reduceLE, jq_ldi_i, jq_ldl_l, jq_lda_a, jq_inc_i, jq_gs_t, jq_gsb_t, jq_gb_t, jq_gr_2, jq_gr_4, jq_gw_2, jq_s_t, jq_b_t, jg_c, jg_n, js_c, js_n, jrm_c, jrm_n, j2_i, j2_l, j2_a, jq_c_i, jq_c_l, jq_c_0, jq_c_n, jwd_le, jw_c0, mS_I, mS_R, mS_J, mN_I, mN_R, mN_J, mR_I, mI_R, mJ_I, mJ_R, mI_J, mR_J, ↓reduceIte, decide_true, or_true, true_or, and_self, false_or, or_false, reduceCtorEq, Bool.false_eq_true, and_false, false_and, eq_self, true_and, and_true, zero_ne, ↓br_lt_t, ↓br_lt_f, ↓br_eq_t, ↓br_eq_f, ↓br_lz_t, ↓br_lz_f, ↓br_ez_t, ↓br_ez_f, ↓br_gz_t, ↓br_gz_f, jw_id, jin_t, jix_t, ↓ite_t, ↓ite_f, RS.a R, RS.r0 R, RS.h R, RS.r2 R, RS.l R, RS.s R, RS.k0 R, RS.k1 R, RS.k2 R, RS.k3 R, RS.k4 R, RS.k5 R, RS.f8 R, RS.f9 R, RS.t65 R, RS.t102 R, RS.t68 R, RS.t70 R, RS.t72 R, RS.t74 R, RS.t76 R, RS.t78 R, ec]
end READC
