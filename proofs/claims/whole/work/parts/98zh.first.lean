/-! The law's first steps: both are made. -/
section FIRST
variable {w0 w u : jmW} {L : Nat} {xs : Nat → Int} {P : jmF → Prop}
theorem TU.gw {Q : Nat → Prop} (h : TU w) (x : Gw Q w u) (hQ : ¬ Q 1) : TU u := by
  unfold TU at h ⊢
  rw [x.s (b := 1) (by omega), x.i (b := 1) (by omega) hQ]
  exact h
theorem SX.gw {Q : Nat → Prop} (h : SX w) (x : Gw Q w u) : SX u := fun k hk => by
  rw [x.s (b := 2 + k) (by omega)]
  exact h k hk
theorem M0_MO (m1 : mS u 238 = (1, 9, 0)) (m2 : ∀ i k sh, LMm[i]? = some (k, sh) → mS u (238 + 1 + i) = sh ∧ mR u 238 k = some (238 + 1 + i)) : MO u :=
  ⟨m1, (m2 0 5 _ rfl).1, (m2 1 16 _ rfl).1, (m2 2 18 _ rfl).1, (m2 3 19 _ rfl).1, (m2 4 20 _ rfl).1, (m2 5 21 _ rfl).1, (m2 6 24 _ rfl).1, (m2 7 25 _ rfl).1, (m2 8 28 _ rfl).1, (m2 9 29 _ rfl).1, (m2 10 34 _ rfl).1, (m2 11 35 _ rfl).1, (m2 12 36 _ rfl).1,
    (m2 0 5 _ rfl).2, (m2 1 16 _ rfl).2, (m2 2 18 _ rfl).2, (m2 3 19 _ rfl).2, (m2 4 20 _ rfl).2, (m2 5 21 _ rfl).2, (m2 6 24 _ rfl).2, (m2 7 25 _ rfl).2, (m2 8 28 _ rfl).2, (m2 9 29 _ rfl).2, (m2 10 34 _ rfl).2, (m2 11 35 _ rfl).2, (m2 12 36 _ rfl).2⟩
theorem lp_first (hN : mN w0 = 0) (hK : mK w0 = 0) (h0 : mS w0 0 = (4, 0, L)) (hI : mI w0 0 = xs) (hT : TU w0) (hX : SX w0) (hP : ∀ w, LI L 0 xs w → P (23, lvs (6 * ((0 : Nat) : Int)) [], [], w)) : jto P (0, [(0, jvr 0)], [], w0) := by
  obtain ⟨u1, e1, ⟨s64, r0, r1, r2, r3, r4, r5, r6, r7, r8, r9, r10⟩, ⟨i11, i12, i13, i14⟩, g65, g67, g84, ⟨q1, q2, q3, q4, q5⟩, g104, g111, ⟨f1, f2, f3, f4, f5, f6, f7, f8, f9, f10, f11, f12, f13, f14⟩, ⟨c136, k136⟩, ⟨c208, k208⟩, ⟨o1, o2, o3, o4, o5⟩, g236, G1, n1, k1⟩ := mk_S0 (w := w0) (P := fun _ => False) (a := 64) (by omega)
  obtain ⟨u2, e2, ⟨m1, m2, m3, m4⟩, G2, n2, k2⟩ := mk_M0 (w := u1) (P := fun _ => False) (b := 238) (by omega)
  have nn1 : mN u1 = 174 := by omega
  have nn2 : mN u2 = 188 := by omega
  obtain ⟨w3, hw3⟩ : ∃ w3, w3 = newC u2 (2, 2, 1) 1 := ⟨_, rfl⟩
  have G3 : Gw (fun _ => False) u2 w3 := by rw [hw3]; exact Gw.C
  have G23 := G2.tr G3
  have G := G1.tr G23
  have F : ∀ b : Nat, ¬ (fun _ : Nat => False) b := fun _ z => z
  have n3 : mN w3 = 189 := by rw [hw3]; show mN u2 + 1 = 189; omega
  have k3 : mK w3 ≤ 40000 := by rw [hw3]; show mK u2 + 1 ≤ 40000; omega
  have z64 : mS (newC w0 (1, 7, 0) 15) 64 = (1, 7, 0) := by
    have := mS_Cs (w := w0) (sh := (1, 7, 0)) (n := 15)
    rw [hN] at this
    exact this
  have z238 : mS (newC u1 (1, 9, 0) 40) 238 = (1, 9, 0) := by
    have := mS_Cs (w := u1) (sh := (1, 9, 0)) (n := 40)
    rw [nn1] at this
    exact this
  have e : jto P (0, [(0, jvr 0)], [], w0) = jto P (23, lvs (6 * ((0 : Nat) : Int)) [], [], w3) := by
    rw [hw3]
    have hg : ∀ (p : Nat) (lv : jmL) (st : List jmV) (w : jmW), jp_gn 1 P p lv st w = jto P (p, lv, st, w) := fun p lv st w => jp_gn_t (by omega) (by omega) (jw_id (by omega) (by omega)) p lv st w
    have j1 : (jw 1).toNat = 1 := by decide
    have j6 : (6 : Int) * ((0 : Nat) : Int) = 0 := by decide
    rw [j6]
    simp (disch := omega) only [z312_0, z312_3a, z312_4, z312_7, z312_8, z312_11a, z312_12, z312_15, z312_16, z312_17, z312_19, z312_20, z312_21, hN, nn1, nn2, e1, e2, z64, z238, hg, j1, jwd_c, jwd_0, Nat.reduceLeDiff, Nat.reduceEqDiff, Nat.reduceAdd, Nat.reduceSub, Nat.reduceMul, Int.reduceAdd, Int.reduceSub, Int.reduceMul, Int.reduceNeg, Int.reduceEq, Int.reduceLT, Int.reduceLE, jg_c, jg_n, js_c, js_n, jrm_c, jrm_n, j2_i, j2_l, j2_a, jwd_le, jw_c0, mS_I, mS_R, mS_J, mN_I, mN_R, mN_J, mR_I, mI_R, mJ_I, mJ_R, mI_J, mR_J, ↓reduceIte, decide_true, or_true, true_or, and_self, false_or, or_false, reduceCtorEq, Bool.false_eq_true, and_false, false_and, eq_self, true_and, and_true, zero_ne, jp_ldi_i, jp_lda_a, jp_inc_i, jp_cs_t, jp_c_i, jp_c_n, Nat.add_zero]
  rw [e]
  refine jto_stop rfl (hP w3 ⟨⟨(G.s (by omega)).trans h0, (G.i (by omega) (fun z => z)).trans hI, ?_, by omega, by omega, by omega⟩, 0, fun _ => 0, 0, 0, 0, ⟨⟨?_, ?_, ?_, ?_, (g65 _).gw G23 (by omega) (fun z => z) (fun z => z), fun i hi => absurd hi (Nat.not_lt_zero _), g67.gw G23 (by omega) (fun y _ _ z => z), exSw q5 G23 (by omega) (fun z => z) (fun z => z), hX.gw G⟩, ?_, ?_, ?_⟩, ⟨(M0_MO m1 m2).gw G3 (by omega) (fun z => z), ?_, by omega, fun k hk => absurd hk (Nat.not_lt_zero _), ?_, ?_, ?_⟩, ⟨by omega, by omega⟩, Or.inl ⟨?_, ?_, ?_⟩⟩)
  · rw [hw3]
    have := mS_Cs (w := u2) (sh := (2, 2, 1)) (n := 1)
    rw [nn2] at this
    exact this
  · rw [G23.s (by omega)]; exact q1
  · rw [G23.r (by omega) (fun z => z)]; exact q2
  · rw [G23.r (by omega) (fun z => z)]; exact q3
  · rw [G23.r (by omega) (fun z => z)]; exact q4
  · rw [G23.i (by omega) (fun z => z)]; exact i12
  · rw [G23.i (by omega) (fun z => z)]; exact i13
  · rw [G23.i (by omega) (fun z => z)]; exact i14
  · rw [G3.i (by omega) (fun z => z), m3]; rfl
  · rw [G3.i (by omega) (fun z => z), m3]; rfl
  · rw [G3.i (by omega) (fun z => z), m3]; rfl
  · rw [G3.i (by omega) (fun z => z), m3, if_neg (by omega)]; rfl
  · refine ⟨⟨by rw [G23.s (by omega)]; exact s64, ?_, ?_, ?_, ?_, ?_, ?_, ?_, ?_, ?_, ?_, ?_⟩, g84.gw G23 (by omega) (fun y _ _ z => z), ⟨_, _, _, g104.gw G23 (by omega) (fun y _ _ z => z)⟩, ⟨_, _, _, g111.gw G23 (by omega) (fun y _ _ z => z)⟩, ⟨by rw [G23.s (by omega)]; exact f1, ?_, ?_, ?_, ?_, ?_, ?_, ?_, ⟨_, _, _, f9.gw G23 (by omega) (fun y _ _ z => z)⟩, exSw f10 G23 (by omega) (fun z => z) (fun z => z), exSw f11 G23 (by omega) (fun z => z) (fun z => z), exSw f12 G23 (by omega) (fun z => z) (fun z => z), exSw f13 G23 (by omega) (fun z => z) (fun z => z), exSw f14 G23 (by omega) (fun z => z) (fun z => z), hT.gw G (fun z => z)⟩, ⟨by rw [G23.s (by omega)]; exact o1, by rw [G23.r (by omega) (fun z => z)]; exact o2, by rw [G23.r (by omega) (fun z => z)]; exact o3, exSw o4 G23 (by omega) (fun z => z) (fun z => z), exSw o5 G23 (by omega) (fun z => z) (fun z => z), ⟨_, _, (g236 (fun _ _ => 0)).gw G23 (by omega) (fun z => z) (fun z => z)⟩⟩, ⟨_, _, _, c136.gw G23 (by omega) (fun y _ _ z => z)⟩, ⟨_, _, _, c208.gw G23 (by omega) (fun y _ _ z => z)⟩⟩
    all_goals (rw [G23.r (by omega) (fun z => z)]; assumption)
  · obtain ⟨b1, x1, -⟩ := c136
    obtain ⟨b2, y1, -⟩ := c208
    refine ⟨⟨by rw [G23.s (by omega)]; exact s64, ?_, ?_, ?_, ?_, ?_, ?_, ?_, ?_, ?_, ?_, ?_⟩, by rw [G23.i (by omega) (fun z => z)]; exact i11, ⟨_, _, _, g111.gw G23 (by omega) (fun y _ _ z => z), rfl⟩, ⟨by rw [G23.s (by omega)]; exact x1, by rw [G23.i (by omega) (fun z => z)]; exact k136⟩, ⟨by rw [G23.s (by omega)]; exact y1, by rw [G23.i (by omega) (fun z => z)]; exact k208⟩⟩
    all_goals (rw [G23.r (by omega) (fun z => z)]; assumption)
  · rw [G3.r (by omega) (fun z => z)]
    exact m4
end FIRST
