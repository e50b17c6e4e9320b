/-! The reader: the draft Hall; cells; the first lines, in the class. -/
def uH (H : Nat → Nat → Int) (i j : Nat) (v : Int) : Nat → Nat → Int := fun a b => if a = i ∧ b = j then v else H a b
/-- a Hall's cells, whatever they hold -/
def HSx (w : jmW) (b : Nat) : Prop := mS w b = (1, 1, 0) ∧ mR w b 0 = some (b + 1) ∧ mR w b 1 = some (b + 3) ∧ mR w b 2 = some (b + 5) ∧ mR w b 3 = some (b + 7) ∧ mR w b 4 = some (b + 9) ∧ mR w b 5 = some (b + 11) ∧ mR w b 6 = some (b + 13) ∧ mR w b 7 = some (b + 15) ∧ (∃ n q, Sg w (b + 1) 1 48 n q) ∧ (∃ n q, Sg w (b + 3) 1 8 n q) ∧ (∃ n q, Sg w (b + 5) 1 12 n q) ∧ (∃ n q, Sg w (b + 7) 6 4 n q) ∧ (∃ n q, Sg w (b + 9) 3 8 n q) ∧ (∃ n q, Sg w (b + 11) 3 8 n q) ∧ (∃ n q, Sg w (b + 13) 4 48 n q) ∧ (∃ n q, Sg w (b + 15) 1 48 n q)
/-- the draft Hall, as told so far -/
def DH (w : jmW) (H : Nat → Nat → Int) (N : Nat) : Prop := HSx w 67 ∧ mI w 67 8 = H 0 0 ∧ mI w 67 9 = H 0 1 ∧ mI w 67 10 = H 0 15 ∧ mI w 67 11 = H 0 16 ∧ mI w 67 12 = H 0 10 ∧ mI w 67 14 = H 0 12 ∧ mI w 67 15 = H 0 7 ∧ mI w 67 16 = (if H 0 13 < 0 then -1 else H 0 13) ∧ mI w 67 17 = H 0 14 ∧ (0 ≤ H 0 10 → mI w 67 13 = H 0 11) ∧ Sg w 68 1 48 N (fun i _ => H 17 i) ∧ Sg w 70 1 8 (H 0 5).toNat (fun i _ => H 27 i) ∧ Sg w 72 1 12 (H 0 6).toNat (fun i _ => H 28 i) ∧ Sg w 74 6 4 (H 0 3).toNat (gTab H) ∧ Sg w 76 3 8 (H 0 4).toNat (fun i j => H (24 + j) i) ∧ Sg w 78 3 8 (H 0 8).toNat (fun i j => H (29 + j) i)
/-- the tables' names -/
def NMx (w : jmW) : Prop := ∃ k q, Sg w 102 2 4 k q
def NM (w : jmW) (T : Nat → Int) (n : Nat) (k : Nat) (C : Nat → Int) : Prop := ∃ s e : Nat → Nat, Sg w 102 2 4 k (fun i j => if j = 0 then (s i : Int) else (e i : Int)) ∧ ∀ i, i < k → s i ≤ e i ∧ e i ≤ n ∧ e i - s i ≤ 8 ∧ (∀ j, j < e i - s i → 97 ≤ T (s i + j) ∧ T (s i + j) ≤ 122) ∧ gCw (fun j => T (s i + j)) (e i - s i) = C i
def LN (u : jmW) (T : Nat → Int) (n : Nat) (H : Nat → Nat → Int) (N k : Nat) (C : Nat → Int) : gSg → Prop
  | .inl _ => DH u H N ∧ NM u T n k C
  | .inr _ => HSx u 67 ∧ NMx u
def rdP : Nat → Prop := fun b => (67 ≤ b ∧ b ≤ 83) ∨ (101 ≤ b ∧ b ≤ 103)
section DRAFT
variable {w u : jmW} {T : Nat → Int} {n cnt : Nat} {H : Nat → Nat → Int} {N K : Nat} {C : Nat → Int}
theorem HSx.fr {P : Nat → Prop} {b : Nat} (h : HSx w b) (f : Fr P w u) (hP : ∀ x, b ≤ x → x ≤ b + 16 → ¬ P x) : HSx u b := by
  obtain ⟨h1, h2, h3, h4, h5, h6, h7, h8, h9, s1, s2, s3, s4, s5, s6, s7, s8⟩ := h
  have r := f.Rq (hP b (by omega) (by omega))
  have ex : ∀ {k c r : Nat}, k ≤ 15 → (∃ n q, Sg w (b + k) c r n q) → ∃ n q, Sg u (b + k) c r n q := fun hk h => exSg h f (hP _ (by omega) (by omega)) (hP _ (by omega) (by omega))
  exact ⟨by rw [f.q]; exact h1, by rw [r]; exact h2, by rw [r]; exact h3, by rw [r]; exact h4, by rw [r]; exact h5, by rw [r]; exact h6, by rw [r]; exact h7, by rw [r]; exact h8, by rw [r]; exact h9, ex (by omega) s1, ex (by omega) s2, ex (by omega) s3, ex (by omega) s4, ex (by omega) s5, ex (by omega) s6, ex (by omega) s7, ex (by omega) s8⟩
/-- a number of the Hall set -/
theorem HSx.set {b k : Nat} {x : Int} (h : HSx w b) : HSx (setI w b k x) b := by
  obtain ⟨h1, h2, h3, h4, h5, h6, h7, h8, h9, s1, s2, s3, s4, s5, s6, s7, s8⟩ := h
  have f : Fr (fun x => x = b) w (setI w b k x) := Fr.I rfl
  have ex : ∀ {k c r : Nat}, 1 ≤ k → (∃ n q, Sg w (b + k) c r n q) → ∃ n q, Sg (setI w b _ x) (b + k) c r n q := fun hk h => exSg h f (by omega) (by omega)
  exact ⟨h1, h2, h3, h4, h5, h6, h7, h8, h9, ex (by omega) s1, ex (by omega) s2, ex (by omega) s3, ex (by omega) s4, ex (by omega) s5, ex (by omega) s6, ex (by omega) s7, ex (by omega) s8⟩
theorem DH.hs (h : DH w H N) : HSx w 67 := h.1
theorem DH.fr {P : Nat → Prop} (h : DH w H N) (f : Fr P w u) (hP : ∀ x, 67 ≤ x → x ≤ 83 → ¬ P x) : DH u H N := by
  obtain ⟨h1, h2⟩ := h
  have i := f.Iq (hP 67 (by omega) (by omega))
  refine ⟨h1.fr f (fun x a b => hP x a (by omega)), ?_⟩
  rw [i]
  obtain ⟨a1, a2, a3, a4, a5, a6, a7, a8, a9, a10, s1, s2, s3, s4, s5, s6⟩ := h2
  have tr : ∀ {k c r n q}, 68 ≤ k → k ≤ 79 → Sg w k c r n q → Sg u k c r n q := fun a b s => s.fr f (hP _ (by omega) (by omega)) (hP _ (by omega) (by omega))
  exact ⟨a1, a2, a3, a4, a5, a6, a7, a8, a9, a10, tr (by omega) (by omega) s1, tr (by omega) (by omega) s2, tr (by omega) (by omega) s3, tr (by omega) (by omega) s4, tr (by omega) (by omega) s5, tr (by omega) (by omega) s6⟩
theorem NM.fr {P : Nat → Prop} (h : NM w T n K C) (f : Fr P w u) (h1 : ¬ P 102) (h2 : ¬ P 103) : NM u T n K C := by
  obtain ⟨s, e, g, r⟩ := h
  exact ⟨s, e, g.fr f h1 h2, r⟩
theorem NM.x (h : NM w T n K C) : NMx w := by
  obtain ⟨s, e, g, r⟩ := h
  exact ⟨_, _, g⟩
/-- the Reader's own cell alone has changed -/
theorem DH.f1 (h : DH w H N) (f : Fr (fun b => b = 101) w u) : DH u H N := h.fr f (fun x a b => by omega)
theorem NM.f1 (h : NM w T n K C) (f : Fr (fun b => b = 101) w u) : NM u T n K C := h.fr f (by omega) (by omega)
theorem rd1 (f : Fr (fun b => b = 101) w u) : Fr rdP w u := f.mo (fun b hb => Or.inr (by omega))
theorem pO_r {ws : List Int} {x : Int × Int} : pO T n ws (.inr x) = .inr x := rfl
theorem pN_r {lo hi : Int} {x : Int × Int} : pN T n lo hi (.inr x) = .inr x := rfl
theorem pB_r {lo hi : Int} {x : Int × Int} : pB T n lo hi (.inr x) = .inr x := rfl
theorem pS_r {k : Int} {x : Int × Int} : pS T n k (.inr x) = .inr x := rfl
theorem pG_r {x : Int × Int} : pG T n (.inr x) = .inr x := rfl
/-- a cell -/
theorem c_cellx (h : RC' w n cnt T) {p : Nat} (ht : tC w T n p) {W V : Int} (s67 : mS w 67 = (1, 1, 0)) (i8 : mI w 67 8 = W) (i9 : mI w 67 9 = V) (w1 : 3 ≤ W) (w2 : W ≤ 8) (v1 : 2 ≤ V) (v2 : V ≤ 6) : ∃ u, rn 36 (0, [(0, jvr 101)], [], w) = some (some (.inl (bl (pCn T n W V (.inl p)))), u) ∧ RC' u n cnt T ∧ CSx u T n (pCn T n W V (.inl p)) ∧ (∀ q, pCn T n W V (.inl p) = .inl q → mI u 101 8 = pCell T n W V (.inl p) ∧ (0 ≤ pCell T n W V (.inl p) ∧ pCell T n W V (.inl p) < W * V) ∧ ∃ p2, pCb T n W V (.inl p) = .inl p2 ∧ q = tE T n p2 ∧ mI u 101 9 = tS T n p2) ∧ Fr (fun b => b = 101) w u := by
  have a1 := h.1
  have a3 := h.2.2.1
  obtain ⟨u1, e1, r1, c1, x1, f1⟩ := c_whole h ht (lo := 0) (hi := W - 1) (by omega) (by omega) (by omega) (by omega)
  cases g1 : pN T n 0 (W - 1) (.inl p) with
  | inr x =>
    rw [g1] at e1 c1
    have e1 : rn 33 (0, [(0, jvr 101), (1, .inl 0), (2, .inl (W - 1))], [], w) = some (some (.inl 0), u1) := e1
    have hF : pCn T n W V (.inl p) = .inr x := by
      unfold pCn pCb pC2
      rw [g1]
      rfl
    rw [hF]
    refine ⟨u1, ?_, r1, c1, fun q hq => (by cases hq), f1⟩
    show _ = some (some ((Sum.inl (0 : Int)) : jmV), _)
    simp (disch := omega) only [p36_0, p36_1, p36_2, p36_3, p36_6, p36_9, p36_10, p36_11, p36_14, p36_17, p36_18, p36_19, p36_20, p36_23, p36_24, p36_25, p36_26, p36_29, p36_32, p36_33, p36_34, p36_35, p36_38, p36_41, p36_42, p36_43, p36_46, p36_49, p36_50, p36_51, p36_52, p36_53, p36_56, p36_57, p36_58, p36_61, p36_64, p36_67, p36_68, jwd_c, jwd_0, Nat.reduceLeDiff, Nat.reduceEqDiff, Nat.reduceAdd, Nat.reduceSub, Nat.reduceMul, Int.reduceAdd, Int.reduceSub, Int.reduceMul, Int.reduceNeg, Int.reduceEq, Int.reduceLT, Int.reduceLE, jq_ldi_i, jq_ldl_l, jq_lda_a, jq_inc_i, jq_gs_t, jq_gsb_t, jq_gb_t, jq_gr_2, jq_gr_4, jq_gw_2, jq_s_t, jq_b_t, jg_c, jg_n, js_c, js_n, jrm_c, jrm_n, j2_i, j2_l, j2_a, jq_c_i, jq_c_l, jq_c_0, jq_c_n, jwd_le, jw_c0, mS_I, mS_R, mS_J, mN_I, mN_R, mN_J, mR_I, mI_R, mJ_I, mJ_R, mI_J, mR_J, ↓reduceIte, decide_true, or_true, true_or, and_self, false_or, or_false, reduceCtorEq, Bool.false_eq_true, and_false, false_and, eq_self, true_and, and_true, zero_ne, ↓br_lt_t, ↓br_lt_f, ↓br_eq_t, ↓br_eq_f, ↓br_lz_t, ↓br_lz_f, ↓br_ez_t, ↓br_ez_f, ↓br_gz_t, ↓br_gz_f, jw_id, jin_t, jix_t, ↓ite_t, ↓ite_f, a1, a3, s67, i8, e1]
  | inl p1 =>
    rw [g1] at e1 c1
    have e1 : rn 33 (0, [(0, jvr 101), (1, .inl 0), (2, .inl (W - 1))], [], w) = some (some (.inl 1), u1) := e1
    have x1 := x1 p1 g1
    obtain ⟨u2, e2, r2, c2, f2⟩ := c_sign r1 c1 (k := 4) (by omega) (by omega)
    have b1 := r1.1
    have s67b : mS u1 67 = (1, 1, 0) := by rw [f1.q]; exact s67
    have i8b : mI u1 67 8 = W := by rw [f1.Iq (by omega)]; exact i8
    cases g2 : pS T n 4 (.inl p1) with
    | inr x =>
      rw [g2] at e2 c2
      have e2 : rn 37 (0, [(0, jvr 101), (1, .inl 4)], [], u1) = some (some (.inl 0), u2) := e2
      have hF : pCn T n W V (.inl p) = .inr x := by
        unfold pCn pCb pC2
        rw [g1, g2]
        rfl
      rw [hF]
      refine ⟨u2, ?_, r2, c2, fun q hq => (by cases hq), f1.tr f2⟩
      show _ = some (some ((Sum.inl (0 : Int)) : jmV), _)
      simp (disch := omega) only [p36_0, p36_1, p36_2, p36_3, p36_6, p36_9, p36_10, p36_11, p36_14, p36_17, p36_18, p36_19, p36_20, p36_23, p36_24, p36_25, p36_26, p36_29, p36_32, p36_33, p36_34, p36_35, p36_38, p36_41, p36_42, p36_43, p36_46, p36_49, p36_50, p36_51, p36_52, p36_53, p36_56, p36_57, p36_58, p36_61, p36_64, p36_67, p36_68, jwd_c, jwd_0, Nat.reduceLeDiff, Nat.reduceEqDiff, Nat.reduceAdd, Nat.reduceSub, Nat.reduceMul, Int.reduceAdd, Int.reduceSub, Int.reduceMul, Int.reduceNeg, Int.reduceEq, Int.reduceLT, Int.reduceLE, jq_ldi_i, jq_ldl_l, jq_lda_a, jq_inc_i, jq_gs_t, jq_gsb_t, jq_gb_t, jq_gr_2, jq_gr_4, jq_gw_2, jq_s_t, jq_b_t, jg_c, jg_n, js_c, js_n, jrm_c, jrm_n, j2_i, j2_l, j2_a, jq_c_i, jq_c_l, jq_c_0, jq_c_n, jwd_le, jw_c0, mS_I, mS_R, mS_J, mN_I, mN_R, mN_J, mR_I, mI_R, mJ_I, mJ_R, mI_J, mR_J, ↓reduceIte, decide_true, or_true, true_or, and_self, false_or, or_false, reduceCtorEq, Bool.false_eq_true, and_false, false_and, eq_self, true_and, and_true, zero_ne, ↓br_lt_t, ↓br_lt_f, ↓br_eq_t, ↓br_eq_f, ↓br_lz_t, ↓br_lz_f, ↓br_ez_t, ↓br_ez_f, ↓br_gz_t, ↓br_gz_f, jw_id, jin_t, jix_t, ↓ite_t, ↓ite_f, a1, a3, s67, i8, e1, b1, e2]
    | inl p2 =>
      rw [g2] at e2 c2
      have e2 : rn 37 (0, [(0, jvr 101), (1, .inl 4)], [], u1) = some (some (.inl 1), u2) := e2
      obtain ⟨u3, e3, r3, c3, x3, f3⟩ := c_whole r2 c2 (lo := 0) (hi := V - 1) (by omega) (by omega) (by omega) (by omega)
      have d1 := r2.1
      have d3 := r2.2.2.1
      have f12 := f1.tr f2
      have f13 := f12.tr f3
      have s67c : mS u2 67 = (1, 1, 0) := by rw [f12.q]; exact s67
      have i9c : mI u2 67 9 = V := by rw [f12.Iq (by omega)]; exact i9
      have eC2 : pC2 T n W (.inl p) = .inl p2 := by
        unfold pC2
        rw [g1, g2]
      cases g3 : pN T n 0 (V - 1) (.inl p2) with
      | inr x =>
        rw [g3] at e3 c3
        have e3 : rn 33 (0, [(0, jvr 101), (1, .inl 0), (2, .inl (V - 1))], [], u2) = some (some (.inl 0), u3) := e3
        have hF : pCn T n W V (.inl p) = .inr x := by
          unfold pCn pCb
          rw [eC2]
          exact g3
        rw [hF]
        refine ⟨u3, ?_, r3, c3, fun q hq => (by cases hq), f13⟩
        show _ = some (some ((Sum.inl (0 : Int)) : jmV), _)
        simp (disch := omega) only [p36_0, p36_1, p36_2, p36_3, p36_6, p36_9, p36_10, p36_11, p36_14, p36_17, p36_18, p36_19, p36_20, p36_23, p36_24, p36_25, p36_26, p36_29, p36_32, p36_33, p36_34, p36_35, p36_38, p36_41, p36_42, p36_43, p36_46, p36_49, p36_50, p36_51, p36_52, p36_53, p36_56, p36_57, p36_58, p36_61, p36_64, p36_67, p36_68, jwd_c, jwd_0, Nat.reduceLeDiff, Nat.reduceEqDiff, Nat.reduceAdd, Nat.reduceSub, Nat.reduceMul, Int.reduceAdd, Int.reduceSub, Int.reduceMul, Int.reduceNeg, Int.reduceEq, Int.reduceLT, Int.reduceLE, jq_ldi_i, jq_ldl_l, jq_lda_a, jq_inc_i, jq_gs_t, jq_gsb_t, jq_gb_t, jq_gr_2, jq_gr_4, jq_gw_2, jq_s_t, jq_b_t, jg_c, jg_n, js_c, js_n, jrm_c, jrm_n, j2_i, j2_l, j2_a, jq_c_i, jq_c_l, jq_c_0, jq_c_n, jwd_le, jw_c0, mS_I, mS_R, mS_J, mN_I, mN_R, mN_J, mR_I, mI_R, mJ_I, mJ_R, mI_J, mR_J, ↓reduceIte, decide_true, or_true, true_or, and_self, false_or, or_false, reduceCtorEq, Bool.false_eq_true, and_false, false_and, eq_self, true_and, and_true, zero_ne, ↓br_lt_t, ↓br_lt_f, ↓br_eq_t, ↓br_eq_f, ↓br_lz_t, ↓br_lz_f, ↓br_ez_t, ↓br_ez_f, ↓br_gz_t, ↓br_gz_f, jw_id, jin_t, jix_t, ↓ite_t, ↓ite_f, a1, a3, s67, i8, e1, b1, e2, x1.1, d1, d3, s67c, i9c, e3]
      | inl p3 =>
        rw [g3] at e3 c3
        have e3 : rn 33 (0, [(0, jvr 101), (1, .inl 0), (2, .inl (V - 1))], [], u2) = some (some (.inl 1), u3) := e3
        have x3 := x3 p3 g3
        have hF : pCn T n W V (.inl p) = .inl p3 := by
          unfold pCn pCb
          rw [eC2]
          exact g3
        -- what was read
        have q1 : 0 ≤ pV T n 0 (W - 1) (.inl p) ∧ pV T n 0 (W - 1) (.inl p) ≤ W - 1 := by
          show 0 ≤ (if tK T n p = 2 ∧ 0 ≤ tN T n p ∧ tN T n p ≤ W - 1 then tN T n p else 0) ∧ (if tK T n p = 2 ∧ 0 ≤ tN T n p ∧ tN T n p ≤ W - 1 then tN T n p else 0) ≤ W - 1
          split <;> omega
        have q2 : 0 ≤ pV T n 0 (V - 1) (.inl p2) ∧ pV T n 0 (V - 1) (.inl p2) ≤ V - 1 := by
          show 0 ≤ (if tK T n p2 = 2 ∧ 0 ≤ tN T n p2 ∧ tN T n p2 ≤ V - 1 then tN T n p2 else 0) ∧ (if tK T n p2 = 2 ∧ 0 ≤ tN T n p2 ∧ tN T n p2 ≤ V - 1 then tN T n p2 else 0) ≤ V - 1
          split <;> omega
        have eCe : pCell T n W V (.inl p) = W * pV T n 0 (V - 1) (.inl p2) + pV T n 0 (W - 1) (.inl p) := by
          unfold pCell
          rw [eC2]
        have bB : pCb T n W V (.inl p) = .inl p2 ∧ p3 = tE T n p2 := by
          unfold pCb
          rw [eC2]
          have eb : pB T n 0 (V - 1) (.inl p2) = if tK T n p2 = 2 then (if 0 ≤ tN T n p2 ∧ tN T n p2 ≤ V - 1 then .inl p2 else .inr (4, (tS T n p2 : Int))) else .inr (1, (tS T n p2 : Int)) := rfl
          unfold pN at g3
          rw [eb] at g3 ⊢
          by_cases z : tK T n p2 = 2
          · rw [if_pos z] at g3 ⊢
            by_cases y : 0 ≤ tN T n p2 ∧ tN T n p2 ≤ V - 1
            · rw [if_pos y] at g3 ⊢
              exact ⟨rfl, (Sum.inl.inj g3).symm⟩
            · rw [if_neg y] at g3
              cases g3
          · rw [if_neg z] at g3
            cases g3
        have s67d : mS u3 67 = (1, 1, 0) := by rw [f13.q]; exact s67
        have i8d : mI u3 67 8 = W := by rw [f13.Iq (by omega)]; exact i8
        have i9d : mI u3 67 9 = V := by rw [f13.Iq (by omega)]; exact i9
        have g1r := r3.1
        have g3r := r3.2.2.1
        generalize hX : pV T n 0 (W - 1) (.inl p) = X at *
        generalize hY : pV T n 0 (V - 1) (.inl p2) = Y at *
        have ec : rn 38 (0, [(0, jvr 67), (1, .inl X), (2, .inl Y)], [], u3) = some (some (.inl (Y * W + X)), u3) := by
          simp (disch := omega) only [p38_0, p38_1, p38_4, p38_5, p38_6, p38_9, p38_12, p38_13, p38_16, p38_17, p38_18, p38_21, p38_24, p38_25, p38_26, p38_29, p38_30, p38_31, p38_32, p38_35, p38_36, jwd_c, jwd_0, Nat.reduceLeDiff, Nat.reduceEqDiff, Nat.reduceAdd, Nat.reduceSub, Nat.reduceMul, Int.reduceAdd, Int.reduceSub, Int.reduceMul, Int.reduceNeg, Int.reduceEq, Int.reduceLT, Int.reduceLE, jq_ldi_i, jq_ldl_l, jq_lda_a, jq_inc_i, jq_gs_t, jq_gsb_t, jq_gb_t, jq_gr_2, jq_gr_4, jq_gw_2, jq_s_t, jq_b_t, jg_c, jg_n, js_c, js_n, jrm_c, jrm_n, j2_i, j2_l, j2_a, jq_c_i, jq_c_l, jq_c_0, jq_c_n, jwd_le, jw_c0, mS_I, mS_R, mS_J, mN_I, mN_R, mN_J, mR_I, mI_R, mJ_I, mJ_R, mI_J, mR_J, ↓reduceIte, decide_true, or_true, true_or, and_self, false_or, or_false, reduceCtorEq, Bool.false_eq_true, and_false, false_and, eq_self, true_and, and_true, zero_ne, ↓br_lt_t, ↓br_lt_f, ↓br_eq_t, ↓br_eq_f, ↓br_lz_t, ↓br_lz_f, ↓br_ez_t, ↓br_ez_f, ↓br_gz_t, ↓br_gz_f, jw_id, jin_t, jix_t, s67d, i8d, i9d]
        have cm : W * Y + X = Y * W + X := by rw [Int.mul_comm]
        have cb : 0 ≤ Y * W + X ∧ Y * W + X < W * V := by
          have hW := w6 w1 w2
          have hV : V = 2 ∨ V = 3 ∨ V = 4 ∨ V = 5 ∨ V = 6 := by omega
          clear e1 e2 e3 ec hX hY eCe cm
          rcases hW with rfl | rfl | rfl | rfl | rfl | rfl <;> rcases hV with rfl | rfl | rfl | rfl | rfl <;> omega
        rw [hF]
        have f4 : Fr (fun b => b = 101) u3 (setI u3 101 8 (Y * W + X)) := Fr.I rfl
        refine ⟨setI u3 101 8 (Y * W + X), ?_, r3.set (by omega), ?_, fun q hq => ⟨by rw [mI_s, eCe, cm], by rw [eCe, cm]; exact cb, p2, bB.1, by rw [← Sum.inl.inj hq, bB.2], by rw [mI_nk (by omega)]; exact x3.2⟩, f13.tr f4⟩
        · show _ = some (some ((Sum.inl (1 : Int)) : jmV), _)
          simp (disch := omega) only [p36_0, p36_1, p36_2, p36_3, p36_6, p36_9, p36_10, p36_11, p36_14, p36_17, p36_18, p36_19, p36_20, p36_23, p36_24, p36_25, p36_26, p36_29, p36_32, p36_33, p36_34, p36_35, p36_38, p36_41, p36_42, p36_43, p36_46, p36_49, p36_50, p36_51, p36_52, p36_53, p36_56, p36_57, p36_58, p36_61, p36_64, p36_67, p36_68, jwd_c, jwd_0, Nat.reduceLeDiff, Nat.reduceEqDiff, Nat.reduceAdd, Nat.reduceSub, Nat.reduceMul, Int.reduceAdd, Int.reduceSub, Int.reduceMul, Int.reduceNeg, Int.reduceEq, Int.reduceLT, Int.reduceLE, jq_ldi_i, jq_ldl_l, jq_lda_a, jq_inc_i, jq_gs_t, jq_gsb_t, jq_gb_t, jq_gr_2, jq_gr_4, jq_gw_2, jq_s_t, jq_b_t, jg_c, jg_n, js_c, js_n, jrm_c, jrm_n, j2_i, j2_l, j2_a, jq_c_i, jq_c_l, jq_c_0, jq_c_n, jwd_le, jw_c0, mS_I, mS_R, mS_J, mN_I, mN_R, mN_J, mR_I, mI_R, mJ_I, mJ_R, mI_J, mR_J, ↓reduceIte, decide_true, or_true, true_or, and_self, false_or, or_false, reduceCtorEq, Bool.false_eq_true, and_false, false_and, eq_self, true_and, and_true, zero_ne, ↓br_lt_t, ↓br_lt_f, ↓br_eq_t, ↓br_eq_f, ↓br_lz_t, ↓br_lz_f, ↓br_ez_t, ↓br_ez_f, ↓br_gz_t, ↓br_gz_f, jw_id, jin_t, jix_t, ↓ite_t, ↓ite_f, a1, a3, s67, i8, e1, b1, e2, x1.1, d1, d3, s67c, i9c, e3, g1r, g3r, x3.1, s67d, ec]
        · obtain ⟨y1, y2, y3, y4, y5⟩ := c3
          exact ⟨y1, by rw [mI_nk (by omega)]; exact y2, by rw [mI_nk (by omega)]; exact y3, by rw [mI_nk (by omega)]; exact y4, fun z => by rw [mI_nk (by omega)]; exact y5.1 z, by rw [mI_nk (by omega)]; exact y5.2.1, by rw [mI_nk (by omega)]; exact y5.2.2⟩
end DRAFT
