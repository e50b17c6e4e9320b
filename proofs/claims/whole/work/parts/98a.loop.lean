/-! The reader: lines, loops; the class reads. -/
section LOOPB
variable {T : Nat → Int} {n : Nat}
theorem stp_a : ∀ (m p : Nat) (H : Nat → Nat → Int) (a b : Nat), ((a ≠ 0 ∨ b ≠ 5) ∧ a ≠ 27) → (gStp T n m p H).2 a b = H a b := by
  intro m
  induction m with
  | zero =>
    intro p H a b z
    rfl
  | succ m ih =>
    intro p H a b z
    have e : gStp T n (m + 1) p H = (match pL T n H p with | .inr x => (.inr x, H) | .inl q => if tK T n q = 4 then gStp T n m (tE T n q) (pLH T n H p) else (.inl q, pLH T n H p)) := rfl
    have eL : pLH T n H p a b = H a b := by
      unfold pLH
      rw [uH_n (by omega), uH_n (by omega)]
    rw [e]
    cases pL T n H p with
    | inr x => rfl
    | inl q =>
      dsimp only
      by_cases y : tK T n q = 4
      · rw [if_pos y, ih _ _ _ _ z]
        exact eL
      · rw [if_neg y]
        exact eL
theorem way_a : ∀ (m p : Nat) (H : Nat → Nat → Int) (a b : Nat), ((a ≠ 0 ∨ b ≠ 6) ∧ a ≠ 28) → (gWay T n m p H).2 a b = H a b := by
  intro m
  induction m with
  | zero =>
    intro p H a b z
    rfl
  | succ m ih =>
    intro p H a b z
    have e : gWay T n (m + 1) p H = (match pM T n H p with | .inr x => (.inr x, H) | .inl q => if tK T n q = 4 then gWay T n m (tE T n q) (pMH T n H p) else (.inl q, pMH T n H p)) := rfl
    have eL : pMH T n H p a b = H a b := by
      unfold pMH
      rw [uH_n (by omega), uH_n (by omega)]
    rw [e]
    cases pM T n H p with
    | inr x => rfl
    | inl q =>
      dsimp only
      by_cases y : tK T n q = 4
      · rw [if_pos y, ih _ _ _ _ z]
        exact eL
      · rw [if_neg y]
        exact eL
theorem qld_a {p : Nat} {H : Nat → Nat → Int} (a b : Nat) (z : (a ≠ 0 ∨ (b ≠ 6 ∧ b ≠ 7)) ∧ a ≠ 28) : (qLd T n H p).2 a b = H a b := by
  unfold qLd
  cases pO T n (cs wLd) (.inl p) with
  | inr x => rfl
  | inl q =>
    dsimp only
    by_cases y : pI T n (cs wLd) (.inl p) = 5
    · rw [if_pos y, way_a _ _ _ _ _ (by omega), uH_n (by omega)]
    · rw [if_neg y]
      exact uH_n (by omega)
theorem stp_hj : ∀ (m p : Nat) (H : Nat → Nat → Int) (q : Nat), p ≤ n → HJ H → (gStp T n m p H).1 = .inl q → HJ (gStp T n m p H).2 ∧ p ≤ q ∧ q ≤ n := by
  intro m
  induction m with
  | zero =>
    intro p H q hp h g
    have g : (Sum.inl p : gSg) = .inl q := g
    have := Sum.inl.inj g
    exact ⟨h, by omega, by omega⟩
  | succ m ih =>
    intro p H q hp h g
    have e : gStp T n (m + 1) p H = (match pL T n H p with | .inr x => (.inr x, H) | .inl q => if tK T n q = 4 then gStp T n m (tE T n q) (pLH T n H p) else (.inl q, pLH T n H p)) := rfl
    rw [e] at g ⊢
    cases g1 : pL T n H p with
    | inr x =>
      rw [g1] at g
      have g : (Sum.inr x : gSg) = .inl q := g
      cases g
    | inl a =>
      rw [g1] at g
      dsimp only at g ⊢
      have h2 := hj_step h g1
      have ma := (gM.z (n := n) hp).N a (pL_i g1).1
      by_cases y : tK T n a = 4
      · rw [if_pos y] at g ⊢
        have te := te_m (T := T) ma
        have := ih _ _ q te.2 h2 g
        exact ⟨this.1, by omega, this.2.2⟩
      · rw [if_neg y] at g ⊢
        have g : (Sum.inl a : gSg) = .inl q := g
        have := Sum.inl.inj g
        exact ⟨h2, by omega, by omega⟩
theorem way_hj : ∀ (m p : Nat) (H : Nat → Nat → Int) (q : Nat), p ≤ n → HJ H → 0 ≤ H 0 7 → (gWay T n m p H).1 = .inl q → HJ (gWay T n m p H).2 ∧ p ≤ q ∧ q ≤ n := by
  intro m
  induction m with
  | zero =>
    intro p H q hp h h7 g
    have g : (Sum.inl p : gSg) = .inl q := g
    have := Sum.inl.inj g
    exact ⟨h, by omega, by omega⟩
  | succ m ih =>
    intro p H q hp h h7 g
    have e : gWay T n (m + 1) p H = (match pM T n H p with | .inr x => (.inr x, H) | .inl q => if tK T n q = 4 then gWay T n m (tE T n q) (pMH T n H p) else (.inl q, pMH T n H p)) := rfl
    rw [e] at g ⊢
    cases g1 : pM T n H p with
    | inr x =>
      rw [g1] at g
      have g : (Sum.inr x : gSg) = .inl q := g
      cases g
    | inl a =>
      rw [g1] at g
      dsimp only at g ⊢
      have h2 := hj_side h h7 g1
      have ma := (gM.z (n := n) hp).O a (pM_i g1).1
      have e7 : pMH T n H p 0 7 = H 0 7 := by
        unfold pMH
        rw [uH_n (by omega), uH_n (by omega)]
      by_cases y : tK T n a = 4
      · rw [if_pos y] at g ⊢
        have te := te_m (T := T) ma
        have := ih _ _ q te.2 h2 (by rw [e7]; exact h7) g
        exact ⟨this.1, by omega, this.2.2⟩
      · rw [if_neg y] at g ⊢
        have g : (Sum.inl a : gSg) = .inl q := g
        have := Sum.inl.inj g
        exact ⟨h2, by omega, by omega⟩
theorem qld_hj {p q : Nat} {H : Nat → Nat → Int} (hp : p ≤ n) (h : HJ H) (g : (qLd T n H p).1 = .inl q) : HJ (qLd T n H p).2 ∧ p ≤ q ∧ q ≤ n := by
  have e : qLd T n H p = (match pO T n (cs wLd) (.inl p) with | .inr x => (.inr x, H) | .inl q => if pI T n (cs wLd) (.inl p) = 5 then gWay T n 13 q (uH H 0 7 5) else (.inl q, uH H 0 7 (pI T n (cs wLd) (.inl p)))) := rfl
  rw [e] at g ⊢
  cases g1 : pO T n (cs wLd) (.inl p) with
  | inr x =>
    rw [g1] at g
    have g : (Sum.inr x : gSg) = .inl q := g
    cases g
  | inl a =>
    rw [g1] at g
    dsimp only at g ⊢
    have ma := (gM.z (n := n) hp).O a g1
    obtain ⟨b, -, -, v1, v2⟩ := pO_i g1
    have l6 : ((cs wLd).length : Int) = 6 := rfl
    by_cases y : pI T n (cs wLd) (.inl p) = 5
    · rw [if_pos y] at g ⊢
      have := way_hj _ _ _ q ma.2 (hj_lead h (v := 5) (by omega) (by omega)) (by rw [uH_s]; omega) g
      exact ⟨this.1, by omega, this.2.2⟩
    · rw [if_neg y] at g ⊢
      have g : (Sum.inl a : gSg) = .inl q := g
      have := Sum.inl.inj g
      exact ⟨hj_lead h v1 (by omega), by omega, by omega⟩
end LOOPB
section LINEB
variable {T : Nat → Int} {n p : Nat} {H : Nat → Nat → Int} {s : gSg}
theorem lk_i {b : Int} (h : gLk H b = 0) : b ≠ 1 ∧ 1 ≤ H 0 0 := by
  unfold gLk at h
  by_cases z : b = 1 ∨ H 0 0 < 1
  · rw [if_pos z] at h
    omega
  · omega
theorem fo_0 (hi : HI H) (h : gFa H 0 = 0) : H = gH0 := by
  rw [fa_0] at h
  rcases hi with hi | hi
  · exact hi
  · have := hi.1.2.1
    rw [if_pos (by omega)] at h
    omega

theorem fo_1 (hi : HI H) (h : gFa H 1 = 0) : HJ H ∧ H 0 2 ≠ H 0 1 := by
  rw [fa_1] at h
  by_cases z : 0 < H 0 0 ∧ H 0 2 = H 0 1
  · rw [if_pos z] at h
    omega
  · rw [if_neg z] at h
    have k := lk_i h
    exact ⟨hi.j k.2, fun y => z ⟨by omega, y⟩⟩
theorem fo_2 (hi : HI H) (h : gFa H 2 = 0) : HJ H ∧ H 0 10 < 0 := by
  rw [fa_2] at h
  by_cases z : 0 ≤ H 0 10
  · rw [if_pos z] at h
    omega
  · rw [if_neg z] at h
    have k := lk_i h
    exact ⟨hi.j k.2, by omega⟩
theorem fo_3 (hi : HI H) (h : gFa H 3 = 0) : HJ H ∧ H 0 12 < 0 := by
  rw [fa_3] at h
  by_cases z : 0 ≤ H 0 12
  · rw [if_pos z] at h
    omega
  · rw [if_neg z] at h
    have k := lk_i h
    exact ⟨hi.j k.2, by omega⟩
theorem fo_4 (hi : HI H) (h : gFa H 4 = 0) : HJ H ∧ H 0 5 = 0 := by
  rw [fa_4] at h
  by_cases z : 0 < H 0 5
  · rw [if_pos z] at h
    omega
  · rw [if_neg z] at h
    have k := lk_i h
    have j := hi.j k.2
    have := j.2.1
    exact ⟨j, by omega⟩
theorem fo_5 (hi : HI H) (h : gFa H 5 = 0) : HJ H ∧ H 0 6 = 0 := by
  rw [fa_5] at h
  by_cases z : 0 ≤ H 0 7
  · rw [if_pos z] at h
    omega
  · rw [if_neg z] at h
    have k := lk_i h
    have j := hi.j k.2
    exact ⟨j, j.2.2.2.2.2.2.2.2.2.1 (by omega)⟩
theorem fo_6 (hi : HI H) (h : gFa H 6 = 0) : HJ H ∧ H 0 3 < 4 ∧ H 0 13 < 0 ∧ H 0 2 = H 0 1 := by
  rw [fa_6] at h
  by_cases z : H 0 3 = 4
  · rw [if_pos z] at h
    omega
  · rw [if_neg z] at h
    have k := lk_i h
    have j := hi.j k.2
    have b := j.2.1
    by_cases y : 0 ≤ H 0 13 ∨ H 0 2 ≠ H 0 1
    · rw [if_pos y] at k
      exact absurd rfl k.1
    · exact ⟨j, by omega, by omega, by omega⟩
theorem fo_7 (hi : HI H) (h : gFa H 7 = 0) : HJ H ∧ H 0 4 < 8 ∧ H 0 13 < 0 := by
  rw [fa_7] at h
  by_cases z : H 0 4 = 8
  · rw [if_pos z] at h
    omega
  · rw [if_neg z] at h
    have k := lk_i h
    have j := hi.j k.2
    have b := j.2.1
    by_cases y : 0 ≤ H 0 13
    · rw [if_pos y] at k
      exact absurd rfl k.1
    · exact ⟨j, by omega, by omega⟩
theorem fo_8 (hi : HI H) (h : gFa H 8 = 0) : HJ H ∧ H 0 13 < 0 ∧ H 0 2 = H 0 1 ∧ 1 ≤ H 0 4 := by
  rw [fa_8] at h
  by_cases z : 0 ≤ H 0 13
  · rw [if_pos z] at h
    omega
  · rw [if_neg z] at h
    have k := lk_i h
    have j := hi.j k.2
    by_cases y : H 0 2 ≠ H 0 1 ∨ H 0 4 < 1
    · rw [if_pos y] at k
      exact absurd rfl k.1
    · exact ⟨j, by omega, by omega, by omega⟩
theorem fo_9 (hi : HI H) (h : gFa H 9 = 0) : HJ H ∧ H 0 8 < 8 := by
  rw [fa_9] at h
  by_cases z : H 0 8 = 8
  · rw [if_pos z] at h
    omega
  · rw [if_neg z] at h
    have k := lk_i h
    have j := hi.j k.2
    have b := j.2.1
    exact ⟨j, by omega⟩
theorem rd_0 : gRd T n H 0 p = (qh8 T n (.inl p), qHH T n H p) := rfl
theorem rd_1 : gRd T n H 1 p = (qRw T n (H 0 0) p, qRH T n H (H 0 2 * H 0 0).toNat p) := rfl
theorem rd_2 : gRd T n H 2 p = (qb3 T n (H 0 0) (H 0 1) (.inl p), qbH T n H (.inl p)) := rfl
theorem rd_3 : gRd T n H 3 p = (pCn T n (H 0 0) (H 0 1) (.inl p), qmH T n H (.inl p)) := rfl
theorem rd_4 : gRd T n H 4 p = gStp T n 9 p H := rfl
theorem rd_5 : gRd T n H 5 p = qLd T n H p := rfl
theorem rd_6 : gRd T n H 6 p = (qt8 T n H (H 99) (H 0 3).toNat p, qTH T n H p) := rfl
theorem rd_7 : gRd T n H 7 p = (qp5 T n (.inl p), qdH T n H (.inl p)) := rfl
theorem rd_8 : gRd T n H 8 p = (qs T n H p, qsH T n H p) := rfl
theorem rd_9 : gRd T n H 9 p = (qf4 T n H (.inl p), qfH T n H (.inl p)) := rfl
theorem rw_m {W : Int} (hp : p ≤ n) : gM n p (qRw T n W p) := fun q e => by
  obtain ⟨-, -, -, h⟩ := qRw_i e
  rw [h]
  exact te_m ⟨Nat.le_refl _, hp⟩
theorem qp_m (m : gM n p s) : gM n p (qp5 T n s) := m.O.O.N.O.N
theorem t1_m {C : Nat → Int} {K : Nat} (hp : p ≤ n) : gM n p (qt1 T n C K p) := fun q e => by
  unfold qt1 at e
  by_cases z : tK T n p = 1 ∧ gWi (cs wLn) (tW T n p) 0 < 0
  · rw [if_pos z] at e
    by_cases y : gKm C (tW T n p) K 0 = true
    · rw [if_pos y] at e
      cases e
    · rw [if_neg y] at e
      have := Sum.inl.inj e
      rw [← this]
      exact te_m ⟨Nat.le_refl _, hp⟩
  · rw [if_neg z] at e
    cases e
theorem gd_m {c : Int} (m : gM n p s) : gM n p (gGd T n H c s) := fun q e => by
  obtain ⟨a, h1, h2, -⟩ := gGd_i e
  rw [h2]
  exact te_m (m a h1)
theorem t8_m {C : Nat → Int} {K : Nat} (hp : p ≤ n) : gM n p (qt8 T n H C K p) := (qp_m (gd_m (gM.Cb (gM.O (t1_m hp)))).O.N).O.N
theorem qs_m (hp : p ≤ n) : gM n p (qs T n H p) := fun q e => by
  obtain ⟨a, h1, h2, -⟩ := qs3_i e
  have m : gM n p (qs2 T n H p) := fun q e => by
    obtain ⟨a, h1, h2, -⟩ := gSq_i e
    rw [h2]
    exact te_m ((gM.z hp).Cb a h1)
  exact m.O q h2
theorem rd_hj {q : Nat} (hi : HI H) {l : Int} (l0 : 0 ≤ l) (l9 : l ≤ 9) (hf : gFa H l = 0) (hp : p ≤ n) (g : (gRd T n H l p).1 = .inl q) : HJ (gRd T n H l p).2 ∧ p ≤ q ∧ q ≤ n := by
  have z := gM.z hp
  by_cases l0' : l = 0
  · subst l0'
    have e := fo_0 hi hf
    subst e
    rw [rd_0] at g ⊢
    exact ⟨hj_hall g, (z.O.N.O.N.O.O.O.O) q g⟩
  by_cases l1' : l = 1
  · subst l1'
    have e := fo_1 hi hf
    rw [rd_1] at g ⊢
    exact ⟨hj_row e.1 e.2 g, rw_m hp q g⟩
  by_cases l2' : l = 2
  · subst l2'
    have e := fo_2 hi hf
    rw [rd_2] at g ⊢
    exact ⟨hj_band e.1 g, (z.Cn.O.N) q g⟩
  by_cases l3' : l = 3
  · subst l3'
    have e := fo_3 hi hf
    rw [rd_3] at g ⊢
    exact ⟨hj_home e.1 g, z.Cn q g⟩
  by_cases l4' : l = 4
  · subst l4'
    have e := fo_4 hi hf
    rw [rd_4] at g ⊢
    exact stp_hj _ _ _ _ hp e.1 g
  by_cases l5' : l = 5
  · subst l5'
    have e := fo_5 hi hf
    rw [rd_5] at g ⊢
    exact qld_hj hp e.1 g
  by_cases l6' : l = 6
  · subst l6'
    have e := fo_6 hi hf
    rw [rd_6] at g ⊢
    exact ⟨hj_table e.1 e.2.1 e.2.2.1 g, t8_m hp q g⟩
  by_cases l7' : l = 7
  · subst l7'
    have e := fo_7 hi hf
    rw [rd_7] at g ⊢
    exact ⟨hj_dancer e.1 e.2.1 e.2.2 g, qp_m z q g⟩
  by_cases l8' : l = 8
  · subst l8'
    have e := fo_8 hi hf
    rw [rd_8] at g ⊢
    exact ⟨hj_snake e.1 e.2.2.2 e.2.2.1 g, qs_m hp q g⟩
  have l9' : l = 9 := by omega
  subst l9'
  have e := fo_9 hi hf
  rw [rd_9] at g ⊢
  exact ⟨hj_frame e.1 e.2 g, (z.N.N.O.Cn) q g⟩
end LINEB
section READL
variable {w u : jmW} {T : Nat → Int} {n cnt p : Nat} {H : Nat → Nat → Int}
def RSI (w : jmW) (T : Nat → Int) (n cnt p : Nat) (H : Nat → Nat → Int) : Prop := RS w T n cnt p H (H 0 2 * H 0 0).toNat (H 0 3).toNat (H 99)
theorem RS.ix {N K q : Nat} {C : Nat → Int} (R : RS w T n cnt q H N K C) (eN : N = (H 0 2 * H 0 0).toNat) (eK : K = (H 0 3).toNat) (eC : C = H 99) : RSI w T n cnt q H := by
  subst eN eK eC
  exact R
theorem HJ.G (h : HJ H) {N : Nat} (hN : (N : Int) ≤ H 1 0) : ∀ k, k < N → 0 ≤ H 17 k ∧ H 17 k ≤ 3 := fun k hk => by
  have := h.2.2.2.1 (k : Int) (by omega) (by omega)
  rw [Int.toNat_natCast] at this
  exact this
theorem c_line (R : RSI w T n cnt p H) (hi : HI H) {l : Int} (l0 : 0 ≤ l) (l9 : l ≤ 9) (hf : gFa H l = 0) {i : Int} {tl : jmL} (ht : t1p 3 tl) : ∃ u, Fr rdP w u ∧ ((∃ q, (gRd T n H l p).1 = .inl q ∧ rn 20 (19, (0, jvr 101) :: (1, .inl (n : Int)) :: (2, .inl i) :: tl, [.inl l], w) = rn 20 (154, [(0, jvr 101), (1, .inl (n : Int)), (2, .inl i), (3, .inl 1)], [], u) ∧ RSI u T n cnt q (gRd T n H l p).2) ∨ (∃ x, (gRd T n H l p).1 = .inr x ∧ rn 20 (19, (0, jvr 101) :: (1, .inl (n : Int)) :: (2, .inl i) :: tl, [.inl l], w) = rn 20 (154, [(0, jvr 101), (1, .inl (n : Int)), (2, .inl i), (3, .inl 0)], [], u) ∧ RFx u T n cnt x)) := by
  have Rx : RS w T n cnt p H (H 0 2 * H 0 0).toNat (H 0 3).toNat (H 99) := R
  have js := t1p_js ht
  by_cases l0' : l = 0
  · subst l0'
    rw [rd_0]
    have e := fo_0 hi hf
    subst e
    obtain ⟨u, f, ⟨q, g, er, R2⟩ | ⟨x, g, er, R2⟩⟩ := l_hall Rx
    · refine ⟨u, f, Or.inl ⟨q, g, ?_, ?_⟩⟩
      · simp (disch := omega) only [p20_0, p20_1, p20_2, p20_5, p20_6, p20_8, p20_9, p20_12, p20_15, p20_16, p20_19, p20_72, p20_73, p20_76, p20_77, p20_80, p20_81, p20_84, p20_85, p20_88, p20_89, p20_92, p20_93, p20_96, p20_97, p20_100, p20_101, p20_104, p20_105, p20_108, p20_109, p20_112, p20_113, p20_116, p20_117, p20_120, p20_121, p20_124, p20_125, p20_128, p20_129, p20_132, p20_133, p20_136, p20_137, p20_140, p20_141, p20_144, p20_145, p20_148, p20_149, p20_152, p20_153, p20_155, p20_158, p20_159, p20_160, p20_161, p20_164, p20_165, p20_168, p20_169, p20_172, p20_173, p20_174, p20_175, p20_178, p20_181, p20_182, p20_183, p20_186, p20_189, p20_190, p20_191, p20_192, p20_195, p20_198, jwd_c, jwd_0, Nat.reduceLeDiff, Nat.reduceEqDiff, Nat.reduceAdd, Nat.reduceSub, Nat.reduceMul, Int.reduceAdd, Int.reduceSub, Int.reduceMul, Int.reduceNeg, Int.reduceEq, Int.reduceLT, Int.reduceLE, jq_ldi_i, jq_ldl_l, jq_lda_a, jq_inc_i, jq_gs_t, jq_gsb_t, jq_gb_t, jq_gr_2, jq_gr_4, jq_gw_2, jq_s_t, jq_b_t, jg_c, jg_n, js_c, js_n, jrm_c, jrm_n, j2_i, j2_l, j2_a, jq_c_i, jq_c_l, jq_c_0, jq_c_n, jwd_le, jw_c0, mS_I, mS_R, mS_J, mN_I, mN_R, mN_J, mR_I, mI_R, mJ_I, mJ_R, mI_J, mR_J, ↓reduceIte, decide_true, or_true, true_or, and_self, false_or, or_false, reduceCtorEq, Bool.false_eq_true, and_false, false_and, eq_self, true_and, and_true, zero_ne, ↓br_lt_t, ↓br_lt_f, ↓br_eq_t, ↓br_eq_f, ↓br_lz_t, ↓br_lz_f, ↓br_ez_t, ↓br_ez_f, ↓br_gz_t, ↓br_gz_f, jw_id, jin_t, jix_t, ↓ite_t, ↓ite_f, RS.a Rx, RS.r0 Rx, RS.h Rx, RS.r2 Rx, RS.l Rx, RS.s Rx, RS.k0 Rx, RS.k1 Rx, RS.k2 Rx, RS.k3 Rx, RS.k4 Rx, RS.k5 Rx, RS.f8 Rx, RS.f9 Rx, RS.t65 Rx, RS.t102 Rx, RS.t68 Rx, RS.t70 Rx, RS.t72 Rx, RS.t74 Rx, RS.t76 Rx, RS.t78 Rx, er, js]
      · have R3 := R2.ext (H2 := qHH T n gH0 p) (fun a b z => uH_n (by omega))
        refine R3.ix ?_ ?_ ?_
        · have e2 : qHH T n gH0 p 0 2 = 0 := by
            unfold qHH qhH
            rw [uH_n (by omega), uH_n (by omega), uH_n (by omega), uH_n (by omega), uH_n (by omega)]
            rfl
          have e3 : gH0 0 2 = 0 := rfl
          rw [e2, e3, Int.zero_mul, Int.zero_mul]
        · unfold qHH qhH
          rw [uH_n (by omega), uH_n (by omega), uH_n (by omega), uH_n (by omega), uH_n (by omega)]
        · funext b
          unfold qHH qhH
          rw [uH_n (by omega), uH_n (by omega), uH_n (by omega), uH_n (by omega), uH_n (by omega)]
    · refine ⟨u, f, Or.inr ⟨x, g, ?_, R2⟩⟩
      simp (disch := omega) only [p20_0, p20_1, p20_2, p20_5, p20_6, p20_8, p20_9, p20_12, p20_15, p20_16, p20_19, p20_72, p20_73, p20_76, p20_77, p20_80, p20_81, p20_84, p20_85, p20_88, p20_89, p20_92, p20_93, p20_96, p20_97, p20_100, p20_101, p20_104, p20_105, p20_108, p20_109, p20_112, p20_113, p20_116, p20_117, p20_120, p20_121, p20_124, p20_125, p20_128, p20_129, p20_132, p20_133, p20_136, p20_137, p20_140, p20_141, p20_144, p20_145, p20_148, p20_149, p20_152, p20_153, p20_155, p20_158, p20_159, p20_160, p20_161, p20_164, p20_165, p20_168, p20_169, p20_172, p20_173, p20_174, p20_175, p20_178, p20_181, p20_182, p20_183, p20_186, p20_189, p20_190, p20_191, p20_192, p20_195, p20_198, jwd_c, jwd_0, Nat.reduceLeDiff, Nat.reduceEqDiff, Nat.reduceAdd, Nat.reduceSub, Nat.reduceMul, Int.reduceAdd, Int.reduceSub, Int.reduceMul, Int.reduceNeg, Int.reduceEq, Int.reduceLT, Int.reduceLE, jq_ldi_i, jq_ldl_l, jq_lda_a, jq_inc_i, jq_gs_t, jq_gsb_t, jq_gb_t, jq_gr_2, jq_gr_4, jq_gw_2, jq_s_t, jq_b_t, jg_c, jg_n, js_c, js_n, jrm_c, jrm_n, j2_i, j2_l, j2_a, jq_c_i, jq_c_l, jq_c_0, jq_c_n, jwd_le, jw_c0, mS_I, mS_R, mS_J, mN_I, mN_R, mN_J, mR_I, mI_R, mJ_I, mJ_R, mI_J, mR_J, ↓reduceIte, decide_true, or_true, true_or, and_self, false_or, or_false, reduceCtorEq, Bool.false_eq_true, and_false, false_and, eq_self, true_and, and_true, zero_ne, ↓br_lt_t, ↓br_lt_f, ↓br_eq_t, ↓br_eq_f, ↓br_lz_t, ↓br_lz_f, ↓br_ez_t, ↓br_ez_f, ↓br_gz_t, ↓br_gz_f, jw_id, jin_t, jix_t, ↓ite_t, ↓ite_f, RS.a Rx, RS.r0 Rx, RS.h Rx, RS.r2 Rx, RS.l Rx, RS.s Rx, RS.k0 Rx, RS.k1 Rx, RS.k2 Rx, RS.k3 Rx, RS.k4 Rx, RS.k5 Rx, RS.f8 Rx, RS.f9 Rx, RS.t65 Rx, RS.t102 Rx, RS.t68 Rx, RS.t70 Rx, RS.t72 Rx, RS.t74 Rx, RS.t76 Rx, RS.t78 Rx, er, js]
  by_cases l1' : l = 1
  · subst l1'
    rw [rd_1]
    have e := fo_1 hi hf
    have k := e.1.1
    have b := e.1.2.1
    have kz := k
    unfold HW at kz
    have hp : 0 ≤ H 0 2 * H 0 0 ∧ H 0 2 * H 0 0 + H 0 0 ≤ 48 := by
      have hW := w6 k.2.1 k.2.2.1
      have e2 := e.2
      have k6 := k.2.2.2.2.1
      clear R Rx
      generalize H 0 2 = r at *
      rcases hW with h | h | h | h | h | h <;> rw [h] <;> omega
    obtain ⟨u, f, ⟨q, g, er, R2⟩ | ⟨x, g, er, R2⟩⟩ := l_row Rx (by omega) (by omega)
    · refine ⟨u, f, Or.inl ⟨q, g, ?_, ?_⟩⟩
      · simp (disch := omega) only [p20_0, p20_1, p20_2, p20_5, p20_6, p20_8, p20_9, p20_12, p20_15, p20_16, p20_19, p20_72, p20_73, p20_76, p20_77, p20_80, p20_81, p20_84, p20_85, p20_88, p20_89, p20_92, p20_93, p20_96, p20_97, p20_100, p20_101, p20_104, p20_105, p20_108, p20_109, p20_112, p20_113, p20_116, p20_117, p20_120, p20_121, p20_124, p20_125, p20_128, p20_129, p20_132, p20_133, p20_136, p20_137, p20_140, p20_141, p20_144, p20_145, p20_148, p20_149, p20_152, p20_153, p20_155, p20_158, p20_159, p20_160, p20_161, p20_164, p20_165, p20_168, p20_169, p20_172, p20_173, p20_174, p20_175, p20_178, p20_181, p20_182, p20_183, p20_186, p20_189, p20_190, p20_191, p20_192, p20_195, p20_198, jwd_c, jwd_0, Nat.reduceLeDiff, Nat.reduceEqDiff, Nat.reduceAdd, Nat.reduceSub, Nat.reduceMul, Int.reduceAdd, Int.reduceSub, Int.reduceMul, Int.reduceNeg, Int.reduceEq, Int.reduceLT, Int.reduceLE, jq_ldi_i, jq_ldl_l, jq_lda_a, jq_inc_i, jq_gs_t, jq_gsb_t, jq_gb_t, jq_gr_2, jq_gr_4, jq_gw_2, jq_s_t, jq_b_t, jg_c, jg_n, js_c, js_n, jrm_c, jrm_n, j2_i, j2_l, j2_a, jq_c_i, jq_c_l, jq_c_0, jq_c_n, jwd_le, jw_c0, mS_I, mS_R, mS_J, mN_I, mN_R, mN_J, mR_I, mI_R, mJ_I, mJ_R, mI_J, mR_J, ↓reduceIte, decide_true, or_true, true_or, and_self, false_or, or_false, reduceCtorEq, Bool.false_eq_true, and_false, false_and, eq_self, true_and, and_true, zero_ne, ↓br_lt_t, ↓br_lt_f, ↓br_eq_t, ↓br_eq_f, ↓br_lz_t, ↓br_lz_f, ↓br_ez_t, ↓br_ez_f, ↓br_gz_t, ↓br_gz_f, jw_id, jin_t, jix_t, ↓ite_t, ↓ite_f, RS.a Rx, RS.r0 Rx, RS.h Rx, RS.r2 Rx, RS.l Rx, RS.s Rx, RS.k0 Rx, RS.k1 Rx, RS.k2 Rx, RS.k3 Rx, RS.k4 Rx, RS.k5 Rx, RS.f8 Rx, RS.f9 Rx, RS.t65 Rx, RS.t102 Rx, RS.t68 Rx, RS.t70 Rx, RS.t72 Rx, RS.t74 Rx, RS.t76 Rx, RS.t78 Rx, er, js]
      · have h2 : qRH T n H (H 0 2 * H 0 0).toNat p 0 2 = H 0 2 + 1 := uH_s
        have hA : ∀ a b, ((a ≠ 0 ∨ b ≠ 2) ∧ a ≠ 17) → qRH T n H (H 0 2 * H 0 0).toNat p a b = H a b := fun a b z => (uH_n (by omega)).trans (if_neg (by omega))
        refine R2.ix ?_ ?_ ?_
        · rw [h2, hA 0 0 (by omega), Int.add_mul, Int.one_mul]
          omega
        · rw [hA 0 3 (by omega)]
        · funext b
          rw [hA 99 b (by omega)]
    · refine ⟨u, f, Or.inr ⟨x, g, ?_, R2⟩⟩
      simp (disch := omega) only [p20_0, p20_1, p20_2, p20_5, p20_6, p20_8, p20_9, p20_12, p20_15, p20_16, p20_19, p20_72, p20_73, p20_76, p20_77, p20_80, p20_81, p20_84, p20_85, p20_88, p20_89, p20_92, p20_93, p20_96, p20_97, p20_100, p20_101, p20_104, p20_105, p20_108, p20_109, p20_112, p20_113, p20_116, p20_117, p20_120, p20_121, p20_124, p20_125, p20_128, p20_129, p20_132, p20_133, p20_136, p20_137, p20_140, p20_141, p20_144, p20_145, p20_148, p20_149, p20_152, p20_153, p20_155, p20_158, p20_159, p20_160, p20_161, p20_164, p20_165, p20_168, p20_169, p20_172, p20_173, p20_174, p20_175, p20_178, p20_181, p20_182, p20_183, p20_186, p20_189, p20_190, p20_191, p20_192, p20_195, p20_198, jwd_c, jwd_0, Nat.reduceLeDiff, Nat.reduceEqDiff, Nat.reduceAdd, Nat.reduceSub, Nat.reduceMul, Int.reduceAdd, Int.reduceSub, Int.reduceMul, Int.reduceNeg, Int.reduceEq, Int.reduceLT, Int.reduceLE, jq_ldi_i, jq_ldl_l, jq_lda_a, jq_inc_i, jq_gs_t, jq_gsb_t, jq_gb_t, jq_gr_2, jq_gr_4, jq_gw_2, jq_s_t, jq_b_t, jg_c, jg_n, js_c, js_n, jrm_c, jrm_n, j2_i, j2_l, j2_a, jq_c_i, jq_c_l, jq_c_0, jq_c_n, jwd_le, jw_c0, mS_I, mS_R, mS_J, mN_I, mN_R, mN_J, mR_I, mI_R, mJ_I, mJ_R, mI_J, mR_J, ↓reduceIte, decide_true, or_true, true_or, and_self, false_or, or_false, reduceCtorEq, Bool.false_eq_true, and_false, false_and, eq_self, true_and, and_true, zero_ne, ↓br_lt_t, ↓br_lt_f, ↓br_eq_t, ↓br_eq_f, ↓br_lz_t, ↓br_lz_f, ↓br_ez_t, ↓br_ez_f, ↓br_gz_t, ↓br_gz_f, jw_id, jin_t, jix_t, ↓ite_t, ↓ite_f, RS.a Rx, RS.r0 Rx, RS.h Rx, RS.r2 Rx, RS.l Rx, RS.s Rx, RS.k0 Rx, RS.k1 Rx, RS.k2 Rx, RS.k3 Rx, RS.k4 Rx, RS.k5 Rx, RS.f8 Rx, RS.f9 Rx, RS.t65 Rx, RS.t102 Rx, RS.t68 Rx, RS.t70 Rx, RS.t72 Rx, RS.t74 Rx, RS.t76 Rx, RS.t78 Rx, er, js]
  by_cases l2' : l = 2
  · subst l2'
    rw [rd_2]
    have e := fo_2 hi hf
    have k := e.1.1
    obtain ⟨u, f, ⟨q, g, er, R2⟩ | ⟨x, g, er, R2⟩⟩ := l_band Rx ⟨k.2.1, k.2.2.1, k.2.2.2.1, k.2.2.2.2.1⟩
    · refine ⟨u, f, Or.inl ⟨q, g, ?_, ?_⟩⟩
      · simp (disch := omega) only [p20_0, p20_1, p20_2, p20_5, p20_6, p20_8, p20_9, p20_12, p20_15, p20_16, p20_19, p20_72, p20_73, p20_76, p20_77, p20_80, p20_81, p20_84, p20_85, p20_88, p20_89, p20_92, p20_93, p20_96, p20_97, p20_100, p20_101, p20_104, p20_105, p20_108, p20_109, p20_112, p20_113, p20_116, p20_117, p20_120, p20_121, p20_124, p20_125, p20_128, p20_129, p20_132, p20_133, p20_136, p20_137, p20_140, p20_141, p20_144, p20_145, p20_148, p20_149, p20_152, p20_153, p20_155, p20_158, p20_159, p20_160, p20_161, p20_164, p20_165, p20_168, p20_169, p20_172, p20_173, p20_174, p20_175, p20_178, p20_181, p20_182, p20_183, p20_186, p20_189, p20_190, p20_191, p20_192, p20_195, p20_198, jwd_c, jwd_0, Nat.reduceLeDiff, Nat.reduceEqDiff, Nat.reduceAdd, Nat.reduceSub, Nat.reduceMul, Int.reduceAdd, Int.reduceSub, Int.reduceMul, Int.reduceNeg, Int.reduceEq, Int.reduceLT, Int.reduceLE, jq_ldi_i, jq_ldl_l, jq_lda_a, jq_inc_i, jq_gs_t, jq_gsb_t, jq_gb_t, jq_gr_2, jq_gr_4, jq_gw_2, jq_s_t, jq_b_t, jg_c, jg_n, js_c, js_n, jrm_c, jrm_n, j2_i, j2_l, j2_a, jq_c_i, jq_c_l, jq_c_0, jq_c_n, jwd_le, jw_c0, mS_I, mS_R, mS_J, mN_I, mN_R, mN_J, mR_I, mI_R, mJ_I, mJ_R, mI_J, mR_J, ↓reduceIte, decide_true, or_true, true_or, and_self, false_or, or_false, reduceCtorEq, Bool.false_eq_true, and_false, false_and, eq_self, true_and, and_true, zero_ne, ↓br_lt_t, ↓br_lt_f, ↓br_eq_t, ↓br_eq_f, ↓br_lz_t, ↓br_lz_f, ↓br_ez_t, ↓br_ez_f, ↓br_gz_t, ↓br_gz_f, jw_id, jin_t, jix_t, ↓ite_t, ↓ite_f, RS.a Rx, RS.r0 Rx, RS.h Rx, RS.r2 Rx, RS.l Rx, RS.s Rx, RS.k0 Rx, RS.k1 Rx, RS.k2 Rx, RS.k3 Rx, RS.k4 Rx, RS.k5 Rx, RS.f8 Rx, RS.f9 Rx, RS.t65 Rx, RS.t102 Rx, RS.t68 Rx, RS.t70 Rx, RS.t72 Rx, RS.t74 Rx, RS.t76 Rx, RS.t78 Rx, er, js]
      · have hA : ∀ a b, (a ≠ 0 ∨ (b ≠ 10 ∧ b ≠ 11)) → qbH T n H (.inl p) a b = H a b := fun a b z => (uH_n (by omega)).trans (uH_n (by omega))
        refine R2.ix ?_ ?_ ?_
        · rw [hA 0 2 (by omega), hA 0 0 (by omega)]
        · rw [hA 0 3 (by omega)]
        · funext b
          rw [hA 99 b (by omega)]
    · refine ⟨u, f, Or.inr ⟨x, g, ?_, R2⟩⟩
      simp (disch := omega) only [p20_0, p20_1, p20_2, p20_5, p20_6, p20_8, p20_9, p20_12, p20_15, p20_16, p20_19, p20_72, p20_73, p20_76, p20_77, p20_80, p20_81, p20_84, p20_85, p20_88, p20_89, p20_92, p20_93, p20_96, p20_97, p20_100, p20_101, p20_104, p20_105, p20_108, p20_109, p20_112, p20_113, p20_116, p20_117, p20_120, p20_121, p20_124, p20_125, p20_128, p20_129, p20_132, p20_133, p20_136, p20_137, p20_140, p20_141, p20_144, p20_145, p20_148, p20_149, p20_152, p20_153, p20_155, p20_158, p20_159, p20_160, p20_161, p20_164, p20_165, p20_168, p20_169, p20_172, p20_173, p20_174, p20_175, p20_178, p20_181, p20_182, p20_183, p20_186, p20_189, p20_190, p20_191, p20_192, p20_195, p20_198, jwd_c, jwd_0, Nat.reduceLeDiff, Nat.reduceEqDiff, Nat.reduceAdd, Nat.reduceSub, Nat.reduceMul, Int.reduceAdd, Int.reduceSub, Int.reduceMul, Int.reduceNeg, Int.reduceEq, Int.reduceLT, Int.reduceLE, jq_ldi_i, jq_ldl_l, jq_lda_a, jq_inc_i, jq_gs_t, jq_gsb_t, jq_gb_t, jq_gr_2, jq_gr_4, jq_gw_2, jq_s_t, jq_b_t, jg_c, jg_n, js_c, js_n, jrm_c, jrm_n, j2_i, j2_l, j2_a, jq_c_i, jq_c_l, jq_c_0, jq_c_n, jwd_le, jw_c0, mS_I, mS_R, mS_J, mN_I, mN_R, mN_J, mR_I, mI_R, mJ_I, mJ_R, mI_J, mR_J, ↓reduceIte, decide_true, or_true, true_or, and_self, false_or, or_false, reduceCtorEq, Bool.false_eq_true, and_false, false_and, eq_self, true_and, and_true, zero_ne, ↓br_lt_t, ↓br_lt_f, ↓br_eq_t, ↓br_eq_f, ↓br_lz_t, ↓br_lz_f, ↓br_ez_t, ↓br_ez_f, ↓br_gz_t, ↓br_gz_f, jw_id, jin_t, jix_t, ↓ite_t, ↓ite_f, RS.a Rx, RS.r0 Rx, RS.h Rx, RS.r2 Rx, RS.l Rx, RS.s Rx, RS.k0 Rx, RS.k1 Rx, RS.k2 Rx, RS.k3 Rx, RS.k4 Rx, RS.k5 Rx, RS.f8 Rx, RS.f9 Rx, RS.t65 Rx, RS.t102 Rx, RS.t68 Rx, RS.t70 Rx, RS.t72 Rx, RS.t74 Rx, RS.t76 Rx, RS.t78 Rx, er, js]
  by_cases l3' : l = 3
  · subst l3'
    rw [rd_3]
    have e := fo_3 hi hf
    have k := e.1.1
    obtain ⟨u, f, ⟨q, g, er, R2⟩ | ⟨x, g, er, R2⟩⟩ := l_home Rx ⟨k.2.1, k.2.2.1, k.2.2.2.1, k.2.2.2.2.1⟩
    · refine ⟨u, f, Or.inl ⟨q, g, ?_, ?_⟩⟩
      · simp (disch := omega) only [p20_0, p20_1, p20_2, p20_5, p20_6, p20_8, p20_9, p20_12, p20_15, p20_16, p20_19, p20_72, p20_73, p20_76, p20_77, p20_80, p20_81, p20_84, p20_85, p20_88, p20_89, p20_92, p20_93, p20_96, p20_97, p20_100, p20_101, p20_104, p20_105, p20_108, p20_109, p20_112, p20_113, p20_116, p20_117, p20_120, p20_121, p20_124, p20_125, p20_128, p20_129, p20_132, p20_133, p20_136, p20_137, p20_140, p20_141, p20_144, p20_145, p20_148, p20_149, p20_152, p20_153, p20_155, p20_158, p20_159, p20_160, p20_161, p20_164, p20_165, p20_168, p20_169, p20_172, p20_173, p20_174, p20_175, p20_178, p20_181, p20_182, p20_183, p20_186, p20_189, p20_190, p20_191, p20_192, p20_195, p20_198, jwd_c, jwd_0, Nat.reduceLeDiff, Nat.reduceEqDiff, Nat.reduceAdd, Nat.reduceSub, Nat.reduceMul, Int.reduceAdd, Int.reduceSub, Int.reduceMul, Int.reduceNeg, Int.reduceEq, Int.reduceLT, Int.reduceLE, jq_ldi_i, jq_ldl_l, jq_lda_a, jq_inc_i, jq_gs_t, jq_gsb_t, jq_gb_t, jq_gr_2, jq_gr_4, jq_gw_2, jq_s_t, jq_b_t, jg_c, jg_n, js_c, js_n, jrm_c, jrm_n, j2_i, j2_l, j2_a, jq_c_i, jq_c_l, jq_c_0, jq_c_n, jwd_le, jw_c0, mS_I, mS_R, mS_J, mN_I, mN_R, mN_J, mR_I, mI_R, mJ_I, mJ_R, mI_J, mR_J, ↓reduceIte, decide_true, or_true, true_or, and_self, false_or, or_false, reduceCtorEq, Bool.false_eq_true, and_false, false_and, eq_self, true_and, and_true, zero_ne, ↓br_lt_t, ↓br_lt_f, ↓br_eq_t, ↓br_eq_f, ↓br_lz_t, ↓br_lz_f, ↓br_ez_t, ↓br_ez_f, ↓br_gz_t, ↓br_gz_f, jw_id, jin_t, jix_t, ↓ite_t, ↓ite_f, RS.a Rx, RS.r0 Rx, RS.h Rx, RS.r2 Rx, RS.l Rx, RS.s Rx, RS.k0 Rx, RS.k1 Rx, RS.k2 Rx, RS.k3 Rx, RS.k4 Rx, RS.k5 Rx, RS.f8 Rx, RS.f9 Rx, RS.t65 Rx, RS.t102 Rx, RS.t68 Rx, RS.t70 Rx, RS.t72 Rx, RS.t74 Rx, RS.t76 Rx, RS.t78 Rx, er, js]
      · have hA : ∀ a b, (a ≠ 0 ∨ b ≠ 12) → qmH T n H (.inl p) a b = H a b := fun a b z => uH_n (by omega)
        refine R2.ix ?_ ?_ ?_
        · rw [hA 0 2 (by omega), hA 0 0 (by omega)]
        · rw [hA 0 3 (by omega)]
        · funext b
          rw [hA 99 b (by omega)]
    · refine ⟨u, f, Or.inr ⟨x, g, ?_, R2⟩⟩
      simp (disch := omega) only [p20_0, p20_1, p20_2, p20_5, p20_6, p20_8, p20_9, p20_12, p20_15, p20_16, p20_19, p20_72, p20_73, p20_76, p20_77, p20_80, p20_81, p20_84, p20_85, p20_88, p20_89, p20_92, p20_93, p20_96, p20_97, p20_100, p20_101, p20_104, p20_105, p20_108, p20_109, p20_112, p20_113, p20_116, p20_117, p20_120, p20_121, p20_124, p20_125, p20_128, p20_129, p20_132, p20_133, p20_136, p20_137, p20_140, p20_141, p20_144, p20_145, p20_148, p20_149, p20_152, p20_153, p20_155, p20_158, p20_159, p20_160, p20_161, p20_164, p20_165, p20_168, p20_169, p20_172, p20_173, p20_174, p20_175, p20_178, p20_181, p20_182, p20_183, p20_186, p20_189, p20_190, p20_191, p20_192, p20_195, p20_198, jwd_c, jwd_0, Nat.reduceLeDiff, Nat.reduceEqDiff, Nat.reduceAdd, Nat.reduceSub, Nat.reduceMul, Int.reduceAdd, Int.reduceSub, Int.reduceMul, Int.reduceNeg, Int.reduceEq, Int.reduceLT, Int.reduceLE, jq_ldi_i, jq_ldl_l, jq_lda_a, jq_inc_i, jq_gs_t, jq_gsb_t, jq_gb_t, jq_gr_2, jq_gr_4, jq_gw_2, jq_s_t, jq_b_t, jg_c, jg_n, js_c, js_n, jrm_c, jrm_n, j2_i, j2_l, j2_a, jq_c_i, jq_c_l, jq_c_0, jq_c_n, jwd_le, jw_c0, mS_I, mS_R, mS_J, mN_I, mN_R, mN_J, mR_I, mI_R, mJ_I, mJ_R, mI_J, mR_J, ↓reduceIte, decide_true, or_true, true_or, and_self, false_or, or_false, reduceCtorEq, Bool.false_eq_true, and_false, false_and, eq_self, true_and, and_true, zero_ne, ↓br_lt_t, ↓br_lt_f, ↓br_eq_t, ↓br_eq_f, ↓br_lz_t, ↓br_lz_f, ↓br_ez_t, ↓br_ez_f, ↓br_gz_t, ↓br_gz_f, jw_id, jin_t, jix_t, ↓ite_t, ↓ite_f, RS.a Rx, RS.r0 Rx, RS.h Rx, RS.r2 Rx, RS.l Rx, RS.s Rx, RS.k0 Rx, RS.k1 Rx, RS.k2 Rx, RS.k3 Rx, RS.k4 Rx, RS.k5 Rx, RS.f8 Rx, RS.f9 Rx, RS.t65 Rx, RS.t102 Rx, RS.t68 Rx, RS.t70 Rx, RS.t72 Rx, RS.t74 Rx, RS.t76 Rx, RS.t78 Rx, er, js]
  by_cases l4' : l = 4
  · subst l4'
    rw [rd_4]
    have e := fo_4 hi hf
    have k := e.1.1
    obtain ⟨u, f, ⟨q, g, er, R2⟩ | ⟨x, g, er, R2⟩⟩ := l_steps Rx e.2
    · refine ⟨u, f, Or.inl ⟨q, g, ?_, ?_⟩⟩
      · simp (disch := omega) only [p20_0, p20_1, p20_2, p20_5, p20_6, p20_8, p20_9, p20_12, p20_15, p20_16, p20_19, p20_72, p20_73, p20_76, p20_77, p20_80, p20_81, p20_84, p20_85, p20_88, p20_89, p20_92, p20_93, p20_96, p20_97, p20_100, p20_101, p20_104, p20_105, p20_108, p20_109, p20_112, p20_113, p20_116, p20_117, p20_120, p20_121, p20_124, p20_125, p20_128, p20_129, p20_132, p20_133, p20_136, p20_137, p20_140, p20_141, p20_144, p20_145, p20_148, p20_149, p20_152, p20_153, p20_155, p20_158, p20_159, p20_160, p20_161, p20_164, p20_165, p20_168, p20_169, p20_172, p20_173, p20_174, p20_175, p20_178, p20_181, p20_182, p20_183, p20_186, p20_189, p20_190, p20_191, p20_192, p20_195, p20_198, jwd_c, jwd_0, Nat.reduceLeDiff, Nat.reduceEqDiff, Nat.reduceAdd, Nat.reduceSub, Nat.reduceMul, Int.reduceAdd, Int.reduceSub, Int.reduceMul, Int.reduceNeg, Int.reduceEq, Int.reduceLT, Int.reduceLE, jq_ldi_i, jq_ldl_l, jq_lda_a, jq_inc_i, jq_gs_t, jq_gsb_t, jq_gb_t, jq_gr_2, jq_gr_4, jq_gw_2, jq_s_t, jq_b_t, jg_c, jg_n, js_c, js_n, jrm_c, jrm_n, j2_i, j2_l, j2_a, jq_c_i, jq_c_l, jq_c_0, jq_c_n, jwd_le, jw_c0, mS_I, mS_R, mS_J, mN_I, mN_R, mN_J, mR_I, mI_R, mJ_I, mJ_R, mI_J, mR_J, ↓reduceIte, decide_true, or_true, true_or, and_self, false_or, or_false, reduceCtorEq, Bool.false_eq_true, and_false, false_and, eq_self, true_and, and_true, zero_ne, ↓br_lt_t, ↓br_lt_f, ↓br_eq_t, ↓br_eq_f, ↓br_lz_t, ↓br_lz_f, ↓br_ez_t, ↓br_ez_f, ↓br_gz_t, ↓br_gz_f, jw_id, jin_t, jix_t, ↓ite_t, ↓ite_f, RS.a Rx, RS.r0 Rx, RS.h Rx, RS.r2 Rx, RS.l Rx, RS.s Rx, RS.k0 Rx, RS.k1 Rx, RS.k2 Rx, RS.k3 Rx, RS.k4 Rx, RS.k5 Rx, RS.f8 Rx, RS.f9 Rx, RS.t65 Rx, RS.t102 Rx, RS.t68 Rx, RS.t70 Rx, RS.t72 Rx, RS.t74 Rx, RS.t76 Rx, RS.t78 Rx, er, js]
      · have hA : ∀ a b, ((a ≠ 0 ∨ b ≠ 5) ∧ a ≠ 27) → (gStp T n 9 p H).2 a b = H a b := fun a b z => stp_a _ _ _ _ _ z
        refine R2.ix ?_ ?_ ?_
        · rw [hA 0 2 (by omega), hA 0 0 (by omega)]
        · rw [hA 0 3 (by omega)]
        · funext b
          rw [hA 99 b (by omega)]
    · refine ⟨u, f, Or.inr ⟨x, g, ?_, R2⟩⟩
      simp (disch := omega) only [p20_0, p20_1, p20_2, p20_5, p20_6, p20_8, p20_9, p20_12, p20_15, p20_16, p20_19, p20_72, p20_73, p20_76, p20_77, p20_80, p20_81, p20_84, p20_85, p20_88, p20_89, p20_92, p20_93, p20_96, p20_97, p20_100, p20_101, p20_104, p20_105, p20_108, p20_109, p20_112, p20_113, p20_116, p20_117, p20_120, p20_121, p20_124, p20_125, p20_128, p20_129, p20_132, p20_133, p20_136, p20_137, p20_140, p20_141, p20_144, p20_145, p20_148, p20_149, p20_152, p20_153, p20_155, p20_158, p20_159, p20_160, p20_161, p20_164, p20_165, p20_168, p20_169, p20_172, p20_173, p20_174, p20_175, p20_178, p20_181, p20_182, p20_183, p20_186, p20_189, p20_190, p20_191, p20_192, p20_195, p20_198, jwd_c, jwd_0, Nat.reduceLeDiff, Nat.reduceEqDiff, Nat.reduceAdd, Nat.reduceSub, Nat.reduceMul, Int.reduceAdd, Int.reduceSub, Int.reduceMul, Int.reduceNeg, Int.reduceEq, Int.reduceLT, Int.reduceLE, jq_ldi_i, jq_ldl_l, jq_lda_a, jq_inc_i, jq_gs_t, jq_gsb_t, jq_gb_t, jq_gr_2, jq_gr_4, jq_gw_2, jq_s_t, jq_b_t, jg_c, jg_n, js_c, js_n, jrm_c, jrm_n, j2_i, j2_l, j2_a, jq_c_i, jq_c_l, jq_c_0, jq_c_n, jwd_le, jw_c0, mS_I, mS_R, mS_J, mN_I, mN_R, mN_J, mR_I, mI_R, mJ_I, mJ_R, mI_J, mR_J, ↓reduceIte, decide_true, or_true, true_or, and_self, false_or, or_false, reduceCtorEq, Bool.false_eq_true, and_false, false_and, eq_self, true_and, and_true, zero_ne, ↓br_lt_t, ↓br_lt_f, ↓br_eq_t, ↓br_eq_f, ↓br_lz_t, ↓br_lz_f, ↓br_ez_t, ↓br_ez_f, ↓br_gz_t, ↓br_gz_f, jw_id, jin_t, jix_t, ↓ite_t, ↓ite_f, RS.a Rx, RS.r0 Rx, RS.h Rx, RS.r2 Rx, RS.l Rx, RS.s Rx, RS.k0 Rx, RS.k1 Rx, RS.k2 Rx, RS.k3 Rx, RS.k4 Rx, RS.k5 Rx, RS.f8 Rx, RS.f9 Rx, RS.t65 Rx, RS.t102 Rx, RS.t68 Rx, RS.t70 Rx, RS.t72 Rx, RS.t74 Rx, RS.t76 Rx, RS.t78 Rx, er, js]
  by_cases l5' : l = 5
  · subst l5'
    rw [rd_5]
    have e := fo_5 hi hf
    have k := e.1.1
    obtain ⟨u, f, ⟨q, g, er, R2⟩ | ⟨x, g, er, R2⟩⟩ := l_leads Rx e.2
    · refine ⟨u, f, Or.inl ⟨q, g, ?_, ?_⟩⟩
      · simp (disch := omega) only [p20_0, p20_1, p20_2, p20_5, p20_6, p20_8, p20_9, p20_12, p20_15, p20_16, p20_19, p20_72, p20_73, p20_76, p20_77, p20_80, p20_81, p20_84, p20_85, p20_88, p20_89, p20_92, p20_93, p20_96, p20_97, p20_100, p20_101, p20_104, p20_105, p20_108, p20_109, p20_112, p20_113, p20_116, p20_117, p20_120, p20_121, p20_124, p20_125, p20_128, p20_129, p20_132, p20_133, p20_136, p20_137, p20_140, p20_141, p20_144, p20_145, p20_148, p20_149, p20_152, p20_153, p20_155, p20_158, p20_159, p20_160, p20_161, p20_164, p20_165, p20_168, p20_169, p20_172, p20_173, p20_174, p20_175, p20_178, p20_181, p20_182, p20_183, p20_186, p20_189, p20_190, p20_191, p20_192, p20_195, p20_198, jwd_c, jwd_0, Nat.reduceLeDiff, Nat.reduceEqDiff, Nat.reduceAdd, Nat.reduceSub, Nat.reduceMul, Int.reduceAdd, Int.reduceSub, Int.reduceMul, Int.reduceNeg, Int.reduceEq, Int.reduceLT, Int.reduceLE, jq_ldi_i, jq_ldl_l, jq_lda_a, jq_inc_i, jq_gs_t, jq_gsb_t, jq_gb_t, jq_gr_2, jq_gr_4, jq_gw_2, jq_s_t, jq_b_t, jg_c, jg_n, js_c, js_n, jrm_c, jrm_n, j2_i, j2_l, j2_a, jq_c_i, jq_c_l, jq_c_0, jq_c_n, jwd_le, jw_c0, mS_I, mS_R, mS_J, mN_I, mN_R, mN_J, mR_I, mI_R, mJ_I, mJ_R, mI_J, mR_J, ↓reduceIte, decide_true, or_true, true_or, and_self, false_or, or_false, reduceCtorEq, Bool.false_eq_true, and_false, false_and, eq_self, true_and, and_true, zero_ne, ↓br_lt_t, ↓br_lt_f, ↓br_eq_t, ↓br_eq_f, ↓br_lz_t, ↓br_lz_f, ↓br_ez_t, ↓br_ez_f, ↓br_gz_t, ↓br_gz_f, jw_id, jin_t, jix_t, ↓ite_t, ↓ite_f, RS.a Rx, RS.r0 Rx, RS.h Rx, RS.r2 Rx, RS.l Rx, RS.s Rx, RS.k0 Rx, RS.k1 Rx, RS.k2 Rx, RS.k3 Rx, RS.k4 Rx, RS.k5 Rx, RS.f8 Rx, RS.f9 Rx, RS.t65 Rx, RS.t102 Rx, RS.t68 Rx, RS.t70 Rx, RS.t72 Rx, RS.t74 Rx, RS.t76 Rx, RS.t78 Rx, er, js]
      · have hA : ∀ a b, ((a ≠ 0 ∨ (b ≠ 6 ∧ b ≠ 7)) ∧ a ≠ 28) → (qLd T n H p).2 a b = H a b := fun a b z => qld_a _ _ z
        refine R2.ix ?_ ?_ ?_
        · rw [hA 0 2 (by omega), hA 0 0 (by omega)]
        · rw [hA 0 3 (by omega)]
        · funext b
          rw [hA 99 b (by omega)]
    · refine ⟨u, f, Or.inr ⟨x, g, ?_, R2⟩⟩
      simp (disch := omega) only [p20_0, p20_1, p20_2, p20_5, p20_6, p20_8, p20_9, p20_12, p20_15, p20_16, p20_19, p20_72, p20_73, p20_76, p20_77, p20_80, p20_81, p20_84, p20_85, p20_88, p20_89, p20_92, p20_93, p20_96, p20_97, p20_100, p20_101, p20_104, p20_105, p20_108, p20_109, p20_112, p20_113, p20_116, p20_117, p20_120, p20_121, p20_124, p20_125, p20_128, p20_129, p20_132, p20_133, p20_136, p20_137, p20_140, p20_141, p20_144, p20_145, p20_148, p20_149, p20_152, p20_153, p20_155, p20_158, p20_159, p20_160, p20_161, p20_164, p20_165, p20_168, p20_169, p20_172, p20_173, p20_174, p20_175, p20_178, p20_181, p20_182, p20_183, p20_186, p20_189, p20_190, p20_191, p20_192, p20_195, p20_198, jwd_c, jwd_0, Nat.reduceLeDiff, Nat.reduceEqDiff, Nat.reduceAdd, Nat.reduceSub, Nat.reduceMul, Int.reduceAdd, Int.reduceSub, Int.reduceMul, Int.reduceNeg, Int.reduceEq, Int.reduceLT, Int.reduceLE, jq_ldi_i, jq_ldl_l, jq_lda_a, jq_inc_i, jq_gs_t, jq_gsb_t, jq_gb_t, jq_gr_2, jq_gr_4, jq_gw_2, jq_s_t, jq_b_t, jg_c, jg_n, js_c, js_n, jrm_c, jrm_n, j2_i, j2_l, j2_a, jq_c_i, jq_c_l, jq_c_0, jq_c_n, jwd_le, jw_c0, mS_I, mS_R, mS_J, mN_I, mN_R, mN_J, mR_I, mI_R, mJ_I, mJ_R, mI_J, mR_J, ↓reduceIte, decide_true, or_true, true_or, and_self, false_or, or_false, reduceCtorEq, Bool.false_eq_true, and_false, false_and, eq_self, true_and, and_true, zero_ne, ↓br_lt_t, ↓br_lt_f, ↓br_eq_t, ↓br_eq_f, ↓br_lz_t, ↓br_lz_f, ↓br_ez_t, ↓br_ez_f, ↓br_gz_t, ↓br_gz_f, jw_id, jin_t, jix_t, ↓ite_t, ↓ite_f, RS.a Rx, RS.r0 Rx, RS.h Rx, RS.r2 Rx, RS.l Rx, RS.s Rx, RS.k0 Rx, RS.k1 Rx, RS.k2 Rx, RS.k3 Rx, RS.k4 Rx, RS.k5 Rx, RS.f8 Rx, RS.f9 Rx, RS.t65 Rx, RS.t102 Rx, RS.t68 Rx, RS.t70 Rx, RS.t72 Rx, RS.t74 Rx, RS.t76 Rx, RS.t78 Rx, er, js]
  by_cases l6' : l = 6
  · subst l6'
    rw [rd_6]
    have e := fo_6 hi hf
    have k := e.1.1
    have b := e.1.2.1
    have kz := k
    unfold HW at kz
    have eN : ((H 0 2 * H 0 0).toNat : Int) = H 0 0 * H 0 1 := by
      rw [e.2.2.2, Int.mul_comm (H 0 1)]
      omega
    obtain ⟨u, f, ⟨q, g, er, R2⟩ | ⟨x, g, er, R2⟩⟩ := l_table Rx ⟨k.2.1, k.2.2.1, k.2.2.2.1, k.2.2.2.2.1⟩ eN rfl (by omega) (e.1.G (by omega))
    · refine ⟨u, f, Or.inl ⟨q, g, ?_, ?_⟩⟩
      · simp (disch := omega) only [p20_0, p20_1, p20_2, p20_5, p20_6, p20_8, p20_9, p20_12, p20_15, p20_16, p20_19, p20_72, p20_73, p20_76, p20_77, p20_80, p20_81, p20_84, p20_85, p20_88, p20_89, p20_92, p20_93, p20_96, p20_97, p20_100, p20_101, p20_104, p20_105, p20_108, p20_109, p20_112, p20_113, p20_116, p20_117, p20_120, p20_121, p20_124, p20_125, p20_128, p20_129, p20_132, p20_133, p20_136, p20_137, p20_140, p20_141, p20_144, p20_145, p20_148, p20_149, p20_152, p20_153, p20_155, p20_158, p20_159, p20_160, p20_161, p20_164, p20_165, p20_168, p20_169, p20_172, p20_173, p20_174, p20_175, p20_178, p20_181, p20_182, p20_183, p20_186, p20_189, p20_190, p20_191, p20_192, p20_195, p20_198, jwd_c, jwd_0, Nat.reduceLeDiff, Nat.reduceEqDiff, Nat.reduceAdd, Nat.reduceSub, Nat.reduceMul, Int.reduceAdd, Int.reduceSub, Int.reduceMul, Int.reduceNeg, Int.reduceEq, Int.reduceLT, Int.reduceLE, jq_ldi_i, jq_ldl_l, jq_lda_a, jq_inc_i, jq_gs_t, jq_gsb_t, jq_gb_t, jq_gr_2, jq_gr_4, jq_gw_2, jq_s_t, jq_b_t, jg_c, jg_n, js_c, js_n, jrm_c, jrm_n, j2_i, j2_l, j2_a, jq_c_i, jq_c_l, jq_c_0, jq_c_n, jwd_le, jw_c0, mS_I, mS_R, mS_J, mN_I, mN_R, mN_J, mR_I, mI_R, mJ_I, mJ_R, mI_J, mR_J, ↓reduceIte, decide_true, or_true, true_or, and_self, false_or, or_false, reduceCtorEq, Bool.false_eq_true, and_false, false_and, eq_self, true_and, and_true, zero_ne, ↓br_lt_t, ↓br_lt_f, ↓br_eq_t, ↓br_eq_f, ↓br_lz_t, ↓br_lz_f, ↓br_ez_t, ↓br_ez_f, ↓br_gz_t, ↓br_gz_f, jw_id, jin_t, jix_t, ↓ite_t, ↓ite_f, RS.a Rx, RS.r0 Rx, RS.h Rx, RS.r2 Rx, RS.l Rx, RS.s Rx, RS.k0 Rx, RS.k1 Rx, RS.k2 Rx, RS.k3 Rx, RS.k4 Rx, RS.k5 Rx, RS.f8 Rx, RS.f9 Rx, RS.t65 Rx, RS.t102 Rx, RS.t68 Rx, RS.t70 Rx, RS.t72 Rx, RS.t74 Rx, RS.t76 Rx, RS.t78 Rx, er, js]
      · have R3 := R2.ext (H2 := qTH T n H p) (fun a b z => uH_n (by omega))
        have hA : ∀ b, b ≠ 3 → qTH T n H p 0 b = H 0 b := fun b z => (uH_n (by omega)).trans ((rowH_n (by omega) (by omega)).trans (uH_n (by omega)))
        refine R3.ix ?_ ?_ ?_
        · rw [hA 2 (by omega), hA 0 (by omega)]
        · have e3 : qTH T n H p 0 3 = ((H 0 3).toNat : Int) + 1 := (uH_n (by omega)).trans (rowH_c (by omega))
          rw [e3]
          omega
        · funext i
          by_cases z : i = (H 0 3).toNat
          · rw [if_pos z, z]
            exact uH_s.symm
          · rw [if_neg z]
            exact ((uH_n (by omega)).trans ((rowH_n (by omega) (by omega)).trans (uH_n (by omega)))).symm
    · refine ⟨u, f, Or.inr ⟨x, g, ?_, R2⟩⟩
      simp (disch := omega) only [p20_0, p20_1, p20_2, p20_5, p20_6, p20_8, p20_9, p20_12, p20_15, p20_16, p20_19, p20_72, p20_73, p20_76, p20_77, p20_80, p20_81, p20_84, p20_85, p20_88, p20_89, p20_92, p20_93, p20_96, p20_97, p20_100, p20_101, p20_104, p20_105, p20_108, p20_109, p20_112, p20_113, p20_116, p20_117, p20_120, p20_121, p20_124, p20_125, p20_128, p20_129, p20_132, p20_133, p20_136, p20_137, p20_140, p20_141, p20_144, p20_145, p20_148, p20_149, p20_152, p20_153, p20_155, p20_158, p20_159, p20_160, p20_161, p20_164, p20_165, p20_168, p20_169, p20_172, p20_173, p20_174, p20_175, p20_178, p20_181, p20_182, p20_183, p20_186, p20_189, p20_190, p20_191, p20_192, p20_195, p20_198, jwd_c, jwd_0, Nat.reduceLeDiff, Nat.reduceEqDiff, Nat.reduceAdd, Nat.reduceSub, Nat.reduceMul, Int.reduceAdd, Int.reduceSub, Int.reduceMul, Int.reduceNeg, Int.reduceEq, Int.reduceLT, Int.reduceLE, jq_ldi_i, jq_ldl_l, jq_lda_a, jq_inc_i, jq_gs_t, jq_gsb_t, jq_gb_t, jq_gr_2, jq_gr_4, jq_gw_2, jq_s_t, jq_b_t, jg_c, jg_n, js_c, js_n, jrm_c, jrm_n, j2_i, j2_l, j2_a, jq_c_i, jq_c_l, jq_c_0, jq_c_n, jwd_le, jw_c0, mS_I, mS_R, mS_J, mN_I, mN_R, mN_J, mR_I, mI_R, mJ_I, mJ_R, mI_J, mR_J, ↓reduceIte, decide_true, or_true, true_or, and_self, false_or, or_false, reduceCtorEq, Bool.false_eq_true, and_false, false_and, eq_self, true_and, and_true, zero_ne, ↓br_lt_t, ↓br_lt_f, ↓br_eq_t, ↓br_eq_f, ↓br_lz_t, ↓br_lz_f, ↓br_ez_t, ↓br_ez_f, ↓br_gz_t, ↓br_gz_f, jw_id, jin_t, jix_t, ↓ite_t, ↓ite_f, RS.a Rx, RS.r0 Rx, RS.h Rx, RS.r2 Rx, RS.l Rx, RS.s Rx, RS.k0 Rx, RS.k1 Rx, RS.k2 Rx, RS.k3 Rx, RS.k4 Rx, RS.k5 Rx, RS.f8 Rx, RS.f9 Rx, RS.t65 Rx, RS.t102 Rx, RS.t68 Rx, RS.t70 Rx, RS.t72 Rx, RS.t74 Rx, RS.t76 Rx, RS.t78 Rx, er, js]
  by_cases l7' : l = 7
  · subst l7'
    rw [rd_7]
    have e := fo_7 hi hf
    have k := e.1.1
    have b := e.1.2.1
    have kz := k
    unfold HW at kz
    obtain ⟨u, f, ⟨q, g, er, R2⟩ | ⟨x, g, er, R2⟩⟩ := l_dancer Rx (by omega)
    · refine ⟨u, f, Or.inl ⟨q, g, ?_, ?_⟩⟩
      · simp (disch := omega) only [p20_0, p20_1, p20_2, p20_5, p20_6, p20_8, p20_9, p20_12, p20_15, p20_16, p20_19, p20_72, p20_73, p20_76, p20_77, p20_80, p20_81, p20_84, p20_85, p20_88, p20_89, p20_92, p20_93, p20_96, p20_97, p20_100, p20_101, p20_104, p20_105, p20_108, p20_109, p20_112, p20_113, p20_116, p20_117, p20_120, p20_121, p20_124, p20_125, p20_128, p20_129, p20_132, p20_133, p20_136, p20_137, p20_140, p20_141, p20_144, p20_145, p20_148, p20_149, p20_152, p20_153, p20_155, p20_158, p20_159, p20_160, p20_161, p20_164, p20_165, p20_168, p20_169, p20_172, p20_173, p20_174, p20_175, p20_178, p20_181, p20_182, p20_183, p20_186, p20_189, p20_190, p20_191, p20_192, p20_195, p20_198, jwd_c, jwd_0, Nat.reduceLeDiff, Nat.reduceEqDiff, Nat.reduceAdd, Nat.reduceSub, Nat.reduceMul, Int.reduceAdd, Int.reduceSub, Int.reduceMul, Int.reduceNeg, Int.reduceEq, Int.reduceLT, Int.reduceLE, jq_ldi_i, jq_ldl_l, jq_lda_a, jq_inc_i, jq_gs_t, jq_gsb_t, jq_gb_t, jq_gr_2, jq_gr_4, jq_gw_2, jq_s_t, jq_b_t, jg_c, jg_n, js_c, js_n, jrm_c, jrm_n, j2_i, j2_l, j2_a, jq_c_i, jq_c_l, jq_c_0, jq_c_n, jwd_le, jw_c0, mS_I, mS_R, mS_J, mN_I, mN_R, mN_J, mR_I, mI_R, mJ_I, mJ_R, mI_J, mR_J, ↓reduceIte, decide_true, or_true, true_or, and_self, false_or, or_false, reduceCtorEq, Bool.false_eq_true, and_false, false_and, eq_self, true_and, and_true, zero_ne, ↓br_lt_t, ↓br_lt_f, ↓br_eq_t, ↓br_eq_f, ↓br_lz_t, ↓br_lz_f, ↓br_ez_t, ↓br_ez_f, ↓br_gz_t, ↓br_gz_f, jw_id, jin_t, jix_t, ↓ite_t, ↓ite_f, RS.a Rx, RS.r0 Rx, RS.h Rx, RS.r2 Rx, RS.l Rx, RS.s Rx, RS.k0 Rx, RS.k1 Rx, RS.k2 Rx, RS.k3 Rx, RS.k4 Rx, RS.k5 Rx, RS.f8 Rx, RS.f9 Rx, RS.t65 Rx, RS.t102 Rx, RS.t68 Rx, RS.t70 Rx, RS.t72 Rx, RS.t74 Rx, RS.t76 Rx, RS.t78 Rx, er, js]
      · have hA : ∀ a b, ((a ≠ 0 ∨ b ≠ 4) ∧ (a < 24 ∨ 26 < a)) → qdH T n H (.inl p) a b = H a b := fun a b z => rowH_n (by omega) (by omega)
        refine R2.ix ?_ ?_ ?_
        · rw [hA 0 2 (by omega), hA 0 0 (by omega)]
        · rw [hA 0 3 (by omega)]
        · funext b
          rw [hA 99 b (by omega)]
    · refine ⟨u, f, Or.inr ⟨x, g, ?_, R2⟩⟩
      simp (disch := omega) only [p20_0, p20_1, p20_2, p20_5, p20_6, p20_8, p20_9, p20_12, p20_15, p20_16, p20_19, p20_72, p20_73, p20_76, p20_77, p20_80, p20_81, p20_84, p20_85, p20_88, p20_89, p20_92, p20_93, p20_96, p20_97, p20_100, p20_101, p20_104, p20_105, p20_108, p20_109, p20_112, p20_113, p20_116, p20_117, p20_120, p20_121, p20_124, p20_125, p20_128, p20_129, p20_132, p20_133, p20_136, p20_137, p20_140, p20_141, p20_144, p20_145, p20_148, p20_149, p20_152, p20_153, p20_155, p20_158, p20_159, p20_160, p20_161, p20_164, p20_165, p20_168, p20_169, p20_172, p20_173, p20_174, p20_175, p20_178, p20_181, p20_182, p20_183, p20_186, p20_189, p20_190, p20_191, p20_192, p20_195, p20_198, jwd_c, jwd_0, Nat.reduceLeDiff, Nat.reduceEqDiff, Nat.reduceAdd, Nat.reduceSub, Nat.reduceMul, Int.reduceAdd, Int.reduceSub, Int.reduceMul, Int.reduceNeg, Int.reduceEq, Int.reduceLT, Int.reduceLE, jq_ldi_i, jq_ldl_l, jq_lda_a, jq_inc_i, jq_gs_t, jq_gsb_t, jq_gb_t, jq_gr_2, jq_gr_4, jq_gw_2, jq_s_t, jq_b_t, jg_c, jg_n, js_c, js_n, jrm_c, jrm_n, j2_i, j2_l, j2_a, jq_c_i, jq_c_l, jq_c_0, jq_c_n, jwd_le, jw_c0, mS_I, mS_R, mS_J, mN_I, mN_R, mN_J, mR_I, mI_R, mJ_I, mJ_R, mI_J, mR_J, ↓reduceIte, decide_true, or_true, true_or, and_self, false_or, or_false, reduceCtorEq, Bool.false_eq_true, and_false, false_and, eq_self, true_and, and_true, zero_ne, ↓br_lt_t, ↓br_lt_f, ↓br_eq_t, ↓br_eq_f, ↓br_lz_t, ↓br_lz_f, ↓br_ez_t, ↓br_ez_f, ↓br_gz_t, ↓br_gz_f, jw_id, jin_t, jix_t, ↓ite_t, ↓ite_f, RS.a Rx, RS.r0 Rx, RS.h Rx, RS.r2 Rx, RS.l Rx, RS.s Rx, RS.k0 Rx, RS.k1 Rx, RS.k2 Rx, RS.k3 Rx, RS.k4 Rx, RS.k5 Rx, RS.f8 Rx, RS.f9 Rx, RS.t65 Rx, RS.t102 Rx, RS.t68 Rx, RS.t70 Rx, RS.t72 Rx, RS.t74 Rx, RS.t76 Rx, RS.t78 Rx, er, js]
  by_cases l8' : l = 8
  · subst l8'
    rw [rd_8]
    have e := fo_8 hi hf
    have k := e.1.1
    have b := e.1.2.1
    have kz := k
    unfold HW at kz
    have eN : (H 0 2 * H 0 0).toNat = (H 1 0).toNat := by rw [e.2.2.1, k.1, Int.mul_comm]
    obtain ⟨u, f, ⟨q, g, er, R2⟩ | ⟨x, g, er, R2⟩⟩ := l_snake Rx k eN e.1.2.2.2.1 (by omega)
    · refine ⟨u, f, Or.inl ⟨q, g, ?_, ?_⟩⟩
      · simp (disch := omega) only [p20_0, p20_1, p20_2, p20_5, p20_6, p20_8, p20_9, p20_12, p20_15, p20_16, p20_19, p20_72, p20_73, p20_76, p20_77, p20_80, p20_81, p20_84, p20_85, p20_88, p20_89, p20_92, p20_93, p20_96, p20_97, p20_100, p20_101, p20_104, p20_105, p20_108, p20_109, p20_112, p20_113, p20_116, p20_117, p20_120, p20_121, p20_124, p20_125, p20_128, p20_129, p20_132, p20_133, p20_136, p20_137, p20_140, p20_141, p20_144, p20_145, p20_148, p20_149, p20_152, p20_153, p20_155, p20_158, p20_159, p20_160, p20_161, p20_164, p20_165, p20_168, p20_169, p20_172, p20_173, p20_174, p20_175, p20_178, p20_181, p20_182, p20_183, p20_186, p20_189, p20_190, p20_191, p20_192, p20_195, p20_198, jwd_c, jwd_0, Nat.reduceLeDiff, Nat.reduceEqDiff, Nat.reduceAdd, Nat.reduceSub, Nat.reduceMul, Int.reduceAdd, Int.reduceSub, Int.reduceMul, Int.reduceNeg, Int.reduceEq, Int.reduceLT, Int.reduceLE, jq_ldi_i, jq_ldl_l, jq_lda_a, jq_inc_i, jq_gs_t, jq_gsb_t, jq_gb_t, jq_gr_2, jq_gr_4, jq_gw_2, jq_s_t, jq_b_t, jg_c, jg_n, js_c, js_n, jrm_c, jrm_n, j2_i, j2_l, j2_a, jq_c_i, jq_c_l, jq_c_0, jq_c_n, jwd_le, jw_c0, mS_I, mS_R, mS_J, mN_I, mN_R, mN_J, mR_I, mI_R, mJ_I, mJ_R, mI_J, mR_J, ↓reduceIte, decide_true, or_true, true_or, and_self, false_or, or_false, reduceCtorEq, Bool.false_eq_true, and_false, false_and, eq_self, true_and, and_true, zero_ne, ↓br_lt_t, ↓br_lt_f, ↓br_eq_t, ↓br_eq_f, ↓br_lz_t, ↓br_lz_f, ↓br_ez_t, ↓br_ez_f, ↓br_gz_t, ↓br_gz_f, jw_id, jin_t, jix_t, ↓ite_t, ↓ite_f, RS.a Rx, RS.r0 Rx, RS.h Rx, RS.r2 Rx, RS.l Rx, RS.s Rx, RS.k0 Rx, RS.k1 Rx, RS.k2 Rx, RS.k3 Rx, RS.k4 Rx, RS.k5 Rx, RS.f8 Rx, RS.f9 Rx, RS.t65 Rx, RS.t102 Rx, RS.t68 Rx, RS.t70 Rx, RS.t72 Rx, RS.t74 Rx, RS.t76 Rx, RS.t78 Rx, er, js]
      · have hA : ∀ a b, (a ≠ 0 ∨ (b ≠ 13 ∧ b ≠ 14)) → qsH T n H p a b = H a b := fun a b z => (uH_n (by omega)).trans (uH_n (by omega))
        refine R2.ix ?_ ?_ ?_
        · rw [hA 0 2 (by omega), hA 0 0 (by omega)]
        · rw [hA 0 3 (by omega)]
        · funext b
          rw [hA 99 b (by omega)]
    · refine ⟨u, f, Or.inr ⟨x, g, ?_, R2⟩⟩
      simp (disch := omega) only [p20_0, p20_1, p20_2, p20_5, p20_6, p20_8, p20_9, p20_12, p20_15, p20_16, p20_19, p20_72, p20_73, p20_76, p20_77, p20_80, p20_81, p20_84, p20_85, p20_88, p20_89, p20_92, p20_93, p20_96, p20_97, p20_100, p20_101, p20_104, p20_105, p20_108, p20_109, p20_112, p20_113, p20_116, p20_117, p20_120, p20_121, p20_124, p20_125, p20_128, p20_129, p20_132, p20_133, p20_136, p20_137, p20_140, p20_141, p20_144, p20_145, p20_148, p20_149, p20_152, p20_153, p20_155, p20_158, p20_159, p20_160, p20_161, p20_164, p20_165, p20_168, p20_169, p20_172, p20_173, p20_174, p20_175, p20_178, p20_181, p20_182, p20_183, p20_186, p20_189, p20_190, p20_191, p20_192, p20_195, p20_198, jwd_c, jwd_0, Nat.reduceLeDiff, Nat.reduceEqDiff, Nat.reduceAdd, Nat.reduceSub, Nat.reduceMul, Int.reduceAdd, Int.reduceSub, Int.reduceMul, Int.reduceNeg, Int.reduceEq, Int.reduceLT, Int.reduceLE, jq_ldi_i, jq_ldl_l, jq_lda_a, jq_inc_i, jq_gs_t, jq_gsb_t, jq_gb_t, jq_gr_2, jq_gr_4, jq_gw_2, jq_s_t, jq_b_t, jg_c, jg_n, js_c, js_n, jrm_c, jrm_n, j2_i, j2_l, j2_a, jq_c_i, jq_c_l, jq_c_0, jq_c_n, jwd_le, jw_c0, mS_I, mS_R, mS_J, mN_I, mN_R, mN_J, mR_I, mI_R, mJ_I, mJ_R, mI_J, mR_J, ↓reduceIte, decide_true, or_true, true_or, and_self, false_or, or_false, reduceCtorEq, Bool.false_eq_true, and_false, false_and, eq_self, true_and, and_true, zero_ne, ↓br_lt_t, ↓br_lt_f, ↓br_eq_t, ↓br_eq_f, ↓br_lz_t, ↓br_lz_f, ↓br_ez_t, ↓br_ez_f, ↓br_gz_t, ↓br_gz_f, jw_id, jin_t, jix_t, ↓ite_t, ↓ite_f, RS.a Rx, RS.r0 Rx, RS.h Rx, RS.r2 Rx, RS.l Rx, RS.s Rx, RS.k0 Rx, RS.k1 Rx, RS.k2 Rx, RS.k3 Rx, RS.k4 Rx, RS.k5 Rx, RS.f8 Rx, RS.f9 Rx, RS.t65 Rx, RS.t102 Rx, RS.t68 Rx, RS.t70 Rx, RS.t72 Rx, RS.t74 Rx, RS.t76 Rx, RS.t78 Rx, er, js]
  have l9' : l = 9 := by omega
  subst l9'
  rw [rd_9]
  have e := fo_9 hi hf
  have k := e.1.1
  have b := e.1.2.1
  have kz := k
  unfold HW at kz
  obtain ⟨u, f, ⟨q, g, er, R2⟩ | ⟨x, g, er, R2⟩⟩ := l_frame Rx ⟨k.2.1, k.2.2.1, k.2.2.2.1, k.2.2.2.2.1⟩ (by omega) (by omega)
  · refine ⟨u, f, Or.inl ⟨q, g, ?_, ?_⟩⟩
    · simp (disch := omega) only [p20_0, p20_1, p20_2, p20_5, p20_6, p20_8, p20_9, p20_12, p20_15, p20_16, p20_19, p20_72, p20_73, p20_76, p20_77, p20_80, p20_81, p20_84, p20_85, p20_88, p20_89, p20_92, p20_93, p20_96, p20_97, p20_100, p20_101, p20_104, p20_105, p20_108, p20_109, p20_112, p20_113, p20_116, p20_117, p20_120, p20_121, p20_124, p20_125, p20_128, p20_129, p20_132, p20_133, p20_136, p20_137, p20_140, p20_141, p20_144, p20_145, p20_148, p20_149, p20_152, p20_153, p20_155, p20_158, p20_159, p20_160, p20_161, p20_164, p20_165, p20_168, p20_169, p20_172, p20_173, p20_174, p20_175, p20_178, p20_181, p20_182, p20_183, p20_186, p20_189, p20_190, p20_191, p20_192, p20_195, p20_198, jwd_c, jwd_0, Nat.reduceLeDiff, Nat.reduceEqDiff, Nat.reduceAdd, Nat.reduceSub, Nat.reduceMul, Int.reduceAdd, Int.reduceSub, Int.reduceMul, Int.reduceNeg, Int.reduceEq, Int.reduceLT, Int.reduceLE, jq_ldi_i, jq_ldl_l, jq_lda_a, jq_inc_i, jq_gs_t, jq_gsb_t, jq_gb_t, jq_gr_2, jq_gr_4, jq_gw_2, jq_s_t, jq_b_t, jg_c, jg_n, js_c, js_n, jrm_c, jrm_n, j2_i, j2_l, j2_a, jq_c_i, jq_c_l, jq_c_0, jq_c_n, jwd_le, jw_c0, mS_I, mS_R, mS_J, mN_I, mN_R, mN_J, mR_I, mI_R, mJ_I, mJ_R, mI_J, mR_J, ↓reduceIte, decide_true, or_true, true_or, and_self, false_or, or_false, reduceCtorEq, Bool.false_eq_true, and_false, false_and, eq_self, true_and, and_true, zero_ne, ↓br_lt_t, ↓br_lt_f, ↓br_eq_t, ↓br_eq_f, ↓br_lz_t, ↓br_lz_f, ↓br_ez_t, ↓br_ez_f, ↓br_gz_t, ↓br_gz_f, jw_id, jin_t, jix_t, ↓ite_t, ↓ite_f, RS.a Rx, RS.r0 Rx, RS.h Rx, RS.r2 Rx, RS.l Rx, RS.s Rx, RS.k0 Rx, RS.k1 Rx, RS.k2 Rx, RS.k3 Rx, RS.k4 Rx, RS.k5 Rx, RS.f8 Rx, RS.f9 Rx, RS.t65 Rx, RS.t102 Rx, RS.t68 Rx, RS.t70 Rx, RS.t72 Rx, RS.t74 Rx, RS.t76 Rx, RS.t78 Rx, er, js]
    · have hA : ∀ a b, ((a ≠ 0 ∨ b ≠ 8) ∧ (a < 29 ∨ 31 < a)) → qfH T n H (.inl p) a b = H a b := fun a b z => rowH_n (by omega) (by omega)
      refine R2.ix ?_ ?_ ?_
      · rw [hA 0 2 (by omega), hA 0 0 (by omega)]
      · rw [hA 0 3 (by omega)]
      · funext b
        rw [hA 99 b (by omega)]
  · refine ⟨u, f, Or.inr ⟨x, g, ?_, R2⟩⟩
    simp (disch := omega) only [p20_0, p20_1, p20_2, p20_5, p20_6, p20_8, p20_9, p20_12, p20_15, p20_16, p20_19, p20_72, p20_73, p20_76, p20_77, p20_80, p20_81, p20_84, p20_85, p20_88, p20_89, p20_92, p20_93, p20_96, p20_97, p20_100, p20_101, p20_104, p20_105, p20_108, p20_109, p20_112, p20_113, p20_116, p20_117, p20_120, p20_121, p20_124, p20_125, p20_128, p20_129, p20_132, p20_133, p20_136, p20_137, p20_140, p20_141, p20_144, p20_145, p20_148, p20_149, p20_152, p20_153, p20_155, p20_158, p20_159, p20_160, p20_161, p20_164, p20_165, p20_168, p20_169, p20_172, p20_173, p20_174, p20_175, p20_178, p20_181, p20_182, p20_183, p20_186, p20_189, p20_190, p20_191, p20_192, p20_195, p20_198, jwd_c, jwd_0, Nat.reduceLeDiff, Nat.reduceEqDiff, Nat.reduceAdd, Nat.reduceSub, Nat.reduceMul, Int.reduceAdd, Int.reduceSub, Int.reduceMul, Int.reduceNeg, Int.reduceEq, Int.reduceLT, Int.reduceLE, jq_ldi_i, jq_ldl_l, jq_lda_a, jq_inc_i, jq_gs_t, jq_gsb_t, jq_gb_t, jq_gr_2, jq_gr_4, jq_gw_2, jq_s_t, jq_b_t, jg_c, jg_n, js_c, js_n, jrm_c, jrm_n, j2_i, j2_l, j2_a, jq_c_i, jq_c_l, jq_c_0, jq_c_n, jwd_le, jw_c0, mS_I, mS_R, mS_J, mN_I, mN_R, mN_J, mR_I, mI_R, mJ_I, mJ_R, mI_J, mR_J, ↓reduceIte, decide_true, or_true, true_or, and_self, false_or, or_false, reduceCtorEq, Bool.false_eq_true, and_false, false_and, eq_self, true_and, and_true, zero_ne, ↓br_lt_t, ↓br_lt_f, ↓br_eq_t, ↓br_eq_f, ↓br_lz_t, ↓br_lz_f, ↓br_ez_t, ↓br_ez_f, ↓br_gz_t, ↓br_gz_f, jw_id, jin_t, jix_t, ↓ite_t, ↓ite_f, RS.a Rx, RS.r0 Rx, RS.h Rx, RS.r2 Rx, RS.l Rx, RS.s Rx, RS.k0 Rx, RS.k1 Rx, RS.k2 Rx, RS.k3 Rx, RS.k4 Rx, RS.k5 Rx, RS.f8 Rx, RS.f9 Rx, RS.t65 Rx, RS.t102 Rx, RS.t68 Rx, RS.t70 Rx, RS.t72 Rx, RS.t74 Rx, RS.t76 Rx, RS.t78 Rx, er, js]
end READL
