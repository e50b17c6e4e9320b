/-! The reader, pure: how far it goes; what a Hall holds while it is read. -/
def gM (n p : Nat) (s : gSg) : Prop := ∀ q, s = .inl q → p ≤ q ∧ q ≤ n
section PUREB
variable {T : Nat → Int} {n p : Nat} {H H2 : Nat → Nat → Int} {s : gSg} {q : Nat} {ws : List Int} {lo hi W V k : Int}
theorem te_m {a : Nat} (h : p ≤ a ∧ a ≤ n) : p ≤ tE T n a ∧ tE T n a ≤ n := by
  have b := ts_bd (T := T) h.2
  have c := tke_bd (T := T) h.2
  omega
theorem pO_i (h : pO T n ws s = .inl q) : ∃ a, s = .inl a ∧ q = tE T n a ∧ 0 ≤ pI T n ws s ∧ pI T n ws s < ws.length := by
  cases s with
  | inl a =>
    have e : pO T n ws (.inl a) = if 0 ≤ pI T n ws (.inl a) then .inl (tE T n a) else .inr (1, (tS T n a : Int)) := rfl
    have eI : pI T n ws (.inl a) = if tK T n a = 1 then gWi ws (tW T n a) 0 else -1 := rfl
    have b := wi_bd ws (tW T n a) 0 (by omega)
    rw [e] at h
    by_cases z : 0 ≤ pI T n ws (.inl a)
    · rw [if_pos z] at h
      refine ⟨a, rfl, (Sum.inl.inj h).symm, z, ?_⟩
      by_cases y : tK T n a = 1
      · rw [if_pos y] at eI
        omega
      · rw [if_neg y] at eI
        omega
    · rw [if_neg z] at h
      cases h
  | inr x =>
    have h : (Sum.inr x : gSg) = .inl q := h
    cases h
theorem pB_i (h : pB T n lo hi s = .inl q) : s = .inl q ∧ lo ≤ pV T n lo hi s ∧ pV T n lo hi s ≤ hi := by
  cases s with
  | inl a =>
    have e : pB T n lo hi (.inl a) = if tK T n a = 2 then (if lo ≤ tN T n a ∧ tN T n a ≤ hi then .inl a else .inr (4, (tS T n a : Int))) else .inr (1, (tS T n a : Int)) := rfl
    have eV : pV T n lo hi (.inl a) = if tK T n a = 2 ∧ lo ≤ tN T n a ∧ tN T n a ≤ hi then tN T n a else lo := rfl
    rw [e] at h
    by_cases z : tK T n a = 2
    · rw [if_pos z] at h
      by_cases y : lo ≤ tN T n a ∧ tN T n a ≤ hi
      · rw [if_pos y] at h
        rw [if_pos ⟨z, y⟩] at eV
        exact ⟨h, by omega, by omega⟩
      · rw [if_neg y] at h
        cases h
    · rw [if_neg z] at h
      cases h
  | inr x =>
    have h : (Sum.inr x : gSg) = .inl q := h
    cases h
theorem pG_i (h : pG T n s = .inl q) : ∃ a, s = .inl a ∧ q = tE T n a := by
  cases s with
  | inl a => exact ⟨a, rfl, (Sum.inl.inj h).symm⟩
  | inr x =>
    have h : (Sum.inr x : gSg) = .inl q := h
    cases h
theorem pN_i (h : pN T n lo hi s = .inl q) : ∃ a, s = .inl a ∧ q = tE T n a ∧ lo ≤ pV T n lo hi s ∧ pV T n lo hi s ≤ hi := by
  obtain ⟨a, h1, h2⟩ := pG_i h
  obtain ⟨h3, h4, h5⟩ := pB_i h1
  exact ⟨a, h3, h2, h4, h5⟩
theorem pS_i (h : pS T n k s = .inl q) : ∃ a, s = .inl a ∧ q = tE T n a := by
  cases s with
  | inl a =>
    have e : pS T n k (.inl a) = if tK T n a = k then .inl (tE T n a) else .inr (1, (tS T n a : Int)) := rfl
    rw [e] at h
    by_cases z : tK T n a = k
    · rw [if_pos z] at h
      exact ⟨a, rfl, (Sum.inl.inj h).symm⟩
    · rw [if_neg z] at h
      cases h
  | inr x =>
    have h : (Sum.inr x : gSg) = .inl q := h
    cases h
theorem pCb_i (hW : 0 ≤ W) (h : pCb T n W V s = .inl q) : 0 ≤ pCell T n W V s ∧ pCell T n W V s < W * V := by
  obtain ⟨h1, v1, v2⟩ := pB_i h
  obtain ⟨a, h2, -⟩ := pS_i h1
  obtain ⟨b, -, -, x1, x2⟩ := pN_i h2
  have e : pCell T n W V s = W * pV T n 0 (V - 1) (pC2 T n W s) + pV T n 0 (W - 1) s := rfl
  rw [e]
  generalize pV T n 0 (V - 1) (pC2 T n W s) = y at *
  generalize pV T n 0 (W - 1) s = x at *
  have m1 := Int.mul_nonneg hW v1
  have m2 := Int.mul_le_mul_of_nonneg_left v2 hW
  rw [Int.mul_sub, Int.mul_one] at m2
  omega
theorem pCn_i (hW : 0 ≤ W) (h : pCn T n W V s = .inl q) : 0 ≤ pCell T n W V s ∧ pCell T n W V s < W * V := by
  obtain ⟨a, h1, -⟩ := pG_i h
  exact pCb_i hW h1
theorem gM.z (h : p ≤ n) : gM n p (.inl p) := fun q e => by
  have := Sum.inl.inj e
  omega
theorem gM.x {x : Int × Int} : gM n p (.inr x) := fun q e => by cases e
theorem gM.O (m : gM n p s) : gM n p (pO T n ws s) := fun q e => by
  obtain ⟨a, h1, h2, -⟩ := pO_i e
  rw [h2]
  exact te_m (m a h1)
theorem gM.B (m : gM n p s) : gM n p (pB T n lo hi s) := fun q e => m q (pB_i e).1
theorem gM.G (m : gM n p s) : gM n p (pG T n s) := fun q e => by
  obtain ⟨a, h1, h2⟩ := pG_i e
  rw [h2]
  exact te_m (m a h1)
theorem gM.N (m : gM n p s) : gM n p (pN T n lo hi s) := m.B.G
theorem gM.S (m : gM n p s) : gM n p (pS T n k s) := fun q e => by
  obtain ⟨a, h1, h2⟩ := pS_i e
  rw [h2]
  exact te_m (m a h1)
theorem gM.Cb (m : gM n p s) : gM n p (pCb T n W V s) := m.N.S.B
theorem gM.Cn (m : gM n p s) : gM n p (pCn T n W V s) := m.Cb.G
theorem to_cg (e0 : H2 0 0 = H 0 0) (e1 : H2 1 0 = H 1 0) (c s : Int) : gTo H2 c s = gTo H c s := by
  unfold gTo
  rw [e0, e1]
theorem bk_cg (e : ∀ b, b = 0 ∨ b = 13 ∨ b = 14 → H2 0 b = H 0 b) (e1 : H2 1 0 = H 1 0) : ∀ m, gBk H2 m = gBk H m := by
  intro m
  induction m with
  | zero => exact e 13 (by omega)
  | succ m ih =>
    have e2 : gBk H2 (m + 1) = gTo H2 (gBk H2 m) (H2 0 14 + 2) := rfl
    rw [e2, ih, e 14 (by omega), to_cg (e 0 (by omega)) e1]
    rfl
theorem HS.cg (h : HS H) (e : ∀ b, b = 0 ∨ b = 4 ∨ b = 13 ∨ b = 14 → H2 0 b = H 0 b) (e1 : H2 1 0 = H 1 0) (e17 : ∀ k, H2 17 k = H 17 k) : HS H2 := by
  intro m hm
  rw [e 4 (by omega)] at hm
  have := h m hm
  rw [bk_cg (fun b hb => e b (by omega)) e1, e1, e17]
  exact this
theorem hj_band (h : HJ H) (g : qb3 T n (H 0 0) (H 0 1) s = .inl q) : HJ (qbH T n H s) := by
  obtain ⟨h1, h2, h3, h4, h5, h6, h7, h8, h9, h10, h11⟩ := h
  have hw : 0 ≤ H 0 0 := by
    have := h1.2.1
    omega
  have hk := h1.1
  obtain ⟨a, g1, -, v1, v2⟩ := pN_i g
  obtain ⟨b, g2, -⟩ := pO_i g1
  have gc := pCn_i hw g2
  have e : qbH T n H s = uH (uH H 0 11 (pV T n 1 9 (qb2 T n (H 0 0) (H 0 1) s))) 0 10 (pCell T n (H 0 0) (H 0 1) s) := rfl
  rw [e]
  generalize pV T n 1 9 (qb2 T n (H 0 0) (H 0 1) s) = v at *
  generalize pCell T n (H 0 0) (H 0 1) s = c at *
  rw [← hk] at gc
  have hA : ∀ a b, (a ≠ 0 ∨ (b ≠ 10 ∧ b ≠ 11)) → uH (uH H 0 11 v) 0 10 c a b = H a b := fun a b z => by rw [uH_n (by omega), uH_n (by omega)]
  have x10 : uH (uH H 0 11 v) 0 10 c 0 10 = c := uH_s
  have x11 : uH (uH H 0 11 v) 0 10 c 0 11 = v := by rw [uH_n (by omega), uH_s]
  generalize uH (uH H 0 11 v) 0 10 c = H2 at *
  clear e g1 g2 g
  have x0 := hA 0 0 (by omega)
  have x1 := hA 0 1 (by omega)
  have x2 := hA 0 2 (by omega)
  have x3 := hA 0 3 (by omega)
  have x4 := hA 0 4 (by omega)
  have x5 := hA 0 5 (by omega)
  have x6 := hA 0 6 (by omega)
  have x7 := hA 0 7 (by omega)
  have x8 := hA 0 8 (by omega)
  have x12 := hA 0 12 (by omega)
  have x13 := hA 0 13 (by omega)
  have x14 := hA 0 14 (by omega)
  have x15 := hA 0 15 (by omega)
  have x16 := hA 0 16 (by omega)
  have x100 := hA 1 0 (by omega)
  obtain ⟨b1, b2, b3, b4, b5, b6, b7, b8, b9, b10, b11, b12, b13, b14⟩ := h2
  obtain ⟨c1, c2, c3, c4, c5, c6, c7, c8, c9, c10, c11, c12, c13, c14, c15, c16⟩ := h3
  refine ⟨?_, ⟨by omega, by omega, by omega, by omega, by omega, by omega, by omega, by omega, by omega, by omega, by omega, by omega, by omega, by omega⟩, ⟨by omega, by omega, by omega, fun z => by omega, by omega, by omega, by omega, by omega, by omega, by omega, by omega, by omega, by omega, by omega, ?_, ?_⟩, ?_, ?_, ?_, ?_, ?_, ?_, ?_, ?_⟩
  · unfold HW
    rw [x0, x1, x100]
    exact h1
  · rw [x15]
    exact c15
  · rw [x16]
    exact c16
  · intro c z1 z2
    rw [x100] at z2
    rw [hA 17 _ (by omega)]
    exact h4 c z1 z2
  · intro t z1 z2
    rw [x3] at z2
    rw [hA 18 _ (by omega), hA 19 _ (by omega), hA 20 _ (by omega), hA 21 _ (by omega), hA 22 _ (by omega), hA 23 _ (by omega), x100]
    exact h5 t z1 z2
  · intro i z1 z2
    rw [x4] at z2
    rw [hA 24 _ (by omega), hA 25 _ (by omega), hA 26 _ (by omega)]
    exact h6 i z1 z2
  · intro i z1 z2
    rw [x5] at z2
    rw [hA 27 _ (by omega)]
    exact h7 i z1 z2
  · intro i z1 z2
    rw [x6] at z2
    rw [hA 28 _ (by omega)]
    exact h8 i z1 z2
  · intro i z1 z2
    rw [x8] at z2
    rw [hA 29 _ (by omega), hA 30 _ (by omega), hA 31 _ (by omega), x4, x100]
    exact h9 i z1 z2
  · rw [x7, x6]
    exact h10
  · intro z
    rw [x13] at z
    obtain ⟨y1, y2, y3⟩ := h11 z
    exact ⟨by omega, by omega, y3.cg (fun b hb => hA 0 b (by omega)) x100 (fun k => hA 17 k (by omega))⟩
theorem hj_home (h : HJ H) (g : pCn T n (H 0 0) (H 0 1) s = .inl q) : HJ (qmH T n H s) := by
  obtain ⟨h1, h2, h3, h4, h5, h6, h7, h8, h9, h10, h11⟩ := h
  have hw : 0 ≤ H 0 0 := by
    have := h1.2.1
    omega
  have hk := h1.1
  have gc := pCn_i hw g
  have e : qmH T n H s = uH H 0 12 (pCell T n (H 0 0) (H 0 1) s) := rfl
  rw [e]
  generalize pCell T n (H 0 0) (H 0 1) s = c at *
  rw [← hk] at gc
  have hA : ∀ a b, (a ≠ 0 ∨ b ≠ 12) → uH H 0 12 c a b = H a b := fun a b z => uH_n (by omega)
  have x12 : uH H 0 12 c 0 12 = c := uH_s
  generalize uH H 0 12 c = H2 at *
  clear e g
  have x0 := hA 0 0 (by omega)
  have x1 := hA 0 1 (by omega)
  have x2 := hA 0 2 (by omega)
  have x3 := hA 0 3 (by omega)
  have x4 := hA 0 4 (by omega)
  have x5 := hA 0 5 (by omega)
  have x6 := hA 0 6 (by omega)
  have x7 := hA 0 7 (by omega)
  have x8 := hA 0 8 (by omega)
  have x10 := hA 0 10 (by omega)
  have x11 := hA 0 11 (by omega)
  have x13 := hA 0 13 (by omega)
  have x14 := hA 0 14 (by omega)
  have x15 := hA 0 15 (by omega)
  have x16 := hA 0 16 (by omega)
  have x100 := hA 1 0 (by omega)
  obtain ⟨b1, b2, b3, b4, b5, b6, b7, b8, b9, b10, b11, b12, b13, b14⟩ := h2
  obtain ⟨c1, c2, c3, c4, c5, c6, c7, c8, c9, c10, c11, c12, c13, c14, c15, c16⟩ := h3
  refine ⟨?_, ⟨by omega, by omega, by omega, by omega, by omega, by omega, by omega, by omega, by omega, by omega, by omega, by omega, by omega, by omega⟩, ⟨by omega, by omega, by omega, fun z => by omega, by omega, by omega, by omega, by omega, by omega, by omega, by omega, by omega, by omega, by omega, ?_, ?_⟩, ?_, ?_, ?_, ?_, ?_, ?_, ?_, ?_⟩
  · unfold HW
    rw [x0, x1, x100]
    exact h1
  · rw [x15]
    exact c15
  · rw [x16]
    exact c16
  · intro c z1 z2
    rw [x100] at z2
    rw [hA 17 _ (by omega)]
    exact h4 c z1 z2
  · intro t z1 z2
    rw [x3] at z2
    rw [hA 18 _ (by omega), hA 19 _ (by omega), hA 20 _ (by omega), hA 21 _ (by omega), hA 22 _ (by omega), hA 23 _ (by omega), x100]
    exact h5 t z1 z2
  · intro i z1 z2
    rw [x4] at z2
    rw [hA 24 _ (by omega), hA 25 _ (by omega), hA 26 _ (by omega)]
    exact h6 i z1 z2
  · intro i z1 z2
    rw [x5] at z2
    rw [hA 27 _ (by omega)]
    exact h7 i z1 z2
  · intro i z1 z2
    rw [x6] at z2
    rw [hA 28 _ (by omega)]
    exact h8 i z1 z2
  · intro i z1 z2
    rw [x8] at z2
    rw [hA 29 _ (by omega), hA 30 _ (by omega), hA 31 _ (by omega), x4, x100]
    exact h9 i z1 z2
  · rw [x7, x6]
    exact h10
  · intro z
    rw [x13] at z
    obtain ⟨y1, y2, y3⟩ := h11 z
    exact ⟨by omega, by omega, y3.cg (fun b hb => hA 0 b (by omega)) x100 (fun k => hA 17 k (by omega))⟩
theorem pL_i (h : pL T n H p = .inl q) : pN T n 0 3 (.inl p) = .inl q ∧ H 0 5 < 8 := by
  unfold pL at h
  cases g : pN T n 0 3 (.inl p) with
  | inl a =>
    rw [g] at h
    have h : (if H 0 5 < 8 then (Sum.inl a : gSg) else .inr (5, (tS T n p : Int))) = .inl q := h
    by_cases z : H 0 5 < 8
    · rw [if_pos z] at h
      exact ⟨h, z⟩
    · rw [if_neg z] at h
      cases h
  | inr x =>
    rw [g] at h
    have h : (Sum.inr x : gSg) = .inl q := h
    cases h
theorem pM_i (h : pM T n H p = .inl q) : pO T n (cs wSd) (.inl p) = .inl q ∧ H 0 6 < 12 := by
  unfold pM at h
  cases g : pO T n (cs wSd) (.inl p) with
  | inl a =>
    rw [g] at h
    have h : (if H 0 6 < 12 then (Sum.inl a : gSg) else .inr (5, (tS T n p : Int))) = .inl q := h
    by_cases z : H 0 6 < 12
    · rw [if_pos z] at h
      exact ⟨h, z⟩
    · rw [if_neg z] at h
      cases h
  | inr x =>
    rw [g] at h
    have h : (Sum.inr x : gSg) = .inl q := h
    cases h
theorem hj_step (h : HJ H) (g : pL T n H p = .inl q) : HJ (pLH T n H p) := by
  obtain ⟨h1, h2, h3, h4, h5, h6, h7, h8, h9, h10, h11⟩ := h
  obtain ⟨g1, g2⟩ := pL_i g
  obtain ⟨a, -, -, v1, v2⟩ := pN_i g1
  have e : pLH T n H p = uH (uH H 27 (H 0 5).toNat (pV T n 0 3 (.inl p))) 0 5 (H 0 5 + 1) := rfl
  rw [e]
  generalize pV T n 0 3 (.inl p) = v at *
  have hA : ∀ a b, ((a ≠ 0 ∨ b ≠ 5) ∧ a ≠ 27) → uH (uH H 27 (H 0 5).toNat v) 0 5 (H 0 5 + 1) a b = H a b := fun a b z => by rw [uH_n (by omega), uH_n (by omega)]
  have x5 : uH (uH H 27 (H 0 5).toNat v) 0 5 (H 0 5 + 1) 0 5 = H 0 5 + 1 := uH_s
  have x27 : ∀ b, uH (uH H 27 (H 0 5).toNat v) 0 5 (H 0 5 + 1) 27 b = if b = (H 0 5).toNat then v else H 27 b := fun b => by
    rw [uH_n (by omega)]
    by_cases z : b = (H 0 5).toNat
    · rw [if_pos z, z, uH_s]
    · rw [if_neg z, uH_n (by omega)]
  generalize uH (uH H 27 (H 0 5).toNat v) 0 5 (H 0 5 + 1) = H2 at *
  clear e g1 g
  have x0 := hA 0 0 (by omega)
  have x1 := hA 0 1 (by omega)
  have x2 := hA 0 2 (by omega)
  have x3 := hA 0 3 (by omega)
  have x4 := hA 0 4 (by omega)
  have x6 := hA 0 6 (by omega)
  have x7 := hA 0 7 (by omega)
  have x8 := hA 0 8 (by omega)
  have x10 := hA 0 10 (by omega)
  have x11 := hA 0 11 (by omega)
  have x12 := hA 0 12 (by omega)
  have x13 := hA 0 13 (by omega)
  have x14 := hA 0 14 (by omega)
  have x15 := hA 0 15 (by omega)
  have x16 := hA 0 16 (by omega)
  have x100 := hA 1 0 (by omega)
  obtain ⟨b1, b2, b3, b4, b5, b6, b7, b8, b9, b10, b11, b12, b13, b14⟩ := h2
  obtain ⟨c1, c2, c3, c4, c5, c6, c7, c8, c9, c10, c11, c12, c13, c14, c15, c16⟩ := h3
  refine ⟨?_, ⟨by omega, by omega, by omega, by omega, by omega, by omega, by omega, by omega, by omega, by omega, by omega, by omega, by omega, by omega⟩, ⟨by omega, by omega, by omega, fun z => by omega, by omega, by omega, by omega, by omega, by omega, by omega, by omega, by omega, by omega, by omega, ?_, ?_⟩, ?_, ?_, ?_, ?_, ?_, ?_, ?_, ?_⟩
  · unfold HW
    rw [x0, x1, x100]
    exact h1
  · rw [x15]
    exact c15
  · rw [x16]
    exact c16
  · intro c z1 z2
    rw [x100] at z2
    rw [hA 17 _ (by omega)]
    exact h4 c z1 z2
  · intro t z1 z2
    rw [x3] at z2
    rw [hA 18 _ (by omega), hA 19 _ (by omega), hA 20 _ (by omega), hA 21 _ (by omega), hA 22 _ (by omega), hA 23 _ (by omega), x100]
    exact h5 t z1 z2
  · intro i z1 z2
    rw [x4] at z2
    rw [hA 24 _ (by omega), hA 25 _ (by omega), hA 26 _ (by omega)]
    exact h6 i z1 z2
  · intro i z1 z2
    rw [x27]
    by_cases z : i.toNat = (H 0 5).toNat
    · rw [if_pos z]
      exact ⟨v1, v2⟩
    · rw [if_neg z]
      exact h7 i z1 (by omega)
  · intro i z1 z2
    rw [x6] at z2
    rw [hA 28 _ (by omega)]
    exact h8 i z1 z2
  · intro i z1 z2
    rw [x8] at z2
    rw [hA 29 _ (by omega), hA 30 _ (by omega), hA 31 _ (by omega), x4, x100]
    exact h9 i z1 z2
  · rw [x7, x6]
    exact h10
  · intro z
    rw [x13] at z
    obtain ⟨y1, y2, y3⟩ := h11 z
    exact ⟨by omega, by omega, y3.cg (fun b hb => hA 0 b (by omega)) x100 (fun k => hA 17 k (by omega))⟩
theorem hj_side (h : HJ H) (h7' : 0 ≤ H 0 7) (g : pM T n H p = .inl q) : HJ (pMH T n H p) := by
  obtain ⟨h1, h2, h3, h4, h5, h6, h7, h8, h9, h10, h11⟩ := h
  obtain ⟨g1, g2⟩ := pM_i g
  obtain ⟨a, -, -, v1, v2⟩ := pO_i g1
  have l4 : ((cs wSd).length : Int) = 4 := rfl
  have e : pMH T n H p = uH (uH H 28 (H 0 6).toNat (pI T n (cs wSd) (.inl p))) 0 6 (H 0 6 + 1) := rfl
  rw [e]
  generalize pI T n (cs wSd) (.inl p) = v at *
  have hA : ∀ a b, ((a ≠ 0 ∨ b ≠ 6) ∧ a ≠ 28) → uH (uH H 28 (H 0 6).toNat v) 0 6 (H 0 6 + 1) a b = H a b := fun a b z => by rw [uH_n (by omega), uH_n (by omega)]
  have x6 : uH (uH H 28 (H 0 6).toNat v) 0 6 (H 0 6 + 1) 0 6 = H 0 6 + 1 := uH_s
  have x28 : ∀ b, uH (uH H 28 (H 0 6).toNat v) 0 6 (H 0 6 + 1) 28 b = if b = (H 0 6).toNat then v else H 28 b := fun b => by
    rw [uH_n (by omega)]
    by_cases z : b = (H 0 6).toNat
    · rw [if_pos z, z, uH_s]
    · rw [if_neg z, uH_n (by omega)]
  generalize uH (uH H 28 (H 0 6).toNat v) 0 6 (H 0 6 + 1) = H2 at *
  clear e g1 g
  have x0 := hA 0 0 (by omega)
  have x1 := hA 0 1 (by omega)
  have x2 := hA 0 2 (by omega)
  have x3 := hA 0 3 (by omega)
  have x4 := hA 0 4 (by omega)
  have x5 := hA 0 5 (by omega)
  have x7 := hA 0 7 (by omega)
  have x8 := hA 0 8 (by omega)
  have x10 := hA 0 10 (by omega)
  have x11 := hA 0 11 (by omega)
  have x12 := hA 0 12 (by omega)
  have x13 := hA 0 13 (by omega)
  have x14 := hA 0 14 (by omega)
  have x15 := hA 0 15 (by omega)
  have x16 := hA 0 16 (by omega)
  have x100 := hA 1 0 (by omega)
  obtain ⟨b1, b2, b3, b4, b5, b6, b7, b8, b9, b10, b11, b12, b13, b14⟩ := h2
  obtain ⟨c1, c2, c3, c4, c5, c6, c7, c8, c9, c10, c11, c12, c13, c14, c15, c16⟩ := h3
  refine ⟨?_, ⟨by omega, by omega, by omega, by omega, by omega, by omega, by omega, by omega, by omega, by omega, by omega, by omega, by omega, by omega⟩, ⟨by omega, by omega, by omega, fun z => by omega, by omega, by omega, by omega, by omega, by omega, by omega, by omega, by omega, by omega, by omega, ?_, ?_⟩, ?_, ?_, ?_, ?_, ?_, ?_, ?_, ?_⟩
  · unfold HW
    rw [x0, x1, x100]
    exact h1
  · rw [x15]
    exact c15
  · rw [x16]
    exact c16
  · intro c z1 z2
    rw [x100] at z2
    rw [hA 17 _ (by omega)]
    exact h4 c z1 z2
  · intro t z1 z2
    rw [x3] at z2
    rw [hA 18 _ (by omega), hA 19 _ (by omega), hA 20 _ (by omega), hA 21 _ (by omega), hA 22 _ (by omega), hA 23 _ (by omega), x100]
    exact h5 t z1 z2
  · intro i z1 z2
    rw [x4] at z2
    rw [hA 24 _ (by omega), hA 25 _ (by omega), hA 26 _ (by omega)]
    exact h6 i z1 z2
  · intro i z1 z2
    rw [x5] at z2
    rw [hA 27 _ (by omega)]
    exact h7 i z1 z2
  · intro i z1 z2
    rw [x28]
    by_cases z : i.toNat = (H 0 6).toNat
    · rw [if_pos z]
      exact ⟨v1, by omega⟩
    · rw [if_neg z]
      exact h8 i z1 (by omega)
  · intro i z1 z2
    rw [x8] at z2
    rw [hA 29 _ (by omega), hA 30 _ (by omega), hA 31 _ (by omega), x4, x100]
    exact h9 i z1 z2
  · intro z
    omega
  · intro z
    rw [x13] at z
    obtain ⟨y1, y2, y3⟩ := h11 z
    exact ⟨by omega, by omega, y3.cg (fun b hb => hA 0 b (by omega)) x100 (fun k => hA 17 k (by omega))⟩
theorem hj_lead {v : Int} (h : HJ H) (v1 : 0 ≤ v) (v2 : v ≤ 5) : HJ (uH H 0 7 v) := by
  obtain ⟨h1, h2, h3, h4, h5, h6, h7, h8, h9, h10, h11⟩ := h
  have hA : ∀ a b, (a ≠ 0 ∨ b ≠ 7) → uH H 0 7 v a b = H a b := fun a b z => uH_n (by omega)
  have x7 : uH H 0 7 v 0 7 = v := uH_s
  generalize uH H 0 7 v = H2 at *
  have x0 := hA 0 0 (by omega)
  have x1 := hA 0 1 (by omega)
  have x2 := hA 0 2 (by omega)
  have x3 := hA 0 3 (by omega)
  have x4 := hA 0 4 (by omega)
  have x5 := hA 0 5 (by omega)
  have x6 := hA 0 6 (by omega)
  have x8 := hA 0 8 (by omega)
  have x10 := hA 0 10 (by omega)
  have x11 := hA 0 11 (by omega)
  have x12 := hA 0 12 (by omega)
  have x13 := hA 0 13 (by omega)
  have x14 := hA 0 14 (by omega)
  have x15 := hA 0 15 (by omega)
  have x16 := hA 0 16 (by omega)
  have x100 := hA 1 0 (by omega)
  obtain ⟨b1, b2, b3, b4, b5, b6, b7, b8, b9, b10, b11, b12, b13, b14⟩ := h2
  obtain ⟨c1, c2, c3, c4, c5, c6, c7, c8, c9, c10, c11, c12, c13, c14, c15, c16⟩ := h3
  refine ⟨?_, ⟨by omega, by omega, by omega, by omega, by omega, by omega, by omega, by omega, by omega, by omega, by omega, by omega, by omega, by omega⟩, ⟨by omega, by omega, by omega, fun z => by omega, by omega, by omega, by omega, by omega, by omega, by omega, by omega, by omega, by omega, by omega, ?_, ?_⟩, ?_, ?_, ?_, ?_, ?_, ?_, ?_, ?_⟩
  · unfold HW
    rw [x0, x1, x100]
    exact h1
  · rw [x15]
    exact c15
  · rw [x16]
    exact c16
  · intro c z1 z2
    rw [x100] at z2
    rw [hA 17 _ (by omega)]
    exact h4 c z1 z2
  · intro t z1 z2
    rw [x3] at z2
    rw [hA 18 _ (by omega), hA 19 _ (by omega), hA 20 _ (by omega), hA 21 _ (by omega), hA 22 _ (by omega), hA 23 _ (by omega), x100]
    exact h5 t z1 z2
  · intro i z1 z2
    rw [x4] at z2
    rw [hA 24 _ (by omega), hA 25 _ (by omega), hA 26 _ (by omega)]
    exact h6 i z1 z2
  · intro i z1 z2
    rw [x5] at z2
    rw [hA 27 _ (by omega)]
    exact h7 i z1 z2
  · intro i z1 z2
    rw [x6] at z2
    rw [hA 28 _ (by omega)]
    exact h8 i z1 z2
  · intro i z1 z2
    rw [x8] at z2
    rw [hA 29 _ (by omega), hA 30 _ (by omega), hA 31 _ (by omega), x4, x100]
    exact h9 i z1 z2
  · intro z
    omega
  · intro z
    rw [x13] at z
    obtain ⟨y1, y2, y3⟩ := h11 z
    exact ⟨by omega, by omega, y3.cg (fun b hb => hA 0 b (by omega)) x100 (fun k => hA 17 k (by omega))⟩
theorem gc_bd {b : Int} : -1 ≤ gGc b ∧ gGc b ≤ 2 := by
  unfold gGc
  (repeat' split) <;> omega
theorem rl_all {s : Nat} : ∀ (m k : Nat), gRl T s m = true → k < m → gGc (T (s + k)) ≠ -1 := by
  intro m
  induction m with
  | zero =>
    intro k h hk
    omega
  | succ m ih =>
    intro k h hk
    have h : (gRl T s m && decide (gGc (T (s + m)) ≠ -1)) = true := h
    rw [Bool.and_eq_true] at h
    by_cases z : k = m
    · rw [z]
      exact of_decide_eq_true h.2
    · exact ih k h.1 (by omega)
theorem qRw_i (h : qRw T n W p = .inl q) : tK T n p = 1 ∧ ((tE T n p - tS T n p : Nat) : Int) = W ∧ gRl T (tS T n p) (tE T n p - tS T n p) = true ∧ q = tE T n p := by
  unfold qRw at h
  by_cases z1 : tK T n p = 1
  · rw [if_pos z1] at h
    by_cases z2 : ((tE T n p - tS T n p : Nat) : Int) = W
    · rw [if_pos z2] at h
      by_cases z3 : gRl T (tS T n p) (tE T n p - tS T n p) = true
      · rw [if_pos z3] at h
        exact ⟨z1, z2, z3, (Sum.inl.inj h).symm⟩
      · rw [if_neg z3] at h
        cases h
    · rw [if_neg z2] at h
      cases h
  · rw [if_neg z1] at h
    cases h
theorem hj_row {N : Nat} (h : HJ H) (hr : H 0 2 ≠ H 0 1) (g : qRw T n (H 0 0) p = .inl q) : HJ (qRH T n H N p) := by
  obtain ⟨h1, h2, h3, h4, h5, h6, h7, h8, h9, h10, h11⟩ := h
  obtain ⟨-, -, g3, -⟩ := qRw_i g
  have e : qRH T n H N p = uH (gGh T H N (tS T n p) (tE T n p - tS T n p)) 0 2 (H 0 2 + 1) := rfl
  have hf : H 0 13 < 0 := by
    by_cases z : H 0 13 < 0
    · exact z
    · exact absurd (h11 (by omega)).2.1 hr
  rw [e]
  have hA : ∀ a b, ((a ≠ 0 ∨ b ≠ 2) ∧ a ≠ 17) → uH (gGh T H N (tS T n p) (tE T n p - tS T n p)) 0 2 (H 0 2 + 1) a b = H a b := fun a b z => by
    rw [uH_n (by omega)]
    exact if_neg (by omega)
  have x2 : uH (gGh T H N (tS T n p) (tE T n p - tS T n p)) 0 2 (H 0 2 + 1) 0 2 = H 0 2 + 1 := uH_s
  have x17 : ∀ b, uH (gGh T H N (tS T n p) (tE T n p - tS T n p)) 0 2 (H 0 2 + 1) 17 b = H 17 b ∨ (0 ≤ uH (gGh T H N (tS T n p) (tE T n p - tS T n p)) 0 2 (H 0 2 + 1) 17 b ∧ uH (gGh T H N (tS T n p) (tE T n p - tS T n p)) 0 2 (H 0 2 + 1) 17 b ≤ 3) := fun b => by
    rw [uH_n (by omega)]
    unfold gGh
    by_cases z : (17 : Nat) = 17 ∧ N ≤ b ∧ b < N + (tE T n p - tS T n p)
    · rw [if_pos z]
      have y := rl_all _ (b - N) g3 (by omega)
      have y2 := gc_bd (b := T (tS T n p + (b - N)))
      exact Or.inr ⟨by omega, by omega⟩
    · rw [if_neg z]
      exact Or.inl rfl
  generalize uH (gGh T H N (tS T n p) (tE T n p - tS T n p)) 0 2 (H 0 2 + 1) = H2 at *
  clear e g g3
  have x0 := hA 0 0 (by omega)
  have x1 := hA 0 1 (by omega)
  have x3 := hA 0 3 (by omega)
  have x4 := hA 0 4 (by omega)
  have x5 := hA 0 5 (by omega)
  have x6 := hA 0 6 (by omega)
  have x7 := hA 0 7 (by omega)
  have x8 := hA 0 8 (by omega)
  have x10 := hA 0 10 (by omega)
  have x11 := hA 0 11 (by omega)
  have x12 := hA 0 12 (by omega)
  have x13 := hA 0 13 (by omega)
  have x14 := hA 0 14 (by omega)
  have x15 := hA 0 15 (by omega)
  have x16 := hA 0 16 (by omega)
  have x100 := hA 1 0 (by omega)
  obtain ⟨b1, b2, b3, b4, b5, b6, b7, b8, b9, b10, b11, b12, b13, b14⟩ := h2
  obtain ⟨c1, c2, c3, c4, c5, c6, c7, c8, c9, c10, c11, c12, c13, c14, c15, c16⟩ := h3
  refine ⟨?_, ⟨by omega, by omega, by omega, by omega, by omega, by omega, by omega, by omega, by omega, by omega, by omega, by omega, by omega, by omega⟩, ⟨by omega, by omega, by omega, fun z => by omega, by omega, by omega, by omega, by omega, by omega, by omega, by omega, by omega, by omega, by omega, ?_, ?_⟩, ?_, ?_, ?_, ?_, ?_, ?_, ?_, ?_⟩
  · unfold HW
    rw [x0, x1, x100]
    exact h1
  · rw [x15]
    exact c15
  · rw [x16]
    exact c16
  · intro c z1 z2
    rw [x100] at z2
    rcases x17 c.toNat with y | y
    · rw [y]
      exact h4 c z1 z2
    · exact y
  · intro t z1 z2
    rw [x3] at z2
    rw [hA 18 _ (by omega), hA 19 _ (by omega), hA 20 _ (by omega), hA 21 _ (by omega), hA 22 _ (by omega), hA 23 _ (by omega), x100]
    exact h5 t z1 z2
  · intro i z1 z2
    rw [x4] at z2
    rw [hA 24 _ (by omega), hA 25 _ (by omega), hA 26 _ (by omega)]
    exact h6 i z1 z2
  · intro i z1 z2
    rw [x5] at z2
    rw [hA 27 _ (by omega)]
    exact h7 i z1 z2
  · intro i z1 z2
    rw [x6] at z2
    rw [hA 28 _ (by omega)]
    exact h8 i z1 z2
  · intro i z1 z2
    rw [x8] at z2
    rw [hA 29 _ (by omega), hA 30 _ (by omega), hA 31 _ (by omega), x4, x100]
    exact h9 i z1 z2
  · rw [x7, x6]
    exact h10
  · intro z
    omega
theorem qp_i (h : qp5 T n s = .inl q) : (0 ≤ pI T n (cs wKd) s ∧ pI T n (cs wKd) s ≤ 3) ∧ (1 ≤ pV T n 1 9 (qp2 T n s) ∧ pV T n 1 9 (qp2 T n s) ≤ 9) ∧ (0 ≤ pV T n 0 9 (qp4 T n s) ∧ pV T n 0 9 (qp4 T n s) ≤ 9) := by
  obtain ⟨a, h4, -, x1, x2⟩ := pN_i h
  obtain ⟨b, h3, -⟩ := pO_i h4
  obtain ⟨c, h2, -, y1, y2⟩ := pN_i h3
  obtain ⟨d, h1, -⟩ := pO_i h2
  obtain ⟨e, -, -, z1, z2⟩ := pO_i h1
  have l4 : ((cs wKd).length : Int) = 4 := rfl
  exact ⟨⟨z1, by omega⟩, ⟨y1, y2⟩, x1, x2⟩
theorem tP_n {A : Nat} {t : Nat → Int} {a : Nat} (h : a < A ∨ A + 2 < a) : tP T n A t s a = t a := by
  unfold tP uT
  rw [if_neg (by omega), if_neg (by omega), if_neg (by omega)]
theorem tP_0 {A : Nat} {t : Nat → Int} : tP T n A t s A = pI T n (cs wKd) s ∧ tP T n A t s (A + 1) = pV T n 1 9 (qp2 T n s) ∧ tP T n A t s (A + 2) = pV T n 0 9 (qp4 T n s) := by
  unfold tP uT
  refine ⟨?_, ?_, ?_⟩
  · rw [if_neg (by omega), if_neg (by omega), if_pos rfl]
  · rw [if_neg (by omega), if_pos rfl]
  · rw [if_pos rfl]
theorem hj_dancer (h : HJ H) (h4' : H 0 4 < 8) (hf : H 0 13 < 0) (g : qp5 T n s = .inl q) : HJ (qdH T n H s) := by
  obtain ⟨h1, h2, h3, h4, h5, h6, h7, h8, h9, h10, h11⟩ := h
  obtain ⟨g1, g2, g3⟩ := qp_i g
  obtain ⟨t0, t1, t2⟩ := tP_0 (T := T) (n := n) (s := s) (A := 24) (t := fun _ => 0)
  have e : qdH T n H s = rowH H 24 26 4 (H 0 4).toNat (tP T n 24 (fun _ => 0) s) := rfl
  rw [e]
  generalize tP T n 24 (fun _ => 0) s = t at *
  have hA : ∀ a b, ((a ≠ 0 ∨ b ≠ 4) ∧ (a < 24 ∨ 26 < a)) → rowH H 24 26 4 (H 0 4).toNat t a b = H a b := fun a b z => rowH_n (by omega) (by omega)
  have x4 : rowH H 24 26 4 (H 0 4).toNat t 0 4 = H 0 4 + 1 := by
    rw [rowH_c (by omega)]
    omega
  have xt : ∀ a b, 24 ≤ a → a ≤ 26 → rowH H 24 26 4 (H 0 4).toNat t a b = if b = (H 0 4).toNat then t a else H a b := fun a b z1 z2 => by
    by_cases z : b = (H 0 4).toNat
    · rw [if_pos z, z, rowH_t z1 z2]
    · rw [if_neg z, rowH_n (Or.inl z) (by omega)]
  generalize rowH H 24 26 4 (H 0 4).toNat t = H2 at *
  clear e g
  have t0 : t 24 = pI T n (cs wKd) s := t0
  have t1 : t 25 = pV T n 1 9 (qp2 T n s) := t1
  have t2 : t 26 = pV T n 0 9 (qp4 T n s) := t2
  have x0 := hA 0 0 (by omega)
  have x1 := hA 0 1 (by omega)
  have x2 := hA 0 2 (by omega)
  have x3 := hA 0 3 (by omega)
  have x5 := hA 0 5 (by omega)
  have x6 := hA 0 6 (by omega)
  have x7 := hA 0 7 (by omega)
  have x8 := hA 0 8 (by omega)
  have x10 := hA 0 10 (by omega)
  have x11 := hA 0 11 (by omega)
  have x12 := hA 0 12 (by omega)
  have x13 := hA 0 13 (by omega)
  have x14 := hA 0 14 (by omega)
  have x15 := hA 0 15 (by omega)
  have x16 := hA 0 16 (by omega)
  have x100 := hA 1 0 (by omega)
  obtain ⟨b1, b2, b3, b4, b5, b6, b7, b8, b9, b10, b11, b12, b13, b14⟩ := h2
  obtain ⟨c1, c2, c3, c4, c5, c6, c7, c8, c9, c10, c11, c12, c13, c14, c15, c16⟩ := h3
  refine ⟨?_, ⟨by omega, by omega, by omega, by omega, by omega, by omega, by omega, by omega, by omega, by omega, by omega, by omega, by omega, by omega⟩, ⟨by omega, by omega, by omega, fun z => by omega, by omega, by omega, by omega, by omega, by omega, by omega, by omega, by omega, by omega, by omega, ?_, ?_⟩, ?_, ?_, ?_, ?_, ?_, ?_, ?_, ?_⟩
  · unfold HW
    rw [x0, x1, x100]
    exact h1
  · rw [x15]
    exact c15
  · rw [x16]
    exact c16
  · intro c z1 z2
    rw [x100] at z2
    rw [hA 17 _ (by omega)]
    exact h4 c z1 z2
  · intro t z1 z2
    rw [x3] at z2
    rw [hA 18 _ (by omega), hA 19 _ (by omega), hA 20 _ (by omega), hA 21 _ (by omega), hA 22 _ (by omega), hA 23 _ (by omega), x100]
    exact h5 t z1 z2
  · intro i z1 z2
    rw [xt 24 _ (by omega) (by omega), xt 25 _ (by omega) (by omega), xt 26 _ (by omega) (by omega)]
    by_cases z : i.toNat = (H 0 4).toNat
    · rw [if_pos z, if_pos z, if_pos z, t0, t1, t2]
      exact ⟨g1.1, g1.2, g2.1, g2.2, g3.1, g3.2⟩
    · rw [if_neg z, if_neg z, if_neg z]
      exact h6 i z1 (by omega)
  · intro i z1 z2
    rw [x5] at z2
    rw [hA 27 _ (by omega)]
    exact h7 i z1 z2
  · intro i z1 z2
    rw [x6] at z2
    rw [hA 28 _ (by omega)]
    exact h8 i z1 z2
  · intro i z1 z2
    rw [x8] at z2
    rw [hA 29 _ (by omega), hA 30 _ (by omega), hA 31 _ (by omega), x4, x100]
    have := h9 i z1 z2
    exact ⟨this.1, this.2.1, this.2.2.1, by omega, this.2.2.2.2⟩
  · rw [x7, x6]
    exact h10
  · intro z
    omega
theorem hj_frame (h : HJ H) (h8' : H 0 8 < 8) (g : qf4 T n H s = .inl q) : HJ (qfH T n H s) := by
  obtain ⟨h1, h2, h3, h4, h5, h6, h7, h8, h9, h10, h11⟩ := h
  have hw : 0 ≤ H 0 0 := by
    have := h1.2.1
    omega
  have hk := h1.1
  have g4 := pCn_i hw g
  obtain ⟨a, g5, -⟩ := pG_i g
  obtain ⟨g6, -⟩ := pB_i g5
  obtain ⟨b, g7, -⟩ := pS_i g6
  obtain ⟨c, g8, -⟩ := pN_i g7
  obtain ⟨d, g9, -⟩ := pO_i g8
  obtain ⟨e, ga, -, y1, y2⟩ := pN_i g9
  obtain ⟨f, -, -, v1, v2⟩ := pN_i ga
  have eq : qfH T n H s = rowH H 29 31 8 (H 0 8).toNat (uT (uT (uT (fun _ => 0) 29 (pV T n 0 40 s)) 30 (pV T n 0 (H 0 4 - 1) (qf1 T n s))) 31 (pCell T n (H 0 0) (H 0 1) (qf3 T n (H 0 4) s))) := rfl
  rw [eq]
  generalize pCell T n (H 0 0) (H 0 1) (qf3 T n (H 0 4) s) = cc at *
  generalize pV T n 0 (H 0 4 - 1) (qf1 T n s) = vv at *
  generalize pV T n 0 40 s = bb at *
  rw [← hk] at g4
  obtain ⟨t, ht⟩ : ∃ t, t = uT (uT (uT (fun _ => 0) 29 bb) 30 vv) 31 cc := ⟨_, rfl⟩
  have t0 : t 29 = bb := by
    rw [ht]
    unfold uT
    rw [if_neg (by omega), if_neg (by omega), if_pos rfl]
  have t1 : t 30 = vv := by
    rw [ht]
    unfold uT
    rw [if_neg (by omega), if_pos rfl]
  have t2 : t 31 = cc := by
    rw [ht]
    unfold uT
    rw [if_pos rfl]
  rw [← ht]
  clear ht
  have hA : ∀ a b, ((a ≠ 0 ∨ b ≠ 8) ∧ (a < 29 ∨ 31 < a)) → rowH H 29 31 8 (H 0 8).toNat t a b = H a b := fun a b z => rowH_n (by omega) (by omega)
  have x8 : rowH H 29 31 8 (H 0 8).toNat t 0 8 = H 0 8 + 1 := by
    rw [rowH_c (by omega)]
    omega
  have xt : ∀ a b, 29 ≤ a → a ≤ 31 → rowH H 29 31 8 (H 0 8).toNat t a b = if b = (H 0 8).toNat then t a else H a b := fun a b z1 z2 => by
    by_cases z : b = (H 0 8).toNat
    · rw [if_pos z, z, rowH_t z1 z2]
    · rw [if_neg z, rowH_n (Or.inl z) (by omega)]
  generalize rowH H 29 31 8 (H 0 8).toNat t = H2 at *
  clear eq g g5 g6 g7 g8 g9 ga
  have x0 := hA 0 0 (by omega)
  have x1 := hA 0 1 (by omega)
  have x2 := hA 0 2 (by omega)
  have x3 := hA 0 3 (by omega)
  have x4 := hA 0 4 (by omega)
  have x5 := hA 0 5 (by omega)
  have x6 := hA 0 6 (by omega)
  have x7 := hA 0 7 (by omega)
  have x10 := hA 0 10 (by omega)
  have x11 := hA 0 11 (by omega)
  have x12 := hA 0 12 (by omega)
  have x13 := hA 0 13 (by omega)
  have x14 := hA 0 14 (by omega)
  have x15 := hA 0 15 (by omega)
  have x16 := hA 0 16 (by omega)
  have x100 := hA 1 0 (by omega)
  obtain ⟨b1, b2, b3, b4, b5, b6, b7, b8, b9, b10, b11, b12, b13, b14⟩ := h2
  obtain ⟨c1, c2, c3, c4, c5, c6, c7, c8, c9, c10, c11, c12, c13, c14, c15, c16⟩ := h3
  refine ⟨?_, ⟨by omega, by omega, by omega, by omega, by omega, by omega, by omega, by omega, by omega, by omega, by omega, by omega, by omega, by omega⟩, ⟨by omega, by omega, by omega, fun z => by omega, by omega, by omega, by omega, by omega, by omega, by omega, by omega, by omega, by omega, by omega, ?_, ?_⟩, ?_, ?_, ?_, ?_, ?_, ?_, ?_, ?_⟩
  · unfold HW
    rw [x0, x1, x100]
    exact h1
  · rw [x15]
    exact c15
  · rw [x16]
    exact c16
  · intro c z1 z2
    rw [x100] at z2
    rw [hA 17 _ (by omega)]
    exact h4 c z1 z2
  · intro t z1 z2
    rw [x3] at z2
    rw [hA 18 _ (by omega), hA 19 _ (by omega), hA 20 _ (by omega), hA 21 _ (by omega), hA 22 _ (by omega), hA 23 _ (by omega), x100]
    exact h5 t z1 z2
  · intro i z1 z2
    rw [x4] at z2
    rw [hA 24 _ (by omega), hA 25 _ (by omega), hA 26 _ (by omega)]
    exact h6 i z1 z2
  · intro i z1 z2
    rw [x5] at z2
    rw [hA 27 _ (by omega)]
    exact h7 i z1 z2
  · intro i z1 z2
    rw [x6] at z2
    rw [hA 28 _ (by omega)]
    exact h8 i z1 z2
  · intro i z1 z2
    rw [xt 29 _ (by omega) (by omega), xt 30 _ (by omega) (by omega), xt 31 _ (by omega) (by omega), x4, x100]
    by_cases z : i.toNat = (H 0 8).toNat
    · rw [if_pos z, if_pos z, if_pos z, t0, t1, t2]
      exact ⟨v1, v2, y1, by omega, g4.1, g4.2⟩
    · rw [if_neg z, if_neg z, if_neg z]
      exact h9 i z1 (by omega)
  · rw [x7, x6]
    exact h10
  · intro z
    rw [x13] at z
    obtain ⟨y1, y2, y3⟩ := h11 z
    exact ⟨by omega, by omega, y3.cg (fun b hb => hA 0 b (by omega)) x100 (fun k => hA 17 k (by omega))⟩
theorem gGd_i {c : Int} (h : gGd T n H c s = .inl q) : ∃ a, s = .inl a ∧ q = tE T n a ∧ H 17 c.toNat ≠ 3 ∧ H 17 c.toNat ≠ 2 := by
  cases s with
  | inl a =>
    have h : (if H 17 c.toNat = 3 then (Sum.inr (3, (tS T n a : Int)) : gSg) else if H 17 c.toNat = 2 then .inr (7, (tS T n a : Int)) else .inl (tE T n a)) = .inl q := h
    by_cases z : H 17 c.toNat = 3
    · rw [if_pos z] at h
      cases h
    · rw [if_neg z] at h
      by_cases y : H 17 c.toNat = 2
      · rw [if_pos y] at h
        cases h
      · rw [if_neg y] at h
        exact ⟨a, rfl, (Sum.inl.inj h).symm, z, y⟩
  | inr x =>
    have h : (Sum.inr x : gSg) = .inl q := h
    cases h
theorem hj_table (h : HJ H) (h3' : H 0 3 < 4) (hf : H 0 13 < 0) (g : qt8 T n H (H 99) (H 0 3).toNat p = .inl q) : HJ (qTH T n H p) := by
  obtain ⟨h1, h2, h3, h4, h5, h6, h7, h8, h9, h10, h11⟩ := h
  have hw : 0 ≤ H 0 0 := by
    have := h1.2.1
    omega
  have hk := h1.1
  obtain ⟨a, g7, -, v1, v2⟩ := pN_i g
  obtain ⟨b, g6, -⟩ := pO_i g7
  have gp := qp_i g6
  obtain ⟨a2, g62, -⟩ := pN_i g6
  obtain ⟨a3, g63, -⟩ := pO_i g62
  obtain ⟨a4, g64, -⟩ := pN_i g63
  obtain ⟨a5, g65, -⟩ := pO_i g64
  obtain ⟨a6, g5, -⟩ := pO_i g65
  obtain ⟨c, g4, -, y1, y2⟩ := pN_i g5
  obtain ⟨d, g3, -⟩ := pO_i g4
  obtain ⟨e, g2, -, r3, r2⟩ := gGd_i g3
  have gc : 0 ≤ qtc T n H (H 99) (H 0 3).toNat p ∧ qtc T n H (H 99) (H 0 3).toNat p < H 0 0 * H 0 1 := pCb_i hw g2
  clear g g7 g6 g62 g63 g64 g65 g5 g4 g3 g2
  have eq : qTH T n H p = uH (rowH (uH H 17 (qtc T n H (H 99) (H 0 3).toNat p).toNat 3) 18 23 3 (H 0 3).toNat (uT (tP T n 20 (uT (uT (fun _ => 0) 18 (qtc T n H (H 99) (H 0 3).toNat p)) 19 (pV T n 1 9 (qt4 T n H (H 99) (H 0 3).toNat p))) (qt5 T n H (H 99) (H 0 3).toNat p)) 23 (pV T n 0 100 (qt7 T n H (H 99) (H 0 3).toNat p)))) 99 (H 0 3).toNat (tW T n p) := rfl
  rw [eq]
  clear eq
  generalize qtc T n H (H 99) (H 0 3).toNat p = cc at *
  generalize pV T n 1 9 (qt4 T n H (H 99) (H 0 3).toNat p) = si at *
  generalize pV T n 0 100 (qt7 T n H (H 99) (H 0 3).toNat p) = ea at *
  generalize qt5 T n H (H 99) (H 0 3).toNat p = s5 at *
  rw [← hk] at gc
  obtain ⟨p0, p1, p2⟩ := tP_0 (T := T) (n := n) (s := s5) (A := 20) (t := uT (uT (fun _ => 0) 18 cc) 19 si)
  have q18 := tP_n (T := T) (n := n) (s := s5) (A := 20) (t := uT (uT (fun _ => 0) 18 cc) 19 si) (a := 18) (by omega)
  have q19 := tP_n (T := T) (n := n) (s := s5) (A := 20) (t := uT (uT (fun _ => 0) 18 cc) 19 si) (a := 19) (by omega)
  have q18 : tP T n 20 (uT (uT (fun _ => 0) 18 cc) 19 si) s5 18 = cc := by
    rw [q18]
    unfold uT
    rw [if_neg (by omega), if_pos rfl]
  have q19 : tP T n 20 (uT (uT (fun _ => 0) 18 cc) 19 si) s5 19 = si := by
    rw [q19]
    unfold uT
    rw [if_pos rfl]
  have p0 : tP T n 20 (uT (uT (fun _ => 0) 18 cc) 19 si) s5 20 = pI T n (cs wKd) s5 := p0
  have p1 : tP T n 20 (uT (uT (fun _ => 0) 18 cc) 19 si) s5 21 = pV T n 1 9 (qp2 T n s5) := p1
  have p2 : tP T n 20 (uT (uT (fun _ => 0) 18 cc) 19 si) s5 22 = pV T n 0 9 (qp4 T n s5) := p2
  generalize tP T n 20 (uT (uT (fun _ => 0) 18 cc) 19 si) s5 = t0 at *
  obtain ⟨t, ht⟩ : ∃ t, t = uT t0 23 ea := ⟨_, rfl⟩
  rw [← ht]
  have tn : ∀ a, a ≠ 23 → t a = t0 a := fun a ha => by
    rw [ht]
    exact if_neg ha
  have t23 : t 23 = ea := by
    rw [ht]
    exact if_pos rfl
  clear ht
  have hA : ∀ a b, ((a ≠ 0 ∨ b ≠ 3) ∧ (a < 17 ∨ 23 < a) ∧ a ≠ 99) → uH (rowH (uH H 17 cc.toNat 3) 18 23 3 (H 0 3).toNat t) 99 (H 0 3).toNat (tW T n p) a b = H a b := fun a b z => by rw [uH_n (by omega), rowH_n (by omega) (by omega), uH_n (by omega)]
  have x3 : uH (rowH (uH H 17 cc.toNat 3) 18 23 3 (H 0 3).toNat t) 99 (H 0 3).toNat (tW T n p) 0 3 = H 0 3 + 1 := by
    rw [uH_n (by omega), rowH_c (by omega)]
    omega
  have xt : ∀ a b, 18 ≤ a → a ≤ 23 → uH (rowH (uH H 17 cc.toNat 3) 18 23 3 (H 0 3).toNat t) 99 (H 0 3).toNat (tW T n p) a b = if b = (H 0 3).toNat then t a else H a b := fun a b z1 z2 => by
    rw [uH_n (by omega)]
    by_cases z : b = (H 0 3).toNat
    · rw [if_pos z, z, rowH_t z1 z2]
    · rw [if_neg z, rowH_n (Or.inl z) (by omega), uH_n (by omega)]
  have x17 : ∀ b, uH (rowH (uH H 17 cc.toNat 3) 18 23 3 (H 0 3).toNat t) 99 (H 0 3).toNat (tW T n p) 17 b = if b = cc.toNat then 3 else H 17 b := fun b => by
    rw [uH_n (by omega), rowH_n (by omega) (by omega)]
    by_cases z : b = cc.toNat
    · rw [if_pos z, z, uH_s]
    · rw [if_neg z, uH_n (by omega)]
  generalize uH (rowH (uH H 17 cc.toNat 3) 18 23 3 (H 0 3).toNat t) 99 (H 0 3).toNat (tW T n p) = H2 at *
  have x0 := hA 0 0 (by omega)
  have x1 := hA 0 1 (by omega)
  have x2 := hA 0 2 (by omega)
  have x4 := hA 0 4 (by omega)
  have x5 := hA 0 5 (by omega)
  have x6 := hA 0 6 (by omega)
  have x7 := hA 0 7 (by omega)
  have x8 := hA 0 8 (by omega)
  have x10 := hA 0 10 (by omega)
  have x11 := hA 0 11 (by omega)
  have x12 := hA 0 12 (by omega)
  have x13 := hA 0 13 (by omega)
  have x14 := hA 0 14 (by omega)
  have x15 := hA 0 15 (by omega)
  have x16 := hA 0 16 (by omega)
  have x100 := hA 1 0 (by omega)
  obtain ⟨b1, b2, b3, b4, b5, b6, b7, b8, b9, b10, b11, b12, b13, b14⟩ := h2
  obtain ⟨c1, c2, c3, c4, c5, c6, c7, c8, c9, c10, c11, c12, c13, c14, c15, c16⟩ := h3
  refine ⟨?_, ⟨by omega, by omega, by omega, by omega, by omega, by omega, by omega, by omega, by omega, by omega, by omega, by omega, by omega, by omega⟩, ⟨by omega, by omega, by omega, fun z => by omega, by omega, by omega, by omega, by omega, by omega, by omega, by omega, by omega, by omega, by omega, ?_, ?_⟩, ?_, ?_, ?_, ?_, ?_, ?_, ?_, ?_⟩
  · unfold HW
    rw [x0, x1, x100]
    exact h1
  · rw [x15]
    exact c15
  · rw [x16]
    exact c16
  · intro c z1 z2
    rw [x100] at z2
    rw [x17]
    by_cases z : c.toNat = cc.toNat
    · rw [if_pos z]
      omega
    · rw [if_neg z]
      exact h4 c z1 z2
  · intro j z1 z2
    rw [xt 18 _ (by omega) (by omega), xt 19 _ (by omega) (by omega), xt 20 _ (by omega) (by omega), xt 21 _ (by omega) (by omega), xt 22 _ (by omega) (by omega), xt 23 _ (by omega) (by omega), x100]
    by_cases z : j.toNat = (H 0 3).toNat
    · rw [if_pos z, if_pos z, if_pos z, if_pos z, if_pos z, if_pos z, tn 18 (by omega), tn 19 (by omega), tn 20 (by omega), tn 21 (by omega), tn 22 (by omega), t23, q18, q19, p0, p1, p2]
      exact ⟨gc.1, gc.2, y1, y2, gp.1.1, gp.1.2, gp.2.1.1, gp.2.1.2, gp.2.2.1, gp.2.2.2, v1, v2⟩
    · rw [if_neg z, if_neg z, if_neg z, if_neg z, if_neg z, if_neg z]
      exact h5 j z1 (by omega)
  · intro i z1 z2
    rw [x4] at z2
    rw [hA 24 _ (by omega), hA 25 _ (by omega), hA 26 _ (by omega)]
    exact h6 i z1 z2
  · intro i z1 z2
    rw [x5] at z2
    rw [hA 27 _ (by omega)]
    exact h7 i z1 z2
  · intro i z1 z2
    rw [x6] at z2
    rw [hA 28 _ (by omega)]
    exact h8 i z1 z2
  · intro i z1 z2
    rw [x8] at z2
    rw [hA 29 _ (by omega), hA 30 _ (by omega), hA 31 _ (by omega), x4, x100]
    exact h9 i z1 z2
  · rw [x7, x6]
    exact h10
  · intro z
    omega
theorem gSq_i {c : Int} (h : gSq T n H c s = .inl q) : ∃ a, s = .inl a ∧ q = tE T n a ∧ 0 ≤ c ∧ H 17 c.toNat < 2 := by
  cases s with
  | inl a =>
    have h : (if 0 ≤ c ∧ H 17 c.toNat < 2 then (Sum.inl (tE T n a) : gSg) else .inr (7, (tS T n a : Int))) = .inl q := h
    by_cases z : 0 ≤ c ∧ H 17 c.toNat < 2
    · rw [if_pos z] at h
      exact ⟨a, rfl, (Sum.inl.inj h).symm, z.1, z.2⟩
    · rw [if_neg z] at h
      cases h
  | inr x =>
    have h : (Sum.inr x : gSg) = .inl q := h
    cases h
theorem qs3_i {c : Int} (h : qs3 T n H c s = .inl q) : ∃ a, s = .inl a ∧ pO T n (cs wSd) s = .inl q ∧ gCh H (pI T n (cs wSd) s) (H 0 4 - 1).toNat c = true := by
  cases s with
  | inl a =>
    have e : qs3 T n H c (.inl a) = (match pO T n (cs wSd) (.inl a) with | .inl q2 => if gCh H (pI T n (cs wSd) (.inl a)) (H 0 4 - 1).toNat c = true then .inl q2 else .inr (7, (tS T n a : Int)) | .inr x => .inr x) := rfl
    rw [e] at h
    cases g : pO T n (cs wSd) (.inl a) with
    | inl q2 =>
      rw [g] at h
      have h : (if gCh H (pI T n (cs wSd) (.inl a)) (H 0 4 - 1).toNat c = true then (Sum.inl q2 : gSg) else .inr (7, (tS T n a : Int))) = .inl q := h
      by_cases z : gCh H (pI T n (cs wSd) (.inl a)) (H 0 4 - 1).toNat c = true
      · rw [if_pos z] at h
        exact ⟨a, rfl, h, z⟩
      · rw [if_neg z] at h
        cases h
    | inr x =>
      rw [g] at h
      have h : (Sum.inr x : gSg) = .inl q := h
      cases h
  | inr x =>
    have h : (Sum.inr x : gSg) = .inl q := h
    cases h
theorem ch_bk {c v : Int} (hk : HW H) (e0 : H2 0 0 = H 0 0) (e1 : H2 1 0 = H 1 0) (e14 : H2 0 14 = v) : ∀ (m j : Nat), gCh H v m (gBk H2 j) = true → 0 ≤ gBk H2 j → gBk H2 j < H 1 0 → ∀ i, i < m → 0 ≤ gBk H2 (j + 1 + i) ∧ gBk H2 (j + 1 + i) < H 1 0 ∧ H 17 (gBk H2 (j + 1 + i)).toNat < 2 := by
  intro m
  induction m with
  | zero =>
    intro j h a b i hi
    omega
  | succ m ih =>
    intro j h a b i hi
    have eb : gBk H2 (j + 1) = gTo H (gBk H2 j) (v + 2) := by
      have e2 : gBk H2 (j + 1) = gTo H2 (gBk H2 j) (H2 0 14 + 2) := rfl
      rw [e2, e14, to_cg e0 e1]
    have e : gCh H v (m + 1) (gBk H2 j) = if 0 ≤ gTo H (gBk H2 j) (v + 2) ∧ H 17 (gTo H (gBk H2 j) (v + 2)).toNat < 2 then gCh H v m (gTo H (gBk H2 j) (v + 2)) else false := rfl
    have tr := to_rg2 hk a b (s := v + 2)
    rw [e, ← eb] at h
    rw [← eb] at tr
    by_cases z : 0 ≤ gBk H2 (j + 1) ∧ H 17 (gBk H2 (j + 1)).toNat < 2
    · rw [if_pos z] at h
      by_cases y : i = 0
      · rw [y]
        exact ⟨z.1, tr.2, z.2⟩
      · have := ih (j + 1) h z.1 tr.2 (i - 1) (by omega)
        rw [show j + 1 + 1 + (i - 1) = j + 1 + i by omega] at this
        exact this
    · rw [if_neg z] at h
      cases h
theorem hj_snake (h : HJ H) (h4' : 1 ≤ H 0 4) (hr : H 0 2 = H 0 1) (g : qs T n H p = .inl q) : HJ (qsH T n H p) := by
  obtain ⟨h1, h2, h3, h4, h5, h6, h7, h8, h9, h10, h11⟩ := h
  have hw : 0 ≤ H 0 0 := by
    have := h1.2.1
    omega
  have hk := h1.1
  obtain ⟨a, g2, g3, g4⟩ := qs3_i g
  obtain ⟨b, -, -, v1, v2⟩ := pO_i g3
  obtain ⟨c, g5, -, o1, o2⟩ := gSq_i g2
  have gc : 0 ≤ qsc T n H p ∧ qsc T n H p < H 0 0 * H 0 1 := pCb_i hw g5
  have l4 : ((cs wSd).length : Int) = 4 := rfl
  have eq : qsH T n H p = uH (uH H 0 13 (qsc T n H p)) 0 14 (pI T n (cs wSd) (qs2 T n H p)) := rfl
  rw [eq]
  clear eq g g2 g3 g5
  generalize qsc T n H p = cc at *
  generalize pI T n (cs wSd) (qs2 T n H p) = v at *
  rw [← hk] at gc
  have hA : ∀ a b, (a ≠ 0 ∨ (b ≠ 13 ∧ b ≠ 14)) → uH (uH H 0 13 cc) 0 14 v a b = H a b := fun a b z => by rw [uH_n (by omega), uH_n (by omega)]
  have x14 : uH (uH H 0 13 cc) 0 14 v 0 14 = v := uH_s
  have x13 : uH (uH H 0 13 cc) 0 14 v 0 13 = cc := by rw [uH_n (by omega), uH_s]
  generalize uH (uH H 0 13 cc) 0 14 v = H2 at *
  have b0 : gBk H2 0 = cc := x13
  have ch := ch_bk h1 (hA 0 0 (by omega)) (hA 1 0 (by omega)) x14 (c := 0) (H 0 4 - 1).toNat 0 (by rw [b0]; exact g4) (by rw [b0]; exact gc.1) (by rw [b0]; exact gc.2)
  have x0 := hA 0 0 (by omega)
  have x1 := hA 0 1 (by omega)
  have x2 := hA 0 2 (by omega)
  have x3 := hA 0 3 (by omega)
  have x4 := hA 0 4 (by omega)
  have x5 := hA 0 5 (by omega)
  have x6 := hA 0 6 (by omega)
  have x7 := hA 0 7 (by omega)
  have x8 := hA 0 8 (by omega)
  have x10 := hA 0 10 (by omega)
  have x11 := hA 0 11 (by omega)
  have x12 := hA 0 12 (by omega)
  have x15 := hA 0 15 (by omega)
  have x16 := hA 0 16 (by omega)
  have x100 := hA 1 0 (by omega)
  obtain ⟨b1, b2, b3, b4, b5, b6, b7, b8, b9, b10, b11, b12, b13, b14⟩ := h2
  obtain ⟨c1, c2, c3, c4, c5, c6, c7, c8, c9, c10, c11, c12, c13, c14, c15, c16⟩ := h3
  refine ⟨?_, ⟨by omega, by omega, by omega, by omega, by omega, by omega, by omega, by omega, by omega, by omega, by omega, by omega, by omega, by omega⟩, ⟨by omega, by omega, by omega, fun z => by omega, by omega, by omega, by omega, by omega, by omega, by omega, by omega, by omega, by omega, by omega, ?_, ?_⟩, ?_, ?_, ?_, ?_, ?_, ?_, ?_, ?_⟩
  · unfold HW
    rw [x0, x1, x100]
    exact h1
  · rw [x15]
    exact c15
  · rw [x16]
    exact c16
  · intro c z1 z2
    rw [x100] at z2
    rw [hA 17 _ (by omega)]
    exact h4 c z1 z2
  · intro t z1 z2
    rw [x3] at z2
    rw [hA 18 _ (by omega), hA 19 _ (by omega), hA 20 _ (by omega), hA 21 _ (by omega), hA 22 _ (by omega), hA 23 _ (by omega), x100]
    exact h5 t z1 z2
  · intro i z1 z2
    rw [x4] at z2
    rw [hA 24 _ (by omega), hA 25 _ (by omega), hA 26 _ (by omega)]
    exact h6 i z1 z2
  · intro i z1 z2
    rw [x5] at z2
    rw [hA 27 _ (by omega)]
    exact h7 i z1 z2
  · intro i z1 z2
    rw [x6] at z2
    rw [hA 28 _ (by omega)]
    exact h8 i z1 z2
  · intro i z1 z2
    rw [x8] at z2
    rw [hA 29 _ (by omega), hA 30 _ (by omega), hA 31 _ (by omega), x4, x100]
    exact h9 i z1 z2
  · rw [x7, x6]
    exact h10
  · intro z
    refine ⟨by omega, by omega, fun m hm => ?_⟩
    rw [x4] at hm
    rw [x100, hA 17 _ (by omega)]
    by_cases y : m = 0
    · rw [y, b0]
      exact ⟨gc.1, gc.2, o2⟩
    · have := ch (m - 1) (by omega)
      rw [show 0 + 1 + (m - 1) = m by omega] at this
      exact this
theorem hj_hall (g : qh8 T n (.inl p) = .inl q) : HJ (qHH T n gH0 p) := by
  obtain ⟨a1, g7, -, z1, z2⟩ := pO_i g
  obtain ⟨a2, g6, -⟩ := pO_i g7
  obtain ⟨a3, g5, -⟩ := pO_i g6
  obtain ⟨a4, g4, -⟩ := pO_i g5
  obtain ⟨a5, g3, -, v1, v2⟩ := pN_i g4
  obtain ⟨a6, g2, -⟩ := pO_i g3
  obtain ⟨a7, g1, -, w1, w2⟩ := pN_i g2
  clear g g7 g6 g5 g4 g3 g2 g1
  have eq : qHH T n gH0 p = uH (uH (uH (uH (uH gH0 0 15 (if pI T n (cs wRo) (qh5 T n (.inl p)) = 1 then 1 else 0)) 0 16 (if pI T n (cs wBe) (qh7 T n (.inl p)) = 1 then 1 else 0)) 0 0 (pV T n 3 8 (qh1 T n (.inl p)))) 0 1 (pV T n 2 6 (qh3 T n (.inl p)))) 1 0 (pV T n 3 8 (qh1 T n (.inl p)) * pV T n 2 6 (qh3 T n (.inl p))) := rfl
  rw [eq]
  clear eq
  obtain ⟨R, hR, hR2⟩ : ∃ R : Int, (if pI T n (cs wRo) (qh5 T n (.inl p)) = 1 then (1 : Int) else 0) = R ∧ (R = 0 ∨ R = 1) := ⟨_, rfl, by split <;> omega⟩
  obtain ⟨B, hB, hB2⟩ : ∃ B : Int, (if pI T n (cs wBe) (qh7 T n (.inl p)) = 1 then (1 : Int) else 0) = B ∧ (B = 0 ∨ B = 1) := ⟨_, rfl, by split <;> omega⟩
  rw [hR, hB]
  generalize pV T n 3 8 (qh1 T n (.inl p)) = W at *
  generalize pV T n 2 6 (qh3 T n (.inl p)) = V at *
  have n7 : gH0 0 7 = -1 := rfl
  have n10 : gH0 0 10 = -2 := rfl
  have n12 : gH0 0 12 = -2 := rfl
  have n13 : gH0 0 13 = -2 := rfl
  have nz : ∀ a b, (a ≠ 0 ∨ (b ≠ 7 ∧ b ≠ 10 ∧ b ≠ 12 ∧ b ≠ 13)) → gH0 a b = 0 := fun a b z => by
    unfold gH0
    rw [if_neg (by omega), if_neg (by omega)]
  have hA : ∀ a b, ((a ≠ 0 ∨ (b ≠ 0 ∧ b ≠ 1 ∧ b ≠ 15 ∧ b ≠ 16)) ∧ (a ≠ 1 ∨ b ≠ 0)) → uH (uH (uH (uH (uH gH0 0 15 R) 0 16 B) 0 0 W) 0 1 V) 1 0 (W * V) a b = gH0 a b := fun a b z => by rw [uH_n (by omega), uH_n (by omega), uH_n (by omega), uH_n (by omega), uH_n (by omega)]
  have x0 : uH (uH (uH (uH (uH gH0 0 15 R) 0 16 B) 0 0 W) 0 1 V) 1 0 (W * V) 0 0 = W := by rw [uH_n (by omega), uH_n (by omega), uH_s]
  have x1 : uH (uH (uH (uH (uH gH0 0 15 R) 0 16 B) 0 0 W) 0 1 V) 1 0 (W * V) 0 1 = V := by rw [uH_n (by omega), uH_s]
  have x15 : uH (uH (uH (uH (uH gH0 0 15 R) 0 16 B) 0 0 W) 0 1 V) 1 0 (W * V) 0 15 = R := by rw [uH_n (by omega), uH_n (by omega), uH_n (by omega), uH_n (by omega), uH_s]
  have x16 : uH (uH (uH (uH (uH gH0 0 15 R) 0 16 B) 0 0 W) 0 1 V) 1 0 (W * V) 0 16 = B := by rw [uH_n (by omega), uH_n (by omega), uH_n (by omega), uH_s]
  have x100 : uH (uH (uH (uH (uH gH0 0 15 R) 0 16 B) 0 0 W) 0 1 V) 1 0 (W * V) 1 0 = W * V := uH_s
  generalize uH (uH (uH (uH (uH gH0 0 15 R) 0 16 B) 0 0 W) 0 1 V) 1 0 (W * V) = H2 at *
  have wv : 6 ≤ W * V ∧ W * V ≤ 48 := by
    have hW : W = 3 ∨ W = 4 ∨ W = 5 ∨ W = 6 ∨ W = 7 ∨ W = 8 := by omega
    rcases hW with rfl | rfl | rfl | rfl | rfl | rfl <;> omega
  have x2 := (hA 0 2 (by omega)).trans (nz 0 2 (by omega))
  have x3 := (hA 0 3 (by omega)).trans (nz 0 3 (by omega))
  have x4 := (hA 0 4 (by omega)).trans (nz 0 4 (by omega))
  have x5 := (hA 0 5 (by omega)).trans (nz 0 5 (by omega))
  have x6 := (hA 0 6 (by omega)).trans (nz 0 6 (by omega))
  have x8 := (hA 0 8 (by omega)).trans (nz 0 8 (by omega))
  have x11 := (hA 0 11 (by omega)).trans (nz 0 11 (by omega))
  have x14 := (hA 0 14 (by omega)).trans (nz 0 14 (by omega))
  have x7 := (hA 0 7 (by omega)).trans n7
  have x10 := (hA 0 10 (by omega)).trans n10
  have x12 := (hA 0 12 (by omega)).trans n12
  have x13 := (hA 0 13 (by omega)).trans n13
  refine ⟨⟨by rw [x100, x0, x1], by omega, by omega, by omega, by omega, by omega, by omega⟩, ⟨by omega, by omega, by omega, by omega, by omega, by omega, by omega, by omega, by omega, by omega, by omega, by omega, by omega, by omega⟩, ⟨by omega, by omega, by omega, fun z => by omega, by omega, by omega, by omega, by omega, by omega, by omega, by omega, by omega, by omega, by omega, by rw [x15]; exact hR2, by rw [x16]; exact hB2⟩, fun c z1 z2 => by rw [hA 17 _ (by omega), nz 17 _ (by omega)]; omega, fun t z1 z2 => by omega, fun t z1 z2 => by omega, fun t z1 z2 => by omega, fun t z1 z2 => by omega, fun t z1 z2 => by omega, fun z => by omega, fun z => by omega⟩
end PUREB
