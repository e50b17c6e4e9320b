/-! What a fault is: one of seven. -/
def gE : gSg → Prop
  | .inl _ => True
  | .inr x => 1 ≤ x.1 ∧ x.1 ≤ 7
section KINDS
variable {T : Nat → Int} {n p : Nat} {H : Nat → Nat → Int} {s : gSg} {ws : List Int} {lo hi W V k : Int}
theorem gE_l {q : Nat} : gE (.inl q) := trivial
theorem gE_r {f a : Int} (h : 1 ≤ f ∧ f ≤ 7) : gE (.inr (f, a)) := h
theorem gE.O (m : gE s) : gE (pO T n ws s) := by
  cases s with
  | inl a =>
    show gE (if 0 ≤ pI T n ws (.inl a) then .inl (tE T n a) else .inr (1, (tS T n a : Int)))
    split
    · exact gE_l
    · exact gE_r (by omega)
  | inr x => exact m
theorem gE.B (m : gE s) : gE (pB T n lo hi s) := by
  cases s with
  | inl a =>
    show gE (if tK T n a = 2 then (if lo ≤ tN T n a ∧ tN T n a ≤ hi then .inl a else .inr (4, (tS T n a : Int))) else .inr (1, (tS T n a : Int)))
    split
    · split
      · exact gE_l
      · exact gE_r (by omega)
    · exact gE_r (by omega)
  | inr x => exact m
theorem gE.G (m : gE s) : gE (pG T n s) := by
  cases s with
  | inl a => exact gE_l
  | inr x => exact m
theorem gE.N (m : gE s) : gE (pN T n lo hi s) := m.B.G
theorem gE.S (m : gE s) : gE (pS T n k s) := by
  cases s with
  | inl a =>
    show gE (if tK T n a = k then .inl (tE T n a) else .inr (1, (tS T n a : Int)))
    split
    · exact gE_l
    · exact gE_r (by omega)
  | inr x => exact m
theorem gE.Cb (m : gE s) : gE (pCb T n W V s) := m.N.S.B
theorem gE.Cn (m : gE s) : gE (pCn T n W V s) := m.Cb.G
theorem gE.L : gE (pL T n H p) := by
  have m : gE (pN T n 0 3 (.inl p)) := gE_l.N
  unfold pL
  split
  · split
    · exact gE_l
    · exact gE_r (by omega)
  · rename_i x h
    rw [h] at m
    exact m
theorem gE.M : gE (pM T n H p) := by
  have m : gE (pO T n (cs wSd) (.inl p)) := gE_l.O
  unfold pM
  split
  · split
    · exact gE_l
    · exact gE_r (by omega)
  · rename_i x h
    rw [h] at m
    exact m
theorem gE.stp : ∀ (m p : Nat) (H : Nat → Nat → Int), gE (gStp T n m p H).1 := by
  intro m
  induction m with
  | zero => intro p H; exact gE_l
  | succ m ih =>
    intro p H
    have e := gE.L (T := T) (n := n) (H := H) (p := p)
    rw [gStp]
    split
    · rename_i x h
      rw [h] at e
      exact e
    · split
      · exact ih _ _
      · exact gE_l
theorem gE.way : ∀ (m p : Nat) (H : Nat → Nat → Int), gE (gWay T n m p H).1 := by
  intro m
  induction m with
  | zero => intro p H; exact gE_l
  | succ m ih =>
    intro p H
    have e := gE.M (T := T) (n := n) (H := H) (p := p)
    rw [gWay]
    split
    · rename_i x h
      rw [h] at e
      exact e
    · split
      · exact ih _ _
      · exact gE_l
theorem gE.Ld : gE (qLd T n H p).1 := by
  have m : gE (pO T n (cs wLd) (.inl p)) := gE_l.O
  unfold qLd
  split
  · rename_i x h
    rw [h] at m
    exact m
  · split
    · exact gE.way _ _ _
    · exact gE_l
theorem gE.Rw : gE (qRw T n W p) := by
  unfold qRw
  repeat' split
  all_goals first | exact gE_l | exact gE_r (by omega)
theorem gE.p5 (m : gE s) : gE (qp5 T n s) := m.O.O.N.O.N
theorem gE.t1 {C : Nat → Int} {K : Nat} : gE (qt1 T n C K p) := by
  unfold qt1
  repeat' split
  all_goals first | exact gE_l | exact gE_r (by omega)
theorem gE.Gd {c : Int} (m : gE s) : gE (gGd T n H c s) := by
  cases s with
  | inl a =>
    show gE (if H 17 c.toNat = 3 then .inr (3, (tS T n a : Int)) else if H 17 c.toNat = 2 then .inr (7, (tS T n a : Int)) else .inl (tE T n a))
    repeat' split
    all_goals first | exact gE_l | exact gE_r (by omega)
  | inr x => exact m
theorem gE.t8 {C : Nat → Int} {K : Nat} : gE (qt8 T n H C K p) := (gE.p5 (gE.Gd (gE.Cb (gE.O gE.t1))).O.N).O.N
theorem gE.Sq {c : Int} (m : gE s) : gE (gSq T n H c s) := by
  cases s with
  | inl a =>
    show gE (if 0 ≤ c ∧ H 17 c.toNat < 2 then .inl (tE T n a) else .inr (7, (tS T n a : Int)))
    split
    · exact gE_l
    · exact gE_r (by omega)
  | inr x => exact m
theorem gE.s3 {c : Int} (m : gE s) : gE (qs3 T n H c s) := by
  cases s with
  | inl a =>
    have m2 : gE (pO T n (cs wSd) (.inl a)) := gE_l.O
    unfold qs3
    repeat' split
    all_goals first
      | exact gE_l
      | exact gE_r (by omega)
      | (simp_all; done)
      | (rename_i h; rw [h] at m2; exact m2)
      | (rename_i h _; rw [h] at m2; exact m2)
  | inr x => exact m
theorem gE.sn : gE (qs T n H p) := gE.s3 (gE.Sq gE_l.Cb)
theorem gE.z7 : (0 : Int) = 0 ∨ (1 ≤ (0 : Int) ∧ (0 : Int) ≤ 7) := Or.inl rfl
theorem gE.c7 {c : Prop} [Decidable c] {a b : Int} (x : a = 0 ∨ (1 ≤ a ∧ a ≤ 7)) (y : b = 0 ∨ (1 ≤ b ∧ b ≤ 7)) : (if c then a else b) = 0 ∨ (1 ≤ (if c then a else b) ∧ (if c then a else b) ≤ 7) := by
  split
  · exact x
  · exact y
theorem gE.lk {b : Int} : gLk H b = 0 ∨ (1 ≤ gLk H b ∧ gLk H b ≤ 7) := gE.c7 (Or.inr (by omega)) gE.z7
theorem gE.fa {l : Int} (h : gFa H l ≠ 0) : 1 ≤ gFa H l ∧ gFa H l ≤ 7 := by
  have e : gFa H l = 0 ∨ (1 ≤ gFa H l ∧ gFa H l ≤ 7) := by
    unfold gFa
    repeat' apply gE.c7
    all_goals first | exact gE.lk | exact gE.z7 | exact Or.inr (by omega)
  exact e.resolve_left h
theorem gE.rd {l : Int} : gE (gRd T n H l p).1 := by
  unfold gRd
  repeat' split
  · exact gE_l.O.N.O.N.O.O.O.O
  · exact gE.Rw
  · exact gE_l.Cn.O.N
  · exact gE_l.Cn
  · exact gE.stp _ _ _
  · exact gE.Ld
  · exact gE.t8
  · exact gE_l.p5
  · exact gE.sn
  · exact gE_l.N.N.O.Cn
theorem gE.ln : gE (gLn T n p H).1 := by
  unfold gLn
  split
  · exact gE.rd
  · rename_i h
    refine gE_r ?_
    unfold gLf at h ⊢
    by_cases z : pI T n (cs wLn) (.inl p) < 0
    · rw [if_pos z]
      omega
    · rw [if_neg z] at h ⊢
      exact gE.fa h
theorem gE.read : ∀ (m p : Nat) (H : Nat → Nat → Int), gE (gRead T n m p H).1 := by
  intro m
  induction m with
  | zero => intro p H; exact gE_l
  | succ m ih =>
    intro p H
    have e := gE.ln (T := T) (n := n) (H := H) (p := p)
    rw [gRead]
    split
    · rename_i x H2 h
      rw [h] at e
      exact e
    · repeat' split
      · exact gE_r (by omega)
      · exact gE_l
      · exact ih _ _
      · exact gE_r (by omega)
end KINDS
