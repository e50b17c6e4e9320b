/-! The class: a Hall. -/
def gTab (H : Nat → Nat → Int) (i j : Nat) : Int := if j = 0 then H 18 i else if j = 5 then H 19 i else H (19 + j) i
def CH (w : jmW) (b : Nat) (H : Nat → Nat → Int) : Prop := mS w b = (1, 1, 0) ∧ mR w b 0 = some (b + 1) ∧ mR w b 1 = some (b + 3) ∧ mR w b 2 = some (b + 5) ∧ mR w b 3 = some (b + 7) ∧ mR w b 4 = some (b + 9) ∧ mR w b 5 = some (b + 11) ∧ mR w b 6 = some (b + 13) ∧ mR w b 7 = some (b + 15) ∧ mI w b 8 = H 0 0 ∧ mI w b 9 = H 0 1 ∧ mI w b 10 = H 0 15 ∧ mI w b 11 = H 0 16 ∧ mI w b 12 = H 0 10 ∧ mI w b 14 = H 0 12 ∧ mI w b 15 = H 0 7 ∧ mI w b 16 = H 0 13 ∧ mI w b 17 = H 0 14 ∧ (0 ≤ H 0 10 → mI w b 13 = H 0 11) ∧ Sg w (b + 1) 1 48 (H 1 0).toNat (fun i _ => H 17 i) ∧ Sg w (b + 3) 1 8 (H 0 5).toNat (fun i _ => H 27 i) ∧ Sg w (b + 5) 1 12 (H 0 6).toNat (fun i _ => H 28 i) ∧ Sg w (b + 7) 6 4 (H 0 3).toNat (gTab H) ∧ Sg w (b + 9) 3 8 (H 0 4).toNat (fun i j => H (24 + j) i) ∧ Sg w (b + 11) 3 8 (H 0 8).toNat (fun i j => H (29 + j) i) ∧ (∃ n g, Sg w (b + 13) 4 48 n g) ∧ (∃ n g, Sg w (b + 15) 1 48 n g)
theorem CH.s {w : jmW} {b : Nat} {H : Nat → Nat → Int} (g : CH w b H) : mS w b = (1, 1, 0) := g.1
theorem CH.r0 {w : jmW} {b : Nat} {H : Nat → Nat → Int} (g : CH w b H) : mR w b 0 = some (b + 1) := g.2.1
theorem CH.r1 {w : jmW} {b : Nat} {H : Nat → Nat → Int} (g : CH w b H) : mR w b 1 = some (b + 3) := g.2.2.1
theorem CH.r2 {w : jmW} {b : Nat} {H : Nat → Nat → Int} (g : CH w b H) : mR w b 2 = some (b + 5) := g.2.2.2.1
theorem CH.r3 {w : jmW} {b : Nat} {H : Nat → Nat → Int} (g : CH w b H) : mR w b 3 = some (b + 7) := g.2.2.2.2.1
theorem CH.r4 {w : jmW} {b : Nat} {H : Nat → Nat → Int} (g : CH w b H) : mR w b 4 = some (b + 9) := g.2.2.2.2.2.1
theorem CH.r5 {w : jmW} {b : Nat} {H : Nat → Nat → Int} (g : CH w b H) : mR w b 5 = some (b + 11) := g.2.2.2.2.2.2.1
theorem CH.r6 {w : jmW} {b : Nat} {H : Nat → Nat → Int} (g : CH w b H) : mR w b 6 = some (b + 13) := g.2.2.2.2.2.2.2.1
theorem CH.r7 {w : jmW} {b : Nat} {H : Nat → Nat → Int} (g : CH w b H) : mR w b 7 = some (b + 15) := g.2.2.2.2.2.2.2.2.1
theorem CH.f8 {w : jmW} {b : Nat} {H : Nat → Nat → Int} (g : CH w b H) : mI w b 8 = H 0 0 := g.2.2.2.2.2.2.2.2.2.1
theorem CH.f9 {w : jmW} {b : Nat} {H : Nat → Nat → Int} (g : CH w b H) : mI w b 9 = H 0 1 := g.2.2.2.2.2.2.2.2.2.2.1
theorem CH.f10 {w : jmW} {b : Nat} {H : Nat → Nat → Int} (g : CH w b H) : mI w b 10 = H 0 15 := g.2.2.2.2.2.2.2.2.2.2.2.1
theorem CH.f11 {w : jmW} {b : Nat} {H : Nat → Nat → Int} (g : CH w b H) : mI w b 11 = H 0 16 := g.2.2.2.2.2.2.2.2.2.2.2.2.1
theorem CH.f12 {w : jmW} {b : Nat} {H : Nat → Nat → Int} (g : CH w b H) : mI w b 12 = H 0 10 := g.2.2.2.2.2.2.2.2.2.2.2.2.2.1
theorem CH.f14 {w : jmW} {b : Nat} {H : Nat → Nat → Int} (g : CH w b H) : mI w b 14 = H 0 12 := g.2.2.2.2.2.2.2.2.2.2.2.2.2.2.1
theorem CH.f15 {w : jmW} {b : Nat} {H : Nat → Nat → Int} (g : CH w b H) : mI w b 15 = H 0 7 := g.2.2.2.2.2.2.2.2.2.2.2.2.2.2.2.1
theorem CH.f16 {w : jmW} {b : Nat} {H : Nat → Nat → Int} (g : CH w b H) : mI w b 16 = H 0 13 := g.2.2.2.2.2.2.2.2.2.2.2.2.2.2.2.2.1
theorem CH.f17 {w : jmW} {b : Nat} {H : Nat → Nat → Int} (g : CH w b H) : mI w b 17 = H 0 14 := g.2.2.2.2.2.2.2.2.2.2.2.2.2.2.2.2.2.1
theorem CH.f13 {w : jmW} {b : Nat} {H : Nat → Nat → Int} (g : CH w b H) : (0 ≤ H 0 10 → mI w b 13 = H 0 11) := g.2.2.2.2.2.2.2.2.2.2.2.2.2.2.2.2.2.2.1
theorem CH.g1 {w : jmW} {b : Nat} {H : Nat → Nat → Int} (g : CH w b H) : Sg w (b + 1) 1 48 (H 1 0).toNat (fun i _ => H 17 i) := g.2.2.2.2.2.2.2.2.2.2.2.2.2.2.2.2.2.2.2.1
theorem CH.g3 {w : jmW} {b : Nat} {H : Nat → Nat → Int} (g : CH w b H) : Sg w (b + 3) 1 8 (H 0 5).toNat (fun i _ => H 27 i) := g.2.2.2.2.2.2.2.2.2.2.2.2.2.2.2.2.2.2.2.2.1
theorem CH.g5 {w : jmW} {b : Nat} {H : Nat → Nat → Int} (g : CH w b H) : Sg w (b + 5) 1 12 (H 0 6).toNat (fun i _ => H 28 i) := g.2.2.2.2.2.2.2.2.2.2.2.2.2.2.2.2.2.2.2.2.2.1
theorem CH.g7 {w : jmW} {b : Nat} {H : Nat → Nat → Int} (g : CH w b H) : Sg w (b + 7) 6 4 (H 0 3).toNat (gTab H) := g.2.2.2.2.2.2.2.2.2.2.2.2.2.2.2.2.2.2.2.2.2.2.1
theorem CH.g9 {w : jmW} {b : Nat} {H : Nat → Nat → Int} (g : CH w b H) : Sg w (b + 9) 3 8 (H 0 4).toNat (fun i j => H (24 + j) i) := g.2.2.2.2.2.2.2.2.2.2.2.2.2.2.2.2.2.2.2.2.2.2.2.1
theorem CH.g11 {w : jmW} {b : Nat} {H : Nat → Nat → Int} (g : CH w b H) : Sg w (b + 11) 3 8 (H 0 8).toNat (fun i j => H (29 + j) i) := g.2.2.2.2.2.2.2.2.2.2.2.2.2.2.2.2.2.2.2.2.2.2.2.2.1
theorem CH.g13 {w : jmW} {b : Nat} {H : Nat → Nat → Int} (g : CH w b H) : ∃ n g, Sg w (b + 13) 4 48 n g := g.2.2.2.2.2.2.2.2.2.2.2.2.2.2.2.2.2.2.2.2.2.2.2.2.2.1
theorem CH.g15 {w : jmW} {b : Nat} {H : Nat → Nat → Int} (g : CH w b H) : ∃ n g, Sg w (b + 15) 1 48 n g := g.2.2.2.2.2.2.2.2.2.2.2.2.2.2.2.2.2.2.2.2.2.2.2.2.2.2
theorem CH.t1 {w : jmW} {b : Nat} {H : Nat → Nat → Int} (g : CH w b H) : mS w (b + 1) = (1, 5, 0) := g.g1.1
theorem CH.t3 {w : jmW} {b : Nat} {H : Nat → Nat → Int} (g : CH w b H) : mS w (b + 3) = (1, 5, 0) := g.g3.1
theorem CH.t5 {w : jmW} {b : Nat} {H : Nat → Nat → Int} (g : CH w b H) : mS w (b + 5) = (1, 5, 0) := g.g5.1
theorem CH.t7 {w : jmW} {b : Nat} {H : Nat → Nat → Int} (g : CH w b H) : mS w (b + 7) = (1, 5, 0) := g.g7.1
theorem CH.t9 {w : jmW} {b : Nat} {H : Nat → Nat → Int} (g : CH w b H) : mS w (b + 9) = (1, 5, 0) := g.g9.1
theorem CH.t11 {w : jmW} {b : Nat} {H : Nat → Nat → Int} (g : CH w b H) : mS w (b + 11) = (1, 5, 0) := g.g11.1
theorem CH.t13 {w : jmW} {b : Nat} {H : Nat → Nat → Int} (g : CH w b H) : mS w (b + 13) = (1, 5, 0) := by
  obtain ⟨n, q, h⟩ := g.g13
  exact h.1
theorem CH.t15 {w : jmW} {b : Nat} {H : Nat → Nat → Int} (g : CH w b H) : mS w (b + 15) = (1, 5, 0) := by
  obtain ⟨n, q, h⟩ := g.g15
  exact h.1
/-- a Hall's cells -/
def hP (b : Nat) : Nat → Prop := fun x => b ≤ x ∧ x ≤ b + 16
theorem CH.fr {P : Nat → Prop} {w u : jmW} {b : Nat} {H : Nat → Nat → Int} (g : CH w b H) (f : Fr P w u) (hP : ∀ x, b ≤ x → x ≤ b + 16 → ¬ P x) : CH u b H := by
  have p0 := hP b (by omega) (by omega)
  have tr : ∀ k c r n q, k ≤ 15 → Sg w (b + k) c r n q → Sg u (b + k) c r n q := fun k c r n q hk s => s.fr f (hP _ (by omega) (by omega)) (hP _ (by omega) (by omega))
  have m1 := g.g1
  have m3 := g.g3
  have m5 := g.g5
  have m7 := g.g7
  have m9 := g.g9
  have m11 := g.g11
  obtain ⟨n13, q13, m13⟩ := g.g13
  obtain ⟨n15, q15, m15⟩ := g.g15
  unfold CH at g ⊢
  rw [f.q, f.Rq p0, f.Iq p0]
  obtain ⟨y1, y2, y3, y4, y5, y6, y7, y8, y9, x1, x2, x3, x4, x5, x6, x7, x8, x9, x10, -⟩ := g
  exact ⟨y1, y2, y3, y4, y5, y6, y7, y8, y9, x1, x2, x3, x4, x5, x6, x7, x8, x9, x10, tr 1 _ _ _ _ (by omega) m1, tr 3 _ _ _ _ (by omega) m3, tr 5 _ _ _ _ (by omega) m5, tr 7 _ _ _ _ (by omega) m7, tr 9 _ _ _ _ (by omega) m9, tr 11 _ _ _ _ (by omega) m11, ⟨n13, q13, tr 13 _ _ _ _ (by omega) m13⟩, ⟨n15, q15, tr 15 _ _ _ _ (by omega) m15⟩⟩
