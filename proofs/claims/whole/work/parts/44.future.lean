/-! The class: the Future. -/
def TU (w : jmW) : Prop := mS w 1 = (4, 0, 12) ∧ mI w 1 0 = 0 ∧ mI w 1 1 = 1 ∧ mI w 1 2 = 3 ∧ mI w 1 3 = 2 ∧ mI w 1 4 = 1 ∧ mI w 1 5 = 0 ∧ mI w 1 6 = 3 ∧ mI w 1 7 = 2 ∧ mI w 1 8 = 3 ∧ mI w 1 9 = 0 ∧ mI w 1 10 = 1 ∧ mI w 1 11 = 2
noncomputable def gNear (H : Nat → Nat → Int) (i j : Nat) : Int := ci (gOpen H (gTo H i j)) (gTo H i j) (-1)
noncomputable def gHmw (H : Nat → Nat → Int) (i _ : Nat) : Int := if gDist H (fun _ => False) (H 0 12) i < 0 then -1 else gDist H (fun _ => False) (H 0 12) i
def FS (w : jmW) (H : Nat → Nat → Int) (L : Int) (S r g : Nat → Int) (c : Int) : Prop := mS w 118 = (1, 0, 0) ∧ mR w 118 0 = some 84 ∧ mR w 118 1 = some 119 ∧ mR w 118 2 = some 126 ∧ mR w 118 3 = some 128 ∧ mR w 118 4 = some 130 ∧ mR w 118 5 = some 132 ∧ mR w 118 6 = some 134 ∧ CR w 119 (H 0 3).toNat c r ∧ Sg w 126 1 44 44 (fun i _ => g i) ∧ (∃ n q, Sg w 128 1 44 n q) ∧ Sg w 130 1 12 L.toNat (fun i _ => S i) ∧ (∃ n q, Sg w 132 1 48 n q) ∧ (∃ n q, Sg w 134 1 4 n q) ∧ CH w 84 H ∧ Sg w 97 4 48 (H 1 0).toNat (gNear H) ∧ Sg w 99 1 48 (H 1 0).toNat (gHmw H) ∧ TU w
theorem FS.s {w : jmW} {H : Nat → Nat → Int} {L : Int} {S r g : Nat → Int} {c : Int} (f : FS w H L S r g c) : mS w 118 = (1, 0, 0) := f.1
theorem FS.r0 {w : jmW} {H : Nat → Nat → Int} {L : Int} {S r g : Nat → Int} {c : Int} (f : FS w H L S r g c) : mR w 118 0 = some 84 := f.2.1
theorem FS.r1 {w : jmW} {H : Nat → Nat → Int} {L : Int} {S r g : Nat → Int} {c : Int} (f : FS w H L S r g c) : mR w 118 1 = some 119 := f.2.2.1
theorem FS.r2 {w : jmW} {H : Nat → Nat → Int} {L : Int} {S r g : Nat → Int} {c : Int} (f : FS w H L S r g c) : mR w 118 2 = some 126 := f.2.2.2.1
theorem FS.r3 {w : jmW} {H : Nat → Nat → Int} {L : Int} {S r g : Nat → Int} {c : Int} (f : FS w H L S r g c) : mR w 118 3 = some 128 := f.2.2.2.2.1
theorem FS.r4 {w : jmW} {H : Nat → Nat → Int} {L : Int} {S r g : Nat → Int} {c : Int} (f : FS w H L S r g c) : mR w 118 4 = some 130 := f.2.2.2.2.2.1
theorem FS.r5 {w : jmW} {H : Nat → Nat → Int} {L : Int} {S r g : Nat → Int} {c : Int} (f : FS w H L S r g c) : mR w 118 5 = some 132 := f.2.2.2.2.2.2.1
theorem FS.r6 {w : jmW} {H : Nat → Nat → Int} {L : Int} {S r g : Nat → Int} {c : Int} (f : FS w H L S r g c) : mR w 118 6 = some 134 := f.2.2.2.2.2.2.2.1
theorem FS.cr {w : jmW} {H : Nat → Nat → Int} {L : Int} {S r g : Nat → Int} {c : Int} (f : FS w H L S r g c) : CR w 119 (H 0 3).toNat c r := f.2.2.2.2.2.2.2.2.1
theorem FS.g2 {w : jmW} {H : Nat → Nat → Int} {L : Int} {S r g : Nat → Int} {c : Int} (f : FS w H L S r g c) : Sg w 126 1 44 44 (fun i _ => g i) := f.2.2.2.2.2.2.2.2.2.1
theorem FS.g3 {w : jmW} {H : Nat → Nat → Int} {L : Int} {S r g : Nat → Int} {c : Int} (f : FS w H L S r g c) : (∃ n q, Sg w 128 1 44 n q) := f.2.2.2.2.2.2.2.2.2.2.1
theorem FS.g4 {w : jmW} {H : Nat → Nat → Int} {L : Int} {S r g : Nat → Int} {c : Int} (f : FS w H L S r g c) : Sg w 130 1 12 L.toNat (fun i _ => S i) := f.2.2.2.2.2.2.2.2.2.2.2.1
theorem FS.g5 {w : jmW} {H : Nat → Nat → Int} {L : Int} {S r g : Nat → Int} {c : Int} (f : FS w H L S r g c) : (∃ n q, Sg w 132 1 48 n q) := f.2.2.2.2.2.2.2.2.2.2.2.2.1
theorem FS.g6 {w : jmW} {H : Nat → Nat → Int} {L : Int} {S r g : Nat → Int} {c : Int} (f : FS w H L S r g c) : (∃ n q, Sg w 134 1 4 n q) := f.2.2.2.2.2.2.2.2.2.2.2.2.2.1
theorem FS.ch {w : jmW} {H : Nat → Nat → Int} {L : Int} {S r g : Nat → Int} {c : Int} (f : FS w H L S r g c) : CH w 84 H := f.2.2.2.2.2.2.2.2.2.2.2.2.2.2.1
theorem FS.nr {w : jmW} {H : Nat → Nat → Int} {L : Int} {S r g : Nat → Int} {c : Int} (f : FS w H L S r g c) : Sg w 97 4 48 (H 1 0).toNat (gNear H) := f.2.2.2.2.2.2.2.2.2.2.2.2.2.2.2.1
theorem FS.hw {w : jmW} {H : Nat → Nat → Int} {L : Int} {S r g : Nat → Int} {c : Int} (f : FS w H L S r g c) : Sg w 99 1 48 (H 1 0).toNat (gHmw H) := f.2.2.2.2.2.2.2.2.2.2.2.2.2.2.2.2.1
theorem FS.tu {w : jmW} {H : Nat → Nat → Int} {L : Int} {S r g : Nat → Int} {c : Int} (f : FS w H L S r g c) : TU w := f.2.2.2.2.2.2.2.2.2.2.2.2.2.2.2.2.2
theorem FS.x119 {w : jmW} {H : Nat → Nat → Int} {L : Int} {S r g : Nat → Int} {c : Int} (hf : FS w H L S r g c) : mS w 119 = (1, 4, 0) := hf.cr.s0
theorem FS.x119p {w : jmW} {H : Nat → Nat → Int} {L : Int} {S r g : Nat → Int} {c : Int} (hf : FS w H L S r g c) : mR w 119 0 = some 120 := hf.cr.p
theorem FS.x119k {w : jmW} {H : Nat → Nat → Int} {L : Int} {S r g : Nat → Int} {c : Int} (hf : FS w H L S r g c) : mR w 119 1 = some 122 := hf.cr.k
theorem FS.x119t {w : jmW} {H : Nat → Nat → Int} {L : Int} {S r g : Nat → Int} {c : Int} (hf : FS w H L S r g c) : mR w 119 2 = some 124 := hf.cr.t
theorem FS.x120 {w : jmW} {H : Nat → Nat → Int} {L : Int} {S r g : Nat → Int} {c : Int} (hf : FS w H L S r g c) : mS w 120 = (1, 5, 0) := hf.cr.s1
theorem FS.x122 {w : jmW} {H : Nat → Nat → Int} {L : Int} {S r g : Nat → Int} {c : Int} (hf : FS w H L S r g c) : mS w 122 = (1, 5, 0) := hf.cr.s3
theorem FS.x124 {w : jmW} {H : Nat → Nat → Int} {L : Int} {S r g : Nat → Int} {c : Int} (hf : FS w H L S r g c) : mS w 124 = (1, 5, 0) := hf.cr.s5
theorem FS.x126 {w : jmW} {H : Nat → Nat → Int} {L : Int} {S r g : Nat → Int} {c : Int} (hf : FS w H L S r g c) : mS w 126 = (1, 5, 0) := hf.g2.1
theorem FS.x130 {w : jmW} {H : Nat → Nat → Int} {L : Int} {S r g : Nat → Int} {c : Int} (hf : FS w H L S r g c) : mS w 130 = (1, 5, 0) := hf.g4.1
theorem FS.x128 {w : jmW} {H : Nat → Nat → Int} {L : Int} {S r g : Nat → Int} {c : Int} (hf : FS w H L S r g c) : mS w 128 = (1, 5, 0) := by
  obtain ⟨n, q, h⟩ := hf.g3
  exact h.1
theorem FS.x132 {w : jmW} {H : Nat → Nat → Int} {L : Int} {S r g : Nat → Int} {c : Int} (hf : FS w H L S r g c) : mS w 132 = (1, 5, 0) := by
  obtain ⟨n, q, h⟩ := hf.g5
  exact h.1
theorem FS.x134 {w : jmW} {H : Nat → Nat → Int} {L : Int} {S r g : Nat → Int} {c : Int} (hf : FS w H L S r g c) : mS w 134 = (1, 5, 0) := by
  obtain ⟨n, q, h⟩ := hf.g6
  exact h.1
theorem FS.x84 {w : jmW} {H : Nat → Nat → Int} {L : Int} {S r g : Nat → Int} {c : Int} (hf : FS w H L S r g c) : mS w 84 = (1, 1, 0) := hf.ch.s
theorem FS.x84r0 {w : jmW} {H : Nat → Nat → Int} {L : Int} {S r g : Nat → Int} {c : Int} (hf : FS w H L S r g c) : mR w 84 0 = some 85 := hf.ch.r0
theorem FS.x85 {w : jmW} {H : Nat → Nat → Int} {L : Int} {S r g : Nat → Int} {c : Int} (hf : FS w H L S r g c) : mS w 85 = (1, 5, 0) := hf.ch.t1
theorem FS.x84r1 {w : jmW} {H : Nat → Nat → Int} {L : Int} {S r g : Nat → Int} {c : Int} (hf : FS w H L S r g c) : mR w 84 1 = some 87 := hf.ch.r1
theorem FS.x87 {w : jmW} {H : Nat → Nat → Int} {L : Int} {S r g : Nat → Int} {c : Int} (hf : FS w H L S r g c) : mS w 87 = (1, 5, 0) := hf.ch.t3
theorem FS.x84r2 {w : jmW} {H : Nat → Nat → Int} {L : Int} {S r g : Nat → Int} {c : Int} (hf : FS w H L S r g c) : mR w 84 2 = some 89 := hf.ch.r2
theorem FS.x89 {w : jmW} {H : Nat → Nat → Int} {L : Int} {S r g : Nat → Int} {c : Int} (hf : FS w H L S r g c) : mS w 89 = (1, 5, 0) := hf.ch.t5
theorem FS.x84r3 {w : jmW} {H : Nat → Nat → Int} {L : Int} {S r g : Nat → Int} {c : Int} (hf : FS w H L S r g c) : mR w 84 3 = some 91 := hf.ch.r3
theorem FS.x91 {w : jmW} {H : Nat → Nat → Int} {L : Int} {S r g : Nat → Int} {c : Int} (hf : FS w H L S r g c) : mS w 91 = (1, 5, 0) := hf.ch.t7
theorem FS.x84r4 {w : jmW} {H : Nat → Nat → Int} {L : Int} {S r g : Nat → Int} {c : Int} (hf : FS w H L S r g c) : mR w 84 4 = some 93 := hf.ch.r4
theorem FS.x93 {w : jmW} {H : Nat → Nat → Int} {L : Int} {S r g : Nat → Int} {c : Int} (hf : FS w H L S r g c) : mS w 93 = (1, 5, 0) := hf.ch.t9
theorem FS.x84r5 {w : jmW} {H : Nat → Nat → Int} {L : Int} {S r g : Nat → Int} {c : Int} (hf : FS w H L S r g c) : mR w 84 5 = some 95 := hf.ch.r5
theorem FS.x95 {w : jmW} {H : Nat → Nat → Int} {L : Int} {S r g : Nat → Int} {c : Int} (hf : FS w H L S r g c) : mS w 95 = (1, 5, 0) := hf.ch.t11
theorem FS.x84r6 {w : jmW} {H : Nat → Nat → Int} {L : Int} {S r g : Nat → Int} {c : Int} (hf : FS w H L S r g c) : mR w 84 6 = some 97 := hf.ch.r6
theorem FS.x97 {w : jmW} {H : Nat → Nat → Int} {L : Int} {S r g : Nat → Int} {c : Int} (hf : FS w H L S r g c) : mS w 97 = (1, 5, 0) := hf.ch.t13
theorem FS.x84r7 {w : jmW} {H : Nat → Nat → Int} {L : Int} {S r g : Nat → Int} {c : Int} (hf : FS w H L S r g c) : mR w 84 7 = some 99 := hf.ch.r7
theorem FS.x99 {w : jmW} {H : Nat → Nat → Int} {L : Int} {S r g : Nat → Int} {c : Int} (hf : FS w H L S r g c) : mS w 99 = (1, 5, 0) := hf.ch.t15
theorem FS.x84f8 {w : jmW} {H : Nat → Nat → Int} {L : Int} {S r g : Nat → Int} {c : Int} (hf : FS w H L S r g c) : mI w 84 8 = H 0 0 := hf.ch.f8
theorem FS.x84f9 {w : jmW} {H : Nat → Nat → Int} {L : Int} {S r g : Nat → Int} {c : Int} (hf : FS w H L S r g c) : mI w 84 9 = H 0 1 := hf.ch.f9
theorem FS.x84f10 {w : jmW} {H : Nat → Nat → Int} {L : Int} {S r g : Nat → Int} {c : Int} (hf : FS w H L S r g c) : mI w 84 10 = H 0 15 := hf.ch.f10
theorem FS.x84f11 {w : jmW} {H : Nat → Nat → Int} {L : Int} {S r g : Nat → Int} {c : Int} (hf : FS w H L S r g c) : mI w 84 11 = H 0 16 := hf.ch.f11
theorem FS.x84f12 {w : jmW} {H : Nat → Nat → Int} {L : Int} {S r g : Nat → Int} {c : Int} (hf : FS w H L S r g c) : mI w 84 12 = H 0 10 := hf.ch.f12
theorem FS.x84f14 {w : jmW} {H : Nat → Nat → Int} {L : Int} {S r g : Nat → Int} {c : Int} (hf : FS w H L S r g c) : mI w 84 14 = H 0 12 := hf.ch.f14
theorem FS.x84f15 {w : jmW} {H : Nat → Nat → Int} {L : Int} {S r g : Nat → Int} {c : Int} (hf : FS w H L S r g c) : mI w 84 15 = H 0 7 := hf.ch.f15
theorem FS.x84f16 {w : jmW} {H : Nat → Nat → Int} {L : Int} {S r g : Nat → Int} {c : Int} (hf : FS w H L S r g c) : mI w 84 16 = H 0 13 := hf.ch.f16
theorem FS.x84f17 {w : jmW} {H : Nat → Nat → Int} {L : Int} {S r g : Nat → Int} {c : Int} (hf : FS w H L S r g c) : mI w 84 17 = H 0 14 := hf.ch.f17
/-- the Future's cells -/
def fP : Nat → Prop := fun b => 118 ≤ b ∧ b ≤ 135
section FUT
variable {w u : jmW} {H : Nat → Nat → Int} {L : Int} {S r g : Nat → Int} {c : Int} {B : Int}
theorem TU.fr {P : Nat → Prop} (h : TU w) (f : Fr P w u) (hP : ¬ P 1) : TU u := by
  unfold TU at h ⊢
  rw [f.q, f.Iq hP]
  exact h
theorem fs_n (hf : FS w H L S r g c) (h1 : 0 ≤ r 289) : rn 12 (0, [(0, jvr 122)], [], w) = some (some (.inl (r 289)), w) := cr_n hf.cr h1
theorem fs_l (hf : FS w H L S r g c) (h1 : 0 ≤ r 288) : rn 12 (0, [(0, jvr 120)], [], w) = some (some (.inl (r 288)), w) := cr_l hf.cr h1
theorem fs_get (hf : FS w H L S r g c) {i k : Int} (i1 : 0 ≤ i) (i2 : i < r 289) (k1 : 0 ≤ k) (k2 : k < 5) : rn 23 (0, [(0, jvr 122), (1, .inl i), (2, .inl k)], [], w) = some (some (.inl (r (204 + 16 * k + i).toNat)), w) := cr_get hf.cr i1 i2 k1 k2
theorem fs_way (hf : FS w H L S r g c) {k : Int} (k1 : 0 ≤ k) (k2 : k < r 288) : rn 23 (0, [(0, jvr 120), (1, .inl k), (2, .inl 0)], [], w) = some (some (.inl (r k.toNat)), w) := cr_way hf.cr k1 k2
theorem fs_cell (hf : FS w H L S r g c) (ra : RA H B r) (rb : RB r) {i : Int} (i1 : 0 ≤ i) (i2 : i < r 289) : rn 70 (0, [(0, jvr 119), (1, .inl i)], [], w) = some (some (.inl (gCell r i)), w) := r_cell hf.cr ra rb i1 i2
theorem fs_near (hf : FS w H L S r g c) {i k : Int} (i1 : 0 ≤ i) (i2 : i < H 1 0) (k1 : 0 ≤ k) (k2 : k < 4) : rn 23 (0, [(0, jvr 97), (1, .inl i), (2, .inl k)], [], w) = some (some (.inl (ci (gOpen H (gTo H i k)) (gTo H i k) (-1))), w) := by
  have e := sg_in hf.nr (l := i) (k := k) i1 (by omega) k1 (by omega)
  rw [e]
  unfold gNear
  rw [show ((i.toNat : Nat) : Int) = i by omega, show ((k.toNat : Nat) : Int) = k by omega]
theorem fs_home (hf : FS w H L S r g c) {i : Int} (i1 : 0 ≤ i) (i2 : i < H 1 0) : rn 23 (0, [(0, jvr 99), (1, .inl i), (2, .inl 0)], [], w) = some (some (.inl (if gDist H (fun _ => False) (H 0 12) i < 0 then -1 else gDist H (fun _ => False) (H 0 12) i)), w) := by
  have e := sg_in hf.hw (l := i) (k := 0) i1 (by omega) (by omega) (by omega)
  rw [e]
  unfold gHmw
  rw [show ((i.toNat : Nat) : Int) = i by omega]
/-- only cells of the Future have changed, and what they hold is known -/
theorem FS.mk (hf : FS w H L S r g c) {P : Nat → Prop} (f : Fr P w u) (hP : ∀ b, P b → 118 ≤ b ∧ b ≤ 135) (h0 : mR u 118 = mR w 118) {r2 g2 : Nat → Int} {c2 L2 : Int} {S2 : Nat → Int} (k1 : CR u 119 (H 0 3).toNat c2 r2) (k2 : Sg u 126 1 44 44 (fun i _ => g2 i)) (k3 : ∃ n q, Sg u 128 1 44 n q) (k4 : Sg u 130 1 12 L2.toNat (fun i _ => S2 i)) (k5 : ∃ n q, Sg u 132 1 48 n q) (k6 : ∃ n q, Sg u 134 1 4 n q) : FS u H L2 S2 r2 g2 c2 := by
  have n : ∀ b, b < 118 → ¬ P b := fun b hb z => by have := hP b z; omega
  have i1 := hf.ch.fr f (fun x h1 h2 => n x (by omega))
  have i2 := hf.nr.fr f (n _ (by omega)) (n _ (by omega))
  have i3 := hf.hw.fr f (n _ (by omega)) (n _ (by omega))
  have i4 := hf.tu.fr f (n 1 (by omega))
  refine ⟨by rw [f.q]; exact hf.s, by rw [h0]; exact hf.r0, by rw [h0]; exact hf.r1, by rw [h0]; exact hf.r2, by rw [h0]; exact hf.r3, by rw [h0]; exact hf.r4, by rw [h0]; exact hf.r5, by rw [h0]; exact hf.r6, k1, k2, k3, k4, k5, k6, i1, i2, i3, i4⟩
theorem exSg {P : Nat → Prop} {a c r : Nat} (h : ∃ n q, Sg w a c r n q) (f : Fr P w u) (h1 : ¬ P a) (h2 : ¬ P (a + 1)) : ∃ n q, Sg u a c r n q := by
  obtain ⟨n, q, s⟩ := h
  exact ⟨n, q, s.fr f h1 h2⟩
/-- only the Future's own numbers have changed -/
theorem FS.own (hf : FS w H L S r g c) (f : Fr (fun b => b = 118) w u) (h0 : mR u 118 = mR w 118) : FS u H L S r g c :=
  hf.mk f (fun b h => by omega) h0 (hf.cr.fr f (fun b h1 h2 z => by omega)) (hf.g2.fr f (by omega) (by omega)) (exSg hf.g3 f (by omega) (by omega)) (hf.g4.fr f (by omega) (by omega)) (exSg hf.g5 f (by omega) (by omega)) (exSg hf.g6 f (by omega) (by omega))
/-- only the row has changed -/
theorem FS.row (hf : FS w H L S r g c) (f : Fr (rP 119) w u) {r2 : Nat → Int} {c2 : Int} (k : CR u 119 (H 0 3).toNat c2 r2) : FS u H L S r2 g c2 := by
  have n : ∀ b, ¬ (119 ≤ b ∧ b ≤ 125) → ¬ rP 119 b := fun b hb z => by unfold rP at z; omega
  exact hf.mk f (fun b h => by unfold rP at h; omega) (f.Rq (n _ (by omega))) k (hf.g2.fr f (n _ (by omega)) (n _ (by omega))) (exSg hf.g3 f (n _ (by omega)) (n _ (by omega))) (hf.g4.fr f (n _ (by omega)) (n _ (by omega))) (exSg hf.g5 f (n _ (by omega)) (n _ (by omega))) (exSg hf.g6 f (n _ (by omega)) (n _ (by omega)))
theorem shut_loop {a s T n : Nat} {q : Nat → Nat → Int} (hk : HOK H) (ra : RA H B r) (rb : RB r) (rw0 : RW H r) (hd : a + 6 < s ∨ s + 1 < a) {cnt : Int} : ∀ (m : Nat) (i : Int) (w : jmW), 1 ≤ i → i + m = r 289 → CR w a T c r → Sg w s 1 48 (H 1 0).toNat (fun x _ => bi (∃ k : Int, 1 ≤ k ∧ k < i ∧ gCell r k = x)) → ∃ u, rn 87 (8, [(0, jvr a), (1, .inl cnt), (2, jvr s), (3, .inl i)], [], w) = some (none, u) ∧ Sg u s 1 48 (H 1 0).toNat (fun x _ => bi (gSO r x 0)) ∧ Fr (sP s) w u := by
  have h16 := ra.1
  have kc := hk.1.2.2.2.2.2
  intro m
  induction m with
  | zero =>
    intro i w i1 i2 h hs
    have e0 := cr_n h (by omega)
    refine ⟨w, ?_, hs.mk2 (fun x y hx hy => bi_c ⟨fun ⟨k, k1, k2, k3⟩ => ⟨k, by omega, by omega, by omega, k3⟩, fun ⟨k, k1, k2, k3, k4⟩ => ⟨k, by omega, by omega, k4⟩⟩), Fr.rf _ _⟩
    rw [p87_8]
    simp (disch := omega) only [p87_0, p87_1, p87_2, p87_3, p87_6, p87_7, p87_9, p87_10, p87_13, p87_16, p87_19, p87_20, p87_21, p87_22, p87_25, p87_26, p87_27, p87_30, p87_33, p87_36, jwd_c, jwd_0, Nat.reduceLeDiff, Nat.reduceEqDiff, Nat.reduceAdd, Nat.reduceSub, Nat.reduceMul, Int.reduceAdd, Int.reduceSub, Int.reduceMul, Int.reduceNeg, Int.reduceEq, Int.reduceLT, Int.reduceLE, jq_ldi_i, jq_ldl_l, jq_lda_a, jq_inc_i, jq_gs_t, jq_gsb_t, jq_gb_t, jq_gr_2, jq_gr_4, jq_gw_2, jq_s_t, jq_b_t, jg_c, jg_n, js_c, js_n, jrm_c, jrm_n, j2_i, j2_l, j2_a, jq_c_i, jq_c_l, jq_c_0, jq_c_n, jwd_le, jw_c0, mS_I, mS_R, mS_J, mN_I, mN_R, mN_J, mR_I, mI_R, mJ_I, mJ_R, mI_J, mR_J, ↓reduceIte, decide_true, or_true, true_or, and_self, false_or, or_false, reduceCtorEq, Bool.false_eq_true, and_false, false_and, eq_self, true_and, and_true, zero_ne, ↓br_lt_t, ↓br_lt_f, ↓br_eq_t, ↓br_eq_f, ↓br_lz_t, ↓br_lz_f, ↓br_ez_t, ↓br_ez_f, ↓br_gz_t, ↓br_gz_f, jw_id, jin_t, jix_t, CR.s0 h, CR.p h, CR.k h, CR.t h, CR.s1 h, CR.s3 h, CR.s5 h, e0]
  | succ m ih =>
    intro i w i1 i2 h hs
    have e0 := cr_n h (by omega)
    have e1 := r_cell h ra rb (i := i) (by omega) (by omega)
    have e2 := RC rb rw0 (i := i) (by omega) (by omega)
    obtain ⟨w1, e3, s3, f3⟩ := sg_put (v := 1) hs (l := gCell r i) (k := 0) e2.1 (by omega) (by omega) (by omega)
    have h1 := h.fr f3 (fun b b1 b2 z => by unfold sP at z; omega)
    obtain ⟨u, e4, s4, f4⟩ := ih (i + 1) w1 (by omega) (by omega) h1 (s3.mk2 (fun x y hx hy => by
      show (if x = (gCell r i).toNat ∧ y = (0 : Int).toNat then (1 : Int) else bi (∃ k : Int, 1 ≤ k ∧ k < i ∧ gCell r k = x)) = bi (∃ k : Int, 1 ≤ k ∧ k < i + 1 ∧ gCell r k = x)
      by_cases z : x = (gCell r i).toNat
      · rw [if_pos ⟨z, by show y = 0; omega⟩, bi_t ⟨i, by omega, by omega, by omega⟩]
      · rw [if_neg (fun y2 => z y2.1)]
        refine bi_c ⟨fun ⟨k, k1, k2, k3⟩ => ⟨k, k1, by omega, k3⟩, fun ⟨k, k1, k2, k3⟩ => ⟨k, k1, ?_, k3⟩⟩
        by_cases y2 : k = i
        · subst y2
          omega
        · omega))
    refine ⟨u, ?_, s4, f3.tr f4⟩
    rw [p87_8]
    have hsS := hs.1
    simp (disch := omega) only [p87_0, p87_1, p87_2, p87_3, p87_6, p87_7, p87_9, p87_10, p87_13, p87_16, p87_19, p87_20, p87_21, p87_22, p87_25, p87_26, p87_27, p87_30, p87_33, p87_36, jwd_c, jwd_0, Nat.reduceLeDiff, Nat.reduceEqDiff, Nat.reduceAdd, Nat.reduceSub, Nat.reduceMul, Int.reduceAdd, Int.reduceSub, Int.reduceMul, Int.reduceNeg, Int.reduceEq, Int.reduceLT, Int.reduceLE, jq_ldi_i, jq_ldl_l, jq_lda_a, jq_inc_i, jq_gs_t, jq_gsb_t, jq_gb_t, jq_gr_2, jq_gr_4, jq_gw_2, jq_s_t, jq_b_t, jg_c, jg_n, js_c, js_n, jrm_c, jrm_n, j2_i, j2_l, j2_a, jq_c_i, jq_c_l, jq_c_0, jq_c_n, jwd_le, jw_c0, mS_I, mS_R, mS_J, mN_I, mN_R, mN_J, mR_I, mI_R, mJ_I, mJ_R, mI_J, mR_J, ↓reduceIte, decide_true, or_true, true_or, and_self, false_or, or_false, reduceCtorEq, Bool.false_eq_true, and_false, false_and, eq_self, true_and, and_true, zero_ne, ↓br_lt_t, ↓br_lt_f, ↓br_eq_t, ↓br_eq_f, ↓br_lz_t, ↓br_lz_f, ↓br_ez_t, ↓br_ez_f, ↓br_gz_t, ↓br_gz_f, jw_id, jin_t, jix_t, CR.s0 h, CR.p h, CR.k h, CR.t h, CR.s1 h, CR.s3 h, CR.s5 h, e0, e1, hsS, e3, e4]
theorem r_shut {a s T n : Nat} {q : Nat → Nat → Int} (h : CR w a T c r) (hs : Sg w s 1 48 n q) (hk : HOK H) (ra : RA H B r) (rb : RB r) (rw0 : RW H r) (hd : a + 6 < s ∨ s + 1 < a) : ∃ u, rn 87 (0, [(0, jvr a), (1, .inl (H 1 0)), (2, jvr s)], [], w) = some (none, u) ∧ Sg u s 1 48 (H 1 0).toNat (fun x _ => bi (gSO r x 0)) ∧ Fr (sP s) w u := by
  have h16 := ra.1
  have kc := hk.1.2.2.2.2.2
  obtain ⟨w1, e1, s1, f1⟩ := sg_blank (v := 0) hs (m := H 1 0) (by omega) (by omega)
  have h1 := h.fr f1 (fun b b1 b2 z => by unfold sP at z; omega)
  obtain ⟨u, e2, s2, f2⟩ := shut_loop (n := n) (q := q) hk ra rb rw0 hd (cnt := H 1 0) (r 289 - 1).toNat 1 w1 (by omega) (by omega) h1 (s1.mk2 (fun x y hx hy => (bi_f (fun ⟨k, k1, k2, _⟩ => by omega)).symm))
  refine ⟨u, ?_, s2, f1.tr f2⟩
  have hsS := hs.1
  simp (disch := omega) only [p87_0, p87_1, p87_2, p87_3, p87_6, p87_7, p87_9, p87_10, p87_13, p87_16, p87_19, p87_20, p87_21, p87_22, p87_25, p87_26, p87_27, p87_30, p87_33, p87_36, jwd_c, jwd_0, Nat.reduceLeDiff, Nat.reduceEqDiff, Nat.reduceAdd, Nat.reduceSub, Nat.reduceMul, Int.reduceAdd, Int.reduceSub, Int.reduceMul, Int.reduceNeg, Int.reduceEq, Int.reduceLT, Int.reduceLE, jq_ldi_i, jq_ldl_l, jq_lda_a, jq_inc_i, jq_gs_t, jq_gsb_t, jq_gb_t, jq_gr_2, jq_gr_4, jq_gw_2, jq_s_t, jq_b_t, jg_c, jg_n, js_c, js_n, jrm_c, jrm_n, j2_i, j2_l, j2_a, jq_c_i, jq_c_l, jq_c_0, jq_c_n, jwd_le, jw_c0, mS_I, mS_R, mS_J, mN_I, mN_R, mN_J, mR_I, mI_R, mJ_I, mJ_R, mI_J, mR_J, ↓reduceIte, decide_true, or_true, true_or, and_self, false_or, or_false, reduceCtorEq, Bool.false_eq_true, and_false, false_and, eq_self, true_and, and_true, zero_ne, ↓br_lt_t, ↓br_lt_f, ↓br_eq_t, ↓br_eq_f, ↓br_lz_t, ↓br_lz_f, ↓br_ez_t, ↓br_ez_f, ↓br_gz_t, ↓br_gz_f, jw_id, jin_t, jix_t, CR.s0 h, CR.p h, CR.k h, CR.t h, CR.s1 h, CR.s3 h, CR.s5 h, hsS, e1, e2]
theorem r_draw {a T : Nat} (h : CR w a T c r) (ra : RA H B r) : ∃ u, rn 91 (0, [(0, jvr a)], [], w) = some (some (.inl (gDr r)), u) ∧ CR u a T c (up1 r 295 (gDr r)) ∧ Fr (fun b => b = a) w u := by
  have h16 := ra.1
  have r1 := ra.2.2.2.2.2.2.2.2.2.2.1
  have r2 := ra.2.2.2.2.2.2.2.2.2.2.2.1
  have f4 := h.2.2.2.2.2.2.2.2.1
  have e1 : (75 * r 295 + 74).tmod 65537 = gDr r := tmod_nn (by omega)
  refine ⟨setI w a 4 (gDr r), ?_, h.fld (by omega) (by omega) (by omega), Fr.I rfl⟩
  simp (disch := omega) only [p91_0, p91_1, p91_3, p91_4, p91_7, p91_8, p91_10, p91_11, p91_13, p91_14, p91_17, p91_18, p91_21, jwd_c, jwd_0, Nat.reduceLeDiff, Nat.reduceEqDiff, Nat.reduceAdd, Nat.reduceSub, Nat.reduceMul, Int.reduceAdd, Int.reduceSub, Int.reduceMul, Int.reduceNeg, Int.reduceEq, Int.reduceLT, Int.reduceLE, jq_ldi_i, jq_ldl_l, jq_lda_a, jq_inc_i, jq_gs_t, jq_gsb_t, jq_gb_t, jq_gr_2, jq_gr_4, jq_gw_2, jq_s_t, jq_b_t, jg_c, jg_n, js_c, js_n, jrm_c, jrm_n, j2_i, j2_l, j2_a, jq_c_i, jq_c_l, jq_c_0, jq_c_n, jwd_le, jw_c0, mS_I, mS_R, mS_J, mN_I, mN_R, mN_J, mR_I, mI_R, mJ_I, mJ_R, mI_J, mR_J, ↓reduceIte, decide_true, or_true, true_or, and_self, false_or, or_false, reduceCtorEq, Bool.false_eq_true, and_false, false_and, eq_self, true_and, and_true, zero_ne, ↓br_lt_t, ↓br_lt_f, ↓br_eq_t, ↓br_eq_f, ↓br_lz_t, ↓br_lz_f, ↓br_ez_t, ↓br_ez_f, ↓br_gz_t, ↓br_gz_f, jw_id, jin_t, jix_t, CR.s0 h, CR.p h, CR.k h, CR.t h, CR.s1 h, CR.s3 h, CR.s5 h, f4, e1, mI_s]
end FUT
