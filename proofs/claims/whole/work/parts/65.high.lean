/-! What a beat leaves alone; what is torn is counted. -/
section HIGH
variable {H : Nat → Nat → Int} {r S q g : Nat → Int} {B : Int} {L : Int} {p al st : Int}
theorem au_hi : ∀ (n : Nat) (r : Nat → Int) (k : Nat), 298 ≤ k → gAu H n r k = r k := by
  intro n
  induction n with
  | zero =>
    intro r k hk
    rfl
  | succ n ih =>
    intro r k hk
    have e : gAu H (n + 1) r = gAu H n (if r (236 + ((n + 1 : Nat) : Int)).toNat = 1 ∧ H 17 (gCell r ((n + 1 : Nat) : Int)).toNat = 1 then gOut r ((n + 1 : Nat) : Int) else r) := rfl
    rw [e, ih _ k hk]
    split
    · exact gOut_hi (by omega) (by omega)
    · rfl
theorem jn_hi {t p sp : Int} {k : Nat} (t2 : t < 4) (p1 : 0 ≤ p) (p2 : p < 16) (hk : 298 ≤ k) : gJn H r t p sp k = r k := by
  unfold gJn
  rw [up1_n (by omega), up1_n (by omega), up1_n (by omega), up1_n (by omega), up1_n (by omega), up1_n (by omega), up1_n (by omega), up1_n (by omega)]
  exact gInsK_hi (by omega)
theorem ask_hi (hk : HOK H) (ra : RA H B r) {t : Int} (t1 : 0 ≤ t) (t2 : t < H 0 3) {k : Nat} (hk2 : 298 ≤ k) : (gAsk H r t).2 k = r k := by
  have k3 := hk.2.1
  have h16 := ra.1
  have ab := gAi_bd (H := H) (r := r) (t := t) (by omega)
  have eK : gAsk H r t = if r (284 + t).toNat = 0 ∨ ¬ r 289 < 16 then (0, r) else if gAi H r t = r 289 then (0, r) else if gDr r % 100 < H 23 t.toNat then (1, gJoin H (up1 r 295 (gDr r)) t (gAi H r t)) else (0, up1 r 295 (gDr r)) := rfl
  rw [eK]
  by_cases q1 : r (284 + t).toNat = 0 ∨ ¬ r 289 < 16
  · rw [if_pos q1]
  rw [if_neg q1]
  by_cases q2 : gAi H r t = r 289
  · rw [if_pos q2]
  rw [if_neg q2]
  by_cases q3 : gDr r % 100 < H 23 t.toNat
  · rw [if_pos q3]
    show gJoin H (up1 r 295 (gDr r)) t (gAi H r t) k = r k
    unfold gJoin
    rw [up1_n (b := 289) (by omega)]
    split
    · rw [jn_hi (by omega) (by omega) (by omega) hk2, up1_n (by omega)]
    · rw [jn_hi (by omega) (by omega) (by omega) hk2, up1_n (by omega)]
  · rw [if_neg q3]
    exact up1_n (by omega)
theorem aa_hi (hk : HOK H) : ∀ (n : Nat) (t j : Int) (r : Nat → Int), RA H B r → RB r → RW H r → RP r → 0 ≤ t → t + n = H 0 3 → ∀ k : Nat, 298 ≤ k → (gAA H n t (j, r)).2 k = r k := by
  intro n
  induction n with
  | zero =>
    intro t j r ra rb rw0 rp t1 t2 k hk2
    rfl
  | succ n ih =>
    intro t j r ra rb rw0 rp t1 t2 k hk2
    obtain ⟨x0, x1, x2, x3, x4, -, -⟩ := ask_ok hk ra rb rw0 rp t1 (t := t) (by omega)
    have e : gAA H (n + 1) t (j, r) = gAA H n (t + 1) (j + (gAsk H r t).1, (gAsk H r t).2) := rfl
    rw [e, ih _ _ _ x1 x2 x3 x4 (by omega) (by omega) k hk2, ask_hi hk ra t1 (by omega) hk2]
theorem fa_hi : ∀ (n : Nat) (i : Int) (r g : Nat → Int), RA H B r → RB r → RW H r → RP r → 1 ≤ i → i + n = r 289 → ∀ k : Nat, 128 ≤ k → (gFA n i (r, g)).2 k = g k := by
  intro n
  induction n with
  | zero =>
    intro i r g ra rb rw0 rp i1 i2 k hk
    rfl
  | succ n ih =>
    intro i r g ra rb rw0 rp i1 i2 k hk
    obtain ⟨ra1, rb1, rw1, rp1⟩ := fol_ok ra rb rw0 rp (i := i) (by omega) (by omega)
    have b := (rb i (by omega) (by omega)).1
    have h17 := ra.2.1
    have h16 := ra.1
    have e : gFA (n + 1) i (r, g) = gFA n (i + 1) (up1 r (220 + i).toNat (gFp r i), up1 g (r (204 + i).toNat).toNat (g (r (204 + i).toNat).toNat + (gFp r i - r (220 + i).toNat))) := rfl
    rw [e, ih _ _ _ ra1 rb1 rw1 rp1 (by omega) (by rw [up1_n (by omega)]; omega) k hk, up1_n (by omega)]
/-- what is left alone, and that a torn row is counted -/
theorem beat_hi (hk : HOK H) (l2 : L ≤ 12) (s1 : ∀ k, k < 12 → 0 ≤ S k ∧ S k ≤ 3) {x : gX} (al1 : 0 ≤ al) (al3 : al ≤ 3) (ri : RI H B x.1) : (∀ k, 298 ≤ k → (gBeat H L S al st x).1 k = x.1 k) ∧ (∀ k, 128 ≤ k → (gBeat H L S al st x).2.1 k = x.2.1 k) ∧ (((gBeat H L S al st x).2.2.2.2 = -1 ∧ (gBeat H L S al st x).2.2.1 = x.2.2.1) ∨ ((gBeat H L S al st x).2.2.2.2 ≠ -1 ∧ x.2.2.1 < (gBeat H L S al st x).2.2.1)) := by
  obtain ⟨r, g, o, j, tn⟩ := x
  obtain ⟨ra, rb, rw0, rp, r203⟩ := ri
  dsimp only at ra rb rw0 rp r203
  by_cases q1 : 0 < gOver r
  · rw [beat_over q1]
    exact ⟨fun _ _ => rfl, fun _ _ => rfl, Or.inl ⟨rfl, rfl⟩⟩
  · have h16 := ra.1
    have h17 := ra.2.1
    have r97 := ra.2.2.2.2.2.2.2.2.2.2.2.2.2.2.2.2
    obtain ⟨h97, hl⟩ := over_r r97 q1
    have eB : gBeat H L S al st (r, g, o, j, tn) = gB1 H o j (gB0 H L S (gSteps H r al st).toNat (up1 r 294 (r 294 + 1)) g) := if_neg q1
    have hdue : 0 ≤ gSteps H r al st ∧ gSteps H r al st ≤ 3 := by
      have m1 : 0 ≤ r 294 % H 0 5 := Int.emod_nonneg _ (by have := hk.2.1; omega)
      have m2 : r 294 % H 0 5 < H 0 5 := Int.emod_lt_of_pos _ (by have := hk.2.1; omega)
      have k7 := hk.2.2.2.2.2.2.1 (r 294 % H 0 5) m1 m2
      unfold gSteps
      split
      · split <;> omega
      · omega
    have ra2 : RA H (B + 1) (up1 r 294 (r 294 + 1)) := ra.up
    have eu : ∀ k, k ≠ 294 → up1 r 294 (r 294 + 1) k = r k := fun k hk => up1_n hk
    have rb2 : RB (up1 r 294 (r 294 + 1)) := RB_d (r := r) (fun k k1 k2 => eu k (by omega)) (eu _ (by omega)) (eu _ (by omega)) (eu _ (by omega)) (by omega) rb
    have rw2 : RW H (up1 r 294 (r 294 + 1)) := RW_c (fun k hk => eu k (by omega)) (eu _ (by omega)) ra rw0
    have rp2 : RP (up1 r 294 (r 294 + 1)) := RP_c (fun k k1 k2 => eu k (by omega)) (eu _ (by omega)) (eu _ (by omega)) (by omega) rp
    obtain ⟨y1, y2, y3, y4, y5, y6, y7⟩ := b0_ok hk l2 s1 ra2 rb2 rw2 rp2 (n := (gSteps H r al st).toNat) (by rw [eu _ (by omega)]; omega) g
    have gk := go_keep (L := L) (S := S) (gSteps H r al st).toNat _ (B + 1) hk l2 s1 ra2 rb2 rw2 (by rw [eu _ (by omega)]; omega)
    have b0 := (rb 0 (by omega) (by omega)).1
    rw [show (204 + (0 : Int)).toNat = 204 from rfl] at b0
    rw [eu 204 (by omega)] at y7
    have hi1 : ∀ k, 298 ≤ k → (gB0 H L S (gSteps H r al st).toNat (up1 r 294 (r 294 + 1)) g).1 k = r k := by
      intro k hk2
      unfold gB0
      dsimp only
      rw [up1_n (by omega), gk k (by omega) (by omega) (by omega) (by omega) (by omega) (by omega), eu k (by omega)]
    have hi2 : ∀ k, 128 ≤ k → (gB0 H L S (gSteps H r al st).toNat (up1 r 294 (r 294 + 1)) g).2 k = g k := by
      intro k hk2
      unfold gB0
      dsimp only
      rw [up1_n (by omega)]
    rw [eB]
    generalize gB0 H L S (gSteps H r al st).toNat (up1 r 294 (r 294 + 1)) g = x at *
    obtain ⟨r3, g3⟩ := x
    dsimp only at y1 y2 y3 y4 hi1 hi2
    by_cases q2 : r3 297 = 1
    · have eB1 : gB1 H o j (r3, g3) = (r3, g3, o, j, -1) := if_pos q2
      rw [eB1]
      exact ⟨hi1, hi2, Or.inl ⟨rfl, rfl⟩⟩
    · have eB1 : gB1 H o j (r3, g3) = gB5 H j (gFA (r3 289 - 1).toNat 1 (r3, g3)).2 (gB2 (gFA (r3 289 - 1).toNat 1 (r3, g3)).1 o) := if_neg q2
      rw [eB1]
      have h3 := y1.1
      obtain ⟨x1, x2, x3, x4, x5⟩ := fa_ok (r3 289 - 1).toNat 1 r3 g3 y1 y2 y3 y4 (by omega) (by omega)
      have x6 := fa_hi (r3 289 - 1).toNat 1 r3 g3 y1 y2 y3 y4 (by omega) (by omega)
      generalize gFA (r3 289 - 1).toNat 1 (r3, g3) = y at *
      obtain ⟨r4, g4⟩ := y
      dsimp only at x1 x2 x3 x4 x5 x6
      have r4h := x1.1
      have ti := te_in (r := r4) (by omega)
      have c5 : RA H (B + 1) (gB2 r4 o).1 ∧ RB (gB2 r4 o).1 ∧ RW H (gB2 r4 o).1 ∧ RP (gB2 r4 o).1 ∧ (∀ k, 298 ≤ k → (gB2 r4 o).1 k = r4 k) ∧ (((gB2 r4 o).2.2 = -1 ∧ (gB2 r4 o).2.1 = o) ∨ ((gB2 r4 o).2.2 ≠ -1 ∧ o < (gB2 r4 o).2.1)) := by
        unfold gB2
        by_cases z : gTi r4 < r4 289
        · rw [if_pos z]
          obtain ⟨c1, c2, c3, c4⟩ := cut_ok x1 x2 x3 x4 ti.1 ti.2
          have b := (x2 (gTi r4) (by omega) z).1
          exact ⟨c1, c2, c3, c4, fun k hk2 => up1_n (by omega), Or.inr ⟨by show r4 (204 + gTi r4).toNat ≠ -1; omega, by show o < o + (r4 289 - gTi r4); omega⟩⟩
        · rw [if_neg z]
          exact ⟨x1, x2, x3, x4, fun k hk2 => rfl, Or.inl ⟨rfl, rfl⟩⟩
      generalize gB2 r4 o = y at *
      obtain ⟨r5, o5, tn5⟩ := y
      dsimp only at c5
      obtain ⟨v1, v2, v3, v4, v5, v6⟩ := c5
      have r5h := v1.1
      obtain ⟨u1, u2, u3, u4⟩ := au_ok hk (r5 289 - 1).toNat r5 v1 v2 v3 v4 (by omega)
      refine ⟨fun k hk2 => ?_, fun k hk2 => ?_, v6⟩
      · show (gAA H (H 0 3).toNat 0 (j, gAu H (r5 289 - 1).toNat r5)).2 k = r k
        rw [aa_hi hk (H 0 3).toNat 0 j _ u1 u2 u3 u4 (by omega) (by have := hk.2.1; omega) k hk2, au_hi _ _ k hk2, v5 k hk2, x5 k (by omega), hi1 k hk2]
      · show g4 k = g k
        rw [x6 k hk2, hi2 k hk2]
theorem f1_hi (hk : HOK H) (l2 : L ≤ 12) (s1 : ∀ k, k < 12 → 0 ≤ S k ∧ S k ≤ 3) {z : gZ} (hz : ZB H B p z) : (∀ k, 298 ≤ k → (gF1 H L S p z).1.1 k = z.1.1 k) ∧ (∀ k, 128 ≤ k → (gF1 H L S p z).1.2.1 k = z.1.2.1 k) ∧ (0 ≤ z.1.2.2.1 → (z.2.2.2.1 < 0 ↔ z.1.2.2.1 = 0) → 0 ≤ (gF1 H L S p z).1.2.2.1 ∧ ((gF1 H L S p z).2.2.2.1 < 0 ↔ (gF1 H L S p z).1.2.2.1 = 0)) := by
  obtain ⟨ri, z2, z3, z4, z5⟩ := hz
  by_cases q1 : 0 < gOver z.1.1
  · rw [f1_over q1]
    exact ⟨fun _ _ => rfl, fun _ _ => rfl, fun h1 h2 => ⟨h1, h2⟩⟩
  · rw [f1_go q1 rfl rfl]
    have b := beat_hi (H := H) (L := L) (S := S) hk l2 s1 (al := if 0 ≤ p then p else 0) (st := if 0 < z.2.1 then 1 else 0) (x := z.1) (by split <;> omega) (by split <;> omega) ri
    generalize gBeat H L S (if 0 ≤ p then p else 0) (if 0 < z.2.1 then 1 else 0) z.1 = y at *
    obtain ⟨b1, b2, b3⟩ := b
    refine ⟨b1, b2, fun h1 h2 => ?_⟩
    dsimp only
    rcases b3 with ⟨b3, b4⟩ | ⟨b3, b4⟩
    · rw [if_neg (fun k => k.1 b3), b4]
      exact ⟨h1, h2⟩
    · by_cases q2 : z.2.2.2.1 < 0
      · rw [if_pos ⟨b3, q2⟩]
        omega
      · rw [if_neg (fun k => q2 k.2)]
        omega
theorem fr_hi (hk : HOK H) (l2 : L ≤ 12) (s1 : ∀ k, k < 12 → 0 ≤ S k ∧ S k ≤ 3) : ∀ (n : Nat) (z : gZ) (B : Int), ZB H B p z → (∀ k, 298 ≤ k → (gFr H L S p n z).1.1 k = z.1.1 k) ∧ (∀ k, 128 ≤ k → (gFr H L S p n z).1.2.1 k = z.1.2.1 k) ∧ (0 ≤ z.1.2.2.1 → (z.2.2.2.1 < 0 ↔ z.1.2.2.1 = 0) → 0 ≤ (gFr H L S p n z).1.2.2.1 ∧ ((gFr H L S p n z).2.2.2.1 < 0 ↔ (gFr H L S p n z).1.2.2.1 = 0)) := by
  intro n
  induction n with
  | zero =>
    intro z B hz
    exact ⟨fun _ _ => rfl, fun _ _ => rfl, fun h1 h2 => ⟨h1, h2⟩⟩
  | succ n ih =>
    intro z B hz
    obtain ⟨a1, a2, a3⟩ := f1_hi hk l2 s1 hz
    obtain ⟨b1, b2, b3⟩ := ih _ _ (f1_zb hk l2 s1 hz)
    refine ⟨fun k hk2 => (b1 k hk2).trans (a1 k hk2), fun k hk2 => (b2 k hk2).trans (a2 k hk2), fun h1 h2 => ?_⟩
    obtain ⟨c1, c2⟩ := a3 h1 h2
    exact b3 c1 c2
end HIGH
