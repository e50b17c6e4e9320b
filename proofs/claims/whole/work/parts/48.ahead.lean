/-! The class: the front goes. -/
def gFx (q : Nat → Int) : Nat → Int := up1 q 220 (q 288 - 1)
section AHEAD
variable {w u : jmW} {H : Nat → Nat → Int} {L : Int} {S r g : Nat → Int} {c : Int} {B : Int}
theorem cell_o {q r : Nat → Int} (h1 : ∀ k : Nat, (k : Int) < r 288 → q k = r k) (h2 : ∀ k, 220 < k → k < 236 → q k = r k) (h16 : r 289 ≤ 16) (rb : RB r) {i : Int} (i1 : 1 ≤ i) (i2 : i < r 289) : gCell q i = gCell r i := by
  have b := (rb i (by omega) i2).2.1
  unfold gCell
  rw [h2 (220 + i).toNat (by omega) (by omega), h1 (0 + r (220 + i).toNat).toNat (by omega)]
theorem so0_c {q r : Nat → Int} (h1 : ∀ k : Nat, (k : Int) < r 288 → q k = r k) (h2 : ∀ k, 220 < k → k < 236 → q k = r k) (h4 : q 289 = r 289) (h16 : r 289 ≤ 16) (rb : RB r) {x : Int} : gSO q x 0 ↔ gSO r x 0 := by
  unfold gSO
  rw [h4]
  constructor
  · rintro ⟨i, i1, i2, i3, i4⟩
    rw [cell_o h1 h2 h16 rb (by omega) i2] at i4
    exact ⟨i, i1, i2, i3, i4⟩
  · rintro ⟨i, i1, i2, i3, i4⟩
    refine ⟨i, i1, i2, i3, ?_⟩
    rw [cell_o h1 h2 h16 rb (by omega) i2]
    exact i4
theorem clo_c {q r : Nat → Int} (h1 : ∀ k : Nat, (k : Int) < r 288 → q k = r k) (h2 : ∀ k, 220 < k → k < 236 → q k = r k) (h4 : q 289 = r 289) (h16 : r 289 ≤ 16) (rb : RB r) {x : Int} : gCloses q x ↔ gCloses r x := by
  unfold gCloses
  rw [h4]
  constructor
  · rintro ⟨i1, i2⟩
    rw [cell_o h1 h2 h16 rb (by omega) (by omega)] at i2
    exact ⟨i1, i2⟩
  · rintro ⟨i1, i2⟩
    refine ⟨i1, ?_⟩
    rw [cell_o h1 h2 h16 rb (by omega) (by omega)]
    exact i2
theorem here_220 {x : Int} (h : 1 ≤ r 288 ∧ r 288 ≤ 204) : gHere (up1 r 220 x) = gHere r := by
  unfold gHere
  rw [up1_n (b := 288) (by omega), up1_n (by omega)]
theorem cg_220 (ra : RA H B r) (rb : RB r) {x : Int} : gCG H (up1 r 220 x) = gCG H r := by
  have h16 := ra.1
  funext s
  unfold gCG
  rw [here_220 (by omega)]
  have e1 := so0_c (q := up1 r 220 x) (r := r) (x := gTo H (gHere r) s) (fun k hk => up1_n (by omega)) (fun k k1 k2 => up1_n (by omega)) (up1_n (by omega)) (by omega) rb
  have e2 := clo_c (q := up1 r 220 x) (r := r) (x := gTo H (gHere r) s) (fun k hk => up1_n (by omega)) (fun k k1 k2 => up1_n (by omega)) (up1_n (by omega)) (by omega) rb
  rw [propext e1, propext e2]
theorem lead_220 (ra : RA H B r) (rb : RB r) {x : Int} : gLead H L S (up1 r 220 x) = ((gLead H L S r).1, up1 (gLead H L S r).2 220 x) := by
  have h16 := ra.1
  unfold gLead gFirst gLot gHome gTold gHd gDr
  rw [cg_220 ra rb, here_220 (by omega), up1_n (b := 291) (by omega), up1_n (b := 292) (by omega), up1_n (b := 293) (by omega), up1_n (b := 295) (by omega)]
  split
  · rfl
  split
  · rfl
  split
  · rfl
  split
  · split
    · rfl
    · dsimp only
      rw [up1_cm (a := 220) (b := 295) (by omega)]
  split
  · rfl
  split
  · dsimp only
    rw [up1_cm (a := 220) (b := 293) (by omega)]
  · rfl
theorem put_220 {q : Nat → Int} (h16 : q 289 ≤ 16 ∧ 1 ≤ q 288 ∧ q 288 ≤ 203) (rb : RB q) {s x : Int} : gPut H (up1 q 220 x) s = up1 (gPut H q s) 220 x := by
  have e2 := clo_c (q := up1 q 220 x) (r := q) (x := gTo H (gHere q) s) (fun k hk => up1_n (by omega)) (fun k k1 k2 => up1_n (by omega)) (up1_n (by omega)) (by omega) rb
  unfold gPut gPut2
  rw [here_220 (by omega), propext e2]
  by_cases z : ¬ H 0 15 = 0 ∧ gCloses q (gTo H (gHere q) s)
  · rw [ci_t z, ci_t z, up1_n (a := 297) (b := 288) (by omega), up1_n (a := 297) (b := 288) (by omega), up1_n (a := 220) (b := 288) (by omega), up1_cm (a := 220) (b := 297) (by omega), up1_cm (a := 220) (by omega), up1_cm (a := 220) (b := 288) (by omega), up1_cm (a := 220) (b := 292) (by omega)]
  · rw [ci_f z, ci_f z, up1_n (a := 220) (b := 288) (by omega), up1_cm (a := 220) (by omega), up1_cm (a := 220) (b := 288) (by omega), up1_cm (a := 220) (b := 292) (by omega)]
theorem step_220 (l2 : L ≤ 12) (s1 : ∀ k, k < 12 → 0 ≤ S k ∧ S k ≤ 3) (ra : RA H B r) (rb : RB r) (rw0 : RW H r) (hl : r 288 ≤ 203) {x : Int} : gStep H L S (up1 r 220 x) = up1 (gStep H L S r) 220 x := by
  have h16 := ra.1
  obtain ⟨p1, p2, p3, p4, p5⟩ := lead_keeps (L := L) (S := S) l2 s1 ra rb rw0
  have p6 := (gLead_ok (H := H) (L := L) (S := S) l2 s1 ra).2.2 289 (by omega) (by omega)
  unfold gStep
  rw [lead_220 ra rb]
  dsimp only
  split
  · rfl
  · exact put_220 (by omega) p2
theorem go_220 (hk : HOK H) (l2 : L ≤ 12) (s1 : ∀ k, k < 12 → 0 ≤ S k ∧ S k ≤ 3) {x : Int} : ∀ (n : Nat) (r : Nat → Int), RA H B r → RB r → RW H r → r 288 + n ≤ 204 → gGo H L S n (up1 r 220 x) = up1 (gGo H L S n r) 220 x := by
  intro n
  induction n with
  | zero =>
    intro r ra rb rw0 hl
    rfl
  | succ n ih =>
    intro r ra rb rw0 hl
    obtain ⟨p1, p2, p3, p4, p5⟩ := step_ok hk (L := L) (S := S) l2 s1 ra rb rw0 (by omega)
    have e : ∀ q, gGo H L S (n + 1) q = if q 297 = 0 then gGo H L S n (gStep H L S q) else q := fun _ => rfl
    rw [e, e, up1_n (b := 297) (by omega), step_220 l2 s1 ra rb rw0 (by omega)]
    split
    · exact ih _ p1 p2 p3 (by omega)
    · rfl
theorem go_stop : ∀ (n : Nat) (r : Nat → Int), r 297 ≠ 0 → gGo H L S n r = r := by
  intro n r h
  cases n with
  | zero => rfl
  | succ n => exact if_neg h
theorem fx_ok (ra : RA H B r) (rb : RB r) (rw0 : RW H r) : RA H B (gFx r) ∧ RB (gFx r) ∧ RW H (gFx r) ∧ gFx r 220 = gFx r 288 - 1 := by
  have h16 := ra.1
  have e : ∀ k, k ≠ 220 → gFx r k = r k := fun k hk => up1_n hk
  refine ⟨RA_c (fun k hk => e k (by omega)) ra, fun i i1 i2 => ?_, RW_c (fun k hk => e k (by omega)) (e _ (by omega)) ra rw0, ?_⟩
  · rw [e _ (by omega)] at i2
    have b := rb i i1 i2
    rw [e (204 + i).toNat (by omega), e 290 (by omega), e 288 (by omega), e (236 + i).toNat (by omega), e (252 + i).toNat (by omega), e (268 + i).toNat (by omega)]
    by_cases z : i = 0
    · subst z
      rw [show gFx r (220 + (0 : Int)).toNat = r 288 - 1 from up1_s _ _ _]
      omega
    · rw [e (220 + i).toNat (by omega)]
      exact b
  · rw [e 288 (by omega)]
    exact up1_s _ _ _
theorem fx_id (h : r 220 = r 288 - 1) : gFx r = r := up1_id h
theorem fx_put2 {q : Nat → Int} {d s : Int} (h : 0 ≤ q 288 ∧ q 288 ≤ 203) : up1 (up1 (up1 (up1 q (q 288).toNat d) 288 (q 288 + 1)) 220 (q 288)) 292 s = gFx (gPut2 q d s) := by
  unfold gFx gPut2
  rw [up1_n (a := 292) (b := 288) (by omega), up1_s, up1_cm (a := 220) (b := 292) (by omega), Int.zero_add, show q 288 + 1 - 1 = q 288 by omega]
theorem FS.ring (hf : FS w H L S r g c) (h16 : r 289 ≤ 16 ∧ r 288 ≤ 204) {q : Nat → Int} (hq : ∀ k, k ≠ 297 → q k = r k) : FS w H L S q g c := hf.row (Fr.rf _ _) (hf.cr.rel hq (by omega) (by omega))
theorem put2_297 {q : Nat → Int} {d s : Int} (h : 0 ≤ q 288 ∧ q 288 ≤ 203) : gPut2 (up1 q 297 1) d s = up1 (gPut2 q d s) 297 1 := by
  unfold gPut2
  rw [up1_n (a := 297) (b := 288) (by omega), up1_cm (a := 297) (by omega), up1_cm (a := 297) (b := 288) (by omega), up1_cm (a := 297) (b := 292) (by omega)]
theorem fx_297 {q : Nat → Int} : gFx (up1 q 297 1) = up1 (gFx q) 297 1 := by
  unfold gFx
  rw [up1_n (a := 297) (b := 288) (by omega), up1_cm (a := 297) (b := 220) (by omega)]
theorem fx_up {q : Nat → Int} {x : Int} : gFx (up1 q 220 x) = gFx q := by
  unfold gFx
  rw [up1_up1, up1_n (by omega)]
theorem step_keep (hk : HOK H) (l2 : L ≤ 12) (s1 : ∀ k, k < 12 → 0 ≤ S k ∧ S k ≤ 3) (ra : RA H B r) (rb : RB r) (rw0 : RW H r) (hl : r 288 ≤ 203) (h97 : r 297 = 0) : ∀ k : Nat, 204 ≤ k → k ≠ 288 → k ≠ 292 → k ≠ 293 → k ≠ 295 → k ≠ 297 → gStep H L S r k = r k := by
  have e := go_keep (L := L) (S := S) 1 r B hk l2 s1 ra rb rw0 (by omega)
  rwa [show gGo H L S 1 r = gStep H L S r from if_pos h97] at e
end AHEAD
