/-! The class: what changes a Row. -/
def gJ8 (H : Nat → Nat → Int) (r : Nat → Int) (t p sp : Int) : Nat → Int := up1 (up1 (up1 (up1 (up1 (up1 (up1 (gInsK r p) (204 + p).toNat (r 290)) (220 + p).toNat sp) (236 + p).toNat (H 20 t.toNat)) (252 + p).toNat (H 21 t.toNat)) (268 + p).toNat (H 22 t.toNat)) 289 (r 289 + 1)) 290 (r 290 + 1)
def gJoin8 (H : Nat → Nat → Int) (r : Nat → Int) (t i : Int) : Nat → Int := if H 0 16 ≠ 0 ∧ i < r 289 - 1 then gJ8 H r t (i + 1) (r (220 + (i + 1)).toNat) else gJ8 H r t (r 289 - 1 + 1) (if 0 < r (220 + (r 289 - 1)).toNat then r (220 + (r 289 - 1)).toNat - 1 else 0)
def gI0 (r : Nat → Int) (L : Int) : Nat → Int := fun n => if n = 289 then r 289 + 1 else if 204 ≤ n ∧ n < 284 ∧ (((n - 204) % 16 : Nat) : Int) = L then 0 else gInsK r L n
def gTake (r q : Nat → Int) (i j : Int) : Nat → Int := up1 (up1 (up1 (up1 r (204 + i).toNat (q (204 + j).toNat)) (236 + i).toNat (q (236 + j).toNat)) (252 + i).toNat (q (252 + j).toNat)) (268 + i).toNat (q (268 + j).toNat)
theorem up1_cm {α : Type} {f : Nat → α} {a b : Nat} {x y : α} (h : a ≠ b) : up1 (up1 f a x) b y = up1 (up1 f b y) a x := by
  funext c
  unfold up1
  by_cases h1 : c = a
  · subst h1
    rw [if_neg h, if_pos rfl, if_pos rfl]
  · rw [if_neg h1, if_neg h1]
theorem gI0_J8 {H : Nat → Nat → Int} {r : Nat → Int} {t p sp : Int} (p1 : 0 ≤ p) (p2 : p < 16) : up1 (up1 (up1 (up1 (up1 (up1 (gI0 r p) (204 + p).toNat (r 290)) (220 + p).toNat sp) (236 + p).toNat (H 20 t.toNat)) (252 + p).toNat (H 21 t.toNat)) (268 + p).toNat (H 22 t.toNat)) 290 (r 290 + 1) = gJ8 H r t p sp := by
  obtain ⟨k, rfl⟩ := Int.eq_ofNat_of_zero_le p1
  have g1 : (204 + (k : Int)).toNat = 204 + k := by omega
  have g2 : (220 + (k : Int)).toNat = 220 + k := by omega
  have g3 : (236 + (k : Int)).toNat = 236 + k := by omega
  have g4 : (252 + (k : Int)).toNat = 252 + k := by omega
  have g5 : (268 + (k : Int)).toNat = 268 + k := by omega
  unfold gJ8
  rw [g1, g2, g3, g4, g5]
  funext n
  by_cases z0 : n = 290
  · subst z0
    rw [up1_s, up1_s]
  rw [up1_n z0, up1_n z0]
  by_cases z9 : n = 289
  · subst z9
    rw [up1_n (by omega), up1_n (by omega), up1_n (by omega), up1_n (by omega), up1_n (by omega), up1_s]
    unfold gI0
    exact if_pos rfl
  rw [up1_n (a := 289) z9]
  by_cases z5 : n = 268 + k
  · subst z5
    rw [up1_s, up1_s]
  rw [up1_n z5, up1_n z5]
  by_cases z4 : n = 252 + k
  · subst z4
    rw [up1_s, up1_s]
  rw [up1_n z4, up1_n z4]
  by_cases z3 : n = 236 + k
  · subst z3
    rw [up1_s, up1_s]
  rw [up1_n z3, up1_n z3]
  by_cases z2 : n = 220 + k
  · subst z2
    rw [up1_s, up1_s]
  rw [up1_n z2, up1_n z2]
  by_cases z1 : n = 204 + k
  · subst z1
    rw [up1_s, up1_s]
  rw [up1_n z1, up1_n z1]
  unfold gI0
  rw [if_neg z9, if_neg (by omega)]
section ROW2
variable {w u : jmW} {a T : Nat} {c : Int} {r q : Nat → Int} {H : Nat → Nat → Int} {B : Int}
theorem CR.rel (h : CR w a T c r) (hq : ∀ k, k ≠ 297 → q k = r k) (h8 : r 288 ≤ 204) (h9 : r 289 ≤ 16) : CR w a T c q := by
  obtain ⟨h1, h2, h3, h4, h5, h6, h7, h8'⟩ := h
  have hT : T ≤ 4 := h7.2.2.2.2.2.2.1
  unfold CR
  rw [hq 288 (by omega), hq 289 (by omega), hq 290 (by omega), hq 291 (by omega), hq 292 (by omega), hq 293 (by omega), hq 294 (by omega), hq 295 (by omega), hq 296 (by omega)]
  exact ⟨h1, h2, h3, h4, h5.mk2 (fun i j hi hj => (hq _ (by omega)).symm), h6.mk2 (fun i j hi hj => (hq _ (by omega)).symm), h7.mk2 (fun i j hi hj => (hq _ (by omega)).symm), h8'⟩
theorem CR.fld (h : CR w a T c r) (h8 : r 288 ≤ 204) (h9 : r 289 ≤ 16) {k m : Nat} {x : Int} (hkm : (k = 3 ∧ m = 294) ∨ (k = 4 ∧ m = 295) ∨ (k = 5 ∧ m = 291) ∨ (k = 6 ∧ m = 292) ∨ (k = 7 ∧ m = 293) ∨ (k = 8 ∧ m = 290) ∨ (k = 10 ∧ m = 296)) : CR (setI w a k x) a T c (up1 r m x) := by
  obtain ⟨h1, h2, h3, h4, h5, h6, h7, f3, f4, f5, f6, f7, f8, f9, f10⟩ := h
  have hT : T ≤ 4 := h7.2.2.2.2.2.2.1
  have fr : Fr (fun b => b = a) w (setI w a k x) := Fr.I rfl
  have hq : ∀ n, n ≠ m → up1 r m x n = r n := fun n hn => up1_n hn
  have e1 : mI (setI w a k x) a k = x := mI_s _ _ _ _
  have e2 : ∀ j, j ≠ k → mI (setI w a k x) a j = mI w a j := fun j hj => mI_nk hj
  have hm : up1 r m x m = x := up1_s _ _ _
  refine ⟨h1, h2, h3, h4, ?_, ?_, ?_, ?_⟩
  · rw [hq 288 (by omega)]
    exact (h5.fr fr (by omega) (by omega)).mk2 (fun i j hi hj => (hq _ (by omega)).symm)
  · rw [hq 289 (by omega)]
    exact (h6.fr fr (by omega) (by omega)).mk2 (fun i j hi hj => (hq _ (by omega)).symm)
  · exact (h7.fr fr (by omega) (by omega)).mk2 (fun i j hi hj => (hq _ (by omega)).symm)
  · rcases hkm with ⟨rfl, rfl⟩ | ⟨rfl, rfl⟩ | ⟨rfl, rfl⟩ | ⟨rfl, rfl⟩ | ⟨rfl, rfl⟩ | ⟨rfl, rfl⟩ | ⟨rfl, rfl⟩
    all_goals simp (disch := omega) only [e1, e2, hm, hq, and_self, true_and, and_true, eq_self, *]
theorem CR.cls (h : CR w a T c r) {x : Int} : CR (setI w a 9 x) a T x r := by
  obtain ⟨h1, h2, h3, h4, h5, h6, h7, f3, f4, f5, f6, f7, f8, f9, f10⟩ := h
  have fr : Fr (fun b => b = a) w (setI w a 9 x) := Fr.I rfl
  have e2 : ∀ j, j ≠ 9 → mI (setI w a 9 x) a j = mI w a j := fun j hj => mI_nk hj
  exact ⟨h1, h2, h3, h4, h5.fr fr (by omega) (by omega), h6.fr fr (by omega) (by omega), h7.fr fr (by omega) (by omega), by rw [e2 3 (by omega)]; exact f3, by rw [e2 4 (by omega)]; exact f4, by rw [e2 5 (by omega)]; exact f5, by rw [e2 6 (by omega)]; exact f6, by rw [e2 7 (by omega)]; exact f7, by rw [e2 8 (by omega)]; exact f8, mI_s _ _ _ _, by rw [e2 10 (by omega)]; exact f10⟩
/-- three Sheets changed, the Row's own numbers as they were -/
theorem CR.mk3 {P : Nat → Prop} (h : CR w a T c r) (f : Fr P w u) (p0 : ¬ P a) (hq : ∀ k, 290 ≤ k → q k = r k) (s1 : Sg u (a + 1) 1 208 (q 288).toNat (fun i _ => q i)) (s2 : Sg u (a + 3) 5 16 (q 289).toNat (fun i j => q (204 + 16 * j + i))) (s3 : Sg u (a + 5) 1 4 T (fun i _ => q (284 + i))) : CR u a T c q := by
  obtain ⟨h1, h2, h3, h4, h5, h6, h7, h8⟩ := h
  unfold CR
  rw [f.q, f.Rq p0, f.Iq p0, hq 290 (by omega), hq 291 (by omega), hq 292 (by omega), hq 293 (by omega), hq 294 (by omega), hq 295 (by omega), hq 296 (by omega)]
  exact ⟨h1, h2, h3, h4, s1, s2, s3, h8⟩
theorem CR.pushw (h : CR w a T c r) (h9 : r 289 ≤ 16) (l1 : 0 ≤ r 288) (l2 : r 288 < 204) {v : Int} : ∃ u, rn 14 (0, [(0, jvr (a + 1)), (1, .inl v)], [], w) = some (none, u) ∧ CR u a T c (up1 (up1 r (r 288).toNat v) 288 (r 288 + 1)) ∧ Fr (sP (a + 1)) w u := by
  obtain ⟨u, e, s, f⟩ := sg_push (v := v) h.2.2.2.2.1 (by omega)
  have h7 := h.2.2.2.2.2.2.1
  have hT : T ≤ 4 := h7.2.2.2.2.2.2.1
  have hq : ∀ n, n ≠ 288 → n ≠ (r 288).toNat → up1 (up1 r (r 288).toNat v) 288 (r 288 + 1) n = r n := fun n h1 h2 => by rw [up1_n h1, up1_n h2]
  refine ⟨u, e, h.mk3 f (fun z => by unfold sP at z; omega) (fun k hk => hq k (by omega) (by omega)) ?_ ?_ ?_, f⟩
  · rw [up1_s, show (r 288 + 1).toNat = (r 288).toNat + 1 by omega]
    refine s.mk2 (fun i j hi hj => ?_)
    show (if i < (r 288).toNat then r i else if j = 0 then v else 0) = _
    by_cases z : i < (r 288).toNat
    · rw [if_pos z, hq i (by omega) (by omega)]
    · rw [if_neg z, if_pos (by omega), show i = (r 288).toNat by omega, up1_n (by omega), up1_s]
  · rw [hq 289 (by omega) (by omega)]
    exact (h.2.2.2.2.2.1.fr f (fun z => by unfold sP at z; omega) (fun z => by unfold sP at z; omega)).mk2 (fun i j hi hj => (hq _ (by omega) (by omega)).symm)
  · exact (h7.fr f (fun z => by unfold sP at z; omega) (fun z => by unfold sP at z; omega)).mk2 (fun i j hi hj => (hq _ (by omega) (by omega)).symm)
theorem CR.puts (h : CR w a T c r) (h8 : r 288 ≤ 204) (h9 : r 289 ≤ 16) {t v : Int} (t1 : 0 ≤ t) (t2 : t < T) : ∃ u, rn 17 (0, [(0, jvr (a + 5)), (1, .inl t), (2, .inl 0), (3, .inl v)], [], w) = some (none, u) ∧ CR u a T c (up1 r (284 + t).toNat v) ∧ Fr (sP (a + 5)) w u := by
  have h7 := h.2.2.2.2.2.2.1
  have hT : T ≤ 4 := h7.2.2.2.2.2.2.1
  obtain ⟨u, e, s, f⟩ := sg_put (v := v) h7 t1 t2 (k := 0) (by omega) (by omega)
  have hq : ∀ n, n ≠ (284 + t).toNat → up1 r (284 + t).toNat v n = r n := fun n h1 => up1_n h1
  refine ⟨u, e, h.mk3 f (fun z => by unfold sP at z; omega) (fun k hk => hq k (by omega)) ?_ ?_ ?_, f⟩
  · rw [hq 288 (by omega)]
    exact (h.2.2.2.2.1.fr f (fun z => by unfold sP at z; omega) (fun z => by unfold sP at z; omega)).mk2 (fun i j hi hj => (hq _ (by omega)).symm)
  · rw [hq 289 (by omega)]
    exact (h.2.2.2.2.2.1.fr f (fun z => by unfold sP at z; omega) (fun z => by unfold sP at z; omega)).mk2 (fun i j hi hj => (hq _ (by omega)).symm)
  · refine s.mk2 (fun i j hi hj => ?_)
    show (if i = t.toNat ∧ j = (0 : Int).toNat then v else r (284 + i)) = _
    by_cases z : i = t.toNat
    · rw [if_pos ⟨z, by show j = 0; omega⟩, z, show 284 + t.toNat = (284 + t).toNat by omega, up1_s]
    · rw [if_neg (fun y => z y.1), hq _ (by omega)]
theorem CR.cutc (h : CR w a T c r) (h8 : r 288 ≤ 204) (h9 : r 289 ≤ 16) {m : Int} (m1 : 0 ≤ m) (m2 : m ≤ r 289) : ∃ u, rn 4 (0, [(0, jvr (a + 3)), (1, .inl m)], [], w) = some (none, u) ∧ CR u a T c (up1 r 289 m) ∧ Fr (sP (a + 3)) w u := by
  have h7 := h.2.2.2.2.2.2.1
  have hT : T ≤ 4 := h7.2.2.2.2.2.2.1
  obtain ⟨u, e, s, f⟩ := sg_cut h.2.2.2.2.2.1 m1 (by omega)
  have hq : ∀ n, n ≠ 289 → up1 r 289 m n = r n := fun n h1 => up1_n h1
  refine ⟨u, e, h.mk3 f (fun z => by unfold sP at z; omega) (fun k hk => hq k (by omega)) ?_ ?_ ?_, f⟩
  · rw [hq 288 (by omega)]
    exact (h.2.2.2.2.1.fr f (fun z => by unfold sP at z; omega) (fun z => by unfold sP at z; omega)).mk2 (fun i j hi hj => (hq _ (by omega)).symm)
  · rw [up1_s]
    exact s.mk2 (fun i j hi hj => (hq _ (by omega)).symm)
  · exact (h7.fr f (fun z => by unfold sP at z; omega) (fun z => by unfold sP at z; omega)).mk2 (fun i j hi hj => (hq _ (by omega)).symm)
theorem CR.drop (h : CR w a T c r) (h8 : r 288 ≤ 204) (h9 : r 289 ≤ 16) {i : Int} (i1 : 0 ≤ i) (i2 : i < r 289) : ∃ u, rn 100 (0, [(0, jvr (a + 3)), (1, .inl i)], [], w) = some (none, u) ∧ CR u a T c (gOut r i) ∧ Fr (sP (a + 3)) w u := by
  have h7 := h.2.2.2.2.2.2.1
  have hT : T ≤ 4 := h7.2.2.2.2.2.2.1
  have h6 := h.2.2.2.2.2.1
  have en : (r 289).toNat = (r 289 - 1).toNat + 1 := by omega
  rw [en] at h6
  obtain ⟨u, e, s, f⟩ := sg_drop h6 i1 (by omega)
  have hq : ∀ n : Nat, (n < 204 ∨ 284 ≤ n) → n ≠ 289 → gOut r i n = r n := fun n => gOut_hi
  refine ⟨u, e, h.mk3 f (fun z => by unfold sP at z; omega) (fun k hk => hq k (by omega) (by omega)) ?_ ?_ ?_, f⟩
  · rw [hq 288 (by omega) (by omega)]
    exact (h.2.2.2.2.1.fr f (fun z => by unfold sP at z; omega) (fun z => by unfold sP at z; omega)).mk2 (fun i j hi hj => (hq _ (by omega) (by omega)).symm)
  · rw [gOut_289]
    refine s.mk2 (fun x y hx hy => ?_)
    show (if x < i.toNat then r (204 + 16 * y + x) else r (204 + 16 * y + (x + 1))) = gOut r i (204 + 16 * y + x)
    have e2 := gOut_rd (r := r) (i := i) (j := (x : Int)) (b := 204 + 16 * (y : Int)) (by omega) (by omega) (by omega) (by omega)
    rw [show (204 + 16 * (y : Int) + (x : Int)).toNat = 204 + 16 * y + x by omega, show (204 + 16 * (y : Int) + (x : Int) + 1).toNat = 204 + 16 * y + (x + 1) by omega] at e2
    rw [e2]
    by_cases z : x < i.toNat
    · rw [if_pos z, if_neg (by omega)]
    · rw [if_neg z, if_pos (by omega)]
  · exact (h7.fr f (fun z => by unfold sP at z; omega) (fun z => by unfold sP at z; omega)).mk2 (fun i j hi hj => (hq _ (by omega) (by omega)).symm)
theorem CR.ins (h : CR w a T c r) (h8 : r 288 ≤ 204) (h0 : 0 ≤ r 289) (h9 : r 289 ≤ 15) {i : Int} (i1 : 0 ≤ i) (i2 : i ≤ r 289) : ∃ u, rn 15 (0, [(0, jvr (a + 3)), (1, .inl i)], [], w) = some (none, u) ∧ CR u a T c (gI0 r i) ∧ Fr (sP (a + 3)) w u := by
  have h7 := h.2.2.2.2.2.2.1
  have hT : T ≤ 4 := h7.2.2.2.2.2.2.1
  obtain ⟨u, e, s, f⟩ := sg_insert h.2.2.2.2.2.1 (by omega) i1 (by omega)
  have hq : ∀ n : Nat, (n < 204 ∨ 284 ≤ n) → n ≠ 289 → gI0 r i n = r n := by
    intro n n1 n2
    unfold gI0
    rw [if_neg n2, if_neg (by omega), gInsK_hi n1]
  have h9' : gI0 r i 289 = r 289 + 1 := if_pos rfl
  refine ⟨u, e, h.mk3 f (fun z => by unfold sP at z; omega) (fun k hk => hq k (by omega) (by omega)) ?_ ?_ ?_, f⟩
  · rw [hq 288 (by omega) (by omega)]
    exact (h.2.2.2.2.1.fr f (fun z => by unfold sP at z; omega) (fun z => by unfold sP at z; omega)).mk2 (fun i j hi hj => (hq _ (by omega) (by omega)).symm)
  · rw [h9', show (r 289 + 1).toNat = (r 289).toNat + 1 by omega]
    refine s.mk2 (fun x y hx hy => ?_)
    show (if x < i.toNat then r (204 + 16 * y + x) else if x = i.toNat then 0 else r (204 + 16 * y + (x - 1))) = gI0 r i (204 + 16 * y + x)
    have e2 := gInsK_rd (r := r) (K := i) (j := (x : Int)) (b := 204 + 16 * (y : Int)) (by omega) (by omega) (by omega) (by omega) i1
    rw [show (204 + 16 * (y : Int) + (x : Int)).toNat = 204 + 16 * y + x by omega] at e2
    unfold gI0
    rw [if_neg (show ¬ 204 + 16 * y + x = 289 by omega), e2]
    by_cases z : x < i.toNat
    · rw [if_pos z, if_neg (by omega), if_neg (by omega)]
    · rw [if_neg z]
      by_cases y2 : x = i.toNat
      · rw [if_pos y2, if_pos (by omega)]
      · rw [if_neg y2, if_neg (by omega), if_pos (by omega), show (204 + 16 * (y : Int) + (x : Int) - 1).toNat = 204 + 16 * y + (x - 1) by omega]
  · exact (h7.fr f (fun z => by unfold sP at z; omega) (fun z => by unfold sP at z; omega)).mk2 (fun i j hi hj => (hq _ (by omega) (by omega)).symm)
end ROW2
