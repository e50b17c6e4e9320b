/-! The law's loop. -/
theorem and63_bd (x : Int) : 0 ≤ ji_and x 63 ∧ ji_and x 63 ≤ 63 := by
  rw [show ji_and x 63 = ((Int32.ofInt x).toBitVec &&& 63#32).toInt from rfl]
  have h2 : ∀ y : BitVec 32, 0 ≤ (y &&& 63#32).toInt ∧ (y &&& 63#32).toInt ≤ 63 := by
    intro y
    have h1 : (y &&& 63#32).toNat ≤ 63 := by
      rw [BitVec.toNat_and]
      exact Nat.and_le_right
    have h3 : (y &&& 63#32).toInt = (y &&& 63#32).toNat := BitVec.toInt_eq_toNat_of_lt (by omega)
    rw [h3]
    omega
  exact h2 _
section LOOP
variable {w u v : jmW} {L i cnt h : Nat} {xs T : Nat → Int} {ft pl tr B Bt x y : Int} {H : Nat → Nat → Int} {s : gSt} {P : jmF → Prop}
abbrev lvs (z : Int) (tl : jmL) : jmL := (0, jvr 0) :: (1, jvr 64) :: (2, jvr 238) :: (3, jvr 252) :: (4, .inl z) :: tl
/-- what the loop asks of its goal -/
def lpA (P : jmF → Prop) : Prop := (∀ f, jto P f → P f) ∧ (∀ (z : Int) (tl : jmL) (w : jmW), P (25, lvs z tl, [.inl z], w) → P (23, lvs z tl, [], w)) ∧ (∀ (w : jmW) (lv : jmL) (x y : Int), mS w 64 = (1, 7, 0) → mS w 252 = (2, 2, 1) → rn 171 (0, [(0, jvr 64), (1, .inl x)], [], w) = some (some (.inl y), w) → P (1507, lv, [.inl 0], setJ w 252 0 (jw y)) → P (1504, lv, [jvr 252, .inl x, jvr 64], w)) ∧ (∀ (w : jmW) (lv : jmL) (x : Int), mS w 64 = (1, 7, 0) → (∀ P2 : jmF → Prop, (∀ lv, P2 (70, lv, [], w)) → kto P2 (0, [(0, jvr 64), (1, .inl x)], [], w)) → P (1507, lv, [.inl 1], newC w (7, 0, 0) 6) → P (1504, lv, [jvr 252, .inl x, jvr 64], w)) ∧ (∀ (lv : jmL) (w : jmW), mN w ≤ 9500 → mK w ≤ 150000 → P (1597, lv, [.inl 1], w))
theorem lpA.aC (A : lpA P) : ∀ f, jto P f → P f := A.1
theorem lpA.aH (A : lpA P) : ∀ (z : Int) (tl : jmL) (w : jmW), P (25, lvs z tl, [.inl z], w) → P (23, lvs z tl, [], w) := A.2.1
theorem lpA.aR (A : lpA P) : ∀ (w : jmW) (lv : jmL) (x y : Int), mS w 64 = (1, 7, 0) → mS w 252 = (2, 2, 1) → rn 171 (0, [(0, jvr 64), (1, .inl x)], [], w) = some (some (.inl y), w) → P (1507, lv, [.inl 0], setJ w 252 0 (jw y)) → P (1504, lv, [jvr 252, .inl x, jvr 64], w) := A.2.2.1
theorem lpA.aT (A : lpA P) : ∀ (w : jmW) (lv : jmL) (x : Int), mS w 64 = (1, 7, 0) → (∀ P2 : jmF → Prop, (∀ lv, P2 (70, lv, [], w)) → kto P2 (0, [(0, jvr 64), (1, .inl x)], [], w)) → P (1507, lv, [.inl 1], newC w (7, 0, 0) 6) → P (1504, lv, [jvr 252, .inl x, jvr 64], w) := A.2.2.2.1
theorem lpA.aE (A : lpA P) : ∀ (lv : jmL) (w : jmW), mN w ≤ 9500 → mK w ≤ 150000 → P (1597, lv, [.inl 1], w) := A.2.2.2.2
theorem mX.w252 {Q : Nat → Prop} (hB : LB L i xs w) (hm : MO w) (l : LH1 w B Bt h H s) (x : Gw Q w u) (hQ : ∀ b, Q b → b = 252) : mX u h H s := by
  obtain ⟨y1, y2, y3, y4, y5, y6⟩ := hB
  obtain ⟨z1, z2, z3, z4, z5, z6, z7⟩ := l
  have np : ∀ b, b ≠ 252 → ¬ Q b := fun b hb z => hb (hQ b z)
  have hge := z2.1.2.1.ge
  have m0 := hm.gw x (by omega) (np _ (by omega))
  have j := x.i (b := 238) (by omega) (np _ (by omega))
  have r := x.r (b := 238) (by omega) (np _ (by omega))
  by_cases q : h = 252
  · have y9 := z2.1.2.1.s
    rw [q, y3] at y9
    exact absurd (congrArg Prod.fst y9) (by decide)
  · exact z2.gw2 x z7 m0 (fun b hb => np b (by omega)) (by rw [r]) (by rw [j]) (by rw [j])
theorem gw_J {z : Int} : Gw (fun b => b = 252) w (setJ w 252 0 z) := ⟨Nat.le_refl _, fun b _ => ⟨rfl, fun hb => ⟨rfl, rfl, by
  show up2 (mJ w) 252 0 z b = mJ w b
  funext k
  exact if_neg (fun q => hb q.1)⟩⟩⟩
theorem mJ_Js {z : Int} : mJ (setJ w 252 0 z) 252 0 = z := by
  show up2 (mJ w) 252 0 z 252 0 = z
  exact if_pos ⟨rfl, rfl⟩
theorem c64_s (c : c64 w) : mS w 64 = (1, 7, 0) := c.s
/-- the call of led, in the class and in the model -/
theorem led_C (A : lpA P) (hL : LI L i xs w) (hL2 : L ≤ 3072) (hi : i < 512) (hx : XB xs) (h6 : 6 * i + 6 ≤ L) {tl : jmL} (ht : tk 5 tl) (ih : ∀ v t, LI L (i + 1) xs v → tk 5 t → P (23, lvs (6 * (i : Int) + 6) t, [], v)) : P (1504, lvs (6 * (i : Int)) tl, [jvr 252, .inl (xs (6 * (i : Int) + 1).toNat), jvr 64], w) := by
  have s64 := hL.s7
  have s238 := hL.s9
  have x1 := (hx (6 * (i : Int) + 1).toNat).1
  have x2 := (hx (6 * (i : Int) + 1).toNat).2
  generalize hxx : xs (6 * (i : Int) + 1).toNat = X at *
  have hL0 := hL
  obtain ⟨hB, cnt, T, ft, pl, tr, hc, hm, htr, l⟩ := hL
  obtain ⟨y1, y2, y3, y4, y5, y6⟩ := id hB
  have ret : ∀ b : Int, rn 171 (0, [(0, jvr 64), (1, .inl X)], [], w) = some (some (.inl b), w) → rn 309 (0, [(0, jvr 238), (1, .inl X)], [], setJ w 252 0 (jw b)) = some (some (.inl b), setI (setJ w 252 0 (jw b)) 238 0 0) → P (1504, lvs (6 * (i : Int)) tl, [jvr 252, .inl X, jvr 64], w) := by
    intro b ec em
    refine A.aR w _ X b s64 y3 ec (A.aC _ ?_)
    have hv : LI L (i + 1) xs (setI (setJ w 252 0 (jw b)) 238 0 0) := (hL0.gw gw_J (fun b hb => hb) (by show mN w ≤ mN w + 1; omega) (by show mK w ≤ mK w + 20; omega)).z0
    exact lw_led2 (xs := xs) (w := setJ w 252 0 (jw b)) (u := setI (setJ w 252 0 (jw b)) 238 0 0) (b := b) y1 y2 y3 hL2 h6 s238 (by rw [hxx]; exact em) rfl (mI_s _ _ _ _) (Or.inl ⟨rfl, mJ_Js⟩) ht (fun t ht => ih _ t hv ht)
  have thr : (∀ P2 : jmF → Prop, (∀ lv, P2 (70, lv, [], w)) → kto P2 (0, [(0, jvr 64), (1, .inl X)], [], w)) → rn 309 (0, [(0, jvr 238), (1, .inl X)], [], newC w (7, 0, 0) 6) = some (some (.inl 0), setI (setI (newC w (7, 0, 0) 6) 238 0 0) 238 0 1) → P (1504, lvs (6 * (i : Int)) tl, [jvr 252, .inl X, jvr 64], w) := by
    intro ek em
    refine A.aT w _ X s64 ek (A.aC _ ?_)
    have g : Gw (fun b => b = 252) w (newC w (7, 0, 0) 6) := Gw.C
    have hv : LI L (i + 1) xs (setI (setI (newC w (7, 0, 0) 6) 238 0 0) 238 0 1) := (hL0.gw g (fun b hb => hb) (by show mN w + 1 ≤ mN w + 1; omega) (by show mK w + 6 ≤ mK w + 20; omega)).z0.z0
    exact lw_led2 (xs := xs) (w := newC w (7, 0, 0) 6) (u := setI (setI (newC w (7, 0, 0) 6) 238 0 0) 238 0 1) (b := 0) (by rw [g.s (by omega)]; exact y1) (by rw [g.i (by omega) (by omega)]; exact y2) (by rw [g.s (by omega)]; exact y3) hL2 h6 (by rw [g.s (by omega)]; exact s238) (by rw [hxx]; exact em) rfl (mI_s _ _ _ _) (Or.inr rfl) ht (fun t ht => ih _ t hv ht)
  rcases l with l0 | ⟨h, H, s, l1⟩
  · refine thr (fun P2 h2 => led_n l0.2.1 x1 x2 h2) ?_
    have g : Gw (fun b => b = 252) w (newC w (7, 0, 0) 6) := Gw.C
    exact o_led (hm.1.gw g (by omega) (by omega)) (by rw [g.r (by omega) (by omega)]; exact l0.2.2)
  · have l1' := l1
    obtain ⟨z1, z2, z3, z4, z5, z6, z7⟩ := l1'
    have ec := c_led z1.1 z3 z6.1.1 (i := X) x1 x2
    cases hg : gLe H s.1 X (s.1 289).toNat 0 0 with
    | some b =>
      rw [hg] at ec
      refine ret b ec ?_
      have em := d_led (mX.w252 hB hm.1 l1 (gw_J (z := jw b)) (fun b hb => hb)) z3 z6.1.1 (i := X) x1 x2
      rw [hg] at em
      exact em
    | none =>
      refine thr (fun P2 h2 => led_k z1.1 z3 z6.1.1 x1 x2 h2 hg) ?_
      have em := d_led (mX.w252 hB hm.1 l1 (u := newC w (7, 0, 0) 6) (Gw.C (P := fun b => b = 252)) (fun b hb => hb)) z3 z6.1.1 (i := X) x1 x2
      rw [hg] at em
      exact em
theorem lp_step (A : lpA P) (hL : LI L i xs w) (hL2 : L ≤ 3072) (hx : XB xs) {tl : jmL} (ht : tk 5 tl) (i9 : i ≤ 512) (ih : 6 * i + 6 ≤ L → ∀ v t, LI L (i + 1) xs v → tk 5 t → P (23, lvs (6 * (i : Int) + 6) t, [], v)) : P (23, lvs (6 * (i : Int)) tl, [], w) := by
  refine A.aH _ _ _ (A.aC _ ?_)
  have hj : jrm tl 4 = tl := tk_jrm _ _ _ ht (by omega)
  have hBB := hL.1
  by_cases h6 : 6 * i + 6 ≤ L
  · have hi : i < 512 := by omega
    have ih := ih h6
    rw [lw_head hBB hL2 h6]
    have nb := and63_bd (xs (6 * (i : Int)).toNat)
    generalize ji_and (xs (6 * (i : Int)).toNat) 63 = n at *
    have hP : ∀ v, LI L (i + 1) xs v → P (23, lvs (6 * (i : Int) + 6) tl, [], v) := fun v hv => ih v tl hv ht
    by_cases h51 : n ≤ 50
    · obtain ⟨k, rfl⟩ : ∃ k : Nat, n = (k : Int) := ⟨n.toNat, by omega⟩
      have hk : k < 51 := by omega
      clear nb h51
      match k, hk with
      | 0, _ => exact lwc_0 hL hL2 hi hx h6 hj hP
      | 1, _ => exact lwc_1 hL hL2 hi hx h6 hj hP
      | 2, _ => exact lwc_2 hL hL2 hi hx h6 hj hP
      | 3, _ => exact lwc_3 hL hL2 hi hx h6 hj hP
      | 4, _ => exact lwc_4 hL hL2 hi hx h6 hj hP
      | 5, _ => exact lwc_5 hL hL2 hi hx h6 hj hP
      | 6, _ => exact lwc_6 hL hL2 hi hx h6 hj hP
      | 7, _ => exact lwc_7 hL hL2 hi hx h6 hj hP
      | 8, _ => exact lwc_8 hL hL2 hi hx h6 hj hP
      | 9, _ => exact lwc_9 hL hL2 hi hx h6 hj hP
      | 10, _ => exact lwc_10 hL hL2 hi hx h6 hj hP
      | 11, _ => exact lwc_11 hL hL2 hi hx h6 hj hP
      | 12, _ => exact lwc_12 hL hL2 hi hx h6 hj hP
      | 13, _ => exact lwc_13 hL hL2 hi hx h6 hj hP
      | 14, _ => exact lwc_14 hL hL2 hi hx h6 hj hP
      | 15, _ => exact lwc_15 hL hL2 hi hx h6 hj hP
      | 16, _ => exact lwc_16 hL hL2 hi hx h6 hj hP
      | 17, _ => exact lwc_17 hL hL2 hi hx h6 hj hP
      | 18, _ => exact lwc_18 hL hL2 hi hx h6 hj hP
      | 19, _ => exact lwc_19 hL hL2 hi hx h6 hj hP
      | 20, _ => exact lwc_20 hL hL2 hi hx h6 hj hP
      | 21, _ => exact lwc_21 hL hL2 hi hx h6 hj hP
      | 22, _ => exact lwc_22 hL hL2 hi hx h6 hj hP
      | 23, _ => exact lwc_23 hL hL2 hi hx h6 hj hP
      | 24, _ => exact lwc_24 hL hL2 hi hx h6 hj hP
      | 25, _ => exact lwc_25 hL hL2 hi hx h6 hj hP
      | 26, _ => exact lwc_26 hL hL2 hi hx h6 hj hP
      | 27, _ => exact lwc_27 hL hL2 hi hx h6 hj hP
      | 28, _ => exact lwc_28 hL hL2 hi hx h6 hj hP
      | 29, _ => exact lwc_29 hL hL2 hi hx h6 hj hP
      | 30, _ => exact lwc_30 hL hL2 hi hx h6 hj hP
      | 31, _ => exact lwc_31 hL hL2 hi hx h6 hj hP
      | 32, _ => exact lwc_32 hL hL2 hi hx h6 hj hP
      | 33, _ => exact lwc_33 hL hL2 hi hx h6 hj hP
      | 34, _ => exact lwc_34 hL hL2 hi hx h6 hj hP
      | 35, _ => exact lwc_35 hL hL2 hi hx h6 hj hP
      | 36, _ => exact lwc_36 hL hL2 hi hx h6 hj hP
      | 37, _ => exact lwc_37 hL hL2 hi hx h6 hj hP
      | 38, _ => exact lwc_38 hL hL2 hi hx h6 hj hP
      | 39, _ => exact lwc_39 hL hL2 hi hx h6 hj hP
      | 40, _ => exact lwc_40 hL hL2 hi hx h6 hj hP
      | 41, _ => exact lwc_41 hL hL2 hi hx h6 hj hP
      | 42, _ => exact lwc_42 hL hL2 hi hx h6 hj hP
      | 43, _ => exact lwc_43 hL hL2 hi hx h6 hj hP
      | 44, _ => exact lwc_44 hL hL2 hi hx h6 hj hP
      | 45, _ => exact lwc_45 hL hL2 hi hx h6 hj hP
      | 46, _ => exact lwc_46 hL hL2 hi hx h6 hj hP
      | 47, _ => exact lwc_47 hL hL2 hi hx h6 hj hP
      | 48, _ => exact lw_led1 hL hL2 h6 (led_C A hL hL2 hi hx h6 ht ih)
      | 49, _ => exact lwc_49 hL hL2 hi hx h6 hj hP
      | 50, _ => exact lwc_50 hL hL2 hi hx h6 hj hP
      | k + 51, hk => exact absurd hk (by omega)
    · have hw : jw n = n := jw_id (by omega) (by omega)
      rw [z312_40_d P _ _ _ n (by rw [hw]; omega), lw_inc hj]
      exact jto_stop rfl (hP w hL.up)
  · rw [lw_exit hBB hL2 h6 i9]
    obtain ⟨y1, y2, y3, y4, y5, y6⟩ := hBB
    exact jto_stop rfl (A.aE _ _ (by omega) (by omega))
theorem lp_all (A : lpA P) (hL2 : L ≤ 3072) (hx : XB xs) : ∀ (m i : Nat) (w : jmW) (tl : jmL), i + m = 512 → LI L i xs w → tk 5 tl → P (23, lvs (6 * (i : Int)) tl, [], w) := by
  intro m
  induction m with
  | zero =>
    intro i w tl hi hL ht
    exact lp_step A hL hL2 hx ht (by omega) (fun h6 => absurd h6 (by omega))
  | succ m ih =>
    intro i w tl hi hL ht
    refine lp_step A hL hL2 hx ht (by omega) (fun h6 v t hv ht => ?_)
    have e : 6 * (i : Int) + 6 = 6 * ((i + 1 : Nat) : Int) := by omega
    rw [e]
    exact ih (i + 1) v t (by omega) hv ht
end LOOP
