/-! What holds between the calls of the law. -/
def LIc (w : jmW) (cnt : Nat) (T : Nat → Int) (ft pl tr : Int) : Prop := RQ w T cnt ∧ mI w 64 12 = ft ∧ mI w 64 13 = pl ∧ mI w 64 14 = tr
def LIm (w : jmW) (cnt : Nat) (T : Nat → Int) (ft pl tr : Int) : Prop := MO w ∧ mI w 238 6 = cnt ∧ cnt ≤ 900 ∧ (∀ k, k < cnt → ji_and (mI w 239 k) 255 = T k) ∧ mI w 238 14 = ft ∧ mI w 238 1 = tr ∧ mI w 238 2 = (if tr = 4 then pl else -1)
/-- no HALL -/
def LH0 (w : jmW) (Bt : Int) : Prop := cB w Bt ∧ nH w ∧ mR w 238 3 = none
/-- a HALL -/
def LH1 (w : jmW) (B Bt : Int) (h : Nat) (H : Nat → Nat → Int) (s : gSt) : Prop := cX w H s Bt ∧ mX w h H s ∧ HOK H ∧ HS H ∧ B28 H ∧ GS H B s ∧ h + 17 ≤ 64 + mN w
def LB (L i : Nat) (xs : Nat → Int) (w : jmW) : Prop := mS w 0 = (4, 0, L) ∧ mI w 0 = xs ∧ mS w 252 = (2, 2, 1) ∧ 189 ≤ mN w ∧ mN w ≤ 189 + 18 * i ∧ mK w ≤ 40000 + 200 * i
def LI (L i : Nat) (xs : Nat → Int) (w : jmW) : Prop := LB L i xs w ∧ ∃ cnt T ft pl tr, LIc w cnt T ft pl tr ∧ LIm w cnt T ft pl tr ∧ (0 ≤ tr ∧ tr ≤ 6) ∧ (LH0 w i ∨ ∃ h H s, LH1 w (20 * (i : Int)) i h H s)
/-- a call of both, with one answer -/
def LR (L i : Nat) (xs : Nat → Int) (w : jmW) (c m : Nat) (as : jmL) : Prop := ∃ a u v, rn c (0, (0, jvr 64) :: as, [], w) = some (some (.inl a), u) ∧ rn m (0, (0, jvr 238) :: as, [], u) = some (some (.inl a), v) ∧ mS u = mS w ∧ mI u 0 = mI w 0 ∧ LI L (i + 1) xs v
section STATE
variable {w u v : jmW} {P : Nat → Prop} {L i cnt h : Nat} {xs T : Nat → Int} {ft pl tr B Bt Bt2 : Int} {H : Nat → Nat → Int} {s s2 : gSt}
theorem Gw.lo (x : Gw P w u) (n : 174 ≤ mN w) (hP : ∀ b, b < 238 → ¬ P b) : LO w u := fun b hb => ⟨x.s (by omega), x.i (by omega) (hP b hb), x.r (by omega) (hP b hb)⟩
theorem MO.gw (m : MO w) (x : Gw P w u) (n : 188 ≤ mN w) (hP : ¬ P 238) : MO u := m.cg (fun b b1 b2 => x.s (by omega)) (fun k _ => congrFun (x.r (by omega) hP) k)
theorem MH.gw (g : MH w h H) (x : Gw P w u) (hh : h + 16 ≤ 64 + mN w) (hP : ∀ b, h ≤ b → ¬ P b) : MH u h H := by
  have hge := g.ge
  unfold MH at g ⊢
  rw [x.s (b := h) (by omega), x.s (b := h + 1) (by omega), x.s (b := h + 2) (by omega), x.s (b := h + 3) (by omega), x.s (b := h + 4) (by omega), x.s (b := h + 5) (by omega), x.s (b := h + 6) (by omega), x.s (b := h + 7) (by omega), x.s (b := h + 8) (by omega), x.s (b := h + 9) (by omega), x.s (b := h + 10) (by omega), x.s (b := h + 11) (by omega), x.s (b := h + 12) (by omega), x.s (b := h + 13) (by omega), x.s (b := h + 14) (by omega), x.s (b := h + 15) (by omega), x.r (b := h) (by omega) (hP _ (by omega)), x.i (b := h) (by omega) (hP _ (by omega)), x.i (b := h + 1) (by omega) (hP _ (by omega)), x.i (b := h + 2) (by omega) (hP _ (by omega)), x.i (b := h + 3) (by omega) (hP _ (by omega)), x.i (b := h + 4) (by omega) (hP _ (by omega)), x.i (b := h + 5) (by omega) (hP _ (by omega)), x.i (b := h + 6) (by omega) (hP _ (by omega)), x.i (b := h + 7) (by omega) (hP _ (by omega)), x.i (b := h + 8) (by omega) (hP _ (by omega)), x.i (b := h + 9) (by omega) (hP _ (by omega)), x.i (b := h + 10) (by omega) (hP _ (by omega)), x.i (b := h + 11) (by omega) (hP _ (by omega)), x.i (b := h + 12) (by omega) (hP _ (by omega)), x.i (b := h + 13) (by omega) (hP _ (by omega)), x.i (b := h + 14) (by omega) (hP _ (by omega)), x.i (b := h + 15) (by omega) (hP _ (by omega))]
  exact g
/-- the model's HALL stands -/
theorem mX.gw2 (hX : mX w h H s) (x : Gw P w u) (hh : h + 17 ≤ 64 + mN w) (m : MO u) (hP : ∀ b, b = 241 ∨ b = 243 ∨ b = 244 ∨ h ≤ b → ¬ P b) (r3 : mR u 238 3 = mR w 238 3) (i22 : mI u 238 22 = mI w 238 22) (i23 : mI u 238 23 = mI w 238 23) : mX u h H s := by
  obtain ⟨⟨x1, x2, x3⟩, x4, x5, x6⟩ := hX
  have hge := x2.ge
  exact ⟨⟨m, x2.gw x (by omega) (fun b hb => hP b (by omega)), r3.trans x3⟩, by rw [x.i (by omega) (hP 241 (by omega))]; exact x4, by rw [i22, x.i (b := 243) (by omega) (hP 243 (by omega))]; exact x5, by rw [i23, x.i (b := 244) (by omega) (hP 244 (by omega))]; exact x6⟩
theorem mX.gw (hX : mX w h H s) (x : Gw P w u) (hh : h + 17 ≤ 64 + mN w) (hP : ∀ b, 238 ≤ b → ¬ P b) : mX u h H s := by
  have hge := hX.1.2.1.ge
  have i := x.i (b := 238) (by omega) (hP _ (by omega))
  exact hX.gw2 x hh (hX.1.1.gw x (by omega) (hP _ (by omega))) (fun b hb => hP b (by omega)) (by rw [x.r (by omega) (hP _ (by omega))]) (by rw [i]) (by rw [i])
theorem LIm.gw (l : LIm w cnt T ft pl tr) (x : Gw P w u) (n : 188 ≤ mN w) (hP : ∀ b, 238 ≤ b → ¬ P b) : LIm u cnt T ft pl tr := by
  obtain ⟨l1, l2, l3, l4, l5, l6, l7⟩ := l
  have i := x.i (b := 238) (by omega) (hP _ (by omega))
  exact ⟨l1.gw x n (hP _ (by omega)), by rw [i]; exact l2, l3, by rw [x.i (b := 239) (by omega) (hP _ (by omega))]; exact l4, by rw [i]; exact l5, by rw [i]; exact l6, by rw [i]; exact l7⟩
theorem LIc.lo (l : LIc w cnt T ft pl tr) (x : LO w u) : LIc u cnt T ft pl tr := by
  obtain ⟨l1, l2, l3, l4⟩ := l
  have i := (x 64 (by omega)).2.1
  exact ⟨l1.lo x, by rw [i]; exact l2, by rw [i]; exact l3, by rw [i]; exact l4⟩
theorem RQ.fr (l : RQ w T cnt) (f : Fr P w u) (hP : ∀ b, (b < 64 ∨ b = 65 ∨ b = 66 ∨ (67 ≤ b ∧ b ≤ 83) ∨ (101 ≤ b ∧ b ≤ 103)) → ¬ P b) : RQ u T cnt := by
  obtain ⟨p1, p2, p3, p4, p5, p6, p7, p8, p9⟩ := l
  have r := f.Rq (b := 101) (hP _ (by omega))
  exact ⟨by rw [f.q]; exact p1, by rw [r]; exact p2, by rw [r]; exact p3, by rw [r]; exact p4, p5.fr f (hP _ (by omega)) (hP _ (by omega)), p6, p7.fr f (fun x a b => hP _ (by omega)), p8.imp (fun k h => h.imp (fun q h => h.fr f (hP _ (by omega)) (hP _ (by omega)))), p9.fr f⟩
theorem LB.fr (l : LB L i xs w) (f : Fr P w u) (hP : ¬ P 0) : LB L i xs u := by
  obtain ⟨l1, l2, l3, l4, l5, l6⟩ := l
  exact ⟨by rw [f.q]; exact l1, by rw [f.Iq hP]; exact l2, by rw [f.q]; exact l3, by rw [f.2.1]; exact l4, by rw [f.2.1]; exact l5, by rw [f.2.2.1]; exact l6⟩
theorem LB.up (l : LB L i xs w) : LB L (i + 1) xs w := ⟨l.1, l.2.1, l.2.2.1, l.2.2.2.1, by have := l.2.2.2.2.1; omega, by have := l.2.2.2.2.2; omega⟩
theorem nH.lo (l : nH w) (x : LO w u) : nH u := by
  obtain ⟨h1, h2, ⟨T, c, r, h3, h4⟩, h5, h6⟩ := l
  exact ⟨h1.lo x, by rw [(x 64 (by omega)).2.1]; exact h2, ⟨T, c, r, h3.lo x (by omega), h4⟩, ⟨by rw [(x 136 (by omega)).1]; exact h5.1, by rw [(x 136 (by omega)).2.1]; exact h5.2⟩, ⟨by rw [(x 208 (by omega)).1]; exact h6.1, by rw [(x 208 (by omega)).2.1]; exact h6.2⟩⟩
theorem cB.mo (l : cB w Bt) (hb : Bt ≤ Bt2) : cB w Bt2 := by
  obtain ⟨b1, b2, b3, b4, b5, b6, ⟨k1, Q1, T3, b7⟩, ⟨k2, Q2, T4, b8⟩⟩ := l
  exact ⟨b1, b2, b3, b4, b5, b6, ⟨k1, Q1, T3, b7.mo hb⟩, ⟨k2, Q2, T4, b8.mo hb⟩⟩
theorem FBx.fr (hb : FBx w) (f : Fr P w u) (hP : ∀ b, (b = 1 ∨ (118 ≤ b ∧ b ≤ 135)) → ¬ P b) : FBx u := by
  obtain ⟨g1, g2, g3, g4, g5, g6, g7, g8, ⟨T5, c5', r5', g9⟩, g10, g11, g12, g13, g14, g18⟩ := hb
  have r := f.Rq (b := 118) (hP _ (by omega))
  exact ⟨by rw [f.q]; exact g1, by rw [r]; exact g2, by rw [r]; exact g3, by rw [r]; exact g4, by rw [r]; exact g5, by rw [r]; exact g6, by rw [r]; exact g7, by rw [r]; exact g8, ⟨T5, c5', r5', g9.fr f (fun b z1 z2 => hP b (by omega))⟩, exSg g10 f (hP _ (by omega)) (hP _ (by omega)), exSg g11 f (hP _ (by omega)) (hP _ (by omega)), exSg g12 f (hP _ (by omega)) (hP _ (by omega)), exSg g13 f (hP _ (by omega)) (hP _ (by omega)), exSg g14 f (hP _ (by omega)) (hP _ (by omega)), g18.fr f (hP _ (by omega))⟩
/-- the class's cells stand where the Reader's, the tape and the class's own numbers alone change -/
theorem cB.fr (l : cB w Bt) (f : Fr P w u) (hP : ∀ b, (b = 1 ∨ (84 ≤ b ∧ b ≤ 100) ∨ (104 ≤ b ∧ b ≤ 237)) → ¬ P b) (r : mR u 64 = mR w 64) : cB u Bt := by
  obtain ⟨b1, b2, ⟨T1, c1, r1, b3⟩, ⟨T2, c2, r2, b4⟩, b5, b6, ⟨k1, Q1, T3, b7⟩, ⟨k2, Q2, T4, b8⟩⟩ := l
  exact ⟨b1.fr f.q r, b2.fr f (fun x a b => hP _ (by omega)), ⟨T1, c1, r1, b3.fr f (fun x a b => hP _ (by omega))⟩, ⟨T2, c2, r2, b4.fr f (fun x a b => hP _ (by omega))⟩, b5.fr f (fun x a => hP _ (by omega)), b6.fr f (fun x a b => hP _ (by omega)), ⟨k1, Q1, T3, b7.fr f (fun x a b => hP _ (by omega))⟩, ⟨k2, Q2, T4, b8.fr f (fun x a b => hP _ (by omega))⟩⟩
theorem cX.fr64 (l : cX w H s Bt) (f : Fr P w u) (hP : ∀ b, (b = 1 ∨ (84 ≤ b ∧ b ≤ 100) ∨ (104 ≤ b ∧ b ≤ 237)) → ¬ P b) (r : mR u 64 = mR w 64) (i11 : mI u 64 11 = mI w 64 11) : cX u H s Bt := by
  obtain ⟨⟨h1, h2, h3, h4, h5⟩, h6, h7, h8⟩ := l
  exact ⟨⟨h1.fr f.q r, i11.trans h2, h3.fr f (fun x a b => hP _ (by omega)), h4.fr f (fun x a => hP _ (by omega)), h5.fr f (fun x a b => hP _ (by omega))⟩, h6.fr f (fun x a b => hP _ (by omega)), h7.fr f (fun x a b => hP _ (by omega)), h8.fr f (fun x a b => hP _ (by omega))⟩
theorem nH.fr64 (l : nH w) (f : Fr P w u) (hP : ∀ b, (104 ≤ b ∧ b ≤ 237) → ¬ P b) (r : mR u 64 = mR w 64) (i11 : mI u 64 11 = mI w 64 11) : nH u := by
  obtain ⟨h1, h2, ⟨T, c, r1, h3, h4⟩, h5, h6⟩ := l
  exact ⟨h1.fr f.q r, i11.trans h2, ⟨T, c, r1, h3.fr f (fun x a b => hP _ (by omega)), h4⟩, ⟨by rw [f.q]; exact h5.1, by rw [f.Iq (hP 136 (by omega))]; exact h5.2⟩, ⟨by rw [f.q]; exact h6.1, by rw [f.Iq (hP 208 (by omega))]; exact h6.2⟩⟩
/-- a question, an act: what both answer -/
theorem LI.act (hB : LB L i xs w) (hc : LIc w cnt T ft pl tr) (hm : LIm w cnt T ft pl tr) (l : LH1 w B Bt h H s) {tr2 : Int} (q1 : qA w u H s2 Bt2 tr2) (q2 : qN u v h H s2 tr2) (g : GS H (20 * ((i + 1 : Nat) : Int)) s2) (hb : Bt2 ≤ ((i + 1 : Nat) : Int)) (t : 0 ≤ tr2 ∧ tr2 ≤ 6 ∧ tr2 ≠ 4) : LI L (i + 1) xs v := by
  obtain ⟨x1, x2, x3, x4, x5, x6, x7⟩ := l
  obtain ⟨a1, a2, a3, a4⟩ := q1
  obtain ⟨b1, b2, b3, b4, b5, b6⟩ := q2
  have n := hB.2.2.2.1
  have lo : LO u v := b2.lo (fun b hb z => by omega)
  refine ⟨((hB.fr a2 (fun z => by unfold aP at z; omega)).fr b2 (by omega)).up, cnt, T, ft, pl, tr2, ?_, ?_, ⟨t.1, t.2.1⟩, Or.inr ⟨h, H, s2, (a1.lo lo).mo hb, b1, x3, x4, x5, g, by rw [b2.2.1, a2.2.1]; exact x7⟩⟩
  · refine LIc.lo (w := u) ?_ lo
    obtain ⟨c1, c2, c3, c4⟩ := hc
    exact ⟨c1.fr a2 (fun b hb z => by unfold aP at z; omega), by rw [a3 12 (by omega)]; exact c2, by rw [a3 13 (by omega)]; exact c3, a4⟩
  · obtain ⟨l1, l2, l3, l4, l5, l6, l7⟩ := hm.gw a2.gw (by omega) (fun b hb z => by unfold aP at z; omega)
    exact ⟨b1.1.1, by rw [b4 6 (by omega) (by omega)]; exact l2, l3, by rw [b2.Iq (b := 239) (by omega)]; exact l4, by rw [b4 14 (by omega) (by omega)]; exact l5, b5, by rw [if_neg t.2.2]; exact b6⟩
theorem LI.ask (hB : LB L i xs w) (hc : LIc w cnt T ft pl tr) (hm : LIm w cnt T ft pl tr) (l : LH1 w (20 * (i : Int)) i h H s) {tr2 : Int} (q1 : qC w u H tr2) (q2 : qM u v tr2) (t : 0 ≤ tr2 ∧ tr2 ≤ 6 ∧ tr2 ≠ 4) : LI L (i + 1) xs v := by
  have qa := qC.qA l.1 q1
  have mx := l.2.1.gw qa.2.1.gw l.2.2.2.2.2.2 (fun b hb z => by unfold aP at z; omega)
  exact LI.act hB hc hm l qa (qM.qN mx q2) (l.2.2.2.2.2.1.mo (by omega)) (by omega) t
/-- refused, for want of a HALL -/
theorem LI.no (hB : LB L i xs w) (hc : LIc w cnt T ft pl tr) (hm : LIm w cnt T ft pl tr) (l : LH0 w i) {tr2 : Int} (t : 0 ≤ tr2 ∧ tr2 ≤ 6 ∧ tr2 ≠ 4) : LI L (i + 1) xs (setI (setI (setI (setI w 64 14 tr2) 238 0 0) 238 1 tr2) 238 2 (-1)) := by
  obtain ⟨x1, x2, x3⟩ := l
  have f1 : Fr (fun b => b = 64) w (setI w 64 14 tr2) := Fr.I rfl
  generalize hu : setI w 64 14 tr2 = u at *
  have f2 : Fr (fun b => b = 238) u (setI (setI (setI u 238 0 0) 238 1 tr2) 238 2 (-1)) := ((Fr.I (P := fun b => b = 238) rfl).tr (Fr.I rfl)).tr (Fr.I rfl)
  have i2 : ∀ k, k ≠ 0 → k ≠ 1 → k ≠ 2 → mI (setI (setI (setI u 238 0 0) 238 1 tr2) 238 2 (-1)) 238 k = mI u 238 k := fun k a b c => by rw [mI_nk c, mI_nk b, mI_nk a]
  have i3 : mI (setI (setI (setI u 238 0 0) 238 1 tr2) 238 2 (-1)) 238 1 = tr2 := by rw [mI_nk (by omega), mI_s]
  have i4 : mI (setI (setI (setI u 238 0 0) 238 1 tr2) 238 2 (-1)) 238 2 = -1 := mI_s _ _ _ _
  have r2 : mR (setI (setI (setI u 238 0 0) 238 1 tr2) 238 2 (-1)) = mR u := rfl
  generalize setI (setI (setI u 238 0 0) 238 1 tr2) 238 2 (-1) = v at *
  have lo : LO u v := f2.lo (fun b hb => by omega)
  have iu : ∀ k, k ≠ 14 → mI u 64 k = mI w 64 k := fun k hk => by rw [← hu, mI_nk hk]
  have ru : mR u = mR w := by rw [← hu]; rfl
  refine ⟨((hB.fr f1 (by omega)).fr f2 (by omega)).up, cnt, T, ft, pl, tr2, ?_, ?_, ⟨t.1, t.2.1⟩, Or.inl ⟨?_, ?_, by rw [r2, ru]; exact x3⟩⟩
  · refine LIc.lo (w := u) ?_ lo
    obtain ⟨c1, c2, c3, c4⟩ := hc
    exact ⟨c1.fr f1 (fun b hb z => by omega), by rw [iu 12 (by omega)]; exact c2, by rw [iu 13 (by omega)]; exact c3, by rw [← hu, mI_s]⟩
  · obtain ⟨l1, l2, l3, l4, l5, l6, l7⟩ := hm
    have j : mI u 238 = mI w 238 := f1.Iq (by omega)
    exact ⟨l1.frR (f2.q.trans f1.q) (r2.trans ru), by rw [i2 6 (by omega) (by omega) (by omega), j]; exact l2, l3, by rw [f2.Iq (b := 239) (by omega), f1.Iq (b := 239) (by omega)]; exact l4, by rw [i2 14 (by omega) (by omega) (by omega), j]; exact l5, i3, by rw [if_neg t.2.2]; exact i4⟩
  · exact ((x1.fr f1 (fun b hb => by omega) (by rw [ru])).lo lo).mo (by omega)
  · exact (x2.fr64 f1 (fun b hb => by omega) (by rw [ru]) (iu 11 (by omega))).lo lo
end STATE
