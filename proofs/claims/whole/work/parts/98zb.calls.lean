/-! Every call, of both: one answer. -/
section CALLS
variable {w u v : jmW} {L i cnt h : Nat} {xs T : Nat → Int} {ft pl tr : Int} {H : Nat → Nat → Int} {s : gSt} {x y z a b c d e : Int}
theorem LH1.fb (l : LH1 w (20 * (i : Int)) i h H s) (hi : i < 512) {q g0 S0 : Nat → Int} (hq : rQ s.1 q) : fB H s.1 (gS1 H S0) q (gG0 g0) (20 * (i : Int)) := by
  obtain ⟨x1, x2, x3, x4, x5, x6, x7⟩ := l
  exact ⟨x3, fun k _ => x5 k, x6.1.1, ⟨by omega, by omega⟩, fun k hk => if_pos (by omega), fun k hk => if_pos hk, hq⟩
theorem LH1.mxu (l : LH1 w (20 * (i : Int)) i h H s) {tr2 : Int} (q1 : qC w u H tr2) : mX u h H s := l.2.1.gw q1.1.gw l.2.2.2.2.2.2 (fun b hb z => by unfold qP at z; omega)
theorem qP_n {b : Nat} (hb : b < 64 ∨ (65 ≤ b ∧ b ≤ 117) ∨ (136 ≤ b ∧ b ≤ 230) ∨ 238 ≤ b) : ¬ qP b := fun z => by unfold qP at z; omega
theorem aP_n {b : Nat} (hb : b < 64 ∨ (65 ≤ b ∧ b ≤ 110) ∨ 238 ≤ b) : ¬ aP b := fun z => by unfold aP at z; omega
theorem LI.z0 (hL : LI L i xs w) {z0 : Int} : LI L i xs (setI w 238 0 z0) := by
  obtain ⟨hB, cnt, T, ft, pl, tr, hc, hm, ht, l⟩ := hL
  have f : Fr (fun b => b = 238) w (setI w 238 0 z0) := Fr.I rfl
  have lo : LO w (setI w 238 0 z0) := f.lo (fun b hb => by omega)
  refine ⟨hB.fr f (by omega), cnt, T, ft, pl, tr, hc.lo lo, ?_, ht, ?_⟩
  · obtain ⟨l1, l2, l3, l4, l5, l6, l7⟩ := hm
    exact ⟨l1.frR rfl rfl, by rw [mI_nk (by omega)]; exact l2, l3, by rw [f.Iq (b := 239) (by omega)]; exact l4, by rw [mI_nk (by omega)]; exact l5, by rw [mI_nk (by omega)]; exact l6, by rw [mI_nk (by omega)]; exact l7⟩
  · rcases l with ⟨x1, x2, x3⟩ | ⟨h, H, s, x1, x2, x3, x4, x5, x6, x7⟩
    · exact Or.inl ⟨x1.lo lo, x2.lo lo, x3⟩
    · exact Or.inr ⟨h, H, s, x1.lo lo, x2.gw2 f.gw x7 (x2.1.1.frR rfl rfl) (fun b hb => by have := x2.1.2.1.ge; omega) rfl (mI_nk (by omega)) (mI_nk (by omega)), x3, x4, x5, x6, x7⟩
theorem LI.up (hL : LI L i xs w) : LI L (i + 1) xs w := by
  obtain ⟨hB, cnt, T, ft, pl, tr, hc, hm, ht, l⟩ := hL
  refine ⟨hB.up, cnt, T, ft, pl, tr, hc, hm, ht, ?_⟩
  rcases l with ⟨x1, x2, x3⟩ | ⟨h, H, s, x1, x2, x3, x4, x5, x6, x7⟩
  · exact Or.inl ⟨x1.mo (by omega), x2, x3⟩
  · exact Or.inr ⟨h, H, s, x1.mo (by omega), x2, x3, x4, x5, x6.mo (by omega), x7⟩
theorem LI.zz (hL : LI L i xs w) : LI L (i + 1) xs (setI w 238 0 0) := hL.z0.up
/-- what is found, a cell more: nothing of ours changes -/
theorem LI.gw {P : Nat → Prop} (hL : LI L i xs w) (x : Gw P w u) (hP : ∀ b, P b → b = 252) (n1 : mN u ≤ mN w + 1) (k1 : mK u ≤ mK w + 20) : LI L (i + 1) xs u := by
  obtain ⟨hB, cnt, T, ft, pl, tr, hc, hm, ht, l⟩ := hL
  obtain ⟨y1, y2, y3, y4, y5, y6⟩ := hB
  have np : ∀ b, b ≠ 252 → ¬ P b := fun b hb z => hb (hP b z)
  have lo : LO w u := x.lo (by omega) (fun b hb => np b (by omega))
  have x1 := x.1
  have m0 := hm.1.gw x (by omega) (np _ (by omega))
  have j := x.i (b := 238) (by omega) (np _ (by omega))
  have r := x.r (b := 238) (by omega) (np _ (by omega))
  refine ⟨⟨by rw [(lo 0 (by omega)).1]; exact y1, by rw [(lo 0 (by omega)).2.1]; exact y2, by rw [x.s (by omega)]; exact y3, by omega, by omega, by omega⟩, cnt, T, ft, pl, tr, hc.lo lo, ?_, ht, ?_⟩
  · obtain ⟨l1, l2, l3, l4, l5, l6, l7⟩ := hm
    exact ⟨m0, by rw [j]; exact l2, l3, by rw [x.i (b := 239) (by omega) (np _ (by omega))]; exact l4, by rw [j]; exact l5, by rw [j]; exact l6, by rw [j]; exact l7⟩
  · rcases l with ⟨z1, z2, z3⟩ | ⟨h, H, s, z1, z2, z3, z4, z5, z6, z7⟩
    · exact Or.inl ⟨(z1.lo lo).mo (by omega), z2.lo lo, by rw [r]; exact z3⟩
    · have hge := z2.1.2.1.ge
      refine Or.inr ⟨h, H, s, (z1.lo lo).mo (by omega), ?_, z3, z4, z5, z6.mo (by omega), by omega⟩
      by_cases q : h = 252
      · have y9 := z2.1.2.1.s
        rw [q, y3] at y9
        exact absurd (congrArg Prod.fst y9) (by decide)
      · exact z2.gw2 x z7 m0 (fun b hb => np b (by omega)) (by rw [r]) (by rw [j]) (by rw [j])
theorem rL_cell (hL : LI L i xs w) (hi : i < 512) (x1 : -2147483648 ≤ x) (x2 : x < 2147483648) (y1 : -2147483648 ≤ y) (y2 : y < 2147483648) : LR L i xs w 65 216 [(1, .inl x), (2, .inl y)] := by
  obtain ⟨hB, cnt, T, ft, pl, tr, hc, hm, ht, l0 | ⟨h, H, s, l⟩⟩ := hL
  · exact ⟨_, _, _, n_cell l0.2.1 x1 x2 y1 y2, oN_cell (w := setI w 64 14 1) (hm.1.frR rfl rfl) l0.2.2 x1 x2 y1 y2, rfl, mI_nb (by omega), LI.no hB hc hm l0 ⟨by omega, by omega, by omega⟩⟩
  · have h0 := l.1.1
    have hk := l.2.2.1
    have ri := l.2.2.2.2.2.1.1.1
    have rn0 := l.2.2.2.2.2.1.1.2
    have hBb : 20 * (i : Int) < 2147483600 := by omega
    obtain ⟨u, e1, q1⟩ := c_cell h0 hk x1 x2 y1 y2
    have mx := l.mxu q1
    obtain ⟨v, e2, q2⟩ := d_cell mx.1 mx.2.1 hk x1 x2 y1 y2
    exact ⟨_, u, v, e1, e2, q1.1.q, q1.1.Iq (qP_n (by omega)), LI.ask hB hc hm l q1 q2 (by unfold A4; (repeat' split) <;> simp)⟩
theorem rL_many (hL : LI L i xs w) (hi : i < 512) : LR L i xs w 67 218 [] := by
  obtain ⟨hB, cnt, T, ft, pl, tr, hc, hm, ht, l0 | ⟨h, H, s, l⟩⟩ := hL
  · exact ⟨_, _, _, n_many l0.2.1, oN_many (w := setI w 64 14 1) (hm.1.frR rfl rfl) l0.2.2, rfl, mI_nb (by omega), LI.no hB hc hm l0 ⟨by omega, by omega, by omega⟩⟩
  · have h0 := l.1.1
    have hk := l.2.2.1
    have ri := l.2.2.2.2.2.1.1.1
    have rn0 := l.2.2.2.2.2.1.1.2
    have hBb : 20 * (i : Int) < 2147483600 := by omega
    obtain ⟨u, e1, q1⟩ := c_many h0 ri
    have mx := l.mxu q1
    obtain ⟨v, e2, q2⟩ := d_many mx.1 mx.2.1 
    exact ⟨_, u, v, e1, e2, q1.1.q, q1.1.Iq (qP_n (by omega)), LI.ask hB hc hm l q1 q2 ⟨by omega, by omega, by omega⟩⟩
theorem rL_dancer (hL : LI L i xs w) (hi : i < 512) (x1 : -2147483648 ≤ x) (x2 : x < 2147483648) (y1 : -2147483648 ≤ y) (y2 : y < 2147483648) : LR L i xs w 68 219 [(1, .inl x), (2, .inl y)] := by
  obtain ⟨hB, cnt, T, ft, pl, tr, hc, hm, ht, l0 | ⟨h, H, s, l⟩⟩ := hL
  · exact ⟨_, _, _, n_dancer l0.2.1 x1 x2 y1 y2, oN_dancer (w := setI w 64 14 1) (hm.1.frR rfl rfl) l0.2.2 x1 x2 y1 y2, rfl, mI_nb (by omega), LI.no hB hc hm l0 ⟨by omega, by omega, by omega⟩⟩
  · have h0 := l.1.1
    have hk := l.2.2.1
    have ri := l.2.2.2.2.2.1.1.1
    have rn0 := l.2.2.2.2.2.1.1.2
    have hBb : 20 * (i : Int) < 2147483600 := by omega
    obtain ⟨u, e1, q1⟩ := c_dancer h0 ri x1 x2 y1 y2
    have mx := l.mxu q1
    obtain ⟨v, e2, q2⟩ := d_dancer mx.1 mx.2.1 ri x1 x2 y1 y2
    exact ⟨_, u, v, e1, e2, q1.1.q, q1.1.Iq (qP_n (by omega)), LI.ask hB hc hm l q1 q2 (by unfold A6; (repeat' split) <;> simp)⟩
theorem rL_stands (hL : LI L i xs w) (hi : i < 512) (x1 : -2147483648 ≤ x) (x2 : x < 2147483648) (y1 : -2147483648 ≤ y) (y2 : y < 2147483648) : LR L i xs w 72 223 [(1, .inl x), (2, .inl y)] := by
  obtain ⟨hB, cnt, T, ft, pl, tr, hc, hm, ht, l0 | ⟨h, H, s, l⟩⟩ := hL
  · exact ⟨_, _, _, n_stands l0.2.1 x1 x2 y1 y2, oN_stands (w := setI w 64 14 1) (hm.1.frR rfl rfl) l0.2.2 x1 x2 y1 y2, rfl, mI_nb (by omega), LI.no hB hc hm l0 ⟨by omega, by omega, by omega⟩⟩
  · have h0 := l.1.1
    have hk := l.2.2.1
    have ri := l.2.2.2.2.2.1.1.1
    have rn0 := l.2.2.2.2.2.1.1.2
    have hBb : 20 * (i : Int) < 2147483600 := by omega
    obtain ⟨u, e1, q1⟩ := c_stands h0 hk ri x1 x2 y1 y2
    have mx := l.mxu q1
    obtain ⟨v, e2, q2⟩ := d_stands mx.1 mx.2.1 hk ri x1 x2 y1 y2
    exact ⟨_, u, v, e1, e2, q1.1.q, q1.1.Iq (qP_n (by omega)), LI.ask hB hc hm l q1 q2 (by unfold A7; (repeat' split) <;> simp)⟩
theorem rL_way (hL : LI L i xs w) (hi : i < 512) (x1 : -2147483648 ≤ x) (x2 : x < 2147483648) : LR L i xs w 73 224 [(1, .inl x)] := by
  obtain ⟨hB, cnt, T, ft, pl, tr, hc, hm, ht, l0 | ⟨h, H, s, l⟩⟩ := hL
  · exact ⟨_, _, _, n_way l0.2.1 x1 x2, oN_way (w := setI w 64 14 1) (hm.1.frR rfl rfl) l0.2.2 x1 x2, rfl, mI_nb (by omega), LI.no hB hc hm l0 ⟨by omega, by omega, by omega⟩⟩
  · have h0 := l.1.1
    have hk := l.2.2.1
    have ri := l.2.2.2.2.2.1.1.1
    have rn0 := l.2.2.2.2.2.1.1.2
    have hBb : 20 * (i : Int) < 2147483600 := by omega
    obtain ⟨u, e1, q1⟩ := c_way h0 ri x1 x2
    have mx := l.mxu q1
    obtain ⟨v, e2, q2⟩ := d_way mx.1 mx.2.1 ri x1 x2
    exact ⟨_, u, v, e1, e2, q1.1.q, q1.1.Iq (qP_n (by omega)), LI.ask hB hc hm l q1 q2 (by unfold A8; (repeat' split) <;> simp)⟩
theorem rL_length (hL : LI L i xs w) (hi : i < 512) : LR L i xs w 74 225 [] := by
  obtain ⟨hB, cnt, T, ft, pl, tr, hc, hm, ht, l0 | ⟨h, H, s, l⟩⟩ := hL
  · exact ⟨_, _, _, n_length l0.2.1, oN_length (w := setI w 64 14 1) (hm.1.frR rfl rfl) l0.2.2, rfl, mI_nb (by omega), LI.no hB hc hm l0 ⟨by omega, by omega, by omega⟩⟩
  · have h0 := l.1.1
    have hk := l.2.2.1
    have ri := l.2.2.2.2.2.1.1.1
    have rn0 := l.2.2.2.2.2.1.1.2
    have hBb : 20 * (i : Int) < 2147483600 := by omega
    obtain ⟨u, e1, q1⟩ := c_length h0 ri
    have mx := l.mxu q1
    obtain ⟨v, e2, q2⟩ := d_length mx.1 mx.2.1 
    exact ⟨_, u, v, e1, e2, q1.1.q, q1.1.Iq (qP_n (by omega)), LI.ask hB hc hm l q1 q2 ⟨by omega, by omega, by omega⟩⟩
theorem rL_corners (hL : LI L i xs w) (hi : i < 512) : LR L i xs w 75 226 [] := by
  obtain ⟨hB, cnt, T, ft, pl, tr, hc, hm, ht, l0 | ⟨h, H, s, l⟩⟩ := hL
  · exact ⟨_, _, _, n_corners l0.2.1, oN_corners (w := setI w 64 14 1) (hm.1.frR rfl rfl) l0.2.2, rfl, mI_nb (by omega), LI.no hB hc hm l0 ⟨by omega, by omega, by omega⟩⟩
  · have h0 := l.1.1
    have hk := l.2.2.1
    have ri := l.2.2.2.2.2.1.1.1
    have rn0 := l.2.2.2.2.2.1.1.2
    have hBb : 20 * (i : Int) < 2147483600 := by omega
    obtain ⟨u, e1, q1⟩ := c_corners h0 hk ri
    have mx := l.mxu q1
    obtain ⟨v, e2, q2⟩ := d_corners mx.1 mx.2.1 hk ri
    exact ⟨_, u, v, e1, e2, q1.1.q, q1.1.Iq (qP_n (by omega)), LI.ask hB hc hm l q1 q2 ⟨by omega, by omega, by omega⟩⟩
theorem rL_sits (hL : LI L i xs w) (hi : i < 512) (x1 : -2147483648 ≤ x) (x2 : x < 2147483648) : LR L i xs w 77 229 [(1, .inl x)] := by
  obtain ⟨hB, cnt, T, ft, pl, tr, hc, hm, ht, l0 | ⟨h, H, s, l⟩⟩ := hL
  · exact ⟨_, _, _, n_sits l0.2.1 x1 x2, oN_sits (w := setI w 64 14 1) (hm.1.frR rfl rfl) l0.2.2 x1 x2, rfl, mI_nb (by omega), LI.no hB hc hm l0 ⟨by omega, by omega, by omega⟩⟩
  · have h0 := l.1.1
    have hk := l.2.2.1
    have ri := l.2.2.2.2.2.1.1.1
    have rn0 := l.2.2.2.2.2.1.1.2
    have hBb : 20 * (i : Int) < 2147483600 := by omega
    obtain ⟨u, e1, q1⟩ := c_sits h0 hk ri x1 x2
    have mx := l.mxu q1
    obtain ⟨v, e2, q2⟩ := d_sits mx.1 mx.2.1 hk x1 x2
    exact ⟨_, u, v, e1, e2, q1.1.q, q1.1.Iq (qP_n (by omega)), LI.ask hB hc hm l q1 q2 (by unfold A11; (repeat' split) <;> simp)⟩
theorem rL_over (hL : LI L i xs w) (hi : i < 512) : LR L i xs w 79 231 [] := by
  obtain ⟨hB, cnt, T, ft, pl, tr, hc, hm, ht, l0 | ⟨h, H, s, l⟩⟩ := hL
  · exact ⟨_, _, _, n_over l0.2.1, oN_over (w := setI w 64 14 1) (hm.1.frR rfl rfl) l0.2.2, rfl, mI_nb (by omega), LI.no hB hc hm l0 ⟨by omega, by omega, by omega⟩⟩
  · have h0 := l.1.1
    have hk := l.2.2.1
    have ri := l.2.2.2.2.2.1.1.1
    have rn0 := l.2.2.2.2.2.1.1.2
    have hBb : 20 * (i : Int) < 2147483600 := by omega
    obtain ⟨u, e1, q1⟩ := c_over h0
    have mx := l.mxu q1
    obtain ⟨v, e2, q2⟩ := d_over mx.1 mx.2.1 ri
    exact ⟨_, u, v, e1, e2, q1.1.q, q1.1.Iq (qP_n (by omega)), LI.ask hB hc hm l q1 q2 ⟨by omega, by omega, by omega⟩⟩
theorem rL_manyIn (hL : LI L i xs w) (hi : i < 512) (x1 : -2147483648 ≤ x) (x2 : x < 2147483648) : LR L i xs w 80 233 [(1, .inl x)] := by
  obtain ⟨hB, cnt, T, ft, pl, tr, hc, hm, ht, l0 | ⟨h, H, s, l⟩⟩ := hL
  · exact ⟨_, _, _, n_manyIn l0.2.1 x1 x2, oN_manyIn (w := setI w 64 14 1) (hm.1.frR rfl rfl) l0.2.2 x1 x2, rfl, mI_nb (by omega), LI.no hB hc hm l0 ⟨by omega, by omega, by omega⟩⟩
  · have h0 := l.1.1
    have hk := l.2.2.1
    have ri := l.2.2.2.2.2.1.1.1
    have rn0 := l.2.2.2.2.2.1.1.2
    have hBb : 20 * (i : Int) < 2147483600 := by omega
    have b := l.fb (q := gCp s.1 (mI w 242)) (g0 := mI w 248) (S0 := mI w 247) hi rQ.cp
    obtain ⟨u, e1, q1⟩ := c_manyIn h0 b x1 x2
    have mx := l.mxu q1
    have hu : fU u H (gS1 H (mI w 247)) (gCp s.1 (mI w 242)) (gG0 (mI w 248)) := ⟨by rw [mx.2.1, q1.1.Iq (b := 242) (qP_n (by omega))], by rw [q1.1.Iq (b := 247) (qP_n (by omega))], by rw [q1.1.Iq (b := 248) (qP_n (by omega))]⟩
    obtain ⟨v, e2, q2⟩ := d_manyIn mx.1 mx.2.1 b hu x1 x2
    exact ⟨_, u, v, e1, e2, q1.1.q, q1.1.Iq (qP_n (by omega)), LI.ask hB hc hm l q1 q2 (by unfold A13; (repeat' split) <;> simp)⟩
theorem rL_runner (hL : LI L i xs w) (hi : i < 512) (x1 : -2147483648 ≤ x) (x2 : x < 2147483648) : LR L i xs w 107 260 [(1, .inl x)] := by
  obtain ⟨hB, cnt, T, ft, pl, tr, hc, hm, ht, l0 | ⟨h, H, s, l⟩⟩ := hL
  · exact ⟨_, _, _, n_runner l0.2.1 x1 x2, oN_runner (w := setI w 64 14 1) (hm.1.frR rfl rfl) l0.2.2 x1 x2, rfl, mI_nb (by omega), LI.no hB hc hm l0 ⟨by omega, by omega, by omega⟩⟩
  · have h0 := l.1.1
    have hk := l.2.2.1
    have ri := l.2.2.2.2.2.1.1.1
    have rn0 := l.2.2.2.2.2.1.1.2
    have hBb : 20 * (i : Int) < 2147483600 := by omega
    have b := l.fb (q := gCp s.1 (mI w 242)) (g0 := mI w 248) (S0 := mI w 247) hi rQ.cp
    obtain ⟨u, e1, q1⟩ := c_runner h0 b x1 x2
    have mx := l.mxu q1
    have hu : fU u H (gS1 H (mI w 247)) (gCp s.1 (mI w 242)) (gG0 (mI w 248)) := ⟨by rw [mx.2.1, q1.1.Iq (b := 242) (qP_n (by omega))], by rw [q1.1.Iq (b := 247) (qP_n (by omega))], by rw [q1.1.Iq (b := 248) (qP_n (by omega))]⟩
    obtain ⟨v, e2, q2⟩ := d_runner mx.1 mx.2.1 b hu x1 x2
    exact ⟨_, u, v, e1, e2, q1.1.q, q1.1.Iq (qP_n (by omega)), LI.ask hB hc hm l q1 q2 (by unfold A16; (repeat' split) <;> simp)⟩
theorem rL_widest (hL : LI L i xs w) (hi : i < 512) (x1 : -2147483648 ≤ x) (x2 : x < 2147483648) : LR L i xs w 109 261 [(1, .inl x)] := by
  obtain ⟨hB, cnt, T, ft, pl, tr, hc, hm, ht, l0 | ⟨h, H, s, l⟩⟩ := hL
  · exact ⟨_, _, _, n_widest l0.2.1 x1 x2, oN_widest (w := setI w 64 14 1) (hm.1.frR rfl rfl) l0.2.2 x1 x2, rfl, mI_nb (by omega), LI.no hB hc hm l0 ⟨by omega, by omega, by omega⟩⟩
  · have h0 := l.1.1
    have hk := l.2.2.1
    have ri := l.2.2.2.2.2.1.1.1
    have rn0 := l.2.2.2.2.2.1.1.2
    have hBb : 20 * (i : Int) < 2147483600 := by omega
    have b := l.fb (q := gCp s.1 (mI w 242)) (g0 := mI w 248) (S0 := mI w 247) hi rQ.cp
    obtain ⟨u, e1, q1⟩ := c_widest h0 b x1 x2
    have mx := l.mxu q1
    have hu : fU u H (gS1 H (mI w 247)) (gCp s.1 (mI w 242)) (gG0 (mI w 248)) := ⟨by rw [mx.2.1, q1.1.Iq (b := 242) (qP_n (by omega))], by rw [q1.1.Iq (b := 247) (qP_n (by omega))], by rw [q1.1.Iq (b := 248) (qP_n (by omega))]⟩
    obtain ⟨v, e2, q2⟩ := d_widest mx.1 mx.2.1 b hu x1 x2
    exact ⟨_, u, v, e1, e2, q1.1.q, q1.1.Iq (qP_n (by omega)), LI.ask hB hc hm l q1 q2 (by unfold A17; (repeat' split) <;> simp)⟩
theorem rL_torn (hL : LI L i xs w) (hi : i < 512) (x1 : -2147483648 ≤ x) (x2 : x < 2147483648) : LR L i xs w 111 262 [(1, .inl x)] := by
  obtain ⟨hB, cnt, T, ft, pl, tr, hc, hm, ht, l0 | ⟨h, H, s, l⟩⟩ := hL
  · exact ⟨_, _, _, n_torn l0.2.1 x1 x2, oN_torn (w := setI w 64 14 1) (hm.1.frR rfl rfl) l0.2.2 x1 x2, rfl, mI_nb (by omega), LI.no hB hc hm l0 ⟨by omega, by omega, by omega⟩⟩
  · have h0 := l.1.1
    have hk := l.2.2.1
    have ri := l.2.2.2.2.2.1.1.1
    have rn0 := l.2.2.2.2.2.1.1.2
    have hBb : 20 * (i : Int) < 2147483600 := by omega
    have b := l.fb (q := gCp s.1 (mI w 242)) (g0 := mI w 248) (S0 := mI w 247) hi rQ.cp
    obtain ⟨u, e1, q1⟩ := c_torn h0 b x1 x2
    have mx := l.mxu q1
    have hu : fU u H (gS1 H (mI w 247)) (gCp s.1 (mI w 242)) (gG0 (mI w 248)) := ⟨by rw [mx.2.1, q1.1.Iq (b := 242) (qP_n (by omega))], by rw [q1.1.Iq (b := 247) (qP_n (by omega))], by rw [q1.1.Iq (b := 248) (qP_n (by omega))]⟩
    obtain ⟨v, e2, q2⟩ := d_torn mx.1 mx.2.1 b hu x1 x2
    exact ⟨_, u, v, e1, e2, q1.1.q, q1.1.Iq (qP_n (by omega)), LI.ask hB hc hm l q1 q2 (by unfold A18; (repeat' split) <;> simp)⟩
theorem rL_tornBy (hL : LI L i xs w) (hi : i < 512) (x1 : -2147483648 ≤ x) (x2 : x < 2147483648) : LR L i xs w 112 264 [(1, .inl x)] := by
  obtain ⟨hB, cnt, T, ft, pl, tr, hc, hm, ht, l0 | ⟨h, H, s, l⟩⟩ := hL
  · exact ⟨_, _, _, n_tornBy l0.2.1 x1 x2, oN_tornBy (w := setI w 64 14 1) (hm.1.frR rfl rfl) l0.2.2 x1 x2, rfl, mI_nb (by omega), LI.no hB hc hm l0 ⟨by omega, by omega, by omega⟩⟩
  · have h0 := l.1.1
    have hk := l.2.2.1
    have ri := l.2.2.2.2.2.1.1.1
    have rn0 := l.2.2.2.2.2.1.1.2
    have hBb : 20 * (i : Int) < 2147483600 := by omega
    have b := l.fb (q := gCp s.1 (mI w 242)) (g0 := mI w 248) (S0 := mI w 247) hi rQ.cp
    obtain ⟨u, e1, q1⟩ := c_tornBy h0 b x1 x2
    have mx := l.mxu q1
    have hu : fU u H (gS1 H (mI w 247)) (gCp s.1 (mI w 242)) (gG0 (mI w 248)) := ⟨by rw [mx.2.1, q1.1.Iq (b := 242) (qP_n (by omega))], by rw [q1.1.Iq (b := 247) (qP_n (by omega))], by rw [q1.1.Iq (b := 248) (qP_n (by omega))]⟩
    obtain ⟨v, e2, q2⟩ := d_tornBy mx.1 mx.2.1 b hu x1 x2
    exact ⟨_, u, v, e1, e2, q1.1.q, q1.1.Iq (qP_n (by omega)), LI.ask hB hc hm l q1 q2 (by unfold A19; (repeat' split) <;> simp)⟩
theorem rL_joined (hL : LI L i xs w) (hi : i < 512) (x1 : -2147483648 ≤ x) (x2 : x < 2147483648) : LR L i xs w 113 265 [(1, .inl x)] := by
  obtain ⟨hB, cnt, T, ft, pl, tr, hc, hm, ht, l0 | ⟨h, H, s, l⟩⟩ := hL
  · exact ⟨_, _, _, n_joined l0.2.1 x1 x2, oN_joined (w := setI w 64 14 1) (hm.1.frR rfl rfl) l0.2.2 x1 x2, rfl, mI_nb (by omega), LI.no hB hc hm l0 ⟨by omega, by omega, by omega⟩⟩
  · have h0 := l.1.1
    have hk := l.2.2.1
    have ri := l.2.2.2.2.2.1.1.1
    have rn0 := l.2.2.2.2.2.1.1.2
    have hBb : 20 * (i : Int) < 2147483600 := by omega
    have b := l.fb (q := gCp s.1 (mI w 242)) (g0 := mI w 248) (S0 := mI w 247) hi rQ.cp
    obtain ⟨u, e1, q1⟩ := c_joined h0 b x1 x2
    have mx := l.mxu q1
    have hu : fU u H (gS1 H (mI w 247)) (gCp s.1 (mI w 242)) (gG0 (mI w 248)) := ⟨by rw [mx.2.1, q1.1.Iq (b := 242) (qP_n (by omega))], by rw [q1.1.Iq (b := 247) (qP_n (by omega))], by rw [q1.1.Iq (b := 248) (qP_n (by omega))]⟩
    obtain ⟨v, e2, q2⟩ := d_joined mx.1 mx.2.1 b hu x1 x2
    exact ⟨_, u, v, e1, e2, q1.1.q, q1.1.Iq (qP_n (by omega)), LI.ask hB hc hm l q1 q2 (by unfold A20; (repeat' split) <;> simp)⟩
theorem rL_ring (hL : LI L i xs w) (hi : i < 512) (x1 : -2147483648 ≤ x) (x2 : x < 2147483648) : LR L i xs w 114 266 [(1, .inl x)] := by
  obtain ⟨hB, cnt, T, ft, pl, tr, hc, hm, ht, l0 | ⟨h, H, s, l⟩⟩ := hL
  · exact ⟨_, _, _, n_ring l0.2.1 x1 x2, oN_ring (w := setI w 64 14 1) (hm.1.frR rfl rfl) l0.2.2 x1 x2, rfl, mI_nb (by omega), LI.no hB hc hm l0 ⟨by omega, by omega, by omega⟩⟩
  · have h0 := l.1.1
    have hk := l.2.2.1
    have ri := l.2.2.2.2.2.1.1.1
    have rn0 := l.2.2.2.2.2.1.1.2
    have hBb : 20 * (i : Int) < 2147483600 := by omega
    have b := l.fb (q := gCp s.1 (mI w 242)) (g0 := mI w 248) (S0 := mI w 247) hi rQ.cp
    obtain ⟨u, e1, q1⟩ := c_ring h0 b x1 x2
    have mx := l.mxu q1
    have hu : fU u H (gS1 H (mI w 247)) (gCp s.1 (mI w 242)) (gG0 (mI w 248)) := ⟨by rw [mx.2.1, q1.1.Iq (b := 242) (qP_n (by omega))], by rw [q1.1.Iq (b := 247) (qP_n (by omega))], by rw [q1.1.Iq (b := 248) (qP_n (by omega))]⟩
    obtain ⟨v, e2, q2⟩ := d_ring mx.1 mx.2.1 b hu x1 x2
    exact ⟨_, u, v, e1, e2, q1.1.q, q1.1.Iq (qP_n (by omega)), LI.ask hB hc hm l q1 q2 (by unfold A21; (repeat' split) <;> simp)⟩
theorem rL_at (hL : LI L i xs w) (hi : i < 512) (x1 : -2147483648 ≤ x) (x2 : x < 2147483648) (y1 : -2147483648 ≤ y) (y2 : y < 2147483648) : LR L i xs w 104 257 [(1, .inl x), (2, .inl y)] := by
  obtain ⟨hB, cnt, T, ft, pl, tr, hc, hm, ht, l0 | ⟨h, H, s, l⟩⟩ := hL
  · exact ⟨_, _, _, n_at l0.2.1 x1 x2 y1 y2, oN_at (w := setI w 64 14 1) (hm.1.frR rfl rfl) l0.2.2 x1 x2 y1 y2, rfl, mI_nb (by omega), LI.no hB hc hm l0 ⟨by omega, by omega, by omega⟩⟩
  · have h0 := l.1.1
    have hk := l.2.2.1
    have ri := l.2.2.2.2.2.1.1.1
    have rn0 := l.2.2.2.2.2.1.1.2
    have hBb : 20 * (i : Int) < 2147483600 := by omega
    have b := l.fb (q := gCp s.1 (mI w 242)) (g0 := mI w 248) (S0 := mI w 247) hi rQ.cp
    obtain ⟨u, e1, q1⟩ := c_at h0 b x1 x2 y1 y2
    have mx := l.mxu q1
    have hu : fU u H (gS1 H (mI w 247)) (gCp s.1 (mI w 242)) (gG0 (mI w 248)) := ⟨by rw [mx.2.1, q1.1.Iq (b := 242) (qP_n (by omega))], by rw [q1.1.Iq (b := 247) (qP_n (by omega))], by rw [q1.1.Iq (b := 248) (qP_n (by omega))]⟩
    obtain ⟨v, e2, q2⟩ := d_at mx.1 mx.2.1 b hu x1 x2 y1 y2
    exact ⟨_, u, v, e1, e2, q1.1.q, q1.1.Iq (qP_n (by omega)), LI.ask hB hc hm l q1 q2 (by unfold A14; (repeat' split) <;> simp)⟩
theorem rL_ran (hL : LI L i xs w) (hi : i < 512) (x1 : -2147483648 ≤ x) (x2 : x < 2147483648) (y1 : -2147483648 ≤ y) (y2 : y < 2147483648) : LR L i xs w 106 259 [(1, .inl x), (2, .inl y)] := by
  obtain ⟨hB, cnt, T, ft, pl, tr, hc, hm, ht, l0 | ⟨h, H, s, l⟩⟩ := hL
  · exact ⟨_, _, _, n_ran l0.2.1 x1 x2 y1 y2, oN_ran (w := setI w 64 14 1) (hm.1.frR rfl rfl) l0.2.2 x1 x2 y1 y2, rfl, mI_nb (by omega), LI.no hB hc hm l0 ⟨by omega, by omega, by omega⟩⟩
  · have h0 := l.1.1
    have hk := l.2.2.1
    have ri := l.2.2.2.2.2.1.1.1
    have rn0 := l.2.2.2.2.2.1.1.2
    have hBb : 20 * (i : Int) < 2147483600 := by omega
    have b := l.fb (q := gCp s.1 (mI w 242)) (g0 := mI w 248) (S0 := mI w 247) hi rQ.cp
    obtain ⟨u, e1, q1⟩ := c_ran h0 b x1 x2 y1 y2
    have mx := l.mxu q1
    have hu : fU u H (gS1 H (mI w 247)) (gCp s.1 (mI w 242)) (gG0 (mI w 248)) := ⟨by rw [mx.2.1, q1.1.Iq (b := 242) (qP_n (by omega))], by rw [q1.1.Iq (b := 247) (qP_n (by omega))], by rw [q1.1.Iq (b := 248) (qP_n (by omega))]⟩
    obtain ⟨v, e2, q2⟩ := d_ran mx.1 mx.2.1 b hu x1 x2 y1 y2
    exact ⟨_, u, v, e1, e2, q1.1.q, q1.1.Iq (qP_n (by omega)), LI.ask hB hc hm l q1 q2 (by unfold A15; (repeat' split) <;> simp)⟩
theorem rL_jolt (hL : LI L i xs w) (hi : i < 512) (x1 : -2147483648 ≤ x) (x2 : x < 2147483648) (y1 : -2147483648 ≤ y) (y2 : y < 2147483648) : LR L i xs w 115 267 [(1, .inl x), (2, .inl y)] := by
  obtain ⟨hB, cnt, T, ft, pl, tr, hc, hm, ht, l0 | ⟨h, H, s, l⟩⟩ := hL
  · exact ⟨_, _, _, n_jolt l0.2.1 x1 x2 y1 y2, oN_jolt (w := setI w 64 14 1) (hm.1.frR rfl rfl) l0.2.2 x1 x2 y1 y2, rfl, mI_nb (by omega), LI.no hB hc hm l0 ⟨by omega, by omega, by omega⟩⟩
  · have h0 := l.1.1
    have hk := l.2.2.1
    have ri := l.2.2.2.2.2.1.1.1
    have rn0 := l.2.2.2.2.2.1.1.2
    have hBb : 20 * (i : Int) < 2147483600 := by omega
    have b := l.fb (q := gCp s.1 (mI w 242)) (g0 := mI w 248) (S0 := mI w 247) hi rQ.cp
    obtain ⟨u, e1, q1⟩ := c_jolt h0 b x1 x2 y1 y2
    have mx := l.mxu q1
    have hu : fU u H (gS1 H (mI w 247)) (gCp s.1 (mI w 242)) (gG0 (mI w 248)) := ⟨by rw [mx.2.1, q1.1.Iq (b := 242) (qP_n (by omega))], by rw [q1.1.Iq (b := 247) (qP_n (by omega))], by rw [q1.1.Iq (b := 248) (qP_n (by omega))]⟩
    obtain ⟨v, e2, q2⟩ := d_jolt mx.1 mx.2.1 b hu x1 x2 y1 y2
    exact ⟨_, u, v, e1, e2, q1.1.q, q1.1.Iq (qP_n (by omega)), LI.ask hB hc hm l q1 q2 (by unfold A22; (repeat' split) <;> simp)⟩
theorem rL_grows (hL : LI L i xs w) (hi : i < 512) (x1 : -2147483648 ≤ x) (x2 : x < 2147483648) (y1 : -2147483648 ≤ y) (y2 : y < 2147483648) : LR L i xs w 119 270 [(1, .inl x), (2, .inl y)] := by
  obtain ⟨hB, cnt, T, ft, pl, tr, hc, hm, ht, l0 | ⟨h, H, s, l⟩⟩ := hL
  · exact ⟨_, _, _, n_grows l0.2.1 x1 x2 y1 y2, oN_grows (w := setI w 64 14 1) (hm.1.frR rfl rfl) l0.2.2 x1 x2 y1 y2, rfl, mI_nb (by omega), LI.no hB hc hm l0 ⟨by omega, by omega, by omega⟩⟩
  · have h0 := l.1.1
    have hk := l.2.2.1
    have ri := l.2.2.2.2.2.1.1.1
    have rn0 := l.2.2.2.2.2.1.1.2
    have hBb : 20 * (i : Int) < 2147483600 := by omega
    have b := l.fb (q := gCp s.1 (mI w 242)) (g0 := mI w 248) (S0 := mI w 247) hi rQ.cp
    obtain ⟨u, e1, q1⟩ := c_grows h0 b x1 x2 y1 y2
    have mx := l.mxu q1
    have hu : fU u H (gS1 H (mI w 247)) (gCp s.1 (mI w 242)) (gG0 (mI w 248)) := ⟨by rw [mx.2.1, q1.1.Iq (b := 242) (qP_n (by omega))], by rw [q1.1.Iq (b := 247) (qP_n (by omega))], by rw [q1.1.Iq (b := 248) (qP_n (by omega))]⟩
    obtain ⟨v, e2, q2⟩ := d_grows mx.1 mx.2.1 b hu x1 x2 y1 y2
    exact ⟨_, u, v, e1, e2, q1.1.q, q1.1.Iq (qP_n (by omega)), LI.ask hB hc hm l q1 q2 (by unfold A23; (repeat' split) <;> simp)⟩
theorem rL_holds (hL : LI L i xs w) (hi : i < 512) : LR L i xs w 121 271 [] := by
  obtain ⟨hB, cnt, T, ft, pl, tr, hc, hm, ht, l0 | ⟨h, H, s, l⟩⟩ := hL
  · exact ⟨_, _, _, n_holds l0.2.1, oN_holds (w := setI w 64 14 1) (hm.1.frR rfl rfl) l0.2.2, rfl, mI_nb (by omega), LI.no hB hc hm l0 ⟨by omega, by omega, by omega⟩⟩
  · have h0 := l.1.1
    have hk := l.2.2.1
    have ri := l.2.2.2.2.2.1.1.1
    have rn0 := l.2.2.2.2.2.1.1.2
    have hBb : 20 * (i : Int) < 2147483600 := by omega
    have b := l.fb (q := gCp s.1 (mI w 242)) (g0 := mI w 248) (S0 := mI w 247) hi rQ.cp
    obtain ⟨u, e1, q1⟩ := c_holds h0 b
    have mx := l.mxu q1
    have hu : fU u H (gS1 H (mI w 247)) (gCp s.1 (mI w 242)) (gG0 (mI w 248)) := ⟨by rw [mx.2.1, q1.1.Iq (b := 242) (qP_n (by omega))], by rw [q1.1.Iq (b := 247) (qP_n (by omega))], by rw [q1.1.Iq (b := 248) (qP_n (by omega))]⟩
    obtain ⟨v, e2, q2⟩ := d_holds mx.1 mx.2.1 b hu
    exact ⟨_, u, v, e1, e2, q1.1.q, q1.1.Iq (qP_n (by omega)), LI.ask hB hc hm l q1 q2 ⟨by omega, by omega, by omega⟩⟩
theorem rL_order (hL : LI L i xs w) (hi : i < 512) : LR L i xs w 122 272 [] := by
  obtain ⟨hB, cnt, T, ft, pl, tr, hc, hm, ht, l0 | ⟨h, H, s, l⟩⟩ := hL
  · exact ⟨_, _, _, n_order l0.2.1, oN_order (w := setI w 64 14 1) (hm.1.frR rfl rfl) l0.2.2, rfl, mI_nb (by omega), LI.no hB hc hm l0 ⟨by omega, by omega, by omega⟩⟩
  · have h0 := l.1.1
    have hk := l.2.2.1
    have ri := l.2.2.2.2.2.1.1.1
    have rn0 := l.2.2.2.2.2.1.1.2
    have hBb : 20 * (i : Int) < 2147483600 := by omega
    have b := l.fb (q := gCp s.1 (mI w 242)) (g0 := mI w 248) (S0 := mI w 247) hi rQ.cp
    obtain ⟨u, e1, q1⟩ := c_order h0 b rn0
    have mx := l.mxu q1
    have hu : fU u H (gS1 H (mI w 247)) (gCp s.1 (mI w 242)) (gG0 (mI w 248)) := ⟨by rw [mx.2.1, q1.1.Iq (b := 242) (qP_n (by omega))], by rw [q1.1.Iq (b := 247) (qP_n (by omega))], by rw [q1.1.Iq (b := 248) (qP_n (by omega))]⟩
    obtain ⟨v, e2, q2⟩ := d_order mx.1 mx.2.1 b hu rn0
    exact ⟨_, u, v, e1, e2, q1.1.q, q1.1.Iq (qP_n (by omega)), LI.ask hB hc hm l q1 q2 (by unfold A25; (repeat' split) <;> simp)⟩
theorem rL_orderAt (hL : LI L i xs w) (hi : i < 512) (x1 : -2147483648 ≤ x) (x2 : x < 2147483648) : LR L i xs w 128 276 [(1, .inl x)] := by
  obtain ⟨hB, cnt, T, ft, pl, tr, hc, hm, ht, l0 | ⟨h, H, s, l⟩⟩ := hL
  · exact ⟨_, _, _, n_orderAt l0.2.1 x1 x2, oN_orderAt (w := setI w 64 14 1) (hm.1.frR rfl rfl) l0.2.2 x1 x2, rfl, mI_nb (by omega), LI.no hB hc hm l0 ⟨by omega, by omega, by omega⟩⟩
  · have h0 := l.1.1
    have hk := l.2.2.1
    have ri := l.2.2.2.2.2.1.1.1
    have rn0 := l.2.2.2.2.2.1.1.2
    have hBb : 20 * (i : Int) < 2147483600 := by omega
    have b := l.fb (q := gCp s.1 (mI w 242)) (g0 := mI w 248) (S0 := mI w 247) hi rQ.cp
    obtain ⟨u, e1, q1⟩ := c_orderAt h0 b rn0 x1 x2
    have mx := l.mxu q1
    have hu : fU u H (gS1 H (mI w 247)) (gCp s.1 (mI w 242)) (gG0 (mI w 248)) := ⟨by rw [mx.2.1, q1.1.Iq (b := 242) (qP_n (by omega))], by rw [q1.1.Iq (b := 247) (qP_n (by omega))], by rw [q1.1.Iq (b := 248) (qP_n (by omega))]⟩
    obtain ⟨v, e2, q2⟩ := d_orderAt mx.1 mx.2.1 b hu rn0 x1 x2
    exact ⟨_, u, v, e1, e2, q1.1.q, q1.1.Iq (qP_n (by omega)), LI.ask hB hc hm l q1 q2 (by unfold A26; (repeat' split) <;> simp)⟩
theorem rL_leader (hL : LI L i xs w) (hi : i < 512) (x1 : -2147483648 ≤ x) (x2 : x < 2147483648) : LR L i xs w 129 277 [(1, .inl x)] := by
  obtain ⟨hB, cnt, T, ft, pl, tr, hc, hm, ht, l0 | ⟨h, H, s, l⟩⟩ := hL
  · exact ⟨_, _, _, n_leader l0.2.1 x1 x2, oN_leader (w := setI w 64 14 1) (hm.1.frR rfl rfl) l0.2.2 x1 x2, rfl, mI_nb (by omega), LI.no hB hc hm l0 ⟨by omega, by omega, by omega⟩⟩
  · have h0 := l.1.1
    have hk := l.2.2.1
    have ri := l.2.2.2.2.2.1.1.1
    have rn0 := l.2.2.2.2.2.1.1.2
    have hBb : 20 * (i : Int) < 2147483600 := by omega
    have b := l.fb (q := gCp s.1 (mI w 242)) (g0 := mI w 248) (S0 := mI w 247) hi rQ.cp
    obtain ⟨u, e1, q1⟩ := c_leader h0 b x1 x2
    have mx := l.mxu q1
    have hu : fU u H (gS1 H (mI w 247)) (gCp s.1 (mI w 242)) (gG0 (mI w 248)) := ⟨by rw [mx.2.1, q1.1.Iq (b := 242) (qP_n (by omega))], by rw [q1.1.Iq (b := 247) (qP_n (by omega))], by rw [q1.1.Iq (b := 248) (qP_n (by omega))]⟩
    obtain ⟨v, e2, q2⟩ := d_leader mx.1 mx.2.1 b hu x1 x2
    exact ⟨_, u, v, e1, e2, q1.1.q, q1.1.Iq (qP_n (by omega)), LI.ask hB hc hm l q1 q2 (by unfold A27; (repeat' split) <;> simp)⟩
theorem rL_plan (hL : LI L i xs w) (hi : i < 512) (x1 : -2147483648 ≤ x) (x2 : x < 2147483648) : LR L i xs w 130 278 [(1, .inl x)] := by
  obtain ⟨hB, cnt, T, ft, pl, tr, hc, hm, ht, l0 | ⟨h, H, s, l⟩⟩ := hL
  · exact ⟨_, _, _, n_plan l0.2.1 x1 x2, oN_plan (w := setI w 64 14 1) (hm.1.frR rfl rfl) l0.2.2 x1 x2, rfl, mI_nb (by omega), LI.no hB hc hm l0 ⟨by omega, by omega, by omega⟩⟩
  · have h0 := l.1.1
    have hk := l.2.2.1
    have ri := l.2.2.2.2.2.1.1.1
    have rn0 := l.2.2.2.2.2.1.1.2
    have hBb : 20 * (i : Int) < 2147483600 := by omega
    have b := l.fb (q := gCp s.1 (mI w 242)) (g0 := mI w 248) (S0 := mI w 247) hi rQ.cp
    obtain ⟨u, e1, q1⟩ := c_plan h0 b x1 x2
    have mx := l.mxu q1
    have hu : fU u H (gS1 H (mI w 247)) (gCp s.1 (mI w 242)) (gG0 (mI w 248)) := ⟨by rw [mx.2.1, q1.1.Iq (b := 242) (qP_n (by omega))], by rw [q1.1.Iq (b := 247) (qP_n (by omega))], by rw [q1.1.Iq (b := 248) (qP_n (by omega))]⟩
    obtain ⟨v, e2, q2⟩ := d_plan mx.1 mx.2.1 b hu x1 x2
    exact ⟨_, u, v, e1, e2, q1.1.q, q1.1.Iq (qP_n (by omega)), LI.ask hB hc hm l q1 q2 (by unfold A28; (repeat' split) <;> simp)⟩
theorem rL_planAt (hL : LI L i xs w) (hi : i < 512) (x1 : -2147483648 ≤ x) (x2 : x < 2147483648) (y1 : -2147483648 ≤ y) (y2 : y < 2147483648) : LR L i xs w 134 281 [(1, .inl x), (2, .inl y)] := by
  obtain ⟨hB, cnt, T, ft, pl, tr, hc, hm, ht, l0 | ⟨h, H, s, l⟩⟩ := hL
  · exact ⟨_, _, _, n_planAt l0.2.1 x1 x2 y1 y2, oN_planAt (w := setI w 64 14 1) (hm.1.frR rfl rfl) l0.2.2 x1 x2 y1 y2, rfl, mI_nb (by omega), LI.no hB hc hm l0 ⟨by omega, by omega, by omega⟩⟩
  · have h0 := l.1.1
    have hk := l.2.2.1
    have ri := l.2.2.2.2.2.1.1.1
    have rn0 := l.2.2.2.2.2.1.1.2
    have hBb : 20 * (i : Int) < 2147483600 := by omega
    have b := l.fb (q := gCp s.1 (mI w 242)) (g0 := mI w 248) (S0 := mI w 247) hi rQ.cp
    obtain ⟨u, e1, q1⟩ := c_planAt h0 b x1 x2 y1 y2
    have mx := l.mxu q1
    have hu : fU u H (gS1 H (mI w 247)) (gCp s.1 (mI w 242)) (gG0 (mI w 248)) := ⟨by rw [mx.2.1, q1.1.Iq (b := 242) (qP_n (by omega))], by rw [q1.1.Iq (b := 247) (qP_n (by omega))], by rw [q1.1.Iq (b := 248) (qP_n (by omega))]⟩
    obtain ⟨v, e2, q2⟩ := d_planAt mx.1 mx.2.1 b hu x1 x2 y1 y2
    exact ⟨_, u, v, e1, e2, q1.1.q, q1.1.Iq (qP_n (by omega)), LI.ask hB hc hm l q1 q2 (by unfold A29; (repeat' split) <;> simp)⟩
theorem rL_mean (hL : LI L i xs w) (hi : i < 512) (x1 : -2147483648 ≤ x) (x2 : x < 2147483648) (y1 : -2147483648 ≤ y) (y2 : y < 2147483648) (z1 : -2147483648 ≤ z) (z2 : z < 2147483648) : LR L i xs w 135 282 [(1, .inl x), (2, .inl y), (3, .inl z)] := by
  obtain ⟨hB, cnt, T, ft, pl, tr, hc, hm, ht, l0 | ⟨h, H, s, l⟩⟩ := hL
  · exact ⟨_, _, _, n_mean l0.2.1 x1 x2 y1 y2 z1 z2, oN_mean (w := setI w 64 14 1) (hm.1.frR rfl rfl) l0.2.2 x1 x2 y1 y2 z1 z2, rfl, mI_nb (by omega), LI.no hB hc hm l0 ⟨by omega, by omega, by omega⟩⟩
  · have h0 := l.1.1
    have hk := l.2.2.1
    have ri := l.2.2.2.2.2.1.1.1
    have rn0 := l.2.2.2.2.2.1.1.2
    have hBb : 20 * (i : Int) < 2147483600 := by omega
    have b := l.fb (q := gCp s.1 (mI w 242)) (g0 := mI w 248) (S0 := mI w 247) hi rQ.cp
    obtain ⟨u, e1, q1⟩ := c_mean h0 b x1 x2 y1 y2 z1 z2
    have mx := l.mxu q1
    have hu : fU u H (gS1 H (mI w 247)) (gCp s.1 (mI w 242)) (gG0 (mI w 248)) := ⟨by rw [mx.2.1, q1.1.Iq (b := 242) (qP_n (by omega))], by rw [q1.1.Iq (b := 247) (qP_n (by omega))], by rw [q1.1.Iq (b := 248) (qP_n (by omega))]⟩
    obtain ⟨v, e2, q2⟩ := d_mean mx.1 mx.2.1 b hu x1 x2 y1 y2 z1 z2
    exact ⟨_, u, v, e1, e2, q1.1.q, q1.1.Iq (qP_n (by omega)), LI.ask hB hc hm l q1 q2 (by unfold A30; (repeat' split) <;> simp)⟩
theorem rL_late (hL : LI L i xs w) (hi : i < 512) (x1 : -2147483648 ≤ x) (x2 : x < 2147483648) (y1 : -2147483648 ≤ y) (y2 : y < 2147483648) : LR L i xs w 136 283 [(1, .inl x), (2, .inl y)] := by
  obtain ⟨hB, cnt, T, ft, pl, tr, hc, hm, ht, l0 | ⟨h, H, s, l⟩⟩ := hL
  · exact ⟨_, _, _, n_late l0.2.1 x1 x2 y1 y2, oN_late (w := setI w 64 14 1) (hm.1.frR rfl rfl) l0.2.2 x1 x2 y1 y2, rfl, mI_nb (by omega), LI.no hB hc hm l0 ⟨by omega, by omega, by omega⟩⟩
  · have h0 := l.1.1
    have hk := l.2.2.1
    have ri := l.2.2.2.2.2.1.1.1
    have rn0 := l.2.2.2.2.2.1.1.2
    have hBb : 20 * (i : Int) < 2147483600 := by omega
    obtain ⟨u, e1, q1⟩ := c_late h0 hk ri x1 x2 y1 y2
    have mx := l.mxu q1
    obtain ⟨v, e2, q2⟩ := d_late mx.1 mx.2.1 hk ri x1 x2 y1 y2
    exact ⟨_, u, v, e1, e2, q1.1.q, q1.1.Iq (qP_n (by omega)), LI.ask hB hc hm l q1 q2 (by unfold A31; (repeat' split) <;> simp)⟩
theorem rL_kicks (hL : LI L i xs w) (hi : i < 512) : LR L i xs w 139 286 [] := by
  obtain ⟨hB, cnt, T, ft, pl, tr, hc, hm, ht, l0 | ⟨h, H, s, l⟩⟩ := hL
  · exact ⟨_, _, _, n_kicks l0.2.1, oN_kicks (w := setI w 64 14 1) (hm.1.frR rfl rfl) l0.2.2, rfl, mI_nb (by omega), LI.no hB hc hm l0 ⟨by omega, by omega, by omega⟩⟩
  · have h0 := l.1.1
    have hk := l.2.2.1
    have ri := l.2.2.2.2.2.1.1.1
    have rn0 := l.2.2.2.2.2.1.1.2
    have hBb : 20 * (i : Int) < 2147483600 := by omega
    obtain ⟨u, e1, q1⟩ := c_kicks h0 hk ri hBb
    have mx := l.mxu q1
    obtain ⟨v, e2, q2⟩ := d_kicks mx.1 mx.2.1 hk ri hBb
    exact ⟨_, u, v, e1, e2, q1.1.q, q1.1.Iq (qP_n (by omega)), LI.ask hB hc hm l q1 q2 ⟨by omega, by omega, by omega⟩⟩
theorem rL_inTime (hL : LI L i xs w) (hi : i < 512) : LR L i xs w 140 287 [] := by
  obtain ⟨hB, cnt, T, ft, pl, tr, hc, hm, ht, l0 | ⟨h, H, s, l⟩⟩ := hL
  · exact ⟨_, _, _, n_inTime l0.2.1, oN_inTime (w := setI w 64 14 1) (hm.1.frR rfl rfl) l0.2.2, rfl, mI_nb (by omega), LI.no hB hc hm l0 ⟨by omega, by omega, by omega⟩⟩
  · have h0 := l.1.1
    have hk := l.2.2.1
    have ri := l.2.2.2.2.2.1.1.1
    have rn0 := l.2.2.2.2.2.1.1.2
    have hBb : 20 * (i : Int) < 2147483600 := by omega
    obtain ⟨u, e1, q1⟩ := c_inTime h0 hk ri
    have mx := l.mxu q1
    obtain ⟨v, e2, q2⟩ := d_inTime mx.1 mx.2.1 hk ri
    exact ⟨_, u, v, e1, e2, q1.1.q, q1.1.Iq (qP_n (by omega)), LI.ask hB hc hm l q1 q2 (by unfold A33; (repeat' split) <;> simp)⟩
theorem rL_bestBand (hL : LI L i xs w) (hi : i < 512) : LR L i xs w 142 290 [] := by
  obtain ⟨hB, cnt, T, ft, pl, tr, hc, hm, ht, l0 | ⟨h, H, s, l⟩⟩ := hL
  · exact ⟨_, _, _, n_bestBand l0.2.1, oN_bestBand (w := setI w 64 14 1) (hm.1.frR rfl rfl) l0.2.2, rfl, mI_nb (by omega), LI.no hB hc hm l0 ⟨by omega, by omega, by omega⟩⟩
  · have h0 := l.1.1
    have hk := l.2.2.1
    have ri := l.2.2.2.2.2.1.1.1
    have rn0 := l.2.2.2.2.2.1.1.2
    have hBb : 20 * (i : Int) < 2147483600 := by omega
    obtain ⟨u, e1, q1⟩ := c_bestBand h0 hk ri
    have mx := l.mxu q1
    obtain ⟨v, e2, q2⟩ := d_bestBand mx.1 mx.2.1 hk ri
    exact ⟨_, u, v, e1, e2, q1.1.q, q1.1.Iq (qP_n (by omega)), LI.ask hB hc hm l q1 q2 (by unfold A34; (repeat' split) <;> simp)⟩
theorem rL_out (hL : LI L i xs w) (hi : i < 512) : LR L i xs w 143 291 [] := by
  obtain ⟨hB, cnt, T, ft, pl, tr, hc, hm, ht, l0 | ⟨h, H, s, l⟩⟩ := hL
  · exact ⟨_, _, _, n_out l0.2.1, oN_out (w := setI w 64 14 1) (hm.1.frR rfl rfl) l0.2.2, rfl, mI_nb (by omega), LI.no hB hc hm l0 ⟨by omega, by omega, by omega⟩⟩
  · have h0 := l.1.1
    have hk := l.2.2.1
    have ri := l.2.2.2.2.2.1.1.1
    have rn0 := l.2.2.2.2.2.1.1.2
    have hBb : 20 * (i : Int) < 2147483600 := by omega
    obtain ⟨u, e1, q1⟩ := c_out h0 hk ri
    have mx := l.mxu q1
    obtain ⟨v, e2, q2⟩ := d_out mx.1 mx.2.1 hk ri
    exact ⟨_, u, v, e1, e2, q1.1.q, q1.1.Iq (qP_n (by omega)), LI.ask hB hc hm l q1 q2 (by unfold A35; (repeat' split) <;> simp)⟩
theorem rL_fits (hL : LI L i xs w) (hi : i < 512) : LR L i xs w 144 292 [] := by
  obtain ⟨hB, cnt, T, ft, pl, tr, hc, hm, ht, l0 | ⟨h, H, s, l⟩⟩ := hL
  · exact ⟨_, _, _, n_fits l0.2.1, oN_fits (w := setI w 64 14 1) (hm.1.frR rfl rfl) l0.2.2, rfl, mI_nb (by omega), LI.no hB hc hm l0 ⟨by omega, by omega, by omega⟩⟩
  · have h0 := l.1.1
    have hk := l.2.2.1
    have ri := l.2.2.2.2.2.1.1.1
    have rn0 := l.2.2.2.2.2.1.1.2
    have hBb : 20 * (i : Int) < 2147483600 := by omega
    have b := l.fb (q := gCp s.1 (mI w 242)) (g0 := mI w 248) (S0 := mI w 247) hi rQ.cp
    have r0 := ri_S0 hk l.2.2.2.1 (B := 20 * (i : Int)) (by omega)
    have b0 : fB H (gS0 H) (gS1 H (mI w 247)) (gCp (gS0 H) (mI w 242)) (gG0 (mI w 248)) (20 * (i : Int)) := ⟨hk, fun k _ => l.2.2.2.2.1 k, r0.1, ⟨by omega, by omega⟩, fun k hk => if_pos (by omega), fun k hk => if_pos hk, rQ.cp⟩
    obtain ⟨u, e1, q1⟩ := c_fits l.1 hk l.2.2.2.1 b0 rQ.cp
    have mx := l.mxu q1
    have hu : fV u H (gS1 H (mI w 247)) (gCp (gS0 H) (mI w 242)) (gG0 (mI w 248)) := ⟨by rw [q1.1.Iq (b := 242) (qP_n (by omega))], by rw [q1.1.Iq (b := 247) (qP_n (by omega))], by rw [q1.1.Iq (b := 248) (qP_n (by omega))]⟩
    obtain ⟨v, e2, q2⟩ := d_fits mx.1 mx.2.1 hk l.2.2.2.1 b hu
    exact ⟨_, u, v, e1, e2, q1.1.q, q1.1.Iq (qP_n (by omega)), LI.ask hB hc hm l q1 q2 ⟨by omega, by omega, by omega⟩⟩
theorem rL_table (hL : LI L i xs w) (hi : i < 512) (x1 : -2147483648 ≤ x) (x2 : x < 2147483648) (y1 : -2147483648 ≤ y) (y2 : y < 2147483648) : LR L i xs w 165 307 [(1, .inl x), (2, .inl y)] := by
  obtain ⟨hB, cnt, T, ft, pl, tr, hc, hm, ht, l0 | ⟨h, H, s, l⟩⟩ := hL
  · exact ⟨_, _, _, n_table l0.2.1 x1 x2 y1 y2, oN_table (w := setI w 64 14 1) (hm.1.frR rfl rfl) l0.2.2 x1 x2 y1 y2, rfl, mI_nb (by omega), LI.no hB hc hm l0 ⟨by omega, by omega, by omega⟩⟩
  · have h0 := l.1.1
    have hk := l.2.2.1
    have ri := l.2.2.2.2.2.1.1.1
    have rn0 := l.2.2.2.2.2.1.1.2
    have hBb : 20 * (i : Int) < 2147483600 := by omega
    obtain ⟨u, e1, q1⟩ := c_table h0 hk x1 x2 y1 y2
    have mx := l.mxu q1
    obtain ⟨v, e2, q2⟩ := d_table mx.1 mx.2.1 hk x1 x2 y1 y2
    exact ⟨_, u, v, e1, e2, q1.1.q, q1.1.Iq (qP_n (by omega)), LI.ask hB hc hm l q1 q2 (by unfold A46; (repeat' split) <;> simp)⟩
theorem rL_steps (hL : LI L i xs w) (hi : i < 512) (x1 : -2147483648 ≤ x) (x2 : x < 2147483648) : LR L i xs w 166 308 [(1, .inl x)] := by
  obtain ⟨hB, cnt, T, ft, pl, tr, hc, hm, ht, l0 | ⟨h, H, s, l⟩⟩ := hL
  · exact ⟨_, _, _, n_steps l0.2.1 x1 x2, oN_steps (w := setI w 64 14 1) (hm.1.frR rfl rfl) l0.2.2 x1 x2, rfl, mI_nb (by omega), LI.no hB hc hm l0 ⟨by omega, by omega, by omega⟩⟩
  · have h0 := l.1.1
    have hk := l.2.2.1
    have ri := l.2.2.2.2.2.1.1.1
    have rn0 := l.2.2.2.2.2.1.1.2
    have hBb : 20 * (i : Int) < 2147483600 := by omega
    obtain ⟨u, e1, q1⟩ := c_steps h0 hk x1 x2
    have mx := l.mxu q1
    obtain ⟨v, e2, q2⟩ := d_steps mx.1 mx.2.1 hk x1 x2
    exact ⟨_, u, v, e1, e2, q1.1.q, q1.1.Iq (qP_n (by omega)), LI.ask hB hc hm l q1 q2 (by unfold A47; (repeat' split) <;> simp)⟩
theorem rL_dance (hL : LI L i xs w) (hi : i < 512) (x1 : -2147483648 ≤ x) (x2 : x < 2147483648) : LR L i xs w 147 294 [(1, .inl x)] := by
  obtain ⟨hB, cnt, T, ft, pl, tr, hc, hm, ht, l0 | ⟨h, H, s, l⟩⟩ := hL
  · exact ⟨_, _, _, n_dance l0.2.1 x1 x2, oN_dance (w := setI w 64 14 1) (hm.1.frR rfl rfl) l0.2.2 x1 x2, rfl, mI_nb (by omega), LI.no hB hc hm l0 ⟨by omega, by omega, by omega⟩⟩
  · have hk := l.2.2.1
    have ri := l.2.2.2.2.2.1.1.1
    have rq : ∀ j, j < s.2.1 → RI H (20 * (i : Int)) (s.2.2.1 j) := fun j hj => (l.2.2.2.2.2.1.2.2.1 j hj).1
    have rm : ∀ j, j < s.2.2.2.1 → RI H (20 * (i : Int)) (s.2.2.2.2 j) := fun j hj => (l.2.2.2.2.2.1.2.2.2.2 j hj).1
    have hBt : (i : Int) < 100000 := by omega
    have bd := l.fb (q := s.1) (g0 := mI w 248) (S0 := mI w 247) hi (fun k _ => rfl)
    obtain ⟨u, e1, q1⟩ := c_dance l.1 hBt bd x1 x2
    have mx := l.2.1.gw q1.2.1.gw l.2.2.2.2.2.2 (fun b hb => aP_n (by omega))
    have hS : gS1 H (mI w 247) = gS1 H (mI u 247) := by rw [q1.2.1.Iq (b := 247) (aP_n (by omega))]
    have hg : gG0 (mI w 248) = gG0 (mI u 248) := by rw [q1.2.1.Iq (b := 248) (aP_n (by omega))]
    obtain ⟨v, e2, q2⟩ := d_dance mx bd hS hg x1 x2
    exact ⟨_, u, v, e1, e2, q1.2.1.q, q1.2.1.Iq (aP_n (by omega)), LI.act hB hc hm l q1 q2 ((gs_37 bd l.2.2.2.2.2.1).mo (by omega)) (by omega) (by unfold A37; (repeat' split) <;> simp)⟩
theorem rL_lead (hL : LI L i xs w) (hi : i < 512) (x1 : -2147483648 ≤ x) (x2 : x < 2147483648) : LR L i xs w 152 296 [(1, .inl x)] := by
  obtain ⟨hB, cnt, T, ft, pl, tr, hc, hm, ht, l0 | ⟨h, H, s, l⟩⟩ := hL
  · exact ⟨_, _, _, n_lead l0.2.1 x1 x2, oN_lead (w := setI w 64 14 1) (hm.1.frR rfl rfl) l0.2.2 x1 x2, rfl, mI_nb (by omega), LI.no hB hc hm l0 ⟨by omega, by omega, by omega⟩⟩
  · have hk := l.2.2.1
    have ri := l.2.2.2.2.2.1.1.1
    have rq : ∀ j, j < s.2.1 → RI H (20 * (i : Int)) (s.2.2.1 j) := fun j hj => (l.2.2.2.2.2.1.2.2.1 j hj).1
    have rm : ∀ j, j < s.2.2.2.1 → RI H (20 * (i : Int)) (s.2.2.2.2 j) := fun j hj => (l.2.2.2.2.2.1.2.2.2.2 j hj).1
    have hBt : (i : Int) < 100000 := by omega
    obtain ⟨u, e1, q1⟩ := c_lead l.1 hBt ri x1 x2
    have mx := l.2.1.gw q1.2.1.gw l.2.2.2.2.2.2 (fun b hb => aP_n (by omega))
    obtain ⟨v, e2, q2⟩ := d_lead mx ri x1 x2
    exact ⟨_, u, v, e1, e2, q1.2.1.q, q1.2.1.Iq (aP_n (by omega)), LI.act hB hc hm l q1 q2 ((gs_38 l.2.2.2.2.2.1).mo (by omega)) (by omega) (by unfold A38; (repeat' split) <;> simp)⟩
theorem rL_change (hL : LI L i xs w) (hi : i < 512) (x1 : -2147483648 ≤ x) (x2 : x < 2147483648) (y1 : -2147483648 ≤ y) (y2 : y < 2147483648) : LR L i xs w 155 299 [(1, .inl x), (2, .inl y)] := by
  obtain ⟨hB, cnt, T, ft, pl, tr, hc, hm, ht, l0 | ⟨h, H, s, l⟩⟩ := hL
  · exact ⟨_, _, _, n_change l0.2.1 x1 x2 y1 y2, oN_change (w := setI w 64 14 1) (hm.1.frR rfl rfl) l0.2.2 x1 x2 y1 y2, rfl, mI_nb (by omega), LI.no hB hc hm l0 ⟨by omega, by omega, by omega⟩⟩
  · have hk := l.2.2.1
    have ri := l.2.2.2.2.2.1.1.1
    have rq : ∀ j, j < s.2.1 → RI H (20 * (i : Int)) (s.2.2.1 j) := fun j hj => (l.2.2.2.2.2.1.2.2.1 j hj).1
    have rm : ∀ j, j < s.2.2.2.1 → RI H (20 * (i : Int)) (s.2.2.2.2 j) := fun j hj => (l.2.2.2.2.2.1.2.2.2.2 j hj).1
    have hBt : (i : Int) < 100000 := by omega
    obtain ⟨u, e1, q1⟩ := c_change l.1 hBt ri x1 x2 y1 y2
    have mx := l.2.1.gw q1.2.1.gw l.2.2.2.2.2.2 (fun b hb => aP_n (by omega))
    obtain ⟨v, e2, q2⟩ := d_change mx ri x1 x2 y1 y2
    exact ⟨_, u, v, e1, e2, q1.2.1.q, q1.2.1.Iq (aP_n (by omega)), LI.act hB hc hm l q1 q2 ((gs_39 l.2.2.2.2.2.1).mo (by omega)) (by omega) (by unfold A39; (repeat' split) <;> simp)⟩
theorem rL_letGo (hL : LI L i xs w) (hi : i < 512) (x1 : -2147483648 ≤ x) (x2 : x < 2147483648) : LR L i xs w 156 301 [(1, .inl x)] := by
  obtain ⟨hB, cnt, T, ft, pl, tr, hc, hm, ht, l0 | ⟨h, H, s, l⟩⟩ := hL
  · exact ⟨_, _, _, n_letGo l0.2.1 x1 x2, oN_letGo (w := setI w 64 14 1) (hm.1.frR rfl rfl) l0.2.2 x1 x2, rfl, mI_nb (by omega), LI.no hB hc hm l0 ⟨by omega, by omega, by omega⟩⟩
  · have hk := l.2.2.1
    have ri := l.2.2.2.2.2.1.1.1
    have rq : ∀ j, j < s.2.1 → RI H (20 * (i : Int)) (s.2.2.1 j) := fun j hj => (l.2.2.2.2.2.1.2.2.1 j hj).1
    have rm : ∀ j, j < s.2.2.2.1 → RI H (20 * (i : Int)) (s.2.2.2.2 j) := fun j hj => (l.2.2.2.2.2.1.2.2.2.2 j hj).1
    have hBt : (i : Int) < 100000 := by omega
    obtain ⟨u, e1, q1⟩ := c_letGo l.1 hBt ri x1 x2
    have mx := l.2.1.gw q1.2.1.gw l.2.2.2.2.2.2 (fun b hb => aP_n (by omega))
    obtain ⟨v, e2, q2⟩ := d_letGo mx ri x1 x2
    exact ⟨_, u, v, e1, e2, q1.2.1.q, q1.2.1.Iq (aP_n (by omega)), LI.act hB hc hm l q1 q2 ((gs_40 l.2.2.2.2.2.1).mo (by omega)) (by omega) (by unfold A40; (repeat' split) <;> simp)⟩
theorem rL_band (hL : LI L i xs w) (hi : i < 512) (x1 : -2147483648 ≤ x) (x2 : x < 2147483648) (y1 : -2147483648 ≤ y) (y2 : y < 2147483648) : LR L i xs w 157 302 [(1, .inl x), (2, .inl y)] := by
  obtain ⟨hB, cnt, T, ft, pl, tr, hc, hm, ht, l0 | ⟨h, H, s, l⟩⟩ := hL
  · exact ⟨_, _, _, n_band l0.2.1 x1 x2 y1 y2, oN_band (w := setI w 64 14 1) (hm.1.frR rfl rfl) l0.2.2 x1 x2 y1 y2, rfl, mI_nb (by omega), LI.no hB hc hm l0 ⟨by omega, by omega, by omega⟩⟩
  · have hk := l.2.2.1
    have ri := l.2.2.2.2.2.1.1.1
    have rq : ∀ j, j < s.2.1 → RI H (20 * (i : Int)) (s.2.2.1 j) := fun j hj => (l.2.2.2.2.2.1.2.2.1 j hj).1
    have rm : ∀ j, j < s.2.2.2.1 → RI H (20 * (i : Int)) (s.2.2.2.2 j) := fun j hj => (l.2.2.2.2.2.1.2.2.2.2 j hj).1
    have hBt : (i : Int) < 100000 := by omega
    obtain ⟨u, e1, q1⟩ := c_band l.1 hBt hk ri x1 x2 y1 y2
    have mx := l.2.1.gw q1.2.1.gw l.2.2.2.2.2.2 (fun b hb => aP_n (by omega))
    obtain ⟨v, e2, q2⟩ := d_band mx hk ri x1 x2 y1 y2
    exact ⟨_, u, v, e1, e2, q1.2.1.q, q1.2.1.Iq (aP_n (by omega)), LI.act hB hc hm l q1 q2 ((gs_41 hk l.2.2.2.2.2.1).mo (by omega)) (by omega) (by unfold A41; (repeat' split) <;> simp)⟩
theorem rL_seed (hL : LI L i xs w) (hi : i < 512) (x1 : -2147483648 ≤ x) (x2 : x < 2147483648) : LR L i xs w 158 303 [(1, .inl x)] := by
  obtain ⟨hB, cnt, T, ft, pl, tr, hc, hm, ht, l0 | ⟨h, H, s, l⟩⟩ := hL
  · exact ⟨_, _, _, n_seed l0.2.1 x1 x2, oN_seed (w := setI w 64 14 1) (hm.1.frR rfl rfl) l0.2.2 x1 x2, rfl, mI_nb (by omega), LI.no hB hc hm l0 ⟨by omega, by omega, by omega⟩⟩
  · have hk := l.2.2.1
    have ri := l.2.2.2.2.2.1.1.1
    have rq : ∀ j, j < s.2.1 → RI H (20 * (i : Int)) (s.2.2.1 j) := fun j hj => (l.2.2.2.2.2.1.2.2.1 j hj).1
    have rm : ∀ j, j < s.2.2.2.1 → RI H (20 * (i : Int)) (s.2.2.2.2 j) := fun j hj => (l.2.2.2.2.2.1.2.2.2.2 j hj).1
    have hBt : (i : Int) < 100000 := by omega
    obtain ⟨u, e1, q1⟩ := c_seed l.1 ri x1 x2
    have mx := l.2.1.gw q1.2.1.gw l.2.2.2.2.2.2 (fun b hb => aP_n (by omega))
    obtain ⟨v, e2, q2⟩ := d_seed mx  x1 x2
    exact ⟨_, u, v, e1, e2, q1.2.1.q, q1.2.1.Iq (aP_n (by omega)), LI.act hB hc hm l q1 q2 ((gs_42 l.2.2.2.2.2.1).mo (by omega)) (by omega) (by unfold A42; (repeat' split) <;> simp)⟩
theorem rL_undo (hL : LI L i xs w) (hi : i < 512) : LR L i xs w 159 304 [] := by
  obtain ⟨hB, cnt, T, ft, pl, tr, hc, hm, ht, l0 | ⟨h, H, s, l⟩⟩ := hL
  · exact ⟨_, _, _, n_undo l0.2.1, oN_undo (w := setI w 64 14 6) (hm.1.frR rfl rfl) l0.2.2, rfl, mI_nb (by omega), LI.no hB hc hm l0 ⟨by omega, by omega, by omega⟩⟩
  · have hk := l.2.2.1
    have ri := l.2.2.2.2.2.1.1.1
    have rq : ∀ j, j < s.2.1 → RI H (20 * (i : Int)) (s.2.2.1 j) := fun j hj => (l.2.2.2.2.2.1.2.2.1 j hj).1
    have rm : ∀ j, j < s.2.2.2.1 → RI H (20 * (i : Int)) (s.2.2.2.2 j) := fun j hj => (l.2.2.2.2.2.1.2.2.2.2 j hj).1
    have hBt : (i : Int) < 100000 := by omega
    obtain ⟨u, e1, q1⟩ := c_undo l.1 hBt rq
    have mx := l.2.1.gw q1.2.1.gw l.2.2.2.2.2.2 (fun b hb => aP_n (by omega))
    obtain ⟨v, e2, q2⟩ := d_undo mx 
    exact ⟨_, u, v, e1, e2, q1.2.1.q, q1.2.1.Iq (aP_n (by omega)), LI.act hB hc hm l q1 q2 ((gs_43 l.2.2.2.2.2.1).mo (by omega)) (by omega) (by unfold A43; (repeat' split) <;> simp)⟩
theorem rL_mark (hL : LI L i xs w) (hi : i < 512) : LR L i xs w 162 305 [] := by
  obtain ⟨hB, cnt, T, ft, pl, tr, hc, hm, ht, l0 | ⟨h, H, s, l⟩⟩ := hL
  · exact ⟨_, _, _, n_mark l0.2.1, oN_mark (w := setI w 64 14 1) (hm.1.frR rfl rfl) l0.2.2, rfl, mI_nb (by omega), LI.no hB hc hm l0 ⟨by omega, by omega, by omega⟩⟩
  · have hk := l.2.2.1
    have ri := l.2.2.2.2.2.1.1.1
    have rq : ∀ j, j < s.2.1 → RI H (20 * (i : Int)) (s.2.2.1 j) := fun j hj => (l.2.2.2.2.2.1.2.2.1 j hj).1
    have rm : ∀ j, j < s.2.2.2.1 → RI H (20 * (i : Int)) (s.2.2.2.2 j) := fun j hj => (l.2.2.2.2.2.1.2.2.2.2 j hj).1
    have hBt : (i : Int) < 100000 := by omega
    obtain ⟨u, e1, q1⟩ := c_mark l.1 hBt
    have mx := l.2.1.gw q1.2.1.gw l.2.2.2.2.2.2 (fun b hb => aP_n (by omega))
    obtain ⟨v, e2, q2⟩ := d_mark mx 
    exact ⟨_, u, v, e1, e2, q1.2.1.q, q1.2.1.Iq (aP_n (by omega)), LI.act hB hc hm l q1 q2 ((gs_44 l.2.2.2.2.2.1).mo (by omega)) (by omega) (by unfold A44; (repeat' split) <;> simp)⟩
theorem rL_back (hL : LI L i xs w) (hi : i < 512) (x1 : -2147483648 ≤ x) (x2 : x < 2147483648) : LR L i xs w 164 306 [(1, .inl x)] := by
  obtain ⟨hB, cnt, T, ft, pl, tr, hc, hm, ht, l0 | ⟨h, H, s, l⟩⟩ := hL
  · exact ⟨_, _, _, n_back l0.2.1 x1 x2, oN_back (w := setI w 64 14 1) (hm.1.frR rfl rfl) l0.2.2 x1 x2, rfl, mI_nb (by omega), LI.no hB hc hm l0 ⟨by omega, by omega, by omega⟩⟩
  · have hk := l.2.2.1
    have ri := l.2.2.2.2.2.1.1.1
    have rq : ∀ j, j < s.2.1 → RI H (20 * (i : Int)) (s.2.2.1 j) := fun j hj => (l.2.2.2.2.2.1.2.2.1 j hj).1
    have rm : ∀ j, j < s.2.2.2.1 → RI H (20 * (i : Int)) (s.2.2.2.2 j) := fun j hj => (l.2.2.2.2.2.1.2.2.2.2 j hj).1
    have hBt : (i : Int) < 100000 := by omega
    obtain ⟨u, e1, q1⟩ := c_back l.1 hBt rm x1 x2
    have mx := l.2.1.gw q1.2.1.gw l.2.2.2.2.2.2 (fun b hb => aP_n (by omega))
    obtain ⟨v, e2, q2⟩ := d_back mx  x1 x2
    exact ⟨_, u, v, e1, e2, q1.2.1.q, q1.2.1.Iq (aP_n (by omega)), LI.act hB hc hm l q1 q2 ((gs_45 l.2.2.2.2.2.1).mo (by omega)) (by omega) (by unfold A45; (repeat' split) <;> simp)⟩
theorem rL_fault (hL : LI L i xs w) : LR L i xs w 63 214 [] := by
  have hz := hL.zz
  obtain ⟨hB, cnt, T, ft, pl, tr, hc, hm, ht, l⟩ := hL
  have s7 : mS w 64 = (1, 7, 0) := by
    rcases l with l0 | ⟨h, H, s, l⟩
    · exact l0.1.1.s
    · exact l.1.s64
  have s9 := hm.1.s0
  have c1 := hc.2.1
  have m1 := hm.2.2.2.2.1
  refine ⟨ft, w, setI w 238 0 0, ?_, ?_, rfl, rfl, hz⟩
  · simp (disch := omega) only [p63_0, p63_1, p63_4, jwd_c, jwd_0, Nat.reduceLeDiff, Nat.reduceEqDiff, Nat.reduceAdd, Nat.reduceSub, Nat.reduceMul, Int.reduceAdd, Int.reduceSub, Int.reduceMul, Int.reduceNeg, Int.reduceEq, Int.reduceLT, Int.reduceLE, jq_ldi_i, jq_ldl_l, jq_lda_a, jq_inc_i, jq_gs_t, jq_gsb_t, jq_gb_t, jq_gr_2, jq_gr_4, jq_gw_2, jq_s_t, jq_b_t, jg_c, jg_n, js_c, js_n, jrm_c, jrm_n, j2_i, j2_l, j2_a, jq_c_i, jq_c_l, jq_c_0, jq_c_n, jwd_le, jw_c0, mS_I, mS_R, mS_J, mN_I, mN_R, mN_J, mR_I, mI_R, mJ_I, mJ_R, mI_J, mR_J, ↓reduceIte, decide_true, or_true, true_or, and_self, false_or, or_false, reduceCtorEq, Bool.false_eq_true, and_false, false_and, eq_self, true_and, and_true, zero_ne, s7, c1]
  · simp (disch := omega) only [p214_0, p214_1, p214_2, p214_5, p214_6, p214_9, jwd_c, jwd_0, Nat.reduceLeDiff, Nat.reduceEqDiff, Nat.reduceAdd, Nat.reduceSub, Nat.reduceMul, Int.reduceAdd, Int.reduceSub, Int.reduceMul, Int.reduceNeg, Int.reduceEq, Int.reduceLT, Int.reduceLE, jq_ldi_i, jq_ldl_l, jq_lda_a, jq_inc_i, jq_gs_t, jq_gsb_t, jq_gb_t, jq_gr_2, jq_gr_4, jq_gw_2, jq_s_t, jq_b_t, jg_c, jg_n, js_c, js_n, jrm_c, jrm_n, j2_i, j2_l, j2_a, jq_c_i, jq_c_l, jq_c_0, jq_c_n, jwd_le, jw_c0, mS_I, mS_R, mS_J, mN_I, mN_R, mN_J, mR_I, mI_R, mJ_I, mJ_R, mI_J, mR_J, ↓reduceIte, decide_true, or_true, true_or, and_self, false_or, or_false, reduceCtorEq, Bool.false_eq_true, and_false, false_and, eq_self, true_and, and_true, zero_ne, s9, mI_nk, m1]
theorem rL_trouble (hL : LI L i xs w) : LR L i xs w 170 311 [] := by
  have hz := hL.zz
  obtain ⟨hB, cnt, T, ft, pl, tr, hc, hm, ht, l⟩ := hL
  have s7 : mS w 64 = (1, 7, 0) := by
    rcases l with l0 | ⟨h, H, s, l⟩
    · exact l0.1.1.s
    · exact l.1.s64
  have s9 := hm.1.s0
  have c1 := hc.2.2.2
  have m1 := hm.2.2.2.2.2.1
  refine ⟨tr, w, setI w 238 0 0, ?_, ?_, rfl, rfl, hz⟩
  · simp (disch := omega) only [p170_0, p170_1, p170_4, jwd_c, jwd_0, Nat.reduceLeDiff, Nat.reduceEqDiff, Nat.reduceAdd, Nat.reduceSub, Nat.reduceMul, Int.reduceAdd, Int.reduceSub, Int.reduceMul, Int.reduceNeg, Int.reduceEq, Int.reduceLT, Int.reduceLE, jq_ldi_i, jq_ldl_l, jq_lda_a, jq_inc_i, jq_gs_t, jq_gsb_t, jq_gb_t, jq_gr_2, jq_gr_4, jq_gw_2, jq_s_t, jq_b_t, jg_c, jg_n, js_c, js_n, jrm_c, jrm_n, j2_i, j2_l, j2_a, jq_c_i, jq_c_l, jq_c_0, jq_c_n, jwd_le, jw_c0, mS_I, mS_R, mS_J, mN_I, mN_R, mN_J, mR_I, mI_R, mJ_I, mJ_R, mI_J, mR_J, ↓reduceIte, decide_true, or_true, true_or, and_self, false_or, or_false, reduceCtorEq, Bool.false_eq_true, and_false, false_and, eq_self, true_and, and_true, zero_ne, s7, c1]
  · simp (disch := omega) only [p311_0, p311_1, p311_2, p311_5, p311_6, p311_9, jwd_c, jwd_0, Nat.reduceLeDiff, Nat.reduceEqDiff, Nat.reduceAdd, Nat.reduceSub, Nat.reduceMul, Int.reduceAdd, Int.reduceSub, Int.reduceMul, Int.reduceNeg, Int.reduceEq, Int.reduceLT, Int.reduceLE, jq_ldi_i, jq_ldl_l, jq_lda_a, jq_inc_i, jq_gs_t, jq_gsb_t, jq_gb_t, jq_gr_2, jq_gr_4, jq_gw_2, jq_s_t, jq_b_t, jg_c, jg_n, js_c, js_n, jrm_c, jrm_n, j2_i, j2_l, j2_a, jq_c_i, jq_c_l, jq_c_0, jq_c_n, jwd_le, jw_c0, mS_I, mS_R, mS_J, mN_I, mN_R, mN_J, mR_I, mI_R, mJ_I, mJ_R, mI_J, mR_J, ↓reduceIte, decide_true, or_true, true_or, and_self, false_or, or_false, reduceCtorEq, Bool.false_eq_true, and_false, false_and, eq_self, true_and, and_true, zero_ne, s9, mI_nk, m1]
theorem rL_where (hL : LI L i xs w) : LR L i xs w 64 215 [] := by
  have hz := hL.zz
  obtain ⟨hB, cnt, T, ft, pl, tr, hc, hm, ht, l⟩ := hL
  have s7 : mS w 64 = (1, 7, 0) := by
    rcases l with l0 | ⟨h, H, s, l⟩
    · exact l0.1.1.s
    · exact l.1.s64
  have s9 := hm.1.s0
  have c1 := hc.2.2.1
  have c2 := hc.2.2.2
  have m1 := hm.2.2.2.2.2.2
  refine ⟨if tr = 4 then pl else -1, w, setI w 238 0 0, ?_, ?_, rfl, rfl, hz⟩
  · by_cases q : tr = 4
    · rw [if_pos q]
      simp (disch := omega) only [p64_0, p64_1, p64_4, p64_5, p64_8, p64_9, p64_12, p64_15, p64_16, jwd_c, jwd_0, Nat.reduceLeDiff, Nat.reduceEqDiff, Nat.reduceAdd, Nat.reduceSub, Nat.reduceMul, Int.reduceAdd, Int.reduceSub, Int.reduceMul, Int.reduceNeg, Int.reduceEq, Int.reduceLT, Int.reduceLE, jq_ldi_i, jq_ldl_l, jq_lda_a, jq_inc_i, jq_gs_t, jq_gsb_t, jq_gb_t, jq_gr_2, jq_gr_4, jq_gw_2, jq_s_t, jq_b_t, jg_c, jg_n, js_c, js_n, jrm_c, jrm_n, j2_i, j2_l, j2_a, jq_c_i, jq_c_l, jq_c_0, jq_c_n, jwd_le, jw_c0, mS_I, mS_R, mS_J, mN_I, mN_R, mN_J, mR_I, mI_R, mJ_I, mJ_R, mI_J, mR_J, ↓reduceIte, decide_true, or_true, true_or, and_self, false_or, or_false, reduceCtorEq, Bool.false_eq_true, and_false, false_and, eq_self, true_and, and_true, zero_ne, ↓br_lt_t, ↓br_lt_f, ↓br_eq_t, ↓br_eq_f, ↓br_lz_t, ↓br_lz_f, ↓br_ez_t, ↓br_ez_f, ↓br_gz_t, ↓br_gz_f, jw_id, jin_t, jix_t, s7, c1, c2]
    · rw [if_neg q]
      simp (disch := omega) only [p64_0, p64_1, p64_4, p64_5, p64_8, p64_9, p64_12, p64_15, p64_16, jwd_c, jwd_0, Nat.reduceLeDiff, Nat.reduceEqDiff, Nat.reduceAdd, Nat.reduceSub, Nat.reduceMul, Int.reduceAdd, Int.reduceSub, Int.reduceMul, Int.reduceNeg, Int.reduceEq, Int.reduceLT, Int.reduceLE, jq_ldi_i, jq_ldl_l, jq_lda_a, jq_inc_i, jq_gs_t, jq_gsb_t, jq_gb_t, jq_gr_2, jq_gr_4, jq_gw_2, jq_s_t, jq_b_t, jg_c, jg_n, js_c, js_n, jrm_c, jrm_n, j2_i, j2_l, j2_a, jq_c_i, jq_c_l, jq_c_0, jq_c_n, jwd_le, jw_c0, mS_I, mS_R, mS_J, mN_I, mN_R, mN_J, mR_I, mI_R, mJ_I, mJ_R, mI_J, mR_J, ↓reduceIte, decide_true, or_true, true_or, and_self, false_or, or_false, reduceCtorEq, Bool.false_eq_true, and_false, false_and, eq_self, true_and, and_true, zero_ne, ↓br_lt_t, ↓br_lt_f, ↓br_eq_t, ↓br_eq_f, ↓br_lz_t, ↓br_lz_f, ↓br_ez_t, ↓br_ez_f, ↓br_gz_t, ↓br_gz_f, jw_id, jin_t, jix_t, s7, c1, c2]
  · simp (disch := omega) only [p215_0, p215_1, p215_2, p215_5, p215_6, p215_9, jwd_c, jwd_0, Nat.reduceLeDiff, Nat.reduceEqDiff, Nat.reduceAdd, Nat.reduceSub, Nat.reduceMul, Int.reduceAdd, Int.reduceSub, Int.reduceMul, Int.reduceNeg, Int.reduceEq, Int.reduceLT, Int.reduceLE, jq_ldi_i, jq_ldl_l, jq_lda_a, jq_inc_i, jq_gs_t, jq_gsb_t, jq_gb_t, jq_gr_2, jq_gr_4, jq_gw_2, jq_s_t, jq_b_t, jg_c, jg_n, js_c, js_n, jrm_c, jrm_n, j2_i, j2_l, j2_a, jq_c_i, jq_c_l, jq_c_0, jq_c_n, jwd_le, jw_c0, mS_I, mS_R, mS_J, mN_I, mN_R, mN_J, mR_I, mI_R, mJ_I, mJ_R, mI_J, mR_J, ↓reduceIte, decide_true, or_true, true_or, and_self, false_or, or_false, reduceCtorEq, Bool.false_eq_true, and_false, false_and, eq_self, true_and, and_true, zero_ne, s9, mI_nk, m1]
theorem rL_size (hL : LI L i xs w) (x1 : -2147483648 ≤ x) (x2 : x < 2147483648) : LR L i xs w 167 310 [(1, .inl x)] := by
  have hz := hL.zz
  obtain ⟨hB, cnt, T, ft, pl, tr, hc, hm, ht, l0 | ⟨h, H, s, l⟩⟩ := hL
  · exact ⟨_, _, _, n_size l0.2.1 hc.1.2.2.2.2.1 x1 x2, o_size hm.1 l0.2.2 hm.2.1 x1 x2, rfl, rfl, hz⟩
  · exact ⟨_, _, _, c_size l.1 l.2.2.1 l.2.2.2.2.2.1.1.1 hc.1.2.2.2.2.1 x1 x2, d_size l.2.1 l.2.2.1 hm.2.1 x1 x2, rfl, rfl, hz⟩
theorem rL_feed (hL : LI L i xs w) : LR L i xs w 11 174 [(1, .inl a), (2, .inl b), (3, .inl c), (4, .inl d), (5, .inl e)] := by
  have hz := hL.zz
  obtain ⟨hB, cnt, T, ft, pl, tr, hc, hm, ht, l⟩ := hL
  have s7 : mS w 64 = (1, 7, 0) ∧ mR w 64 0 = some 65 := by
    rcases l with l0 | ⟨h, H, s, l⟩
    · exact ⟨l0.1.1.s, l0.1.1.r0⟩
    · exact ⟨l.1.s64, l.1.1.r0⟩
  have sg := hc.1.2.2.2.2.1
  by_cases q : cnt + 20 ≤ 900
  · obtain ⟨u, e1, g1, f1⟩ := c_feed (a := a) (b := b) (c := c) (d := d) (e := e) s7.1 s7.2 sg q
    have np : ∀ b, (b < 65 ∨ 66 < b) → ¬ sP 65 b := fun b hb z => by unfold sP at z; omega
    obtain ⟨l1, l2, l3, l4, l5, l6, l7⟩ := hm.gw f1.gw (by have := hB.2.2.2.1; omega) (fun b hb => np b (by omega))
    obtain ⟨v, e2, g2, g3, f2, r2, i2⟩ := d_feed (a := a) (b := b) (c := c) (d := d) (e := e) l1 l2 q l4
    have lo : LO u v := f2.lo (fun b hb => by omega)
    have i1 : mI u 64 = mI w 64 := f1.Iq (np _ (by omega))
    have r1 : mR u 64 = mR w 64 := f1.Rq (np _ (by omega))
    refine ⟨_, u, v, e1, e2, f1.q, f1.Iq (np _ (by omega)), ((hB.fr f1 (np _ (by omega))).fr f2 (by omega)).up, cnt + 20, gFd T cnt a b c d e, ft, pl, tr, ?_, ?_, ht, ?_⟩
    · refine LIc.lo (w := u) ?_ lo
      obtain ⟨c1, c2, c3, c4⟩ := hc
      obtain ⟨p1, p2, p3, p4, p5, p6, p7, p8, p9⟩ := c1
      have r := f1.Rq (b := 101) (np _ (by omega))
      exact ⟨⟨by rw [f1.q]; exact p1, by rw [r]; exact p2, by rw [r]; exact p3, by rw [r]; exact p4, g1, fun k _ => gFd_bd p6 k, p7.fr f1 (fun x a b => np _ (by omega)), p8.imp (fun k h => h.imp (fun q h => h.fr f1 (np _ (by omega)) (np _ (by omega)))), p9.fr f1⟩, by rw [i1]; exact c2, by rw [i1]; exact c3, by rw [i1]; exact c4⟩
    · exact ⟨l1.frR f2.q r2, g2, q, g3, by rw [i2 14 (by omega) (by omega)]; exact l5, by rw [i2 1 (by omega) (by omega)]; exact l6, by rw [i2 2 (by omega) (by omega)]; exact l7⟩
    · rcases l with ⟨x1, x2, x3⟩ | ⟨h, H, s, x1, x2, x3, x4, x5, x6, x7⟩
      · exact Or.inl ⟨((x1.fr f1 (fun b hb => np _ (by omega)) r1).lo lo).mo (by omega), (x2.fr64 f1 (fun b hb => np _ (by omega)) r1 (by rw [i1])).lo lo, by rw [r2, f1.Rq (b := 238) (np _ (by omega))]; exact x3⟩
      · have mx := x2.gw f1.gw x7 (fun b hb => np b (by omega))
        have hge := mx.1.2.1.ge
        refine Or.inr ⟨h, H, s, ((x1.fr64 f1 (fun b hb => np _ (by omega)) r1 (by rw [i1])).lo lo).mo (by omega), mx.gw2 f2.gw (by rw [f1.2.1]; exact x7) (l1.frR f2.q r2) (fun b hb => by omega) (by rw [r2]) (i2 22 (by omega) (by omega)) (i2 23 (by omega) (by omega)), x3, x4, x5, x6.mo (by omega), by rw [f2.2.1, f1.2.1]; exact x7⟩
  · have c9 := hm.2.2.1
    exact ⟨_, _, _, c_feed0 s7.1 s7.2 sg (by omega), d_feed0 hm.1 hm.2.1 c9 (by omega), rfl, rfl, hz⟩
theorem OldB.gw (x : OldB h w u) (hh : h = 64 + mN w) (n : mN w ≤ mN u) : Gw hmP w u := ⟨n, fun b hb => x b (by omega)⟩
theorem rL_hall (hL : LI L i xs w) (hi : i < 512) (x1 : -2147483648 ≤ x) (x2 : x < 2147483648) : LR L i xs w 18 175 [(1, .inl x)] := by
  obtain ⟨hB, cnt, T, ft, pl, tr, hc, hm, ht, l⟩ := hL
  have cb : cB w i := by
    rcases l with l0 | ⟨h, H, s, l⟩
    · exact l0.1
    · exact l.1.cB
  have n0 := hB.2.2.2.1
  obtain ⟨c1, c2, c3, c4⟩ := hc
  by_cases q : x < 0 ∨ cnt < x
  · have f1 : Fr (fun b => b = 64) w (setI w 64 14 2) := Fr.I rfl
    have e1 := c_hall0 cb c1 x1 x2 q
    have i1 : ∀ k, k ≠ 14 → mI (setI w 64 14 2) 64 k = mI w 64 k := fun k hk => mI_nk hk
    have i14 : mI (setI w 64 14 2) 64 14 = 2 := mI_s _ _ _ _
    have r1 : mR (setI w 64 14 2) = mR w := rfl
    generalize setI w 64 14 2 = u at *
    obtain ⟨l1, l2, l3, l4, l5, l6, l7⟩ := hm.gw f1.gw (by omega) (fun b hb => by omega)
    have e2 := d_hall0 l1 l2 l3 x1 x2 q
    have f2 : Fr (fun b => b = 238) u (setI (setI (setI u 238 0 0) 238 1 2) 238 2 (-1)) := ((Fr.I (P := fun b => b = 238) rfl).tr (Fr.I rfl)).tr (Fr.I rfl)
    have i2 : ∀ k, k ≠ 0 → k ≠ 1 → k ≠ 2 → mI (setI (setI (setI u 238 0 0) 238 1 2) 238 2 (-1)) 238 k = mI u 238 k := fun k a b c => by rw [mI_nk c, mI_nk b, mI_nk a]
    have i3 : mI (setI (setI (setI u 238 0 0) 238 1 2) 238 2 (-1)) 238 1 = 2 := by rw [mI_nk (by omega), mI_s]
    have i4 : mI (setI (setI (setI u 238 0 0) 238 1 2) 238 2 (-1)) 238 2 = -1 := mI_s _ _ _ _
    have r2 : mR (setI (setI (setI u 238 0 0) 238 1 2) 238 2 (-1)) = mR u := rfl
    generalize setI (setI (setI u 238 0 0) 238 1 2) 238 2 (-1) = v at *
    have lo : LO u v := f2.lo (fun b hb => by omega)
    refine ⟨_, u, v, e1, e2, f1.q, f1.Iq (by omega), ((hB.fr f1 (by omega)).fr f2 (by omega)).up, cnt, T, ft, pl, 2, ?_, ?_, ⟨by omega, by omega⟩, ?_⟩
    · refine LIc.lo (w := u) ?_ lo
      exact ⟨c1.fr f1 (fun b hb z => by omega), by rw [i1 12 (by omega)]; exact c2, by rw [i1 13 (by omega)]; exact c3, i14⟩
    · exact ⟨l1.frR f2.q r2, by rw [i2 6 (by omega) (by omega) (by omega)]; exact l2, l3, by rw [f2.Iq (b := 239) (by omega)]; exact l4, by rw [i2 14 (by omega) (by omega) (by omega)]; exact l5, i3, by rw [if_neg (by omega)]; exact i4⟩
    · rcases l with ⟨x1, x2, x3⟩ | ⟨h, H, s, x1, x2, x3, x4, x5, x6, x7⟩
      · exact Or.inl ⟨((x1.fr f1 (fun b hb => by omega) (by rw [r1])).lo lo).mo (by omega), (x2.fr64 f1 (fun b hb => by omega) (by rw [r1]) (i1 11 (by omega))).lo lo, by rw [r2, r1]; exact x3⟩
      · have mx := x2.gw f1.gw x7 (fun b hb => by omega)
        have hge := mx.1.2.1.ge
        exact Or.inr ⟨h, H, s, ((x1.fr64 f1 (fun b hb => by omega) (by rw [r1]) (i1 11 (by omega))).lo lo).mo (by omega), mx.gw2 f2.gw (by rw [f1.2.1]; exact x7) (l1.frR f2.q r2) (fun b hb => by omega) (by rw [r2]) (i2 22 (by omega) (by omega) (by omega)) (i2 23 (by omega) (by omega) (by omega)), x3, x4, x5, x6.mo (by omega), by rw [f2.2.1, f1.2.1]; exact x7⟩
  · obtain ⟨n, hn⟩ : ∃ n : Nat, x = (n : Int) := ⟨x.toNat, by omega⟩
    subst hn
    have hnc : n ≤ cnt := by omega
    obtain ⟨u, Q1, f1, R1⟩ := c_hall cb c1 hnc
    have np : ∀ b, (b < 64 ∨ 238 ≤ b) → ¬ (64 ≤ b ∧ b < 238) := fun b hb z => by omega
    obtain ⟨l1, l2, l3, l4, l5, l6, l7⟩ := hm.gw f1.gw (by omega) (fun b hb => np b (by omega))
    have c6 := c1.2.2.2.2.2.1
    have sx : SX u := (c1.2.2.2.2.2.2.2.2).fr f1
    have nu : mN u = mN w := f1.2.1
    have ku : mK u = mK w := f1.2.2.1
    have hok : ∀ q H, gRead T n (n + 1) 0 gH0 = (.inl q, H) → HOK H ∧ HS H := fun q H e => by
      rcases R1 with ⟨q2, H2, e2, -, k1, k2, -⟩ | ⟨x, H2, e2, -⟩
      · rw [e2] at e
        cases e
        exact ⟨k1, k2⟩
      · rw [e2] at e
        cases e
    obtain ⟨v, m1, sv, nv, kv, ob, i6, R2⟩ := d_hall l1 (by omega) sx l2 l3 l4 c6 hnc hok
    have gv := ob.gw rfl (by omega)
    have lo : LO u v := ob.lo (by omega)
    have LBv : LB L (i + 1) xs v := by
      obtain ⟨y1, y2, y3, y4, y5, y6⟩ := hB.fr f1 (np _ (by omega))
      exact ⟨by rw [(lo 0 (by omega)).1]; exact y1, by rw [(lo 0 (by omega)).2.1]; exact y2, by rw [gv.s (by omega)]; exact y3, by omega, by omega, by omega⟩
    have b28 := read_28 (T := T) (n := n) (n + 1) 0 gH0 b28_0
    rcases R1 with ⟨q1, H1, g1, e1, ok, hs, cx, v12, v13, v14⟩ | ⟨e, H1, g1, e1, fh, r64, i64, v12, v13, v14⟩
    · rcases R2 with ⟨q2, H2, g2, e2, mx, w14, w1, w2⟩ | ⟨e', H2, g2, -⟩
      · rw [g1] at g2 b28
        cases g2
        have b28 : B28 H1 := b28
        refine ⟨_, u, v, e1, e2, f1.q, f1.Iq (np _ (by omega)), LBv, 0, T, 0, 0, 0, ?_, ?_, ⟨by omega, by omega⟩, Or.inr ⟨64 + mN u, H1, (gCp (gS0 H1) (mI u 241), 0, (fun _ _ => 0), 0, fun _ _ => 0), ?_, mx, ok, hs, b28, (gs_0 ok hs).mo (by omega), by omega⟩⟩
        · exact LIc.lo (w := u) ⟨Q1, v12, v13, v14⟩ lo
        · exact ⟨m1, i6, by omega, fun k hk => absurd hk (by omega), w14, w1, by rw [w2]; rfl⟩
        · refine (cX.mo ?_ (show (i : Int) ≤ ((i + 1 : Nat) : Int) by omega)).lo lo
          obtain ⟨⟨y1, y2, y3, y4, y5⟩, y6, y7, y8⟩ := cx
          have ra := (ri_S0 ok hs (B := 0) (by omega)).1.1.1
          exact ⟨⟨y1, y2, cr_gCp y3 (by omega) (by omega), y4, y5⟩, y6, y7, y8⟩
      · rw [g1] at g2
        cases g2
    · rcases R2 with ⟨q2, H2, g2, -⟩ | ⟨e', H2, g2, e2, v241, j22, j23, r3, w14, w1, w2⟩
      · rw [g1] at g2
        cases g2
      · rw [g1] at g2
        cases g2
        have nh : ∀ b, (b < 64 ∨ (84 ≤ b ∧ b ≤ 100) ∨ 104 ≤ b) → ¬ hlP b := fun b hb z => by unfold hlP at z; omega
        refine ⟨_, u, v, e1, e2, f1.q, f1.Iq (np _ (by omega)), LBv, 0, T, e.1, e.2, 4, ?_, ?_, ⟨by omega, by omega⟩, ?_⟩
        · exact LIc.lo (w := u) ⟨Q1, v12, v13, v14⟩ lo
        · exact ⟨m1, i6, by omega, fun k hk => absurd hk (by omega), w14, w1, by rw [w2]; rfl⟩
        · rcases l with ⟨x1, x2, x3⟩ | ⟨h, H, s, x1, x2, x3, x4, x5, x6, x7⟩
          · exact Or.inl ⟨((x1.fr fh (fun b hb => nh _ (by omega)) r64).lo lo).mo (by omega), (x2.fr64 fh (fun b hb => nh _ (by omega)) r64 (i64 11 (by omega) (by omega) (by omega))).lo lo, by rw [r3, f1.Rq (b := 238) (np _ (by omega))]; exact x3⟩
          · have mx := x2.gw f1.gw x7 (fun b hb => np b (by omega))
            have hge := mx.1.2.1.ge
            have mv : mX v h H s := by
              obtain ⟨⟨z1, z2, z3⟩, z4, z5, z6⟩ := mx
              refine ⟨⟨m1, z2.gw gv (by omega) (fun b hb z => by unfold hmP at z; omega), r3.trans z3⟩, v241.trans z4, ?_, ?_⟩
              · rw [j22, gv.i (b := 243) (by omega) (fun z => by unfold hmP at z; omega)]
                exact z5
              · rw [j23, gv.i (b := 244) (by omega) (fun z => by unfold hmP at z; omega)]
                exact z6
            exact Or.inr ⟨h, H, s, ((x1.fr64 fh (fun b hb => nh _ (by omega)) r64 (i64 11 (by omega) (by omega) (by omega))).lo lo).mo (by omega), mv, x3, x4, x5, x6.mo (by omega), by omega⟩
end CALLS
