/-! The class's cells stand when the model's change. -/
def LO (w u : jmW) : Prop := ∀ b, b < 238 → mS u b = mS w b ∧ mI u b = mI w b ∧ mR u b = mR w b
section LOW
variable {w u v : jmW} {H : Nat → Nat → Int} {a b c r n : Nat} {g : Nat → Nat → Int}
theorem LO.tr (x : LO w u) (y : LO u v) : LO w v := fun b hb => by
  obtain ⟨x1, x2, x3⟩ := x b hb
  obtain ⟨y1, y2, y3⟩ := y b hb
  exact ⟨y1.trans x1, y2.trans x2, y3.trans x3⟩
theorem Fr.lo {P : Nat → Prop} (f : Fr P w u) (hP : ∀ b, b < 238 → ¬ P b) : LO w u := fun b hb => ⟨by rw [f.q], f.Iq (hP b hb), f.Rq (hP b hb)⟩
theorem Sg.lo (h : Sg w a c r n g) (l : LO w u) (ha : a + 1 < 238) : Sg u a c r n g := by
  obtain ⟨l1, l2, l3⟩ := l a (by omega)
  obtain ⟨m1, m2, m3⟩ := l (a + 1) ha
  unfold Sg at h ⊢
  rw [l1, l2, l3, m1, m2]
  exact h
theorem exSl {c r : Nat} (h : ∃ n g, Sg w a c r n g) (l : LO w u) (ha : a + 1 < 238) : ∃ n g, Sg u a c r n g := by
  obtain ⟨n, g, s⟩ := h
  exact ⟨n, g, s.lo l ha⟩
theorem CR.lo {T : Nat} {c : Int} {q : Nat → Int} (h : CR w a T c q) (l : LO w u) (ha : a + 6 < 238) : CR u a T c q := by
  obtain ⟨l1, l2, l3⟩ := l a (by omega)
  obtain ⟨h1, h2, h3, h4, s1, s2, s3, h5⟩ := h
  refine ⟨by rw [l1]; exact h1, by rw [l3]; exact h2, by rw [l3]; exact h3, by rw [l3]; exact h4, s1.lo l (by omega), s2.lo l (by omega), s3.lo l (by omega), ?_⟩
  rw [l2]
  exact h5
theorem CH.lo (h : CH w b H) (l : LO w u) (hb : b + 16 < 238) : CH u b H := by
  obtain ⟨l1, l2, l3⟩ := l b (by omega)
  obtain ⟨h1, h2, h3, h4, h5, h6, h7, h8, h9, i1, i2, i3, i4, i5, i6, i7, i8, i9, i10, s1, s2, s3, s4, s5, s6, s7, s8⟩ := h
  refine ⟨by rw [l1]; exact h1, by rw [l3]; exact h2, by rw [l3]; exact h3, by rw [l3]; exact h4, by rw [l3]; exact h5, by rw [l3]; exact h6, by rw [l3]; exact h7, by rw [l3]; exact h8, by rw [l3]; exact h9, ?_⟩
  rw [l2]
  exact ⟨i1, i2, i3, i4, i5, i6, i7, i8, i9, i10, s1.lo l (by omega), s2.lo l (by omega), s3.lo l (by omega), s4.lo l (by omega), s5.lo l (by omega), s6.lo l (by omega), exSl s7 l (by omega), exSl s8 l (by omega)⟩
theorem HSx.lo (h : HSx w b) (l : LO w u) (hb : b + 16 < 238) : HSx u b := by
  obtain ⟨l1, l2, l3⟩ := l b (by omega)
  obtain ⟨h1, h2, h3, h4, h5, h6, h7, h8, h9, s1, s2, s3, s4, s5, s6, s7, s8⟩ := h
  exact ⟨by rw [l1]; exact h1, by rw [l3]; exact h2, by rw [l3]; exact h3, by rw [l3]; exact h4, by rw [l3]; exact h5, by rw [l3]; exact h6, by rw [l3]; exact h7, by rw [l3]; exact h8, by rw [l3]; exact h9, exSl s1 l (by omega), exSl s2 l (by omega), exSl s3 l (by omega), exSl s4 l (by omega), exSl s5 l (by omega), exSl s6 l (by omega), exSl s7 l (by omega), exSl s8 l (by omega)⟩
theorem CSh.lo {s n k T : Nat} {Q : Nat → Nat → Int} {Bt : Int} (h : CSh w s n k Q T Bt) (l : LO w u) (hs : s + 1 + 7 * n < 238) : CSh u s n k Q T Bt := by
  obtain ⟨bt, h1, h2, h3, h4, h5, h6, h7, h8, h9, h10⟩ := h
  obtain ⟨l1, l2, l3⟩ := l s (by omega)
  obtain ⟨m1, m2, m3⟩ := l (s + 1) (by omega)
  refine ⟨bt, by rw [l1]; exact h1, by rw [l3]; exact h2, by rw [m1]; exact h3, fun i hi => by rw [m3]; exact h4 i hi, by rw [l2]; exact h5, h6, by rw [l2]; exact h7, h8, fun i hi => ?_, fun i hi => ?_⟩
  · obtain ⟨T2, c2, r2, g⟩ := h9 i hi
    exact ⟨T2, c2, r2, g.lo l (by omega)⟩
  · have := Nat.mod_lt (bt + i) (show 0 < n by omega)
    exact (h10 i hi).lo l (by omega)
/-- the Future's cells, and the turns, without a Hall -/
def FBx (w : jmW) : Prop := mS w 118 = (1, 0, 0) ∧ mR w 118 0 = some 84 ∧ mR w 118 1 = some 119 ∧ mR w 118 2 = some 126 ∧ mR w 118 3 = some 128 ∧ mR w 118 4 = some 130 ∧ mR w 118 5 = some 132 ∧ mR w 118 6 = some 134 ∧ (∃ T c r, CR w 119 T c r) ∧ (∃ n q, Sg w 126 1 44 n q) ∧ (∃ n q, Sg w 128 1 44 n q) ∧ (∃ n q, Sg w 130 1 12 n q) ∧ (∃ n q, Sg w 132 1 48 n q) ∧ (∃ n q, Sg w 134 1 4 n q) ∧ TU w
theorem FB.x (h : FB w H) : FBx w := by
  obtain ⟨h1, h2, h3, h4, h5, h6, h7, h8, h9, h10, h11, h12, h13, h14, h15, h16, h17, h18⟩ := h
  exact ⟨h1, h2, h3, h4, h5, h6, h7, h8, h9, h10, h11, h12, h13, h14, h18⟩
theorem TU.lo (h : TU w) (l : LO w u) : TU u := by
  obtain ⟨l1, l2, l3⟩ := l 1 (by omega)
  unfold TU at h ⊢
  rw [l1, l2]
  exact h
theorem FBx.lo (h : FBx w) (l : LO w u) : FBx u := by
  obtain ⟨l1, l2, l3⟩ := l 118 (by omega)
  obtain ⟨h1, h2, h3, h4, h5, h6, h7, h8, ⟨T1, c1, r1, h9⟩, h10, h11, h12, h13, h14, h18⟩ := h
  exact ⟨by rw [l1]; exact h1, by rw [l3]; exact h2, by rw [l3]; exact h3, by rw [l3]; exact h4, by rw [l3]; exact h5, by rw [l3]; exact h6, by rw [l3]; exact h7, by rw [l3]; exact h8, ⟨T1, c1, r1, h9.lo l (by omega)⟩, exSl h10 l (by omega), exSl h11 l (by omega), exSl h12 l (by omega), exSl h13 l (by omega), exSl h14 l (by omega), h18.lo l⟩
theorem FB.lo (h : FB w H) (l : LO w u) : FB u H := by
  have x := h.x.lo l
  obtain ⟨h1, h2, h3, h4, h5, h6, h7, h8, h9, h10, h11, h12, h13, h14, h15, h16, h17, h18⟩ := h
  obtain ⟨g1, g2, g3, g4, g5, g6, g7, g8, g9, g10, g11, g12, g13, g14, g18⟩ := x
  exact ⟨g1, g2, g3, g4, g5, g6, g7, g8, g9, g10, g11, g12, g13, g14, h15.lo l (by omega), h16.lo l (by omega), h17.lo l (by omega), g18⟩
theorem oS.lo (h : oS w) (l : LO w u) : oS u := by
  obtain ⟨l1, l2, l3⟩ := l 231 (by omega)
  obtain ⟨h1, h2, h3, h4, h5, h6⟩ := h
  exact ⟨by rw [l1]; exact h1, by rw [l3]; exact h2, by rw [l3]; exact h3, exSl h4 l (by omega), exSl h5 l (by omega), exSl h6 l (by omega)⟩
theorem c64.lo (h : c64 w) (l : LO w u) : c64 u := by
  obtain ⟨l1, l2, l3⟩ := l 64 (by omega)
  unfold c64 at h ⊢
  rw [l1, l3]
  exact h
theorem SX.lo (h : SX w) (l : LO w u) : SX u := fun k hk => by
  rw [(l (2 + k) (by omega)).1]
  exact h k hk
theorem cX.lo {s : gSt} {Bt : Int} (h : cX w H s Bt) (l : LO w u) : cX u H s Bt := by
  obtain ⟨⟨h1, h2, h3, h4, h5⟩, h6, h7, h8⟩ := h
  exact ⟨⟨h1.lo l, by rw [(l 64 (by omega)).2.1]; exact h2, h3.lo l (by omega), h4.lo l, h5.lo l⟩, h6.lo l (by omega), h7.lo l (by omega), h8.lo l (by omega)⟩
theorem RQ.lo {T : Nat → Int} {cnt : Nat} (h : RQ w T cnt) (l : LO w u) : RQ u T cnt := by
  obtain ⟨h1, h2, h3, h4, h5, h6, h7, h8, h9⟩ := h
  obtain ⟨l1, l2, l3⟩ := l 101 (by omega)
  exact ⟨by rw [l1]; exact h1, by rw [l3]; exact h2, by rw [l3]; exact h3, by rw [l3]; exact h4, h5.lo l (by omega), h6, h7.lo l (by omega), exSl h8 l (by omega), h9.lo l⟩
/-- the class's cells, with a HALL or without -/
def cB (w : jmW) (Bt : Int) : Prop := c64 w ∧ HSx w 84 ∧ (∃ T c r, CR w 104 T c r) ∧ (∃ T c r, CR w 111 T c r) ∧ FBx w ∧ oS w ∧ (∃ k Q T, CSh w 136 10 k Q T Bt) ∧ (∃ k Q T, CSh w 208 3 k Q T Bt)
theorem cB.lo {Bt : Int} (h : cB w Bt) (l : LO w u) : cB u Bt := by
  obtain ⟨h1, h2, ⟨T1, c1, r1, h3⟩, ⟨T2, c2, r2, h4⟩, h5, h6, ⟨k1, Q1, T3, h7⟩, ⟨k2, Q2, T4, h8⟩⟩ := h
  exact ⟨h1.lo l, h2.lo l (by omega), ⟨T1, c1, r1, h3.lo l (by omega)⟩, ⟨T2, c2, r2, h4.lo l (by omega)⟩, h5.lo l, h6.lo l, ⟨k1, Q1, T3, h7.lo l (by omega)⟩, ⟨k2, Q2, T4, h8.lo l (by omega)⟩⟩
theorem CH.hs (h : CH w b H) : HSx w b := by
  obtain ⟨h1, h2, h3, h4, h5, h6, h7, h8, h9, i1, i2, i3, i4, i5, i6, i7, i8, i9, i10, s1, s2, s3, s4, s5, s6, s7, s8⟩ := h
  exact ⟨h1, h2, h3, h4, h5, h6, h7, h8, h9, ⟨_, _, s1⟩, ⟨_, _, s2⟩, ⟨_, _, s3⟩, ⟨_, _, s4⟩, ⟨_, _, s5⟩, ⟨_, _, s6⟩, s7, s8⟩
theorem cX.cB {s : gSt} {Bt : Int} (h : cX w H s Bt) : cB w Bt := by
  obtain ⟨⟨h1, h2, h3, h4, h5⟩, h6, h7, h8⟩ := h
  exact ⟨h1, h4.ch.hs, ⟨_, _, _, h6⟩, ⟨_, _, _, h3⟩, h4.x, h5, ⟨_, _, _, h7⟩, ⟨_, _, _, h8⟩⟩
end LOW
