/-! How far cells lie: ways from cell to open cell beside it, and rows that hold their lengths. -/
def Rch (H : Nat → Nat → Int) (Bk : Int → Prop) (f : Int) : Nat → Int → Prop
  | 0, c => c = f
  | n + 1, c => ∃ p s : Int, Rch H Bk f n p ∧ 0 ≤ s ∧ s < 4 ∧ gTo H p s = c ∧ gOpen H c ∧ ¬ Bk c
def gFrom (H : Nat → Nat → Int) (f : Int) : Prop := 0 ≤ f ∧ H 17 f.toNat < 2
def gDs (H : Nat → Nat → Int) (Bk : Int → Prop) (f c d : Int) : Prop := (gFrom H f ∧ ∃ n : Nat, d = n ∧ Rch H Bk f n c ∧ ∀ m, m < n → ¬ Rch H Bk f m c) ∨ (d = -2 ∧ ¬ (gFrom H f ∧ ∃ n, Rch H Bk f n c))
theorem ds_u {H : Nat → Nat → Int} {Bk : Int → Prop} {f c d e : Int} (h1 : gDs H Bk f c d) (h2 : gDs H Bk f c e) : d = e := by
  rcases h1 with ⟨a1, n, rfl, a2, a3⟩ | ⟨rfl, a1⟩
  · rcases h2 with ⟨b1, k, rfl, b2, b3⟩ | ⟨rfl, b1⟩
    · by_cases c1 : n < k
      · exact absurd a2 (b3 n c1)
      · by_cases c2 : k < n
        · exact absurd b2 (a3 k c2)
        · have : n = k := by omega
          rw [this]
    · exact absurd ⟨a1, n, a2⟩ b1
  · rcases h2 with ⟨b1, k, rfl, b2, b3⟩ | ⟨rfl, b1⟩
    · exact absurd ⟨b1, k, b2⟩ a1
    · rfl
noncomputable def gDist (H : Nat → Nat → Int) (Bk : Int → Prop) (f c : Int) : Int := Classical.epsilon (fun d : Int => gDs H Bk f c d)
theorem gDist_eq {H : Nat → Nat → Int} {Bk : Int → Prop} {f c d : Int} (h : gDs H Bk f c d) : gDist H Bk f c = d := ds_u (Classical.epsilon_spec (p := fun d : Int => gDs H Bk f c d) ⟨d, h⟩) h
theorem pg : ∀ (C n : Nat) (f : Nat → Nat), (∀ i, i < n → f i < C) → (∀ i j, i < j → j < n → f i ≠ f j) → n ≤ C := by
  intro C
  induction C with
  | zero =>
    intro n f h1 h2
    by_cases hn : n = 0
    · omega
    · have := h1 0 (by omega)
      omega
  | succ C ih =>
    intro n f h1 h2
    by_cases hn : n = 0
    · omega
    · by_cases hh : ∃ i0, i0 < n ∧ f i0 = C
      · obtain ⟨i0, q1, q2⟩ := hh
        have := ih (n - 1) (fun i => if i < i0 then f i else f (i + 1)) (by
          intro i hi
          show (if i < i0 then f i else f (i + 1)) < C
          split
          · rename_i z
            have a1 := h1 i (by omega)
            have a2 := h2 i i0 z q1
            omega
          · rename_i z
            have a1 := h1 (i + 1) (by omega)
            have a2 := h2 i0 (i + 1) (by omega) (by omega)
            omega) (by
          intro i j hij hj
          show (if i < i0 then f i else f (i + 1)) ≠ (if j < i0 then f j else f (j + 1))
          split
          · split
            · exact h2 i j hij (by omega)
            · exact h2 i (j + 1) (by omega) (by omega)
          · split
            · omega
            · exact h2 (i + 1) (j + 1) (by omega) (by omega))
        omega
      · have := ih n f (fun i hi => by
          have a1 := h1 i hi
          have a2 : f i ≠ C := fun z => hh ⟨i, hi, z⟩
          omega) h2
        omega
/-- what holds while cells are found, one after the other -/
def BI (H : Nat → Nat → Int) (Bk : Int → Prop) (f : Int) (F Q : Nat → Int) (m q s : Int) : Prop :=
  (1 ≤ m ∧ 0 ≤ q ∧ q ≤ m ∧ 0 ≤ s ∧ s ≤ 4 ∧ 0 ≤ f ∧ f < H 1 0 ∧ F f.toNat = 0) ∧
  (∀ j : Int, 0 ≤ j → j < m → 0 ≤ Q j.toNat ∧ Q j.toNat < H 1 0 ∧ 0 ≤ F (Q j.toNat).toNat ∧ F (Q j.toNat).toNat ≤ j) ∧
  (∀ c : Int, 0 ≤ c → c < H 1 0 → F c.toNat ≠ -2 → 0 ≤ F c.toNat ∧ Rch H Bk f (F c.toNat).toNat c ∧ ∃ j : Int, 0 ≤ j ∧ j < m ∧ Q j.toNat = c) ∧
  (∀ i j : Int, 0 ≤ i → i < j → j < m → Q i.toNat ≠ Q j.toNat ∧ F (Q i.toNat).toNat ≤ F (Q j.toNat).toNat) ∧
  (q < m → ∀ j : Int, 0 ≤ j → j < m → F (Q j.toNat).toNat ≤ F (Q q.toNat).toNat + 1) ∧
  (∀ j t : Int, 0 ≤ j → j ≤ q → j < m → 0 ≤ t → t < 4 → (j < q ∨ t < s) → gOpen H (gTo H (Q j.toNat) t) → ¬ Bk (gTo H (Q j.toNat) t) → F (gTo H (Q j.toNat) t).toNat ≠ -2 ∧ F (gTo H (Q j.toNat) t).toNat ≤ F (Q j.toNat).toNat + 1)
section DIST
variable {H : Nat → Nat → Int} {Bk : Int → Prop} {f : Int} {F Q : Nat → Int} {m q s : Int}
theorem BI.m48 (hk : HOK H) (b : BI H Bk f F Q m q s) : m ≤ H 1 0 := by
  obtain ⟨b1, b2, b3, b4, b5, b6⟩ := b
  have := pg (H 1 0).toNat m.toNat (fun i => (Q i).toNat) (fun i hi => by
    have := b2 i (by omega) (by omega)
    rw [Int.toNat_natCast] at this
    show (Q i).toNat < _
    omega) (fun i j hij hj => by
    have := (b4 i j (by omega) (by omega) (by omega)).1
    have c1 := b2 i (by omega) (by omega)
    have c2 := b2 j (by omega) (by omega)
    rw [Int.toNat_natCast] at this c1 c2
    rw [Int.toNat_natCast] at this
    show (Q i).toNat ≠ (Q j).toNat
    omega)
  omega
theorem BI.old (hk : HOK H) (b : BI H Bk f F Q m q s) (hq : q < m) (hs : s < 4) (hn : ¬ (gOpen H (gTo H (Q q.toNat) s) ∧ F (gTo H (Q q.toNat) s).toNat = -2 ∧ ¬ Bk (gTo H (Q q.toNat) s))) : BI H Bk f F Q m q (s + 1) := by
  obtain ⟨b1, b2, b3, b4, b5, b6⟩ := b
  refine ⟨by omega, b2, b3, b4, b5, fun j t j1 j2 j3 t1 t2 h o nb => ?_⟩
  by_cases z : j < q ∨ t < s
  · exact b6 j t j1 j2 j3 t1 t2 z o nb
  · have e1 : j = q := by omega
    have e2 : t = s := by omega
    subst e1 e2
    have hf : F (gTo H (Q j.toNat) t).toNat ≠ -2 := fun y => hn ⟨o, y, nb⟩
    have c1 := b2 j j1 j3
    have c2 := gTo_bd hk (s := t) c1.1 c1.2.1
    obtain ⟨-, -, k, k1, k2, k3⟩ := b3 _ (by have := o.1; omega) c2.2 hf
    have c3 := b5 hq k k1 k2
    rw [k3] at c3
    exact ⟨hf, c3⟩
theorem BI.next (b : BI H Bk f F Q m q 4) (hq : q < m) : BI H Bk f F Q m (q + 1) 0 := by
  obtain ⟨b1, b2, b3, b4, b5, b6⟩ := b
  refine ⟨by omega, b2, b3, b4, fun hq2 j j1 j2 => ?_, fun j t j1 j2 j3 t1 t2 h o nb => ?_⟩
  · have c1 := b5 hq j j1 j2
    have c2 := (b4 q (q + 1) (by omega) (by omega) hq2).2
    omega
  · exact b6 j t j1 (by omega) j3 t1 t2 (by omega) o nb
theorem BI.new (hk : HOK H) (b : BI H Bk f F Q m q s) (hq : q < m) (hs : s < 4) (o : gOpen H (gTo H (Q q.toNat) s)) (hn : F (gTo H (Q q.toNat) s).toNat = -2) (nb : ¬ Bk (gTo H (Q q.toNat) s)) : BI H Bk f (up1 F (gTo H (Q q.toNat) s).toNat (F (Q q.toNat).toNat + 1)) (up1 Q m.toNat (gTo H (Q q.toNat) s)) (m + 1) q (s + 1) := by
  have b0 := b
  obtain ⟨b1, b2, b3, b4, b5, b6⟩ := b
  have c1 := b2 q (by omega) hq
  have c2 := gTo_bd hk (s := s) c1.1 c1.2.1
  have c3 : gTo H (Q q.toNat) s ≠ -1 := o.1
  have c4 := (b3 (Q q.toNat) c1.1 c1.2.1 (by omega)).2.1
  have c6 : F (Q q.toNat).toNat + 1 ≤ m := by omega
  have hR : Rch H Bk f ((F (Q q.toNat).toNat + 1).toNat) (gTo H (Q q.toNat) s) := by
    have : (F (Q q.toNat).toNat + 1).toNat = (F (Q q.toNat).toNat).toNat + 1 := by omega
    rw [this]
    exact ⟨Q q.toNat, s, c4, by omega, hs, rfl, o, nb⟩
  have hb6 := b6
  generalize hd : gTo H (Q q.toNat) s = d at *
  -- an older one is another
  have k1 : ∀ j : Int, 0 ≤ j → j < m → Q j.toNat ≠ d := by
    intro j j1 j2 z
    have := b2 j j1 j2
    rw [z] at this
    omega
  have k2 : ∀ j : Int, 0 ≤ j → j < m → up1 Q m.toNat d j.toNat = Q j.toNat := fun j j1 j2 => up1_n (by omega)
  have k3 : ∀ j : Int, 0 ≤ j → j < m → up1 F d.toNat (F (Q q.toNat).toNat + 1) (Q j.toNat).toNat = F (Q j.toNat).toNat := by
    intro j j1 j2
    have := b2 j j1 j2
    have := k1 j j1 j2
    exact up1_n (by omega)
  have k4 : up1 Q m.toNat d m.toNat = d := up1_s _ _ _
  have k5 : up1 F d.toNat (F (Q q.toNat).toNat + 1) d.toNat = F (Q q.toNat).toNat + 1 := up1_s _ _ _
  have k6 : ∀ c : Int, 0 ≤ c → c ≠ d → up1 F d.toNat (F (Q q.toNat).toNat + 1) c.toNat = F c.toNat := fun c z1 z2 => up1_n (by omega)
  have hfd : f ≠ d := by
    intro z
    rw [← z] at hn
    omega
  refine ⟨?_, fun j j1 j2 => ?_, fun c z1 z2 z3 => ?_, fun i j i1 i2 i3 => ?_, fun _ j j1 j2 => ?_, fun j t j1 j2 j3 t1 t2 h o2 nb2 => ?_⟩
  · rw [k6 f (by omega) hfd]
    omega
  · by_cases z : j = m
    · subst z
      rw [k4, k5]
      omega
    · rw [k2 j j1 (by omega), k3 j j1 (by omega)]
      exact b2 j j1 (by omega)
  · by_cases z : c = d
    · subst z
      rw [k5]
      exact ⟨by omega, hR, m, by omega, by omega, k4⟩
    · rw [k6 c z1 z] at z3 ⊢
      obtain ⟨y1, y2, j, y3, y4, y5⟩ := b3 c z1 z2 z3
      exact ⟨y1, y2, j, y3, by omega, by rw [k2 j y3 y4]; exact y5⟩
  · by_cases z : j = m
    · subst z
      rw [k4, k5, k2 i i1 (by omega), k3 i i1 (by omega)]
      have y1 := b5 hq i i1 (by omega)
      exact ⟨k1 i i1 (by omega), y1⟩
    · rw [k2 i i1 (by omega), k3 i i1 (by omega), k2 j (by omega) (by omega), k3 j (by omega) (by omega)]
      exact b4 i j i1 i2 (by omega)
  · rw [k2 q (by omega) hq, k3 q (by omega) hq]
    by_cases z : j = m
    · subst z
      rw [k4, k5]
      omega
    · rw [k2 j j1 (by omega), k3 j j1 (by omega)]
      exact b5 hq j j1 (by omega)
  · have hj : j < m := by omega
    rw [k2 j j1 hj] at o2 nb2 ⊢
    rw [k3 j j1 hj]
    by_cases z : gTo H (Q j.toNat) t = d
    · rw [z, k5]
      refine ⟨by omega, ?_⟩
      by_cases y : j = q
      · rw [y]
        omega
      · -- it would have been found from there
        have : F (gTo H (Q j.toNat) t).toNat ≠ -2 := (b6 j t j1 (by omega) hj t1 t2 (by omega) o2 nb2).1
        rw [z] at this
        exact absurd hn this
    · have c7 := b2 j j1 hj
      have c8 := gTo_bd hk (s := t) c7.1 c7.2.1
      have c9 := o2.1
      rw [k6 _ (by omega) z]
      by_cases y : j < q ∨ t < s
      · exact b6 j t j1 (by omega) hj t1 t2 y o2 nb2
      · have e1 : j = q := by omega
        have e2 : t = s := by omega
        subst e1 e2
        exact absurd hd z
theorem Rch.ok (hk : HOK H) (hf : 0 ≤ f ∧ f < H 1 0) : ∀ (n : Nat) (c : Int), Rch H Bk f n c → 0 ≤ c ∧ c < H 1 0 := by
  intro n
  induction n with
  | zero => intro c h; rw [show c = f from h]; exact hf
  | succ n ih =>
    rintro c ⟨p, s, h1, h2, h3, h4, h5, h6⟩
    have c1 := ih p h1
    have c2 := gTo_bd hk (s := s) c1.1 c1.2
    have c3 := h5.1
    omega
theorem BI.done (hk : HOK H) (hF : gFrom H f) (b : BI H Bk f F Q m m 0) {c : Int} (h1 : 0 ≤ c) (h2 : c < H 1 0) : gDs H Bk f c (F c.toNat) := by
  obtain ⟨b1, b2, b3, b4, b5, b6⟩ := b
  have key : ∀ (n : Nat) (c : Int), Rch H Bk f n c → F c.toNat ≠ -2 ∧ F c.toNat ≤ n := by
    intro n
    induction n with
    | zero =>
      intro c h
      rw [show c = f from h]
      omega
    | succ n ih =>
      rintro c ⟨p, s, a1, a2, a3, a4, a5, a6⟩
      have d1 := ih p a1
      have d2 := Rch.ok hk (by omega) n p a1
      obtain ⟨-, -, j, j1, j2, j3⟩ := b3 p d2.1 d2.2 d1.1
      have d3 := b6 j s j1 (by omega) j2 a2 a3 (by omega)
      rw [j3, a4] at d3
      have d4 := d3 a5 a6
      omega
  by_cases z : F c.toNat = -2
  · rw [z]
    exact Or.inr ⟨rfl, fun ⟨_, n, hn⟩ => (key n c hn).1 z⟩
  · obtain ⟨y1, y2, -⟩ := b3 c h1 h2 z
    refine Or.inl ⟨hF, (F c.toNat).toNat, by omega, y2, fun k hk2 hk3 => ?_⟩
    have := (key k c hk3).2
    omega
/-- no way is longer than there are cells -/
theorem ds_48 (hk : HOK H) {c d : Int} (hf : f < H 1 0) (h : gDs H Bk f c d) : -2 ≤ d ∧ d < H 1 0 := by
  obtain ⟨k1, -⟩ := hk.1
  have kc := hk.1.2.2.2.2.2
  rcases h with ⟨a1, n, rfl, a2, a3⟩ | ⟨rfl, -⟩
  · -- at each shorter length lies a cell
    have hx : ∀ (n : Nat) (c : Int), Rch H Bk f n c → (∀ m, m < n → ¬ Rch H Bk f m c) → ∀ k, k ≤ n → ∃ e, Rch H Bk f k e ∧ ∀ m, m < k → ¬ Rch H Bk f m e := by
      intro n
      induction n with
      | zero =>
        intro c y1 y2 k y3
        have : k = 0 := by omega
        subst this
        exact ⟨c, y1, y2⟩
      | succ n ih =>
        intro c y1 y2 k y3
        by_cases z : k = n + 1
        · rw [z]
          exact ⟨c, y1, y2⟩
        · obtain ⟨p, s, x1, x2, x3, x4, x5, x6⟩ := y1
          exact ih p x1 (fun m hm hr => y2 (m + 1) (by omega) ⟨p, s, hr, x2, x3, x4, x5, x6⟩) k (by omega)
    have hx2 := hx n c a2 a3
    have hg : ∃ g : Nat → Int, ∀ k, k ≤ n → Rch H Bk f k (g k) ∧ ∀ m, m < k → ¬ Rch H Bk f m (g k) := by
      refine ⟨fun k => Classical.epsilon (fun e : Int => Rch H Bk f k e ∧ ∀ m, m < k → ¬ Rch H Bk f m e), fun k hk3 => ?_⟩
      exact Classical.epsilon_spec (hx2 k hk3)
    obtain ⟨g, hg⟩ := hg
    have hok : ∀ k, k ≤ n → 0 ≤ g k ∧ g k < H 1 0 := fun k hk3 => Rch.ok hk ⟨a1.1, hf⟩ k (g k) (hg k hk3).1
    have := pg (H 1 0).toNat (n + 1) (fun k => (g k).toNat) (fun i hi => by
      have := hok i (by omega)
      show (g i).toNat < _
      omega) (fun i j hij hj => by
      have o1 := hok i (by omega)
      have o2 := hok j (by omega)
      show (g i).toNat ≠ (g j).toNat
      intro z
      have z2 : g i = g j := by omega
      have y1 := (hg i (by omega)).1
      rw [z2] at y1
      exact (hg j (by omega)).2 i hij y1)
    omega
  · omega
end DIST
