/-! The class: a Sheet by lines and columns. -/
def Sg (w : jmW) (a c r n : Nat) (g : Nat → Nat → Int) : Prop :=
  mS w a = (1, 5, 0) ∧ mS w (a + 1) = (2, 0, r * c) ∧ mR w a 0 = some (a + 1) ∧ mI w a 1 = c ∧ mI w a 2 = r ∧ mI w a 3 = n ∧ n ≤ r ∧ 1 ≤ c ∧ r * c ≤ 5000 ∧ ∀ i j, i < n → j < c → mI w (a + 1) (i * c + j) = g i j
theorem Fr.q {P : Nat → Prop} {w u : jmW} (h : Fr P w u) : mS u = mS w := h.1
theorem Fr.Iq {P : Nat → Prop} {w u : jmW} (h : Fr P w u) {b : Nat} (hb : ¬ P b) : mI u b = mI w b := (h.2.2.2 b hb).1
theorem Fr.Rq {P : Nat → Prop} {w u : jmW} (h : Fr P w u) {b : Nat} (hb : ¬ P b) : mR u b = mR w b := (h.2.2.2 b hb).2.1
/-- a Sheet's two cells -/
def sP (a : Nat) : Nat → Prop := fun b => a ≤ b ∧ b ≤ a + 1
section SG
variable {w u : jmW} {a c r n : Nat} {g : Nat → Nat → Int}
theorem Sg.fr {P : Nat → Prop} (h : Sg w a c r n g) (hf : Fr P w u) (h1 : ¬ P a) (h2 : ¬ P (a + 1)) : Sg u a c r n g := by
  unfold Sg at h ⊢
  rw [hf.q, hf.Iq h1, hf.Iq h2, hf.Rq h1]
  exact h
theorem Sg.mk2 {g2 : Nat → Nat → Int} (h : Sg w a c r n g) (h2 : ∀ i j, i < n → j < c → g i j = g2 i j) : Sg w a c r n g2 := by
  obtain ⟨h1, h2', h3, h4, h5, h6, h7, h8, h9, h10⟩ := h
  exact ⟨h1, h2', h3, h4, h5, h6, h7, h8, h9, fun i j hi hj => (h10 i j hi hj).trans (h2 i j hi hj)⟩
theorem Sg.sh (h : Sg w a c r n g) : Sh w a c r ((List.range (n * c)).map (mI w (a + 1))) n := by
  obtain ⟨h1, h2, h3, h4, h5, h6, h7, h8, h9, h10⟩ := h
  refine ⟨h1, h2, h3, h4, h5, h6, by simp, h7, h8, h9, fun k hk => ?_⟩
  rw [List.length_map, List.length_range] at hk
  rw [List.getD_eq_getElem?_getD, List.getElem?_map, List.getElem?_range hk]
  rfl
theorem Sg.D (h : Sg w a c r n g) {k : Nat} (hk : k < n * c) : ((List.range (n * c)).map (mI w (a + 1))).getD k 0 = mI w (a + 1) k := by
  rw [List.getD_eq_getElem?_getD, List.getElem?_map, List.getElem?_range hk]
  rfl
theorem sg_count (h : Sg w a c r n g) : rn 12 (0, [(0, jvr a)], [], w) = some (some (.inl n), w) := sh_count h.sh
theorem sg_get (h : Sg w a c r n g) {l k : Int} (hl1 : -2147483648 ≤ l) (hl2 : l < 2147483648) (hk1 : -2147483648 ≤ k) (hk2 : k < 2147483648) : rn 23 (0, [(0, jvr a), (1, .inl l), (2, .inl k)], [], w) = some (some (.inl (if 0 ≤ l ∧ l < n ∧ 0 ≤ k ∧ k < c then g l.toNat k.toNat else 0)), w) := by
  rw [sh_get h.sh hl1 hl2 hk1 hk2]
  by_cases q : 0 ≤ l ∧ l < n ∧ 0 ≤ k ∧ k < c
  · rw [if_pos q, if_pos q, h.D (idx_lt (by omega) (by omega)), h.2.2.2.2.2.2.2.2.2 _ _ (by omega) (by omega)]
  · rw [if_neg q, if_neg q]
theorem sg_in (h : Sg w a c r n g) {l k : Int} (hl1 : 0 ≤ l) (hl2 : l < n) (hk1 : 0 ≤ k) (hk2 : k < c) : rn 23 (0, [(0, jvr a), (1, .inl l), (2, .inl k)], [], w) = some (some (.inl (g l.toNat k.toNat)), w) := by
  have b := h.sh.bd
  have h7 := h.2.2.2.2.2.2.1
  rw [sg_get h (by omega) (by omega) (by omega) (by omega), if_pos ⟨hl1, hl2, hk1, hk2⟩]
theorem sg_out (h : Sg w a c r n g) {l k : Int} (hl1 : -2147483648 ≤ l) (hl2 : l < 2147483648) (hk1 : -2147483648 ≤ k) (hk2 : k < 2147483648) (hn : l < 0 ∨ (n : Int) ≤ l) : rn 23 (0, [(0, jvr a), (1, .inl l), (2, .inl k)], [], w) = some (some (.inl 0), w) := by
  rw [sg_get h hl1 hl2 hk1 hk2, if_neg (by omega)]
theorem Sg.put (h : Sg w a c r n g) {l k : Nat} (hl : l < n) (hk : k < c) {v : Int} : Sg (setI w (a + 1) (l * c + k) v) a c r n (fun i j => if i = l ∧ j = k then v else g i j) := by
  obtain ⟨h1, h2, h3, h4, h5, h6, h7, h8, h9, h10⟩ := h
  have e : mI (setI w (a + 1) (l * c + k) v) a = mI w a := mI_nb (by omega)
  refine ⟨h1, h2, h3, by rw [e]; exact h4, by rw [e]; exact h5, by rw [e]; exact h6, h7, h8, h9, fun i j hi hj => ?_⟩
  show _ = if i = l ∧ j = k then v else g i j
  by_cases q : i = l ∧ j = k
  · rw [if_pos q, q.1, q.2, mI_s]
  · rw [if_neg q, mI_nk ?_]
    · exact h10 i j hi hj
    · intro z
      have hc : 0 < c := by omega
      have d1 : (i * c + j) / c = i := by
        rw [Nat.mul_comm, Nat.mul_add_div hc, Nat.div_eq_of_lt hj, Nat.add_zero]
      have d2 : (l * c + k) / c = l := by
        rw [Nat.mul_comm, Nat.mul_add_div hc, Nat.div_eq_of_lt hk, Nat.add_zero]
      rw [z, d2] at d1
      subst d1
      exact q ⟨rfl, by omega⟩
theorem sg_put (h : Sg w a c r n g) {l k v : Int} (hl1 : 0 ≤ l) (hl2 : l < n) (hk1 : 0 ≤ k) (hk2 : k < c) : ∃ u, rn 17 (0, [(0, jvr a), (1, .inl l), (2, .inl k), (3, .inl v)], [], w) = some (none, u) ∧ Sg u a c r n (fun i j => if i = l.toNat ∧ j = k.toNat then v else g i j) ∧ Fr (sP a) w u := by
  have b := h.sh.bd
  have h7 := h.2.2.2.2.2.2.1
  refine ⟨setI w (a + 1) (l.toNat * c + k.toNat) v, ?_, h.put (by omega) (by omega), Fr.I ⟨by omega, by omega⟩⟩
  rw [sh_put h.sh (by omega) (by omega) (by omega) (by omega), if_pos ⟨hl1, hl2, hk1, hk2⟩]
theorem sg_putx (h : Sg w a c r n g) {l k v : Int} (hl1 : -2147483648 ≤ l) (hl2 : l < 2147483648) (hk1 : -2147483648 ≤ k) (hk2 : k < 2147483648) (hn : l < 0 ∨ (n : Int) ≤ l) : rn 17 (0, [(0, jvr a), (1, .inl l), (2, .inl k), (3, .inl v)], [], w) = some (none, w) := by
  rw [sh_put h.sh hl1 hl2 hk1 hk2, if_neg (by omega)]
theorem Sg.S (h : Sg w a c r n g) {m : Nat} {f : Nat → Int} {g2 : Nat → Nat → Int} (hm : m ≤ r) (hf : ∀ i j, i < m → j < c → f (i * c + j) = g2 i j) : Sg (shS w a m f) a c r m g2 := by
  obtain ⟨h1, h2, h3, h4, h5, h6, h7, h8, h9, h10⟩ := h
  have e : ∀ k, mI (shS w a m f) a k = mI (setI w a 3 m) a k := fun k => congrFun (mI_nA (by omega)) k
  refine ⟨h1, h2, h3, ?_, ?_, ?_, hm, h8, h9, fun i j hi hj => ?_⟩
  · rw [e, mI_nk (by omega)]; exact h4
  · rw [e, mI_nk (by omega)]; exact h5
  · rw [e, mI_s]
  · rw [show mI (shS w a m f) (a + 1) = f from mI_A _ _ _]
    exact hf i j hi hj
theorem Fr.Sp {m : Nat} {f : Nat → Int} : Fr (sP a) w (shS w a m f) := (Fr.I ⟨by omega, by omega⟩).tr (Fr.A ⟨by omega, by omega⟩)
theorem sg_push (h : Sg w a c r n g) (hn : n < r) {v : Int} : ∃ u, rn 14 (0, [(0, jvr a), (1, .inl v)], [], w) = some (none, u) ∧ Sg u a c r (n + 1) (fun i j => if i < n then g i j else if j = 0 then v else 0) ∧ Fr (sP a) w u := by
  obtain ⟨f, e, hf⟩ := sh_push (v := v) h.sh hn
  have h8 := h.2.2.2.2.2.2.2.1
  refine ⟨_, e, h.S (by omega) (fun i j hi hj => ?_), Fr.Sp⟩
  rw [hf _ (idx_lt hi hj)]
  show _ = if i < n then g i j else if j = 0 then v else 0
  by_cases q : i < n
  · rw [if_pos (idx_lt q hj), if_pos q, h.D (idx_lt q hj)]
    exact h.2.2.2.2.2.2.2.2.2 i j q hj
  · have : i = n := by omega
    subst this
    rw [if_neg (show ¬ i * c + j < i * c by omega), if_neg q]
    by_cases q2 : j = 0
    · rw [if_pos q2, if_pos (by omega)]
    · rw [if_neg q2, if_neg (by omega)]
theorem sg_insert (h : Sg w a c r n g) (hn : n < r) {l : Int} (l1 : 0 ≤ l) (l2 : l ≤ n) : ∃ u, rn 15 (0, [(0, jvr a), (1, .inl l)], [], w) = some (none, u) ∧ Sg u a c r (n + 1) (fun i j => if i < l.toNat then g i j else if i = l.toNat then 0 else g (i - 1) j) ∧ Fr (sP a) w u := by
  obtain ⟨L, rfl⟩ := Int.eq_ofNat_of_zero_le l1
  obtain ⟨f, e, hf⟩ := sh_insert (L := L) h.sh hn (by omega)
  have h8 := h.2.2.2.2.2.2.2.1
  refine ⟨_, e, h.S (by omega) (fun i j hi hj => ?_), Fr.Sp⟩
  rw [hf _ (idx_lt hi hj)]
  show _ = if i < L then g i j else if i = L then 0 else g (i - 1) j
  by_cases q : i < L
  · rw [if_pos (idx_lt q hj), if_pos q, h.D (idx_lt (by omega) hj)]
    exact h.2.2.2.2.2.2.2.2.2 i j (by omega) hj
  · have q0 : L * c ≤ i * c := Nat.mul_le_mul_right c (by omega)
    rw [if_neg (by omega), if_neg q]
    by_cases q2 : i = L
    · subst q2
      rw [if_pos (idx_lt (by omega) hj), if_pos rfl]
    · have q3 : (L + 1) * c ≤ i * c := Nat.mul_le_mul_right c (by omega)
      have q4 : i * c + j - c = (i - 1) * c + j := by
        obtain ⟨m, rfl⟩ : ∃ m, i = m + 1 := ⟨i - 1, by omega⟩
        rw [Nat.add_mul, Nat.add_sub_cancel]
        omega
      rw [if_neg (by omega), if_neg q2, q4, h.D (idx_lt (by omega) hj)]
      exact h.2.2.2.2.2.2.2.2.2 (i - 1) j (by omega) hj
theorem sg_drop (h : Sg w a c r (n + 1) g) {l : Int} (l1 : 0 ≤ l) (l2 : l ≤ n) : ∃ u, rn 100 (0, [(0, jvr a), (1, .inl l)], [], w) = some (none, u) ∧ Sg u a c r n (fun i j => if i < l.toNat then g i j else g (i + 1) j) ∧ Fr (sP a) w u := by
  obtain ⟨L, rfl⟩ := Int.eq_ofNat_of_zero_le l1
  obtain ⟨f, e, hf⟩ := sh_drop (L := L) h.sh (by omega)
  have h7 := h.2.2.2.2.2.2.1
  refine ⟨_, e, h.S (by omega) (fun i j hi hj => ?_), Fr.Sp⟩
  rw [hf _ (idx_lt hi hj)]
  show _ = if i < L then g i j else g (i + 1) j
  by_cases q : i < L
  · rw [if_pos (idx_lt q hj), if_pos q, h.D (idx_lt (by omega) hj)]
    exact h.2.2.2.2.2.2.2.2.2 i j (by omega) hj
  · have q0 : L * c ≤ i * c := Nat.mul_le_mul_right c (by omega)
    have q4 : i * c + j + c = (i + 1) * c + j := by
      rw [Nat.add_mul]
      omega
    rw [if_neg (by omega), if_neg q, q4, h.D (idx_lt (by omega) hj)]
    exact h.2.2.2.2.2.2.2.2.2 (i + 1) j (by omega) hj
theorem sg_cut (h : Sg w a c r n g) {m : Int} (m1 : 0 ≤ m) (m2 : m ≤ n) : ∃ u, rn 4 (0, [(0, jvr a), (1, .inl m)], [], w) = some (none, u) ∧ Sg u a c r m.toNat g ∧ Fr (sP a) w u := by
  have b := h.sh.bd
  have h7 := h.2.2.2.2.2.2.1
  have e := sh_cut (x := m) h.sh (by omega) (by omega)
  rw [if_neg (by omega), show min m (n : Int) = ((m.toNat : Nat) : Int) by omega] at e
  refine ⟨_, e, ?_, Fr.I ⟨by omega, by omega⟩⟩
  obtain ⟨h1, h2, h3, h4, h5, h6, h7, h8, h9, h10⟩ := h
  refine ⟨h1, h2, h3, by rw [mI_nk (by omega)]; exact h4, by rw [mI_nk (by omega)]; exact h5, mI_s _ _ _ _, by omega, h8, h9, fun i j hi hj => ?_⟩
  rw [mI_nb (by omega)]
  exact h10 i j (by omega) hj
theorem sg_blank (h : Sg w a c r n g) {m v : Int} (m1 : 0 ≤ m) (m2 : m ≤ r) : ∃ u, rn 56 (0, [(0, jvr a), (1, .inl m), (2, .inl v)], [], w) = some (none, u) ∧ Sg u a c r m.toNat (fun _ _ => v) ∧ Fr (sP a) w u := by
  obtain ⟨f, e, hf⟩ := sh_blank (v := v) h.sh m1 m2
  exact ⟨_, e, h.S (by omega) (fun i j hi hj => hf _ (idx_lt hi hj)), Fr.Sp⟩
theorem sg_copy {b r2 m : Nat} {g2 : Nat → Nat → Int} (h : Sg w a c r n g) (h2 : Sg w b c r2 m g2) (hm : m ≤ r) (hab : a ≠ b) : ∃ u, rn 54 (0, [(0, jvr a), (1, jvr b)], [], w) = some (none, u) ∧ Sg u a c r m g2 ∧ Fr (sP a) w u := by
  obtain ⟨f, e, hf⟩ := sh_copy h.sh h2.sh hm hab
  refine ⟨_, e, h.S hm (fun i j hi hj => ?_), Fr.Sp⟩
  rw [hf _ (idx_lt hi hj), h2.D (idx_lt hi hj)]
  exact h2.2.2.2.2.2.2.2.2.2 i j hi hj
end SG
