/-! Every run of the small machine is a run of the machine. -/
def jm_isO (i : Nat) (ins : Instr) (pc : Nat) (lv : jmL) (st : List jmV) (w : jmW) (o : jmA) : Prop := match o with
  | .inl _ => True
  | .inr (.inl q) => (∃ idx j n z, ins = .invokevirtual idx ∧ jm_lk (jm_o i) idx = (1, j, n, z) ∧ jm_callv i j n (pc + 3) lv (st.take n).reverse (st.drop n) w = some (.inr (.inl q))) ∨ (∃ idx j n z, ins = .invokespecial idx ∧ jm_lk (jm_o i) idx = (3, j, n, z) ∧ jm_callv i j n (pc + 3) lv (st.take n).reverse (st.drop n) w = some (.inr (.inl q))) ∨ (∃ idx j n z, ins = .invokestatic idx ∧ jm_lk (jm_o i) idx = (2, j, n, z) ∧ jm_call i j n (pc + 3) lv (st.take n).reverse (st.drop n) w = some (.inr (.inl q)))
  | .inr (.inr r) => (ins = .ireturn ∧ ∃ x, st = [.inl x] ∧ jrok i x = true ∧ r = some (.inl x)) ∨ (ins = .lreturn ∧ ∃ x, st = [.inr (.inl x)] ∧ jm_r i = some .long ∧ r = some (.inr (.inl x))) ∨ (ins = .areturn ∧ ∃ x, st = [.inr (.inr x)] ∧ jm_r i = some (.object RX4) ∧ r = some (.inr (.inr x))) ∨ (ins = .return_ ∧ st = [] ∧ jm_r i = none ∧ r = none) ∨ ((∃ idx a b z, ins = .new idx ∧ jm_lk (jm_o i) idx = (14, a, b, z)) ∧ r = some (jvr 0))
theorem jbr_isO {i : Nat} {ins : Instr} {pc : Nat} {off : Int} {n : Nat} {b : Bool} {lv : jmL} {st st2 : List jmV} {w : jmW} {o : jmA} (h : jbr pc off n b lv st2 w = some o) : jm_isO i ins pc lv st w o := by
  unfold jbr jgo at h
  split at h
  · cases h
    exact trivial
  · cases h
set_option maxHeartbeats 2000000 in
theorem jm_ins_isO {i : Nat} {ins : Instr} {pc : Nat} {lv : jmL} {st : List jmV} {w : jmW} {o : jmA} (h : jm_ins i ins pc lv st w = some o) : jm_isO i ins pc lv st w o := by
  by_cases h1 : ∃ idx, ins = .invokevirtual idx
  · obtain ⟨idx, rfl⟩ := h1
    generalize hq : jm_lk (jm_o i) idx = r at h
    simp only [jm_ins, jgo, hq] at h
    split at h
    · rename_i j n z
      rcases o with g | q | r2
      · exact trivial
      · exact Or.inl ⟨idx, j, n, z, rfl, hq, h⟩
      · unfold jm_callv jm_call at h
        repeat' split at h
        all_goals cases h
    · split at h
      · cases h
        exact trivial
      · cases h
    · split at h
      · cases h
        exact trivial
      · cases h
    · cases h
  by_cases h2 : ∃ idx, ins = .invokespecial idx
  · obtain ⟨idx, rfl⟩ := h2
    generalize hq : jm_lk (jm_o i) idx = r at h
    simp only [jm_ins, jgo, hq] at h
    split at h
    · rename_i j n z
      rcases o with g | q | r2
      · exact trivial
      · exact Or.inr (Or.inl ⟨idx, j, n, z, rfl, hq, h⟩)
      · unfold jm_callv jm_call at h
        repeat' split at h
        all_goals cases h
    · split at h
      · cases h
        exact trivial
      · cases h
    · cases h
  by_cases h3 : ∃ idx, ins = .invokestatic idx
  · obtain ⟨idx, rfl⟩ := h3
    generalize hq : jm_lk (jm_o i) idx = r at h
    simp only [jm_ins, jgo, hq] at h
    split at h
    · rename_i j n z
      rcases o with g | q | r2
      · exact trivial
      · exact Or.inr (Or.inr ⟨idx, j, n, z, rfl, hq, h⟩)
      · unfold jm_call at h
        repeat' split at h
        all_goals cases h
    · split at h
      · cases h
        exact trivial
      · cases h
    · cases h
  by_cases h4 : ∃ idx, ins = .new idx
  · obtain ⟨idx, rfl⟩ := h4
    generalize hq : jm_lk (jm_o i) idx = r at h
    simp only [jm_ins, jgo, hq] at h
    split at h
    · split at h
      · cases h
        exact trivial
      · cases h
    · cases h
      exact Or.inr (Or.inr (Or.inr (Or.inr ⟨⟨idx, _, _, _, rfl, hq⟩, rfl⟩)))
    · cases h
  unfold jm_ins at h
  split at h
  all_goals (try simp only [jgo] at h)
  all_goals (try (repeat' split at h))
  all_goals first
    | exact jbr_isO h
    | (cases h; done)
    | (cases h; exact trivial)
    | (rename_i hr; cases h; exact Or.inl ⟨rfl, _, rfl, hr, rfl⟩)
    | (rename_i hr; cases h; exact Or.inr (Or.inl ⟨rfl, _, rfl, hr, rfl⟩))
    | (rename_i hr; cases h; exact Or.inr (Or.inr (Or.inl ⟨rfl, _, rfl, hr, rfl⟩)))
    | (rename_i hr; cases h; exact Or.inr (Or.inr (Or.inr (Or.inl ⟨rfl, rfl, hr, rfl⟩))))
    | exact absurd ⟨_, rfl⟩ h1
    | exact absurd ⟨_, rfl⟩ h2
    | exact absurd ⟨_, rfl⟩ h3
    | exact absurd ⟨_, rfl⟩ h4
theorem jm_step_inv {i : Nat} {f : jmF} {o : jmA} (h : jm_step i f = some o) : ∃ ins len, decode (jm_b i) f.1 = .ok (ins, len) ∧ jm_lenok ins len = true ∧ jm_ins i ins f.1 f.2.1 f.2.2.1 f.2.2.2 = some o := by
  unfold jm_step at h
  split at h
  · rename_i ins len hd
    split at h
    · rename_i hl
      exact ⟨ins, len, hd, hl, h⟩
    · cases h
  · cases h
theorem jm_callv_ni {i j n pc : Nat} {lv : jmL} {as rest : List jmV} {w : jmW} {g : jmF} (h : jm_callv i j n pc lv as rest w = some (.inl g)) : False := by
  unfold jm_callv jm_call at h
  repeat' split at h
  all_goals cases h
theorem jm_call_ni {i j n pc : Nat} {lv : jmL} {as rest : List jmV} {w : jmW} {g : jmF} (h : jm_call i j n pc lv as rest w = some (.inl g)) : False := by
  unfold jm_call at h
  repeat' split at h
  all_goals cases h
theorem jm_ln {b : ByteArray} {pc len n : Nat} {ins : Instr} (hd : decode b pc = .ok (ins, len)) (h : len = n) : decode b pc = .ok (ins, n) := h ▸ hd
theorem jm_call_inv {i j n pc j2 : Nat} {lv : jmL} {as rest as2 : List jmV} {w : jmW} {pc2 : Nat} {lv2 : jmL} {st2 : List jmV} {w2 : jmW} (h : jm_call i j n pc lv as rest w = some (.inr (.inl (j2, as2, (pc2, lv2, st2, w2))))) : j2 = j ∧ as2 = as ∧ pc2 = pc ∧ lv2 = lv ∧ st2 = rest ∧ as.length = n ∧ decide (jm_f j2 + 1 ≤ jm_f i ∧ 8 + (jm_m j2 + 11) + jm_l j2 ≤ jm_l i ∧ jwd st2 ≤ 8) = true ∧ jwd as2 ≤ jm_m j2 := by
  unfold jm_call at h
  split at h
  · rename_i hc
    cases h
    exact ⟨rfl, rfl, rfl, rfl, rfl, hc.1, hc.2.1, hc.2.2⟩
  · cases h
theorem jm_callv_inv {i j n pc : Nat} {lv : jmL} {as rest : List jmV} {w : jmW} {o : jmA} (h : jm_callv i j n pc lv as rest w = some o) : ∃ b t, rest = jvr b :: t ∧ mS w b = (1, jm_o j, 0) ∧ jm_call i j (n + 1) pc lv (jvr b :: as) t w = some o := by
  unfold jm_callv at h
  split at h
  · rename_i b t
    split at h
    · rename_i hS
      exact ⟨b, t, rfl, hS, h⟩
    · cases h
  · cases h
