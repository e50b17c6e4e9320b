/-! Calls: what a callee is, by the tables. -/
def jm_mfok (q : jmQ) : Bool := (q.2.1.1 != 1 && q.2.1.1 != 2 && q.2.1.1 != 3) || (decide (q.2.1.2.1 < 313) && (q.2.1.2.2.1 == jm_a q.2.1.2.1) && (jm_k q.2.1.2.1 == q.2.1.1 - 1) && (q.2.1.1 == 3 || q.2.2.2 == 0))
def jm_tf (q : jmQT) : Bool := decide ((parseMethodDescriptor q.1.desc).map (fun d => d.parameters.length) = some q.2.2.2.2.2.2.2.2) && plainFor q.1 && (q.1.cls != "java/lang/invoke/MethodHandle") && (q.1.cls != "java/lang/invoke/VarHandle") && decide (q.2.2.2.2.1 < 13) && (q.2.2.2.2.2.1 == 3 || (q.2.2.2.1 == none || q.2.2.2.1 == some .int || q.2.2.2.1 == some .boolean || q.2.2.2.1 == some .long || q.2.2.2.1 == some (.object RX4))) && (q.2.2.2.2.2.1 != 2 || q.2.2.2.1 == none)
theorem jm_tfa : jmT.all jm_tf = true := by decide +kernel
theorem jm_tln : jmT.length = 313 := by decide +kernel
theorem jm_mf_0 : jmK_0.all jm_mfok = true := by decide +kernel
theorem jm_mf_1 : jmK_1.all jm_mfok = true := by decide +kernel
theorem jm_mf_2 : jmK_2.all jm_mfok = true := by decide +kernel
theorem jm_mf_3 : jmK_3.all jm_mfok = true := by decide +kernel
theorem jm_mf_4 : jmK_4.all jm_mfok = true := by decide +kernel
theorem jm_mf_5 : jmK_5.all jm_mfok = true := by decide +kernel
theorem jm_mf_6 : jmK_6.all jm_mfok = true := by decide +kernel
theorem jm_mf_7 : jmK_7.all jm_mfok = true := by decide +kernel
theorem jm_mf_8 : jmK_8.all jm_mfok = true := by decide +kernel
theorem jm_mf_9 : jmK_9.all jm_mfok = true := by decide +kernel
theorem jm_mf_10 : jmK_10.all jm_mfok = true := by decide +kernel
theorem jm_mf_11 : jmK_11.all jm_mfok = true := by decide +kernel
theorem jm_mf_12 : jmK_12.all jm_mfok = true := by decide +kernel
theorem jm_rwat {j : Nat} (h : j < 313) : jmT[j]? = some (jm_rw j) := by
  have hl : j < jmT.length := by rw [jm_tln]; exact h
  unfold jm_rw
  rw [List.getD_eq_getElem?_getD, List.getElem?_eq_getElem hl]
  rfl
/-- what the tables say of a callee -/
def jm_calP (j : Nat) : Prop := (Cond.code (jm_y j) (jm_b j) (jm_m j) (jm_r j)) ∈ jm_all ∧ (Cond.initialized (jm_y j).cls) ∈ jm_all ∧ (jm_k j = 1 → (Cond.static (jm_y j)) ∈ jm_all) ∧ (jm_k j ≠ 1 → (Cond.instanceMethod (jm_y j)) ∈ jm_all) ∧ (jm_k j = 0 → (Cond.selects (jm_y j).cls (jm_y j) (jm_y j)) ∈ jm_all) ∧ (jm_k j = 2 → (jm_y j).name = "<init>") ∧ (jm_y j).cls = jm_own (jm_o j) ∧ (parseMethodDescriptor (jm_y j).desc).map (fun d => d.parameters.length) = some (jm_a j) ∧ plainFor (jm_y j) = true ∧ ((jm_y j).cls ≠ "java/lang/invoke/MethodHandle" ∧ (jm_y j).cls ≠ "java/lang/invoke/VarHandle") ∧ (jm_r j = none ∨ jm_r j = some .int ∨ jm_r j = some .boolean ∨ jm_r j = some .long ∨ jm_r j = some (.object RX4)) ∧ (jm_k j = 2 → jm_r j = none)
theorem jm_cal {j : Nat} (h : j < 313) (h3 : jm_k j < 3) : jm_calP j := by
  have hr := jm_rwat h
  have hm := List.mem_of_getElem? hr
  have ha := List.all_eq_true.mp jm_tfa _ hm
  have hb := List.all_eq_true.mp jm_to _ hm
  unfold jm_tf at ha
  simp only [Bool.and_eq_true, decide_eq_true_eq, bne_iff_ne, ne_eq, beq_iff_eq, Bool.or_eq_true] at ha
  simp only [Bool.and_eq_true, Bool.or_eq_true, beq_iff_eq] at hb
  have h3' : ¬ (jm_rw j).2.2.2.2.2.1 = 3 := by
    have : (jm_rw j).2.2.2.2.2.1 < 3 := h3
    omega
  have hb := hb.resolve_left h3'
  obtain ⟨p, hp⟩ := (jm_tz hr).resolve_left h3'
  obtain ⟨⟨⟨⟨⟨⟨a1, a2⟩, a3⟩, a4⟩, a5⟩, a6⟩, a7⟩ := ha
  obtain ⟨⟨⟨⟨b1, b2⟩, b3⟩, b4⟩, b5⟩ := hb
  have a6 := a6.resolve_left h3'
  unfold jm_tok at hp
  have hk : (jm_rw j).2.2.2.2.2.1 = 0 ∨ (jm_rw j).2.2.2.2.2.1 = 1 ∨ (jm_rw j).2.2.2.2.2.1 = 2 := by
    have : (jm_rw j).2.2.2.2.2.1 < 3 := h3
    omega
  have ret : jm_r j = none ∨ jm_r j = some .int ∨ jm_r j = some .boolean ∨ jm_r j = some .long ∨ jm_r j = some (.object RX4) := by
    rcases a6 with (((z | z) | z) | z) | z
    · exact Or.inl z
    · exact Or.inr (Or.inl z)
    · exact Or.inr (Or.inr (Or.inl z))
    · exact Or.inr (Or.inr (Or.inr (Or.inl z)))
    · exact Or.inr (Or.inr (Or.inr (Or.inr z)))
  have r2 : jm_k j = 2 → jm_r j = none := fun z => a7.resolve_left (fun y => y z)
  rcases hk with hk | hk | hk
  · simp only [hk, Bool.and_eq_true, decide_eq_true_eq] at hp
    obtain ⟨⟨⟨⟨c1, c2⟩, c3⟩, c4⟩, c5⟩ := hp
    have hkj : jm_k j = 0 := hk
    exact ⟨jm_at_in c1 b1, jm_at_in c2 b2, fun z => by omega, fun _ => jm_at_in c3 b3, fun _ => jm_at_in c4 b5, fun z => by omega, c5, a1, a2, ⟨a3, a4⟩, ret, r2⟩
  · simp only [hk, Bool.and_eq_true, decide_eq_true_eq] at hp
    obtain ⟨⟨⟨c1, c2⟩, c3⟩, c4⟩ := hp
    have hkj : jm_k j = 1 := hk
    exact ⟨jm_at_in c1 b1, jm_at_in c2 b2, fun _ => jm_at_in c3 b4, fun z => absurd hkj z, fun z => by omega, fun z => by omega, c4, a1, a2, ⟨a3, a4⟩, ret, r2⟩
  · simp only [hk, Bool.and_eq_true, decide_eq_true_eq] at hp
    obtain ⟨⟨⟨⟨c1, c2⟩, c3⟩, c4⟩, c5⟩ := hp
    have hkj : jm_k j = 2 := hk
    exact ⟨jm_at_in c1 b1, jm_at_in c2 b2, fun z => by omega, fun _ => jm_at_in c3 b3, fun z => by omega, fun _ => c4, c5, a1, a2, ⟨a3, a4⟩, ret, r2⟩
theorem jm_mf_in {o idx kd j n : Nat} {z : Int} (h : jm_lk o idx = (kd, j, n, z)) (hkd : kd = 1 ∨ kd = 2 ∨ kd = 3) : j < 313 ∧ n = jm_a j ∧ jm_k j = kd - 1 ∧ ((Cond.methodLink (jm_own o) idx (jm_y j)) ∈ jm_all ∨ (kd = 3 ∧ ∃ host, (Cond.methodLinkNest (jm_own o) idx (jm_y j) host) ∈ jm_all)) := by
  have key : ∀ (l : List jmQ), l.all jm_mfok = true → ∀ q, l.find? (fun q => q.1.2 == idx && q.1.1 == o) = some q → jm_mfok q = true := by
    intro l h1 q h3
    exact List.all_eq_true.mp h1 _ (List.mem_of_find?_eq_some h3)
  unfold jm_lk at h
  split at h
  · rename_i q hq
    have hk : jm_mfok q = true := by
      unfold jm_fq at hq
      match o, hq with
      | 0, hq => exact key jmK_0 jm_mf_0 q hq
      | 1, hq => exact key jmK_1 jm_mf_1 q hq
      | 2, hq => exact key jmK_2 jm_mf_2 q hq
      | 3, hq => exact key jmK_3 jm_mf_3 q hq
      | 4, hq => exact key jmK_4 jm_mf_4 q hq
      | 5, hq => exact key jmK_5 jm_mf_5 q hq
      | 6, hq => exact key jmK_6 jm_mf_6 q hq
      | 7, hq => exact key jmK_7 jm_mf_7 q hq
      | 8, hq => exact key jmK_8 jm_mf_8 q hq
      | 9, hq => exact key jmK_9 jm_mf_9 q hq
      | 10, hq => exact key jmK_10 jm_mf_10 q hq
      | 11, hq => exact key jmK_11 jm_mf_11 q hq
      | 12, hq => exact key jmK_12 jm_mf_12 q hq
      | z + 13, hq => exact absurd hq (by simp [jmK])
    obtain ⟨e1, e2, e3⟩ := jm_fq_in hq
    have hin : jm_lw q ∈ jm_all := by
      rcases e3 with e3 | e3
      · rw [h] at e3
        simp only at e3
        omega
      · exact List.mem_filter.mpr ⟨jm_tb_in _ _ (List.mem_of_getElem? e2), e3⟩
    unfold jm_mfok at hk
    simp only [h, Bool.and_eq_true, Bool.or_eq_true, decide_eq_true_eq, beq_iff_eq, bne_iff_ne, ne_eq] at hk
    have hk := hk.resolve_left (by omega)
    have f1 : q.1.1 = o := by rw [e1]
    have f2 : q.1.2 = idx := by rw [e1]
    obtain ⟨⟨⟨k1, k2⟩, k3⟩, k4⟩ := hk
    refine ⟨k1, k2, k3, ?_⟩
    unfold jm_lw at hin
    rcases hkd with rfl | rfl | rfl
    · simp only [h, f1, f2] at hin
      exact Or.inl hin
    · simp only [h, f1, f2] at hin
      exact Or.inl hin
    · simp only [h, f1, f2] at hin
      split at hin
      · exact Or.inl hin
      · exact Or.inr ⟨rfl, _, hin⟩
  · cases h
    omega
/-- worlds only grow -/
theorem jm_pf_grow {w w1 : jmW} {a ci k : Nat} {v : jmV} (h : jm_pf w a ci k v = some w1) : mN w1 = mN w ∧ mK w1 = mK w := by
  obtain ⟨-, h1, h2, -⟩ := jm_pf_spec (ad := fun z => z) h
  exact ⟨h1, h2⟩
def jm_grow (w : jmW) (o : jmA) : Prop := match o with
  | .inl g => mN w ≤ mN g.2.2.2 ∧ mK w ≤ mK g.2.2.2
  | .inr (.inl q) => q.2.2.2.2.2 = w
  | .inr (.inr _) => True
theorem jm_grow0 {w : jmW} {pc : Nat} {lv : jmL} {st : List jmV} : jm_grow w (.inl (pc, lv, st, w)) := ⟨Nat.le_refl _, Nat.le_refl _⟩
theorem jbr_grow {pc : Nat} {off : Int} {n : Nat} {b : Bool} {lv : jmL} {st : List jmV} {w : jmW} {o : jmA} (h : jbr pc off n b lv st w = some o) : jm_grow w o := by
  unfold jbr jgo at h
  split at h
  · cases h
    exact jm_grow0
  · cases h
theorem jm_call_grow {i j n pc : Nat} {lv : jmL} {as rest : List jmV} {w : jmW} {o : jmA} (h : jm_call i j n pc lv as rest w = some o) : jm_grow w o := by
  unfold jm_call at h
  split at h
  · cases h
    rfl
  · cases h
theorem jm_callv_grow {i j n pc : Nat} {lv : jmL} {as rest : List jmV} {w : jmW} {o : jmA} (h : jm_callv i j n pc lv as rest w = some o) : jm_grow w o := by
  unfold jm_callv at h
  split at h
  · split at h
    · exact jm_call_grow h
    · cases h
  · cases h
set_option maxHeartbeats 2000000 in
theorem jm_ins_grow {i : Nat} {ins : Instr} {pc : Nat} {lv : jmL} {st : List jmV} {w : jmW} {o : jmA} (h : jm_ins i ins pc lv st w = some o) : jm_grow w o := by
  unfold jm_ins at h
  split at h
  all_goals (try simp only [jgo] at h)
  all_goals (try (repeat' split at h))
  all_goals first
    | exact jbr_grow h
    | exact jm_call_grow h
    | exact jm_callv_grow h
    | (cases h; done)
    | (cases h; exact jm_grow0)
    | (cases h; exact trivial)
    | (cases h; exact ⟨Nat.le_refl _, Nat.le_refl _⟩)
    | (cases h; exact ⟨Nat.le_succ _, Nat.le_add_right _ _⟩)
    | (cases h; rename_i hp; obtain ⟨g1, g2⟩ := jm_pf_grow hp; exact ⟨Nat.le_of_eq g1.symm, Nat.le_of_eq g2.symm⟩)
theorem jm_step_grow {i : Nat} {f : jmF} {o : jmA} (h : jm_step i f = some o) : jm_grow f.2.2.2 o := by
  unfold jm_step at h
  split at h
  · split at h
    · exact jm_ins_grow h
    · cases h
  · cases h
theorem jm_ex_grow : ∀ (n i : Nat) (f : jmF) (r : Option jmV) (w1 : jmW), jm_ex n i f = some (r, w1) → mN f.2.2.2 ≤ mN w1 ∧ mK f.2.2.2 ≤ mK w1 := by
  intro n
  induction n with
  | zero => intro i f r w1 h; cases h
  | succ n ih =>
    intro i f r w1 h
    rw [jm_ex] at h
    split at h
    · rename_i g hq
      have h2 := ih i g r w1 h
      unfold jm_nx at hq
      split at hq
      · rename_i g2 hs
        cases hq
        have h1 := jm_step_grow hs
        exact ⟨Nat.le_trans h1.1 h2.1, Nat.le_trans h1.2 h2.2⟩
      · rename_i j as g2 hs
        have h1 : g2.2.2.2 = f.2.2.2 := jm_step_grow hs
        split at hq
        · rename_i r3 w3 hc
          split at hq
          · cases hq
          cases hq
          have h3 := ih _ _ _ _ hc
          simp only at h3 h2
          rw [h1] at h3
          exact ⟨Nat.le_trans h3.1 h2.1, Nat.le_trans h3.2 h2.2⟩
        · cases hq
      · cases hq
      · cases hq
    · rename_i r2 hq
      cases h
      exact ⟨Nat.le_refl _, Nat.le_refl _⟩
    · cases h
