/-! The steps that read and write the world, walked by the machine. -/
def jm_tyP (t : FieldType) : Prop := t = .int ∨ t = .boolean ∨ t = .long ∨ (∃ C, t = .object C) ∨ ∃ u, t = .array u
theorem jm_tz_0 (k : Nat) : jm_tyP (tyX0 k) := by
  unfold tyX0 jm_tyP
  split <;> simp
theorem jm_tz_1 (k : Nat) : jm_tyP (tyX1 k) := by
  unfold tyX1 jm_tyP
  split <;> simp
theorem jm_tz_2 (k : Nat) : jm_tyP (tyX2 k) := by
  unfold tyX2 jm_tyP
  split <;> simp
theorem jm_tz_3 (k : Nat) : jm_tyP (tyX3 k) := by
  unfold tyX3 jm_tyP
  split <;> simp
theorem jm_tz_4 (k : Nat) : jm_tyP (tyX4 k) := by
  unfold tyX4 jm_tyP
  split <;> simp
theorem jm_tz_5 (k : Nat) : jm_tyP (tyX5 k) := by
  unfold tyX5 jm_tyP
  split <;> simp
theorem jm_tz_6 (k : Nat) : jm_tyP (tyX6 k) := by
  unfold tyX6 jm_tyP
  split <;> simp
theorem jm_tz_7 (k : Nat) : jm_tyP (tyX7 k) := by
  unfold tyX7 jm_tyP
  split <;> simp
theorem jm_tz_8 (k : Nat) : jm_tyP (tyX8 k) := by
  unfold tyX8 jm_tyP
  split <;> simp
theorem jm_tz_9 (k : Nat) : jm_tyP (tyX9 k) := by
  unfold tyX9 jm_tyP
  split <;> simp
theorem jm_tys0 (ci k : Nat) : jm_tyP (jm_ty ci k) := by
  unfold jm_ty
  match ci with
  | 0 => exact jm_tz_0 k
  | 1 => exact jm_tz_1 k
  | 2 => exact jm_tz_2 k
  | 3 => exact jm_tz_3 k
  | 4 => exact jm_tz_4 k
  | 5 => exact jm_tz_5 k
  | 6 => exact jm_tz_6 k
  | 7 => exact jm_tz_7 k
  | 8 => exact jm_tz_8 k
  | 9 => exact jm_tz_9 k
  | z + 10 => exact jm_tz_0 k
theorem jm_pf_spec {ad : Nat → Nat} {w w1 : jmW} {a ci k : Nat} {v : jmV} (h : jm_pf w a ci k v = some w1) : mS w1 = mS w ∧ mN w1 = mN w ∧ mK w1 = mK w ∧ (∀ b, b ≠ a → mI w1 b = mI w b) ∧ (∀ b, b ≠ a → mR w1 b = mR w b) ∧ (∀ b, b ≠ a → mJ w1 b = mJ w b) ∧ (∀ j, jm_fd w1 a ci j = if j = k then v else jm_fd w a ci j) ∧ narrow (jm_ty ci k) (jem ad v) = jem ad v ∧ fits (jm_ty ci k) (jem ad v) = true := by
  have off : ∀ {α : Type} (f : Nat → Nat → α) (x : α) (b : Nat), b ≠ a → up2 f a k x b = f b := by
    intro α f x b hb
    funext j
    exact if_neg (fun z => hb z.1)
  have at1 : ∀ {α : Type} (f : Nat → Nat → α) (x : α), up2 f a k x a k = x := by
    intro α f x
    exact if_pos ⟨rfl, rfl⟩
  have at2 : ∀ {α : Type} (f : Nat → Nat → α) (x : α) (j : Nat), j ≠ k → up2 f a k x a j = f a j := by
    intro α f x j hj
    exact if_neg (fun z => hj z.2)
  have fdI : ∀ x j, j ≠ k → jm_fd (setI w a k x) a ci j = jm_fd w a ci j := by
    intro x j hj
    unfold jm_fd
    have e : mI (setI w a k x) a j = mI w a j := at2 _ _ _ hj
    rw [e]
    rfl
  have fdR : ∀ x j, j ≠ k → jm_fd (setR w a k x) a ci j = jm_fd w a ci j := by
    intro x j hj
    unfold jm_fd
    have e : mR (setR w a k x) a j = mR w a j := at2 _ _ _ hj
    rw [e]
    rfl
  have fdJ : ∀ x j, j ≠ k → jm_fd (setJ w a k x) a ci j = jm_fd w a ci j := by
    intro x j hj
    unfold jm_fd
    have e : mJ (setJ w a k x) a j = mJ w a j := at2 _ _ _ hj
    rw [e]
    rfl
  unfold jm_pf at h
  split at h
  · rename_i x hty
    cases h
    refine ⟨rfl, rfl, rfl, fun b hb => off _ _ b hb, fun b hb => rfl, fun b hb => rfl, fun j => ?_, by rw [hty]; rfl, by rw [hty]; rfl⟩
    by_cases hj : j = k
    · subst hj
      rw [if_pos rfl]
      unfold jm_fd
      rw [hty]
      exact congrArg Sum.inl (at1 _ _)
    · rw [if_neg hj]
      exact fdI x j hj
  · rename_i x hty
    split at h
    · rename_i hx
      cases h
      refine ⟨rfl, rfl, rfl, fun b hb => off _ _ b hb, fun b hb => rfl, fun b hb => rfl, fun j => ?_, ?_, by rw [hty]; rcases hx with rfl | rfl <;> rfl⟩
      · by_cases hj : j = k
        · subst hj
          rw [if_pos rfl]
          unfold jm_fd
          rw [hty]
          exact congrArg Sum.inl (at1 _ _)
        · rw [if_neg hj]
          exact fdI x j hj
      · rw [hty]
        rcases hx with rfl | rfl <;> rfl
    · cases h
  · rename_i x hty
    cases h
    refine ⟨rfl, rfl, rfl, fun b hb => rfl, fun b hb => rfl, fun b hb => off _ _ b hb, fun j => ?_, by rw [hty]; rfl, by rw [hty]; rfl⟩
    by_cases hj : j = k
    · subst hj
      rw [if_pos rfl]
      unfold jm_fd
      rw [hty]
      exact congrArg (fun z => Sum.inr (Sum.inl z)) (at1 _ _)
    · rw [if_neg hj]
      exact fdJ x j hj
  · rename_i x r hty
    cases h
    refine ⟨rfl, rfl, rfl, fun b hb => rfl, fun b hb => off _ _ b hb, fun b hb => rfl, fun j => ?_, by rw [hty]; cases r <;> rfl, by rw [hty]; cases r <;> rfl⟩
    by_cases hj : j = k
    · subst hj
      rw [if_pos rfl]
      unfold jm_fd
      rw [hty]
      exact congrArg (fun z => Sum.inr (Sum.inr z)) (at1 _ _)
    · rw [if_neg hj]
      exact fdR r j hj
  · rename_i x r hty
    cases h
    refine ⟨rfl, rfl, rfl, fun b hb => rfl, fun b hb => off _ _ b hb, fun b hb => rfl, fun j => ?_, by rw [hty]; cases r <;> rfl, by rw [hty]; cases r <;> rfl⟩
    by_cases hj : j = k
    · subst hj
      rw [if_pos rfl]
      unfold jm_fd
      rw [hty]
      exact congrArg (fun z => Sum.inr (Sum.inr z)) (at1 _ _)
    · rw [if_neg hj]
      exact fdR r j hj
  · cases h
def jm_clsP (ci : Nat) (q : vw_C) : Prop := (∀ w ∈ u_ws q.1 q.2.1 q.2.2, w ∈ jm_all) ∧ (∀ k, k < q.2.2 → parseFieldDescriptor (q.2.1 k).2.2.1 = some (jm_ty ci k)) ∧ (∀ a, a < q.2.2 → ∀ b, b < q.2.2 → a ≠ b → (q.2.1 a).2.1 ≠ (q.2.1 b).2.1) ∧ jm_T ci = q.2.1 ∧ jm_Nf ci = q.2.2 ∧ jm_own ci = q.1 ∧ (.instantiable q.1 q.2.2 : Cond) ∈ jm_all ∧ (.initialized q.1 : Cond) ∈ jm_all
theorem jm_cls {ci : Nat} {q : vw_C} (h : vwCl[ci]? = some q) : jm_clsP ci q := by
  match ci, h with
  | 0, h => cases h; exact ⟨jm_lys_0, tyX0_ok, nmX0, rfl, rfl, rfl, jw_in0, jw_iz0⟩
  | 1, h => cases h; exact ⟨jm_lys_1, tyX1_ok, nmX1, rfl, rfl, rfl, jw_in1, jw_iz1⟩
  | 2, h => cases h; exact ⟨jm_lys_2, tyX2_ok, nmX2, rfl, rfl, rfl, jw_in2, jw_iz2⟩
  | 3, h => cases h; exact ⟨jm_lys_3, tyX3_ok, nmX3, rfl, rfl, rfl, jw_in3, jw_iz3⟩
  | 4, h => cases h; exact ⟨jm_lys_4, tyX4_ok, nmX4, rfl, rfl, rfl, jw_in4, jw_iz4⟩
  | 5, h => cases h; exact ⟨jm_lys_5, tyX5_ok, nmX5, rfl, rfl, rfl, jw_in5, jw_iz5⟩
  | 6, h => cases h; exact ⟨jm_lys_6, tyX6_ok, nmX6, rfl, rfl, rfl, jw_in6, jw_iz6⟩
  | 7, h => cases h; exact ⟨jm_lys_7, tyX7_ok, nmX7, rfl, rfl, rfl, jw_in7, jw_iz7⟩
  | 8, h => cases h; exact ⟨jm_lys_8, tyX8_ok, nmX8, rfl, rfl, rfl, jw_in8, jw_iz8⟩
  | 9, h => cases h; exact ⟨jm_lys_9, tyX9_ok, nmX9, rfl, rfl, rfl, jw_in9, jw_iz9⟩
  | k + 10, h => simp [vwCl] at h
section MEM
variable {D : va_G} {cA : Nat → ClassId} {ad adV : Nat → Nat} {B : Nat} {H0 : Heap} {p : Program} {l : Launch} {e : Env} {R : Room} {s : State} {m : MethodId} {args : Array Value} {below : List Frame} {meth : Method} {c : Code} {Q : State → Prop} {i n0 k0 : Nat}
variable {pc : Nat} {lv : jmL} {st : List jmV} {w : jmW} {g : jmF}
/-- a field's link, plain or between nest mates -/
theorem jm_flink (hts : ∀ w ∈ jm_all, w.before args s = true) {o idx ci k : Nat} {fin : Int} (h : jm_lk o idx = (0, ci, k, fin)) : (Cond.fieldLink (jm_own o) idx (jm_T ci k).1 (jm_T ci k).2.1 (jm_T ci k).2.2.1).before args s = true ∨ ∃ host, (Cond.fieldLinkNest (jm_own o) idx (jm_T ci k).1 (jm_T ci k).2.1 (jm_T ci k).2.2.1 host).before args s = true := by
  obtain ⟨q, h1, h2, -, h4⟩ := jm_lk_in h (by decide)
  rcases h4 with h4 | h4
  · exact absurd h4 (by decide)
  have h5 := hts _ h4
  have e1 : q.1.1 = o := by rw [h1]
  have e2 : q.1.2 = idx := by rw [h1]
  unfold jm_lw at h5
  simp only [h2, e1, e2] at h5
  split at h5
  · exact Or.inl h5
  · exact Or.inr ⟨_, h5⟩
theorem o_getfield {idx : Nat} (X : jm_X D cA ad adV B H0 p R s m args meth c i) (hd : decode (jm_b i) pc = .ok (.getfield idx, 3)) (h : jm_ins i (.getfield idx) pc lv st w = some (.inl g)) (k : jm_C D cA ad B H0 p l e R s m args below meth c Q i n0 k0 g) : jm_C D cA ad B H0 p l e R s m args below meth c Q i n0 k0 (pc, lv, st, w) := by
  obtain ⟨hx, hb, hml, hown, hts, hlk, hini, hrt, hfr, hlo, hKK, had⟩ := X
  intro ls H locs cells slots hl hrep hlocs hn hk
  simp only [jm_ins, jgo] at h
  split at h
  · rename_i r0 s0 ci kf fin a t hlk0
    split at h
    · rename_i hS
      have h := Sum.inl.inj (Option.some.inj h)
      subst h
      obtain ⟨-, -, hO, -⟩ := id hrep
      obtain ⟨-, -, q, hq, cell, q1, q2, q3, q4⟩ := hO a ci 0 hS
      obtain ⟨c1, c2, c3, c4, c5, c6, -⟩ := jm_cls hq
      obtain ⟨hSl, hfc, kC, hkC, hkind⟩ := hKK.1.1 ci q hq
      have hkN : kf < q.2.2 := by rw [← c5]; exact (jm_kf_in hlk0).1
      obtain ⟨cf, kk, fi, f, hi, hsl⟩ := hSl kf hkN
      have hst := (u_facts hfc hkC (u_lays hts c1 hkN) hi).1
      have hv : cell.slots[f.slot]? = some (jem ad (jm_fd w a ci kf)) := by rw [hsl]; exact q4 kf hkN
      have hkn : cell.vm ≠ .unknown := by rw [q3]; exact fun z => by cases z
      rcases jm_flink hts hlk0 with hL | ⟨host, hL⟩
      · rw [c4] at hL
        exact W.getf hx hb hown hL hi hst q1 hkn hv rfl rfl hd (k ls H locs cells slots hl hrep hlocs hn hk)
      · rw [c4] at hL
        exact va_Wgetf hx hb hown hL hi hst q1 hkn hv rfl rfl hd (k ls H locs cells slots hl hrep hlocs hn hk)
    · cases h
  · cases h
theorem o_putfield {idx : Nat} (X : jm_X D cA ad adV B H0 p R s m args meth c i) (hd : decode (jm_b i) pc = .ok (.putfield idx, 3)) (h : jm_ins i (.putfield idx) pc lv st w = some (.inl g)) (k : jm_C D cA ad B H0 p l e R s m args below meth c Q i n0 k0 g) : jm_C D cA ad B H0 p l e R s m args below meth c Q i n0 k0 (pc, lv, st, w) := by
  obtain ⟨hx, hb, hml, hown, hts, hlk, hini, hrt, hfr, hlo, hKK, had⟩ := X
  intro ls H locs cells slots hl hrep hlocs hn hk
  simp only [jm_ins, jgo] at h
  split at h
  · rename_i r0 s0 ci kf fin v a t hlk0
    split at h
    · rename_i hS
      split at h
      · rename_i w1 hpf
        have h := Sum.inl.inj (Option.some.inj h)
        subst h
        obtain ⟨p1, p2, p3, p4, p5, p6, p7, p8, p9⟩ := jm_pf_spec (ad := ad) hpf
        obtain ⟨hz, -, hO, -⟩ := id hrep
        obtain ⟨ha64, halt, q, hq, cell, q1, q2, q3, q4⟩ := hO a ci 0 hS.1
        obtain ⟨c1, c2, c3, c4, c5, c6, -⟩ := jm_cls hq
        obtain ⟨hSl, hfc, kC, hkC, hkind⟩ := hKK.1.1 ci q hq
        obtain ⟨f1, f2, f3, f4⟩ := jm_kf_in hlk0
        have hkN : kf < q.2.2 := by rw [← c5]; exact f1
        obtain ⟨cf, kk, fi, f, hi, hsl⟩ := hSl kf hkN
        have hst := (u_facts hfc hkC (u_lays hts c1 hkN) hi).1
        have hap := va_apart (own := jm_own (jm_o i)) hts c1 (jm_ty ci) c2 c3 hKK.1 hq
        have hBa : B ≤ ad a := by
          have e2 := had (a - 64)
          rw [show 64 + (a - 64) = a by omega] at e2
          omega
        have fin2 : ∀ (H' : Heap), H'[ad a]? = some (cell.setSlot f.slot (jem ad v)) → H'.size = H.size → (∀ q, q ≠ ad a → H'[q]? = H[q]?) → jm_rep D cA ad B H0 w1 s H' := by
          intro H' e1 e2 e3
          rw [hsl] at e1
          refine rep_upd had hrep ha64 p1 p2 p4 p5 p6 e2 e3 (fun ci2 z2 hc2 => ?_) (fun tg n2 hc2 => ?_)
          · rw [hS.1] at hc2
            cases hc2
            refine ⟨q, hq, t_OB.to (V := updV (fun k => jem ad (jm_fd w a ci k)) kf (jem ad v)) ⟨_, e1, q2, q3, t_set q4 hap hkN (jem ad v)⟩ (fun j _ => ?_)⟩
            rw [p7 j]
            unfold updV
            by_cases hj : j = kf <;> simp [hj]
          · rw [hS.1] at hc2
            cases hc2
        have hlo2 : ∀ (z : Nat), ∀ q ∈ locs ++ [(⟨ad a, z⟩ : Loc)], B ≤ q.base := by
          intro z q hq
          rcases List.mem_append.mp hq with hq | hq
          · exact hlocs q hq
          · rw [List.mem_singleton.mp hq]; exact hBa
        have hL := jm_flink hts hlk0
        rw [c4] at hL f2 f3
        have hgo : ∀ (H' : Heap), H'[ad a]? = some (cell.setSlot f.slot (jem ad v)) → H'.size = H.size → (∀ q, q ≠ ad a → H'[q]? = H[q]?) → W p l e R s m args below meth c H' (locs ++ [⟨ad a, f.slot⟩]) cells slots Q (F0 m (pc + 3) ls (t.map (jem ad))) := fun H' e1 e2 e3 => k ls H' _ cells slots hl (fin2 H' e1 e2 e3) (hlo2 _) (by rw [← hn]; exact p2) (by rw [← hk]; exact p3)
        by_cases hf0 : fin = 0
        · have hfin : (q.2.1 kf).2.2.2 = false := by rw [f2, hf0]; rfl
          have hlay := hts _ (c1 _ (u_in_lay hkN))
          unfold u_lay at hlay
          rw [if_neg (by rw [hfin]; decide)] at hlay
          have h6 := u_store hfc hkC hkind hlay hi (c2 kf hkN) p8 p9
          rcases hL with hL | ⟨host, hL⟩
          · exact W.putK hx hb (f := f) ⟨hown, hL, ⟨_, _, _, hi⟩, hst⟩ (by rw [q2]; exact h6) q1 q3 (by rw [hsl]; exact k2_hasslot (q4 kf hkN)) rfl rfl hd hgo
          · exact va_WputK hx hb (f := f) hown hL hi hst (by rw [q2]; exact h6) q1 q3 (by rw [hsl]; exact k2_hasslot (q4 kf hkN)) rfl rfl hd hgo
        · have hfin : (q.2.1 kf).2.2.2 = true := by rw [f2]; exact decide_eq_true hf0
          obtain ⟨hki, hoc⟩ : jm_k i = 2 ∧ jm_o i = ci := hS.2.resolve_left hf0
          have hlay := hts _ (c1 _ (u_in_lay hkN))
          unfold u_lay at hlay
          rw [if_pos hfin] at hlay
          have hcf : m.cls = cf := by
            obtain ⟨_, _, c', _, _, _, -, -, hf', -, -, -, hown2, -⟩ := Cond.laysFinal_spec hlay
            have e1 : c' = cf := by have := hi.symm.trans hf'; simp at this; exact this.1.symm
            have e9 : (q.2.1 kf).1 = jm_own (jm_o i) := by rw [hoc]; exact f3
            rw [e9] at hown2
            rw [← e1]
            exact Option.some.inj (hown.symm.trans hown2)
          have h6 := u_fits hfc hkC hkind (Or.inr hlay) hi (c2 kf hkN) p8 p9
          obtain ⟨q9, z1, z2, z3, z4⟩ := f4 hoc
          have hL := hts _ z4
          unfold jm_lw at hL
          simp only [z1, z2, z3, if_true, c4] at hL
          exact W.putFinK hx hb hown hL hi hst hcf (hini hki) (by rw [q2]; exact h6) q1 q3 (by rw [hsl]; exact k2_hasslot (q4 kf hkN)) rfl rfl hd hgo
      · cases h
    · cases h
  · cases h
end MEM
