/-! Constants, rows of numbers, new cells: walked by the machine. -/
section MEMB
variable {D : va_G} {cA : Nat → ClassId} {ad adV : Nat → Nat} {B : Nat} {H0 : Heap} {p : Program} {l : Launch} {e : Env} {R : Room} {s : State} {m : MethodId} {args : Array Value} {below : List Frame} {meth : Method} {c : Code} {Q : State → Prop} {i n0 k0 : Nat}
variable {pc : Nat} {lv : jmL} {st : List jmV} {w : jmW} {g : jmF}
theorem jm_dflt {ad : Nat → Nat} (w : jmW) (ci n k : Nat) : defaultValue (jm_ty ci k) = jem ad (jm_fd (newC w (1, ci, 0) n) (64 + mN w) ci k) := by
  have e1 : mI (newC w (1, ci, 0) n) (64 + mN w) k = 0 := congrFun (if_pos rfl : (up1 (mI w) (64 + mN w) (fun _ => 0)) (64 + mN w) = fun _ => 0) k
  have e2 : mR (newC w (1, ci, 0) n) (64 + mN w) k = none := congrFun (if_pos rfl : (up1 (mR w) (64 + mN w) (fun _ => none)) (64 + mN w) = fun _ => none) k
  have e3 : mJ (newC w (1, ci, 0) n) (64 + mN w) k = 0 := congrFun (if_pos rfl : (up1 (mJ w) (64 + mN w) (fun _ => 0)) (64 + mN w) = fun _ => 0) k
  have tys : ∀ ci k, jm_ty ci k = .int ∨ jm_ty ci k = .boolean ∨ jm_ty ci k = .long ∨ (∃ C, jm_ty ci k = .object C) ∨ ∃ t, jm_ty ci k = .array t := jm_tys0
  unfold jm_fd
  rcases tys ci k with h | h | h | ⟨C, h⟩ | ⟨t, h⟩ <;> simp only [h, e1, e2, e3] <;> rfl
theorem jm_ldcwS {cc : ByteArray} {H : Heap} {locs : List Loc} {cells slots : Nat} {ls : Array Slot} {rest : List Value} (hexec : p.tables.exec = Jvm.exec) (hb : c.code = cc) {own tx : String} {index q : Nat} (hown : s.vm.findClass own = some m.cls) (hZ : vk_R own index tx q s) (hdg : decode cc pc = .ok (.ldc_w index, 3))
    (k : W p l e R s m args below meth c H locs cells slots Q (F0 m (pc + 3) ls (.ref q :: rest))) : W p l e R s m args below meth c H locs cells slots Q (F0 m pc ls rest) := by
  intro T hT X
  obtain ⟨t, a1, b1⟩ := k T hT X
  refine ⟨t, ?_, b1⟩
  obtain ⟨hc1, hev⟩ := hZ
  obtain ⟨k2, cf, z, a2, hk2, hcf, hcp, -, hr, hev2⟩ := Cond.stringRef_spec hown hc1
  cases hev.symm.trans hev2
  obtain ⟨k3, hk3, he⟩ := X.warmed.alike.2.2 _ _ hk2
  have hr3 : k3.resolved[index]? = some (some (.string q)) := by
    rcases X.warmed.entry hk2 hk3 index with h | ⟨h, -⟩
    · rw [h]; exact hr
    · rw [hr] at h; cases h
  jvm_step X.here [hexec, hb, hdg, ldc_w.wp_string (e := e) (s := T) (f := F0 m pc ls rest) X.here.top hk3 (by rw [he]; exact hcf) hcp hr3]
  exact a1
theorem jm_clink (hts : ∀ w ∈ jm_all, w.before args s = true) {o idx a b : Nat} {z : Int} (h : jm_lk o idx = (8, a, b, z)) : (Cond.constant (jm_own o) idx (Int32.ofInt z)).before args s = true := by
  obtain ⟨q, h1, h2, -, h4⟩ := jm_lk_in h (by decide)
  have h5 := hts _ (h4.resolve_left (fun t => absurd t (by decide)))
  have e1 : q.1.1 = o := by rw [h1]
  have e2 : q.1.2 = idx := by rw [h1]
  unfold jm_lw at h5
  simp only [h2, e1, e2] at h5
  exact h5
theorem jm_llink (hts : ∀ w ∈ jm_all, w.before args s = true) {o idx a b : Nat} {z : Int} (h : jm_lk o idx = (9, a, b, z)) : (Cond.constantLong (jm_own o) idx (Int64.ofInt z)).before args s = true := by
  obtain ⟨q, h1, h2, -, h4⟩ := jm_lk_in h (by decide)
  have h5 := hts _ (h4.resolve_left (fun t => absurd t (by decide)))
  have e1 : q.1.1 = o := by rw [h1]
  have e2 : q.1.2 = idx := by rw [h1]
  unfold jm_lw at h5
  simp only [h2, e1, e2] at h5
  exact h5
theorem jm_nlink (hts : ∀ w ∈ jm_all, w.before args s = true) {o idx a b : Nat} {z : Int} (h : jm_lk o idx = (5, a, b, z)) : (Cond.classLink (jm_own o) idx (jm_own a)).before args s = true := by
  obtain ⟨q, h1, h2, -, h4⟩ := jm_lk_in h (by decide)
  have h5 := hts _ (h4.resolve_left (fun t => absurd t (by decide)))
  have e1 : q.1.1 = o := by rw [h1]
  have e2 : q.1.2 = idx := by rw [h1]
  unfold jm_lw at h5
  simp only [h2, e1, e2] at h5
  exact h5
theorem jm_tlink (hts : ∀ w ∈ jm_all, w.before args s = true) {o idx a b : Nat} {z : Int} (h : jm_lk o idx = (10, a, b, z)) : (Cond.fieldLink (jm_own o) idx RX0 "TURNS" "[I").before args s = true := by
  obtain ⟨q, h1, h2, -, h4⟩ := jm_lk_in h (by decide)
  have h5 := hts _ (h4.resolve_left (fun t => absurd t (by decide)))
  have e1 : q.1.1 = o := by rw [h1]
  have e2 : q.1.2 = idx := by rw [h1]
  unfold jm_lw at h5
  simp only [h2, e1, e2] at h5
  exact h5
theorem jm_slink (hKK : jm_KK D cA ad adV B H0 s) {o idx a b : Nat} {z : Int} (h : jm_lk o idx = (7, a, b, z)) : ∃ tx, vk_R (jm_own o) idx tx (ad a) s := by
  have h0 := h
  unfold jm_lk at h
  split at h
  · rename_i q hq
    obtain ⟨e1, -, -⟩ := jm_fq_in hq
    have hm : q ∈ jmK_3 ++ jmK_9 := by
      unfold jm_fq at hq
      have none7 : ∀ (l : List jmQ) (f : jmQ → Bool), l.all (fun q => q.2.1.1 != 7) = true → l.find? f = some q → False := by
        intro l f h1 h2
        have := List.all_eq_true.mp h1 _ (List.mem_of_find?_eq_some h2)
        simp [h] at this
      match o, hq with
      | 3, hq => exact List.mem_append_left _ (List.mem_of_find?_eq_some hq)
      | 9, hq => exact List.mem_append_right _ (List.mem_of_find?_eq_some hq)
      | 0, hq => exact (none7 jmK_0 _ (by decide +kernel) hq).elim
      | 1, hq => exact (none7 jmK_1 _ (by decide +kernel) hq).elim
      | 2, hq => exact (none7 jmK_2 _ (by decide +kernel) hq).elim
      | 4, hq => exact (none7 jmK_4 _ (by decide +kernel) hq).elim
      | 5, hq => exact (none7 jmK_5 _ (by decide +kernel) hq).elim
      | 6, hq => exact (none7 jmK_6 _ (by decide +kernel) hq).elim
      | 7, hq => exact (none7 jmK_7 _ (by decide +kernel) hq).elim
      | 8, hq => exact (none7 jmK_8 _ (by decide +kernel) hq).elim
      | 10, hq => exact (none7 jmK_10 _ (by decide +kernel) hq).elim
      | 11, hq => exact (none7 jmK_11 _ (by decide +kernel) hq).elim
      | 12, hq => exact (none7 jmK_12 _ (by decide +kernel) hq).elim
      | z + 13, hq => exact absurd hq (by simp [jmK])
    have h5 := hKK.2.2.1 q hm (by rw [h])
    have e3 : q.1.1 = o := by rw [e1]
    have e4 : q.1.2 = idx := by rw [e1]
    rw [e3, e4, h] at h5
    exact ⟨_, h5⟩
  · cases h
theorem o_ldc {idx : Nat} (X : jm_X D cA ad adV B H0 p R s m args meth c i) (hd : decode (jm_b i) pc = .ok (.ldc idx, 2)) (h : jm_ins i (.ldc idx) pc lv st w = some (.inl g)) (k : jm_C D cA ad B H0 p l e R s m args below meth c Q i n0 k0 g) : jm_C D cA ad B H0 p l e R s m args below meth c Q i n0 k0 (pc, lv, st, w) := by
  obtain ⟨hx, hb, hml, hown, hts, hlk, hini, hrt, hfr, hlo, hKK, had⟩ := X
  intro ls H locs cells slots hl hrep hlocs hn hk
  simp only [jm_ins, jgo] at h
  split at h
  · rename_i a b z hq
    have h := Sum.inl.inj (Option.some.inj h)
    subst h
    obtain ⟨tx, hS⟩ := jm_slink hKK hq
    exact va_ldcS hx hb hown hS hd (k ls H locs cells slots hl hrep hlocs hn hk)
  · rename_i a b z hq
    have h := Sum.inl.inj (Option.some.inj h)
    subst h
    exact lv_ldc hx hb hown (jm_clink hts hq) hd (k ls H locs cells slots hl hrep hlocs hn hk)
  · cases h
theorem o_ldc_w {idx : Nat} (X : jm_X D cA ad adV B H0 p R s m args meth c i) (hd : decode (jm_b i) pc = .ok (.ldc_w idx, 3)) (h : jm_ins i (.ldc_w idx) pc lv st w = some (.inl g)) (k : jm_C D cA ad B H0 p l e R s m args below meth c Q i n0 k0 g) : jm_C D cA ad B H0 p l e R s m args below meth c Q i n0 k0 (pc, lv, st, w) := by
  obtain ⟨hx, hb, hml, hown, hts, hlk, hini, hrt, hfr, hlo, hKK, had⟩ := X
  intro ls H locs cells slots hl hrep hlocs hn hk
  simp only [jm_ins, jgo] at h
  split at h
  · rename_i a b z hq
    have h := Sum.inl.inj (Option.some.inj h)
    subst h
    obtain ⟨tx, hS⟩ := jm_slink hKK hq
    exact jm_ldcwS hx hb hown hS hd (k ls H locs cells slots hl hrep hlocs hn hk)
  · rename_i a b z hq
    have h := Sum.inl.inj (Option.some.inj h)
    subst h
    exact lv_ldcw hx hb hown (jm_clink hts hq) hd (k ls H locs cells slots hl hrep hlocs hn hk)
  · cases h
theorem o_ldc2_w {idx : Nat} (X : jm_X D cA ad adV B H0 p R s m args meth c i) (hd : decode (jm_b i) pc = .ok (.ldc2_w idx, 3)) (h : jm_ins i (.ldc2_w idx) pc lv st w = some (.inl g)) (k : jm_C D cA ad B H0 p l e R s m args below meth c Q i n0 k0 g) : jm_C D cA ad B H0 p l e R s m args below meth c Q i n0 k0 (pc, lv, st, w) := by
  obtain ⟨hx, hb, hml, hown, hts, hlk, hini, hrt, hfr, hlo, hKK, had⟩ := X
  intro ls H locs cells slots hl hrep hlocs hn hk
  simp only [jm_ins, jgo] at h
  split at h
  · rename_i a b z hq
    have h := Sum.inl.inj (Option.some.inj h)
    subst h
    exact lv_ldc2 hx hb hown (jm_llink hts hq) hd (k ls H locs cells slots hl hrep hlocs hn hk)
  · cases h
theorem o_getstatic {idx : Nat} (X : jm_X D cA ad adV B H0 p R s m args meth c i) (hd : decode (jm_b i) pc = .ok (.getstatic idx, 3)) (h : jm_ins i (.getstatic idx) pc lv st w = some (.inl g)) (k : jm_C D cA ad B H0 p l e R s m args below meth c Q i n0 k0 g) : jm_C D cA ad B H0 p l e R s m args below meth c Q i n0 k0 (pc, lv, st, w) := by
  obtain ⟨hx, hb, hml, hown, hts, hlk, hini, hrt, hfr, hlo, hKK, had⟩ := X
  intro ls H locs cells slots hl hrep hlocs hn hk
  simp only [jm_ins, jgo] at h
  split at h
  · rename_i a b z hq
    have h := Sum.inl.inj (Option.some.inj h)
    subst h
    obtain ⟨cf, kf, fi, f, a1, cell, h1, h2, h3, h4, h5, h6, h7, h8⟩ := hKK.2.2.2.2.1
    exact W.gets hx hb hown (jm_tlink hts hq) h1 h2 h3 h4 (by rw [hrep.2.1 a1 (Nat.lt_of_not_le h8)]; exact h5) (fun e => by rw [e] at h6; cases h6) h7 rfl hd (k ls H locs cells slots hl hrep hlocs hn hk)
  · cases h
theorem jm_tyA (hKK : jm_KK D cA ad adV B H0 s) : ArrOfT s (cA 0) .int ∧ ArrOfT s (cA 1) .byte ∧ ArrOfT s (cA 2) .long ∧ ArrOfT s (cA 3) (.object RX4) := ⟨(hKK.1.2 0 _ rfl).1, (hKK.1.2 1 _ rfl).1, (hKK.1.2 2 _ rfl).1, (hKK.1.2 3 _ rfl).1⟩
theorem jm_inx {j : Int} {n : Nat} (h : jin j n = true) : ¬ (Int32.ofInt j < 0 ∨ n ≤ (Int32.ofInt j).toNatClampNeg) ∧ (Int32.ofInt j).toNatClampNeg = jix j ∧ jix j < n := by
  have h1 := of_decide_eq_true h
  have h2 : (Int32.ofInt j).toNatClampNeg = jix j := j32_clamp j
  have h3 : jix j < n := by unfold jix; omega
  refine ⟨fun z => ?_, h2, h3⟩
  rcases z with z | z
  · have := j32_lt0.mp z
    omega
  · omega
theorem jm_Bad (had : ∀ j, ad (64 + j) = B + j) {a : Nat} (ha : 64 ≤ a) : B ≤ ad a := by
  have e2 := had (a - 64)
  rw [show 64 + (a - 64) = a by omega] at e2
  omega
theorem o_baload (X : jm_X D cA ad adV B H0 p R s m args meth c i) (hd : decode (jm_b i) pc = .ok (.baload, 1)) (h : jm_ins i (.baload) pc lv st w = some (.inl g)) (k : jm_C D cA ad B H0 p l e R s m args below meth c Q i n0 k0 g) : jm_C D cA ad B H0 p l e R s m args below meth c Q i n0 k0 (pc, lv, st, w) := by
  obtain ⟨hx, hb, hml, hown, hts, hlk, hini, hrt, hfr, hlo, hKK, had⟩ := X
  intro ls H locs cells slots hl hrep hlocs hn hk
  simp only [jm_ins, jgo] at h
  split at h
  · rename_i j a t
    split at h
    · rename_i hS
      have h := Sum.inl.inj (Option.some.inj h)
      subst h
      obtain ⟨h2, ht, hj⟩ := hS
      obtain ⟨hx1, hx2, hx3⟩ := jm_inx hj
      obtain ⟨tA0, tA1, tA2, tA3⟩ := jm_tyA hKK
      obtain ⟨-, -, hn3, -, hcell⟩ := hrep.2.2.2.1 a 1 _ (show mS w a = (2, 1, (mS w a).2.2) from Prod.ext h2 (Prod.ext ht rfl))
      exact W.bald (v := .int (Int32.ofInt (mI w a (jix j)))) hx hb hcell (tA1 _ _) (fun q => by cases q) (by rw [arrV_size]; exact hx1) (by rw [hx2, arrV_read _ _ hx3]; rfl) rfl rfl hd (k ls H locs cells slots hl hrep hlocs hn hk)
    · cases h
  · cases h
theorem o_laload (X : jm_X D cA ad adV B H0 p R s m args meth c i) (hd : decode (jm_b i) pc = .ok (.laload, 1)) (h : jm_ins i (.laload) pc lv st w = some (.inl g)) (k : jm_C D cA ad B H0 p l e R s m args below meth c Q i n0 k0 g) : jm_C D cA ad B H0 p l e R s m args below meth c Q i n0 k0 (pc, lv, st, w) := by
  obtain ⟨hx, hb, hml, hown, hts, hlk, hini, hrt, hfr, hlo, hKK, had⟩ := X
  intro ls H locs cells slots hl hrep hlocs hn hk
  simp only [jm_ins, jgo] at h
  split at h
  · rename_i j a t
    split at h
    · rename_i hS
      have h := Sum.inl.inj (Option.some.inj h)
      subst h
      obtain ⟨h2, ht, hj⟩ := hS
      obtain ⟨hx1, hx2, hx3⟩ := jm_inx hj
      obtain ⟨tA0, tA1, tA2, tA3⟩ := jm_tyA hKK
      obtain ⟨-, -, hn3, -, hcell⟩ := hrep.2.2.2.1 a 2 _ (show mS w a = (2, 2, (mS w a).2.2) from Prod.ext h2 (Prod.ext ht rfl))
      exact W.lald (v := .long (Int64.ofInt (mJ w a (jix j)))) hx hb hcell (tA2 _ _) (fun q => by cases q) (by rw [arrV_size]; exact hx1) (by rw [hx2, arrV_read _ _ hx3]; rfl) rfl rfl hd (k ls H locs cells slots hl hrep hlocs hn hk)
    · cases h
  · cases h
theorem o_aaload (X : jm_X D cA ad adV B H0 p R s m args meth c i) (hd : decode (jm_b i) pc = .ok (.aaload, 1)) (h : jm_ins i (.aaload) pc lv st w = some (.inl g)) (k : jm_C D cA ad B H0 p l e R s m args below meth c Q i n0 k0 g) : jm_C D cA ad B H0 p l e R s m args below meth c Q i n0 k0 (pc, lv, st, w) := by
  obtain ⟨hx, hb, hml, hown, hts, hlk, hini, hrt, hfr, hlo, hKK, had⟩ := X
  intro ls H locs cells slots hl hrep hlocs hn hk
  simp only [jm_ins, jgo] at h
  split at h
  · rename_i j a t
    split at h
    · rename_i hS
      have h := Sum.inl.inj (Option.some.inj h)
      subst h
      obtain ⟨h2, ht, hj⟩ := hS
      obtain ⟨hx1, hx2, hx3⟩ := jm_inx hj
      obtain ⟨tA0, tA1, tA2, tA3⟩ := jm_tyA hKK
      obtain ⟨-, -, hn3, -, hcell⟩ := hrep.2.2.2.1 a 3 _ (show mS w a = (2, 3, (mS w a).2.2) from Prod.ext h2 (Prod.ext ht rfl))
      exact W.aald (v := va_rf ((mR w a (jix j)).map ad)) (ty := .object RX4) hx hb hcell (tA3 _ _) rfl (fun q => by cases q) (by rw [arrV_size]; exact hx1) (by rw [hx2, arrV_read _ _ hx3]; rfl) rfl rfl hd (k ls H locs cells slots hl hrep hlocs hn hk)
    · cases h
  · cases h
theorem o_iaload (X : jm_X D cA ad adV B H0 p R s m args meth c i) (hd : decode (jm_b i) pc = .ok (.iaload, 1)) (h : jm_ins i (.iaload) pc lv st w = some (.inl g)) (k : jm_C D cA ad B H0 p l e R s m args below meth c Q i n0 k0 g) : jm_C D cA ad B H0 p l e R s m args below meth c Q i n0 k0 (pc, lv, st, w) := by
  obtain ⟨hx, hb, hml, hown, hts, hlk, hini, hrt, hfr, hlo, hKK, had⟩ := X
  intro ls H locs cells slots hl hrep hlocs hn hk
  simp only [jm_ins, jgo] at h
  split at h
  · rename_i j a t
    split at h
    · rename_i hS
      have h := Sum.inl.inj (Option.some.inj h)
      subst h
      obtain ⟨h2, ht, hj⟩ := hS
      obtain ⟨hx1, hx2, hx3⟩ := jm_inx hj
      obtain ⟨tA0, tA1, tA2, tA3⟩ := jm_tyA hKK
      rcases h2 with h2 | h2
      · obtain ⟨-, -, hn3, -, hcell⟩ := hrep.2.2.2.1 a 0 _ (show mS w a = (2, 0, (mS w a).2.2) from Prod.ext h2 (Prod.ext ht rfl))
        exact W.iald (v := .int (Int32.ofInt (mI w a (jix j)))) hx hb hcell (tA0 _ _) (fun q => by cases q) (by rw [arrV_size]; exact hx1) (by rw [hx2, arrV_read _ _ hx3]; rfl) rfl rfl hd (k ls H locs cells slots hl hrep hlocs hn hk)
      · obtain ⟨g1, g2, -, g3, scr, g4, g5, g6, g7, g7b, g8⟩ := hrep.2.2.2.2.1 a 0 _ (show mS w a = (4, 0, (mS w a).2.2) from Prod.ext h2 (Prod.ext ht rfl))
        exact W.iald (v := .int (Int32.ofInt (mI w a (jix j)))) hx hb (by rw [hrep.2.1 _ g2]; exact g4) g5 g6 (fun q => q.elim (fun z => hx1 (Or.inl z)) (fun z => hx1 (Or.inr (Nat.le_trans g7 z)))) (by rw [hx2]; exact g8 _ hx3) rfl rfl hd (k ls H locs cells slots hl hrep hlocs hn hk)
    · cases h
  · cases h
theorem o_arraylength (X : jm_X D cA ad adV B H0 p R s m args meth c i) (hd : decode (jm_b i) pc = .ok (.arraylength, 1)) (h : jm_ins i (.arraylength) pc lv st w = some (.inl g)) (k : jm_C D cA ad B H0 p l e R s m args below meth c Q i n0 k0 g) : jm_C D cA ad B H0 p l e R s m args below meth c Q i n0 k0 (pc, lv, st, w) := by
  obtain ⟨hx, hb, hml, hown, hts, hlk, hini, hrt, hfr, hlo, hKK, had⟩ := X
  intro ls H locs cells slots hl hrep hlocs hn hk
  simp only [jm_ins, jgo] at h
  split at h
  · rename_i a t
    split at h
    · rename_i hS
      have h := Sum.inl.inj (Option.some.inj h)
      subst h
      obtain ⟨tA0, tA1, tA2, tA3⟩ := jm_tyA hKK
      rcases hS with h2 | h2
      · obtain ⟨-, -, hn3, ht4, hcell⟩ := hrep.2.2.2.1 a _ _ (show mS w a = (2, (mS w a).2.1, (mS w a).2.2) from Prod.ext h2 rfl)
        have hT : ∃ ty, ArrOfT s (cA (mS w a).2.1) ty := by
          generalize (mS w a).2.1 = tg at ht4
          match tg, ht4 with
          | 0, _ => exact ⟨_, tA0⟩
          | 1, _ => exact ⟨_, tA1⟩
          | 2, _ => exact ⟨_, tA2⟩
          | 3, _ => exact ⟨_, tA3⟩
          | z + 4, hz => omega
        obtain ⟨ty, hT⟩ := hT
        exact W.alen (n := Int32.ofInt ((mS w a).2.2 : Nat)) hx hb hcell (hT _ _) (by rw [arrV_size]; exact (Int32.ofInt_eq_ofNat).symm) rfl rfl hd (k ls H locs cells slots hl hrep hlocs hn hk)
      · obtain ⟨g1, g2, -, g3, scr, g4, g5, g6, g7, g7b, g8⟩ := hrep.2.2.2.2.1 a _ _ (show mS w a = (4, (mS w a).2.1, (mS w a).2.2) from Prod.ext h2 rfl)
        exact W.alen (n := Int32.ofInt ((mS w a).2.2 : Nat)) hx hb (by rw [hrep.2.1 _ g2]; exact g4) g5 (g7b.trans (Int32.ofInt_eq_ofNat).symm) rfl rfl hd (k ls H locs cells slots hl hrep hlocs hn hk)
    · cases h
  · cases h
theorem o_iastore (X : jm_X D cA ad adV B H0 p R s m args meth c i) (hd : decode (jm_b i) pc = .ok (.iastore, 1)) (h : jm_ins i (.iastore) pc lv st w = some (.inl g)) (k : jm_C D cA ad B H0 p l e R s m args below meth c Q i n0 k0 g) : jm_C D cA ad B H0 p l e R s m args below meth c Q i n0 k0 (pc, lv, st, w) := by
  obtain ⟨hx, hb, hml, hown, hts, hlk, hini, hrt, hfr, hlo, hKK, had⟩ := X
  intro ls H locs cells slots hl hrep hlocs hn hk
  simp only [jm_ins, jgo] at h
  split at h
  · rename_i x j a t
    split at h
    · rename_i hS
      have h := Sum.inl.inj (Option.some.inj h)
      subst h
      obtain ⟨h2, ht, hj⟩ := hS
      obtain ⟨hx1, hx2, hx3⟩ := jm_inx hj
      obtain ⟨tA0, tA1, tA2, tA3⟩ := jm_tyA hKK
      have hSa : mS w a = (2, 0, (mS w a).2.2) := Prod.ext h2 (Prod.ext ht rfl)
      obtain ⟨ha64, halt, hn3, -, hcell⟩ := hrep.2.2.2.1 a 0 _ hSa
      refine W.iast hx hb hcell (tA0 _ _) (fun q => by cases q) (by rw [arrV_size]; exact hx1) rfl rfl hd fun H1 e z oq => ?_
      have hBa := jm_Bad had ha64
      refine k ls H1 _ cells slots hl (rep_upd had hrep ha64 rfl rfl (fun b hb => by funext q; exact if_neg (fun z => hb z.1)) (fun b hb => rfl) (fun b hb => rfl) z oq (fun ci2 z2 hc2 => ?_) (fun tg n2 hc2 => ?_)) (fun q hq => ?_) hn hk
      · rw [hSa] at hc2
        cases hc2
      · rw [hSa] at hc2
        cases hc2
        unfold jm_arr
        rw [e, arrV_store, hx2]
        congr 1
        congr 1
        funext q
        unfold updV
        by_cases hq : q = jix j
        · subst hq
          rw [if_pos rfl]
          unfold jm_el
          simp [setI, mI, up2, jem]
        · rw [if_neg hq]
          unfold jm_el
          simp [setI, mI, up2, jem, hq]
      · rcases List.mem_append.mp hq with hq | hq
        · exact hlocs q hq
        · rw [List.mem_singleton.mp hq]; exact hBa
    · cases h
  · cases h
theorem o_bastore (X : jm_X D cA ad adV B H0 p R s m args meth c i) (hd : decode (jm_b i) pc = .ok (.bastore, 1)) (h : jm_ins i (.bastore) pc lv st w = some (.inl g)) (k : jm_C D cA ad B H0 p l e R s m args below meth c Q i n0 k0 g) : jm_C D cA ad B H0 p l e R s m args below meth c Q i n0 k0 (pc, lv, st, w) := by
  obtain ⟨hx, hb, hml, hown, hts, hlk, hini, hrt, hfr, hlo, hKK, had⟩ := X
  intro ls H locs cells slots hl hrep hlocs hn hk
  simp only [jm_ins, jgo] at h
  split at h
  · rename_i x j a t
    split at h
    · rename_i hS
      have h := Sum.inl.inj (Option.some.inj h)
      subst h
      obtain ⟨h2, ht, hj⟩ := hS
      obtain ⟨hx1, hx2, hx3⟩ := jm_inx hj
      obtain ⟨tA0, tA1, tA2, tA3⟩ := jm_tyA hKK
      have hSa : mS w a = (2, 1, (mS w a).2.2) := Prod.ext h2 (Prod.ext ht rfl)
      obtain ⟨ha64, halt, hn3, -, hcell⟩ := hrep.2.2.2.1 a 1 _ hSa
      refine W.bast hx hb hcell (tA1 _ _) (fun q => by cases q) (by rw [arrV_size]; exact hx1) rfl rfl hd fun H1 e z oq => ?_
      have hBa := jm_Bad had ha64
      refine k ls H1 _ cells slots hl (rep_upd had hrep ha64 rfl rfl (fun b hb => by funext q; exact if_neg (fun z => hb z.1)) (fun b hb => rfl) (fun b hb => rfl) z oq (fun ci2 z2 hc2 => ?_) (fun tg n2 hc2 => ?_)) (fun q hq => ?_) hn hk
      · rw [hSa] at hc2
        cases hc2
      · rw [hSa] at hc2
        cases hc2
        unfold jm_arr
        rw [e, arrV_store, hx2]
        congr 1
        congr 1
        funext q
        unfold updV
        by_cases hq : q = jix j
        · subst hq
          rw [if_pos rfl]
          unfold jm_el
          simp [setI, mI, up2, jem]
          exact congrArg Value.int (Int32.ofInt_toInt _).symm
        · rw [if_neg hq]
          unfold jm_el
          simp [setI, mI, up2, jem, hq]
      · rcases List.mem_append.mp hq with hq | hq
        · exact hlocs q hq
        · rw [List.mem_singleton.mp hq]; exact hBa
    · cases h
  · cases h
theorem o_lastore (X : jm_X D cA ad adV B H0 p R s m args meth c i) (hd : decode (jm_b i) pc = .ok (.lastore, 1)) (h : jm_ins i (.lastore) pc lv st w = some (.inl g)) (k : jm_C D cA ad B H0 p l e R s m args below meth c Q i n0 k0 g) : jm_C D cA ad B H0 p l e R s m args below meth c Q i n0 k0 (pc, lv, st, w) := by
  obtain ⟨hx, hb, hml, hown, hts, hlk, hini, hrt, hfr, hlo, hKK, had⟩ := X
  intro ls H locs cells slots hl hrep hlocs hn hk
  simp only [jm_ins, jgo] at h
  split at h
  · rename_i x j a t
    split at h
    · rename_i hS
      have h := Sum.inl.inj (Option.some.inj h)
      subst h
      obtain ⟨h2, ht, hj⟩ := hS
      obtain ⟨hx1, hx2, hx3⟩ := jm_inx hj
      obtain ⟨tA0, tA1, tA2, tA3⟩ := jm_tyA hKK
      have hSa : mS w a = (2, 2, (mS w a).2.2) := Prod.ext h2 (Prod.ext ht rfl)
      obtain ⟨ha64, halt, hn3, -, hcell⟩ := hrep.2.2.2.1 a 2 _ hSa
      refine W.last hx hb hcell (tA2 _ _) (fun q => by cases q) (by rw [arrV_size]; exact hx1) rfl rfl hd fun H1 e z oq => ?_
      have hBa := jm_Bad had ha64
      refine k ls H1 _ cells slots hl (rep_upd had hrep ha64 rfl rfl (fun b hb => rfl) (fun b hb => rfl) (fun b hb => by funext q; exact if_neg (fun z => hb z.1)) z oq (fun ci2 z2 hc2 => ?_) (fun tg n2 hc2 => ?_)) (fun q hq => ?_) hn hk
      · rw [hSa] at hc2
        cases hc2
      · rw [hSa] at hc2
        cases hc2
        unfold jm_arr
        rw [e, arrV_store, hx2]
        congr 1
        congr 1
        funext q
        unfold updV
        by_cases hq : q = jix j
        · subst hq
          rw [if_pos rfl]
          unfold jm_el
          simp [setJ, mJ, up2, jem]
        · rw [if_neg hq]
          unfold jm_el
          simp [setJ, mJ, up2, jem, hq]
      · rcases List.mem_append.mp hq with hq | hq
        · exact hlocs q hq
        · rw [List.mem_singleton.mp hq]; exact hBa
    · cases h
  · cases h
theorem o_aastore (X : jm_X D cA ad adV B H0 p R s m args meth c i) (hd : decode (jm_b i) pc = .ok (.aastore, 1)) (h : jm_ins i (.aastore) pc lv st w = some (.inl g)) (k : jm_C D cA ad B H0 p l e R s m args below meth c Q i n0 k0 g) : jm_C D cA ad B H0 p l e R s m args below meth c Q i n0 k0 (pc, lv, st, w) := by
  obtain ⟨hx, hb, hml, hown, hts, hlk, hini, hrt, hfr, hlo, hKK, had⟩ := X
  intro ls H locs cells slots hl hrep hlocs hn hk
  simp only [jm_ins, jgo] at h
  split at h
  · rename_i x j a t
    split at h
    · rename_i hS
      have h := Sum.inl.inj (Option.some.inj h)
      subst h
      obtain ⟨h2, ht, hj, hv⟩ := hS
      obtain ⟨hx1, hx2, hx3⟩ := jm_inx hj
      obtain ⟨tA0, tA1, tA2, tA3⟩ := jm_tyA hKK
      have hSa : mS w a = (2, 3, (mS w a).2.2) := Prod.ext h2 (Prod.ext ht rfl)
      obtain ⟨ha64, halt, hn3, -, hcell⟩ := hrep.2.2.2.1 a 3 _ hSa
      obtain ⟨-, -, qv, hqv, cellV, g1, g2, g3, -⟩ := hrep.2.2.1 x 4 0 hv
      cases hqv
      have hcls := (hKK.1.1 4 _ rfl).2
      obtain ⟨kA, comp, k1, k2, k3, -⟩ := (hKK.1.2 3 _ rfl).2
      have hcomp : comp = D.1 4 := Option.some.inj (k3.symm.trans hcls.1)
      subst hcomp
      obtain ⟨kC, hkC, -⟩ := hcls.2
      refine W.aast hx hb hcell (fun q h => by cases h) (fun h => by cases h) k1 k2 rfl hkC ⟨fun q => hx1 (Or.inl q), by rw [arrV_size, hx2]; exact hx3⟩ g1 (fun q h => by rw [g3] at h; cases h) (by rw [g2]; exact hkC) (by rw [g2]; exact va_assign hcls) rfl rfl hd fun H1 e z oq => ?_
      have hBa := jm_Bad had ha64
      refine k ls H1 _ cells slots hl (rep_upd had hrep ha64 rfl rfl (fun b hb => rfl) (fun b hb => by funext q; exact if_neg (fun z => hb z.1)) (fun b hb => rfl) z oq (fun ci2 z2 hc2 => ?_) (fun tg n2 hc2 => ?_)) (fun q hq => ?_) hn hk
      · rw [hSa] at hc2
        cases hc2
      · rw [hSa] at hc2
        cases hc2
        unfold jm_arr
        rw [e, arrV_store, hx2]
        congr 1
        congr 1
        funext q
        unfold updV
        by_cases hq : q = jix j
        · subst hq
          rw [if_pos rfl]
          unfold jm_el
          simp [setR, mR, up2, jem]
          try rfl
        · rw [if_neg hq]
          unfold jm_el
          simp [setR, mR, up2, jem, hq]
      · rcases List.mem_append.mp hq with hq | hq
        · exact hlocs q hq
        · rw [List.mem_singleton.mp hq]; exact hBa
    · cases h
  · cases h
theorem o_new {idx : Nat} (X : jm_X D cA ad adV B H0 p R s m args meth c i) (hd : decode (jm_b i) pc = .ok (.new idx, 3)) (h : jm_ins i (.new idx) pc lv st w = some (.inl g)) (hgN : mN g.2.2.2 ≤ n0 + R.cells) (hgK : mK g.2.2.2 ≤ k0 + R.slots) (k : jm_C D cA ad B H0 p l e R s m args below meth c Q i n0 k0 g) : jm_C D cA ad B H0 p l e R s m args below meth c Q i n0 k0 (pc, lv, st, w) := by
  obtain ⟨hx, hb, hml, hown, hts, hlk, hini, hrt, hfr, hlo, hKK, had⟩ := X
  intro ls H locs cells slots hl hrep hlocs hn hk
  simp only [jm_ins, jgo] at h
  split at h
  · rename_i ci b z hq
    split at h
    · rename_i hc
      have h := Sum.inl.inj (Option.some.inj h)
      subst h
      have hqc : ∃ q, vwCl[ci]? = some q := ⟨vwCl[ci]'(by simpa [vwCl] using hc), List.getElem?_eq_getElem _⟩
      obtain ⟨q, hqc⟩ := hqc
      obtain ⟨c1, c2, c3, c4, c5, c6, c7, c8⟩ := jm_cls hqc
      have hL := jm_nlink hts hq
      rw [c6] at hL
      obtain ⟨hSl, hfc, kC0, hkC0, hkind⟩ := hKK.1.1 ci q hqc
      have hsz := hrep.1
      have hMN : mN (newC w (1, ci, 0) (jm_Nf ci)) = mN w + 1 := rfl
      have hMK : mK (newC w (1, ci, 0) (jm_Nf ci)) = mK w + jm_Nf ci := rfl
      rw [hMN] at hgN
      rw [hMK] at hgK
      have hR : cells + 1 ≤ R.cells := by simp only at hn; omega
      have hR2 : slots + q.2.2 ≤ R.slots := by rw [← c5]; simp only at hk; omega
      refine W.newcK hx hb hown hL (hts _ c7) (hts _ c8) rfl hd hR hR2 hfc rfl fun H1 kC hkC e1 z1 o1 => ?_
      have had0 := had (mN w)
      have e9 : H.size = ad (64 + mN w) := by rw [had0, hsz]
      rw [e9] at e1 ⊢
      refine k ls H1 locs (cells + 1) (slots + q.2.2) hl (rep_new had hrep (by omega) o1 (fun ci2 z2 hc2 => ?_) (fun tg n2 hc2 => ?_) (Or.inl rfl)) hlocs (by show mN w + 1 = _; simp only at hn; omega) (by show mK w + jm_Nf ci = _; simp only at hk; rw [c5]; omega)
      · cases hc2
        refine ⟨q, hqc, (u_born (jm_ty ci) hts c1 ⟨hSl, hfc, kC0, hkC0, hkind⟩ hkC e1 c2).to (fun k hk => ?_)⟩
        exact jm_dflt w ci _ k
      · cases hc2
    · cases h
  · cases h
  · cases h
theorem o_newarray {ty : ArrayType} (X : jm_X D cA ad adV B H0 p R s m args meth c i) (hd : decode (jm_b i) pc = .ok (.newarray ty, 2)) (h : jm_ins i (.newarray ty) pc lv st w = some (.inl g)) (hgN : mN g.2.2.2 ≤ n0 + R.cells) (hgK : mK g.2.2.2 ≤ k0 + R.slots) (k : jm_C D cA ad B H0 p l e R s m args below meth c Q i n0 k0 g) : jm_C D cA ad B H0 p l e R s m args below meth c Q i n0 k0 (pc, lv, st, w) := by
  obtain ⟨hx, hb, hml, hown, hts, hlk, hini, hrt, hfr, hlo, hKK, had⟩ := X
  intro ls H locs cells slots hl hrep hlocs hn hk
  simp only [jm_ins, jgo] at h
  split at h
  · rename_i n t
    split at h
    rename_i hc
    split at h
    · rename_i heq
      have h := Sum.inl.inj (Option.some.inj h)
      subst h
      have hMN : mN (newC w (2, 0, (jw n).toNat) (jw n).toNat) = mN w + 1 := rfl
      have hMK : mK (newC w (2, 0, (jw n).toNat) (jw n).toNat) = mK w + (jw n).toNat := rfl
      rw [hMN] at hgN
      rw [hMK] at hgK
      have hsz := hrep.1
      have had0 := had (mN w)
      have e9 : H.size = ad (64 + mN w) := by rw [had0, hsz]
      have hR : cells + 1 ≤ R.cells := by simp only at hn; omega
      have hR2 : slots + (jw n).toNat ≤ R.slots := by simp only at hk; omega
      refine va_newaK (atype := .int) hx hb (hts _ jw_arrI) rfl hd rfl (fun q => by have := j32_lt0.mp q; omega) (j32_clamp n) (by show (jw n).toNat * 4 ≤ _; omega) hR hR2 e9 fun H1 cA1 e1 z1 o1 hAr hNm => ?_
      have hcA : cA1 = cA 0 := Option.some.inj (hNm.symm.trans (hKK.1.2 0 _ rfl).2)
      subst hcA
      refine k ls H1 locs (cells + 1) (slots + (jw n).toNat) hl (rep_new had hrep (by rw [z1, e9]) (fun q hq => o1 q (by rw [← e9]; exact hq)) (fun ci2 z2 hc2 => ?_) (fun tg n2 hc2 => ?_) (Or.inr rfl)) hlocs (by show mN w + 1 = _; simp only at hn; omega) (by show mK w + (jw n).toNat = _; simp only at hk; omega)
      · cases hc2
      · cases hc2
        refine ⟨by omega, by omega, ?_⟩
        unfold jm_arr
        rw [e1]
        congr 1
        congr 1
        funext q
        unfold jm_el
        have e1 : mI (newC w (2, 0, (jw n).toNat) (jw n).toNat) (64 + mN w) q = 0 := congrFun (if_pos rfl : (up1 (mI w) (64 + mN w) (fun _ => 0)) (64 + mN w) = fun _ => 0) q
        have e3 : mJ (newC w (2, 0, (jw n).toNat) (jw n).toNat) (64 + mN w) q = 0 := congrFun (if_pos rfl : (up1 (mJ w) (64 + mN w) (fun _ => 0)) (64 + mN w) = fun _ => 0) q
        simp only [e1, e3]
        rfl
    · rename_i heq
      have h := Sum.inl.inj (Option.some.inj h)
      subst h
      have hMN : mN (newC w (2, 1, (jw n).toNat) (jw n).toNat) = mN w + 1 := rfl
      have hMK : mK (newC w (2, 1, (jw n).toNat) (jw n).toNat) = mK w + (jw n).toNat := rfl
      rw [hMN] at hgN
      rw [hMK] at hgK
      have hsz := hrep.1
      have had0 := had (mN w)
      have e9 : H.size = ad (64 + mN w) := by rw [had0, hsz]
      have hR : cells + 1 ≤ R.cells := by simp only at hn; omega
      have hR2 : slots + (jw n).toNat ≤ R.slots := by simp only at hk; omega
      refine va_newaK (atype := .byte) hx hb (hts _ jw_arrB) rfl hd rfl (fun q => by have := j32_lt0.mp q; omega) (j32_clamp n) (by show (jw n).toNat * 1 ≤ _; omega) hR hR2 e9 fun H1 cA1 e1 z1 o1 hAr hNm => ?_
      have hcA : cA1 = cA 1 := Option.some.inj (hNm.symm.trans (hKK.1.2 1 _ rfl).2)
      subst hcA
      refine k ls H1 locs (cells + 1) (slots + (jw n).toNat) hl (rep_new had hrep (by rw [z1, e9]) (fun q hq => o1 q (by rw [← e9]; exact hq)) (fun ci2 z2 hc2 => ?_) (fun tg n2 hc2 => ?_) (Or.inr rfl)) hlocs (by show mN w + 1 = _; simp only at hn; omega) (by show mK w + (jw n).toNat = _; simp only at hk; omega)
      · cases hc2
      · cases hc2
        refine ⟨by omega, by omega, ?_⟩
        unfold jm_arr
        rw [e1]
        congr 1
        congr 1
        funext q
        unfold jm_el
        have e1 : mI (newC w (2, 1, (jw n).toNat) (jw n).toNat) (64 + mN w) q = 0 := congrFun (if_pos rfl : (up1 (mI w) (64 + mN w) (fun _ => 0)) (64 + mN w) = fun _ => 0) q
        have e3 : mJ (newC w (2, 1, (jw n).toNat) (jw n).toNat) (64 + mN w) q = 0 := congrFun (if_pos rfl : (up1 (mJ w) (64 + mN w) (fun _ => 0)) (64 + mN w) = fun _ => 0) q
        simp only [e1, e3]
        rfl
    · rename_i heq
      have h := Sum.inl.inj (Option.some.inj h)
      subst h
      have hMN : mN (newC w (2, 2, (jw n).toNat) (jw n).toNat) = mN w + 1 := rfl
      have hMK : mK (newC w (2, 2, (jw n).toNat) (jw n).toNat) = mK w + (jw n).toNat := rfl
      rw [hMN] at hgN
      rw [hMK] at hgK
      have hsz := hrep.1
      have had0 := had (mN w)
      have e9 : H.size = ad (64 + mN w) := by rw [had0, hsz]
      have hR : cells + 1 ≤ R.cells := by simp only at hn; omega
      have hR2 : slots + (jw n).toNat ≤ R.slots := by simp only at hk; omega
      refine va_newaK (atype := .long) hx hb (hts _ jw_arrL) rfl hd rfl (fun q => by have := j32_lt0.mp q; omega) (j32_clamp n) (by show (jw n).toNat * 8 ≤ _; omega) hR hR2 e9 fun H1 cA1 e1 z1 o1 hAr hNm => ?_
      have hcA : cA1 = cA 2 := Option.some.inj (hNm.symm.trans (hKK.1.2 2 _ rfl).2)
      subst hcA
      refine k ls H1 locs (cells + 1) (slots + (jw n).toNat) hl (rep_new had hrep (by rw [z1, e9]) (fun q hq => o1 q (by rw [← e9]; exact hq)) (fun ci2 z2 hc2 => ?_) (fun tg n2 hc2 => ?_) (Or.inr rfl)) hlocs (by show mN w + 1 = _; simp only at hn; omega) (by show mK w + (jw n).toNat = _; simp only at hk; omega)
      · cases hc2
      · cases hc2
        refine ⟨by omega, by omega, ?_⟩
        unfold jm_arr
        rw [e1]
        congr 1
        congr 1
        funext q
        unfold jm_el
        have e1 : mI (newC w (2, 2, (jw n).toNat) (jw n).toNat) (64 + mN w) q = 0 := congrFun (if_pos rfl : (up1 (mI w) (64 + mN w) (fun _ => 0)) (64 + mN w) = fun _ => 0) q
        have e3 : mJ (newC w (2, 2, (jw n).toNat) (jw n).toNat) (64 + mN w) q = 0 := congrFun (if_pos rfl : (up1 (mJ w) (64 + mN w) (fun _ => 0)) (64 + mN w) = fun _ => 0) q
        simp only [e1, e3]
        rfl
    · cases h
    · cases h
  · cases h
theorem o_anewarray {idx : Nat} (X : jm_X D cA ad adV B H0 p R s m args meth c i) (hd : decode (jm_b i) pc = .ok (.anewarray idx, 3)) (h : jm_ins i (.anewarray idx) pc lv st w = some (.inl g)) (hgN : mN g.2.2.2 ≤ n0 + R.cells) (hgK : mK g.2.2.2 ≤ k0 + R.slots) (k : jm_C D cA ad B H0 p l e R s m args below meth c Q i n0 k0 g) : jm_C D cA ad B H0 p l e R s m args below meth c Q i n0 k0 (pc, lv, st, w) := by
  obtain ⟨hx, hb, hml, hown, hts, hlk, hini, hrt, hfr, hlo, hKK, had⟩ := X
  intro ls H locs cells slots hl hrep hlocs hn hk
  simp only [jm_ins, jgo] at h
  split at h
  · rename_i r0 s0 b z n t hq
    split at h
    · rename_i hc
      have h := Sum.inl.inj (Option.some.inj h)
      subst h
      have hMN : mN (newC w (2, 3, (jw n).toNat) (jw n).toNat) = mN w + 1 := rfl
      have hMK : mK (newC w (2, 3, (jw n).toNat) (jw n).toNat) = mK w + (jw n).toNat := rfl
      rw [hMN] at hgN
      rw [hMK] at hgK
      have hsz := hrep.1
      have had0 := had (mN w)
      have e9 : H.size = ad (64 + mN w) := by rw [had0, hsz]
      have hR : cells + 1 ≤ R.cells := by simp only at hn; omega
      have hR2 : slots + (jw n).toNat ≤ R.slots := by simp only at hk; omega
      have hcl := j32_clamp n
      obtain ⟨kA0, comp0, -, -, -, hNm⟩ := (hKK.1.2 3 _ rfl).2
      refine W.anew hx hb hown (jm_nlink hts hq) (va_AO.use hKK.2.1) rfl hd rfl (fun q => by have := j32_lt0.mp q; omega) (by rw [hcl]; omega) hR (by rw [hcl]; exact hR2) fun cA1 kA comp f1 f2 f3 f4 => ?_
      have hcA : cA1 = cA 3 := Option.some.inj (f1.symm.trans hNm)
      subst hcA
      rw [hcl]
      generalize hH1 : H.push ({ cls := cA 3, slots := Array.replicate (jw n).toNat .null, vm := .none } : Cell) = H1
      have z1 : H1.size = H.size + 1 := by rw [← hH1, Array.size_push]
      have e1 : H1[H.size]? = some (arrV (cA 3) (jw n).toNat (fun _ => .null)) := by rw [← hH1, Array.getElem?_push_size, ← arrV_new]
      have o1 : ∀ q : Nat, q < H.size → H1[q]? = H[q]? := fun q hq => by rw [← hH1, Array.getElem?_push, if_neg (Nat.ne_of_lt hq)]
      rw [e9] at e1 ⊢
      refine k ls H1 locs (cells + 1) (slots + (jw n).toNat) hl (rep_new had hrep z1 o1 (fun ci2 z2 hc2 => ?_) (fun tg n2 hc2 => ?_) (Or.inr rfl)) hlocs (by show mN w + 1 = _; simp only at hn; omega) (by show mK w + (jw n).toNat = _; simp only at hk; omega)
      · cases hc2
      · cases hc2
        refine ⟨by omega, by omega, ?_⟩
        unfold jm_arr
        rw [e1]
        congr 1
        congr 1
        funext q
        unfold jm_el
        have e2 : mR (newC w (2, 3, (jw n).toNat) (jw n).toNat) (64 + mN w) q = none := congrFun (if_pos rfl : (up1 (mR w) (64 + mN w) (fun _ => none)) (64 + mN w) = fun _ => none) q
        simp only [e2]
        rfl
    · cases h
  · cases h
end MEMB
