/-! A step of the small machine, walked by the machine. -/
section ONE
variable {D : va_G} {cA : Nat → ClassId} {ad adV : Nat → Nat} {B : Nat} {H0 : Heap} {p : Program} {l : Launch} {e : Env} {R : Room} {s : State} {m : MethodId} {args : Array Value} {below : List Frame} {meth : Method} {c : Code} {Q : State → Prop} {i n0 k0 : Nat}
variable {pc : Nat} {lv : jmL} {st : List jmV} {w : jmW} {g : jmF}
theorem o_iconst {n : Int} (X : jm_X D cA ad adV B H0 p R s m args meth c i) (hd : decode (jm_b i) pc = .ok (.iconst n, 1)) (h : jm_ins i (.iconst n) pc lv st w = some (.inl g)) (k : jm_C D cA ad B H0 p l e R s m args below meth c Q i n0 k0 g) : jm_C D cA ad B H0 p l e R s m args below meth c Q i n0 k0 (pc, lv, st, w) := by
  obtain ⟨hx, hb, hml, hown, hts, hlk, hini, hrt, hfr, hlo, hKK, had⟩ := X
  intro ls H locs cells slots hl hrep hlocs hn hk
  have h := Sum.inl.inj (Option.some.inj h)
  subst h
  refine lv_iconst hx hb hd rfl ?_
  exact k ls H locs cells slots hl hrep hlocs hn hk
theorem o_bipush {n : Int} (X : jm_X D cA ad adV B H0 p R s m args meth c i) (hd : decode (jm_b i) pc = .ok (.bipush n, 2)) (h : jm_ins i (.bipush n) pc lv st w = some (.inl g)) (k : jm_C D cA ad B H0 p l e R s m args below meth c Q i n0 k0 g) : jm_C D cA ad B H0 p l e R s m args below meth c Q i n0 k0 (pc, lv, st, w) := by
  obtain ⟨hx, hb, hml, hown, hts, hlk, hini, hrt, hfr, hlo, hKK, had⟩ := X
  intro ls H locs cells slots hl hrep hlocs hn hk
  have h := Sum.inl.inj (Option.some.inj h)
  subst h
  refine lv_bipush hx hb hd (j8_32 n) ?_
  exact k ls H locs cells slots hl hrep hlocs hn hk
theorem o_sipush {n : Int} (X : jm_X D cA ad adV B H0 p R s m args meth c i) (hd : decode (jm_b i) pc = .ok (.sipush n, 3)) (h : jm_ins i (.sipush n) pc lv st w = some (.inl g)) (k : jm_C D cA ad B H0 p l e R s m args below meth c Q i n0 k0 g) : jm_C D cA ad B H0 p l e R s m args below meth c Q i n0 k0 (pc, lv, st, w) := by
  obtain ⟨hx, hb, hml, hown, hts, hlk, hini, hrt, hfr, hlo, hKK, had⟩ := X
  intro ls H locs cells slots hl hrep hlocs hn hk
  have h := Sum.inl.inj (Option.some.inj h)
  subst h
  refine lv_sipush hx hb hd (j16_32 n) ?_
  exact k ls H locs cells slots hl hrep hlocs hn hk
theorem o_lconst {n : Fin 2} (X : jm_X D cA ad adV B H0 p R s m args meth c i) (hd : decode (jm_b i) pc = .ok (.lconst n, 1)) (h : jm_ins i (.lconst n) pc lv st w = some (.inl g)) (k : jm_C D cA ad B H0 p l e R s m args below meth c Q i n0 k0 g) : jm_C D cA ad B H0 p l e R s m args below meth c Q i n0 k0 (pc, lv, st, w) := by
  obtain ⟨hx, hb, hml, hown, hts, hlk, hini, hrt, hfr, hlo, hKK, had⟩ := X
  intro ls H locs cells slots hl hrep hlocs hn hk
  have h := Sum.inl.inj (Option.some.inj h)
  subst h
  refine lv_lconst hx hb hd (v := Int64.ofInt (n : Nat)) (by first | rfl | exact (Int64.ofInt_eq_ofNat).symm) ?_
  exact k ls H locs cells slots hl hrep hlocs hn hk
theorem o_aconst_null (X : jm_X D cA ad adV B H0 p R s m args meth c i) (hd : decode (jm_b i) pc = .ok (.aconst_null, 1)) (h : jm_ins i (.aconst_null) pc lv st w = some (.inl g)) (k : jm_C D cA ad B H0 p l e R s m args below meth c Q i n0 k0 g) : jm_C D cA ad B H0 p l e R s m args below meth c Q i n0 k0 (pc, lv, st, w) := by
  obtain ⟨hx, hb, hml, hown, hts, hlk, hini, hrt, hfr, hlo, hKK, had⟩ := X
  intro ls H locs cells slots hl hrep hlocs hn hk
  have h := Sum.inl.inj (Option.some.inj h)
  subst h
  refine lv_null hx hb hd ?_
  exact k ls H locs cells slots hl hrep hlocs hn hk
theorem o_iload_n {z : Fin 4} (X : jm_X D cA ad adV B H0 p R s m args meth c i) (hd : decode (jm_b i) pc = .ok (.iload_n z, 1)) (h : jm_ins i (.iload_n z) pc lv st w = some (.inl g)) (k : jm_C D cA ad B H0 p l e R s m args below meth c Q i n0 k0 g) : jm_C D cA ad B H0 p l e R s m args below meth c Q i n0 k0 (pc, lv, st, w) := by
  obtain ⟨hx, hb, hml, hown, hts, hlk, hini, hrt, hfr, hlo, hKK, had⟩ := X
  intro ls H locs cells slots hl hrep hlocs hn hk
  simp only [jm_ins, jgo] at h
  split at h
  · rename_i x hg
    have h := Sum.inl.inj (Option.some.inj h)
    subst h
    exact lv_iload_n hx hb hd rfl (lv_jg hl hg) (k ls H locs cells slots hl hrep hlocs hn hk)
  · cases h
theorem o_iload {z : Nat} (X : jm_X D cA ad adV B H0 p R s m args meth c i) (hd : decode (jm_b i) pc = .ok (.iload z, 2)) (h : jm_ins i (.iload z) pc lv st w = some (.inl g)) (k : jm_C D cA ad B H0 p l e R s m args below meth c Q i n0 k0 g) : jm_C D cA ad B H0 p l e R s m args below meth c Q i n0 k0 (pc, lv, st, w) := by
  obtain ⟨hx, hb, hml, hown, hts, hlk, hini, hrt, hfr, hlo, hKK, had⟩ := X
  intro ls H locs cells slots hl hrep hlocs hn hk
  simp only [jm_ins, jgo] at h
  split at h
  · rename_i x hg
    have h := Sum.inl.inj (Option.some.inj h)
    subst h
    exact lv_iload hx hb hd (lv_jg hl hg) (k ls H locs cells slots hl hrep hlocs hn hk)
  · cases h
theorem o_lload_n {z : Fin 4} (X : jm_X D cA ad adV B H0 p R s m args meth c i) (hd : decode (jm_b i) pc = .ok (.lload_n z, 1)) (h : jm_ins i (.lload_n z) pc lv st w = some (.inl g)) (k : jm_C D cA ad B H0 p l e R s m args below meth c Q i n0 k0 g) : jm_C D cA ad B H0 p l e R s m args below meth c Q i n0 k0 (pc, lv, st, w) := by
  obtain ⟨hx, hb, hml, hown, hts, hlk, hini, hrt, hfr, hlo, hKK, had⟩ := X
  intro ls H locs cells slots hl hrep hlocs hn hk
  simp only [jm_ins, jgo] at h
  split at h
  · rename_i x hg
    have h := Sum.inl.inj (Option.some.inj h)
    subst h
    exact lv_lload_n hx hb hd rfl (lv_jg hl hg) (k ls H locs cells slots hl hrep hlocs hn hk)
  · cases h
theorem o_lload {z : Nat} (X : jm_X D cA ad adV B H0 p R s m args meth c i) (hd : decode (jm_b i) pc = .ok (.lload z, 2)) (h : jm_ins i (.lload z) pc lv st w = some (.inl g)) (k : jm_C D cA ad B H0 p l e R s m args below meth c Q i n0 k0 g) : jm_C D cA ad B H0 p l e R s m args below meth c Q i n0 k0 (pc, lv, st, w) := by
  obtain ⟨hx, hb, hml, hown, hts, hlk, hini, hrt, hfr, hlo, hKK, had⟩ := X
  intro ls H locs cells slots hl hrep hlocs hn hk
  simp only [jm_ins, jgo] at h
  split at h
  · rename_i x hg
    have h := Sum.inl.inj (Option.some.inj h)
    subst h
    exact lv_lload hx hb hd (lv_jg hl hg) (k ls H locs cells slots hl hrep hlocs hn hk)
  · cases h
theorem o_aload_n {z : Fin 4} (X : jm_X D cA ad adV B H0 p R s m args meth c i) (hd : decode (jm_b i) pc = .ok (.aload_n z, 1)) (h : jm_ins i (.aload_n z) pc lv st w = some (.inl g)) (k : jm_C D cA ad B H0 p l e R s m args below meth c Q i n0 k0 g) : jm_C D cA ad B H0 p l e R s m args below meth c Q i n0 k0 (pc, lv, st, w) := by
  obtain ⟨hx, hb, hml, hown, hts, hlk, hini, hrt, hfr, hlo, hKK, had⟩ := X
  intro ls H locs cells slots hl hrep hlocs hn hk
  simp only [jm_ins, jgo] at h
  split at h
  · rename_i x hg
    have h := Sum.inl.inj (Option.some.inj h)
    subst h
    cases x with
    | none => exact lv_aload_nN hx hb hd rfl (lv_jg hl hg) (k ls H locs cells slots hl hrep hlocs hn hk)
    | some x => exact lv_aload_n hx hb hd rfl (lv_jg hl hg) (k ls H locs cells slots hl hrep hlocs hn hk)
  · cases h
theorem o_aload {z : Nat} (X : jm_X D cA ad adV B H0 p R s m args meth c i) (hd : decode (jm_b i) pc = .ok (.aload z, 2)) (h : jm_ins i (.aload z) pc lv st w = some (.inl g)) (k : jm_C D cA ad B H0 p l e R s m args below meth c Q i n0 k0 g) : jm_C D cA ad B H0 p l e R s m args below meth c Q i n0 k0 (pc, lv, st, w) := by
  obtain ⟨hx, hb, hml, hown, hts, hlk, hini, hrt, hfr, hlo, hKK, had⟩ := X
  intro ls H locs cells slots hl hrep hlocs hn hk
  simp only [jm_ins, jgo] at h
  split at h
  · rename_i x hg
    have h := Sum.inl.inj (Option.some.inj h)
    subst h
    cases x with
    | none => exact lv_aloadN hx hb hd (lv_jg hl hg) (k ls H locs cells slots hl hrep hlocs hn hk)
    | some x => exact lv_aload hx hb hd (lv_jg hl hg) (k ls H locs cells slots hl hrep hlocs hn hk)
  · cases h
theorem o_istore_n {z : Fin 4} (X : jm_X D cA ad adV B H0 p R s m args meth c i) (hd : decode (jm_b i) pc = .ok (.istore_n z, 1)) (h : jm_ins i (.istore_n z) pc lv st w = some (.inl g)) (k : jm_C D cA ad B H0 p l e R s m args below meth c Q i n0 k0 g) : jm_C D cA ad B H0 p l e R s m args below meth c Q i n0 k0 (pc, lv, st, w) := by
  obtain ⟨hx, hb, hml, hown, hts, hlk, hini, hrt, hfr, hlo, hKK, had⟩ := X
  intro ls H locs cells slots hl hrep hlocs hn hk
  simp only [jm_ins, jgo] at h
  split at h
  · rename_i x t
    split at h
    · rename_i hm
      have h := Sum.inl.inj (Option.some.inj h)
      subst h
      exact lv_istore_n hx hb hd rfl hl hm rfl (fun ls' hl' => k ls' H locs cells slots (lv_js rfl hl') hrep hlocs hn hk)
    · cases h
  · cases h
theorem o_istore {z : Nat} (X : jm_X D cA ad adV B H0 p R s m args meth c i) (hd : decode (jm_b i) pc = .ok (.istore z, 2)) (h : jm_ins i (.istore z) pc lv st w = some (.inl g)) (k : jm_C D cA ad B H0 p l e R s m args below meth c Q i n0 k0 g) : jm_C D cA ad B H0 p l e R s m args below meth c Q i n0 k0 (pc, lv, st, w) := by
  obtain ⟨hx, hb, hml, hown, hts, hlk, hini, hrt, hfr, hlo, hKK, had⟩ := X
  intro ls H locs cells slots hl hrep hlocs hn hk
  simp only [jm_ins, jgo] at h
  split at h
  · rename_i x t
    split at h
    · rename_i hm
      have h := Sum.inl.inj (Option.some.inj h)
      subst h
      exact lv_istore hx hb hd hl hm rfl (fun ls' hl' => k ls' H locs cells slots (lv_js rfl hl') hrep hlocs hn hk)
    · cases h
  · cases h
theorem o_lstore_n {z : Fin 4} (X : jm_X D cA ad adV B H0 p R s m args meth c i) (hd : decode (jm_b i) pc = .ok (.lstore_n z, 1)) (h : jm_ins i (.lstore_n z) pc lv st w = some (.inl g)) (k : jm_C D cA ad B H0 p l e R s m args below meth c Q i n0 k0 g) : jm_C D cA ad B H0 p l e R s m args below meth c Q i n0 k0 (pc, lv, st, w) := by
  obtain ⟨hx, hb, hml, hown, hts, hlk, hini, hrt, hfr, hlo, hKK, had⟩ := X
  intro ls H locs cells slots hl hrep hlocs hn hk
  simp only [jm_ins, jgo] at h
  split at h
  · rename_i x t
    split at h
    · rename_i hm
      have h := Sum.inl.inj (Option.some.inj h)
      subst h
      exact lv_lstore_n hx hb hd rfl hl hm rfl (fun ls' hl' => k ls' H locs cells slots (lv_jsl rfl hl') hrep hlocs hn hk)
    · cases h
  · cases h
theorem o_lstore {z : Nat} (X : jm_X D cA ad adV B H0 p R s m args meth c i) (hd : decode (jm_b i) pc = .ok (.lstore z, 2)) (h : jm_ins i (.lstore z) pc lv st w = some (.inl g)) (k : jm_C D cA ad B H0 p l e R s m args below meth c Q i n0 k0 g) : jm_C D cA ad B H0 p l e R s m args below meth c Q i n0 k0 (pc, lv, st, w) := by
  obtain ⟨hx, hb, hml, hown, hts, hlk, hini, hrt, hfr, hlo, hKK, had⟩ := X
  intro ls H locs cells slots hl hrep hlocs hn hk
  simp only [jm_ins, jgo] at h
  split at h
  · rename_i x t
    split at h
    · rename_i hm
      have h := Sum.inl.inj (Option.some.inj h)
      subst h
      exact lv_lstore hx hb hd hl hm rfl (fun ls' hl' => k ls' H locs cells slots (lv_jsl rfl hl') hrep hlocs hn hk)
    · cases h
  · cases h
theorem o_astore_n {z : Fin 4} (X : jm_X D cA ad adV B H0 p R s m args meth c i) (hd : decode (jm_b i) pc = .ok (.astore_n z, 1)) (h : jm_ins i (.astore_n z) pc lv st w = some (.inl g)) (k : jm_C D cA ad B H0 p l e R s m args below meth c Q i n0 k0 g) : jm_C D cA ad B H0 p l e R s m args below meth c Q i n0 k0 (pc, lv, st, w) := by
  obtain ⟨hx, hb, hml, hown, hts, hlk, hini, hrt, hfr, hlo, hKK, had⟩ := X
  intro ls H locs cells slots hl hrep hlocs hn hk
  simp only [jm_ins, jgo] at h
  split at h
  · rename_i x t
    split at h
    · rename_i hm
      have h := Sum.inl.inj (Option.some.inj h)
      subst h
      cases x with
      | none => exact lv_astore_nN hx hb hd rfl hl hm rfl (fun ls' hl' => k ls' H locs cells slots (lv_js rfl hl') hrep hlocs hn hk)
      | some x => exact lv_astore_n hx hb hd rfl hl hm rfl (fun ls' hl' => k ls' H locs cells slots (lv_js rfl hl') hrep hlocs hn hk)
    · cases h
  · cases h
theorem o_astore {z : Nat} (X : jm_X D cA ad adV B H0 p R s m args meth c i) (hd : decode (jm_b i) pc = .ok (.astore z, 2)) (h : jm_ins i (.astore z) pc lv st w = some (.inl g)) (k : jm_C D cA ad B H0 p l e R s m args below meth c Q i n0 k0 g) : jm_C D cA ad B H0 p l e R s m args below meth c Q i n0 k0 (pc, lv, st, w) := by
  obtain ⟨hx, hb, hml, hown, hts, hlk, hini, hrt, hfr, hlo, hKK, had⟩ := X
  intro ls H locs cells slots hl hrep hlocs hn hk
  simp only [jm_ins, jgo] at h
  split at h
  · rename_i x t
    split at h
    · rename_i hm
      have h := Sum.inl.inj (Option.some.inj h)
      subst h
      cases x with
      | none => exact lv_astoreN hx hb hd hl hm rfl (fun ls' hl' => k ls' H locs cells slots (lv_js rfl hl') hrep hlocs hn hk)
      | some x => exact lv_astore hx hb hd hl hm rfl (fun ls' hl' => k ls' H locs cells slots (lv_js rfl hl') hrep hlocs hn hk)
    · cases h
  · cases h
theorem o_iinc {z : Nat} {n : Int} (X : jm_X D cA ad adV B H0 p R s m args meth c i) (hd : decode (jm_b i) pc = .ok (.iinc z n, 3)) (h : jm_ins i (.iinc z n) pc lv st w = some (.inl g)) (k : jm_C D cA ad B H0 p l e R s m args below meth c Q i n0 k0 g) : jm_C D cA ad B H0 p l e R s m args below meth c Q i n0 k0 (pc, lv, st, w) := by
  obtain ⟨hx, hb, hml, hown, hts, hlk, hini, hrt, hfr, hlo, hKK, had⟩ := X
  intro ls H locs cells slots hl hrep hlocs hn hk
  simp only [jm_ins, jgo] at h
  split at h
  · rename_i x hg
    split at h
    · rename_i hm
      have h := Sum.inl.inj (Option.some.inj h)
      subst h
      have hmem : (z, Value.int (Int32.ofInt x)) ∈ jeml ad lv := List.mem_map.mpr ⟨(z, .inl x), jg_mem hg, rfl⟩
      obtain ⟨q, hq⟩ := List.getElem?_of_mem hmem
      exact lv_iinc hx hb hd hl hq (v := Int32.ofInt (x + n)) (Int32.ofInt_add x n).symm hm rfl (fun ls' hl' => k ls' H locs cells slots (lv_js rfl hl') hrep hlocs hn hk)
    · cases h
  · cases h
theorem o_dup (X : jm_X D cA ad adV B H0 p R s m args meth c i) (hd : decode (jm_b i) pc = .ok (.dup, 1)) (h : jm_ins i (.dup) pc lv st w = some (.inl g)) (k : jm_C D cA ad B H0 p l e R s m args below meth c Q i n0 k0 g) : jm_C D cA ad B H0 p l e R s m args below meth c Q i n0 k0 (pc, lv, st, w) := by
  obtain ⟨hx, hb, hml, hown, hts, hlk, hini, hrt, hfr, hlo, hKK, had⟩ := X
  intro ls H locs cells slots hl hrep hlocs hn hk
  simp only [jm_ins, jgo] at h
  split at h
  · rename_i v t
    split at h
    · cases h
    · rename_i hv
      have h := Sum.inl.inj (Option.some.inj h)
      subst h
      exact lv_dup hx hb hd (jem_cat1 hv) (k ls H locs cells slots hl hrep hlocs hn hk)
  · cases h
theorem o_dup2 (X : jm_X D cA ad adV B H0 p R s m args meth c i) (hd : decode (jm_b i) pc = .ok (.dup2, 1)) (h : jm_ins i (.dup2) pc lv st w = some (.inl g)) (k : jm_C D cA ad B H0 p l e R s m args below meth c Q i n0 k0 g) : jm_C D cA ad B H0 p l e R s m args below meth c Q i n0 k0 (pc, lv, st, w) := by
  obtain ⟨hx, hb, hml, hown, hts, hlk, hini, hrt, hfr, hlo, hKK, had⟩ := X
  intro ls H locs cells slots hl hrep hlocs hn hk
  simp only [jm_ins, jgo] at h
  split at h
  · rename_i v u t
    split at h
    · cases h
    · rename_i hv
      have h := Sum.inl.inj (Option.some.inj h)
      subst h
      exact lv_dup2_11 hx hb hd (jem_cat1 (fun z => hv (Or.inl z))) (jem_cat1 (fun z => hv (Or.inr z))) (k ls H locs cells slots hl hrep hlocs hn hk)
  · cases h
theorem o_pop (X : jm_X D cA ad adV B H0 p R s m args meth c i) (hd : decode (jm_b i) pc = .ok (.pop, 1)) (h : jm_ins i (.pop) pc lv st w = some (.inl g)) (k : jm_C D cA ad B H0 p l e R s m args below meth c Q i n0 k0 g) : jm_C D cA ad B H0 p l e R s m args below meth c Q i n0 k0 (pc, lv, st, w) := by
  obtain ⟨hx, hb, hml, hown, hts, hlk, hini, hrt, hfr, hlo, hKK, had⟩ := X
  intro ls H locs cells slots hl hrep hlocs hn hk
  simp only [jm_ins, jgo] at h
  split at h
  · rename_i v t
    split at h
    · cases h
    · rename_i hv
      have h := Sum.inl.inj (Option.some.inj h)
      subst h
      exact lv_pop hx hb hd (jem_cat1 hv) (k ls H locs cells slots hl hrep hlocs hn hk)
  · cases h
theorem o_iadd (X : jm_X D cA ad adV B H0 p R s m args meth c i) (hd : decode (jm_b i) pc = .ok (.iadd, 1)) (h : jm_ins i (.iadd) pc lv st w = some (.inl g)) (k : jm_C D cA ad B H0 p l e R s m args below meth c Q i n0 k0 g) : jm_C D cA ad B H0 p l e R s m args below meth c Q i n0 k0 (pc, lv, st, w) := by
  obtain ⟨hx, hb, hml, hown, hts, hlk, hini, hrt, hfr, hlo, hKK, had⟩ := X
  intro ls H locs cells slots hl hrep hlocs hn hk
  simp only [jm_ins, jgo] at h
  split at h
  · rename_i y x t
    have h := Sum.inl.inj (Option.some.inj h)
    subst h
    refine lv_iadd hx hb hd ?_
    rw [← Int32.ofInt_add]
    exact k ls H locs cells slots hl hrep hlocs hn hk
  · cases h
theorem o_isub (X : jm_X D cA ad adV B H0 p R s m args meth c i) (hd : decode (jm_b i) pc = .ok (.isub, 1)) (h : jm_ins i (.isub) pc lv st w = some (.inl g)) (k : jm_C D cA ad B H0 p l e R s m args below meth c Q i n0 k0 g) : jm_C D cA ad B H0 p l e R s m args below meth c Q i n0 k0 (pc, lv, st, w) := by
  obtain ⟨hx, hb, hml, hown, hts, hlk, hini, hrt, hfr, hlo, hKK, had⟩ := X
  intro ls H locs cells slots hl hrep hlocs hn hk
  simp only [jm_ins, jgo] at h
  split at h
  · rename_i y x t
    have h := Sum.inl.inj (Option.some.inj h)
    subst h
    refine lv_isub hx hb hd ?_
    rw [← Int32.ofInt_sub]
    exact k ls H locs cells slots hl hrep hlocs hn hk
  · cases h
theorem o_imul (X : jm_X D cA ad adV B H0 p R s m args meth c i) (hd : decode (jm_b i) pc = .ok (.imul, 1)) (h : jm_ins i (.imul) pc lv st w = some (.inl g)) (k : jm_C D cA ad B H0 p l e R s m args below meth c Q i n0 k0 g) : jm_C D cA ad B H0 p l e R s m args below meth c Q i n0 k0 (pc, lv, st, w) := by
  obtain ⟨hx, hb, hml, hown, hts, hlk, hini, hrt, hfr, hlo, hKK, had⟩ := X
  intro ls H locs cells slots hl hrep hlocs hn hk
  simp only [jm_ins, jgo] at h
  split at h
  · rename_i y x t
    have h := Sum.inl.inj (Option.some.inj h)
    subst h
    refine lv_imul hx hb hd ?_
    rw [← Int32.ofInt_mul]
    exact k ls H locs cells slots hl hrep hlocs hn hk
  · cases h
theorem o_iand (X : jm_X D cA ad adV B H0 p R s m args meth c i) (hd : decode (jm_b i) pc = .ok (.iand, 1)) (h : jm_ins i (.iand) pc lv st w = some (.inl g)) (k : jm_C D cA ad B H0 p l e R s m args below meth c Q i n0 k0 g) : jm_C D cA ad B H0 p l e R s m args below meth c Q i n0 k0 (pc, lv, st, w) := by
  obtain ⟨hx, hb, hml, hown, hts, hlk, hini, hrt, hfr, hlo, hKK, had⟩ := X
  intro ls H locs cells slots hl hrep hlocs hn hk
  simp only [jm_ins, jgo] at h
  split at h
  · rename_i y x t
    have h := Sum.inl.inj (Option.some.inj h)
    subst h
    have kk := k ls H locs cells slots hl hrep hlocs hn hk
    refine lv_iand hx hb hd ?_
    have e1 : Int32.ofInt (ji_and x y) = _ := Int32.ofInt_toInt _
    rw [← e1]
    exact kk
  · cases h
theorem o_ior (X : jm_X D cA ad adV B H0 p R s m args meth c i) (hd : decode (jm_b i) pc = .ok (.ior, 1)) (h : jm_ins i (.ior) pc lv st w = some (.inl g)) (k : jm_C D cA ad B H0 p l e R s m args below meth c Q i n0 k0 g) : jm_C D cA ad B H0 p l e R s m args below meth c Q i n0 k0 (pc, lv, st, w) := by
  obtain ⟨hx, hb, hml, hown, hts, hlk, hini, hrt, hfr, hlo, hKK, had⟩ := X
  intro ls H locs cells slots hl hrep hlocs hn hk
  simp only [jm_ins, jgo] at h
  split at h
  · rename_i y x t
    have h := Sum.inl.inj (Option.some.inj h)
    subst h
    have kk := k ls H locs cells slots hl hrep hlocs hn hk
    refine lv_ior hx hb hd ?_
    have e1 : Int32.ofInt (ji_or x y) = _ := Int32.ofInt_toInt _
    rw [← e1]
    exact kk
  · cases h
theorem o_ixor (X : jm_X D cA ad adV B H0 p R s m args meth c i) (hd : decode (jm_b i) pc = .ok (.ixor, 1)) (h : jm_ins i (.ixor) pc lv st w = some (.inl g)) (k : jm_C D cA ad B H0 p l e R s m args below meth c Q i n0 k0 g) : jm_C D cA ad B H0 p l e R s m args below meth c Q i n0 k0 (pc, lv, st, w) := by
  obtain ⟨hx, hb, hml, hown, hts, hlk, hini, hrt, hfr, hlo, hKK, had⟩ := X
  intro ls H locs cells slots hl hrep hlocs hn hk
  simp only [jm_ins, jgo] at h
  split at h
  · rename_i y x t
    have h := Sum.inl.inj (Option.some.inj h)
    subst h
    have kk := k ls H locs cells slots hl hrep hlocs hn hk
    refine lv_ixor hx hb hd ?_
    have e1 : Int32.ofInt (ji_xor x y) = _ := Int32.ofInt_toInt _
    rw [← e1]
    exact kk
  · cases h
theorem o_ishl (X : jm_X D cA ad adV B H0 p R s m args meth c i) (hd : decode (jm_b i) pc = .ok (.ishl, 1)) (h : jm_ins i (.ishl) pc lv st w = some (.inl g)) (k : jm_C D cA ad B H0 p l e R s m args below meth c Q i n0 k0 g) : jm_C D cA ad B H0 p l e R s m args below meth c Q i n0 k0 (pc, lv, st, w) := by
  obtain ⟨hx, hb, hml, hown, hts, hlk, hini, hrt, hfr, hlo, hKK, had⟩ := X
  intro ls H locs cells slots hl hrep hlocs hn hk
  simp only [jm_ins, jgo] at h
  split at h
  · rename_i y x t
    have h := Sum.inl.inj (Option.some.inj h)
    subst h
    have kk := k ls H locs cells slots hl hrep hlocs hn hk
    refine lv_ishl hx hb hd ?_
    have e1 : Int32.ofInt (ji_shl x y) = _ := Int32.ofInt_toInt _
    rw [← e1]
    exact kk
  · cases h
theorem o_ishr (X : jm_X D cA ad adV B H0 p R s m args meth c i) (hd : decode (jm_b i) pc = .ok (.ishr, 1)) (h : jm_ins i (.ishr) pc lv st w = some (.inl g)) (k : jm_C D cA ad B H0 p l e R s m args below meth c Q i n0 k0 g) : jm_C D cA ad B H0 p l e R s m args below meth c Q i n0 k0 (pc, lv, st, w) := by
  obtain ⟨hx, hb, hml, hown, hts, hlk, hini, hrt, hfr, hlo, hKK, had⟩ := X
  intro ls H locs cells slots hl hrep hlocs hn hk
  simp only [jm_ins, jgo] at h
  split at h
  · rename_i y x t
    have h := Sum.inl.inj (Option.some.inj h)
    subst h
    have kk := k ls H locs cells slots hl hrep hlocs hn hk
    refine lv_ishr hx hb hd ?_
    have e1 : Int32.ofInt (ji_shr x y) = _ := Int32.ofInt_toInt _
    rw [← e1]
    exact kk
  · cases h
theorem o_iushr (X : jm_X D cA ad adV B H0 p R s m args meth c i) (hd : decode (jm_b i) pc = .ok (.iushr, 1)) (h : jm_ins i (.iushr) pc lv st w = some (.inl g)) (k : jm_C D cA ad B H0 p l e R s m args below meth c Q i n0 k0 g) : jm_C D cA ad B H0 p l e R s m args below meth c Q i n0 k0 (pc, lv, st, w) := by
  obtain ⟨hx, hb, hml, hown, hts, hlk, hini, hrt, hfr, hlo, hKK, had⟩ := X
  intro ls H locs cells slots hl hrep hlocs hn hk
  simp only [jm_ins, jgo] at h
  split at h
  · rename_i y x t
    have h := Sum.inl.inj (Option.some.inj h)
    subst h
    exact lv_iushr hx hb hd (v := Int32.ofInt (ji_ushr x y)) (Int32.ofInt_toInt _).symm (k ls H locs cells slots hl hrep hlocs hn hk)
  · cases h
theorem o_ineg (X : jm_X D cA ad adV B H0 p R s m args meth c i) (hd : decode (jm_b i) pc = .ok (.ineg, 1)) (h : jm_ins i (.ineg) pc lv st w = some (.inl g)) (k : jm_C D cA ad B H0 p l e R s m args below meth c Q i n0 k0 g) : jm_C D cA ad B H0 p l e R s m args below meth c Q i n0 k0 (pc, lv, st, w) := by
  obtain ⟨hx, hb, hml, hown, hts, hlk, hini, hrt, hfr, hlo, hKK, had⟩ := X
  intro ls H locs cells slots hl hrep hlocs hn hk
  simp only [jm_ins, jgo] at h
  split at h
  · rename_i x t
    have h := Sum.inl.inj (Option.some.inj h)
    subst h
    refine lv_ineg hx hb hd ?_
    rw [← Int32.ofInt_neg]
    exact k ls H locs cells slots hl hrep hlocs hn hk
  · cases h
theorem o_i2c (X : jm_X D cA ad adV B H0 p R s m args meth c i) (hd : decode (jm_b i) pc = .ok (.i2c, 1)) (h : jm_ins i (.i2c) pc lv st w = some (.inl g)) (k : jm_C D cA ad B H0 p l e R s m args below meth c Q i n0 k0 g) : jm_C D cA ad B H0 p l e R s m args below meth c Q i n0 k0 (pc, lv, st, w) := by
  obtain ⟨hx, hb, hml, hown, hts, hlk, hini, hrt, hfr, hlo, hKK, had⟩ := X
  intro ls H locs cells slots hl hrep hlocs hn hk
  simp only [jm_ins, jgo] at h
  split at h
  · rename_i x t
    have h := Sum.inl.inj (Option.some.inj h)
    subst h
    exact lv_i2c hx hb hd (v := Int32.ofInt (ji_c x)) (Int32.ofInt_toInt _).symm (k ls H locs cells slots hl hrep hlocs hn hk)
  · cases h
theorem o_i2b (X : jm_X D cA ad adV B H0 p R s m args meth c i) (hd : decode (jm_b i) pc = .ok (.i2b, 1)) (h : jm_ins i (.i2b) pc lv st w = some (.inl g)) (k : jm_C D cA ad B H0 p l e R s m args below meth c Q i n0 k0 g) : jm_C D cA ad B H0 p l e R s m args below meth c Q i n0 k0 (pc, lv, st, w) := by
  obtain ⟨hx, hb, hml, hown, hts, hlk, hini, hrt, hfr, hlo, hKK, had⟩ := X
  intro ls H locs cells slots hl hrep hlocs hn hk
  simp only [jm_ins, jgo] at h
  split at h
  · rename_i x t
    have h := Sum.inl.inj (Option.some.inj h)
    subst h
    exact lv_i2b hx hb hd (v := Int32.ofInt (ji_b x)) (Int32.ofInt_toInt _).symm (k ls H locs cells slots hl hrep hlocs hn hk)
  · cases h
theorem o_i2l (X : jm_X D cA ad adV B H0 p R s m args meth c i) (hd : decode (jm_b i) pc = .ok (.i2l, 1)) (h : jm_ins i (.i2l) pc lv st w = some (.inl g)) (k : jm_C D cA ad B H0 p l e R s m args below meth c Q i n0 k0 g) : jm_C D cA ad B H0 p l e R s m args below meth c Q i n0 k0 (pc, lv, st, w) := by
  obtain ⟨hx, hb, hml, hown, hts, hlk, hini, hrt, hfr, hlo, hKK, had⟩ := X
  intro ls H locs cells slots hl hrep hlocs hn hk
  simp only [jm_ins, jgo] at h
  split at h
  · rename_i x t
    have h := Sum.inl.inj (Option.some.inj h)
    subst h
    exact lv_i2l hx hb hd (v := Int64.ofInt (jw x)) (j32_i2l x) (k ls H locs cells slots hl hrep hlocs hn hk)
  · cases h
theorem o_l2i (X : jm_X D cA ad adV B H0 p R s m args meth c i) (hd : decode (jm_b i) pc = .ok (.l2i, 1)) (h : jm_ins i (.l2i) pc lv st w = some (.inl g)) (k : jm_C D cA ad B H0 p l e R s m args below meth c Q i n0 k0 g) : jm_C D cA ad B H0 p l e R s m args below meth c Q i n0 k0 (pc, lv, st, w) := by
  obtain ⟨hx, hb, hml, hown, hts, hlk, hini, hrt, hfr, hlo, hKK, had⟩ := X
  intro ls H locs cells slots hl hrep hlocs hn hk
  simp only [jm_ins, jgo] at h
  split at h
  · rename_i x t
    have h := Sum.inl.inj (Option.some.inj h)
    subst h
    exact lv_l2i hx hb hd (v := Int32.ofInt x) Int64.toInt32_ofInt (k ls H locs cells slots hl hrep hlocs hn hk)
  · cases h
theorem o_ladd (X : jm_X D cA ad adV B H0 p R s m args meth c i) (hd : decode (jm_b i) pc = .ok (.ladd, 1)) (h : jm_ins i (.ladd) pc lv st w = some (.inl g)) (k : jm_C D cA ad B H0 p l e R s m args below meth c Q i n0 k0 g) : jm_C D cA ad B H0 p l e R s m args below meth c Q i n0 k0 (pc, lv, st, w) := by
  obtain ⟨hx, hb, hml, hown, hts, hlk, hini, hrt, hfr, hlo, hKK, had⟩ := X
  intro ls H locs cells slots hl hrep hlocs hn hk
  simp only [jm_ins, jgo] at h
  split at h
  · rename_i y x t
    have h := Sum.inl.inj (Option.some.inj h)
    subst h
    refine lv_ladd hx hb hd ?_
    rw [← Int64.ofInt_add]
    exact k ls H locs cells slots hl hrep hlocs hn hk
  · cases h
theorem o_lmul (X : jm_X D cA ad adV B H0 p R s m args meth c i) (hd : decode (jm_b i) pc = .ok (.lmul, 1)) (h : jm_ins i (.lmul) pc lv st w = some (.inl g)) (k : jm_C D cA ad B H0 p l e R s m args below meth c Q i n0 k0 g) : jm_C D cA ad B H0 p l e R s m args below meth c Q i n0 k0 (pc, lv, st, w) := by
  obtain ⟨hx, hb, hml, hown, hts, hlk, hini, hrt, hfr, hlo, hKK, had⟩ := X
  intro ls H locs cells slots hl hrep hlocs hn hk
  simp only [jm_ins, jgo] at h
  split at h
  · rename_i y x t
    have h := Sum.inl.inj (Option.some.inj h)
    subst h
    refine lv_lmul hx hb hd ?_
    rw [← Int64.ofInt_mul]
    exact k ls H locs cells slots hl hrep hlocs hn hk
  · cases h
theorem o_idiv (X : jm_X D cA ad adV B H0 p R s m args meth c i) (hd : decode (jm_b i) pc = .ok (.idiv, 1)) (h : jm_ins i (.idiv) pc lv st w = some (.inl g)) (k : jm_C D cA ad B H0 p l e R s m args below meth c Q i n0 k0 g) : jm_C D cA ad B H0 p l e R s m args below meth c Q i n0 k0 (pc, lv, st, w) := by
  obtain ⟨hx, hb, hml, hown, hts, hlk, hini, hrt, hfr, hlo, hKK, had⟩ := X
  intro ls H locs cells slots hl hrep hlocs hn hk
  simp only [jm_ins, jgo] at h
  split at h
  · rename_i y x t
    split at h
    · cases h
    · rename_i hz
      have h := Sum.inl.inj (Option.some.inj h)
      subst h
      refine lv_idiv hx hb hd (fun z => hz (j32_eq0.mp z)) ?_
      rw [← j32_div]
      exact k ls H locs cells slots hl hrep hlocs hn hk
  · cases h
theorem o_irem (X : jm_X D cA ad adV B H0 p R s m args meth c i) (hd : decode (jm_b i) pc = .ok (.irem, 1)) (h : jm_ins i (.irem) pc lv st w = some (.inl g)) (k : jm_C D cA ad B H0 p l e R s m args below meth c Q i n0 k0 g) : jm_C D cA ad B H0 p l e R s m args below meth c Q i n0 k0 (pc, lv, st, w) := by
  obtain ⟨hx, hb, hml, hown, hts, hlk, hini, hrt, hfr, hlo, hKK, had⟩ := X
  intro ls H locs cells slots hl hrep hlocs hn hk
  simp only [jm_ins, jgo] at h
  split at h
  · rename_i y x t
    split at h
    · cases h
    · rename_i hz
      have h := Sum.inl.inj (Option.some.inj h)
      subst h
      refine lv_irem hx hb hd (fun z => hz (j32_eq0.mp z)) ?_
      rw [← j32_rem]
      exact k ls H locs cells slots hl hrep hlocs hn hk
  · cases h
theorem o_lrem (X : jm_X D cA ad adV B H0 p R s m args meth c i) (hd : decode (jm_b i) pc = .ok (.lrem, 1)) (h : jm_ins i (.lrem) pc lv st w = some (.inl g)) (k : jm_C D cA ad B H0 p l e R s m args below meth c Q i n0 k0 g) : jm_C D cA ad B H0 p l e R s m args below meth c Q i n0 k0 (pc, lv, st, w) := by
  obtain ⟨hx, hb, hml, hown, hts, hlk, hini, hrt, hfr, hlo, hKK, had⟩ := X
  intro ls H locs cells slots hl hrep hlocs hn hk
  simp only [jm_ins, jgo] at h
  split at h
  · rename_i y x t
    split at h
    · cases h
    · rename_i hz
      have h := Sum.inl.inj (Option.some.inj h)
      subst h
      refine lv_lrem hx hb hd (fun z => hz (j64_eq0.mp z)) ?_
      rw [← j64_rem]
      exact k ls H locs cells slots hl hrep hlocs hn hk
  · cases h
theorem o_lcmp (X : jm_X D cA ad adV B H0 p R s m args meth c i) (hd : decode (jm_b i) pc = .ok (.lcmp, 1)) (h : jm_ins i (.lcmp) pc lv st w = some (.inl g)) (k : jm_C D cA ad B H0 p l e R s m args below meth c Q i n0 k0 g) : jm_C D cA ad B H0 p l e R s m args below meth c Q i n0 k0 (pc, lv, st, w) := by
  obtain ⟨hx, hb, hml, hown, hts, hlk, hini, hrt, hfr, hlo, hKK, had⟩ := X
  intro ls H locs cells slots hl hrep hlocs hn hk
  simp only [jm_ins, jgo] at h
  split at h
  · rename_i y x t
    have h := Sum.inl.inj (Option.some.inj h)
    subst h
    refine W.lcmp hx hb hd ?_
    rw [← j64_cmp]
    exact k ls H locs cells slots hl hrep hlocs hn hk
  · cases h
theorem jbr_inv {pc : Nat} {off : Int} {n : Nat} {b : Bool} {lv : jmL} {st : List jmV} {w : jmW} {g : jmF} (h : jbr pc off n b lv st w = some (.inl g)) : (pc : Int) + off = (jtg pc off : Int) ∧ g = (if b = true then jtg pc off else pc + n, lv, st, w) := by
  unfold jbr jgo at h
  split at h
  · rename_i h0
    refine ⟨by unfold jtg; omega, (Sum.inl.inj (Option.some.inj h)).symm⟩
  · cases h
theorem o_goto {off : Int} (X : jm_X D cA ad adV B H0 p R s m args meth c i) (hd : decode (jm_b i) pc = .ok (.goto off, 3)) (h : jm_ins i (.goto off) pc lv st w = some (.inl g)) (k : jm_C D cA ad B H0 p l e R s m args below meth c Q i n0 k0 g) : jm_C D cA ad B H0 p l e R s m args below meth c Q i n0 k0 (pc, lv, st, w) := by
  obtain ⟨hx, hb, hml, hown, hts, hlk, hini, hrt, hfr, hlo, hKK, had⟩ := X
  intro ls H locs cells slots hl hrep hlocs hn hk
  obtain ⟨ht, rfl⟩ := jbr_inv (b := true) h
  exact lv_goto hx hb hd ht (k ls H locs cells slots hl hrep hlocs hn hk)
theorem o_icmp_eq {off : Int} (X : jm_X D cA ad adV B H0 p R s m args meth c i) (hd : decode (jm_b i) pc = .ok (.if_icmp .eq off, 3)) (h : jm_ins i (.if_icmp .eq off) pc lv st w = some (.inl g)) (k : jm_C D cA ad B H0 p l e R s m args below meth c Q i n0 k0 g) : jm_C D cA ad B H0 p l e R s m args below meth c Q i n0 k0 (pc, lv, st, w) := by
  obtain ⟨hx, hb, hml, hown, hts, hlk, hini, hrt, hfr, hlo, hKK, had⟩ := X
  intro ls H locs cells slots hl hrep hlocs hn hk
  simp only [jm_ins] at h
  split at h
  · rename_i y x t
    obtain ⟨ht, rfl⟩ := jbr_inv h
    refine lv_icmp_eq hx hb hd ht (fun z => ?_) (fun z => ?_)
    · have hc := (j32_eq).mp z
      have kk := k ls H locs cells slots hl hrep hlocs hn hk
      simp only [jcmp, decide_eq_true hc, if_true] at kk
      exact kk
    · have hc := fun y => z ((j32_eq).mpr y)
      have kk := k ls H locs cells slots hl hrep hlocs hn hk
      simp only [jcmp, decide_eq_false hc] at kk
      exact kk
  · cases h
theorem o_if_eq {off : Int} (X : jm_X D cA ad adV B H0 p R s m args meth c i) (hd : decode (jm_b i) pc = .ok (.ifCond .eq off, 3)) (h : jm_ins i (.ifCond .eq off) pc lv st w = some (.inl g)) (k : jm_C D cA ad B H0 p l e R s m args below meth c Q i n0 k0 g) : jm_C D cA ad B H0 p l e R s m args below meth c Q i n0 k0 (pc, lv, st, w) := by
  obtain ⟨hx, hb, hml, hown, hts, hlk, hini, hrt, hfr, hlo, hKK, had⟩ := X
  intro ls H locs cells slots hl hrep hlocs hn hk
  simp only [jm_ins] at h
  split at h
  · rename_i x t
    obtain ⟨ht, rfl⟩ := jbr_inv h
    refine lv_if_eq hx hb hd ht (fun z => ?_) (fun z => ?_)
    · have hc := (j32_eq0).mp z
      have kk := k ls H locs cells slots hl hrep hlocs hn hk
      simp only [jcmp, decide_eq_true hc, if_true] at kk
      exact kk
    · have hc := fun y => z ((j32_eq0).mpr y)
      have kk := k ls H locs cells slots hl hrep hlocs hn hk
      simp only [jcmp, decide_eq_false hc] at kk
      exact kk
  · cases h
theorem o_icmp_ne {off : Int} (X : jm_X D cA ad adV B H0 p R s m args meth c i) (hd : decode (jm_b i) pc = .ok (.if_icmp .ne off, 3)) (h : jm_ins i (.if_icmp .ne off) pc lv st w = some (.inl g)) (k : jm_C D cA ad B H0 p l e R s m args below meth c Q i n0 k0 g) : jm_C D cA ad B H0 p l e R s m args below meth c Q i n0 k0 (pc, lv, st, w) := by
  obtain ⟨hx, hb, hml, hown, hts, hlk, hini, hrt, hfr, hlo, hKK, had⟩ := X
  intro ls H locs cells slots hl hrep hlocs hn hk
  simp only [jm_ins] at h
  split at h
  · rename_i y x t
    obtain ⟨ht, rfl⟩ := jbr_inv h
    refine lv_icmp_ne hx hb hd ht (fun z => ?_) (fun z => ?_)
    · have hc := ((not_congr j32_eq)).mp z
      have kk := k ls H locs cells slots hl hrep hlocs hn hk
      simp only [jcmp, decide_eq_true hc, if_true] at kk
      exact kk
    · have hc := fun y : ¬ jw x = jw y => y (j32_eq.mp z)
      have kk := k ls H locs cells slots hl hrep hlocs hn hk
      simp only [jcmp, decide_eq_false hc] at kk
      exact kk
  · cases h
theorem o_if_ne {off : Int} (X : jm_X D cA ad adV B H0 p R s m args meth c i) (hd : decode (jm_b i) pc = .ok (.ifCond .ne off, 3)) (h : jm_ins i (.ifCond .ne off) pc lv st w = some (.inl g)) (k : jm_C D cA ad B H0 p l e R s m args below meth c Q i n0 k0 g) : jm_C D cA ad B H0 p l e R s m args below meth c Q i n0 k0 (pc, lv, st, w) := by
  obtain ⟨hx, hb, hml, hown, hts, hlk, hini, hrt, hfr, hlo, hKK, had⟩ := X
  intro ls H locs cells slots hl hrep hlocs hn hk
  simp only [jm_ins] at h
  split at h
  · rename_i x t
    obtain ⟨ht, rfl⟩ := jbr_inv h
    refine lv_if_ne hx hb hd ht (fun z => ?_) (fun z => ?_)
    · have hc := ((not_congr j32_eq0)).mp z
      have kk := k ls H locs cells slots hl hrep hlocs hn hk
      simp only [jcmp, decide_eq_true hc, if_true] at kk
      exact kk
    · have hc := fun y : ¬ jw x = 0 => y (j32_eq0.mp z)
      have kk := k ls H locs cells slots hl hrep hlocs hn hk
      simp only [jcmp, decide_eq_false hc] at kk
      exact kk
  · cases h
theorem o_icmp_lt {off : Int} (X : jm_X D cA ad adV B H0 p R s m args meth c i) (hd : decode (jm_b i) pc = .ok (.if_icmp .lt off, 3)) (h : jm_ins i (.if_icmp .lt off) pc lv st w = some (.inl g)) (k : jm_C D cA ad B H0 p l e R s m args below meth c Q i n0 k0 g) : jm_C D cA ad B H0 p l e R s m args below meth c Q i n0 k0 (pc, lv, st, w) := by
  obtain ⟨hx, hb, hml, hown, hts, hlk, hini, hrt, hfr, hlo, hKK, had⟩ := X
  intro ls H locs cells slots hl hrep hlocs hn hk
  simp only [jm_ins] at h
  split at h
  · rename_i y x t
    obtain ⟨ht, rfl⟩ := jbr_inv h
    refine lv_icmp_lt hx hb hd ht (fun z => ?_) (fun z => ?_)
    · have hc := (j32_lt).mp z
      have kk := k ls H locs cells slots hl hrep hlocs hn hk
      simp only [jcmp, decide_eq_true hc, if_true] at kk
      exact kk
    · have hc := fun y => z ((j32_lt).mpr y)
      have kk := k ls H locs cells slots hl hrep hlocs hn hk
      simp only [jcmp, decide_eq_false hc] at kk
      exact kk
  · cases h
theorem o_if_lt {off : Int} (X : jm_X D cA ad adV B H0 p R s m args meth c i) (hd : decode (jm_b i) pc = .ok (.ifCond .lt off, 3)) (h : jm_ins i (.ifCond .lt off) pc lv st w = some (.inl g)) (k : jm_C D cA ad B H0 p l e R s m args below meth c Q i n0 k0 g) : jm_C D cA ad B H0 p l e R s m args below meth c Q i n0 k0 (pc, lv, st, w) := by
  obtain ⟨hx, hb, hml, hown, hts, hlk, hini, hrt, hfr, hlo, hKK, had⟩ := X
  intro ls H locs cells slots hl hrep hlocs hn hk
  simp only [jm_ins] at h
  split at h
  · rename_i x t
    obtain ⟨ht, rfl⟩ := jbr_inv h
    refine lv_if_lt hx hb hd ht (fun z => ?_) (fun z => ?_)
    · have hc := (j32_lt0).mp z
      have kk := k ls H locs cells slots hl hrep hlocs hn hk
      simp only [jcmp, decide_eq_true hc, if_true] at kk
      exact kk
    · have hc := fun y => z ((j32_lt0).mpr y)
      have kk := k ls H locs cells slots hl hrep hlocs hn hk
      simp only [jcmp, decide_eq_false hc] at kk
      exact kk
  · cases h
theorem o_icmp_ge {off : Int} (X : jm_X D cA ad adV B H0 p R s m args meth c i) (hd : decode (jm_b i) pc = .ok (.if_icmp .ge off, 3)) (h : jm_ins i (.if_icmp .ge off) pc lv st w = some (.inl g)) (k : jm_C D cA ad B H0 p l e R s m args below meth c Q i n0 k0 g) : jm_C D cA ad B H0 p l e R s m args below meth c Q i n0 k0 (pc, lv, st, w) := by
  obtain ⟨hx, hb, hml, hown, hts, hlk, hini, hrt, hfr, hlo, hKK, had⟩ := X
  intro ls H locs cells slots hl hrep hlocs hn hk
  simp only [jm_ins] at h
  split at h
  · rename_i y x t
    obtain ⟨ht, rfl⟩ := jbr_inv h
    refine lv_icmp_ge hx hb hd ht (fun z => ?_) (fun z => ?_)
    · have hc := (j32_le).mp z
      have kk := k ls H locs cells slots hl hrep hlocs hn hk
      simp only [jcmp, decide_eq_true hc, if_true] at kk
      exact kk
    · have hc := fun y => z ((j32_le).mpr y)
      have kk := k ls H locs cells slots hl hrep hlocs hn hk
      simp only [jcmp, decide_eq_false hc] at kk
      exact kk
  · cases h
theorem o_if_ge {off : Int} (X : jm_X D cA ad adV B H0 p R s m args meth c i) (hd : decode (jm_b i) pc = .ok (.ifCond .ge off, 3)) (h : jm_ins i (.ifCond .ge off) pc lv st w = some (.inl g)) (k : jm_C D cA ad B H0 p l e R s m args below meth c Q i n0 k0 g) : jm_C D cA ad B H0 p l e R s m args below meth c Q i n0 k0 (pc, lv, st, w) := by
  obtain ⟨hx, hb, hml, hown, hts, hlk, hini, hrt, hfr, hlo, hKK, had⟩ := X
  intro ls H locs cells slots hl hrep hlocs hn hk
  simp only [jm_ins] at h
  split at h
  · rename_i x t
    obtain ⟨ht, rfl⟩ := jbr_inv h
    refine lv_if_ge hx hb hd ht (fun z => ?_) (fun z => ?_)
    · have hc := (j32_0le).mp z
      have kk := k ls H locs cells slots hl hrep hlocs hn hk
      simp only [jcmp, decide_eq_true hc, if_true] at kk
      exact kk
    · have hc := fun y => z ((j32_0le).mpr y)
      have kk := k ls H locs cells slots hl hrep hlocs hn hk
      simp only [jcmp, decide_eq_false hc] at kk
      exact kk
  · cases h
theorem o_icmp_gt {off : Int} (X : jm_X D cA ad adV B H0 p R s m args meth c i) (hd : decode (jm_b i) pc = .ok (.if_icmp .gt off, 3)) (h : jm_ins i (.if_icmp .gt off) pc lv st w = some (.inl g)) (k : jm_C D cA ad B H0 p l e R s m args below meth c Q i n0 k0 g) : jm_C D cA ad B H0 p l e R s m args below meth c Q i n0 k0 (pc, lv, st, w) := by
  obtain ⟨hx, hb, hml, hown, hts, hlk, hini, hrt, hfr, hlo, hKK, had⟩ := X
  intro ls H locs cells slots hl hrep hlocs hn hk
  simp only [jm_ins] at h
  split at h
  · rename_i y x t
    obtain ⟨ht, rfl⟩ := jbr_inv h
    refine lv_icmp_gt hx hb hd ht (fun z => ?_) (fun z => ?_)
    · have hc := (j32_lt).mp z
      have kk := k ls H locs cells slots hl hrep hlocs hn hk
      simp only [jcmp, decide_eq_true hc, if_true] at kk
      exact kk
    · have hc := fun y => z ((j32_lt).mpr y)
      have kk := k ls H locs cells slots hl hrep hlocs hn hk
      simp only [jcmp, decide_eq_false hc] at kk
      exact kk
  · cases h
theorem o_if_gt {off : Int} (X : jm_X D cA ad adV B H0 p R s m args meth c i) (hd : decode (jm_b i) pc = .ok (.ifCond .gt off, 3)) (h : jm_ins i (.ifCond .gt off) pc lv st w = some (.inl g)) (k : jm_C D cA ad B H0 p l e R s m args below meth c Q i n0 k0 g) : jm_C D cA ad B H0 p l e R s m args below meth c Q i n0 k0 (pc, lv, st, w) := by
  obtain ⟨hx, hb, hml, hown, hts, hlk, hini, hrt, hfr, hlo, hKK, had⟩ := X
  intro ls H locs cells slots hl hrep hlocs hn hk
  simp only [jm_ins] at h
  split at h
  · rename_i x t
    obtain ⟨ht, rfl⟩ := jbr_inv h
    refine lv_if_gt hx hb hd ht (fun z => ?_) (fun z => ?_)
    · have hc := (j32_0lt).mp z
      have kk := k ls H locs cells slots hl hrep hlocs hn hk
      simp only [jcmp, decide_eq_true hc, if_true] at kk
      exact kk
    · have hc := fun y => z ((j32_0lt).mpr y)
      have kk := k ls H locs cells slots hl hrep hlocs hn hk
      simp only [jcmp, decide_eq_false hc] at kk
      exact kk
  · cases h
theorem o_icmp_le {off : Int} (X : jm_X D cA ad adV B H0 p R s m args meth c i) (hd : decode (jm_b i) pc = .ok (.if_icmp .le off, 3)) (h : jm_ins i (.if_icmp .le off) pc lv st w = some (.inl g)) (k : jm_C D cA ad B H0 p l e R s m args below meth c Q i n0 k0 g) : jm_C D cA ad B H0 p l e R s m args below meth c Q i n0 k0 (pc, lv, st, w) := by
  obtain ⟨hx, hb, hml, hown, hts, hlk, hini, hrt, hfr, hlo, hKK, had⟩ := X
  intro ls H locs cells slots hl hrep hlocs hn hk
  simp only [jm_ins] at h
  split at h
  · rename_i y x t
    obtain ⟨ht, rfl⟩ := jbr_inv h
    refine lv_icmp_le hx hb hd ht (fun z => ?_) (fun z => ?_)
    · have hc := (j32_le).mp z
      have kk := k ls H locs cells slots hl hrep hlocs hn hk
      simp only [jcmp, decide_eq_true hc, if_true] at kk
      exact kk
    · have hc := fun y => z ((j32_le).mpr y)
      have kk := k ls H locs cells slots hl hrep hlocs hn hk
      simp only [jcmp, decide_eq_false hc] at kk
      exact kk
  · cases h
theorem o_if_le {off : Int} (X : jm_X D cA ad adV B H0 p R s m args meth c i) (hd : decode (jm_b i) pc = .ok (.ifCond .le off, 3)) (h : jm_ins i (.ifCond .le off) pc lv st w = some (.inl g)) (k : jm_C D cA ad B H0 p l e R s m args below meth c Q i n0 k0 g) : jm_C D cA ad B H0 p l e R s m args below meth c Q i n0 k0 (pc, lv, st, w) := by
  obtain ⟨hx, hb, hml, hown, hts, hlk, hini, hrt, hfr, hlo, hKK, had⟩ := X
  intro ls H locs cells slots hl hrep hlocs hn hk
  simp only [jm_ins] at h
  split at h
  · rename_i x t
    obtain ⟨ht, rfl⟩ := jbr_inv h
    refine lv_if_le hx hb hd ht (fun z => ?_) (fun z => ?_)
    · have hc := (j32_le0).mp z
      have kk := k ls H locs cells slots hl hrep hlocs hn hk
      simp only [jcmp, decide_eq_true hc, if_true] at kk
      exact kk
    · have hc := fun y => z ((j32_le0).mpr y)
      have kk := k ls H locs cells slots hl hrep hlocs hn hk
      simp only [jcmp, decide_eq_false hc] at kk
      exact kk
  · cases h
theorem o_ifnull {off : Int} (X : jm_X D cA ad adV B H0 p R s m args meth c i) (hd : decode (jm_b i) pc = .ok (.ifnull off, 3)) (h : jm_ins i (.ifnull off) pc lv st w = some (.inl g)) (k : jm_C D cA ad B H0 p l e R s m args below meth c Q i n0 k0 g) : jm_C D cA ad B H0 p l e R s m args below meth c Q i n0 k0 (pc, lv, st, w) := by
  obtain ⟨hx, hb, hml, hown, hts, hlk, hini, hrt, hfr, hlo, hKK, had⟩ := X
  intro ls H locs cells slots hl hrep hlocs hn hk
  simp only [jm_ins] at h
  split at h
  · rename_i r t
    obtain ⟨ht, rfl⟩ := jbr_inv h
    cases r with
    | none => exact lv_ifnullN hx hb hd ht (k ls H locs cells slots hl hrep hlocs hn hk)
    | some a => exact lv_ifnull hx hb hd (k ls H locs cells slots hl hrep hlocs hn hk)
  · cases h
theorem o_ifnonnull {off : Int} (X : jm_X D cA ad adV B H0 p R s m args meth c i) (hd : decode (jm_b i) pc = .ok (.ifnonnull off, 3)) (h : jm_ins i (.ifnonnull off) pc lv st w = some (.inl g)) (k : jm_C D cA ad B H0 p l e R s m args below meth c Q i n0 k0 g) : jm_C D cA ad B H0 p l e R s m args below meth c Q i n0 k0 (pc, lv, st, w) := by
  obtain ⟨hx, hb, hml, hown, hts, hlk, hini, hrt, hfr, hlo, hKK, had⟩ := X
  intro ls H locs cells slots hl hrep hlocs hn hk
  simp only [jm_ins] at h
  split at h
  · rename_i r t
    obtain ⟨ht, rfl⟩ := jbr_inv h
    cases r with
    | none => exact lv_ifnonnullN hx hb hd (k ls H locs cells slots hl hrep hlocs hn hk)
    | some a => exact lv_ifnonnull hx hb hd ht (k ls H locs cells slots hl hrep hlocs hn hk)
  · cases h
theorem o_table {d lo hi : Int} {offs : Array Int} {len : Nat} (X : jm_X D cA ad adV B H0 p R s m args meth c i) (hd : decode (jm_b i) pc = .ok (.tableswitch d lo hi offs, len)) (h : jm_ins i (.tableswitch d lo hi offs) pc lv st w = some (.inl g)) (k : jm_C D cA ad B H0 p l e R s m args below meth c Q i n0 k0 g) : jm_C D cA ad B H0 p l e R s m args below meth c Q i n0 k0 (pc, lv, st, w) := by
  obtain ⟨hx, hb, hml, hown, hts, hlk, hini, hrt, hfr, hlo, hKK, had⟩ := X
  intro ls H locs cells slots hl hrep hlocs hn hk
  simp only [jm_ins] at h
  split at h
  · rename_i x t
    split at h
    · rename_i hc
      obtain ⟨ht, rfl⟩ := jbr_inv h
      exact lv_tableOut hx hb hd (by rw [jw_toInt]; exact hc) ht (k ls H locs cells slots hl hrep hlocs hn hk)
    · rename_i hc
      split at h
      · rename_i off ho
        obtain ⟨ht, rfl⟩ := jbr_inv h
        exact lv_tableIn hx hb hd (by rw [jw_toInt]; omega) (by rw [jw_toInt]; omega) (by rw [jw_toInt]; exact ho) ht (k ls H locs cells slots hl hrep hlocs hn hk)
      · cases h
  · cases h
end ONE
