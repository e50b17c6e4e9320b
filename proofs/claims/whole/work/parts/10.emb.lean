/-! What the small machine's numbers, values and places are in the machine. -/
theorem jw_toInt (z : Int) : (Int32.ofInt z).toInt = jw z := Int32.toInt_ofInt
theorem jwl_toInt (z : Int) : (Int64.ofInt z).toInt = jwl z := Int64.toInt_ofInt
theorem jw_of (z : Int) : Int32.ofInt (jw z) = Int32.ofInt z := by rw [← jw_toInt, Int32.ofInt_toInt]
theorem jwl_of (z : Int) : Int64.ofInt (jwl z) = Int64.ofInt z := by rw [← jwl_toInt, Int64.ofInt_toInt]
theorem jw_lo (z : Int) : -2147483648 ≤ jw z := by
  have := @Int.le_bmod z 4294967296 (by decide)
  unfold jw
  omega
theorem jw_hi (z : Int) : jw z < 2147483648 := by
  have := @Int.bmod_lt z 4294967296 (by decide)
  unfold jw
  omega
theorem jw_id {z : Int} (h1 : -2147483648 ≤ z) (h2 : z < 2147483648) : jw z = z := by
  rw [← jw_toInt]
  exact Int32.toInt_ofInt_of_le h1 h2
theorem jwl_id {z : Int} (h1 : -9223372036854775808 ≤ z) (h2 : z < 9223372036854775808) : jwl z = z := by
  rw [← jwl_toInt]
  exact Int64.toInt_ofInt_of_le h1 h2
theorem jw_jw (z : Int) : jw (jw z) = jw z := jw_id (jw_lo z) (jw_hi z)
theorem j32_eq {x y : Int} : Int32.ofInt x = Int32.ofInt y ↔ jw x = jw y := by rw [← Int32.toInt_inj, jw_toInt, jw_toInt]
theorem j32_lt {x y : Int} : Int32.ofInt x < Int32.ofInt y ↔ jw x < jw y := by rw [Int32.lt_iff_toInt_lt, jw_toInt, jw_toInt]
theorem j32_le {x y : Int} : Int32.ofInt x ≤ Int32.ofInt y ↔ jw x ≤ jw y := by rw [Int32.le_iff_toInt_le, jw_toInt, jw_toInt]
theorem j32_0 : (0 : Int32) = Int32.ofInt 0 := by decide
theorem jw_0 : jw 0 = 0 := by decide
theorem j32_eq0 {x : Int} : Int32.ofInt x = 0 ↔ jw x = 0 := by rw [j32_0, j32_eq, jw_0]
theorem j32_lt0 {x : Int} : Int32.ofInt x < 0 ↔ jw x < 0 := by rw [j32_0, j32_lt, jw_0]
theorem j32_0lt {x : Int} : 0 < Int32.ofInt x ↔ 0 < jw x := by rw [j32_0, j32_lt, jw_0]
theorem j32_le0 {x : Int} : Int32.ofInt x ≤ 0 ↔ jw x ≤ 0 := by rw [j32_0, j32_le, jw_0]
theorem j32_0le {x : Int} : 0 ≤ Int32.ofInt x ↔ 0 ≤ jw x := by rw [j32_0, j32_le, jw_0]
theorem j32_div (x y : Int) : Int32.ofInt ((jw x).tdiv (jw y)) = Int32.ofInt x / Int32.ofInt y := by
  rw [← Int32.toInt_inj, Int32.toInt_div, jw_toInt, jw_toInt, jw_toInt]
  rfl
theorem j32_rem (x y : Int) : Int32.ofInt ((jw x).tmod (jw y)) = Int32.ofInt x - Int32.ofInt x / Int32.ofInt y * Int32.ofInt y := by
  rw [Int.tmod_def, Int32.ofInt_sub, Int32.ofInt_mul, j32_div, jw_of, jw_of, Int32.mul_comm]
theorem j64_div (x y : Int) : Int64.ofInt ((jwl x).tdiv (jwl y)) = Int64.ofInt x / Int64.ofInt y := by
  rw [← Int64.toInt_inj, Int64.toInt_div, jwl_toInt, jwl_toInt, jwl_toInt]
  rfl
theorem j64_rem (x y : Int) : Int64.ofInt ((jwl x).tmod (jwl y)) = Int64.ofInt x - Int64.ofInt x / Int64.ofInt y * Int64.ofInt y := by
  rw [Int.tmod_def, Int64.ofInt_sub, Int64.ofInt_mul, j64_div, jwl_of, jwl_of, Int64.mul_comm]
theorem j64_eq0 {x : Int} : Int64.ofInt x = 0 ↔ jwl x = 0 := by
  have h0 : (0 : Int64) = Int64.ofInt 0 := by decide
  rw [h0, ← Int64.toInt_inj, jwl_toInt, jwl_toInt]
  have : jwl 0 = 0 := by decide
  rw [this]
theorem j64_cmp (x y : Int) : Int32.ofInt (if jwl x < jwl y then -1 else if jwl x = jwl y then 0 else 1) = lg_cmp (Int64.ofInt x) (Int64.ofInt y) := by
  unfold lg_cmp
  have e1 : (Int64.ofInt x > Int64.ofInt y) ↔ jwl y < jwl x := by
    show Int64.ofInt y < Int64.ofInt x ↔ _
    rw [Int64.lt_iff_toInt_lt, jwl_toInt, jwl_toInt]
  have e2 : (Int64.ofInt x = Int64.ofInt y) ↔ jwl x = jwl y := by rw [← Int64.toInt_inj, jwl_toInt, jwl_toInt]
  by_cases h1 : jwl x < jwl y
  · rw [if_pos h1, if_neg (fun z => by have := e1.mp z; omega), if_neg (fun z => by have := e2.mp z; omega)]
    decide
  · rw [if_neg h1]
    by_cases h2 : jwl x = jwl y
    · rw [if_pos h2, if_neg (fun z => by have := e1.mp z; omega), if_pos (e2.mpr h2)]
      decide
    · rw [if_neg h2, if_pos (e1.mpr (by omega))]
      decide
theorem j32_i2l (x : Int) : (Int32.ofInt x).toInt64 = Int64.ofInt (jw x) := by
  rw [← Int64.toInt_inj, Int32.toInt_toInt64, jw_toInt, jwl_toInt]
  have := jw_lo x
  have := jw_hi x
  exact (jwl_id (by omega) (by omega)).symm
theorem j32_clamp (x : Int) : (Int32.ofInt x).toNatClampNeg = (jw x).toNat := by
  show ((Int32.ofInt x).toInt).toNat = _
  rw [jw_toInt]
theorem j8_32 (n : Int) : (Int8.ofInt n).toInt32 = Int32.ofInt (Int8.ofInt n).toInt := by
  rw [← Int32.toInt_inj, Int8.toInt_toInt32, jw_toInt]
  have := Int8.toInt_lt (Int8.ofInt n)
  have := Int8.le_toInt (Int8.ofInt n)
  exact (jw_id (by omega) (by omega)).symm
theorem j16_32 (n : Int) : (Int16.ofInt n).toInt32 = Int32.ofInt (Int16.ofInt n).toInt := by
  rw [← Int32.toInt_inj, Int16.toInt_toInt32, jw_toInt]
  have := Int16.toInt_lt (Int16.ofInt n)
  have := Int16.le_toInt (Int16.ofInt n)
  exact (jw_id (by omega) (by omega)).symm
/-- a value in the machine -/
def jem (ad : Nat → Nat) (v : jmV) : Value := match v with
  | .inl x => .int (Int32.ofInt x)
  | .inr (.inl x) => .long (Int64.ofInt x)
  | .inr (.inr r) => va_rf (r.map ad)
def jeml (ad : Nat → Nat) (lv : jmL) : List (Nat × Value) := lv.map (fun q => (q.1, jem ad q.2))
theorem jem_cat (ad : Nat → Nat) (v : jmV) : (jem ad v).category = if j2 v = true then 2 else 1 := by
  rcases v with x | x | r
  · rfl
  · rfl
  · cases r <;> rfl
theorem jem_cat1 {ad : Nat → Nat} {v : jmV} (h : ¬ j2 v = true) : (jem ad v).category = 1 := by rw [jem_cat, if_neg h]
theorem jem_cat1f {ad : Nat → Nat} {v : jmV} (h : j2 v = false) : (jem ad v).category = 1 := by rw [jem_cat, h]; rfl
theorem jem_wd (ad : Nat → Nat) (st : List jmV) : ((st.map (jem ad)).map fun v => v.category).sum = jwd st := by
  unfold jwd
  rw [List.map_map]
  congr 1
  apply List.map_congr_left
  intro v _
  exact jem_cat ad v
theorem jg_mem {lv : jmL} {i : Nat} {v : jmV} (h : jg lv i = some v) : (i, v) ∈ lv := by
  induction lv with
  | nil => cases h
  | cons q t ih =>
    rw [jg] at h
    split at h
    · rename_i hq
      cases h
      rw [← hq]
      exact List.mem_cons_self
    · exact List.mem_cons_of_mem _ (ih h)
theorem lv_jg {ad : Nat → Nat} {ls : Array Slot} {n : Nat} {lv : jmL} {i : Nat} {v : jmV} (h : lv_has ls n (jeml ad lv)) (hg : jg lv i = some v) : ls[i]? = some (.val (jem ad v)) := by
  have hm : (i, jem ad v) ∈ jeml ad lv := List.mem_map.mpr ⟨(i, v), jg_mem hg, rfl⟩
  exact h.2.2 _ hm
theorem lv_less {ls : Array Slot} {n : Nat} {a b : List (Nat × Value)} (h : lv_has ls n a) (hs : ∀ q ∈ b, q ∈ a) : lv_has ls n b := ⟨h.1, h.2.1, fun q hq => h.2.2 q (hs q hq)⟩
theorem jrm_mem {lv : jmL} {i : Nat} {q : Nat × jmV} (h : q ∈ jrm lv i) : q ∈ lv ∧ q.1 ≠ i ∧ ¬ (q.1 + 1 = i ∧ j2 q.2 = true) := by
  induction lv with
  | nil => cases h
  | cons z t ih =>
    rw [jrm] at h
    split at h
    · have := ih h
      exact ⟨List.mem_cons_of_mem _ this.1, this.2⟩
    · rename_i h1
      split at h
      · have := ih h
        exact ⟨List.mem_cons_of_mem _ this.1, this.2⟩
      · rename_i h2
        rcases List.mem_cons.mp h with rfl | h
        · exact ⟨List.mem_cons_self, h1, h2⟩
        · have := ih h
          exact ⟨List.mem_cons_of_mem _ this.1, this.2⟩
theorem js_mem {lv : jmL} {i : Nat} {v : jmV} {q : Nat × jmV} (h : q ∈ js lv i v) : q = (i, v) ∨ (q ∈ lv ∧ q.1 ≠ i ∧ ¬ (q.1 + 1 = i ∧ j2 q.2 = true)) := by
  induction lv with
  | nil => exact Or.inl (List.mem_singleton.mp h)
  | cons z t ih =>
    rw [js] at h
    split at h
    · rcases List.mem_cons.mp h with h | h
      · exact Or.inl h
      · have := jrm_mem h
        exact Or.inr ⟨List.mem_cons_of_mem _ this.1, this.2⟩
    · rename_i h1
      split at h
      · rcases ih h with h | h
        · exact Or.inl h
        · exact Or.inr ⟨List.mem_cons_of_mem _ h.1, h.2⟩
      · rename_i h2
        rcases List.mem_cons.mp h with rfl | h
        · exact Or.inr ⟨List.mem_cons_self, h1, h2⟩
        · rcases ih h with h | h
          · exact Or.inl h
          · exact Or.inr ⟨List.mem_cons_of_mem _ h.1, h.2⟩
theorem lv_js {ad : Nat → Nat} {ls : Array Slot} {n : Nat} {lv : jmL} {i : Nat} {v : jmV} {u : Value} (hu : jem ad v = u) (h : lv_has ls n ((i, u) :: (jeml ad lv).filter (fun q => !(q.1 == i) && !(q.1 + 1 == i && q.2.category == 2)))) : lv_has ls n (jeml ad (js lv i v)) := by
  subst hu
  refine lv_less h (fun q hq => ?_)
  obtain ⟨z, hz, rfl⟩ := List.mem_map.mp hq
  rcases js_mem hz with rfl | ⟨h1, h2, h3⟩
  · exact List.mem_cons_self
  · refine List.mem_cons_of_mem _ (List.mem_filter.mpr ⟨List.mem_map.mpr ⟨z, h1, rfl⟩, ?_⟩)
    have hc := jem_cat ad z.2
    by_cases h4 : z.1 + 1 = i
    · have h5 : ¬ j2 z.2 = true := fun t => h3 ⟨h4, t⟩
      rw [if_neg h5] at hc
      simp [h2, hc]
    · simp [h2, h4]
theorem lv_jsl {ad : Nat → Nat} {ls : Array Slot} {n : Nat} {lv : jmL} {i : Nat} {v : jmV} {u : Value} (hu : jem ad v = u) (h : lv_has ls n ((i, u) :: (jeml ad lv).filter (fun q => !(q.1 == i) && (!(q.1 == i + 1) && !(q.1 + 1 == i && q.2.category == 2))))) : lv_has ls n (jeml ad (js (jrm lv (i + 1)) i v)) := by
  subst hu
  refine lv_less h (fun q hq => ?_)
  obtain ⟨z, hz, rfl⟩ := List.mem_map.mp hq
  rcases js_mem hz with rfl | ⟨h1, h2, h3⟩
  · exact List.mem_cons_self
  · obtain ⟨g1, g2, -⟩ := jrm_mem h1
    refine List.mem_cons_of_mem _ (List.mem_filter.mpr ⟨List.mem_map.mpr ⟨z, g1, rfl⟩, ?_⟩)
    have hc := jem_cat ad z.2
    by_cases h4 : z.1 + 1 = i
    · have h5 : ¬ j2 z.2 = true := fun t => h3 ⟨h4, t⟩
      rw [if_neg h5] at hc
      simp [h2, g2, hc]
    · simp [h2, h4, g2]
theorem jas_args (ad : Nat → Nat) (vs : List jmV) : ∀ i, jeml ad (jas i vs) = lv_args i (vs.map (jem ad)) := by
  induction vs with
  | nil => intro i; rfl
  | cons v vs ih =>
    intro i
    rw [jas, List.map_cons, lv_args, jem_cat]
    by_cases h : j2 v = true
    · simp only [if_pos h, if_true]
      rw [← ih]
      rfl
    · simp only [if_neg h]
      rw [if_neg (by decide), ← ih]
      rfl
theorem jas_len (ad : Nat → Nat) (vs : List jmV) : (lg_sl (vs.map (jem ad))).length = jwd vs := by
  induction vs with
  | nil => rfl
  | cons v vs ih =>
    have e : lg_sl ((v :: vs).map (jem ad)) = (if (jem ad v).category = 2 then [Slot.val (jem ad v), Slot.second] else [Slot.val (jem ad v)]) ++ lg_sl (vs.map (jem ad)) := by
      simp [lg_sl]
    rw [e, List.length_append, ih, jem_cat]
    unfold jwd
    rw [List.map_cons, List.sum_cons]
    by_cases h : j2 v = true
    · simp [h]
    · simp [h]
