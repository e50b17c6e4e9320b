/-! The steps that touch the world, and the calls. -/
def jq_s {α : Type} (s t : Nat × Nat × Nat) (k : Option α) : Option α := if s = t then k else none
def jq_b {α : Type} (b : Bool) (k : Option α) : Option α := if b = true then k else none
def jq_r {α : Type} (s : Nat × Nat × Nat) (tag : Nat) (j : Int) (k : Option α) : Option α := if (s.1 = 2 ∨ s.1 = 4) ∧ s.2.1 = tag ∧ jin j s.2.2 = true then k else none
def jq_w {α : Type} (s : Nat × Nat × Nat) (tag : Nat) (j : Int) (k : Option α) : Option α := if s.1 = 2 ∧ s.2.1 = tag ∧ jin j s.2.2 = true then k else none
theorem jq_s_t {α : Type} (s : Nat × Nat × Nat) (k : Option α) : jq_s s s k = k := if_pos rfl
theorem jq_b_t {α : Type} (k : Option α) : jq_b true k = k := rfl
theorem jq_r_2 {α : Type} (tag n : Nat) (j : Int) (k : Option α) : jq_r (2, tag, n) tag j k = jq_b (jin j n) k := by
  unfold jq_r jq_b
  cases h : jin j n <;> simp [h]
theorem jq_r_4 {α : Type} (tag n : Nat) (j : Int) (k : Option α) : jq_r (4, tag, n) tag j k = jq_b (jin j n) k := by
  unfold jq_r jq_b
  cases h : jin j n <;> simp [h]
theorem jq_w_2 {α : Type} (tag n : Nat) (j : Int) (k : Option α) : jq_w (2, tag, n) tag j k = jq_b (jin j n) k := by
  unfold jq_w jq_b
  cases h : jin j n <;> simp [h]
theorem jd_of {i pc : Nat} {b : ByteArray} {r : Except DecodeError (Instr × Nat)} (hb : jm_b i = b) (h : decode b pc = r) : jm_dec i pc = r := by
  subst hb
  exact h
section RULEB
variable {i pc : Nat} {lv : jmL} {st : List jmV} {w : jmW} {o idx : Nat}
theorem q_getf {ci k a : Nat} {fin : Int} {v : jmW → Nat → jmV} (hd : jm_dec i pc = .ok (.getfield idx, 3)) (ho : jm_o i = o) (hl : jm_lk o idx = (0, ci, k, fin)) (hv : ∀ w a, jm_fd w a ci k = v w a) : rn i (pc, lv, jvr a :: st, w) = jq_s (mS w a) (1, ci, 0) (rn i (pc + 3, lv, v w a :: st, w)) := by
  subst ho
  unfold jq_s
  split
  · rename_i h
    exact q_go hd rfl (by simp only [jm_ins, hl, if_pos h, jgo, hv])
  · rename_i h
    exact q_none hd rfl (by simp only [jm_ins, hl, if_neg h])
theorem q_putf {ci k a : Nat} {fin : Int} {v : jmV} {u : jmW} (hd : jm_dec i pc = .ok (.putfield idx, 3)) (ho : jm_o i = o) (hl : jm_lk o idx = (0, ci, k, fin)) (hf : fin = 0 ∨ (jm_k i = 2 ∧ o = ci)) (hv : jm_pf w a ci k v = some u) : rn i (pc, lv, v :: jvr a :: st, w) = jq_s (mS w a) (1, ci, 0) (rn i (pc + 3, lv, st, u)) := by
  subst ho
  unfold jq_s
  split
  · rename_i h
    exact q_go hd rfl (by simp only [jm_ins, hl, if_pos (And.intro h hf), hv, jgo])
  · rename_i h
    exact q_none hd rfl (by simp only [jm_ins, hl]; rw [if_neg (fun z => h z.1)])
theorem q_putz {ci k a : Nat} {fin x : Int} (hd : jm_dec i pc = .ok (.putfield idx, 3)) (ho : jm_o i = o) (hl : jm_lk o idx = (0, ci, k, fin)) (hf : fin = 0 ∨ (jm_k i = 2 ∧ o = ci)) (hv : jm_pf w a ci k (.inl x) = if x = 0 ∨ x = 1 then some (setI w a k x) else none) : rn i (pc, lv, .inl x :: jvr a :: st, w) = jq_s (mS w a) (1, ci, 0) (jq_b (decide (x = 0 ∨ x = 1)) (rn i (pc + 3, lv, st, setI w a k x))) := by
  by_cases hx : x = 0 ∨ x = 1
  · rw [decide_eq_true hx, jq_b_t]
    exact q_putf hd ho hl hf (by rw [hv, if_pos hx])
  · subst ho
    rw [decide_eq_false hx]
    show _ = jq_s _ _ none
    unfold jq_s
    rw [ite_self]
    refine q_none hd rfl ?_
    simp only [jm_ins, hl, hv, if_neg hx]
    rw [ite_self]
theorem q_ldc_s {a b : Nat} {c : Int} (hd : jm_dec i pc = .ok (.ldc idx, 2)) (ho : jm_o i = o) (hl : jm_lk o idx = (7, a, b, c)) : rn i (pc, lv, st, w) = rn i (pc + 2, lv, jvr a :: st, w) := by
  subst ho
  exact q_go hd rfl (by simp only [jm_ins, hl, jgo])
theorem q_ldc_i {a b : Nat} {c : Int} (hd : jm_dec i pc = .ok (.ldc idx, 2)) (ho : jm_o i = o) (hl : jm_lk o idx = (8, a, b, c)) : rn i (pc, lv, st, w) = rn i (pc + 2, lv, .inl c :: st, w) := by
  subst ho
  exact q_go hd rfl (by simp only [jm_ins, hl, jgo])
theorem q_ldcw_s {a b : Nat} {c : Int} (hd : jm_dec i pc = .ok (.ldc_w idx, 3)) (ho : jm_o i = o) (hl : jm_lk o idx = (7, a, b, c)) : rn i (pc, lv, st, w) = rn i (pc + 3, lv, jvr a :: st, w) := by
  subst ho
  exact q_go hd rfl (by simp only [jm_ins, hl, jgo])
theorem q_ldcw_i {a b : Nat} {c : Int} (hd : jm_dec i pc = .ok (.ldc_w idx, 3)) (ho : jm_o i = o) (hl : jm_lk o idx = (8, a, b, c)) : rn i (pc, lv, st, w) = rn i (pc + 3, lv, .inl c :: st, w) := by
  subst ho
  exact q_go hd rfl (by simp only [jm_ins, hl, jgo])
theorem q_ldc2 {a b : Nat} {c : Int} (hd : jm_dec i pc = .ok (.ldc2_w idx, 3)) (ho : jm_o i = o) (hl : jm_lk o idx = (9, a, b, c)) : rn i (pc, lv, st, w) = rn i (pc + 3, lv, .inr (.inl c) :: st, w) := by
  subst ho
  exact q_go hd rfl (by simp only [jm_ins, hl, jgo])
theorem q_gets {a b : Nat} {c : Int} (hd : jm_dec i pc = .ok (.getstatic idx, 3)) (ho : jm_o i = o) (hl : jm_lk o idx = (10, a, b, c)) : rn i (pc, lv, st, w) = rn i (pc + 3, lv, jvr 1 :: st, w) := by
  subst ho
  exact q_go hd rfl (by simp only [jm_ins, hl, jgo])
theorem q_alen {a : Nat} (hd : jm_dec i pc = .ok (.arraylength, 1)) : rn i (pc, lv, jvr a :: st, w) = jq_b (decide ((mS w a).1 = 2 ∨ (mS w a).1 = 4)) (rn i (pc + 1, lv, .inl ((mS w a).2.2 : Nat) :: st, w)) := by
  unfold jq_b
  by_cases h : (mS w a).1 = 2 ∨ (mS w a).1 = 4
  · rw [if_pos (decide_eq_true h)]
    exact q_go hd rfl (by simp only [jm_ins, if_pos h, jgo])
  · rw [if_neg (by simpa using h)]
    exact q_none hd rfl (by simp only [jm_ins, if_neg h])
theorem q_iald {a : Nat} {j : Int} (hd : jm_dec i pc = .ok (.iaload, 1)) : rn i (pc, lv, .inl j :: jvr a :: st, w) = jq_r (mS w a) 0 j (rn i (pc + 1, lv, .inl (mI w a (jix j)) :: st, w)) := by
  unfold jq_r
  split
  · rename_i h
    exact q_go hd rfl (by simp only [jm_ins, if_pos h, jgo])
  · rename_i h
    exact q_none hd rfl (by simp only [jm_ins, if_neg h])
theorem q_bald {a : Nat} {j : Int} (hd : jm_dec i pc = .ok (.baload, 1)) : rn i (pc, lv, .inl j :: jvr a :: st, w) = jq_w (mS w a) 1 j (rn i (pc + 1, lv, .inl (mI w a (jix j)) :: st, w)) := by
  unfold jq_w
  split
  · rename_i h
    exact q_go hd rfl (by simp only [jm_ins, if_pos h, jgo])
  · rename_i h
    exact q_none hd rfl (by simp only [jm_ins, if_neg h])
theorem q_lald {a : Nat} {j : Int} (hd : jm_dec i pc = .ok (.laload, 1)) : rn i (pc, lv, .inl j :: jvr a :: st, w) = jq_w (mS w a) 2 j (rn i (pc + 1, lv, .inr (.inl (mJ w a (jix j))) :: st, w)) := by
  unfold jq_w
  split
  · rename_i h
    exact q_go hd rfl (by simp only [jm_ins, if_pos h, jgo])
  · rename_i h
    exact q_none hd rfl (by simp only [jm_ins, if_neg h])
theorem q_aald {a : Nat} {j : Int} (hd : jm_dec i pc = .ok (.aaload, 1)) : rn i (pc, lv, .inl j :: jvr a :: st, w) = jq_w (mS w a) 3 j (rn i (pc + 1, lv, .inr (.inr (mR w a (jix j))) :: st, w)) := by
  unfold jq_w
  split
  · rename_i h
    exact q_go hd rfl (by simp only [jm_ins, if_pos h, jgo])
  · rename_i h
    exact q_none hd rfl (by simp only [jm_ins, if_neg h])
theorem q_iast {a : Nat} {j x : Int} (hd : jm_dec i pc = .ok (.iastore, 1)) : rn i (pc, lv, .inl x :: .inl j :: jvr a :: st, w) = jq_w (mS w a) 0 j (rn i (pc + 1, lv, st, setI w a (jix j) x)) := by
  unfold jq_w
  split
  · rename_i h
    exact q_go hd rfl (by simp only [jm_ins, if_pos h, jgo])
  · rename_i h
    exact q_none hd rfl (by simp only [jm_ins, if_neg h])
theorem q_bast {a : Nat} {j x : Int} (hd : jm_dec i pc = .ok (.bastore, 1)) : rn i (pc, lv, .inl x :: .inl j :: jvr a :: st, w) = jq_w (mS w a) 1 j (rn i (pc + 1, lv, st, setI w a (jix j) (ji_b x))) := by
  unfold jq_w
  split
  · rename_i h
    exact q_go hd rfl (by simp only [jm_ins, if_pos h, jgo])
  · rename_i h
    exact q_none hd rfl (by simp only [jm_ins, if_neg h])
theorem q_last {a : Nat} {j x : Int} (hd : jm_dec i pc = .ok (.lastore, 1)) : rn i (pc, lv, .inr (.inl x) :: .inl j :: jvr a :: st, w) = jq_w (mS w a) 2 j (rn i (pc + 1, lv, st, setJ w a (jix j) x)) := by
  unfold jq_w
  split
  · rename_i h
    exact q_go hd rfl (by simp only [jm_ins, if_pos h, jgo])
  · rename_i h
    exact q_none hd rfl (by simp only [jm_ins, if_neg h])
theorem q_aast {a x : Nat} {j : Int} (hd : jm_dec i pc = .ok (.aastore, 1)) : rn i (pc, lv, jvr x :: .inl j :: jvr a :: st, w) = jq_w (mS w a) 3 j (jq_s (mS w x) (1, 4, 0) (rn i (pc + 1, lv, st, setR w a (jix j) (some x)))) := by
  unfold jq_w jq_s
  by_cases h : (mS w a).1 = 2 ∧ (mS w a).2.1 = 3 ∧ jin j (mS w a).2.2 = true
  · rw [if_pos h]
    by_cases h2 : mS w x = (1, 4, 0)
    · rw [if_pos h2]
      exact q_go hd rfl (by simp only [jm_ins, jgo]; rw [if_pos ⟨h.1, h.2.1, h.2.2, h2⟩])
    · rw [if_neg h2]
      exact q_none hd rfl (by simp only [jm_ins]; rw [if_neg (fun z => h2 z.2.2.2)])
  · rw [if_neg h]
    exact q_none hd rfl (by simp only [jm_ins]; rw [if_neg (fun z => h ⟨z.1, z.2.1, z.2.2.1⟩)])
theorem q_new {ci b N : Nat} {c : Int} (hd : jm_dec i pc = .ok (.new idx, 3)) (ho : jm_o i = o) (hl : jm_lk o idx = (5, ci, b, c)) (hc : ci < 10) (hN : jm_Nf ci = N) : rn i (pc, lv, st, w) = rn i (pc + 3, lv, jvr (64 + mN w) :: st, newC w (1, ci, 0) N) := by
  subst ho
  subst hN
  exact q_go hd rfl (by simp only [jm_ins, hl, if_pos hc, jgo])
theorem q_throw {a b : Nat} {c : Int} (hd : jm_dec i pc = .ok (.new idx, 3)) (ho : jm_o i = o) (hl : jm_lk o idx = (14, a, b, c)) : rn i (pc, lv, st, w) = some (some (jvr 0), w) := by
  subst ho
  exact q_ret hd rfl (by simp only [jm_ins, hl])
def jq_n {α : Type} (n : Int) (k : Option α) : Option α := if 0 ≤ jw n ∧ jw n ≤ 100000 then k else none
theorem q_newi {n : Int} (hd : jm_dec i pc = .ok (.newarray .int, 2)) : rn i (pc, lv, .inl n :: st, w) = jq_n n (rn i (pc + 2, lv, jvr (64 + mN w) :: st, newC w (2, 0, (jw n).toNat) (jw n).toNat)) := by
  unfold jq_n
  split
  · rename_i h
    exact q_go hd rfl (by simp only [jm_ins, if_pos h, jgo])
  · rename_i h
    exact q_none hd rfl (by simp only [jm_ins, if_neg h])
theorem q_newb {n : Int} (hd : jm_dec i pc = .ok (.newarray .byte, 2)) : rn i (pc, lv, .inl n :: st, w) = jq_n n (rn i (pc + 2, lv, jvr (64 + mN w) :: st, newC w (2, 1, (jw n).toNat) (jw n).toNat)) := by
  unfold jq_n
  split
  · rename_i h
    exact q_go hd rfl (by simp only [jm_ins, if_pos h, jgo])
  · rename_i h
    exact q_none hd rfl (by simp only [jm_ins, if_neg h])
theorem q_newl {n : Int} (hd : jm_dec i pc = .ok (.newarray .long, 2)) : rn i (pc, lv, .inl n :: st, w) = jq_n n (rn i (pc + 2, lv, jvr (64 + mN w) :: st, newC w (2, 2, (jw n).toNat) (jw n).toNat)) := by
  unfold jq_n
  split
  · rename_i h
    exact q_go hd rfl (by simp only [jm_ins, if_pos h, jgo])
  · rename_i h
    exact q_none hd rfl (by simp only [jm_ins, if_neg h])
theorem q_newa {n : Int} {b : Nat} {c : Int} (hd : jm_dec i pc = .ok (.anewarray idx, 3)) (ho : jm_o i = o) (hl : jm_lk o idx = (5, 4, b, c)) : rn i (pc, lv, .inl n :: st, w) = jq_n n (rn i (pc + 3, lv, jvr (64 + mN w) :: st, newC w (2, 3, (jw n).toNat) (jw n).toNat)) := by
  subst ho
  unfold jq_n
  split
  · rename_i h
    exact q_go hd rfl (by simp only [jm_ins, hl, if_pos h, jgo])
  · rename_i h
    exact q_none hd rfl (by simp only [jm_ins, hl, if_neg h])
/-- what a call's caller does behind it -/
noncomputable def jq_c (i pc : Nat) (lv : jmL) (rest : List jmV) (o : Option (Option jmV × jmW)) : Option (Option jmV × jmW) := o.bind (fun q => if q.1 = some (jvr 0) then none else rn i (pc, lv, q.1.toList ++ rest, q.2))
theorem jq_c_i (i pc : Nat) (lv : jmL) (rest : List jmV) (x : Int) (u : jmW) : jq_c i pc lv rest (some (some (.inl x), u)) = rn i (pc, lv, .inl x :: rest, u) := rfl
theorem jq_c_l (i pc : Nat) (lv : jmL) (rest : List jmV) (x : Int) (u : jmW) : jq_c i pc lv rest (some (some (.inr (.inl x)), u)) = rn i (pc, lv, .inr (.inl x) :: rest, u) := rfl
theorem jq_c_0 (i pc : Nat) (lv : jmL) (rest : List jmV) (u : jmW) : jq_c i pc lv rest (some (some (.inr (.inr none)), u)) = rn i (pc, lv, .inr (.inr none) :: rest, u) := rfl
theorem jq_c_a (i pc : Nat) (lv : jmL) (rest : List jmV) (a : Nat) (u : jmW) (h : a ≠ 0) : jq_c i pc lv rest (some (some (jvr a), u)) = rn i (pc, lv, jvr a :: rest, u) := by
  have : ¬ (some (jvr a) = some (jvr 0)) := by
    intro z
    exact h (Option.some.inj (Sum.inr.inj (Sum.inr.inj (Option.some.inj z))))
  unfold jq_c
  rw [Option.bind_some]
  exact if_neg this
theorem jq_c_n (i pc : Nat) (lv : jmL) (rest : List jmV) (u : jmW) : jq_c i pc lv rest (some (none, u)) = rn i (pc, lv, rest, u) := rfl
def jm_fit2 (i j : Nat) : Bool := decide (jm_f j + 1 ≤ jm_f i ∧ 8 + (jm_m j + 11) + jm_l j ≤ jm_l i)
theorem q_call0 {ins : Instr} {j n b : Nat} {as as' rest rest' : List jmV} (hd : jm_dec i pc = .ok (ins, 3)) (hle : jm_lenok ins 3 = true) (hi : jm_ins i ins pc lv st w = jm_callv i j n (pc + 3) lv as' rest' w) (ha : as' = as) (hr : rest' = jvr b :: rest) (hn : as.length = n) (hc : jm_o j = o) (hf : jm_fit2 i j = true) (hw : jwd (jvr b :: as) ≤ jm_m j) : rn i (pc, lv, st, w) = jq_s (mS w b) (1, o, 0) (jq_b (decide (jwd rest ≤ 8)) (jq_c i (pc + 3) lv rest (rn j (0, jas 0 (jvr b :: as), [], w)))) := by
  subst ha hr hc
  have hf2 := of_decide_eq_true hf
  unfold jq_s jq_b
  by_cases h : mS w b = (1, jm_o j, 0)
  · rw [if_pos h]
    by_cases h8 : jwd rest ≤ 8
    · rw [if_pos (decide_eq_true h8)]
      refine rn_call (g := (pc + 3, lv, rest, w)) ((q_step hd hle).trans (hi.trans ?_))
      show (if mS w b = (1, jm_o j, 0) then jm_call i j (n + 1) (pc + 3) lv (jvr b :: as') rest w else none) = _
      rw [if_pos h]
      unfold jm_call jm_fits
      rw [if_pos ⟨by rw [List.length_cons, hn], decide_eq_true ⟨hf2.1, hf2.2, h8⟩, hw⟩]
    · rw [if_neg (by simpa using h8)]
      refine q_none hd hle (hi.trans ?_)
      show (if mS w b = (1, jm_o j, 0) then jm_call i j (n + 1) (pc + 3) lv (jvr b :: as') rest w else none) = _
      rw [if_pos h]
      unfold jm_call jm_fits
      rw [if_neg (fun z => h8 (of_decide_eq_true z.2.1).2.2)]
  · rw [if_neg h]
    refine q_none hd hle (hi.trans ?_)
    show (if mS w b = (1, jm_o j, 0) then jm_call i j (n + 1) (pc + 3) lv (jvr b :: as') rest w else none) = _
    rw [if_neg h]
theorem q_callv {o1 j n b : Nat} {c : Int} {as rest : List jmV} (hd : jm_dec i pc = .ok (.invokevirtual idx, 3)) (ho : jm_o i = o) (hl : jm_lk o idx = (1, j, n, c)) (ha : (st.take n).reverse = as) (hr : st.drop n = jvr b :: rest) (hn : as.length = n) (hc : jm_o j = o1) (hf : jm_fit2 i j = true) (hw : jwd (jvr b :: as) ≤ jm_m j) : rn i (pc, lv, st, w) = jq_s (mS w b) (1, o1, 0) (jq_b (decide (jwd rest ≤ 8)) (jq_c i (pc + 3) lv rest (rn j (0, jas 0 (jvr b :: as), [], w)))) := by
  subst ho
  exact q_call0 hd rfl (by simp only [jm_ins, hl]) ha hr hn hc hf hw
theorem q_calli {o1 j n b : Nat} {c : Int} {as rest : List jmV} (hd : jm_dec i pc = .ok (.invokespecial idx, 3)) (ho : jm_o i = o) (hl : jm_lk o idx = (3, j, n, c)) (ha : (st.take n).reverse = as) (hr : st.drop n = jvr b :: rest) (hn : as.length = n) (hc : jm_o j = o1) (hf : jm_fit2 i j = true) (hw : jwd (jvr b :: as) ≤ jm_m j) : rn i (pc, lv, st, w) = jq_s (mS w b) (1, o1, 0) (jq_b (decide (jwd rest ≤ 8)) (jq_c i (pc + 3) lv rest (rn j (0, jas 0 (jvr b :: as), [], w)))) := by
  subst ho
  exact q_call0 hd rfl (by simp only [jm_ins, hl]) ha hr hn hc hf hw
theorem q_calls {j n : Nat} {c : Int} {as rest : List jmV} (hd : jm_dec i pc = .ok (.invokestatic idx, 3)) (ho : jm_o i = o) (hl : jm_lk o idx = (2, j, n, c)) (ha : (st.take n).reverse = as) (hr : st.drop n = rest) (hn : as.length = n) (hf : jm_fit2 i j = true) (hw : jwd as ≤ jm_m j) : rn i (pc, lv, st, w) = jq_b (decide (jwd rest ≤ 8)) (jq_c i (pc + 3) lv rest (rn j (0, jas 0 as, [], w))) := by
  subst ha hr ho
  have hf2 := of_decide_eq_true hf
  unfold jq_b
  by_cases h8 : jwd (st.drop n) ≤ 8
  · rw [if_pos (decide_eq_true h8)]
    refine rn_call (g := (pc + 3, lv, st.drop n, w)) ((q_step hd rfl).trans ?_)
    simp only [jm_ins, hl]
    unfold jm_call jm_fits
    rw [if_pos ⟨hn, decide_eq_true ⟨hf2.1, hf2.2, h8⟩, hw⟩]
  · rw [if_neg (by simpa using h8)]
    refine q_none hd rfl ?_
    simp only [jm_ins, hl]
    unfold jm_call jm_fits
    rw [if_neg (fun z => h8 (of_decide_eq_true z.2.1).2.2)]
theorem q_obj {a b b2 : Nat} {c : Int} (hd : jm_dec i pc = .ok (.invokespecial idx, 3)) (ho : jm_o i = o) (hl : jm_lk o idx = (4, b, b2, c)) (hf : 1 ≤ jm_f i ∧ 20 ≤ jm_l i) : rn i (pc, lv, jvr a :: st, w) = jq_s (mS w a) (1, o, 0) (jq_b (decide (jwd st ≤ 8)) (rn i (pc + 3, lv, st, w))) := by
  subst ho
  unfold jq_s jq_b
  by_cases h : mS w a = (1, jm_o i, 0)
  · rw [if_pos h]
    by_cases h8 : jwd st ≤ 8
    · rw [if_pos (decide_eq_true h8)]
      exact q_go hd rfl (by simp only [jm_ins, hl, jgo]; rw [if_pos ⟨h, h8, hf.1, hf.2⟩])
    · rw [if_neg (by simpa using h8)]
      exact q_none hd rfl (by simp only [jm_ins, hl]; rw [if_neg (fun z => h8 z.2.1)])
  · rw [if_neg h]
    exact q_none hd rfl (by simp only [jm_ins, hl]; rw [if_neg (fun z => h z.1)])
theorem q_strlen {a b b2 : Nat} {c : Int} (hd : jm_dec i pc = .ok (.invokevirtual idx, 3)) (ho : jm_o i = o) (hl : jm_lk o idx = (11, b, b2, c)) (hf : 4 ≤ jm_f i ∧ 90 ≤ jm_l i) : rn i (pc, lv, jvr a :: st, w) = jq_b (decide ((mS w a).1 = 3 ∧ jwd st ≤ 8)) (rn i (pc + 3, lv, .inl ((jst (mS w a).2.1).length : Nat) :: st, w)) := by
  subst ho
  unfold jq_b
  by_cases h : (mS w a).1 = 3 ∧ jwd st ≤ 8
  · rw [if_pos (decide_eq_true h)]
    exact q_go hd rfl (by simp only [jm_ins, hl, jgo]; rw [if_pos ⟨h.1, h.2, hf.1, hf.2⟩])
  · rw [if_neg (by simpa using h)]
    exact q_none hd rfl (by simp only [jm_ins, hl]; rw [if_neg (fun z => h ⟨z.1, z.2.1⟩)])
theorem q_strchar {a b b2 : Nat} {c j : Int} (hd : jm_dec i pc = .ok (.invokevirtual idx, 3)) (ho : jm_o i = o) (hl : jm_lk o idx = (12, b, b2, c)) (hf : 4 ≤ jm_f i ∧ 90 ≤ jm_l i) : rn i (pc, lv, .inl j :: jvr a :: st, w) = jq_b (decide ((mS w a).1 = 3 ∧ jwd st ≤ 8)) (jq_b (jin j (jst (mS w a).2.1).length) (rn i (pc + 3, lv, .inl ((jst (mS w a).2.1).getD (jix j) 0 : Nat) :: st, w))) := by
  subst ho
  unfold jq_b
  by_cases h : (mS w a).1 = 3 ∧ jwd st ≤ 8
  · rw [if_pos (decide_eq_true h)]
    by_cases h2 : jin j (jst (mS w a).2.1).length = true
    · rw [if_pos h2]
      exact q_go hd rfl (by simp only [jm_ins, hl, jgo]; rw [if_pos ⟨h.1, h.2, hf.1, hf.2, h2⟩])
    · rw [if_neg h2]
      exact q_none hd rfl (by simp only [jm_ins, hl]; rw [if_neg (fun z => h2 z.2.2.2.2)])
  · rw [if_neg (by simpa using h)]
    exact q_none hd rfl (by simp only [jm_ins, hl]; rw [if_neg (fun z => h ⟨z.1, z.2.1⟩)])
def jq_cp {α : Type} (sa sb : Nat × Nat × Nat) (n sp dp : Int) (k : Option α) : Option α := if sa.1 = 2 ∧ sa.2.1 = 0 ∧ sb.1 = 2 ∧ sb.2.1 = 0 ∧ 0 ≤ jw n ∧ 0 ≤ jw sp ∧ 0 ≤ jw dp ∧ jw sp + jw n ≤ sb.2.2 ∧ jw dp + jw n ≤ sa.2.2 then k else none
theorem q_copy {a b b1 b2 : Nat} {c n dp sp : Int} (hd : jm_dec i pc = .ok (.invokestatic idx, 3)) (ho : jm_o i = o) (hl : jm_lk o idx = (13, b1, b2, c)) (hf : 1 ≤ jm_f i ∧ 39 ≤ jm_l i) (hab : a ≠ b) (h8 : jwd st ≤ 8) : rn i (pc, lv, .inl n :: .inl dp :: jvr a :: .inl sp :: jvr b :: st, w) = jq_cp (mS w a) (mS w b) n sp dp (rn i (pc + 3, lv, st, cpyI w b (jix sp) a (jix dp) (jix n))) := by
  subst ho
  unfold jq_cp
  split
  · rename_i h
    exact q_go hd rfl (by simp only [jm_ins, hl, jgo]; rw [if_pos ⟨h.1, h.2.1, h.2.2.1, h.2.2.2.1, h.2.2.2.2.1, h.2.2.2.2.2.1, h.2.2.2.2.2.2.1, h.2.2.2.2.2.2.2.1, h.2.2.2.2.2.2.2.2, hab, h8, hf.1, hf.2⟩])
  · rename_i h
    exact q_none hd rfl (by simp only [jm_ins, hl]; rw [if_neg (fun z => h ⟨z.1, z.2.1, z.2.2.1, z.2.2.2.1, z.2.2.2.2.1, z.2.2.2.2.2.1, z.2.2.2.2.2.2.1, z.2.2.2.2.2.2.2.1, z.2.2.2.2.2.2.2.2.1⟩)])
theorem q_ireturn {x : Int} (hd : jm_dec i pc = .ok (.ireturn, 1)) (hr : jm_r i = some .int) : rn i (pc, lv, [.inl x], w) = some (some (.inl x), w) := q_ret hd rfl (by simp only [jm_ins, jrok, hr, if_true])
theorem q_zreturn {x : Int} (hd : jm_dec i pc = .ok (.ireturn, 1)) (hr : jm_r i = some .boolean) : rn i (pc, lv, [.inl x], w) = jq_b (decide (x = 0 ∨ x = 1)) (some (some (.inl x), w)) := by
  unfold jq_b
  by_cases h : x = 0 ∨ x = 1
  · rw [if_pos (decide_eq_true h)]
    exact q_ret hd rfl (by simp only [jm_ins, jrok, hr]; rw [if_pos (decide_eq_true h)])
  · rw [if_neg (by simpa using h)]
    exact q_none hd rfl (by simp only [jm_ins, jrok, hr]; rw [if_neg (by simpa using h)])
theorem q_lreturn {x : Int} (hd : jm_dec i pc = .ok (.lreturn, 1)) (hr : jm_r i = some .long) : rn i (pc, lv, [.inr (.inl x)], w) = some (some (.inr (.inl x)), w) := q_ret hd rfl (by simp only [jm_ins, hr, if_true])
theorem q_areturn {x : Option Nat} (hd : jm_dec i pc = .ok (.areturn, 1)) (hr : jm_r i = some (.object RX4)) : rn i (pc, lv, [.inr (.inr x)], w) = some (some (.inr (.inr x)), w) := q_ret hd rfl (by simp only [jm_ins, hr, if_true])
theorem q_return (hd : jm_dec i pc = .ok (.return_, 1)) (hr : jm_r i = none) : rn i (pc, lv, [], w) = some (none, w) := q_ret hd rfl (by simp only [jm_ins, hr, if_true])
def jq_t (z : Int) (offs : List (Int × Nat)) (d : Nat) : Nat := match offs.find? (fun q => q.1 == z) with
  | some q => q.2
  | none => d
theorem q_table {d lo hi x : Int} {offs : Array Int} {len tgt : Nat} (hd : jm_dec i pc = .ok (.tableswitch d lo hi offs, len)) (hx : jw x = lo ∨ lo < jw x) (hh : jw x ≤ hi) {off : Int} (hof : offs[(jw x - lo).toNat]? = some off) (ht : (pc : Int) + off = (tgt : Int)) : rn i (pc, lv, .inl x :: st, w) = rn i (tgt, lv, st, w) := by
  refine q_go hd rfl ?_
  simp only [jm_ins, hof]
  rw [if_neg (by omega), jbr_t ht]
  rfl
theorem q_tabled {d lo hi x : Int} {offs : Array Int} {len tgt : Nat} (hd : jm_dec i pc = .ok (.tableswitch d lo hi offs, len)) (hx : jw x < lo ∨ hi < jw x) (ht : (pc : Int) + d = (tgt : Int)) : rn i (pc, lv, .inl x :: st, w) = rn i (tgt, lv, st, w) := by
  refine q_go hd rfl ?_
  simp only [jm_ins]
  rw [if_pos hx, jbr_t ht]
  rfl
end RULEB
/-! Guards and reads whose continuation is named by its frame: nothing is walked before it is decided. -/
noncomputable def jq_ldi (i p : Nat) (lv : jmL) (st : List jmV) (w : jmW) (o : Option jmV) : Option (Option jmV × jmW) := jq_i o (fun x => rn i (p, lv, .inl x :: st, w))
noncomputable def jq_ldl (i p : Nat) (lv : jmL) (st : List jmV) (w : jmW) (o : Option jmV) : Option (Option jmV × jmW) := jq_l o (fun x => rn i (p, lv, .inr (.inl x) :: st, w))
noncomputable def jq_lda (i p : Nat) (lv : jmL) (st : List jmV) (w : jmW) (o : Option jmV) : Option (Option jmV × jmW) := jq_a o (fun x => rn i (p, lv, .inr (.inr x) :: st, w))
noncomputable def jq_inc (i p : Nat) (lv : jmL) (z : Nat) (n : Int) (st : List jmV) (w : jmW) (o : Option jmV) : Option (Option jmV × jmW) := jq_i o (fun x => rn i (p, js lv z (.inl (x + n)), st, w))
noncomputable def jq_gs (s t : Nat × Nat × Nat) (i p : Nat) (lv : jmL) (st : List jmV) (w : jmW) : Option (Option jmV × jmW) := jq_s s t (rn i (p, lv, st, w))
noncomputable def jq_gsb (s t : Nat × Nat × Nat) (b : Bool) (i p : Nat) (lv : jmL) (st : List jmV) (w : jmW) : Option (Option jmV × jmW) := jq_s s t (jq_b b (rn i (p, lv, st, w)))
noncomputable def jq_gb (b : Bool) (i p : Nat) (lv : jmL) (st : List jmV) (w : jmW) : Option (Option jmV × jmW) := jq_b b (rn i (p, lv, st, w))
noncomputable def jq_gr (s : Nat × Nat × Nat) (tag : Nat) (j : Int) (i p : Nat) (lv : jmL) (st : List jmV) (w : jmW) : Option (Option jmV × jmW) := jq_r s tag j (rn i (p, lv, st, w))
noncomputable def jq_gw (s : Nat × Nat × Nat) (tag : Nat) (j : Int) (i p : Nat) (lv : jmL) (st : List jmV) (w : jmW) : Option (Option jmV × jmW) := jq_w s tag j (rn i (p, lv, st, w))
noncomputable def jq_gn (n : Int) (i p : Nat) (lv : jmL) (st : List jmV) (w : jmW) : Option (Option jmV × jmW) := jq_n n (rn i (p, lv, st, w))
theorem jq_ldi_i (i p : Nat) (lv : jmL) (st : List jmV) (w : jmW) (x : Int) : jq_ldi i p lv st w (some (.inl x)) = rn i (p, lv, .inl x :: st, w) := rfl
theorem jq_ldl_l (i p : Nat) (lv : jmL) (st : List jmV) (w : jmW) (x : Int) : jq_ldl i p lv st w (some (.inr (.inl x))) = rn i (p, lv, .inr (.inl x) :: st, w) := rfl
theorem jq_lda_a (i p : Nat) (lv : jmL) (st : List jmV) (w : jmW) (x : Option Nat) : jq_lda i p lv st w (some (.inr (.inr x))) = rn i (p, lv, .inr (.inr x) :: st, w) := rfl
theorem jq_inc_i (i p : Nat) (lv : jmL) (z : Nat) (n : Int) (st : List jmV) (w : jmW) (x : Int) : jq_inc i p lv z n st w (some (.inl x)) = rn i (p, js lv z (.inl (x + n)), st, w) := rfl
theorem jq_gs_t (s : Nat × Nat × Nat) (i p : Nat) (lv : jmL) (st : List jmV) (w : jmW) : jq_gs s s i p lv st w = rn i (p, lv, st, w) := jq_s_t s _
theorem jq_gsb_t (s : Nat × Nat × Nat) (i p : Nat) (lv : jmL) (st : List jmV) (w : jmW) : jq_gsb s s true i p lv st w = rn i (p, lv, st, w) := jq_s_t s _
theorem jq_gb_t (i p : Nat) (lv : jmL) (st : List jmV) (w : jmW) : jq_gb true i p lv st w = rn i (p, lv, st, w) := rfl
theorem jq_gr_2 (tag n : Nat) (j : Int) (i p : Nat) (lv : jmL) (st : List jmV) (w : jmW) : jq_gr (2, tag, n) tag j i p lv st w = jq_gb (jin j n) i p lv st w := jq_r_2 tag n j _
theorem jq_gr_4 (tag n : Nat) (j : Int) (i p : Nat) (lv : jmL) (st : List jmV) (w : jmW) : jq_gr (4, tag, n) tag j i p lv st w = jq_gb (jin j n) i p lv st w := jq_r_4 tag n j _
theorem jq_gw_2 (tag n : Nat) (j : Int) (i p : Nat) (lv : jmL) (st : List jmV) (w : jmW) : jq_gw (2, tag, n) tag j i p lv st w = jq_gb (jin j n) i p lv st w := jq_w_2 tag n j _
theorem jq_gn_t {n : Int} (h1 : 0 ≤ n) (h2 : n ≤ 100000) (hw : jw n = n) (i p : Nat) (lv : jmL) (st : List jmV) (w : jmW) : jq_gn n i p lv st w = rn i (p, lv, st, w) := by
  unfold jq_gn jq_n
  rw [hw]
  exact if_pos ⟨h1, h2⟩
