/-! The small machine's steps as equations. -/
def jq_i {α : Type} (o : Option jmV) (k : Int → Option α) : Option α := match o with
  | some (.inl x) => k x
  | _ => none
def jq_l {α : Type} (o : Option jmV) (k : Int → Option α) : Option α := match o with
  | some (.inr (.inl x)) => k x
  | _ => none
def jq_a {α : Type} (o : Option jmV) (k : Option Nat → Option α) : Option α := match o with
  | some (.inr (.inr x)) => k x
  | _ => none
theorem jq_i_some {α : Type} (x : Int) (k : Int → Option α) : jq_i (some (.inl x)) k = k x := rfl
theorem jq_l_some {α : Type} (x : Int) (k : Int → Option α) : jq_l (some (.inr (.inl x))) k = k x := rfl
theorem jq_a_some {α : Type} (x : Option Nat) (k : Option Nat → Option α) : jq_a (some (.inr (.inr x))) k = k x := rfl
section RULES
variable {i pc : Nat} {lv : jmL} {st : List jmV} {w : jmW}
theorem q_step {ins : Instr} {len : Nat} (hd : jm_dec i pc = .ok (ins, len)) (hl : jm_lenok ins len = true) : jm_step i (pc, lv, st, w) = jm_ins i ins pc lv st w := by
  unfold jm_step
  simp only [hd, hl, if_true]
theorem q_go {ins : Instr} {len : Nat} {g : jmF} (hd : jm_dec i pc = .ok (ins, len)) (hl : jm_lenok ins len = true) (h : jm_ins i ins pc lv st w = some (.inl g)) : rn i (pc, lv, st, w) = rn i g := rn_go ((q_step hd hl).trans h)
theorem q_none {ins : Instr} {len : Nat} (hd : jm_dec i pc = .ok (ins, len)) (hl : jm_lenok ins len = true) (h : jm_ins i ins pc lv st w = none) : rn i (pc, lv, st, w) = none := by
  rw [rn_eq, jm_nx, q_step hd hl, h]
theorem q_ret {ins : Instr} {len : Nat} {r : Option jmV} (hd : jm_dec i pc = .ok (ins, len)) (hl : jm_lenok ins len = true) (h : jm_ins i ins pc lv st w = some (.inr (.inr r))) : rn i (pc, lv, st, w) = some (r, w) := rn_ret ((q_step hd hl).trans h)
theorem q_iconst {n : Int} (hd : jm_dec i pc = .ok (.iconst n, 1)) : rn i (pc, lv, st, w) = rn i (pc + 1, lv, .inl n :: st, w) := q_go hd rfl rfl
theorem q_bipush {n v : Int} (hd : jm_dec i pc = .ok (.bipush n, 2)) (hv : (Int8.ofInt n).toInt = v) : rn i (pc, lv, st, w) = rn i (pc + 2, lv, .inl v :: st, w) := by
  subst hv
  exact q_go hd rfl rfl
theorem q_sipush {n v : Int} (hd : jm_dec i pc = .ok (.sipush n, 3)) (hv : (Int16.ofInt n).toInt = v) : rn i (pc, lv, st, w) = rn i (pc + 3, lv, .inl v :: st, w) := by
  subst hv
  exact q_go hd rfl rfl
theorem q_lconst {n : Fin 2} {v : Int} (hd : jm_dec i pc = .ok (.lconst n, 1)) (hv : ((n : Nat) : Int) = v) : rn i (pc, lv, st, w) = rn i (pc + 1, lv, .inr (.inl v) :: st, w) := by
  subst hv
  exact q_go hd rfl rfl
theorem q_null (hd : jm_dec i pc = .ok (.aconst_null, 1)) : rn i (pc, lv, st, w) = rn i (pc + 1, lv, .inr (.inr none) :: st, w) := q_go hd rfl rfl
theorem q_iload_n {k : Fin 4} {z : Nat} (hd : jm_dec i pc = .ok (.iload_n k, 1)) (hz : (k : Nat) = z) : rn i (pc, lv, st, w) = jq_i (jg lv z) (fun x => rn i (pc + 1, lv, .inl x :: st, w)) := by
  subst hz
  unfold jq_i
  split
  · rename_i x h
    exact q_go hd rfl (by simp only [jm_ins, h, jgo])
  · rename_i h
    refine q_none hd rfl ?_
    simp only [jm_ins]
theorem q_iload {z : Nat} (hd : jm_dec i pc = .ok (.iload z, 2)) : rn i (pc, lv, st, w) = jq_i (jg lv z) (fun x => rn i (pc + 2, lv, .inl x :: st, w)) := by
  unfold jq_i
  split
  · rename_i x h
    exact q_go hd rfl (by simp only [jm_ins, h, jgo])
  · rename_i h
    refine q_none hd rfl ?_
    simp only [jm_ins]
theorem q_lload_n {k : Fin 4} {z : Nat} (hd : jm_dec i pc = .ok (.lload_n k, 1)) (hz : (k : Nat) = z) : rn i (pc, lv, st, w) = jq_l (jg lv z) (fun x => rn i (pc + 1, lv, .inr (.inl x) :: st, w)) := by
  subst hz
  unfold jq_l
  split
  · rename_i x h
    exact q_go hd rfl (by simp only [jm_ins, h, jgo])
  · rename_i h
    refine q_none hd rfl ?_
    simp only [jm_ins]
theorem q_aload_n {k : Fin 4} {z : Nat} (hd : jm_dec i pc = .ok (.aload_n k, 1)) (hz : (k : Nat) = z) : rn i (pc, lv, st, w) = jq_a (jg lv z) (fun x => rn i (pc + 1, lv, .inr (.inr x) :: st, w)) := by
  subst hz
  unfold jq_a
  split
  · rename_i x h
    exact q_go hd rfl (by simp only [jm_ins, h, jgo])
  · rename_i h
    refine q_none hd rfl ?_
    simp only [jm_ins]
theorem q_aload {z : Nat} (hd : jm_dec i pc = .ok (.aload z, 2)) : rn i (pc, lv, st, w) = jq_a (jg lv z) (fun x => rn i (pc + 2, lv, .inr (.inr x) :: st, w)) := by
  unfold jq_a
  split
  · rename_i x h
    exact q_go hd rfl (by simp only [jm_ins, h, jgo])
  · rename_i h
    refine q_none hd rfl ?_
    simp only [jm_ins]
theorem q_istore_n {k : Fin 4} {z : Nat} {x : Int} (hd : jm_dec i pc = .ok (.istore_n k, 1)) (hz : (k : Nat) = z) (hm : z < jm_m i) : rn i (pc, lv, .inl x :: st, w) = rn i (pc + 1, js lv z (.inl x), st, w) := by
  subst hz
  exact q_go hd rfl (by simp only [jm_ins, jgo, if_pos hm])
theorem q_istore {z : Nat} {x : Int} (hd : jm_dec i pc = .ok (.istore z, 2)) (hm : z < jm_m i) : rn i (pc, lv, .inl x :: st, w) = rn i (pc + 2, js lv z (.inl x), st, w) := q_go hd rfl (by simp only [jm_ins, jgo, if_pos hm])
theorem q_lstore_n {k : Fin 4} {z : Nat} {x : Int} (hd : jm_dec i pc = .ok (.lstore_n k, 1)) (hz : (k : Nat) = z) (hm : z + 1 < jm_m i) : rn i (pc, lv, .inr (.inl x) :: st, w) = rn i (pc + 1, js (jrm lv (z + 1)) z (.inr (.inl x)), st, w) := by
  subst hz
  exact q_go hd rfl (by simp only [jm_ins, jgo, if_pos hm])
theorem q_astore_n {k : Fin 4} {z : Nat} {x : Option Nat} (hd : jm_dec i pc = .ok (.astore_n k, 1)) (hz : (k : Nat) = z) (hm : z < jm_m i) : rn i (pc, lv, .inr (.inr x) :: st, w) = rn i (pc + 1, js lv z (.inr (.inr x)), st, w) := by
  subst hz
  exact q_go hd rfl (by simp only [jm_ins, jgo, if_pos hm])
theorem q_astore {z : Nat} {x : Option Nat} (hd : jm_dec i pc = .ok (.astore z, 2)) (hm : z < jm_m i) : rn i (pc, lv, .inr (.inr x) :: st, w) = rn i (pc + 2, js lv z (.inr (.inr x)), st, w) := q_go hd rfl (by simp only [jm_ins, jgo, if_pos hm])
theorem q_iinc {z : Nat} {n : Int} (hd : jm_dec i pc = .ok (.iinc z n, 3)) (hm : z < jm_m i) : rn i (pc, lv, st, w) = jq_i (jg lv z) (fun x => rn i (pc + 3, js lv z (.inl (x + n)), st, w)) := by
  unfold jq_i
  split
  · rename_i x h
    exact q_go hd rfl (by simp only [jm_ins, h, jgo, if_pos hm])
  · rename_i h
    refine q_none hd rfl ?_
    simp only [jm_ins]
theorem q_dup_i {x : Int} (hd : jm_dec i pc = .ok (.dup, 1)) : rn i (pc, lv, .inl x :: st, w) = rn i (pc + 1, lv, .inl x :: .inl x :: st, w) := q_go hd rfl rfl
theorem q_dup_a {x : Option Nat} (hd : jm_dec i pc = .ok (.dup, 1)) : rn i (pc, lv, .inr (.inr x) :: st, w) = rn i (pc + 1, lv, .inr (.inr x) :: .inr (.inr x) :: st, w) := q_go hd rfl rfl
theorem q_dup2 {y : Int} {x : Option Nat} (hd : jm_dec i pc = .ok (.dup2, 1)) : rn i (pc, lv, .inl y :: .inr (.inr x) :: st, w) = rn i (pc + 1, lv, .inl y :: .inr (.inr x) :: .inl y :: .inr (.inr x) :: st, w) := q_go hd rfl (by simp [jm_ins, jgo, j2])
theorem q_pop {x : Int} (hd : jm_dec i pc = .ok (.pop, 1)) : rn i (pc, lv, .inl x :: st, w) = rn i (pc + 1, lv, st, w) := q_go hd rfl rfl
theorem q_iadd {x y : Int} (hd : jm_dec i pc = .ok (.iadd, 1)) : rn i (pc, lv, .inl y :: .inl x :: st, w) = rn i (pc + 1, lv, .inl (x + y) :: st, w) := q_go hd rfl rfl
theorem q_isub {x y : Int} (hd : jm_dec i pc = .ok (.isub, 1)) : rn i (pc, lv, .inl y :: .inl x :: st, w) = rn i (pc + 1, lv, .inl (x - y) :: st, w) := q_go hd rfl rfl
theorem q_imul {x y : Int} (hd : jm_dec i pc = .ok (.imul, 1)) : rn i (pc, lv, .inl y :: .inl x :: st, w) = rn i (pc + 1, lv, .inl (x * y) :: st, w) := q_go hd rfl rfl
theorem q_idiv {x y : Int} (hd : jm_dec i pc = .ok (.idiv, 1)) : rn i (pc, lv, .inl y :: .inl x :: st, w) = if jw y = 0 then none else rn i (pc + 1, lv, .inl ((jw x).tdiv (jw y)) :: st, w) := by
  split
  · rename_i h
    exact q_none hd rfl (by simp only [jm_ins, if_pos h])
  · rename_i h
    exact q_go hd rfl (by simp only [jm_ins, if_neg h, jgo])
theorem q_irem {x y : Int} (hd : jm_dec i pc = .ok (.irem, 1)) : rn i (pc, lv, .inl y :: .inl x :: st, w) = if jw y = 0 then none else rn i (pc + 1, lv, .inl ((jw x).tmod (jw y)) :: st, w) := by
  split
  · rename_i h
    exact q_none hd rfl (by simp only [jm_ins, if_pos h])
  · rename_i h
    exact q_go hd rfl (by simp only [jm_ins, if_neg h, jgo])
theorem q_iand {x y : Int} (hd : jm_dec i pc = .ok (.iand, 1)) : rn i (pc, lv, .inl y :: .inl x :: st, w) = rn i (pc + 1, lv, .inl (ji_and x y) :: st, w) := q_go hd rfl rfl
theorem q_ior {x y : Int} (hd : jm_dec i pc = .ok (.ior, 1)) : rn i (pc, lv, .inl y :: .inl x :: st, w) = rn i (pc + 1, lv, .inl (ji_or x y) :: st, w) := q_go hd rfl rfl
theorem q_ixor {x y : Int} (hd : jm_dec i pc = .ok (.ixor, 1)) : rn i (pc, lv, .inl y :: .inl x :: st, w) = rn i (pc + 1, lv, .inl (ji_xor x y) :: st, w) := q_go hd rfl rfl
theorem q_ishl {x y : Int} (hd : jm_dec i pc = .ok (.ishl, 1)) : rn i (pc, lv, .inl y :: .inl x :: st, w) = rn i (pc + 1, lv, .inl (ji_shl x y) :: st, w) := q_go hd rfl rfl
theorem q_ishr {x y : Int} (hd : jm_dec i pc = .ok (.ishr, 1)) : rn i (pc, lv, .inl y :: .inl x :: st, w) = rn i (pc + 1, lv, .inl (ji_shr x y) :: st, w) := q_go hd rfl rfl
theorem q_iushr {x y : Int} (hd : jm_dec i pc = .ok (.iushr, 1)) : rn i (pc, lv, .inl y :: .inl x :: st, w) = rn i (pc + 1, lv, .inl (ji_ushr x y) :: st, w) := q_go hd rfl rfl
theorem q_ineg {x : Int} (hd : jm_dec i pc = .ok (.ineg, 1)) : rn i (pc, lv, .inl x :: st, w) = rn i (pc + 1, lv, .inl (-x) :: st, w) := q_go hd rfl rfl
theorem q_i2c {x : Int} (hd : jm_dec i pc = .ok (.i2c, 1)) : rn i (pc, lv, .inl x :: st, w) = rn i (pc + 1, lv, .inl (ji_c x) :: st, w) := q_go hd rfl rfl
theorem q_i2b {x : Int} (hd : jm_dec i pc = .ok (.i2b, 1)) : rn i (pc, lv, .inl x :: st, w) = rn i (pc + 1, lv, .inl (ji_b x) :: st, w) := q_go hd rfl rfl
theorem q_i2l {x : Int} (hd : jm_dec i pc = .ok (.i2l, 1)) : rn i (pc, lv, .inl x :: st, w) = rn i (pc + 1, lv, .inr (.inl (jw x)) :: st, w) := q_go hd rfl rfl
theorem q_l2i {x : Int} (hd : jm_dec i pc = .ok (.l2i, 1)) : rn i (pc, lv, .inr (.inl x) :: st, w) = rn i (pc + 1, lv, .inl x :: st, w) := q_go hd rfl rfl
theorem q_ladd {x y : Int} (hd : jm_dec i pc = .ok (.ladd, 1)) : rn i (pc, lv, .inr (.inl y) :: .inr (.inl x) :: st, w) = rn i (pc + 1, lv, .inr (.inl (x + y)) :: st, w) := q_go hd rfl rfl
theorem q_lmul {x y : Int} (hd : jm_dec i pc = .ok (.lmul, 1)) : rn i (pc, lv, .inr (.inl y) :: .inr (.inl x) :: st, w) = rn i (pc + 1, lv, .inr (.inl (x * y)) :: st, w) := q_go hd rfl rfl
theorem q_lrem {x y : Int} (hd : jm_dec i pc = .ok (.lrem, 1)) : rn i (pc, lv, .inr (.inl y) :: .inr (.inl x) :: st, w) = if jwl y = 0 then none else rn i (pc + 1, lv, .inr (.inl ((jwl x).tmod (jwl y))) :: st, w) := by
  split
  · rename_i h
    exact q_none hd rfl (by simp only [jm_ins, if_pos h])
  · rename_i h
    exact q_go hd rfl (by simp only [jm_ins, if_neg h, jgo])
theorem q_lcmp {x y : Int} (hd : jm_dec i pc = .ok (.lcmp, 1)) : rn i (pc, lv, .inr (.inl y) :: .inr (.inl x) :: st, w) = rn i (pc + 1, lv, .inl (if jwl x < jwl y then -1 else if jwl x = jwl y then 0 else 1) :: st, w) := q_go hd rfl rfl
theorem jbr_t {pc tgt : Nat} {off : Int} {n : Nat} {b : Bool} (ht : (pc : Int) + off = (tgt : Int)) : jbr pc off n b lv st w = some (.inl (if b = true then tgt else pc + n, lv, st, w)) := by
  have h2 : jtg pc off = tgt := by unfold jtg; omega
  unfold jbr jgo
  rw [if_pos (by omega), h2]
theorem q_goto {off : Int} {tgt : Nat} (hd : jm_dec i pc = .ok (.goto off, 3)) (ht : (pc : Int) + off = (tgt : Int)) : rn i (pc, lv, st, w) = rn i (tgt, lv, st, w) := by
  refine q_go hd rfl ?_
  show jbr pc off 3 true lv st w = _
  rw [jbr_t ht]
  rfl
theorem q_br {ins : Instr} {off : Int} {tgt : Nat} {b : Bool} {st' : List jmV} {c : Prop} [Decidable c] (hd : jm_dec i pc = .ok (ins, 3)) (hl : jm_lenok ins 3 = true) (hi : jm_ins i ins pc lv st w = jbr pc off 3 b lv st' w) (ht : (pc : Int) + off = (tgt : Int)) (hc : b = true ↔ c) : rn i (pc, lv, st, w) = if c then rn i (tgt, lv, st', w) else rn i (pc + 3, lv, st', w) := by
  have h := q_go (g := (if b = true then tgt else pc + 3, lv, st', w)) hd hl (hi.trans (jbr_t ht))
  rw [h]
  by_cases hb : b = true
  · rw [if_pos hb, if_pos (hc.mp hb)]
  · rw [if_neg hb, if_neg (fun z => hb (hc.mpr z))]
theorem q_icmp_eq {off x y : Int} {tgt : Nat} (hd : jm_dec i pc = .ok (.if_icmp .eq off, 3)) (ht : (pc : Int) + off = (tgt : Int)) : rn i (pc, lv, .inl y :: .inl x :: st, w) = if jw x = jw y then rn i (tgt, lv, st, w) else rn i (pc + 3, lv, st, w) := q_br hd rfl rfl ht decide_eq_true_iff
theorem q_icmp_ne {off x y : Int} {tgt : Nat} (hd : jm_dec i pc = .ok (.if_icmp .ne off, 3)) (ht : (pc : Int) + off = (tgt : Int)) : rn i (pc, lv, .inl y :: .inl x :: st, w) = if jw x = jw y then rn i (pc + 3, lv, st, w) else rn i (tgt, lv, st, w) := by
  rw [q_br (c := ¬ jw x = jw y) hd rfl rfl ht decide_eq_true_iff]
  by_cases h : jw x = jw y <;> simp [h]
theorem q_icmp_lt {off x y : Int} {tgt : Nat} (hd : jm_dec i pc = .ok (.if_icmp .lt off, 3)) (ht : (pc : Int) + off = (tgt : Int)) : rn i (pc, lv, .inl y :: .inl x :: st, w) = if jw x < jw y then rn i (tgt, lv, st, w) else rn i (pc + 3, lv, st, w) := q_br hd rfl rfl ht decide_eq_true_iff
theorem q_icmp_ge {off x y : Int} {tgt : Nat} (hd : jm_dec i pc = .ok (.if_icmp .ge off, 3)) (ht : (pc : Int) + off = (tgt : Int)) : rn i (pc, lv, .inl y :: .inl x :: st, w) = if jw x < jw y then rn i (pc + 3, lv, st, w) else rn i (tgt, lv, st, w) := by
  rw [q_br (c := jw y ≤ jw x) hd rfl rfl ht decide_eq_true_iff]
  by_cases h : jw x < jw y
  · rw [if_pos h, if_neg (by omega)]
  · rw [if_neg h, if_pos (by omega)]
theorem q_icmp_gt {off x y : Int} {tgt : Nat} (hd : jm_dec i pc = .ok (.if_icmp .gt off, 3)) (ht : (pc : Int) + off = (tgt : Int)) : rn i (pc, lv, .inl y :: .inl x :: st, w) = if jw y < jw x then rn i (tgt, lv, st, w) else rn i (pc + 3, lv, st, w) := q_br hd rfl rfl ht decide_eq_true_iff
theorem q_icmp_le {off x y : Int} {tgt : Nat} (hd : jm_dec i pc = .ok (.if_icmp .le off, 3)) (ht : (pc : Int) + off = (tgt : Int)) : rn i (pc, lv, .inl y :: .inl x :: st, w) = if jw y < jw x then rn i (pc + 3, lv, st, w) else rn i (tgt, lv, st, w) := by
  rw [q_br (c := jw x ≤ jw y) hd rfl rfl ht decide_eq_true_iff]
  by_cases h : jw y < jw x
  · rw [if_pos h, if_neg (by omega)]
  · rw [if_neg h, if_pos (by omega)]
theorem q_if_eq {off x : Int} {tgt : Nat} (hd : jm_dec i pc = .ok (.ifCond .eq off, 3)) (ht : (pc : Int) + off = (tgt : Int)) : rn i (pc, lv, .inl x :: st, w) = if jw x = 0 then rn i (tgt, lv, st, w) else rn i (pc + 3, lv, st, w) := q_br hd rfl rfl ht decide_eq_true_iff
theorem q_if_ne {off x : Int} {tgt : Nat} (hd : jm_dec i pc = .ok (.ifCond .ne off, 3)) (ht : (pc : Int) + off = (tgt : Int)) : rn i (pc, lv, .inl x :: st, w) = if jw x = 0 then rn i (pc + 3, lv, st, w) else rn i (tgt, lv, st, w) := by
  rw [q_br (c := ¬ jw x = 0) hd rfl rfl ht decide_eq_true_iff]
  by_cases h : jw x = 0 <;> simp [h]
theorem q_if_lt {off x : Int} {tgt : Nat} (hd : jm_dec i pc = .ok (.ifCond .lt off, 3)) (ht : (pc : Int) + off = (tgt : Int)) : rn i (pc, lv, .inl x :: st, w) = if jw x < 0 then rn i (tgt, lv, st, w) else rn i (pc + 3, lv, st, w) := q_br hd rfl rfl ht decide_eq_true_iff
theorem q_if_ge {off x : Int} {tgt : Nat} (hd : jm_dec i pc = .ok (.ifCond .ge off, 3)) (ht : (pc : Int) + off = (tgt : Int)) : rn i (pc, lv, .inl x :: st, w) = if jw x < 0 then rn i (pc + 3, lv, st, w) else rn i (tgt, lv, st, w) := by
  rw [q_br (c := 0 ≤ jw x) hd rfl rfl ht decide_eq_true_iff]
  by_cases h : jw x < 0
  · rw [if_pos h, if_neg (by omega)]
  · rw [if_neg h, if_pos (by omega)]
theorem q_if_gt {off x : Int} {tgt : Nat} (hd : jm_dec i pc = .ok (.ifCond .gt off, 3)) (ht : (pc : Int) + off = (tgt : Int)) : rn i (pc, lv, .inl x :: st, w) = if 0 < jw x then rn i (tgt, lv, st, w) else rn i (pc + 3, lv, st, w) := q_br hd rfl rfl ht decide_eq_true_iff
theorem q_if_le {off x : Int} {tgt : Nat} (hd : jm_dec i pc = .ok (.ifCond .le off, 3)) (ht : (pc : Int) + off = (tgt : Int)) : rn i (pc, lv, .inl x :: st, w) = if 0 < jw x then rn i (pc + 3, lv, st, w) else rn i (tgt, lv, st, w) := by
  rw [q_br (c := jw x ≤ 0) hd rfl rfl ht decide_eq_true_iff]
  by_cases h : 0 < jw x
  · rw [if_pos h, if_neg (by omega)]
  · rw [if_neg h, if_pos (by omega)]
theorem q_ifnull_n {off : Int} {tgt : Nat} (hd : jm_dec i pc = .ok (.ifnull off, 3)) (ht : (pc : Int) + off = (tgt : Int)) : rn i (pc, lv, .inr (.inr none) :: st, w) = rn i (tgt, lv, st, w) := by
  rw [q_br (c := True) hd rfl rfl ht (by simp)]
  exact if_pos trivial
theorem q_ifnull_s {off : Int} {tgt a : Nat} (hd : jm_dec i pc = .ok (.ifnull off, 3)) (ht : (pc : Int) + off = (tgt : Int)) : rn i (pc, lv, .inr (.inr (some a)) :: st, w) = rn i (pc + 3, lv, st, w) := by
  rw [q_br (c := False) hd rfl rfl ht (by simp)]
  exact if_neg (fun z => z)
theorem q_ifnonnull_n {off : Int} {tgt : Nat} (hd : jm_dec i pc = .ok (.ifnonnull off, 3)) (ht : (pc : Int) + off = (tgt : Int)) : rn i (pc, lv, .inr (.inr none) :: st, w) = rn i (pc + 3, lv, st, w) := by
  rw [q_br (c := False) hd rfl rfl ht (by simp)]
  exact if_neg (fun z => z)
theorem q_ifnonnull_s {off : Int} {tgt a : Nat} (hd : jm_dec i pc = .ok (.ifnonnull off, 3)) (ht : (pc : Int) + off = (tgt : Int)) : rn i (pc, lv, .inr (.inr (some a)) :: st, w) = rn i (tgt, lv, st, w) := by
  rw [q_br (c := True) hd rfl rfl ht (by simp)]
  exact if_pos trivial
end RULES
